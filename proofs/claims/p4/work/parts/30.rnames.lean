def tyX12 : Nat → FieldType := fun k => match k with
  | 0 => .array .int
  | 1 => .int
  | 2 => .int
  | 3 => .int
  | 4 => .array (.array .int)
  | 5 => .int
  | 6 => .array .int
  | 7 => .array .int
  | 8 => .array .byte
  | 9 => .array .byte
  | 10 => .int
  | 11 => .int
  | 12 => .int
  | 13 => .int
  | 14 => .int
  | 15 => .int
  | 16 => .int
  | 17 => .int
  | 18 => .int
  | 19 => .int
  | 20 => .int
  | 21 => .int
  | 22 => .int
  | 23 => .array .int
  | 24 => .array .int
  | 25 => .array .boolean
  | 26 => .array .int
  | 27 => .array (.array (.array .long))
  | 28 => .array .long
  | 29 => .array .byte
  | _ => .int
abbrev wsX120 : List Cond := u_ws RX12 TX12 31
theorem nmX12 : ∀ a, a < 31 → ∀ b, b < 31 → a ≠ b → (TX12 a).2.1 ≠ (TX12 b).2.1 := by decide +kernel
theorem tyX12_ok : ∀ k, k < 31 → parseFieldDescriptor (TX12 k).2.2.1 = some (tyX12 k) := by decide +kernel
abbrev cX12_status : ByteArray := prog_14_method_2_code
def yX12_status : MethodName := ⟨RX12, "status", "()I"⟩
abbrev cX12_refuse : ByteArray := prog_14_method_3_code
def yX12_refuse : MethodName := ⟨RX12, "refuse", "(I)I"⟩
abbrev cX12_gives : ByteArray := prog_14_method_4_code
def yX12_gives : MethodName := ⟨RX12, "gives", "(I)I"⟩
abbrev cX12_gives_ : ByteArray := prog_14_method_5_code
def yX12_gives_ : MethodName := ⟨RX12, "gives", "(J)J"⟩
abbrev cX12_isFrom : ByteArray := prog_14_method_6_code
def yX12_isFrom : MethodName := ⟨RX12, "isFrom", "(III)Z"⟩
abbrev cX12_of : ByteArray := prog_14_method_7_code
def yX12_of : MethodName := ⟨RX12, "of", "(I)I"⟩
abbrev cX12_copies : ByteArray := prog_14_method_8_code
def yX12_copies : MethodName := ⟨RX12, "copies", "(II)V"⟩
abbrev cX12_isVertex : ByteArray := prog_14_method_9_code
def yX12_isVertex : MethodName := ⟨RX12, "isVertex", "(I)Z"⟩
abbrev cX12_isEdge : ByteArray := prog_14_method_10_code
def yX12_isEdge : MethodName := ⟨RX12, "isEdge", "(I)Z"⟩
abbrev cX12_isWord : ByteArray := prog_14_method_11_code
def yX12_isWord : MethodName := ⟨RX12, "isWord", "(I)Z"⟩
abbrev cX12_orderAt : ByteArray := prog_14_method_12_code
def yX12_orderAt : MethodName := ⟨RX12, "orderAt", "(I)I"⟩
abbrev cX12_ofEdge : ByteArray := prog_14_method_13_code
def yX12_ofEdge : MethodName := ⟨RX12, "ofEdge", "(II)I"⟩
abbrev cX12_from : ByteArray := prog_14_method_14_code
def yX12_from : MethodName := ⟨RX12, "from", "(I)I"⟩
abbrev cX12_by : ByteArray := prog_14_method_15_code
def yX12_by : MethodName := ⟨RX12, "by", "(I)I"⟩
abbrev cX12_to : ByteArray := prog_14_method_16_code
def yX12_to : MethodName := ⟨RX12, "to", "(I)I"⟩
abbrev cX12_into : ByteArray := prog_14_method_17_code
def yX12_into : MethodName := ⟨RX12, "into", "(I)I"⟩
abbrev cX12_round : ByteArray := prog_14_method_18_code
def yX12_round : MethodName := ⟨RX12, "round", "(II)I"⟩
abbrev cX12_number : ByteArray := prog_14_method_19_code
def yX12_number : MethodName := ⟨RX12, "number", "([II)I"⟩
abbrev cX12_step : ByteArray := prog_14_method_20_code
def yX12_step : MethodName := ⟨RX12, "step", "([II)I"⟩
abbrev cX12_last : ByteArray := prog_14_method_21_code
def yX12_last : MethodName := ⟨RX12, "last", "([I)I"⟩
abbrev cX12_end : ByteArray := prog_14_method_22_code
def yX12_end : MethodName := ⟨RX12, "end", "([I)I"⟩
abbrev cX12_takes : ByteArray := prog_14_method_23_code
def yX12_takes : MethodName := ⟨RX12, "takes", "(I[I)V"⟩
abbrev cX12_lays : ByteArray := prog_14_method_24_code
def yX12_lays : MethodName := ⟨RX12, "lays", "([I[I)V"⟩
abbrev cX12_single : ByteArray := prog_14_method_25_code
def yX12_single : MethodName := ⟨RX12, "single", "([III)V"⟩
abbrev cX12_goes : ByteArray := prog_14_method_26_code
def yX12_goes : MethodName := ⟨RX12, "goes", "([III)V"⟩
abbrev cX12_forms : ByteArray := prog_14_method_27_code
def yX12_forms : MethodName := ⟨RX12, "forms", "([I[I)V"⟩
abbrev cX12_isLike : ByteArray := prog_14_method_28_code
def yX12_isLike : MethodName := ⟨RX12, "isLike", "([I[I)Z"⟩
abbrev cX12_joins : ByteArray := prog_14_method_29_code
def yX12_joins : MethodName := ⟨RX12, "joins", "([I[I[I)V"⟩
abbrev cX12_turns : ByteArray := prog_14_method_30_code
def yX12_turns : MethodName := ⟨RX12, "turns", "([I[I)V"⟩
abbrev cX12_isLoop : ByteArray := prog_14_method_31_code
def yX12_isLoop : MethodName := ⟨RX12, "isLoop", "(I)Z"⟩
abbrev cX12_cores : ByteArray := prog_14_method_32_code
def yX12_cores : MethodName := ⟨RX12, "cores", "([I)V"⟩
abbrev cX12_coreOf : ByteArray := prog_14_method_33_code
def yX12_coreOf : MethodName := ⟨RX12, "coreOf", "(I[I)V"⟩
abbrev cX12_feed : ByteArray := prog_14_method_34_code
def yX12_feed : MethodName := ⟨RX12, "feed", "(IIIII)I"⟩
abbrev cX12_four : ByteArray := prog_14_method_35_code
def yX12_four : MethodName := ⟨RX12, "four", "(I)V"⟩
abbrev cX12_byteAt : ByteArray := prog_14_method_36_code
def yX12_byteAt : MethodName := ⟨RX12, "byteAt", "(I)I"⟩
abbrev cX12_isSmall : ByteArray := prog_14_method_37_code
def yX12_isSmall : MethodName := ⟨RX12, "isSmall", "(I)Z"⟩
abbrev cX12_isDigit : ByteArray := prog_14_method_38_code
def yX12_isDigit : MethodName := ⟨RX12, "isDigit", "(I)Z"⟩
abbrev cX12_ahead : ByteArray := prog_14_method_39_code
def yX12_ahead : MethodName := ⟨RX12, "ahead", "()V"⟩
abbrev cX12_key : ByteArray := prog_14_method_40_code
def yX12_key : MethodName := ⟨RX12, "key", "()I"⟩
abbrev cX12_fails : ByteArray := prog_14_method_41_code
def yX12_fails : MethodName := ⟨RX12, "fails", "(I)Z"⟩
abbrev cX12_takesOn : ByteArray := prog_14_method_42_code
def yX12_takesOn : MethodName := ⟨RX12, "takesOn", "()Z"⟩
abbrev cX12_isNumber : ByteArray := prog_14_method_43_code
def yX12_isNumber : MethodName := ⟨RX12, "isNumber", "()Z"⟩
abbrev cX12_aVertex : ByteArray := prog_14_method_44_code
def yX12_aVertex : MethodName := ⟨RX12, "aVertex", "()Z"⟩
abbrev cX12_aSide : ByteArray := prog_14_method_45_code
def yX12_aSide : MethodName := ⟨RX12, "aSide", "(I)Z"⟩
abbrev cX12_anEdge : ByteArray := prog_14_method_46_code
def yX12_anEdge : MethodName := ⟨RX12, "anEdge", "()Z"⟩
abbrev cX12_someNumber : ByteArray := prog_14_method_47_code
def yX12_someNumber : MethodName := ⟨RX12, "someNumber", "(I)I"⟩
abbrev cX12_aStep : ByteArray := prog_14_method_48_code
def yX12_aStep : MethodName := ⟨RX12, "aStep", "([I)Z"⟩
abbrev cX12_keeps : ByteArray := prog_14_method_49_code
def yX12_keeps : MethodName := ⟨RX12, "keeps", "([I)V"⟩
abbrev cX12_aWord : ByteArray := prog_14_method_50_code
def yX12_aWord : MethodName := ⟨RX12, "aWord", "()Z"⟩
abbrev cX12_aLine : ByteArray := prog_14_method_51_code
def yX12_aLine : MethodName := ⟨RX12, "aLine", "()Z"⟩
abbrev cX12_load : ByteArray := prog_14_method_52_code
def yX12_load : MethodName := ⟨RX12, "load", "(I)I"⟩
abbrev cX12_fault : ByteArray := prog_14_method_53_code
def yX12_fault : MethodName := ⟨RX12, "fault", "(I)I"⟩
abbrev cX12_partOf : ByteArray := prog_14_method_54_code
def yX12_partOf : MethodName := ⟨RX12, "partOf", "(I)I"⟩
abbrev cX12_parts : ByteArray := prog_14_method_55_code
def yX12_parts : MethodName := ⟨RX12, "parts", "()I"⟩
abbrev cX12_many : ByteArray := prog_14_method_56_code
def yX12_many : MethodName := ⟨RX12, "many", "(I)I"⟩
abbrev cX12_order : ByteArray := prog_14_method_57_code
def yX12_order : MethodName := ⟨RX12, "order", "(I)I"⟩
abbrev cX12_edge : ByteArray := prog_14_method_58_code
def yX12_edge : MethodName := ⟨RX12, "edge", "(II)I"⟩
abbrev cX12_word : ByteArray := prog_14_method_59_code
def yX12_word : MethodName := ⟨RX12, "word", "(II)I"⟩
abbrev cX12_number_ : ByteArray := prog_14_method_60_code
def yX12_number_ : MethodName := ⟨RX12, "number", "(II)I"⟩
abbrev cX12_step_ : ByteArray := prog_14_method_61_code
def yX12_step_ : MethodName := ⟨RX12, "step", "(II)I"⟩
abbrev cX12_acted : ByteArray := prog_14_method_62_code
def yX12_acted : MethodName := ⟨RX12, "acted", "(I)V"⟩
abbrev cX12_more : ByteArray := prog_14_method_63_code
def yX12_more : MethodName := ⟨RX12, "more", "([I)I"⟩
abbrev cX12_take : ByteArray := prog_14_method_64_code
def yX12_take : MethodName := ⟨RX12, "take", "(II)I"⟩
abbrev cX12_form : ByteArray := prog_14_method_65_code
def yX12_form : MethodName := ⟨RX12, "form", "(I)I"⟩
abbrev cX12_times : ByteArray := prog_14_method_66_code
def yX12_times : MethodName := ⟨RX12, "times", "(II)I"⟩
abbrev cX12_turned : ByteArray := prog_14_method_67_code
def yX12_turned : MethodName := ⟨RX12, "turned", "(I)I"⟩
abbrev cX12_power : ByteArray := prog_14_method_68_code
def yX12_power : MethodName := ⟨RX12, "power", "(II)I"⟩
abbrev cX12_wrongLoop : ByteArray := prog_14_method_69_code
def yX12_wrongLoop : MethodName := ⟨RX12, "wrongLoop", "(I)I"⟩
abbrev cX12_core : ByteArray := prog_14_method_70_code
def yX12_core : MethodName := ⟨RX12, "core", "(I)I"⟩
abbrev cX12_drop : ByteArray := prog_14_method_71_code
def yX12_drop : MethodName := ⟨RX12, "drop", "(I)I"⟩
abbrev cX12_undo : ByteArray := prog_14_method_72_code
def yX12_undo : MethodName := ⟨RX12, "undo", "()I"⟩
abbrev cX12_mark : ByteArray := prog_14_method_73_code
def yX12_mark : MethodName := ⟨RX12, "mark", "()I"⟩
abbrev cX12_back : ByteArray := prog_14_method_74_code
def yX12_back : MethodName := ⟨RX12, "back", "()I"⟩
abbrev cX12_areAlike : ByteArray := prog_14_method_75_code
def yX12_areAlike : MethodName := ⟨RX12, "areAlike", "(II)Z"⟩
abbrev cX12_alike : ByteArray := prog_14_method_76_code
def yX12_alike : MethodName := ⟨RX12, "alike", "(II)I"⟩
abbrev cX12_alikes : ByteArray := prog_14_method_77_code
def yX12_alikes : MethodName := ⟨RX12, "alikes", "(I)I"⟩
abbrev cX12_twin : ByteArray := prog_14_method_78_code
def yX12_twin : MethodName := ⟨RX12, "twin", "(I)I"⟩
abbrev cX12_steps : ByteArray := prog_14_method_79_code
def yX12_steps : MethodName := ⟨RX12, "steps", "(I)I"⟩
abbrev cX12_length : ByteArray := prog_14_method_80_code
def yX12_length : MethodName := ⟨RX12, "length", "(I)I"⟩
abbrev cX12_common : ByteArray := prog_14_method_81_code
def yX12_common : MethodName := ⟨RX12, "common", "(II)I"⟩
abbrev cX12_orderIn : ByteArray := prog_14_method_82_code
def yX12_orderIn : MethodName := ⟨RX12, "orderIn", "(II)I"⟩
abbrev cX12_orderOf : ByteArray := prog_14_method_83_code
def yX12_orderOf : MethodName := ⟨RX12, "orderOf", "(I)I"⟩
abbrev cX12_along : ByteArray := prog_14_method_84_code
def yX12_along : MethodName := ⟨RX12, "along", "(IIII)I"⟩
abbrev cX12_begins : ByteArray := prog_14_method_85_code
def yX12_begins : MethodName := ⟨RX12, "begins", "([II[I)V"⟩
abbrev cX12_areKin : ByteArray := prog_14_method_86_code
def yX12_areKin : MethodName := ⟨RX12, "areKin", "(II)Z"⟩
abbrev cX12_wrongLoops : ByteArray := prog_14_method_87_code
def yX12_wrongLoops : MethodName := ⟨RX12, "wrongLoops", "(II)I"⟩
abbrev cX12_kin : ByteArray := prog_14_method_88_code
def yX12_kin : MethodName := ⟨RX12, "kin", "(II)I"⟩
abbrev cX12_kinBy : ByteArray := prog_14_method_89_code
def yX12_kinBy : MethodName := ⟨RX12, "kinBy", "(III)I"⟩
abbrev cX12_kins : ByteArray := prog_14_method_90_code
def yX12_kins : MethodName := ⟨RX12, "kins", "(I)I"⟩
abbrev cX12_net : ByteArray := prog_14_method_91_code
def yX12_net : MethodName := ⟨RX12, "net", "(II)I"⟩
abbrev cX12_isCentral : ByteArray := prog_14_method_92_code
def yX12_isCentral : MethodName := ⟨RX12, "isCentral", "(II)Z"⟩
abbrev cX12_central : ByteArray := prog_14_method_93_code
def yX12_central : MethodName := ⟨RX12, "central", "(II)I"⟩
abbrev cX12_centre : ByteArray := prog_14_method_94_code
def yX12_centre : MethodName := ⟨RX12, "centre", "(I)I"⟩
abbrev cX12_having : ByteArray := prog_14_method_95_code
def yX12_having : MethodName := ⟨RX12, "having", "(II)I"⟩
abbrev cX12_isPower : ByteArray := prog_14_method_96_code
def yX12_isPower : MethodName := ⟨RX12, "isPower", "([III)Z"⟩
abbrev cX12_rootOf : ByteArray := prog_14_method_97_code
def yX12_rootOf : MethodName := ⟨RX12, "rootOf", "([I)I"⟩
abbrev cX12_root : ByteArray := prog_14_method_98_code
def yX12_root : MethodName := ⟨RX12, "root", "(I)I"⟩
abbrev cX12_swaps : ByteArray := prog_14_method_99_code
def yX12_swaps : MethodName := ⟨RX12, "swaps", "(II)I"⟩
abbrev cX12_ways : ByteArray := prog_14_method_100_code
def yX12_ways : MethodName := ⟨RX12, "ways", "([I[I[I)V"⟩
abbrev cX12_wrongPair : ByteArray := prog_14_method_101_code
def yX12_wrongPair : MethodName := ⟨RX12, "wrongPair", "(II)I"⟩
abbrev cX12_apart : ByteArray := prog_14_method_102_code
def yX12_apart : MethodName := ⟨RX12, "apart", "(II)I"⟩
abbrev cX12_moves : ByteArray := prog_14_method_103_code
def yX12_moves : MethodName := ⟨RX12, "moves", "(II)I"⟩
abbrev cX12_way : ByteArray := prog_14_method_104_code
def yX12_way : MethodName := ⟨RX12, "way", "(III)I"⟩
abbrev cX12_near : ByteArray := prog_14_method_105_code
def yX12_near : MethodName := ⟨RX12, "near", "(II)I"⟩
abbrev cX12_held : ByteArray := prog_14_method_106_code
def yX12_held : MethodName := ⟨RX12, "held", "(J)J"⟩
abbrev cX12_choices : ByteArray := prog_14_method_107_code
def yX12_choices : MethodName := ⟨RX12, "choices", "(II)I"⟩
abbrev cX12_homes : ByteArray := prog_14_method_108_code
def yX12_homes : MethodName := ⟨RX12, "homes", "(IIII)J"⟩
abbrev cX12_forgets : ByteArray := prog_14_method_109_code
def yX12_forgets : MethodName := ⟨RX12, "forgets", "()V"⟩
abbrev cX12_holds : ByteArray := prog_14_method_110_code
def yX12_holds : MethodName := ⟨RX12, "holds", "(II)J"⟩
abbrev cX12_held0 : ByteArray := prog_14_method_111_code
def yX12_held0 : MethodName := ⟨RX12, "held0", "(III)J"⟩
abbrev cX12_heldFrom : ByteArray := prog_14_method_112_code
def yX12_heldFrom : MethodName := ⟨RX12, "heldFrom", "(IIII)J"⟩
abbrev cX12_ball : ByteArray := prog_14_method_113_code
def yX12_ball : MethodName := ⟨RX12, "ball", "(II)J"⟩
abbrev cX12_sphere : ByteArray := prog_14_method_114_code
def yX12_sphere : MethodName := ⟨RX12, "sphere", "(II)J"⟩
abbrev cX12_leastAhead : ByteArray := prog_14_method_115_code
def yX12_leastAhead : MethodName := ⟨RX12, "leastAhead", "(II)I"⟩
abbrev cX12_spell : ByteArray := prog_14_method_116_code
def yX12_spell : MethodName := ⟨RX12, "spell", "(III)I"⟩
abbrev cX12_listed : ByteArray := prog_14_method_117_code
def yX12_listed : MethodName := ⟨RX12, "listed", "(I)J"⟩
abbrev cX12_axis : ByteArray := prog_14_method_118_code
def yX12_axis : MethodName := ⟨RX12, "axis", "(II)I"⟩
abbrev cX12_meet : ByteArray := prog_14_method_119_code
def yX12_meet : MethodName := ⟨RX12, "meet", "(I)I"⟩
abbrev cX12_writes : ByteArray := prog_14_method_120_code
def yX12_writes : MethodName := ⟨RX12, "writes", "(I)V"⟩
abbrev cX12_writesNumber : ByteArray := prog_14_method_121_code
def yX12_writesNumber : MethodName := ⟨RX12, "writesNumber", "(I)V"⟩
abbrev cX12_tell : ByteArray := prog_14_method_122_code
def yX12_tell : MethodName := ⟨RX12, "tell", "(I)I"⟩
abbrev cX12_out : ByteArray := prog_14_method_123_code
def yX12_out : MethodName := ⟨RX12, "out", "(I)I"⟩
abbrev cX12_common_ : ByteArray := prog_14_method_124_code
def yX12_common_ : MethodName := ⟨RX12, "common", "(JJ)J"⟩
abbrev cX12_chi : ByteArray := prog_14_method_125_code
def yX12_chi : MethodName := ⟨RX12, "chi", "(I)I"⟩
def RJ0 : String := "java/lang/String"
abbrev cJ0_length_8abf5 : ByteArray := prog_16_method_54_code
def yJ0_length_8abf5 : MethodName := ⟨RJ0, "length", "()I"⟩
abbrev cJ0_charAt_5068e : ByteArray := prog_16_method_56_code
def yJ0_charAt_5068e : MethodName := ⟨RJ0, "charAt", "(I)C"⟩
abbrev cJ0_coder_7d493 : ByteArray := prog_16_method_152_code
def yJ0_coder_7d493 : MethodName := ⟨RJ0, "coder", "()B"⟩
abbrev cJ0_isLatin1_aae02 : ByteArray := prog_16_method_154_code
def yJ0_isLatin1_aae02 : MethodName := ⟨RJ0, "isLatin1", "()Z"⟩
abbrev cJ0_checkIndex_df160 : ByteArray := prog_16_method_155_code
def yJ0_checkIndex_df160 : MethodName := ⟨RJ0, "checkIndex", "(II)V"⟩
def RJ1 : String := "java/lang/StringLatin1"
abbrev cJ1_charAt_3b067 : ByteArray := prog_17_method_2_code
def yJ1_charAt_3b067 : MethodName := ⟨RJ1, "charAt", "([BI)C"⟩
def RJ3 : String := "jdk/internal/util/Preconditions"
abbrev cJ3_checkIndex_8e157 : ByteArray := prog_21_method_11_code
def yJ3_checkIndex_8e157 : MethodName := ⟨RJ3, "checkIndex", "(IILjava/util/function/BiFunction;)I"⟩
theorem dX12_status_0 : decode cX12_status 0 = .ok (.aload_n 0, 1) := by decide +kernel
theorem dX12_status_1 : decode cX12_status 1 = .ok (.getfield 67, 3) := by decide +kernel
theorem dX12_status_4 : decode cX12_status 4 = .ok (.ireturn, 1) := by decide +kernel
theorem dX12_refuse_0 : decode cX12_refuse 0 = .ok (.aload_n 0, 1) := by decide +kernel
theorem dX12_refuse_1 : decode cX12_refuse 1 = .ok (.iload_n 1, 1) := by decide +kernel
theorem dX12_refuse_2 : decode cX12_refuse 2 = .ok (.putfield 67, 3) := by decide +kernel
theorem dX12_refuse_5 : decode cX12_refuse 5 = .ok (.iconst (-1), 1) := by decide +kernel
theorem dX12_refuse_6 : decode cX12_refuse 6 = .ok (.ireturn, 1) := by decide +kernel
theorem dX12_gives_0 : decode cX12_gives 0 = .ok (.aload_n 0, 1) := by decide +kernel
theorem dX12_gives_1 : decode cX12_gives 1 = .ok (.iconst 0, 1) := by decide +kernel
theorem dX12_gives_2 : decode cX12_gives 2 = .ok (.putfield 67, 3) := by decide +kernel
theorem dX12_gives_5 : decode cX12_gives 5 = .ok (.iload_n 1, 1) := by decide +kernel
theorem dX12_gives_6 : decode cX12_gives 6 = .ok (.ireturn, 1) := by decide +kernel
theorem dX12_gives__0 : decode cX12_gives_ 0 = .ok (.aload_n 0, 1) := by decide +kernel
theorem dX12_gives__1 : decode cX12_gives_ 1 = .ok (.iconst 0, 1) := by decide +kernel
theorem dX12_gives__2 : decode cX12_gives_ 2 = .ok (.putfield 67, 3) := by decide +kernel
theorem dX12_gives__5 : decode cX12_gives_ 5 = .ok (.lload_n 1, 1) := by decide +kernel
theorem dX12_gives__6 : decode cX12_gives_ 6 = .ok (.lreturn, 1) := by decide +kernel
theorem dX12_isFrom_0 : decode cX12_isFrom 0 = .ok (.iload_n 0, 1) := by decide +kernel
theorem dX12_isFrom_1 : decode cX12_isFrom 1 = .ok (.iload_n 1, 1) := by decide +kernel
theorem dX12_isFrom_2 : decode cX12_isFrom 2 = .ok (.if_icmp .lt 12, 3) := by decide +kernel
theorem dX12_isFrom_5 : decode cX12_isFrom 5 = .ok (.iload_n 0, 1) := by decide +kernel
theorem dX12_isFrom_6 : decode cX12_isFrom 6 = .ok (.iload_n 2, 1) := by decide +kernel
theorem dX12_isFrom_7 : decode cX12_isFrom 7 = .ok (.if_icmp .gt 7, 3) := by decide +kernel
theorem dX12_isFrom_10 : decode cX12_isFrom 10 = .ok (.iconst 1, 1) := by decide +kernel
theorem dX12_isFrom_11 : decode cX12_isFrom 11 = .ok (.goto 4, 3) := by decide +kernel
theorem dX12_isFrom_14 : decode cX12_isFrom 14 = .ok (.iconst 0, 1) := by decide +kernel
theorem dX12_isFrom_15 : decode cX12_isFrom 15 = .ok (.ireturn, 1) := by decide +kernel
theorem dX12_of_0 : decode cX12_of 0 = .ok (.aload_n 0, 1) := by decide +kernel
theorem dX12_of_1 : decode cX12_of 1 = .ok (.getfield 7, 3) := by decide +kernel
theorem dX12_of_4 : decode cX12_of 4 = .ok (.iload_n 1, 1) := by decide +kernel
theorem dX12_of_5 : decode cX12_of 5 = .ok (.iaload, 1) := by decide +kernel
theorem dX12_of_6 : decode cX12_of 6 = .ok (.ireturn, 1) := by decide +kernel
theorem dX12_copies_0 : decode cX12_copies 0 = .ok (.iconst 0, 1) := by decide +kernel
theorem dX12_copies_1 : decode cX12_copies 1 = .ok (.istore_n 3, 1) := by decide +kernel
theorem dX12_copies_2 : decode cX12_copies 2 = .ok (.iload_n 3, 1) := by decide +kernel
theorem dX12_copies_3 : decode cX12_copies 3 = .ok (.sipush 554, 3) := by decide +kernel
theorem dX12_copies_6 : decode cX12_copies 6 = .ok (.if_icmp .ge 25, 3) := by decide +kernel
theorem dX12_copies_9 : decode cX12_copies 9 = .ok (.aload_n 0, 1) := by decide +kernel
theorem dX12_copies_10 : decode cX12_copies 10 = .ok (.getfield 7, 3) := by decide +kernel
theorem dX12_copies_13 : decode cX12_copies 13 = .ok (.iload_n 2, 1) := by decide +kernel
theorem dX12_copies_14 : decode cX12_copies 14 = .ok (.iload_n 3, 1) := by decide +kernel
theorem dX12_copies_15 : decode cX12_copies 15 = .ok (.iadd, 1) := by decide +kernel
theorem dX12_copies_16 : decode cX12_copies 16 = .ok (.aload_n 0, 1) := by decide +kernel
theorem dX12_copies_17 : decode cX12_copies 17 = .ok (.getfield 7, 3) := by decide +kernel
theorem dX12_copies_20 : decode cX12_copies 20 = .ok (.iload_n 1, 1) := by decide +kernel
theorem dX12_copies_21 : decode cX12_copies 21 = .ok (.iload_n 3, 1) := by decide +kernel
theorem dX12_copies_22 : decode cX12_copies 22 = .ok (.iadd, 1) := by decide +kernel
theorem dX12_copies_23 : decode cX12_copies 23 = .ok (.iaload, 1) := by decide +kernel
theorem dX12_copies_24 : decode cX12_copies 24 = .ok (.iastore, 1) := by decide +kernel
theorem dX12_copies_25 : decode cX12_copies 25 = .ok (.iinc 3 1, 3) := by decide +kernel
theorem dX12_copies_28 : decode cX12_copies 28 = .ok (.goto (-26), 3) := by decide +kernel
theorem dX12_copies_31 : decode cX12_copies 31 = .ok (.return_, 1) := by decide +kernel
theorem dX12_isVertex_0 : decode cX12_isVertex 0 = .ok (.iload_n 1, 1) := by decide +kernel
theorem dX12_isVertex_1 : decode cX12_isVertex 1 = .ok (.ifCond .lt 16, 3) := by decide +kernel
theorem dX12_isVertex_4 : decode cX12_isVertex 4 = .ok (.iload_n 1, 1) := by decide +kernel
theorem dX12_isVertex_5 : decode cX12_isVertex 5 = .ok (.aload_n 0, 1) := by decide +kernel
theorem dX12_isVertex_6 : decode cX12_isVertex 6 = .ok (.iconst 0, 1) := by decide +kernel
theorem dX12_isVertex_7 : decode cX12_isVertex 7 = .ok (.invokevirtual 70, 3) := by decide +kernel
theorem dX12_isVertex_10 : decode cX12_isVertex 10 = .ok (.if_icmp .ge 7, 3) := by decide +kernel
theorem dX12_isVertex_13 : decode cX12_isVertex 13 = .ok (.iconst 1, 1) := by decide +kernel
theorem dX12_isVertex_14 : decode cX12_isVertex 14 = .ok (.goto 4, 3) := by decide +kernel
theorem dX12_isVertex_17 : decode cX12_isVertex 17 = .ok (.iconst 0, 1) := by decide +kernel
theorem dX12_isVertex_18 : decode cX12_isVertex 18 = .ok (.ireturn, 1) := by decide +kernel
theorem dX12_isEdge_0 : decode cX12_isEdge 0 = .ok (.iload_n 1, 1) := by decide +kernel
theorem dX12_isEdge_1 : decode cX12_isEdge 1 = .ok (.ifCond .lt 16, 3) := by decide +kernel
theorem dX12_isEdge_4 : decode cX12_isEdge 4 = .ok (.iload_n 1, 1) := by decide +kernel
theorem dX12_isEdge_5 : decode cX12_isEdge 5 = .ok (.aload_n 0, 1) := by decide +kernel
theorem dX12_isEdge_6 : decode cX12_isEdge 6 = .ok (.iconst 1, 1) := by decide +kernel
theorem dX12_isEdge_7 : decode cX12_isEdge 7 = .ok (.invokevirtual 70, 3) := by decide +kernel
theorem dX12_isEdge_10 : decode cX12_isEdge 10 = .ok (.if_icmp .ge 7, 3) := by decide +kernel
theorem dX12_isEdge_13 : decode cX12_isEdge 13 = .ok (.iconst 1, 1) := by decide +kernel
theorem dX12_isEdge_14 : decode cX12_isEdge 14 = .ok (.goto 4, 3) := by decide +kernel
theorem dX12_isEdge_17 : decode cX12_isEdge 17 = .ok (.iconst 0, 1) := by decide +kernel
theorem dX12_isEdge_18 : decode cX12_isEdge 18 = .ok (.ireturn, 1) := by decide +kernel
theorem dX12_isWord_0 : decode cX12_isWord 0 = .ok (.iload_n 1, 1) := by decide +kernel
theorem dX12_isWord_1 : decode cX12_isWord 1 = .ok (.ifCond .lt 16, 3) := by decide +kernel
theorem dX12_isWord_4 : decode cX12_isWord 4 = .ok (.iload_n 1, 1) := by decide +kernel
theorem dX12_isWord_5 : decode cX12_isWord 5 = .ok (.aload_n 0, 1) := by decide +kernel
theorem dX12_isWord_6 : decode cX12_isWord 6 = .ok (.iconst 2, 1) := by decide +kernel
theorem dX12_isWord_7 : decode cX12_isWord 7 = .ok (.invokevirtual 70, 3) := by decide +kernel
theorem dX12_isWord_10 : decode cX12_isWord 10 = .ok (.if_icmp .ge 7, 3) := by decide +kernel
theorem dX12_isWord_13 : decode cX12_isWord 13 = .ok (.iconst 1, 1) := by decide +kernel
theorem dX12_isWord_14 : decode cX12_isWord 14 = .ok (.goto 4, 3) := by decide +kernel
theorem dX12_isWord_17 : decode cX12_isWord 17 = .ok (.iconst 0, 1) := by decide +kernel
theorem dX12_isWord_18 : decode cX12_isWord 18 = .ok (.ireturn, 1) := by decide +kernel
theorem dX12_orderAt_0 : decode cX12_orderAt 0 = .ok (.aload_n 0, 1) := by decide +kernel
theorem dX12_orderAt_1 : decode cX12_orderAt 1 = .ok (.iconst 4, 1) := by decide +kernel
theorem dX12_orderAt_2 : decode cX12_orderAt 2 = .ok (.iload_n 1, 1) := by decide +kernel
theorem dX12_orderAt_3 : decode cX12_orderAt 3 = .ok (.iadd, 1) := by decide +kernel
theorem dX12_orderAt_4 : decode cX12_orderAt 4 = .ok (.invokevirtual 70, 3) := by decide +kernel
theorem dX12_orderAt_7 : decode cX12_orderAt 7 = .ok (.ireturn, 1) := by decide +kernel
theorem dX12_ofEdge_0 : decode cX12_ofEdge 0 = .ok (.aload_n 0, 1) := by decide +kernel
theorem dX12_ofEdge_1 : decode cX12_ofEdge 1 = .ok (.bipush 10, 2) := by decide +kernel
theorem dX12_ofEdge_3 : decode cX12_ofEdge 3 = .ok (.iconst 4, 1) := by decide +kernel
theorem dX12_ofEdge_4 : decode cX12_ofEdge 4 = .ok (.iload_n 1, 1) := by decide +kernel
theorem dX12_ofEdge_5 : decode cX12_ofEdge 5 = .ok (.imul, 1) := by decide +kernel
theorem dX12_ofEdge_6 : decode cX12_ofEdge 6 = .ok (.iadd, 1) := by decide +kernel
theorem dX12_ofEdge_7 : decode cX12_ofEdge 7 = .ok (.iload_n 2, 1) := by decide +kernel
theorem dX12_ofEdge_8 : decode cX12_ofEdge 8 = .ok (.iadd, 1) := by decide +kernel
theorem dX12_ofEdge_9 : decode cX12_ofEdge 9 = .ok (.invokevirtual 70, 3) := by decide +kernel
theorem dX12_ofEdge_12 : decode cX12_ofEdge 12 = .ok (.ireturn, 1) := by decide +kernel
theorem dX12_from_0 : decode cX12_from 0 = .ok (.aload_n 0, 1) := by decide +kernel
theorem dX12_from_1 : decode cX12_from 1 = .ok (.iload_n 1, 1) := by decide +kernel
theorem dX12_from_2 : decode cX12_from 2 = .ok (.iconst 2, 1) := by decide +kernel
theorem dX12_from_3 : decode cX12_from 3 = .ok (.idiv, 1) := by decide +kernel
theorem dX12_from_4 : decode cX12_from 4 = .ok (.iload_n 1, 1) := by decide +kernel
theorem dX12_from_5 : decode cX12_from 5 = .ok (.iconst 2, 1) := by decide +kernel
theorem dX12_from_6 : decode cX12_from 6 = .ok (.irem, 1) := by decide +kernel
theorem dX12_from_7 : decode cX12_from 7 = .ok (.ifCond .ne 7, 3) := by decide +kernel
theorem dX12_from_10 : decode cX12_from 10 = .ok (.iconst 0, 1) := by decide +kernel
theorem dX12_from_11 : decode cX12_from 11 = .ok (.goto 4, 3) := by decide +kernel
theorem dX12_from_14 : decode cX12_from 14 = .ok (.iconst 2, 1) := by decide +kernel
theorem dX12_from_15 : decode cX12_from 15 = .ok (.invokevirtual 74, 3) := by decide +kernel
theorem dX12_from_18 : decode cX12_from 18 = .ok (.ireturn, 1) := by decide +kernel
theorem dX12_by_0 : decode cX12_by 0 = .ok (.aload_n 0, 1) := by decide +kernel
theorem dX12_by_1 : decode cX12_by 1 = .ok (.iload_n 1, 1) := by decide +kernel
theorem dX12_by_2 : decode cX12_by 2 = .ok (.iconst 2, 1) := by decide +kernel
theorem dX12_by_3 : decode cX12_by 3 = .ok (.idiv, 1) := by decide +kernel
theorem dX12_by_4 : decode cX12_by 4 = .ok (.iload_n 1, 1) := by decide +kernel
theorem dX12_by_5 : decode cX12_by 5 = .ok (.iconst 2, 1) := by decide +kernel
theorem dX12_by_6 : decode cX12_by 6 = .ok (.irem, 1) := by decide +kernel
theorem dX12_by_7 : decode cX12_by 7 = .ok (.ifCond .ne 7, 3) := by decide +kernel
theorem dX12_by_10 : decode cX12_by 10 = .ok (.iconst 1, 1) := by decide +kernel
theorem dX12_by_11 : decode cX12_by 11 = .ok (.goto 4, 3) := by decide +kernel
theorem dX12_by_14 : decode cX12_by 14 = .ok (.iconst 3, 1) := by decide +kernel
theorem dX12_by_15 : decode cX12_by 15 = .ok (.invokevirtual 74, 3) := by decide +kernel
theorem dX12_by_18 : decode cX12_by 18 = .ok (.ireturn, 1) := by decide +kernel
theorem dX12_to_0 : decode cX12_to 0 = .ok (.aload_n 0, 1) := by decide +kernel
theorem dX12_to_1 : decode cX12_to 1 = .ok (.iload_n 1, 1) := by decide +kernel
theorem dX12_to_2 : decode cX12_to 2 = .ok (.iconst 1, 1) := by decide +kernel
theorem dX12_to_3 : decode cX12_to 3 = .ok (.ixor, 1) := by decide +kernel
theorem dX12_to_4 : decode cX12_to 4 = .ok (.invokevirtual 78, 3) := by decide +kernel
theorem dX12_to_7 : decode cX12_to 7 = .ok (.ireturn, 1) := by decide +kernel
theorem dX12_into_0 : decode cX12_into 0 = .ok (.aload_n 0, 1) := by decide +kernel
theorem dX12_into_1 : decode cX12_into 1 = .ok (.iload_n 1, 1) := by decide +kernel
theorem dX12_into_2 : decode cX12_into 2 = .ok (.iconst 1, 1) := by decide +kernel
theorem dX12_into_3 : decode cX12_into 3 = .ok (.ixor, 1) := by decide +kernel
theorem dX12_into_4 : decode cX12_into 4 = .ok (.invokevirtual 81, 3) := by decide +kernel
theorem dX12_into_7 : decode cX12_into 7 = .ok (.ireturn, 1) := by decide +kernel
theorem dX12_round_0 : decode cX12_round 0 = .ok (.iload_n 2, 1) := by decide +kernel
theorem dX12_round_1 : decode cX12_round 1 = .ok (.aload_n 0, 1) := by decide +kernel
theorem dX12_round_2 : decode cX12_round 2 = .ok (.iload_n 1, 1) := by decide +kernel
theorem dX12_round_3 : decode cX12_round 3 = .ok (.invokevirtual 84, 3) := by decide +kernel
theorem dX12_round_6 : decode cX12_round 6 = .ok (.irem, 1) := by decide +kernel
theorem dX12_round_7 : decode cX12_round 7 = .ok (.istore_n 3, 1) := by decide +kernel
theorem dX12_round_8 : decode cX12_round 8 = .ok (.iload_n 3, 1) := by decide +kernel
theorem dX12_round_9 : decode cX12_round 9 = .ok (.ifCond .ge 13, 3) := by decide +kernel
theorem dX12_round_12 : decode cX12_round 12 = .ok (.iload_n 3, 1) := by decide +kernel
theorem dX12_round_13 : decode cX12_round 13 = .ok (.aload_n 0, 1) := by decide +kernel
theorem dX12_round_14 : decode cX12_round 14 = .ok (.iload_n 1, 1) := by decide +kernel
theorem dX12_round_15 : decode cX12_round 15 = .ok (.invokevirtual 84, 3) := by decide +kernel
theorem dX12_round_18 : decode cX12_round 18 = .ok (.iadd, 1) := by decide +kernel
theorem dX12_round_19 : decode cX12_round 19 = .ok (.goto 4, 3) := by decide +kernel
theorem dX12_round_22 : decode cX12_round 22 = .ok (.iload_n 3, 1) := by decide +kernel
theorem dX12_round_23 : decode cX12_round 23 = .ok (.ireturn, 1) := by decide +kernel
theorem dX12_number_0 : decode cX12_number 0 = .ok (.aload_n 0, 1) := by decide +kernel
theorem dX12_number_1 : decode cX12_number 1 = .ok (.iconst 2, 1) := by decide +kernel
theorem dX12_number_2 : decode cX12_number 2 = .ok (.iconst 2, 1) := by decide +kernel
theorem dX12_number_3 : decode cX12_number 3 = .ok (.iload_n 1, 1) := by decide +kernel
theorem dX12_number_4 : decode cX12_number 4 = .ok (.imul, 1) := by decide +kernel
theorem dX12_number_5 : decode cX12_number 5 = .ok (.iadd, 1) := by decide +kernel
theorem dX12_number_6 : decode cX12_number 6 = .ok (.iaload, 1) := by decide +kernel
theorem dX12_number_7 : decode cX12_number 7 = .ok (.ireturn, 1) := by decide +kernel
theorem dX12_step_0 : decode cX12_step 0 = .ok (.aload_n 0, 1) := by decide +kernel
theorem dX12_step_1 : decode cX12_step 1 = .ok (.iconst 3, 1) := by decide +kernel
theorem dX12_step_2 : decode cX12_step 2 = .ok (.iconst 2, 1) := by decide +kernel
theorem dX12_step_3 : decode cX12_step 3 = .ok (.iload_n 1, 1) := by decide +kernel
theorem dX12_step_4 : decode cX12_step 4 = .ok (.imul, 1) := by decide +kernel
theorem dX12_step_5 : decode cX12_step 5 = .ok (.iadd, 1) := by decide +kernel
theorem dX12_step_6 : decode cX12_step 6 = .ok (.iaload, 1) := by decide +kernel
theorem dX12_step_7 : decode cX12_step 7 = .ok (.ireturn, 1) := by decide +kernel
theorem dX12_last_0 : decode cX12_last 0 = .ok (.aload_n 0, 1) := by decide +kernel
theorem dX12_last_1 : decode cX12_last 1 = .ok (.iconst 2, 1) := by decide +kernel
theorem dX12_last_2 : decode cX12_last 2 = .ok (.iconst 2, 1) := by decide +kernel
theorem dX12_last_3 : decode cX12_last 3 = .ok (.aload_n 0, 1) := by decide +kernel
theorem dX12_last_4 : decode cX12_last 4 = .ok (.iconst 1, 1) := by decide +kernel
theorem dX12_last_5 : decode cX12_last 5 = .ok (.iaload, 1) := by decide +kernel
theorem dX12_last_6 : decode cX12_last 6 = .ok (.imul, 1) := by decide +kernel
theorem dX12_last_7 : decode cX12_last 7 = .ok (.iadd, 1) := by decide +kernel
theorem dX12_last_8 : decode cX12_last 8 = .ok (.iaload, 1) := by decide +kernel
theorem dX12_last_9 : decode cX12_last 9 = .ok (.ireturn, 1) := by decide +kernel
theorem dX12_end_0 : decode cX12_end 0 = .ok (.aload_n 1, 1) := by decide +kernel
theorem dX12_end_1 : decode cX12_end 1 = .ok (.iconst 1, 1) := by decide +kernel
theorem dX12_end_2 : decode cX12_end 2 = .ok (.iaload, 1) := by decide +kernel
theorem dX12_end_3 : decode cX12_end 3 = .ok (.ifCond .ne 9, 3) := by decide +kernel
theorem dX12_end_6 : decode cX12_end 6 = .ok (.aload_n 1, 1) := by decide +kernel
theorem dX12_end_7 : decode cX12_end 7 = .ok (.iconst 0, 1) := by decide +kernel
theorem dX12_end_8 : decode cX12_end 8 = .ok (.iaload, 1) := by decide +kernel
theorem dX12_end_9 : decode cX12_end 9 = .ok (.goto 16, 3) := by decide +kernel
theorem dX12_end_12 : decode cX12_end 12 = .ok (.aload_n 0, 1) := by decide +kernel
theorem dX12_end_13 : decode cX12_end 13 = .ok (.aload_n 1, 1) := by decide +kernel
theorem dX12_end_14 : decode cX12_end 14 = .ok (.aload_n 1, 1) := by decide +kernel
theorem dX12_end_15 : decode cX12_end 15 = .ok (.iconst 1, 1) := by decide +kernel
theorem dX12_end_16 : decode cX12_end 16 = .ok (.iaload, 1) := by decide +kernel
theorem dX12_end_17 : decode cX12_end 17 = .ok (.iconst 1, 1) := by decide +kernel
theorem dX12_end_18 : decode cX12_end 18 = .ok (.isub, 1) := by decide +kernel
theorem dX12_end_19 : decode cX12_end 19 = .ok (.invokestatic 87, 3) := by decide +kernel
theorem dX12_end_22 : decode cX12_end 22 = .ok (.invokevirtual 91, 3) := by decide +kernel
theorem dX12_end_25 : decode cX12_end 25 = .ok (.ireturn, 1) := by decide +kernel
theorem dX12_takes_0 : decode cX12_takes 0 = .ok (.iconst 0, 1) := by decide +kernel
theorem dX12_takes_1 : decode cX12_takes 1 = .ok (.istore_n 3, 1) := by decide +kernel
theorem dX12_takes_2 : decode cX12_takes 2 = .ok (.iload_n 3, 1) := by decide +kernel
theorem dX12_takes_3 : decode cX12_takes 3 = .ok (.bipush 52, 2) := by decide +kernel
theorem dX12_takes_5 : decode cX12_takes 5 = .ok (.if_icmp .ge 25, 3) := by decide +kernel
theorem dX12_takes_8 : decode cX12_takes 8 = .ok (.aload_n 2, 1) := by decide +kernel
theorem dX12_takes_9 : decode cX12_takes 9 = .ok (.iload_n 3, 1) := by decide +kernel
theorem dX12_takes_10 : decode cX12_takes 10 = .ok (.aload_n 0, 1) := by decide +kernel
theorem dX12_takes_11 : decode cX12_takes 11 = .ok (.bipush 34, 2) := by decide +kernel
theorem dX12_takes_13 : decode cX12_takes 13 = .ok (.bipush 52, 2) := by decide +kernel
theorem dX12_takes_15 : decode cX12_takes 15 = .ok (.iload_n 1, 1) := by decide +kernel
theorem dX12_takes_16 : decode cX12_takes 16 = .ok (.imul, 1) := by decide +kernel
theorem dX12_takes_17 : decode cX12_takes 17 = .ok (.iadd, 1) := by decide +kernel
theorem dX12_takes_18 : decode cX12_takes 18 = .ok (.iload_n 3, 1) := by decide +kernel
theorem dX12_takes_19 : decode cX12_takes 19 = .ok (.iadd, 1) := by decide +kernel
theorem dX12_takes_20 : decode cX12_takes 20 = .ok (.invokevirtual 70, 3) := by decide +kernel
theorem dX12_takes_23 : decode cX12_takes 23 = .ok (.iastore, 1) := by decide +kernel
theorem dX12_takes_24 : decode cX12_takes 24 = .ok (.iinc 3 1, 3) := by decide +kernel
theorem dX12_takes_27 : decode cX12_takes 27 = .ok (.goto (-25), 3) := by decide +kernel
theorem dX12_takes_30 : decode cX12_takes 30 = .ok (.return_, 1) := by decide +kernel
theorem dX12_lays_0 : decode cX12_lays 0 = .ok (.iconst 0, 1) := by decide +kernel
theorem dX12_lays_1 : decode cX12_lays 1 = .ok (.istore_n 2, 1) := by decide +kernel
theorem dX12_lays_2 : decode cX12_lays 2 = .ok (.iload_n 2, 1) := by decide +kernel
theorem dX12_lays_3 : decode cX12_lays 3 = .ok (.aload_n 0, 1) := by decide +kernel
theorem dX12_lays_4 : decode cX12_lays 4 = .ok (.arraylength, 1) := by decide +kernel
theorem dX12_lays_5 : decode cX12_lays 5 = .ok (.if_icmp .ge 15, 3) := by decide +kernel
theorem dX12_lays_8 : decode cX12_lays 8 = .ok (.aload_n 1, 1) := by decide +kernel
theorem dX12_lays_9 : decode cX12_lays 9 = .ok (.iload_n 2, 1) := by decide +kernel
theorem dX12_lays_10 : decode cX12_lays 10 = .ok (.aload_n 0, 1) := by decide +kernel
theorem dX12_lays_11 : decode cX12_lays 11 = .ok (.iload_n 2, 1) := by decide +kernel
theorem dX12_lays_12 : decode cX12_lays 12 = .ok (.iaload, 1) := by decide +kernel
theorem dX12_lays_13 : decode cX12_lays 13 = .ok (.iastore, 1) := by decide +kernel
theorem dX12_lays_14 : decode cX12_lays 14 = .ok (.iinc 2 1, 3) := by decide +kernel
theorem dX12_lays_17 : decode cX12_lays 17 = .ok (.goto (-15), 3) := by decide +kernel
theorem dX12_lays_20 : decode cX12_lays 20 = .ok (.return_, 1) := by decide +kernel
theorem dX12_single_0 : decode cX12_single 0 = .ok (.aload_n 0, 1) := by decide +kernel
theorem dX12_single_1 : decode cX12_single 1 = .ok (.iconst 0, 1) := by decide +kernel
theorem dX12_single_2 : decode cX12_single 2 = .ok (.iload_n 1, 1) := by decide +kernel
theorem dX12_single_3 : decode cX12_single 3 = .ok (.iastore, 1) := by decide +kernel
theorem dX12_single_4 : decode cX12_single 4 = .ok (.aload_n 0, 1) := by decide +kernel
theorem dX12_single_5 : decode cX12_single 5 = .ok (.iconst 1, 1) := by decide +kernel
theorem dX12_single_6 : decode cX12_single 6 = .ok (.iconst 0, 1) := by decide +kernel
theorem dX12_single_7 : decode cX12_single 7 = .ok (.iastore, 1) := by decide +kernel
theorem dX12_single_8 : decode cX12_single 8 = .ok (.aload_n 0, 1) := by decide +kernel
theorem dX12_single_9 : decode cX12_single 9 = .ok (.iconst 2, 1) := by decide +kernel
theorem dX12_single_10 : decode cX12_single 10 = .ok (.iload_n 2, 1) := by decide +kernel
theorem dX12_single_11 : decode cX12_single 11 = .ok (.iastore, 1) := by decide +kernel
theorem dX12_single_12 : decode cX12_single 12 = .ok (.return_, 1) := by decide +kernel
theorem dX12_goes_0 : decode cX12_goes 0 = .ok (.aload_n 0, 1) := by decide +kernel
theorem dX12_goes_1 : decode cX12_goes 1 = .ok (.iconst 3, 1) := by decide +kernel
theorem dX12_goes_2 : decode cX12_goes 2 = .ok (.iconst 2, 1) := by decide +kernel
theorem dX12_goes_3 : decode cX12_goes 3 = .ok (.aload_n 0, 1) := by decide +kernel
theorem dX12_goes_4 : decode cX12_goes 4 = .ok (.iconst 1, 1) := by decide +kernel
theorem dX12_goes_5 : decode cX12_goes 5 = .ok (.iaload, 1) := by decide +kernel
theorem dX12_goes_6 : decode cX12_goes 6 = .ok (.imul, 1) := by decide +kernel
theorem dX12_goes_7 : decode cX12_goes 7 = .ok (.iadd, 1) := by decide +kernel
theorem dX12_goes_8 : decode cX12_goes 8 = .ok (.iload_n 1, 1) := by decide +kernel
theorem dX12_goes_9 : decode cX12_goes 9 = .ok (.iastore, 1) := by decide +kernel
theorem dX12_goes_10 : decode cX12_goes 10 = .ok (.aload_n 0, 1) := by decide +kernel
theorem dX12_goes_11 : decode cX12_goes 11 = .ok (.iconst 1, 1) := by decide +kernel
theorem dX12_goes_12 : decode cX12_goes 12 = .ok (.dup2, 1) := by decide +kernel
theorem dX12_goes_13 : decode cX12_goes 13 = .ok (.iaload, 1) := by decide +kernel
theorem dX12_goes_14 : decode cX12_goes 14 = .ok (.iconst 1, 1) := by decide +kernel
theorem dX12_goes_15 : decode cX12_goes 15 = .ok (.iadd, 1) := by decide +kernel
theorem dX12_goes_16 : decode cX12_goes 16 = .ok (.iastore, 1) := by decide +kernel
theorem dX12_goes_17 : decode cX12_goes 17 = .ok (.aload_n 0, 1) := by decide +kernel
theorem dX12_goes_18 : decode cX12_goes 18 = .ok (.iconst 2, 1) := by decide +kernel
theorem dX12_goes_19 : decode cX12_goes 19 = .ok (.iconst 2, 1) := by decide +kernel
theorem dX12_goes_20 : decode cX12_goes 20 = .ok (.aload_n 0, 1) := by decide +kernel
theorem dX12_goes_21 : decode cX12_goes 21 = .ok (.iconst 1, 1) := by decide +kernel
theorem dX12_goes_22 : decode cX12_goes 22 = .ok (.iaload, 1) := by decide +kernel
theorem dX12_goes_23 : decode cX12_goes 23 = .ok (.imul, 1) := by decide +kernel
theorem dX12_goes_24 : decode cX12_goes 24 = .ok (.iadd, 1) := by decide +kernel
theorem dX12_goes_25 : decode cX12_goes 25 = .ok (.iload_n 2, 1) := by decide +kernel
theorem dX12_goes_26 : decode cX12_goes 26 = .ok (.iastore, 1) := by decide +kernel
theorem dX12_goes_27 : decode cX12_goes 27 = .ok (.return_, 1) := by decide +kernel
theorem dX12_forms_0 : decode cX12_forms 0 = .ok (.aload_n 1, 1) := by decide +kernel
theorem dX12_forms_1 : decode cX12_forms 1 = .ok (.iconst 0, 1) := by decide +kernel
theorem dX12_forms_2 : decode cX12_forms 2 = .ok (.invokestatic 94, 3) := by decide +kernel
theorem dX12_forms_5 : decode cX12_forms 5 = .ok (.istore_n 3, 1) := by decide +kernel
theorem dX12_forms_6 : decode cX12_forms 6 = .ok (.aload_n 1, 1) := by decide +kernel
theorem dX12_forms_7 : decode cX12_forms 7 = .ok (.iconst 0, 1) := by decide +kernel
theorem dX12_forms_8 : decode cX12_forms 8 = .ok (.iaload, 1) := by decide +kernel
theorem dX12_forms_9 : decode cX12_forms 9 = .ok (.istore 4, 2) := by decide +kernel
theorem dX12_forms_11 : decode cX12_forms 11 = .ok (.aload_n 0, 1) := by decide +kernel
theorem dX12_forms_12 : decode cX12_forms 12 = .ok (.iconst 0, 1) := by decide +kernel
theorem dX12_forms_13 : decode cX12_forms 13 = .ok (.putfield 97, 3) := by decide +kernel
theorem dX12_forms_16 : decode cX12_forms 16 = .ok (.aload_n 2, 1) := by decide +kernel
theorem dX12_forms_17 : decode cX12_forms 17 = .ok (.iload 4, 2) := by decide +kernel
theorem dX12_forms_19 : decode cX12_forms 19 = .ok (.iconst 0, 1) := by decide +kernel
theorem dX12_forms_20 : decode cX12_forms 20 = .ok (.invokestatic 100, 3) := by decide +kernel
theorem dX12_forms_23 : decode cX12_forms 23 = .ok (.iconst 0, 1) := by decide +kernel
theorem dX12_forms_24 : decode cX12_forms 24 = .ok (.istore 5, 2) := by decide +kernel
theorem dX12_forms_26 : decode cX12_forms 26 = .ok (.iload 5, 2) := by decide +kernel
theorem dX12_forms_28 : decode cX12_forms 28 = .ok (.aload_n 1, 1) := by decide +kernel
theorem dX12_forms_29 : decode cX12_forms 29 = .ok (.iconst 1, 1) := by decide +kernel
theorem dX12_forms_30 : decode cX12_forms 30 = .ok (.iaload, 1) := by decide +kernel
theorem dX12_forms_31 : decode cX12_forms 31 = .ok (.if_icmp .ge 172, 3) := by decide +kernel
theorem dX12_forms_34 : decode cX12_forms 34 = .ok (.aload_n 1, 1) := by decide +kernel
theorem dX12_forms_35 : decode cX12_forms 35 = .ok (.iload 5, 2) := by decide +kernel
theorem dX12_forms_37 : decode cX12_forms 37 = .ok (.invokestatic 87, 3) := by decide +kernel
theorem dX12_forms_40 : decode cX12_forms 40 = .ok (.istore 6, 2) := by decide +kernel
theorem dX12_forms_42 : decode cX12_forms 42 = .ok (.aload_n 2, 1) := by decide +kernel
theorem dX12_forms_43 : decode cX12_forms 43 = .ok (.iconst 1, 1) := by decide +kernel
theorem dX12_forms_44 : decode cX12_forms 44 = .ok (.iaload, 1) := by decide +kernel
theorem dX12_forms_45 : decode cX12_forms 45 = .ok (.istore 7, 2) := by decide +kernel
theorem dX12_forms_47 : decode cX12_forms 47 = .ok (.iload 7, 2) := by decide +kernel
theorem dX12_forms_49 : decode cX12_forms 49 = .ok (.ifCond .le 84, 3) := by decide +kernel
theorem dX12_forms_52 : decode cX12_forms 52 = .ok (.aload_n 2, 1) := by decide +kernel
theorem dX12_forms_53 : decode cX12_forms 53 = .ok (.iload 7, 2) := by decide +kernel
theorem dX12_forms_55 : decode cX12_forms 55 = .ok (.iconst 1, 1) := by decide +kernel
theorem dX12_forms_56 : decode cX12_forms 56 = .ok (.isub, 1) := by decide +kernel
theorem dX12_forms_57 : decode cX12_forms 57 = .ok (.invokestatic 87, 3) := by decide +kernel
theorem dX12_forms_60 : decode cX12_forms 60 = .ok (.iload 6, 2) := by decide +kernel
theorem dX12_forms_62 : decode cX12_forms 62 = .ok (.iconst 1, 1) := by decide +kernel
theorem dX12_forms_63 : decode cX12_forms 63 = .ok (.ixor, 1) := by decide +kernel
theorem dX12_forms_64 : decode cX12_forms 64 = .ok (.if_icmp .ne 69, 3) := by decide +kernel
theorem dX12_forms_67 : decode cX12_forms 67 = .ok (.iload_n 3, 1) := by decide +kernel
theorem dX12_forms_68 : decode cX12_forms 68 = .ok (.aload_n 0, 1) := by decide +kernel
theorem dX12_forms_69 : decode cX12_forms 69 = .ok (.iload 6, 2) := by decide +kernel
theorem dX12_forms_71 : decode cX12_forms 71 = .ok (.invokevirtual 81, 3) := by decide +kernel
theorem dX12_forms_74 : decode cX12_forms 74 = .ok (.irem, 1) := by decide +kernel
theorem dX12_forms_75 : decode cX12_forms 75 = .ok (.ifCond .ne 58, 3) := by decide +kernel
theorem dX12_forms_78 : decode cX12_forms 78 = .ok (.aload_n 2, 1) := by decide +kernel
theorem dX12_forms_79 : decode cX12_forms 79 = .ok (.iload 7, 2) := by decide +kernel
theorem dX12_forms_81 : decode cX12_forms 81 = .ok (.iconst 1, 1) := by decide +kernel
theorem dX12_forms_82 : decode cX12_forms 82 = .ok (.isub, 1) := by decide +kernel
theorem dX12_forms_83 : decode cX12_forms 83 = .ok (.invokestatic 87, 3) := by decide +kernel
theorem dX12_forms_86 : decode cX12_forms 86 = .ok (.istore 8, 2) := by decide +kernel
theorem dX12_forms_88 : decode cX12_forms 88 = .ok (.aload_n 2, 1) := by decide +kernel
theorem dX12_forms_89 : decode cX12_forms 89 = .ok (.iconst 1, 1) := by decide +kernel
theorem dX12_forms_90 : decode cX12_forms 90 = .ok (.dup2, 1) := by decide +kernel
theorem dX12_forms_91 : decode cX12_forms 91 = .ok (.iaload, 1) := by decide +kernel
theorem dX12_forms_92 : decode cX12_forms 92 = .ok (.iconst 1, 1) := by decide +kernel
theorem dX12_forms_93 : decode cX12_forms 93 = .ok (.isub, 1) := by decide +kernel
theorem dX12_forms_94 : decode cX12_forms 94 = .ok (.iastore, 1) := by decide +kernel
theorem dX12_forms_95 : decode cX12_forms 95 = .ok (.aload_n 2, 1) := by decide +kernel
theorem dX12_forms_96 : decode cX12_forms 96 = .ok (.iload 7, 2) := by decide +kernel
theorem dX12_forms_98 : decode cX12_forms 98 = .ok (.iconst 1, 1) := by decide +kernel
theorem dX12_forms_99 : decode cX12_forms 99 = .ok (.isub, 1) := by decide +kernel
theorem dX12_forms_100 : decode cX12_forms 100 = .ok (.invokestatic 94, 3) := by decide +kernel
theorem dX12_forms_103 : decode cX12_forms 103 = .ok (.iload_n 3, 1) := by decide +kernel
theorem dX12_forms_104 : decode cX12_forms 104 = .ok (.aload_n 0, 1) := by decide +kernel
theorem dX12_forms_105 : decode cX12_forms 105 = .ok (.iload 6, 2) := by decide +kernel
theorem dX12_forms_107 : decode cX12_forms 107 = .ok (.invokevirtual 81, 3) := by decide +kernel
theorem dX12_forms_110 : decode cX12_forms 110 = .ok (.idiv, 1) := by decide +kernel
theorem dX12_forms_111 : decode cX12_forms 111 = .ok (.aload_n 0, 1) := by decide +kernel
theorem dX12_forms_112 : decode cX12_forms 112 = .ok (.iload 8, 2) := by decide +kernel
theorem dX12_forms_114 : decode cX12_forms 114 = .ok (.invokevirtual 81, 3) := by decide +kernel
theorem dX12_forms_117 : decode cX12_forms 117 = .ok (.imul, 1) := by decide +kernel
theorem dX12_forms_118 : decode cX12_forms 118 = .ok (.iadd, 1) := by decide +kernel
theorem dX12_forms_119 : decode cX12_forms 119 = .ok (.istore_n 3, 1) := by decide +kernel
theorem dX12_forms_120 : decode cX12_forms 120 = .ok (.aload_n 0, 1) := by decide +kernel
theorem dX12_forms_121 : decode cX12_forms 121 = .ok (.dup, 1) := by decide +kernel
theorem dX12_forms_122 : decode cX12_forms 122 = .ok (.getfield 97, 3) := by decide +kernel
theorem dX12_forms_125 : decode cX12_forms 125 = .ok (.iconst 1, 1) := by decide +kernel
theorem dX12_forms_126 : decode cX12_forms 126 = .ok (.iadd, 1) := by decide +kernel
theorem dX12_forms_127 : decode cX12_forms 127 = .ok (.putfield 97, 3) := by decide +kernel
theorem dX12_forms_130 : decode cX12_forms 130 = .ok (.goto 42, 3) := by decide +kernel
theorem dX12_forms_133 : decode cX12_forms 133 = .ok (.aload_n 2, 1) := by decide +kernel
theorem dX12_forms_134 : decode cX12_forms 134 = .ok (.iconst 2, 1) := by decide +kernel
theorem dX12_forms_135 : decode cX12_forms 135 = .ok (.iconst 2, 1) := by decide +kernel
theorem dX12_forms_136 : decode cX12_forms 136 = .ok (.iload 7, 2) := by decide +kernel
theorem dX12_forms_138 : decode cX12_forms 138 = .ok (.imul, 1) := by decide +kernel
theorem dX12_forms_139 : decode cX12_forms 139 = .ok (.iadd, 1) := by decide +kernel
theorem dX12_forms_140 : decode cX12_forms 140 = .ok (.iload_n 3, 1) := by decide +kernel
theorem dX12_forms_141 : decode cX12_forms 141 = .ok (.aload_n 0, 1) := by decide +kernel
theorem dX12_forms_142 : decode cX12_forms 142 = .ok (.iload 6, 2) := by decide +kernel
theorem dX12_forms_144 : decode cX12_forms 144 = .ok (.invokevirtual 81, 3) := by decide +kernel
theorem dX12_forms_147 : decode cX12_forms 147 = .ok (.irem, 1) := by decide +kernel
theorem dX12_forms_148 : decode cX12_forms 148 = .ok (.iastore, 1) := by decide +kernel
theorem dX12_forms_149 : decode cX12_forms 149 = .ok (.aload_n 2, 1) := by decide +kernel
theorem dX12_forms_150 : decode cX12_forms 150 = .ok (.iload 6, 2) := by decide +kernel
theorem dX12_forms_152 : decode cX12_forms 152 = .ok (.iconst 0, 1) := by decide +kernel
theorem dX12_forms_153 : decode cX12_forms 153 = .ok (.invokestatic 104, 3) := by decide +kernel
theorem dX12_forms_156 : decode cX12_forms 156 = .ok (.aload_n 0, 1) := by decide +kernel
theorem dX12_forms_157 : decode cX12_forms 157 = .ok (.iload 6, 2) := by decide +kernel
theorem dX12_forms_159 : decode cX12_forms 159 = .ok (.invokevirtual 107, 3) := by decide +kernel
theorem dX12_forms_162 : decode cX12_forms 162 = .ok (.iload_n 3, 1) := by decide +kernel
theorem dX12_forms_163 : decode cX12_forms 163 = .ok (.aload_n 0, 1) := by decide +kernel
theorem dX12_forms_164 : decode cX12_forms 164 = .ok (.iload 6, 2) := by decide +kernel
theorem dX12_forms_166 : decode cX12_forms 166 = .ok (.invokevirtual 81, 3) := by decide +kernel
theorem dX12_forms_169 : decode cX12_forms 169 = .ok (.idiv, 1) := by decide +kernel
theorem dX12_forms_170 : decode cX12_forms 170 = .ok (.imul, 1) := by decide +kernel
theorem dX12_forms_171 : decode cX12_forms 171 = .ok (.istore_n 3, 1) := by decide +kernel
theorem dX12_forms_172 : decode cX12_forms 172 = .ok (.aload_n 0, 1) := by decide +kernel
theorem dX12_forms_173 : decode cX12_forms 173 = .ok (.iload 6, 2) := by decide +kernel
theorem dX12_forms_175 : decode cX12_forms 175 = .ok (.invokevirtual 91, 3) := by decide +kernel
theorem dX12_forms_178 : decode cX12_forms 178 = .ok (.istore 4, 2) := by decide +kernel
theorem dX12_forms_180 : decode cX12_forms 180 = .ok (.aload_n 0, 1) := by decide +kernel
theorem dX12_forms_181 : decode cX12_forms 181 = .ok (.iload 4, 2) := by decide +kernel
theorem dX12_forms_183 : decode cX12_forms 183 = .ok (.iload_n 3, 1) := by decide +kernel
theorem dX12_forms_184 : decode cX12_forms 184 = .ok (.aload_n 1, 1) := by decide +kernel
theorem dX12_forms_185 : decode cX12_forms 185 = .ok (.iload 5, 2) := by decide +kernel
theorem dX12_forms_187 : decode cX12_forms 187 = .ok (.iconst 1, 1) := by decide +kernel
theorem dX12_forms_188 : decode cX12_forms 188 = .ok (.iadd, 1) := by decide +kernel
theorem dX12_forms_189 : decode cX12_forms 189 = .ok (.invokestatic 94, 3) := by decide +kernel
theorem dX12_forms_192 : decode cX12_forms 192 = .ok (.iadd, 1) := by decide +kernel
theorem dX12_forms_193 : decode cX12_forms 193 = .ok (.invokevirtual 110, 3) := by decide +kernel
theorem dX12_forms_196 : decode cX12_forms 196 = .ok (.istore_n 3, 1) := by decide +kernel
theorem dX12_forms_197 : decode cX12_forms 197 = .ok (.iinc 5 1, 3) := by decide +kernel
theorem dX12_forms_200 : decode cX12_forms 200 = .ok (.goto (-174), 3) := by decide +kernel
theorem dX12_forms_203 : decode cX12_forms 203 = .ok (.aload_n 2, 1) := by decide +kernel
theorem dX12_forms_204 : decode cX12_forms 204 = .ok (.iconst 2, 1) := by decide +kernel
theorem dX12_forms_205 : decode cX12_forms 205 = .ok (.iconst 2, 1) := by decide +kernel
theorem dX12_forms_206 : decode cX12_forms 206 = .ok (.aload_n 2, 1) := by decide +kernel
theorem dX12_forms_207 : decode cX12_forms 207 = .ok (.iconst 1, 1) := by decide +kernel
theorem dX12_forms_208 : decode cX12_forms 208 = .ok (.iaload, 1) := by decide +kernel
theorem dX12_forms_209 : decode cX12_forms 209 = .ok (.imul, 1) := by decide +kernel
theorem dX12_forms_210 : decode cX12_forms 210 = .ok (.iadd, 1) := by decide +kernel
theorem dX12_forms_211 : decode cX12_forms 211 = .ok (.iload_n 3, 1) := by decide +kernel
theorem dX12_forms_212 : decode cX12_forms 212 = .ok (.iastore, 1) := by decide +kernel
theorem dX12_forms_213 : decode cX12_forms 213 = .ok (.return_, 1) := by decide +kernel
theorem dX12_isLike_0 : decode cX12_isLike 0 = .ok (.aload_n 0, 1) := by decide +kernel
theorem dX12_isLike_1 : decode cX12_isLike 1 = .ok (.iconst 0, 1) := by decide +kernel
theorem dX12_isLike_2 : decode cX12_isLike 2 = .ok (.iaload, 1) := by decide +kernel
theorem dX12_isLike_3 : decode cX12_isLike 3 = .ok (.aload_n 1, 1) := by decide +kernel
theorem dX12_isLike_4 : decode cX12_isLike 4 = .ok (.iconst 0, 1) := by decide +kernel
theorem dX12_isLike_5 : decode cX12_isLike 5 = .ok (.iaload, 1) := by decide +kernel
theorem dX12_isLike_6 : decode cX12_isLike 6 = .ok (.if_icmp .ne 16, 3) := by decide +kernel
theorem dX12_isLike_9 : decode cX12_isLike 9 = .ok (.aload_n 0, 1) := by decide +kernel
theorem dX12_isLike_10 : decode cX12_isLike 10 = .ok (.iconst 1, 1) := by decide +kernel
theorem dX12_isLike_11 : decode cX12_isLike 11 = .ok (.iaload, 1) := by decide +kernel
theorem dX12_isLike_12 : decode cX12_isLike 12 = .ok (.aload_n 1, 1) := by decide +kernel
theorem dX12_isLike_13 : decode cX12_isLike 13 = .ok (.iconst 1, 1) := by decide +kernel
theorem dX12_isLike_14 : decode cX12_isLike 14 = .ok (.iaload, 1) := by decide +kernel
theorem dX12_isLike_15 : decode cX12_isLike 15 = .ok (.if_icmp .ne 7, 3) := by decide +kernel
theorem dX12_isLike_18 : decode cX12_isLike 18 = .ok (.iconst 1, 1) := by decide +kernel
theorem dX12_isLike_19 : decode cX12_isLike 19 = .ok (.goto 4, 3) := by decide +kernel
theorem dX12_isLike_22 : decode cX12_isLike 22 = .ok (.iconst 0, 1) := by decide +kernel
theorem dX12_isLike_23 : decode cX12_isLike 23 = .ok (.istore_n 2, 1) := by decide +kernel
theorem dX12_isLike_24 : decode cX12_isLike 24 = .ok (.iconst 0, 1) := by decide +kernel
theorem dX12_isLike_25 : decode cX12_isLike 25 = .ok (.istore_n 3, 1) := by decide +kernel
theorem dX12_isLike_26 : decode cX12_isLike 26 = .ok (.iload_n 3, 1) := by decide +kernel
theorem dX12_isLike_27 : decode cX12_isLike 27 = .ok (.iconst 2, 1) := by decide +kernel
theorem dX12_isLike_28 : decode cX12_isLike 28 = .ok (.aload_n 0, 1) := by decide +kernel
theorem dX12_isLike_29 : decode cX12_isLike 29 = .ok (.iconst 1, 1) := by decide +kernel
theorem dX12_isLike_30 : decode cX12_isLike 30 = .ok (.iaload, 1) := by decide +kernel
theorem dX12_isLike_31 : decode cX12_isLike 31 = .ok (.imul, 1) := by decide +kernel
theorem dX12_isLike_32 : decode cX12_isLike 32 = .ok (.if_icmp .gt 32, 3) := by decide +kernel
theorem dX12_isLike_35 : decode cX12_isLike 35 = .ok (.iload_n 2, 1) := by decide +kernel
theorem dX12_isLike_36 : decode cX12_isLike 36 = .ok (.ifCond .eq 28, 3) := by decide +kernel
theorem dX12_isLike_39 : decode cX12_isLike 39 = .ok (.aload_n 0, 1) := by decide +kernel
theorem dX12_isLike_40 : decode cX12_isLike 40 = .ok (.iconst 2, 1) := by decide +kernel
theorem dX12_isLike_41 : decode cX12_isLike 41 = .ok (.iload_n 3, 1) := by decide +kernel
theorem dX12_isLike_42 : decode cX12_isLike 42 = .ok (.iadd, 1) := by decide +kernel
theorem dX12_isLike_43 : decode cX12_isLike 43 = .ok (.iaload, 1) := by decide +kernel
theorem dX12_isLike_44 : decode cX12_isLike 44 = .ok (.aload_n 1, 1) := by decide +kernel
theorem dX12_isLike_45 : decode cX12_isLike 45 = .ok (.iconst 2, 1) := by decide +kernel
theorem dX12_isLike_46 : decode cX12_isLike 46 = .ok (.iload_n 3, 1) := by decide +kernel
theorem dX12_isLike_47 : decode cX12_isLike 47 = .ok (.iadd, 1) := by decide +kernel
theorem dX12_isLike_48 : decode cX12_isLike 48 = .ok (.iaload, 1) := by decide +kernel
theorem dX12_isLike_49 : decode cX12_isLike 49 = .ok (.if_icmp .ne 7, 3) := by decide +kernel
theorem dX12_isLike_52 : decode cX12_isLike 52 = .ok (.iconst 1, 1) := by decide +kernel
theorem dX12_isLike_53 : decode cX12_isLike 53 = .ok (.goto 4, 3) := by decide +kernel
theorem dX12_isLike_56 : decode cX12_isLike 56 = .ok (.iconst 0, 1) := by decide +kernel
theorem dX12_isLike_57 : decode cX12_isLike 57 = .ok (.istore_n 2, 1) := by decide +kernel
theorem dX12_isLike_58 : decode cX12_isLike 58 = .ok (.iinc 3 1, 3) := by decide +kernel
theorem dX12_isLike_61 : decode cX12_isLike 61 = .ok (.goto (-35), 3) := by decide +kernel
theorem dX12_isLike_64 : decode cX12_isLike 64 = .ok (.iload_n 2, 1) := by decide +kernel
theorem dX12_isLike_65 : decode cX12_isLike 65 = .ok (.ireturn, 1) := by decide +kernel
theorem dX12_joins_0 : decode cX12_joins 0 = .ok (.aload_n 1, 1) := by decide +kernel
theorem dX12_joins_1 : decode cX12_joins 1 = .ok (.aload_n 0, 1) := by decide +kernel
theorem dX12_joins_2 : decode cX12_joins 2 = .ok (.getfield 18, 3) := by decide +kernel
theorem dX12_joins_5 : decode cX12_joins 5 = .ok (.invokestatic 113, 3) := by decide +kernel
theorem dX12_joins_8 : decode cX12_joins 8 = .ok (.aload_n 0, 1) := by decide +kernel
theorem dX12_joins_9 : decode cX12_joins 9 = .ok (.getfield 18, 3) := by decide +kernel
theorem dX12_joins_12 : decode cX12_joins 12 = .ok (.iconst 2, 1) := by decide +kernel
theorem dX12_joins_13 : decode cX12_joins 13 = .ok (.iconst 2, 1) := by decide +kernel
theorem dX12_joins_14 : decode cX12_joins 14 = .ok (.aload_n 1, 1) := by decide +kernel
theorem dX12_joins_15 : decode cX12_joins 15 = .ok (.iconst 1, 1) := by decide +kernel
theorem dX12_joins_16 : decode cX12_joins 16 = .ok (.iaload, 1) := by decide +kernel
theorem dX12_joins_17 : decode cX12_joins 17 = .ok (.imul, 1) := by decide +kernel
theorem dX12_joins_18 : decode cX12_joins 18 = .ok (.iadd, 1) := by decide +kernel
theorem dX12_joins_19 : decode cX12_joins 19 = .ok (.aload_n 0, 1) := by decide +kernel
theorem dX12_joins_20 : decode cX12_joins 20 = .ok (.aload_n 0, 1) := by decide +kernel
theorem dX12_joins_21 : decode cX12_joins 21 = .ok (.aload_n 1, 1) := by decide +kernel
theorem dX12_joins_22 : decode cX12_joins 22 = .ok (.invokevirtual 117, 3) := by decide +kernel
theorem dX12_joins_25 : decode cX12_joins 25 = .ok (.aload_n 1, 1) := by decide +kernel
theorem dX12_joins_26 : decode cX12_joins 26 = .ok (.invokestatic 121, 3) := by decide +kernel
theorem dX12_joins_29 : decode cX12_joins 29 = .ok (.aload_n 2, 1) := by decide +kernel
theorem dX12_joins_30 : decode cX12_joins 30 = .ok (.iconst 0, 1) := by decide +kernel
theorem dX12_joins_31 : decode cX12_joins 31 = .ok (.invokestatic 94, 3) := by decide +kernel
theorem dX12_joins_34 : decode cX12_joins 34 = .ok (.iadd, 1) := by decide +kernel
theorem dX12_joins_35 : decode cX12_joins 35 = .ok (.invokevirtual 110, 3) := by decide +kernel
theorem dX12_joins_38 : decode cX12_joins 38 = .ok (.iastore, 1) := by decide +kernel
theorem dX12_joins_39 : decode cX12_joins 39 = .ok (.iconst 0, 1) := by decide +kernel
theorem dX12_joins_40 : decode cX12_joins 40 = .ok (.istore 4, 2) := by decide +kernel
theorem dX12_joins_42 : decode cX12_joins 42 = .ok (.iload 4, 2) := by decide +kernel
theorem dX12_joins_44 : decode cX12_joins 44 = .ok (.aload_n 2, 1) := by decide +kernel
theorem dX12_joins_45 : decode cX12_joins 45 = .ok (.iconst 1, 1) := by decide +kernel
theorem dX12_joins_46 : decode cX12_joins 46 = .ok (.iaload, 1) := by decide +kernel
theorem dX12_joins_47 : decode cX12_joins 47 = .ok (.if_icmp .ge 30, 3) := by decide +kernel
theorem dX12_joins_50 : decode cX12_joins 50 = .ok (.aload_n 0, 1) := by decide +kernel
theorem dX12_joins_51 : decode cX12_joins 51 = .ok (.getfield 18, 3) := by decide +kernel
theorem dX12_joins_54 : decode cX12_joins 54 = .ok (.aload_n 2, 1) := by decide +kernel
theorem dX12_joins_55 : decode cX12_joins 55 = .ok (.iload 4, 2) := by decide +kernel
theorem dX12_joins_57 : decode cX12_joins 57 = .ok (.invokestatic 87, 3) := by decide +kernel
theorem dX12_joins_60 : decode cX12_joins 60 = .ok (.aload_n 2, 1) := by decide +kernel
theorem dX12_joins_61 : decode cX12_joins 61 = .ok (.iload 4, 2) := by decide +kernel
theorem dX12_joins_63 : decode cX12_joins 63 = .ok (.iconst 1, 1) := by decide +kernel
theorem dX12_joins_64 : decode cX12_joins 64 = .ok (.iadd, 1) := by decide +kernel
theorem dX12_joins_65 : decode cX12_joins 65 = .ok (.invokestatic 94, 3) := by decide +kernel
theorem dX12_joins_68 : decode cX12_joins 68 = .ok (.invokestatic 104, 3) := by decide +kernel
theorem dX12_joins_71 : decode cX12_joins 71 = .ok (.iinc 4 1, 3) := by decide +kernel
theorem dX12_joins_74 : decode cX12_joins 74 = .ok (.goto (-32), 3) := by decide +kernel
theorem dX12_joins_77 : decode cX12_joins 77 = .ok (.aload_n 0, 1) := by decide +kernel
theorem dX12_joins_78 : decode cX12_joins 78 = .ok (.aload_n 0, 1) := by decide +kernel
theorem dX12_joins_79 : decode cX12_joins 79 = .ok (.getfield 18, 3) := by decide +kernel
theorem dX12_joins_82 : decode cX12_joins 82 = .ok (.aload_n 3, 1) := by decide +kernel
theorem dX12_joins_83 : decode cX12_joins 83 = .ok (.invokevirtual 124, 3) := by decide +kernel
theorem dX12_joins_86 : decode cX12_joins 86 = .ok (.return_, 1) := by decide +kernel
theorem dX12_turns_0 : decode cX12_turns 0 = .ok (.aload_n 0, 1) := by decide +kernel
theorem dX12_turns_1 : decode cX12_turns 1 = .ok (.aload_n 1, 1) := by decide +kernel
theorem dX12_turns_2 : decode cX12_turns 2 = .ok (.invokevirtual 117, 3) := by decide +kernel
theorem dX12_turns_5 : decode cX12_turns 5 = .ok (.istore_n 3, 1) := by decide +kernel
theorem dX12_turns_6 : decode cX12_turns 6 = .ok (.aload_n 0, 1) := by decide +kernel
theorem dX12_turns_7 : decode cX12_turns 7 = .ok (.getfield 18, 3) := by decide +kernel
theorem dX12_turns_10 : decode cX12_turns 10 = .ok (.iload_n 3, 1) := by decide +kernel
theorem dX12_turns_11 : decode cX12_turns 11 = .ok (.aload_n 0, 1) := by decide +kernel
theorem dX12_turns_12 : decode cX12_turns 12 = .ok (.iload_n 3, 1) := by decide +kernel
theorem dX12_turns_13 : decode cX12_turns 13 = .ok (.aload_n 1, 1) := by decide +kernel
theorem dX12_turns_14 : decode cX12_turns 14 = .ok (.invokestatic 121, 3) := by decide +kernel
theorem dX12_turns_17 : decode cX12_turns 17 = .ok (.ineg, 1) := by decide +kernel
theorem dX12_turns_18 : decode cX12_turns 18 = .ok (.invokevirtual 110, 3) := by decide +kernel
theorem dX12_turns_21 : decode cX12_turns 21 = .ok (.invokestatic 100, 3) := by decide +kernel
theorem dX12_turns_24 : decode cX12_turns 24 = .ok (.aload_n 1, 1) := by decide +kernel
theorem dX12_turns_25 : decode cX12_turns 25 = .ok (.iconst 1, 1) := by decide +kernel
theorem dX12_turns_26 : decode cX12_turns 26 = .ok (.iaload, 1) := by decide +kernel
theorem dX12_turns_27 : decode cX12_turns 27 = .ok (.iconst 1, 1) := by decide +kernel
theorem dX12_turns_28 : decode cX12_turns 28 = .ok (.isub, 1) := by decide +kernel
theorem dX12_turns_29 : decode cX12_turns 29 = .ok (.istore 4, 2) := by decide +kernel
theorem dX12_turns_31 : decode cX12_turns 31 = .ok (.iload 4, 2) := by decide +kernel
theorem dX12_turns_33 : decode cX12_turns 33 = .ok (.ifCond .lt 49, 3) := by decide +kernel
theorem dX12_turns_36 : decode cX12_turns 36 = .ok (.aload_n 0, 1) := by decide +kernel
theorem dX12_turns_37 : decode cX12_turns 37 = .ok (.aload_n 1, 1) := by decide +kernel
theorem dX12_turns_38 : decode cX12_turns 38 = .ok (.iload 4, 2) := by decide +kernel
theorem dX12_turns_40 : decode cX12_turns 40 = .ok (.invokestatic 87, 3) := by decide +kernel
theorem dX12_turns_43 : decode cX12_turns 43 = .ok (.invokevirtual 78, 3) := by decide +kernel
theorem dX12_turns_46 : decode cX12_turns 46 = .ok (.istore 5, 2) := by decide +kernel
theorem dX12_turns_48 : decode cX12_turns 48 = .ok (.aload_n 0, 1) := by decide +kernel
theorem dX12_turns_49 : decode cX12_turns 49 = .ok (.getfield 18, 3) := by decide +kernel
theorem dX12_turns_52 : decode cX12_turns 52 = .ok (.aload_n 1, 1) := by decide +kernel
theorem dX12_turns_53 : decode cX12_turns 53 = .ok (.iload 4, 2) := by decide +kernel
theorem dX12_turns_55 : decode cX12_turns 55 = .ok (.invokestatic 87, 3) := by decide +kernel
theorem dX12_turns_58 : decode cX12_turns 58 = .ok (.iconst 1, 1) := by decide +kernel
theorem dX12_turns_59 : decode cX12_turns 59 = .ok (.ixor, 1) := by decide +kernel
theorem dX12_turns_60 : decode cX12_turns 60 = .ok (.aload_n 0, 1) := by decide +kernel
theorem dX12_turns_61 : decode cX12_turns 61 = .ok (.iload 5, 2) := by decide +kernel
theorem dX12_turns_63 : decode cX12_turns 63 = .ok (.aload_n 1, 1) := by decide +kernel
theorem dX12_turns_64 : decode cX12_turns 64 = .ok (.iload 4, 2) := by decide +kernel
theorem dX12_turns_66 : decode cX12_turns 66 = .ok (.invokestatic 94, 3) := by decide +kernel
theorem dX12_turns_69 : decode cX12_turns 69 = .ok (.ineg, 1) := by decide +kernel
theorem dX12_turns_70 : decode cX12_turns 70 = .ok (.invokevirtual 110, 3) := by decide +kernel
theorem dX12_turns_73 : decode cX12_turns 73 = .ok (.invokestatic 104, 3) := by decide +kernel
theorem dX12_turns_76 : decode cX12_turns 76 = .ok (.iinc 4 (-1), 3) := by decide +kernel
theorem dX12_turns_79 : decode cX12_turns 79 = .ok (.goto (-48), 3) := by decide +kernel
theorem dX12_turns_82 : decode cX12_turns 82 = .ok (.aload_n 0, 1) := by decide +kernel
theorem dX12_turns_83 : decode cX12_turns 83 = .ok (.aload_n 0, 1) := by decide +kernel
theorem dX12_turns_84 : decode cX12_turns 84 = .ok (.getfield 18, 3) := by decide +kernel
theorem dX12_turns_87 : decode cX12_turns 87 = .ok (.aload_n 2, 1) := by decide +kernel
theorem dX12_turns_88 : decode cX12_turns 88 = .ok (.invokevirtual 124, 3) := by decide +kernel
theorem dX12_turns_91 : decode cX12_turns 91 = .ok (.return_, 1) := by decide +kernel
theorem dX12_isLoop_0 : decode cX12_isLoop 0 = .ok (.aload_n 0, 1) := by decide +kernel
theorem dX12_isLoop_1 : decode cX12_isLoop 1 = .ok (.iload_n 1, 1) := by decide +kernel
theorem dX12_isLoop_2 : decode cX12_isLoop 2 = .ok (.aload_n 0, 1) := by decide +kernel
theorem dX12_isLoop_3 : decode cX12_isLoop 3 = .ok (.getfield 15, 3) := by decide +kernel
theorem dX12_isLoop_6 : decode cX12_isLoop 6 = .ok (.bipush 9, 2) := by decide +kernel
theorem dX12_isLoop_8 : decode cX12_isLoop 8 = .ok (.aaload, 1) := by decide +kernel
theorem dX12_isLoop_9 : decode cX12_isLoop 9 = .ok (.invokevirtual 127, 3) := by decide +kernel
theorem dX12_isLoop_12 : decode cX12_isLoop 12 = .ok (.aload_n 0, 1) := by decide +kernel
theorem dX12_isLoop_13 : decode cX12_isLoop 13 = .ok (.aload_n 0, 1) := by decide +kernel
theorem dX12_isLoop_14 : decode cX12_isLoop 14 = .ok (.getfield 15, 3) := by decide +kernel
theorem dX12_isLoop_17 : decode cX12_isLoop 17 = .ok (.bipush 9, 2) := by decide +kernel
theorem dX12_isLoop_19 : decode cX12_isLoop 19 = .ok (.aaload, 1) := by decide +kernel
theorem dX12_isLoop_20 : decode cX12_isLoop 20 = .ok (.invokevirtual 117, 3) := by decide +kernel
theorem dX12_isLoop_23 : decode cX12_isLoop 23 = .ok (.aload_n 0, 1) := by decide +kernel
theorem dX12_isLoop_24 : decode cX12_isLoop 24 = .ok (.getfield 15, 3) := by decide +kernel
theorem dX12_isLoop_27 : decode cX12_isLoop 27 = .ok (.bipush 9, 2) := by decide +kernel
theorem dX12_isLoop_29 : decode cX12_isLoop 29 = .ok (.aaload, 1) := by decide +kernel
theorem dX12_isLoop_30 : decode cX12_isLoop 30 = .ok (.iconst 0, 1) := by decide +kernel
theorem dX12_isLoop_31 : decode cX12_isLoop 31 = .ok (.iaload, 1) := by decide +kernel
theorem dX12_isLoop_32 : decode cX12_isLoop 32 = .ok (.if_icmp .ne 7, 3) := by decide +kernel
theorem dX12_isLoop_35 : decode cX12_isLoop 35 = .ok (.iconst 1, 1) := by decide +kernel
theorem dX12_isLoop_36 : decode cX12_isLoop 36 = .ok (.goto 4, 3) := by decide +kernel
theorem dX12_isLoop_39 : decode cX12_isLoop 39 = .ok (.iconst 0, 1) := by decide +kernel
theorem dX12_isLoop_40 : decode cX12_isLoop 40 = .ok (.ireturn, 1) := by decide +kernel
theorem dX12_cores_0 : decode cX12_cores 0 = .ok (.aload_n 0, 1) := by decide +kernel
theorem dX12_cores_1 : decode cX12_cores 1 = .ok (.aload_n 1, 1) := by decide +kernel
theorem dX12_cores_2 : decode cX12_cores 2 = .ok (.aload_n 0, 1) := by decide +kernel
theorem dX12_cores_3 : decode cX12_cores 3 = .ok (.getfield 21, 3) := by decide +kernel
theorem dX12_cores_6 : decode cX12_cores 6 = .ok (.invokevirtual 124, 3) := by decide +kernel
theorem dX12_cores_9 : decode cX12_cores 9 = .ok (.aload_n 0, 1) := by decide +kernel
theorem dX12_cores_10 : decode cX12_cores 10 = .ok (.getfield 21, 3) := by decide +kernel
theorem dX12_cores_13 : decode cX12_cores 13 = .ok (.aload_n 1, 1) := by decide +kernel
theorem dX12_cores_14 : decode cX12_cores 14 = .ok (.invokestatic 113, 3) := by decide +kernel
theorem dX12_cores_17 : decode cX12_cores 17 = .ok (.aload_n 1, 1) := by decide +kernel
theorem dX12_cores_18 : decode cX12_cores 18 = .ok (.iconst 1, 1) := by decide +kernel
theorem dX12_cores_19 : decode cX12_cores 19 = .ok (.iaload, 1) := by decide +kernel
theorem dX12_cores_20 : decode cX12_cores 20 = .ok (.iconst 1, 1) := by decide +kernel
theorem dX12_cores_21 : decode cX12_cores 21 = .ok (.if_icmp .le 174, 3) := by decide +kernel
theorem dX12_cores_24 : decode cX12_cores 24 = .ok (.aload_n 1, 1) := by decide +kernel
theorem dX12_cores_25 : decode cX12_cores 25 = .ok (.iconst 0, 1) := by decide +kernel
theorem dX12_cores_26 : decode cX12_cores 26 = .ok (.invokestatic 87, 3) := by decide +kernel
theorem dX12_cores_29 : decode cX12_cores 29 = .ok (.istore_n 2, 1) := by decide +kernel
theorem dX12_cores_30 : decode cX12_cores 30 = .ok (.aload_n 1, 1) := by decide +kernel
theorem dX12_cores_31 : decode cX12_cores 31 = .ok (.iconst 1, 1) := by decide +kernel
theorem dX12_cores_32 : decode cX12_cores 32 = .ok (.iaload, 1) := by decide +kernel
theorem dX12_cores_33 : decode cX12_cores 33 = .ok (.istore_n 3, 1) := by decide +kernel
theorem dX12_cores_34 : decode cX12_cores 34 = .ok (.aload_n 0, 1) := by decide +kernel
theorem dX12_cores_35 : decode cX12_cores 35 = .ok (.aload_n 1, 1) := by decide +kernel
theorem dX12_cores_36 : decode cX12_cores 36 = .ok (.iconst 0, 1) := by decide +kernel
theorem dX12_cores_37 : decode cX12_cores 37 = .ok (.iaload, 1) := by decide +kernel
theorem dX12_cores_38 : decode cX12_cores 38 = .ok (.aload_n 1, 1) := by decide +kernel
theorem dX12_cores_39 : decode cX12_cores 39 = .ok (.invokestatic 121, 3) := by decide +kernel
theorem dX12_cores_42 : decode cX12_cores 42 = .ok (.aload_n 1, 1) := by decide +kernel
theorem dX12_cores_43 : decode cX12_cores 43 = .ok (.iconst 0, 1) := by decide +kernel
theorem dX12_cores_44 : decode cX12_cores 44 = .ok (.invokestatic 94, 3) := by decide +kernel
theorem dX12_cores_47 : decode cX12_cores 47 = .ok (.iadd, 1) := by decide +kernel
theorem dX12_cores_48 : decode cX12_cores 48 = .ok (.invokevirtual 110, 3) := by decide +kernel
theorem dX12_cores_51 : decode cX12_cores 51 = .ok (.istore 4, 2) := by decide +kernel
theorem dX12_cores_53 : decode cX12_cores 53 = .ok (.aload_n 1, 1) := by decide +kernel
theorem dX12_cores_54 : decode cX12_cores 54 = .ok (.iload_n 3, 1) := by decide +kernel
theorem dX12_cores_55 : decode cX12_cores 55 = .ok (.iconst 1, 1) := by decide +kernel
theorem dX12_cores_56 : decode cX12_cores 56 = .ok (.isub, 1) := by decide +kernel
theorem dX12_cores_57 : decode cX12_cores 57 = .ok (.invokestatic 87, 3) := by decide +kernel
theorem dX12_cores_60 : decode cX12_cores 60 = .ok (.iload_n 2, 1) := by decide +kernel
theorem dX12_cores_61 : decode cX12_cores 61 = .ok (.iconst 1, 1) := by decide +kernel
theorem dX12_cores_62 : decode cX12_cores 62 = .ok (.ixor, 1) := by decide +kernel
theorem dX12_cores_63 : decode cX12_cores 63 = .ok (.if_icmp .ne 14, 3) := by decide +kernel
theorem dX12_cores_66 : decode cX12_cores 66 = .ok (.iload 4, 2) := by decide +kernel
theorem dX12_cores_68 : decode cX12_cores 68 = .ok (.aload_n 0, 1) := by decide +kernel
theorem dX12_cores_69 : decode cX12_cores 69 = .ok (.iload_n 2, 1) := by decide +kernel
theorem dX12_cores_70 : decode cX12_cores 70 = .ok (.invokevirtual 81, 3) := by decide +kernel
theorem dX12_cores_73 : decode cX12_cores 73 = .ok (.irem, 1) := by decide +kernel
theorem dX12_cores_74 : decode cX12_cores 74 = .ok (.ifCond .eq 4, 3) := by decide +kernel
theorem dX12_cores_77 : decode cX12_cores 77 = .ok (.return_, 1) := by decide +kernel
theorem dX12_cores_78 : decode cX12_cores 78 = .ok (.aload_n 0, 1) := by decide +kernel
theorem dX12_cores_79 : decode cX12_cores 79 = .ok (.getfield 18, 3) := by decide +kernel
theorem dX12_cores_82 : decode cX12_cores 82 = .ok (.aload_n 0, 1) := by decide +kernel
theorem dX12_cores_83 : decode cX12_cores 83 = .ok (.iload_n 2, 1) := by decide +kernel
theorem dX12_cores_84 : decode cX12_cores 84 = .ok (.invokevirtual 91, 3) := by decide +kernel
theorem dX12_cores_87 : decode cX12_cores 87 = .ok (.aload_n 1, 1) := by decide +kernel
theorem dX12_cores_88 : decode cX12_cores 88 = .ok (.iconst 1, 1) := by decide +kernel
theorem dX12_cores_89 : decode cX12_cores 89 = .ok (.invokestatic 94, 3) := by decide +kernel
theorem dX12_cores_92 : decode cX12_cores 92 = .ok (.invokestatic 100, 3) := by decide +kernel
theorem dX12_cores_95 : decode cX12_cores 95 = .ok (.iconst 1, 1) := by decide +kernel
theorem dX12_cores_96 : decode cX12_cores 96 = .ok (.istore 5, 2) := by decide +kernel
theorem dX12_cores_98 : decode cX12_cores 98 = .ok (.iload 5, 2) := by decide +kernel
theorem dX12_cores_100 : decode cX12_cores 100 = .ok (.iconst 1, 1) := by decide +kernel
theorem dX12_cores_101 : decode cX12_cores 101 = .ok (.iadd, 1) := by decide +kernel
theorem dX12_cores_102 : decode cX12_cores 102 = .ok (.iload_n 3, 1) := by decide +kernel
theorem dX12_cores_103 : decode cX12_cores 103 = .ok (.if_icmp .ge 30, 3) := by decide +kernel
theorem dX12_cores_106 : decode cX12_cores 106 = .ok (.aload_n 0, 1) := by decide +kernel
theorem dX12_cores_107 : decode cX12_cores 107 = .ok (.getfield 18, 3) := by decide +kernel
theorem dX12_cores_110 : decode cX12_cores 110 = .ok (.aload_n 1, 1) := by decide +kernel
theorem dX12_cores_111 : decode cX12_cores 111 = .ok (.iload 5, 2) := by decide +kernel
theorem dX12_cores_113 : decode cX12_cores 113 = .ok (.invokestatic 87, 3) := by decide +kernel
theorem dX12_cores_116 : decode cX12_cores 116 = .ok (.aload_n 1, 1) := by decide +kernel
theorem dX12_cores_117 : decode cX12_cores 117 = .ok (.iload 5, 2) := by decide +kernel
theorem dX12_cores_119 : decode cX12_cores 119 = .ok (.iconst 1, 1) := by decide +kernel
theorem dX12_cores_120 : decode cX12_cores 120 = .ok (.iadd, 1) := by decide +kernel
theorem dX12_cores_121 : decode cX12_cores 121 = .ok (.invokestatic 94, 3) := by decide +kernel
theorem dX12_cores_124 : decode cX12_cores 124 = .ok (.invokestatic 104, 3) := by decide +kernel
theorem dX12_cores_127 : decode cX12_cores 127 = .ok (.iinc 5 1, 3) := by decide +kernel
theorem dX12_cores_130 : decode cX12_cores 130 = .ok (.goto (-32), 3) := by decide +kernel
theorem dX12_cores_133 : decode cX12_cores 133 = .ok (.iconst 2, 1) := by decide +kernel
theorem dX12_cores_134 : decode cX12_cores 134 = .ok (.iconst 2, 1) := by decide +kernel
theorem dX12_cores_135 : decode cX12_cores 135 = .ok (.aload_n 0, 1) := by decide +kernel
theorem dX12_cores_136 : decode cX12_cores 136 = .ok (.getfield 18, 3) := by decide +kernel
theorem dX12_cores_139 : decode cX12_cores 139 = .ok (.iconst 1, 1) := by decide +kernel
theorem dX12_cores_140 : decode cX12_cores 140 = .ok (.iaload, 1) := by decide +kernel
theorem dX12_cores_141 : decode cX12_cores 141 = .ok (.imul, 1) := by decide +kernel
theorem dX12_cores_142 : decode cX12_cores 142 = .ok (.iadd, 1) := by decide +kernel
theorem dX12_cores_143 : decode cX12_cores 143 = .ok (.istore 5, 2) := by decide +kernel
theorem dX12_cores_145 : decode cX12_cores 145 = .ok (.aload_n 0, 1) := by decide +kernel
theorem dX12_cores_146 : decode cX12_cores 146 = .ok (.getfield 18, 3) := by decide +kernel
theorem dX12_cores_149 : decode cX12_cores 149 = .ok (.iload 5, 2) := by decide +kernel
theorem dX12_cores_151 : decode cX12_cores 151 = .ok (.aload_n 0, 1) := by decide +kernel
theorem dX12_cores_152 : decode cX12_cores 152 = .ok (.aload_n 0, 1) := by decide +kernel
theorem dX12_cores_153 : decode cX12_cores 153 = .ok (.iload_n 2, 1) := by decide +kernel
theorem dX12_cores_154 : decode cX12_cores 154 = .ok (.invokevirtual 91, 3) := by decide +kernel
theorem dX12_cores_157 : decode cX12_cores 157 = .ok (.aload_n 0, 1) := by decide +kernel
theorem dX12_cores_158 : decode cX12_cores 158 = .ok (.getfield 18, 3) := by decide +kernel
theorem dX12_cores_161 : decode cX12_cores 161 = .ok (.iload 5, 2) := by decide +kernel
theorem dX12_cores_163 : decode cX12_cores 163 = .ok (.iaload, 1) := by decide +kernel
theorem dX12_cores_164 : decode cX12_cores 164 = .ok (.iload 4, 2) := by decide +kernel
theorem dX12_cores_166 : decode cX12_cores 166 = .ok (.aload_n 0, 1) := by decide +kernel
theorem dX12_cores_167 : decode cX12_cores 167 = .ok (.iload_n 2, 1) := by decide +kernel
theorem dX12_cores_168 : decode cX12_cores 168 = .ok (.invokevirtual 81, 3) := by decide +kernel
theorem dX12_cores_171 : decode cX12_cores 171 = .ok (.idiv, 1) := by decide +kernel
theorem dX12_cores_172 : decode cX12_cores 172 = .ok (.aload_n 0, 1) := by decide +kernel
theorem dX12_cores_173 : decode cX12_cores 173 = .ok (.iload_n 2, 1) := by decide +kernel
theorem dX12_cores_174 : decode cX12_cores 174 = .ok (.invokevirtual 107, 3) := by decide +kernel
theorem dX12_cores_177 : decode cX12_cores 177 = .ok (.imul, 1) := by decide +kernel
theorem dX12_cores_178 : decode cX12_cores 178 = .ok (.iadd, 1) := by decide +kernel
theorem dX12_cores_179 : decode cX12_cores 179 = .ok (.invokevirtual 110, 3) := by decide +kernel
theorem dX12_cores_182 : decode cX12_cores 182 = .ok (.iastore, 1) := by decide +kernel
theorem dX12_cores_183 : decode cX12_cores 183 = .ok (.aload_n 0, 1) := by decide +kernel
theorem dX12_cores_184 : decode cX12_cores 184 = .ok (.aload_n 0, 1) := by decide +kernel
theorem dX12_cores_185 : decode cX12_cores 185 = .ok (.getfield 18, 3) := by decide +kernel
theorem dX12_cores_188 : decode cX12_cores 188 = .ok (.aload_n 1, 1) := by decide +kernel
theorem dX12_cores_189 : decode cX12_cores 189 = .ok (.invokevirtual 124, 3) := by decide +kernel
theorem dX12_cores_192 : decode cX12_cores 192 = .ok (.goto (-175), 3) := by decide +kernel
theorem dX12_cores_195 : decode cX12_cores 195 = .ok (.return_, 1) := by decide +kernel
theorem dX12_coreOf_0 : decode cX12_coreOf 0 = .ok (.aload_n 0, 1) := by decide +kernel
theorem dX12_coreOf_1 : decode cX12_coreOf 1 = .ok (.iload_n 1, 1) := by decide +kernel
theorem dX12_coreOf_2 : decode cX12_coreOf 2 = .ok (.aload_n 2, 1) := by decide +kernel
theorem dX12_coreOf_3 : decode cX12_coreOf 3 = .ok (.invokevirtual 127, 3) := by decide +kernel
theorem dX12_coreOf_6 : decode cX12_coreOf 6 = .ok (.aload_n 0, 1) := by decide +kernel
theorem dX12_coreOf_7 : decode cX12_coreOf 7 = .ok (.aload_n 2, 1) := by decide +kernel
theorem dX12_coreOf_8 : decode cX12_coreOf 8 = .ok (.invokevirtual 131, 3) := by decide +kernel
theorem dX12_coreOf_11 : decode cX12_coreOf 11 = .ok (.return_, 1) := by decide +kernel
theorem dX12_feed_0 : decode cX12_feed 0 = .ok (.aload_n 0, 1) := by decide +kernel
theorem dX12_feed_1 : decode cX12_feed 1 = .ok (.getfield 135, 3) := by decide +kernel
theorem dX12_feed_4 : decode cX12_feed 4 = .ok (.sipush 680, 3) := by decide +kernel
theorem dX12_feed_7 : decode cX12_feed 7 = .ok (.if_icmp .le 5, 3) := by decide +kernel
theorem dX12_feed_10 : decode cX12_feed 10 = .ok (.iconst (-1), 1) := by decide +kernel
theorem dX12_feed_11 : decode cX12_feed 11 = .ok (.ireturn, 1) := by decide +kernel
theorem dX12_feed_12 : decode cX12_feed 12 = .ok (.aload_n 0, 1) := by decide +kernel
theorem dX12_feed_13 : decode cX12_feed 13 = .ok (.iload_n 1, 1) := by decide +kernel
theorem dX12_feed_14 : decode cX12_feed 14 = .ok (.invokevirtual 138, 3) := by decide +kernel
theorem dX12_feed_17 : decode cX12_feed 17 = .ok (.aload_n 0, 1) := by decide +kernel
theorem dX12_feed_18 : decode cX12_feed 18 = .ok (.iload_n 2, 1) := by decide +kernel
theorem dX12_feed_19 : decode cX12_feed 19 = .ok (.invokevirtual 138, 3) := by decide +kernel
theorem dX12_feed_22 : decode cX12_feed 22 = .ok (.aload_n 0, 1) := by decide +kernel
theorem dX12_feed_23 : decode cX12_feed 23 = .ok (.iload_n 3, 1) := by decide +kernel
theorem dX12_feed_24 : decode cX12_feed 24 = .ok (.invokevirtual 138, 3) := by decide +kernel
theorem dX12_feed_27 : decode cX12_feed 27 = .ok (.aload_n 0, 1) := by decide +kernel
theorem dX12_feed_28 : decode cX12_feed 28 = .ok (.iload 4, 2) := by decide +kernel
theorem dX12_feed_30 : decode cX12_feed 30 = .ok (.invokevirtual 138, 3) := by decide +kernel
theorem dX12_feed_33 : decode cX12_feed 33 = .ok (.aload_n 0, 1) := by decide +kernel
theorem dX12_feed_34 : decode cX12_feed 34 = .ok (.iload 5, 2) := by decide +kernel
theorem dX12_feed_36 : decode cX12_feed 36 = .ok (.invokevirtual 138, 3) := by decide +kernel
theorem dX12_feed_39 : decode cX12_feed 39 = .ok (.aload_n 0, 1) := by decide +kernel
theorem dX12_feed_40 : decode cX12_feed 40 = .ok (.getfield 135, 3) := by decide +kernel
theorem dX12_feed_43 : decode cX12_feed 43 = .ok (.ireturn, 1) := by decide +kernel
theorem dX12_four_0 : decode cX12_four 0 = .ok (.iconst 3, 1) := by decide +kernel
theorem dX12_four_1 : decode cX12_four 1 = .ok (.istore_n 2, 1) := by decide +kernel
theorem dX12_four_2 : decode cX12_four 2 = .ok (.iload_n 2, 1) := by decide +kernel
theorem dX12_four_3 : decode cX12_four 3 = .ok (.ifCond .lt 35, 3) := by decide +kernel
theorem dX12_four_6 : decode cX12_four 6 = .ok (.aload_n 0, 1) := by decide +kernel
theorem dX12_four_7 : decode cX12_four 7 = .ok (.getfield 24, 3) := by decide +kernel
theorem dX12_four_10 : decode cX12_four 10 = .ok (.aload_n 0, 1) := by decide +kernel
theorem dX12_four_11 : decode cX12_four 11 = .ok (.getfield 135, 3) := by decide +kernel
theorem dX12_four_14 : decode cX12_four 14 = .ok (.iload_n 1, 1) := by decide +kernel
theorem dX12_four_15 : decode cX12_four 15 = .ok (.bipush 8, 2) := by decide +kernel
theorem dX12_four_17 : decode cX12_four 17 = .ok (.iload_n 2, 1) := by decide +kernel
theorem dX12_four_18 : decode cX12_four 18 = .ok (.imul, 1) := by decide +kernel
theorem dX12_four_19 : decode cX12_four 19 = .ok (.ishr, 1) := by decide +kernel
theorem dX12_four_20 : decode cX12_four 20 = .ok (.i2b, 1) := by decide +kernel
theorem dX12_four_21 : decode cX12_four 21 = .ok (.bastore, 1) := by decide +kernel
theorem dX12_four_22 : decode cX12_four 22 = .ok (.aload_n 0, 1) := by decide +kernel
theorem dX12_four_23 : decode cX12_four 23 = .ok (.dup, 1) := by decide +kernel
theorem dX12_four_24 : decode cX12_four 24 = .ok (.getfield 135, 3) := by decide +kernel
theorem dX12_four_27 : decode cX12_four 27 = .ok (.iconst 1, 1) := by decide +kernel
theorem dX12_four_28 : decode cX12_four 28 = .ok (.iadd, 1) := by decide +kernel
theorem dX12_four_29 : decode cX12_four 29 = .ok (.putfield 135, 3) := by decide +kernel
theorem dX12_four_32 : decode cX12_four 32 = .ok (.iinc 2 (-1), 3) := by decide +kernel
theorem dX12_four_35 : decode cX12_four 35 = .ok (.goto (-33), 3) := by decide +kernel
theorem dX12_four_38 : decode cX12_four 38 = .ok (.return_, 1) := by decide +kernel
theorem dX12_byteAt_0 : decode cX12_byteAt 0 = .ok (.iload_n 1, 1) := by decide +kernel
theorem dX12_byteAt_1 : decode cX12_byteAt 1 = .ok (.aload_n 0, 1) := by decide +kernel
theorem dX12_byteAt_2 : decode cX12_byteAt 2 = .ok (.getfield 142, 3) := by decide +kernel
theorem dX12_byteAt_5 : decode cX12_byteAt 5 = .ok (.if_icmp .ge 16, 3) := by decide +kernel
theorem dX12_byteAt_8 : decode cX12_byteAt 8 = .ok (.aload_n 0, 1) := by decide +kernel
theorem dX12_byteAt_9 : decode cX12_byteAt 9 = .ok (.getfield 28, 3) := by decide +kernel
theorem dX12_byteAt_12 : decode cX12_byteAt 12 = .ok (.iload_n 1, 1) := by decide +kernel
theorem dX12_byteAt_13 : decode cX12_byteAt 13 = .ok (.baload, 1) := by decide +kernel
theorem dX12_byteAt_14 : decode cX12_byteAt 14 = .ok (.sipush 255, 3) := by decide +kernel
theorem dX12_byteAt_17 : decode cX12_byteAt 17 = .ok (.iand, 1) := by decide +kernel
theorem dX12_byteAt_18 : decode cX12_byteAt 18 = .ok (.goto 4, 3) := by decide +kernel
theorem dX12_byteAt_21 : decode cX12_byteAt 21 = .ok (.iconst (-1), 1) := by decide +kernel
theorem dX12_byteAt_22 : decode cX12_byteAt 22 = .ok (.ireturn, 1) := by decide +kernel
theorem dX12_isSmall_0 : decode cX12_isSmall 0 = .ok (.iload_n 0, 1) := by decide +kernel
theorem dX12_isSmall_1 : decode cX12_isSmall 1 = .ok (.bipush 97, 2) := by decide +kernel
theorem dX12_isSmall_3 : decode cX12_isSmall 3 = .ok (.if_icmp .lt 13, 3) := by decide +kernel
theorem dX12_isSmall_6 : decode cX12_isSmall 6 = .ok (.iload_n 0, 1) := by decide +kernel
theorem dX12_isSmall_7 : decode cX12_isSmall 7 = .ok (.bipush 122, 2) := by decide +kernel
theorem dX12_isSmall_9 : decode cX12_isSmall 9 = .ok (.if_icmp .gt 7, 3) := by decide +kernel
theorem dX12_isSmall_12 : decode cX12_isSmall 12 = .ok (.iconst 1, 1) := by decide +kernel
theorem dX12_isSmall_13 : decode cX12_isSmall 13 = .ok (.goto 4, 3) := by decide +kernel
theorem dX12_isSmall_16 : decode cX12_isSmall 16 = .ok (.iconst 0, 1) := by decide +kernel
theorem dX12_isSmall_17 : decode cX12_isSmall 17 = .ok (.ireturn, 1) := by decide +kernel
theorem dX12_isDigit_0 : decode cX12_isDigit 0 = .ok (.iload_n 0, 1) := by decide +kernel
theorem dX12_isDigit_1 : decode cX12_isDigit 1 = .ok (.bipush 48, 2) := by decide +kernel
theorem dX12_isDigit_3 : decode cX12_isDigit 3 = .ok (.if_icmp .lt 13, 3) := by decide +kernel
theorem dX12_isDigit_6 : decode cX12_isDigit 6 = .ok (.iload_n 0, 1) := by decide +kernel
theorem dX12_isDigit_7 : decode cX12_isDigit 7 = .ok (.bipush 57, 2) := by decide +kernel
theorem dX12_isDigit_9 : decode cX12_isDigit 9 = .ok (.if_icmp .gt 7, 3) := by decide +kernel
theorem dX12_isDigit_12 : decode cX12_isDigit 12 = .ok (.iconst 1, 1) := by decide +kernel
theorem dX12_isDigit_13 : decode cX12_isDigit 13 = .ok (.goto 4, 3) := by decide +kernel
theorem dX12_isDigit_16 : decode cX12_isDigit 16 = .ok (.iconst 0, 1) := by decide +kernel
theorem dX12_isDigit_17 : decode cX12_isDigit 17 = .ok (.ireturn, 1) := by decide +kernel
theorem dX12_ahead_0 : decode cX12_ahead 0 = .ok (.aload_n 0, 1) := by decide +kernel
theorem dX12_ahead_1 : decode cX12_ahead 1 = .ok (.aload_n 0, 1) := by decide +kernel
theorem dX12_ahead_2 : decode cX12_ahead 2 = .ok (.getfield 145, 3) := by decide +kernel
theorem dX12_ahead_5 : decode cX12_ahead 5 = .ok (.invokevirtual 148, 3) := by decide +kernel
theorem dX12_ahead_8 : decode cX12_ahead 8 = .ok (.bipush 32, 2) := by decide +kernel
theorem dX12_ahead_10 : decode cX12_ahead 10 = .ok (.if_icmp .eq 16, 3) := by decide +kernel
theorem dX12_ahead_13 : decode cX12_ahead 13 = .ok (.aload_n 0, 1) := by decide +kernel
theorem dX12_ahead_14 : decode cX12_ahead 14 = .ok (.aload_n 0, 1) := by decide +kernel
theorem dX12_ahead_15 : decode cX12_ahead 15 = .ok (.getfield 145, 3) := by decide +kernel
theorem dX12_ahead_18 : decode cX12_ahead 18 = .ok (.invokevirtual 148, 3) := by decide +kernel
theorem dX12_ahead_21 : decode cX12_ahead 21 = .ok (.bipush 10, 2) := by decide +kernel
theorem dX12_ahead_23 : decode cX12_ahead 23 = .ok (.if_icmp .ne 16, 3) := by decide +kernel
theorem dX12_ahead_26 : decode cX12_ahead 26 = .ok (.aload_n 0, 1) := by decide +kernel
theorem dX12_ahead_27 : decode cX12_ahead 27 = .ok (.dup, 1) := by decide +kernel
theorem dX12_ahead_28 : decode cX12_ahead 28 = .ok (.getfield 145, 3) := by decide +kernel
theorem dX12_ahead_31 : decode cX12_ahead 31 = .ok (.iconst 1, 1) := by decide +kernel
theorem dX12_ahead_32 : decode cX12_ahead 32 = .ok (.iadd, 1) := by decide +kernel
theorem dX12_ahead_33 : decode cX12_ahead 33 = .ok (.putfield 145, 3) := by decide +kernel
theorem dX12_ahead_36 : decode cX12_ahead 36 = .ok (.goto (-36), 3) := by decide +kernel
theorem dX12_ahead_39 : decode cX12_ahead 39 = .ok (.aload_n 0, 1) := by decide +kernel
theorem dX12_ahead_40 : decode cX12_ahead 40 = .ok (.aload_n 0, 1) := by decide +kernel
theorem dX12_ahead_41 : decode cX12_ahead 41 = .ok (.getfield 145, 3) := by decide +kernel
theorem dX12_ahead_44 : decode cX12_ahead 44 = .ok (.putfield 151, 3) := by decide +kernel
theorem dX12_ahead_47 : decode cX12_ahead 47 = .ok (.aload_n 0, 1) := by decide +kernel
theorem dX12_ahead_48 : decode cX12_ahead 48 = .ok (.aload_n 0, 1) := by decide +kernel
theorem dX12_ahead_49 : decode cX12_ahead 49 = .ok (.getfield 145, 3) := by decide +kernel
theorem dX12_ahead_52 : decode cX12_ahead 52 = .ok (.invokevirtual 148, 3) := by decide +kernel
theorem dX12_ahead_55 : decode cX12_ahead 55 = .ok (.istore_n 1, 1) := by decide +kernel
theorem dX12_ahead_56 : decode cX12_ahead 56 = .ok (.iload_n 1, 1) := by decide +kernel
theorem dX12_ahead_57 : decode cX12_ahead 57 = .ok (.iconst (-1), 1) := by decide +kernel
theorem dX12_ahead_58 : decode cX12_ahead 58 = .ok (.if_icmp .ne 11, 3) := by decide +kernel
theorem dX12_ahead_61 : decode cX12_ahead 61 = .ok (.aload_n 0, 1) := by decide +kernel
theorem dX12_ahead_62 : decode cX12_ahead 62 = .ok (.iconst 0, 1) := by decide +kernel
theorem dX12_ahead_63 : decode cX12_ahead 63 = .ok (.putfield 154, 3) := by decide +kernel
theorem dX12_ahead_66 : decode cX12_ahead 66 = .ok (.goto 175, 3) := by decide +kernel
theorem dX12_ahead_69 : decode cX12_ahead 69 = .ok (.iload_n 1, 1) := by decide +kernel
theorem dX12_ahead_70 : decode cX12_ahead 70 = .ok (.invokestatic 157, 3) := by decide +kernel
theorem dX12_ahead_73 : decode cX12_ahead 73 = .ok (.ifCond .eq 38, 3) := by decide +kernel
theorem dX12_ahead_76 : decode cX12_ahead 76 = .ok (.aload_n 0, 1) := by decide +kernel
theorem dX12_ahead_77 : decode cX12_ahead 77 = .ok (.aload_n 0, 1) := by decide +kernel
theorem dX12_ahead_78 : decode cX12_ahead 78 = .ok (.getfield 145, 3) := by decide +kernel
theorem dX12_ahead_81 : decode cX12_ahead 81 = .ok (.invokevirtual 148, 3) := by decide +kernel
theorem dX12_ahead_84 : decode cX12_ahead 84 = .ok (.invokestatic 157, 3) := by decide +kernel
theorem dX12_ahead_87 : decode cX12_ahead 87 = .ok (.ifCond .eq 16, 3) := by decide +kernel
theorem dX12_ahead_90 : decode cX12_ahead 90 = .ok (.aload_n 0, 1) := by decide +kernel
theorem dX12_ahead_91 : decode cX12_ahead 91 = .ok (.dup, 1) := by decide +kernel
theorem dX12_ahead_92 : decode cX12_ahead 92 = .ok (.getfield 145, 3) := by decide +kernel
theorem dX12_ahead_95 : decode cX12_ahead 95 = .ok (.iconst 1, 1) := by decide +kernel
theorem dX12_ahead_96 : decode cX12_ahead 96 = .ok (.iadd, 1) := by decide +kernel
theorem dX12_ahead_97 : decode cX12_ahead 97 = .ok (.putfield 145, 3) := by decide +kernel
theorem dX12_ahead_100 : decode cX12_ahead 100 = .ok (.goto (-24), 3) := by decide +kernel
theorem dX12_ahead_103 : decode cX12_ahead 103 = .ok (.aload_n 0, 1) := by decide +kernel
theorem dX12_ahead_104 : decode cX12_ahead 104 = .ok (.iconst 2, 1) := by decide +kernel
theorem dX12_ahead_105 : decode cX12_ahead 105 = .ok (.putfield 154, 3) := by decide +kernel
theorem dX12_ahead_108 : decode cX12_ahead 108 = .ok (.goto 133, 3) := by decide +kernel
theorem dX12_ahead_111 : decode cX12_ahead 111 = .ok (.iload_n 1, 1) := by decide +kernel
theorem dX12_ahead_112 : decode cX12_ahead 112 = .ok (.invokestatic 161, 3) := by decide +kernel
theorem dX12_ahead_115 : decode cX12_ahead 115 = .ok (.ifCond .eq 89, 3) := by decide +kernel
theorem dX12_ahead_118 : decode cX12_ahead 118 = .ok (.aload_n 0, 1) := by decide +kernel
theorem dX12_ahead_119 : decode cX12_ahead 119 = .ok (.iconst 0, 1) := by decide +kernel
theorem dX12_ahead_120 : decode cX12_ahead 120 = .ok (.putfield 164, 3) := by decide +kernel
theorem dX12_ahead_123 : decode cX12_ahead 123 = .ok (.aload_n 0, 1) := by decide +kernel
theorem dX12_ahead_124 : decode cX12_ahead 124 = .ok (.aload_n 0, 1) := by decide +kernel
theorem dX12_ahead_125 : decode cX12_ahead 125 = .ok (.getfield 145, 3) := by decide +kernel
theorem dX12_ahead_128 : decode cX12_ahead 128 = .ok (.invokevirtual 148, 3) := by decide +kernel
theorem dX12_ahead_131 : decode cX12_ahead 131 = .ok (.invokestatic 161, 3) := by decide +kernel
theorem dX12_ahead_134 : decode cX12_ahead 134 = .ok (.ifCond .eq 45, 3) := by decide +kernel
theorem dX12_ahead_137 : decode cX12_ahead 137 = .ok (.aload_n 0, 1) := by decide +kernel
theorem dX12_ahead_138 : decode cX12_ahead 138 = .ok (.sipush 9999, 3) := by decide +kernel
theorem dX12_ahead_141 : decode cX12_ahead 141 = .ok (.bipush 10, 2) := by decide +kernel
theorem dX12_ahead_143 : decode cX12_ahead 143 = .ok (.aload_n 0, 1) := by decide +kernel
theorem dX12_ahead_144 : decode cX12_ahead 144 = .ok (.getfield 164, 3) := by decide +kernel
theorem dX12_ahead_147 : decode cX12_ahead 147 = .ok (.imul, 1) := by decide +kernel
theorem dX12_ahead_148 : decode cX12_ahead 148 = .ok (.aload_n 0, 1) := by decide +kernel
theorem dX12_ahead_149 : decode cX12_ahead 149 = .ok (.aload_n 0, 1) := by decide +kernel
theorem dX12_ahead_150 : decode cX12_ahead 150 = .ok (.getfield 145, 3) := by decide +kernel
theorem dX12_ahead_153 : decode cX12_ahead 153 = .ok (.invokevirtual 148, 3) := by decide +kernel
theorem dX12_ahead_156 : decode cX12_ahead 156 = .ok (.iadd, 1) := by decide +kernel
theorem dX12_ahead_157 : decode cX12_ahead 157 = .ok (.bipush 48, 2) := by decide +kernel
theorem dX12_ahead_159 : decode cX12_ahead 159 = .ok (.isub, 1) := by decide +kernel
theorem dX12_ahead_160 : decode cX12_ahead 160 = .ok (.invokestatic 167, 3) := by decide +kernel
theorem dX12_ahead_163 : decode cX12_ahead 163 = .ok (.putfield 164, 3) := by decide +kernel
theorem dX12_ahead_166 : decode cX12_ahead 166 = .ok (.aload_n 0, 1) := by decide +kernel
theorem dX12_ahead_167 : decode cX12_ahead 167 = .ok (.dup, 1) := by decide +kernel
theorem dX12_ahead_168 : decode cX12_ahead 168 = .ok (.getfield 145, 3) := by decide +kernel
theorem dX12_ahead_171 : decode cX12_ahead 171 = .ok (.iconst 1, 1) := by decide +kernel
theorem dX12_ahead_172 : decode cX12_ahead 172 = .ok (.iadd, 1) := by decide +kernel
theorem dX12_ahead_173 : decode cX12_ahead 173 = .ok (.putfield 145, 3) := by decide +kernel
theorem dX12_ahead_176 : decode cX12_ahead 176 = .ok (.goto (-53), 3) := by decide +kernel
theorem dX12_ahead_179 : decode cX12_ahead 179 = .ok (.aload_n 0, 1) := by decide +kernel
theorem dX12_ahead_180 : decode cX12_ahead 180 = .ok (.aload_n 0, 1) := by decide +kernel
theorem dX12_ahead_181 : decode cX12_ahead 181 = .ok (.getfield 145, 3) := by decide +kernel
theorem dX12_ahead_184 : decode cX12_ahead 184 = .ok (.aload_n 0, 1) := by decide +kernel
theorem dX12_ahead_185 : decode cX12_ahead 185 = .ok (.getfield 151, 3) := by decide +kernel
theorem dX12_ahead_188 : decode cX12_ahead 188 = .ok (.isub, 1) := by decide +kernel
theorem dX12_ahead_189 : decode cX12_ahead 189 = .ok (.iconst 3, 1) := by decide +kernel
theorem dX12_ahead_190 : decode cX12_ahead 190 = .ok (.if_icmp .le 7, 3) := by decide +kernel
theorem dX12_ahead_193 : decode cX12_ahead 193 = .ok (.iconst 1, 1) := by decide +kernel
theorem dX12_ahead_194 : decode cX12_ahead 194 = .ok (.goto 4, 3) := by decide +kernel
theorem dX12_ahead_197 : decode cX12_ahead 197 = .ok (.iconst 3, 1) := by decide +kernel
theorem dX12_ahead_198 : decode cX12_ahead 198 = .ok (.putfield 154, 3) := by decide +kernel
theorem dX12_ahead_201 : decode cX12_ahead 201 = .ok (.goto 40, 3) := by decide +kernel
theorem dX12_ahead_204 : decode cX12_ahead 204 = .ok (.aload_n 0, 1) := by decide +kernel
theorem dX12_ahead_205 : decode cX12_ahead 205 = .ok (.dup, 1) := by decide +kernel
theorem dX12_ahead_206 : decode cX12_ahead 206 = .ok (.getfield 145, 3) := by decide +kernel
theorem dX12_ahead_209 : decode cX12_ahead 209 = .ok (.iconst 1, 1) := by decide +kernel
theorem dX12_ahead_210 : decode cX12_ahead 210 = .ok (.iadd, 1) := by decide +kernel
theorem dX12_ahead_211 : decode cX12_ahead 211 = .ok (.putfield 145, 3) := by decide +kernel
theorem dX12_ahead_214 : decode cX12_ahead 214 = .ok (.aload_n 0, 1) := by decide +kernel
theorem dX12_ahead_215 : decode cX12_ahead 215 = .ok (.iload_n 1, 1) := by decide +kernel
theorem dX12_ahead_216 : decode cX12_ahead 216 = .ok (.bipush 59, 2) := by decide +kernel
theorem dX12_ahead_218 : decode cX12_ahead 218 = .ok (.if_icmp .eq 15, 3) := by decide +kernel
theorem dX12_ahead_221 : decode cX12_ahead 221 = .ok (.iload_n 1, 1) := by decide +kernel
theorem dX12_ahead_222 : decode cX12_ahead 222 = .ok (.bipush 62, 2) := by decide +kernel
theorem dX12_ahead_224 : decode cX12_ahead 224 = .ok (.if_icmp .eq 9, 3) := by decide +kernel
theorem dX12_ahead_227 : decode cX12_ahead 227 = .ok (.iload_n 1, 1) := by decide +kernel
theorem dX12_ahead_228 : decode cX12_ahead 228 = .ok (.bipush 60, 2) := by decide +kernel
theorem dX12_ahead_230 : decode cX12_ahead 230 = .ok (.if_icmp .ne 7, 3) := by decide +kernel
theorem dX12_ahead_233 : decode cX12_ahead 233 = .ok (.iconst 4, 1) := by decide +kernel
theorem dX12_ahead_234 : decode cX12_ahead 234 = .ok (.goto 4, 3) := by decide +kernel
theorem dX12_ahead_237 : decode cX12_ahead 237 = .ok (.iconst 1, 1) := by decide +kernel
theorem dX12_ahead_238 : decode cX12_ahead 238 = .ok (.putfield 154, 3) := by decide +kernel
theorem dX12_ahead_241 : decode cX12_ahead 241 = .ok (.return_, 1) := by decide +kernel
theorem dX12_key_0 : decode cX12_key 0 = .ok (.aload_n 0, 1) := by decide +kernel
theorem dX12_key_1 : decode cX12_key 1 = .ok (.getfield 154, 3) := by decide +kernel
theorem dX12_key_4 : decode cX12_key 4 = .ok (.iconst 2, 1) := by decide +kernel
theorem dX12_key_5 : decode cX12_key 5 = .ok (.if_icmp .eq 5, 3) := by decide +kernel
theorem dX12_key_8 : decode cX12_key 8 = .ok (.iconst (-1), 1) := by decide +kernel
theorem dX12_key_9 : decode cX12_key 9 = .ok (.ireturn, 1) := by decide +kernel
theorem dX12_key_10 : decode cX12_key 10 = .ok (.iconst 0, 1) := by decide +kernel
theorem dX12_key_11 : decode cX12_key 11 = .ok (.istore_n 1, 1) := by decide +kernel
theorem dX12_key_12 : decode cX12_key 12 = .ok (.iconst 1, 1) := by decide +kernel
theorem dX12_key_13 : decode cX12_key 13 = .ok (.istore_n 2, 1) := by decide +kernel
theorem dX12_key_14 : decode cX12_key 14 = .ok (.iload_n 2, 1) := by decide +kernel
theorem dX12_key_15 : decode cX12_key 15 = .ok (.ldc 172, 2) := by decide +kernel
theorem dX12_key_17 : decode cX12_key 17 = .ok (.invokevirtual 174, 3) := by decide +kernel
theorem dX12_key_20 : decode cX12_key 20 = .ok (.if_icmp .ge 113, 3) := by decide +kernel
theorem dX12_key_23 : decode cX12_key 23 = .ok (.iload_n 2, 1) := by decide +kernel
theorem dX12_key_24 : decode cX12_key 24 = .ok (.istore_n 3, 1) := by decide +kernel
theorem dX12_key_25 : decode cX12_key 25 = .ok (.ldc 172, 2) := by decide +kernel
theorem dX12_key_27 : decode cX12_key 27 = .ok (.iload_n 3, 1) := by decide +kernel
theorem dX12_key_28 : decode cX12_key 28 = .ok (.invokevirtual 180, 3) := by decide +kernel
theorem dX12_key_31 : decode cX12_key 31 = .ok (.bipush 32, 2) := by decide +kernel
theorem dX12_key_33 : decode cX12_key 33 = .ok (.if_icmp .eq 9, 3) := by decide +kernel
theorem dX12_key_36 : decode cX12_key 36 = .ok (.iinc 3 1, 3) := by decide +kernel
theorem dX12_key_39 : decode cX12_key 39 = .ok (.goto (-14), 3) := by decide +kernel
theorem dX12_key_42 : decode cX12_key 42 = .ok (.iload_n 3, 1) := by decide +kernel
theorem dX12_key_43 : decode cX12_key 43 = .ok (.iload_n 2, 1) := by decide +kernel
theorem dX12_key_44 : decode cX12_key 44 = .ok (.isub, 1) := by decide +kernel
theorem dX12_key_45 : decode cX12_key 45 = .ok (.aload_n 0, 1) := by decide +kernel
theorem dX12_key_46 : decode cX12_key 46 = .ok (.getfield 145, 3) := by decide +kernel
theorem dX12_key_49 : decode cX12_key 49 = .ok (.aload_n 0, 1) := by decide +kernel
theorem dX12_key_50 : decode cX12_key 50 = .ok (.getfield 151, 3) := by decide +kernel
theorem dX12_key_53 : decode cX12_key 53 = .ok (.isub, 1) := by decide +kernel
theorem dX12_key_54 : decode cX12_key 54 = .ok (.if_icmp .ne 7, 3) := by decide +kernel
theorem dX12_key_57 : decode cX12_key 57 = .ok (.iconst 1, 1) := by decide +kernel
theorem dX12_key_58 : decode cX12_key 58 = .ok (.goto 4, 3) := by decide +kernel
theorem dX12_key_61 : decode cX12_key 61 = .ok (.iconst 0, 1) := by decide +kernel
theorem dX12_key_62 : decode cX12_key 62 = .ok (.istore 4, 2) := by decide +kernel
theorem dX12_key_64 : decode cX12_key 64 = .ok (.iconst 0, 1) := by decide +kernel
theorem dX12_key_65 : decode cX12_key 65 = .ok (.istore 5, 2) := by decide +kernel
theorem dX12_key_67 : decode cX12_key 67 = .ok (.iload 5, 2) := by decide +kernel
theorem dX12_key_69 : decode cX12_key 69 = .ok (.iload_n 3, 1) := by decide +kernel
theorem dX12_key_70 : decode cX12_key 70 = .ok (.iload_n 2, 1) := by decide +kernel
theorem dX12_key_71 : decode cX12_key 71 = .ok (.isub, 1) := by decide +kernel
theorem dX12_key_72 : decode cX12_key 72 = .ok (.if_icmp .ge 44, 3) := by decide +kernel
theorem dX12_key_75 : decode cX12_key 75 = .ok (.iload 4, 2) := by decide +kernel
theorem dX12_key_77 : decode cX12_key 77 = .ok (.ifCond .eq 39, 3) := by decide +kernel
theorem dX12_key_80 : decode cX12_key 80 = .ok (.ldc 172, 2) := by decide +kernel
theorem dX12_key_82 : decode cX12_key 82 = .ok (.iload_n 2, 1) := by decide +kernel
theorem dX12_key_83 : decode cX12_key 83 = .ok (.iload 5, 2) := by decide +kernel
theorem dX12_key_85 : decode cX12_key 85 = .ok (.iadd, 1) := by decide +kernel
theorem dX12_key_86 : decode cX12_key 86 = .ok (.invokevirtual 180, 3) := by decide +kernel
theorem dX12_key_89 : decode cX12_key 89 = .ok (.aload_n 0, 1) := by decide +kernel
theorem dX12_key_90 : decode cX12_key 90 = .ok (.aload_n 0, 1) := by decide +kernel
theorem dX12_key_91 : decode cX12_key 91 = .ok (.getfield 151, 3) := by decide +kernel
theorem dX12_key_94 : decode cX12_key 94 = .ok (.iload 5, 2) := by decide +kernel
theorem dX12_key_96 : decode cX12_key 96 = .ok (.iadd, 1) := by decide +kernel
theorem dX12_key_97 : decode cX12_key 97 = .ok (.invokevirtual 148, 3) := by decide +kernel
theorem dX12_key_100 : decode cX12_key 100 = .ok (.if_icmp .ne 7, 3) := by decide +kernel
theorem dX12_key_103 : decode cX12_key 103 = .ok (.iconst 1, 1) := by decide +kernel
theorem dX12_key_104 : decode cX12_key 104 = .ok (.goto 4, 3) := by decide +kernel
theorem dX12_key_107 : decode cX12_key 107 = .ok (.iconst 0, 1) := by decide +kernel
theorem dX12_key_108 : decode cX12_key 108 = .ok (.istore 4, 2) := by decide +kernel
theorem dX12_key_110 : decode cX12_key 110 = .ok (.iinc 5 1, 3) := by decide +kernel
theorem dX12_key_113 : decode cX12_key 113 = .ok (.goto (-46), 3) := by decide +kernel
theorem dX12_key_116 : decode cX12_key 116 = .ok (.iload 4, 2) := by decide +kernel
theorem dX12_key_118 : decode cX12_key 118 = .ok (.ifCond .eq 5, 3) := by decide +kernel
theorem dX12_key_121 : decode cX12_key 121 = .ok (.iload_n 1, 1) := by decide +kernel
theorem dX12_key_122 : decode cX12_key 122 = .ok (.ireturn, 1) := by decide +kernel
theorem dX12_key_123 : decode cX12_key 123 = .ok (.iinc 1 1, 3) := by decide +kernel
theorem dX12_key_126 : decode cX12_key 126 = .ok (.iload_n 3, 1) := by decide +kernel
theorem dX12_key_127 : decode cX12_key 127 = .ok (.iconst 1, 1) := by decide +kernel
theorem dX12_key_128 : decode cX12_key 128 = .ok (.iadd, 1) := by decide +kernel
theorem dX12_key_129 : decode cX12_key 129 = .ok (.istore_n 2, 1) := by decide +kernel
theorem dX12_key_130 : decode cX12_key 130 = .ok (.goto (-116), 3) := by decide +kernel
theorem dX12_key_133 : decode cX12_key 133 = .ok (.iconst (-1), 1) := by decide +kernel
theorem dX12_key_134 : decode cX12_key 134 = .ok (.ireturn, 1) := by decide +kernel
theorem dX12_fails_0 : decode cX12_fails 0 = .ok (.aload_n 0, 1) := by decide +kernel
theorem dX12_fails_1 : decode cX12_fails 1 = .ok (.getfield 184, 3) := by decide +kernel
theorem dX12_fails_4 : decode cX12_fails 4 = .ok (.ifCond .ne 36, 3) := by decide +kernel
theorem dX12_fails_7 : decode cX12_fails 7 = .ok (.aload_n 0, 1) := by decide +kernel
theorem dX12_fails_8 : decode cX12_fails 8 = .ok (.aload_n 0, 1) := by decide +kernel
theorem dX12_fails_9 : decode cX12_fails 9 = .ok (.getfield 154, 3) := by decide +kernel
theorem dX12_fails_12 : decode cX12_fails 12 = .ok (.iconst 1, 1) := by decide +kernel
theorem dX12_fails_13 : decode cX12_fails 13 = .ok (.if_icmp .ne 7, 3) := by decide +kernel
theorem dX12_fails_16 : decode cX12_fails 16 = .ok (.iconst 1, 1) := by decide +kernel
theorem dX12_fails_17 : decode cX12_fails 17 = .ok (.goto 4, 3) := by decide +kernel
theorem dX12_fails_20 : decode cX12_fails 20 = .ok (.iload_n 1, 1) := by decide +kernel
theorem dX12_fails_21 : decode cX12_fails 21 = .ok (.putfield 184, 3) := by decide +kernel
theorem dX12_fails_24 : decode cX12_fails 24 = .ok (.aload_n 0, 1) := by decide +kernel
theorem dX12_fails_25 : decode cX12_fails 25 = .ok (.aload_n 0, 1) := by decide +kernel
theorem dX12_fails_26 : decode cX12_fails 26 = .ok (.getfield 151, 3) := by decide +kernel
theorem dX12_fails_29 : decode cX12_fails 29 = .ok (.putfield 31, 3) := by decide +kernel
theorem dX12_fails_32 : decode cX12_fails 32 = .ok (.aload_n 0, 1) := by decide +kernel
theorem dX12_fails_33 : decode cX12_fails 33 = .ok (.aload_n 0, 1) := by decide +kernel
theorem dX12_fails_34 : decode cX12_fails 34 = .ok (.getfield 187, 3) := by decide +kernel
theorem dX12_fails_37 : decode cX12_fails 37 = .ok (.putfield 35, 3) := by decide +kernel
theorem dX12_fails_40 : decode cX12_fails 40 = .ok (.iconst 0, 1) := by decide +kernel
theorem dX12_fails_41 : decode cX12_fails 41 = .ok (.ireturn, 1) := by decide +kernel
theorem dX12_takesOn_0 : decode cX12_takesOn 0 = .ok (.aload_n 0, 1) := by decide +kernel
theorem dX12_takesOn_1 : decode cX12_takesOn 1 = .ok (.invokevirtual 190, 3) := by decide +kernel
theorem dX12_takesOn_4 : decode cX12_takesOn 4 = .ok (.iconst 1, 1) := by decide +kernel
theorem dX12_takesOn_5 : decode cX12_takesOn 5 = .ok (.ireturn, 1) := by decide +kernel
theorem dX12_isNumber_0 : decode cX12_isNumber 0 = .ok (.aload_n 0, 1) := by decide +kernel
theorem dX12_isNumber_1 : decode cX12_isNumber 1 = .ok (.getfield 154, 3) := by decide +kernel
theorem dX12_isNumber_4 : decode cX12_isNumber 4 = .ok (.iconst 3, 1) := by decide +kernel
theorem dX12_isNumber_5 : decode cX12_isNumber 5 = .ok (.if_icmp .eq 11, 3) := by decide +kernel
theorem dX12_isNumber_8 : decode cX12_isNumber 8 = .ok (.aload_n 0, 1) := by decide +kernel
theorem dX12_isNumber_9 : decode cX12_isNumber 9 = .ok (.iconst 2, 1) := by decide +kernel
theorem dX12_isNumber_10 : decode cX12_isNumber 10 = .ok (.invokevirtual 193, 3) := by decide +kernel
theorem dX12_isNumber_13 : decode cX12_isNumber 13 = .ok (.ifCond .eq 7, 3) := by decide +kernel
theorem dX12_isNumber_16 : decode cX12_isNumber 16 = .ok (.iconst 1, 1) := by decide +kernel
theorem dX12_isNumber_17 : decode cX12_isNumber 17 = .ok (.goto 4, 3) := by decide +kernel
theorem dX12_isNumber_20 : decode cX12_isNumber 20 = .ok (.iconst 0, 1) := by decide +kernel
theorem dX12_isNumber_21 : decode cX12_isNumber 21 = .ok (.ireturn, 1) := by decide +kernel
theorem dX12_aVertex_0 : decode cX12_aVertex 0 = .ok (.aload_n 0, 1) := by decide +kernel
theorem dX12_aVertex_1 : decode cX12_aVertex 1 = .ok (.iconst 0, 1) := by decide +kernel
theorem dX12_aVertex_2 : decode cX12_aVertex 2 = .ok (.invokevirtual 70, 3) := by decide +kernel
theorem dX12_aVertex_5 : decode cX12_aVertex 5 = .ok (.bipush 6, 2) := by decide +kernel
theorem dX12_aVertex_7 : decode cX12_aVertex 7 = .ok (.if_icmp .ne 10, 3) := by decide +kernel
theorem dX12_aVertex_10 : decode cX12_aVertex 10 = .ok (.aload_n 0, 1) := by decide +kernel
theorem dX12_aVertex_11 : decode cX12_aVertex 11 = .ok (.bipush 6, 2) := by decide +kernel
theorem dX12_aVertex_13 : decode cX12_aVertex 13 = .ok (.invokevirtual 193, 3) := by decide +kernel
theorem dX12_aVertex_16 : decode cX12_aVertex 16 = .ok (.ireturn, 1) := by decide +kernel
theorem dX12_aVertex_17 : decode cX12_aVertex 17 = .ok (.aload_n 0, 1) := by decide +kernel
theorem dX12_aVertex_18 : decode cX12_aVertex 18 = .ok (.invokevirtual 190, 3) := by decide +kernel
theorem dX12_aVertex_21 : decode cX12_aVertex 21 = .ok (.aload_n 0, 1) := by decide +kernel
theorem dX12_aVertex_22 : decode cX12_aVertex 22 = .ok (.invokevirtual 196, 3) := by decide +kernel
theorem dX12_aVertex_25 : decode cX12_aVertex 25 = .ok (.ifCond .ne 5, 3) := by decide +kernel
theorem dX12_aVertex_28 : decode cX12_aVertex 28 = .ok (.iconst 0, 1) := by decide +kernel
theorem dX12_aVertex_29 : decode cX12_aVertex 29 = .ok (.ireturn, 1) := by decide +kernel
theorem dX12_aVertex_30 : decode cX12_aVertex 30 = .ok (.aload_n 0, 1) := by decide +kernel
theorem dX12_aVertex_31 : decode cX12_aVertex 31 = .ok (.getfield 164, 3) := by decide +kernel
theorem dX12_aVertex_34 : decode cX12_aVertex 34 = .ok (.iconst 1, 1) := by decide +kernel
theorem dX12_aVertex_35 : decode cX12_aVertex 35 = .ok (.bipush 60, 2) := by decide +kernel
theorem dX12_aVertex_37 : decode cX12_aVertex 37 = .ok (.invokestatic 200, 3) := by decide +kernel
theorem dX12_aVertex_40 : decode cX12_aVertex 40 = .ok (.ifCond .ne 9, 3) := by decide +kernel
theorem dX12_aVertex_43 : decode cX12_aVertex 43 = .ok (.aload_n 0, 1) := by decide +kernel
theorem dX12_aVertex_44 : decode cX12_aVertex 44 = .ok (.iconst 4, 1) := by decide +kernel
theorem dX12_aVertex_45 : decode cX12_aVertex 45 = .ok (.invokevirtual 193, 3) := by decide +kernel
theorem dX12_aVertex_48 : decode cX12_aVertex 48 = .ok (.ireturn, 1) := by decide +kernel
theorem dX12_aVertex_49 : decode cX12_aVertex 49 = .ok (.aload_n 0, 1) := by decide +kernel
theorem dX12_aVertex_50 : decode cX12_aVertex 50 = .ok (.getfield 7, 3) := by decide +kernel
theorem dX12_aVertex_53 : decode cX12_aVertex 53 = .ok (.iconst 4, 1) := by decide +kernel
theorem dX12_aVertex_54 : decode cX12_aVertex 54 = .ok (.aload_n 0, 1) := by decide +kernel
theorem dX12_aVertex_55 : decode cX12_aVertex 55 = .ok (.iconst 0, 1) := by decide +kernel
theorem dX12_aVertex_56 : decode cX12_aVertex 56 = .ok (.invokevirtual 70, 3) := by decide +kernel
theorem dX12_aVertex_59 : decode cX12_aVertex 59 = .ok (.iadd, 1) := by decide +kernel
theorem dX12_aVertex_60 : decode cX12_aVertex 60 = .ok (.aload_n 0, 1) := by decide +kernel
theorem dX12_aVertex_61 : decode cX12_aVertex 61 = .ok (.getfield 164, 3) := by decide +kernel
theorem dX12_aVertex_64 : decode cX12_aVertex 64 = .ok (.iastore, 1) := by decide +kernel
theorem dX12_aVertex_65 : decode cX12_aVertex 65 = .ok (.aload_n 0, 1) := by decide +kernel
theorem dX12_aVertex_66 : decode cX12_aVertex 66 = .ok (.getfield 7, 3) := by decide +kernel
theorem dX12_aVertex_69 : decode cX12_aVertex 69 = .ok (.iconst 0, 1) := by decide +kernel
theorem dX12_aVertex_70 : decode cX12_aVertex 70 = .ok (.dup2, 1) := by decide +kernel
theorem dX12_aVertex_71 : decode cX12_aVertex 71 = .ok (.iaload, 1) := by decide +kernel
theorem dX12_aVertex_72 : decode cX12_aVertex 72 = .ok (.iconst 1, 1) := by decide +kernel
theorem dX12_aVertex_73 : decode cX12_aVertex 73 = .ok (.iadd, 1) := by decide +kernel
theorem dX12_aVertex_74 : decode cX12_aVertex 74 = .ok (.iastore, 1) := by decide +kernel
theorem dX12_aVertex_75 : decode cX12_aVertex 75 = .ok (.aload_n 0, 1) := by decide +kernel
theorem dX12_aVertex_76 : decode cX12_aVertex 76 = .ok (.invokevirtual 204, 3) := by decide +kernel
theorem dX12_aVertex_79 : decode cX12_aVertex 79 = .ok (.ireturn, 1) := by decide +kernel
theorem dX12_aSide_0 : decode cX12_aSide 0 = .ok (.aload_n 0, 1) := by decide +kernel
theorem dX12_aSide_1 : decode cX12_aSide 1 = .ok (.invokevirtual 196, 3) := by decide +kernel
theorem dX12_aSide_4 : decode cX12_aSide 4 = .ok (.ifCond .ne 5, 3) := by decide +kernel
theorem dX12_aSide_7 : decode cX12_aSide 7 = .ok (.iconst 0, 1) := by decide +kernel
theorem dX12_aSide_8 : decode cX12_aSide 8 = .ok (.ireturn, 1) := by decide +kernel
theorem dX12_aSide_9 : decode cX12_aSide 9 = .ok (.aload_n 0, 1) := by decide +kernel
theorem dX12_aSide_10 : decode cX12_aSide 10 = .ok (.aload_n 0, 1) := by decide +kernel
theorem dX12_aSide_11 : decode cX12_aSide 11 = .ok (.getfield 164, 3) := by decide +kernel
theorem dX12_aSide_14 : decode cX12_aSide 14 = .ok (.invokevirtual 207, 3) := by decide +kernel
theorem dX12_aSide_17 : decode cX12_aSide 17 = .ok (.ifCond .ne 9, 3) := by decide +kernel
theorem dX12_aSide_20 : decode cX12_aSide 20 = .ok (.aload_n 0, 1) := by decide +kernel
theorem dX12_aSide_21 : decode cX12_aSide 21 = .ok (.iconst 3, 1) := by decide +kernel
theorem dX12_aSide_22 : decode cX12_aSide 22 = .ok (.invokevirtual 193, 3) := by decide +kernel
theorem dX12_aSide_25 : decode cX12_aSide 25 = .ok (.ireturn, 1) := by decide +kernel
theorem dX12_aSide_26 : decode cX12_aSide 26 = .ok (.aload_n 0, 1) := by decide +kernel
theorem dX12_aSide_27 : decode cX12_aSide 27 = .ok (.getfield 7, 3) := by decide +kernel
theorem dX12_aSide_30 : decode cX12_aSide 30 = .ok (.iload_n 1, 1) := by decide +kernel
theorem dX12_aSide_31 : decode cX12_aSide 31 = .ok (.aload_n 0, 1) := by decide +kernel
theorem dX12_aSide_32 : decode cX12_aSide 32 = .ok (.getfield 164, 3) := by decide +kernel
theorem dX12_aSide_35 : decode cX12_aSide 35 = .ok (.iastore, 1) := by decide +kernel
theorem dX12_aSide_36 : decode cX12_aSide 36 = .ok (.aload_n 0, 1) := by decide +kernel
theorem dX12_aSide_37 : decode cX12_aSide 37 = .ok (.invokevirtual 190, 3) := by decide +kernel
theorem dX12_aSide_40 : decode cX12_aSide 40 = .ok (.aload_n 0, 1) := by decide +kernel
theorem dX12_aSide_41 : decode cX12_aSide 41 = .ok (.invokevirtual 196, 3) := by decide +kernel
theorem dX12_aSide_44 : decode cX12_aSide 44 = .ok (.ifCond .ne 5, 3) := by decide +kernel
theorem dX12_aSide_47 : decode cX12_aSide 47 = .ok (.iconst 0, 1) := by decide +kernel
theorem dX12_aSide_48 : decode cX12_aSide 48 = .ok (.ireturn, 1) := by decide +kernel
theorem dX12_aSide_49 : decode cX12_aSide 49 = .ok (.aload_n 0, 1) := by decide +kernel
theorem dX12_aSide_50 : decode cX12_aSide 50 = .ok (.getfield 164, 3) := by decide +kernel
theorem dX12_aSide_53 : decode cX12_aSide 53 = .ok (.ifCond .eq 20, 3) := by decide +kernel
theorem dX12_aSide_56 : decode cX12_aSide 56 = .ok (.aload_n 0, 1) := by decide +kernel
theorem dX12_aSide_57 : decode cX12_aSide 57 = .ok (.aload_n 0, 1) := by decide +kernel
theorem dX12_aSide_58 : decode cX12_aSide 58 = .ok (.iload_n 1, 1) := by decide +kernel
theorem dX12_aSide_59 : decode cX12_aSide 59 = .ok (.invokevirtual 70, 3) := by decide +kernel
theorem dX12_aSide_62 : decode cX12_aSide 62 = .ok (.invokevirtual 84, 3) := by decide +kernel
theorem dX12_aSide_65 : decode cX12_aSide 65 = .ok (.aload_n 0, 1) := by decide +kernel
theorem dX12_aSide_66 : decode cX12_aSide 66 = .ok (.getfield 164, 3) := by decide +kernel
theorem dX12_aSide_69 : decode cX12_aSide 69 = .ok (.irem, 1) := by decide +kernel
theorem dX12_aSide_70 : decode cX12_aSide 70 = .ok (.ifCond .eq 9, 3) := by decide +kernel
theorem dX12_aSide_73 : decode cX12_aSide 73 = .ok (.aload_n 0, 1) := by decide +kernel
theorem dX12_aSide_74 : decode cX12_aSide 74 = .ok (.iconst 4, 1) := by decide +kernel
theorem dX12_aSide_75 : decode cX12_aSide 75 = .ok (.invokevirtual 193, 3) := by decide +kernel
theorem dX12_aSide_78 : decode cX12_aSide 78 = .ok (.ireturn, 1) := by decide +kernel
theorem dX12_aSide_79 : decode cX12_aSide 79 = .ok (.aload_n 0, 1) := by decide +kernel
theorem dX12_aSide_80 : decode cX12_aSide 80 = .ok (.getfield 7, 3) := by decide +kernel
theorem dX12_aSide_83 : decode cX12_aSide 83 = .ok (.iload_n 1, 1) := by decide +kernel
theorem dX12_aSide_84 : decode cX12_aSide 84 = .ok (.iconst 1, 1) := by decide +kernel
theorem dX12_aSide_85 : decode cX12_aSide 85 = .ok (.iadd, 1) := by decide +kernel
theorem dX12_aSide_86 : decode cX12_aSide 86 = .ok (.aload_n 0, 1) := by decide +kernel
theorem dX12_aSide_87 : decode cX12_aSide 87 = .ok (.getfield 164, 3) := by decide +kernel
theorem dX12_aSide_90 : decode cX12_aSide 90 = .ok (.iastore, 1) := by decide +kernel
theorem dX12_aSide_91 : decode cX12_aSide 91 = .ok (.iconst 1, 1) := by decide +kernel
theorem dX12_aSide_92 : decode cX12_aSide 92 = .ok (.ireturn, 1) := by decide +kernel
theorem dX12_anEdge_0 : decode cX12_anEdge 0 = .ok (.aload_n 0, 1) := by decide +kernel
theorem dX12_anEdge_1 : decode cX12_anEdge 1 = .ok (.iconst 1, 1) := by decide +kernel
theorem dX12_anEdge_2 : decode cX12_anEdge 2 = .ok (.invokevirtual 70, 3) := by decide +kernel
theorem dX12_anEdge_5 : decode cX12_anEdge 5 = .ok (.bipush 6, 2) := by decide +kernel
theorem dX12_anEdge_7 : decode cX12_anEdge 7 = .ok (.if_icmp .ne 10, 3) := by decide +kernel
theorem dX12_anEdge_10 : decode cX12_anEdge 10 = .ok (.aload_n 0, 1) := by decide +kernel
theorem dX12_anEdge_11 : decode cX12_anEdge 11 = .ok (.bipush 6, 2) := by decide +kernel
theorem dX12_anEdge_13 : decode cX12_anEdge 13 = .ok (.invokevirtual 193, 3) := by decide +kernel
theorem dX12_anEdge_16 : decode cX12_anEdge 16 = .ok (.ireturn, 1) := by decide +kernel
theorem dX12_anEdge_17 : decode cX12_anEdge 17 = .ok (.bipush 10, 2) := by decide +kernel
theorem dX12_anEdge_19 : decode cX12_anEdge 19 = .ok (.iconst 4, 1) := by decide +kernel
theorem dX12_anEdge_20 : decode cX12_anEdge 20 = .ok (.aload_n 0, 1) := by decide +kernel
theorem dX12_anEdge_21 : decode cX12_anEdge 21 = .ok (.iconst 1, 1) := by decide +kernel
theorem dX12_anEdge_22 : decode cX12_anEdge 22 = .ok (.invokevirtual 70, 3) := by decide +kernel
theorem dX12_anEdge_25 : decode cX12_anEdge 25 = .ok (.imul, 1) := by decide +kernel
theorem dX12_anEdge_26 : decode cX12_anEdge 26 = .ok (.iadd, 1) := by decide +kernel
theorem dX12_anEdge_27 : decode cX12_anEdge 27 = .ok (.istore_n 1, 1) := by decide +kernel
theorem dX12_anEdge_28 : decode cX12_anEdge 28 = .ok (.aload_n 0, 1) := by decide +kernel
theorem dX12_anEdge_29 : decode cX12_anEdge 29 = .ok (.invokevirtual 190, 3) := by decide +kernel
theorem dX12_anEdge_32 : decode cX12_anEdge 32 = .ok (.aload_n 0, 1) := by decide +kernel
theorem dX12_anEdge_33 : decode cX12_anEdge 33 = .ok (.iload_n 1, 1) := by decide +kernel
theorem dX12_anEdge_34 : decode cX12_anEdge 34 = .ok (.invokevirtual 210, 3) := by decide +kernel
theorem dX12_anEdge_37 : decode cX12_anEdge 37 = .ok (.ifCond .ne 5, 3) := by decide +kernel
theorem dX12_anEdge_40 : decode cX12_anEdge 40 = .ok (.iconst 0, 1) := by decide +kernel
theorem dX12_anEdge_41 : decode cX12_anEdge 41 = .ok (.ireturn, 1) := by decide +kernel
theorem dX12_anEdge_42 : decode cX12_anEdge 42 = .ok (.aload_n 0, 1) := by decide +kernel
theorem dX12_anEdge_43 : decode cX12_anEdge 43 = .ok (.invokevirtual 190, 3) := by decide +kernel
theorem dX12_anEdge_46 : decode cX12_anEdge 46 = .ok (.aload_n 0, 1) := by decide +kernel
theorem dX12_anEdge_47 : decode cX12_anEdge 47 = .ok (.iload_n 1, 1) := by decide +kernel
theorem dX12_anEdge_48 : decode cX12_anEdge 48 = .ok (.iconst 2, 1) := by decide +kernel
theorem dX12_anEdge_49 : decode cX12_anEdge 49 = .ok (.iadd, 1) := by decide +kernel
theorem dX12_anEdge_50 : decode cX12_anEdge 50 = .ok (.invokevirtual 210, 3) := by decide +kernel
theorem dX12_anEdge_53 : decode cX12_anEdge 53 = .ok (.ifCond .ne 5, 3) := by decide +kernel
theorem dX12_anEdge_56 : decode cX12_anEdge 56 = .ok (.iconst 0, 1) := by decide +kernel
theorem dX12_anEdge_57 : decode cX12_anEdge 57 = .ok (.ireturn, 1) := by decide +kernel
theorem dX12_anEdge_58 : decode cX12_anEdge 58 = .ok (.aload_n 0, 1) := by decide +kernel
theorem dX12_anEdge_59 : decode cX12_anEdge 59 = .ok (.aload_n 0, 1) := by decide +kernel
theorem dX12_anEdge_60 : decode cX12_anEdge 60 = .ok (.iload_n 1, 1) := by decide +kernel
theorem dX12_anEdge_61 : decode cX12_anEdge 61 = .ok (.invokevirtual 70, 3) := by decide +kernel
theorem dX12_anEdge_64 : decode cX12_anEdge 64 = .ok (.invokevirtual 84, 3) := by decide +kernel
theorem dX12_anEdge_67 : decode cX12_anEdge 67 = .ok (.aload_n 0, 1) := by decide +kernel
theorem dX12_anEdge_68 : decode cX12_anEdge 68 = .ok (.iload_n 1, 1) := by decide +kernel
theorem dX12_anEdge_69 : decode cX12_anEdge 69 = .ok (.iconst 1, 1) := by decide +kernel
theorem dX12_anEdge_70 : decode cX12_anEdge 70 = .ok (.iadd, 1) := by decide +kernel
theorem dX12_anEdge_71 : decode cX12_anEdge 71 = .ok (.invokevirtual 70, 3) := by decide +kernel
theorem dX12_anEdge_74 : decode cX12_anEdge 74 = .ok (.idiv, 1) := by decide +kernel
theorem dX12_anEdge_75 : decode cX12_anEdge 75 = .ok (.aload_n 0, 1) := by decide +kernel
theorem dX12_anEdge_76 : decode cX12_anEdge 76 = .ok (.aload_n 0, 1) := by decide +kernel
theorem dX12_anEdge_77 : decode cX12_anEdge 77 = .ok (.iload_n 1, 1) := by decide +kernel
theorem dX12_anEdge_78 : decode cX12_anEdge 78 = .ok (.iconst 2, 1) := by decide +kernel
theorem dX12_anEdge_79 : decode cX12_anEdge 79 = .ok (.iadd, 1) := by decide +kernel
theorem dX12_anEdge_80 : decode cX12_anEdge 80 = .ok (.invokevirtual 70, 3) := by decide +kernel
theorem dX12_anEdge_83 : decode cX12_anEdge 83 = .ok (.invokevirtual 84, 3) := by decide +kernel
theorem dX12_anEdge_86 : decode cX12_anEdge 86 = .ok (.aload_n 0, 1) := by decide +kernel
theorem dX12_anEdge_87 : decode cX12_anEdge 87 = .ok (.iload_n 1, 1) := by decide +kernel
theorem dX12_anEdge_88 : decode cX12_anEdge 88 = .ok (.iconst 3, 1) := by decide +kernel
theorem dX12_anEdge_89 : decode cX12_anEdge 89 = .ok (.iadd, 1) := by decide +kernel
theorem dX12_anEdge_90 : decode cX12_anEdge 90 = .ok (.invokevirtual 70, 3) := by decide +kernel
theorem dX12_anEdge_93 : decode cX12_anEdge 93 = .ok (.idiv, 1) := by decide +kernel
theorem dX12_anEdge_94 : decode cX12_anEdge 94 = .ok (.if_icmp .eq 9, 3) := by decide +kernel
theorem dX12_anEdge_97 : decode cX12_anEdge 97 = .ok (.aload_n 0, 1) := by decide +kernel
theorem dX12_anEdge_98 : decode cX12_anEdge 98 = .ok (.iconst 4, 1) := by decide +kernel
theorem dX12_anEdge_99 : decode cX12_anEdge 99 = .ok (.invokevirtual 193, 3) := by decide +kernel
theorem dX12_anEdge_102 : decode cX12_anEdge 102 = .ok (.ireturn, 1) := by decide +kernel
theorem dX12_anEdge_103 : decode cX12_anEdge 103 = .ok (.aload_n 0, 1) := by decide +kernel
theorem dX12_anEdge_104 : decode cX12_anEdge 104 = .ok (.getfield 7, 3) := by decide +kernel
theorem dX12_anEdge_107 : decode cX12_anEdge 107 = .ok (.iconst 1, 1) := by decide +kernel
theorem dX12_anEdge_108 : decode cX12_anEdge 108 = .ok (.dup2, 1) := by decide +kernel
theorem dX12_anEdge_109 : decode cX12_anEdge 109 = .ok (.iaload, 1) := by decide +kernel
theorem dX12_anEdge_110 : decode cX12_anEdge 110 = .ok (.iconst 1, 1) := by decide +kernel
theorem dX12_anEdge_111 : decode cX12_anEdge 111 = .ok (.iadd, 1) := by decide +kernel
theorem dX12_anEdge_112 : decode cX12_anEdge 112 = .ok (.iastore, 1) := by decide +kernel
theorem dX12_anEdge_113 : decode cX12_anEdge 113 = .ok (.aload_n 0, 1) := by decide +kernel
theorem dX12_anEdge_114 : decode cX12_anEdge 114 = .ok (.invokevirtual 204, 3) := by decide +kernel
theorem dX12_anEdge_117 : decode cX12_anEdge 117 = .ok (.ireturn, 1) := by decide +kernel
theorem dX12_someNumber_0 : decode cX12_someNumber 0 = .ok (.aload_n 0, 1) := by decide +kernel
theorem dX12_someNumber_1 : decode cX12_someNumber 1 = .ok (.getfield 154, 3) := by decide +kernel
theorem dX12_someNumber_4 : decode cX12_someNumber 4 = .ok (.iconst 3, 1) := by decide +kernel
theorem dX12_someNumber_5 : decode cX12_someNumber 5 = .ok (.if_icmp .eq 5, 3) := by decide +kernel
theorem dX12_someNumber_8 : decode cX12_someNumber 8 = .ok (.iconst 0, 1) := by decide +kernel
theorem dX12_someNumber_9 : decode cX12_someNumber 9 = .ok (.ireturn, 1) := by decide +kernel
theorem dX12_someNumber_10 : decode cX12_someNumber 10 = .ok (.aload_n 0, 1) := by decide +kernel
theorem dX12_someNumber_11 : decode cX12_someNumber 11 = .ok (.iload_n 1, 1) := by decide +kernel
theorem dX12_someNumber_12 : decode cX12_someNumber 12 = .ok (.aload_n 0, 1) := by decide +kernel
theorem dX12_someNumber_13 : decode cX12_someNumber 13 = .ok (.getfield 164, 3) := by decide +kernel
theorem dX12_someNumber_16 : decode cX12_someNumber 16 = .ok (.invokevirtual 110, 3) := by decide +kernel
theorem dX12_someNumber_19 : decode cX12_someNumber 19 = .ok (.istore_n 2, 1) := by decide +kernel
theorem dX12_someNumber_20 : decode cX12_someNumber 20 = .ok (.aload_n 0, 1) := by decide +kernel
theorem dX12_someNumber_21 : decode cX12_someNumber 21 = .ok (.invokevirtual 190, 3) := by decide +kernel
theorem dX12_someNumber_24 : decode cX12_someNumber 24 = .ok (.iload_n 2, 1) := by decide +kernel
theorem dX12_someNumber_25 : decode cX12_someNumber 25 = .ok (.ireturn, 1) := by decide +kernel
theorem dX12_aStep_0 : decode cX12_aStep 0 = .ok (.aload_n 1, 1) := by decide +kernel
theorem dX12_aStep_1 : decode cX12_aStep 1 = .ok (.iconst 1, 1) := by decide +kernel
theorem dX12_aStep_2 : decode cX12_aStep 2 = .ok (.iaload, 1) := by decide +kernel
theorem dX12_aStep_3 : decode cX12_aStep 3 = .ok (.bipush 24, 2) := by decide +kernel
theorem dX12_aStep_5 : decode cX12_aStep 5 = .ok (.if_icmp .ne 10, 3) := by decide +kernel
theorem dX12_aStep_8 : decode cX12_aStep 8 = .ok (.aload_n 0, 1) := by decide +kernel
theorem dX12_aStep_9 : decode cX12_aStep 9 = .ok (.bipush 6, 2) := by decide +kernel
theorem dX12_aStep_11 : decode cX12_aStep 11 = .ok (.invokevirtual 193, 3) := by decide +kernel
theorem dX12_aStep_14 : decode cX12_aStep 14 = .ok (.ireturn, 1) := by decide +kernel
theorem dX12_aStep_15 : decode cX12_aStep 15 = .ok (.aload_n 0, 1) := by decide +kernel
theorem dX12_aStep_16 : decode cX12_aStep 16 = .ok (.aload_n 0, 1) := by decide +kernel
theorem dX12_aStep_17 : decode cX12_aStep 17 = .ok (.getfield 151, 3) := by decide +kernel
theorem dX12_aStep_20 : decode cX12_aStep 20 = .ok (.invokevirtual 148, 3) := by decide +kernel
theorem dX12_aStep_23 : decode cX12_aStep 23 = .ok (.bipush 60, 2) := by decide +kernel
theorem dX12_aStep_25 : decode cX12_aStep 25 = .ok (.if_icmp .ne 7, 3) := by decide +kernel
theorem dX12_aStep_28 : decode cX12_aStep 28 = .ok (.iconst 1, 1) := by decide +kernel
theorem dX12_aStep_29 : decode cX12_aStep 29 = .ok (.goto 4, 3) := by decide +kernel
theorem dX12_aStep_32 : decode cX12_aStep 32 = .ok (.iconst 0, 1) := by decide +kernel
theorem dX12_aStep_33 : decode cX12_aStep 33 = .ok (.istore_n 2, 1) := by decide +kernel
theorem dX12_aStep_34 : decode cX12_aStep 34 = .ok (.aload_n 0, 1) := by decide +kernel
theorem dX12_aStep_35 : decode cX12_aStep 35 = .ok (.invokevirtual 190, 3) := by decide +kernel
theorem dX12_aStep_38 : decode cX12_aStep 38 = .ok (.aload_n 0, 1) := by decide +kernel
theorem dX12_aStep_39 : decode cX12_aStep 39 = .ok (.invokevirtual 196, 3) := by decide +kernel
theorem dX12_aStep_42 : decode cX12_aStep 42 = .ok (.ifCond .ne 5, 3) := by decide +kernel
theorem dX12_aStep_45 : decode cX12_aStep 45 = .ok (.iconst 0, 1) := by decide +kernel
theorem dX12_aStep_46 : decode cX12_aStep 46 = .ok (.ireturn, 1) := by decide +kernel
theorem dX12_aStep_47 : decode cX12_aStep 47 = .ok (.aload_n 0, 1) := by decide +kernel
theorem dX12_aStep_48 : decode cX12_aStep 48 = .ok (.aload_n 0, 1) := by decide +kernel
theorem dX12_aStep_49 : decode cX12_aStep 49 = .ok (.getfield 164, 3) := by decide +kernel
theorem dX12_aStep_52 : decode cX12_aStep 52 = .ok (.invokevirtual 213, 3) := by decide +kernel
theorem dX12_aStep_55 : decode cX12_aStep 55 = .ok (.ifCond .ne 9, 3) := by decide +kernel
theorem dX12_aStep_58 : decode cX12_aStep 58 = .ok (.aload_n 0, 1) := by decide +kernel
theorem dX12_aStep_59 : decode cX12_aStep 59 = .ok (.iconst 3, 1) := by decide +kernel
theorem dX12_aStep_60 : decode cX12_aStep 60 = .ok (.invokevirtual 193, 3) := by decide +kernel
theorem dX12_aStep_63 : decode cX12_aStep 63 = .ok (.ireturn, 1) := by decide +kernel
theorem dX12_aStep_64 : decode cX12_aStep 64 = .ok (.iconst 2, 1) := by decide +kernel
theorem dX12_aStep_65 : decode cX12_aStep 65 = .ok (.aload_n 0, 1) := by decide +kernel
theorem dX12_aStep_66 : decode cX12_aStep 66 = .ok (.getfield 164, 3) := by decide +kernel
theorem dX12_aStep_69 : decode cX12_aStep 69 = .ok (.imul, 1) := by decide +kernel
theorem dX12_aStep_70 : decode cX12_aStep 70 = .ok (.iload_n 2, 1) := by decide +kernel
theorem dX12_aStep_71 : decode cX12_aStep 71 = .ok (.iadd, 1) := by decide +kernel
theorem dX12_aStep_72 : decode cX12_aStep 72 = .ok (.istore_n 3, 1) := by decide +kernel
theorem dX12_aStep_73 : decode cX12_aStep 73 = .ok (.aload_n 0, 1) := by decide +kernel
theorem dX12_aStep_74 : decode cX12_aStep 74 = .ok (.iload_n 3, 1) := by decide +kernel
theorem dX12_aStep_75 : decode cX12_aStep 75 = .ok (.invokevirtual 78, 3) := by decide +kernel
theorem dX12_aStep_78 : decode cX12_aStep 78 = .ok (.aload_n 0, 1) := by decide +kernel
theorem dX12_aStep_79 : decode cX12_aStep 79 = .ok (.aload_n 1, 1) := by decide +kernel
theorem dX12_aStep_80 : decode cX12_aStep 80 = .ok (.invokevirtual 117, 3) := by decide +kernel
theorem dX12_aStep_83 : decode cX12_aStep 83 = .ok (.if_icmp .eq 9, 3) := by decide +kernel
theorem dX12_aStep_86 : decode cX12_aStep 86 = .ok (.aload_n 0, 1) := by decide +kernel
theorem dX12_aStep_87 : decode cX12_aStep 87 = .ok (.iconst 5, 1) := by decide +kernel
theorem dX12_aStep_88 : decode cX12_aStep 88 = .ok (.invokevirtual 193, 3) := by decide +kernel
theorem dX12_aStep_91 : decode cX12_aStep 91 = .ok (.ireturn, 1) := by decide +kernel
theorem dX12_aStep_92 : decode cX12_aStep 92 = .ok (.aload_n 0, 1) := by decide +kernel
theorem dX12_aStep_93 : decode cX12_aStep 93 = .ok (.invokevirtual 190, 3) := by decide +kernel
theorem dX12_aStep_96 : decode cX12_aStep 96 = .ok (.aload_n 1, 1) := by decide +kernel
theorem dX12_aStep_97 : decode cX12_aStep 97 = .ok (.iload_n 3, 1) := by decide +kernel
theorem dX12_aStep_98 : decode cX12_aStep 98 = .ok (.aload_n 0, 1) := by decide +kernel
theorem dX12_aStep_99 : decode cX12_aStep 99 = .ok (.aload_n 0, 1) := by decide +kernel
theorem dX12_aStep_100 : decode cX12_aStep 100 = .ok (.iload_n 3, 1) := by decide +kernel
theorem dX12_aStep_101 : decode cX12_aStep 101 = .ok (.invokevirtual 91, 3) := by decide +kernel
theorem dX12_aStep_104 : decode cX12_aStep 104 = .ok (.invokevirtual 216, 3) := by decide +kernel
theorem dX12_aStep_107 : decode cX12_aStep 107 = .ok (.invokestatic 104, 3) := by decide +kernel
theorem dX12_aStep_110 : decode cX12_aStep 110 = .ok (.iconst 1, 1) := by decide +kernel
theorem dX12_aStep_111 : decode cX12_aStep 111 = .ok (.ireturn, 1) := by decide +kernel
theorem dX12_keeps_0 : decode cX12_keeps 0 = .ok (.iconst 0, 1) := by decide +kernel
theorem dX12_keeps_1 : decode cX12_keeps 1 = .ok (.istore_n 2, 1) := by decide +kernel
theorem dX12_keeps_2 : decode cX12_keeps 2 = .ok (.iload_n 2, 1) := by decide +kernel
theorem dX12_keeps_3 : decode cX12_keeps 3 = .ok (.bipush 52, 2) := by decide +kernel
theorem dX12_keeps_5 : decode cX12_keeps 5 = .ok (.if_icmp .ge 30, 3) := by decide +kernel
theorem dX12_keeps_8 : decode cX12_keeps 8 = .ok (.aload_n 0, 1) := by decide +kernel
theorem dX12_keeps_9 : decode cX12_keeps 9 = .ok (.getfield 7, 3) := by decide +kernel
theorem dX12_keeps_12 : decode cX12_keeps 12 = .ok (.bipush 34, 2) := by decide +kernel
theorem dX12_keeps_14 : decode cX12_keeps 14 = .ok (.bipush 52, 2) := by decide +kernel
theorem dX12_keeps_16 : decode cX12_keeps 16 = .ok (.aload_n 0, 1) := by decide +kernel
theorem dX12_keeps_17 : decode cX12_keeps 17 = .ok (.iconst 2, 1) := by decide +kernel
theorem dX12_keeps_18 : decode cX12_keeps 18 = .ok (.invokevirtual 70, 3) := by decide +kernel
theorem dX12_keeps_21 : decode cX12_keeps 21 = .ok (.imul, 1) := by decide +kernel
theorem dX12_keeps_22 : decode cX12_keeps 22 = .ok (.iadd, 1) := by decide +kernel
theorem dX12_keeps_23 : decode cX12_keeps 23 = .ok (.iload_n 2, 1) := by decide +kernel
theorem dX12_keeps_24 : decode cX12_keeps 24 = .ok (.iadd, 1) := by decide +kernel
theorem dX12_keeps_25 : decode cX12_keeps 25 = .ok (.aload_n 1, 1) := by decide +kernel
theorem dX12_keeps_26 : decode cX12_keeps 26 = .ok (.iload_n 2, 1) := by decide +kernel
theorem dX12_keeps_27 : decode cX12_keeps 27 = .ok (.iaload, 1) := by decide +kernel
theorem dX12_keeps_28 : decode cX12_keeps 28 = .ok (.iastore, 1) := by decide +kernel
theorem dX12_keeps_29 : decode cX12_keeps 29 = .ok (.iinc 2 1, 3) := by decide +kernel
theorem dX12_keeps_32 : decode cX12_keeps 32 = .ok (.goto (-30), 3) := by decide +kernel
theorem dX12_keeps_35 : decode cX12_keeps 35 = .ok (.aload_n 0, 1) := by decide +kernel
theorem dX12_keeps_36 : decode cX12_keeps 36 = .ok (.getfield 7, 3) := by decide +kernel
theorem dX12_keeps_39 : decode cX12_keeps 39 = .ok (.iconst 2, 1) := by decide +kernel
theorem dX12_keeps_40 : decode cX12_keeps 40 = .ok (.dup2, 1) := by decide +kernel
theorem dX12_keeps_41 : decode cX12_keeps 41 = .ok (.iaload, 1) := by decide +kernel
theorem dX12_keeps_42 : decode cX12_keeps 42 = .ok (.iconst 1, 1) := by decide +kernel
theorem dX12_keeps_43 : decode cX12_keeps 43 = .ok (.iadd, 1) := by decide +kernel
theorem dX12_keeps_44 : decode cX12_keeps 44 = .ok (.iastore, 1) := by decide +kernel
theorem dX12_keeps_45 : decode cX12_keeps 45 = .ok (.return_, 1) := by decide +kernel
theorem dX12_aWord_0 : decode cX12_aWord 0 = .ok (.aload_n 0, 1) := by decide +kernel
theorem dX12_aWord_1 : decode cX12_aWord 1 = .ok (.iconst 2, 1) := by decide +kernel
theorem dX12_aWord_2 : decode cX12_aWord 2 = .ok (.invokevirtual 70, 3) := by decide +kernel
theorem dX12_aWord_5 : decode cX12_aWord 5 = .ok (.bipush 10, 2) := by decide +kernel
theorem dX12_aWord_7 : decode cX12_aWord 7 = .ok (.if_icmp .ne 10, 3) := by decide +kernel
theorem dX12_aWord_10 : decode cX12_aWord 10 = .ok (.aload_n 0, 1) := by decide +kernel
theorem dX12_aWord_11 : decode cX12_aWord 11 = .ok (.bipush 6, 2) := by decide +kernel
theorem dX12_aWord_13 : decode cX12_aWord 13 = .ok (.invokevirtual 193, 3) := by decide +kernel
theorem dX12_aWord_16 : decode cX12_aWord 16 = .ok (.ireturn, 1) := by decide +kernel
theorem dX12_aWord_17 : decode cX12_aWord 17 = .ok (.aload_n 0, 1) := by decide +kernel
theorem dX12_aWord_18 : decode cX12_aWord 18 = .ok (.getfield 15, 3) := by decide +kernel
theorem dX12_aWord_21 : decode cX12_aWord 21 = .ok (.iconst 0, 1) := by decide +kernel
theorem dX12_aWord_22 : decode cX12_aWord 22 = .ok (.aaload, 1) := by decide +kernel
theorem dX12_aWord_23 : decode cX12_aWord 23 = .ok (.astore_n 1, 1) := by decide +kernel
theorem dX12_aWord_24 : decode cX12_aWord 24 = .ok (.aload_n 0, 1) := by decide +kernel
theorem dX12_aWord_25 : decode cX12_aWord 25 = .ok (.invokevirtual 190, 3) := by decide +kernel
theorem dX12_aWord_28 : decode cX12_aWord 28 = .ok (.aload_n 0, 1) := by decide +kernel
theorem dX12_aWord_29 : decode cX12_aWord 29 = .ok (.invokevirtual 196, 3) := by decide +kernel
theorem dX12_aWord_32 : decode cX12_aWord 32 = .ok (.ifCond .ne 5, 3) := by decide +kernel
theorem dX12_aWord_35 : decode cX12_aWord 35 = .ok (.iconst 0, 1) := by decide +kernel
theorem dX12_aWord_36 : decode cX12_aWord 36 = .ok (.ireturn, 1) := by decide +kernel
theorem dX12_aWord_37 : decode cX12_aWord 37 = .ok (.aload_n 0, 1) := by decide +kernel
theorem dX12_aWord_38 : decode cX12_aWord 38 = .ok (.aload_n 0, 1) := by decide +kernel
theorem dX12_aWord_39 : decode cX12_aWord 39 = .ok (.getfield 164, 3) := by decide +kernel
theorem dX12_aWord_42 : decode cX12_aWord 42 = .ok (.invokevirtual 207, 3) := by decide +kernel
theorem dX12_aWord_45 : decode cX12_aWord 45 = .ok (.ifCond .ne 9, 3) := by decide +kernel
theorem dX12_aWord_48 : decode cX12_aWord 48 = .ok (.aload_n 0, 1) := by decide +kernel
theorem dX12_aWord_49 : decode cX12_aWord 49 = .ok (.iconst 3, 1) := by decide +kernel
theorem dX12_aWord_50 : decode cX12_aWord 50 = .ok (.invokevirtual 193, 3) := by decide +kernel
theorem dX12_aWord_53 : decode cX12_aWord 53 = .ok (.ireturn, 1) := by decide +kernel
theorem dX12_aWord_54 : decode cX12_aWord 54 = .ok (.aload_n 0, 1) := by decide +kernel
theorem dX12_aWord_55 : decode cX12_aWord 55 = .ok (.getfield 164, 3) := by decide +kernel
theorem dX12_aWord_58 : decode cX12_aWord 58 = .ok (.istore_n 2, 1) := by decide +kernel
theorem dX12_aWord_59 : decode cX12_aWord 59 = .ok (.aload_n 0, 1) := by decide +kernel
theorem dX12_aWord_60 : decode cX12_aWord 60 = .ok (.invokevirtual 190, 3) := by decide +kernel
theorem dX12_aWord_63 : decode cX12_aWord 63 = .ok (.aload_n 1, 1) := by decide +kernel
theorem dX12_aWord_64 : decode cX12_aWord 64 = .ok (.iload_n 2, 1) := by decide +kernel
theorem dX12_aWord_65 : decode cX12_aWord 65 = .ok (.aload_n 0, 1) := by decide +kernel
theorem dX12_aWord_66 : decode cX12_aWord 66 = .ok (.iload_n 2, 1) := by decide +kernel
theorem dX12_aWord_67 : decode cX12_aWord 67 = .ok (.invokevirtual 216, 3) := by decide +kernel
theorem dX12_aWord_70 : decode cX12_aWord 70 = .ok (.invokestatic 100, 3) := by decide +kernel
theorem dX12_aWord_73 : decode cX12_aWord 73 = .ok (.aload_n 0, 1) := by decide +kernel
theorem dX12_aWord_74 : decode cX12_aWord 74 = .ok (.getfield 154, 3) := by decide +kernel
theorem dX12_aWord_77 : decode cX12_aWord 77 = .ok (.iconst 4, 1) := by decide +kernel
theorem dX12_aWord_78 : decode cX12_aWord 78 = .ok (.if_icmp .ne 26, 3) := by decide +kernel
theorem dX12_aWord_81 : decode cX12_aWord 81 = .ok (.aload_n 0, 1) := by decide +kernel
theorem dX12_aWord_82 : decode cX12_aWord 82 = .ok (.aload_n 0, 1) := by decide +kernel
theorem dX12_aWord_83 : decode cX12_aWord 83 = .ok (.getfield 151, 3) := by decide +kernel
theorem dX12_aWord_86 : decode cX12_aWord 86 = .ok (.invokevirtual 148, 3) := by decide +kernel
theorem dX12_aWord_89 : decode cX12_aWord 89 = .ok (.bipush 59, 2) := by decide +kernel
theorem dX12_aWord_91 : decode cX12_aWord 91 = .ok (.if_icmp .eq 13, 3) := by decide +kernel
theorem dX12_aWord_94 : decode cX12_aWord 94 = .ok (.aload_n 0, 1) := by decide +kernel
theorem dX12_aWord_95 : decode cX12_aWord 95 = .ok (.aload_n 1, 1) := by decide +kernel
theorem dX12_aWord_96 : decode cX12_aWord 96 = .ok (.invokevirtual 219, 3) := by decide +kernel
theorem dX12_aWord_99 : decode cX12_aWord 99 = .ok (.ifCond .ne (-26), 3) := by decide +kernel
theorem dX12_aWord_102 : decode cX12_aWord 102 = .ok (.iconst 0, 1) := by decide +kernel
theorem dX12_aWord_103 : decode cX12_aWord 103 = .ok (.ireturn, 1) := by decide +kernel
theorem dX12_aWord_104 : decode cX12_aWord 104 = .ok (.aload_n 0, 1) := by decide +kernel
theorem dX12_aWord_105 : decode cX12_aWord 105 = .ok (.aload_n 1, 1) := by decide +kernel
theorem dX12_aWord_106 : decode cX12_aWord 106 = .ok (.invokevirtual 223, 3) := by decide +kernel
theorem dX12_aWord_109 : decode cX12_aWord 109 = .ok (.iconst 1, 1) := by decide +kernel
theorem dX12_aWord_110 : decode cX12_aWord 110 = .ok (.ireturn, 1) := by decide +kernel
theorem dX12_aLine_0 : decode cX12_aLine 0 = .ok (.aload_n 0, 1) := by decide +kernel
theorem dX12_aLine_1 : decode cX12_aLine 1 = .ok (.invokevirtual 226, 3) := by decide +kernel
theorem dX12_aLine_4 : decode cX12_aLine 4 = .ok (.istore_n 1, 1) := by decide +kernel
theorem dX12_aLine_5 : decode cX12_aLine 5 = .ok (.iload_n 1, 1) := by decide +kernel
theorem dX12_aLine_6 : decode cX12_aLine 6 = .ok (.ifCond .ne 10, 3) := by decide +kernel
theorem dX12_aLine_9 : decode cX12_aLine 9 = .ok (.aload_n 0, 1) := by decide +kernel
theorem dX12_aLine_10 : decode cX12_aLine 10 = .ok (.invokevirtual 229, 3) := by decide +kernel
theorem dX12_aLine_13 : decode cX12_aLine 13 = .ok (.goto 32, 3) := by decide +kernel
theorem dX12_aLine_16 : decode cX12_aLine 16 = .ok (.iload_n 1, 1) := by decide +kernel
theorem dX12_aLine_17 : decode cX12_aLine 17 = .ok (.iconst 1, 1) := by decide +kernel
theorem dX12_aLine_18 : decode cX12_aLine 18 = .ok (.if_icmp .ne 10, 3) := by decide +kernel
theorem dX12_aLine_21 : decode cX12_aLine 21 = .ok (.aload_n 0, 1) := by decide +kernel
theorem dX12_aLine_22 : decode cX12_aLine 22 = .ok (.invokevirtual 232, 3) := by decide +kernel
theorem dX12_aLine_25 : decode cX12_aLine 25 = .ok (.goto 20, 3) := by decide +kernel
theorem dX12_aLine_28 : decode cX12_aLine 28 = .ok (.iload_n 1, 1) := by decide +kernel
theorem dX12_aLine_29 : decode cX12_aLine 29 = .ok (.iconst 2, 1) := by decide +kernel
theorem dX12_aLine_30 : decode cX12_aLine 30 = .ok (.if_icmp .ne 10, 3) := by decide +kernel
theorem dX12_aLine_33 : decode cX12_aLine 33 = .ok (.aload_n 0, 1) := by decide +kernel
theorem dX12_aLine_34 : decode cX12_aLine 34 = .ok (.invokevirtual 235, 3) := by decide +kernel
theorem dX12_aLine_37 : decode cX12_aLine 37 = .ok (.goto 8, 3) := by decide +kernel
theorem dX12_aLine_40 : decode cX12_aLine 40 = .ok (.aload_n 0, 1) := by decide +kernel
theorem dX12_aLine_41 : decode cX12_aLine 41 = .ok (.iconst 2, 1) := by decide +kernel
theorem dX12_aLine_42 : decode cX12_aLine 42 = .ok (.invokevirtual 193, 3) := by decide +kernel
theorem dX12_aLine_45 : decode cX12_aLine 45 = .ok (.istore_n 2, 1) := by decide +kernel
theorem dX12_aLine_46 : decode cX12_aLine 46 = .ok (.iload_n 2, 1) := by decide +kernel
theorem dX12_aLine_47 : decode cX12_aLine 47 = .ok (.ifCond .ne 5, 3) := by decide +kernel
theorem dX12_aLine_50 : decode cX12_aLine 50 = .ok (.iconst 0, 1) := by decide +kernel
theorem dX12_aLine_51 : decode cX12_aLine 51 = .ok (.ireturn, 1) := by decide +kernel
theorem dX12_aLine_52 : decode cX12_aLine 52 = .ok (.aload_n 0, 1) := by decide +kernel
theorem dX12_aLine_53 : decode cX12_aLine 53 = .ok (.getfield 154, 3) := by decide +kernel
theorem dX12_aLine_56 : decode cX12_aLine 56 = .ok (.iconst 4, 1) := by decide +kernel
theorem dX12_aLine_57 : decode cX12_aLine 57 = .ok (.if_icmp .ne 16, 3) := by decide +kernel
theorem dX12_aLine_60 : decode cX12_aLine 60 = .ok (.aload_n 0, 1) := by decide +kernel
theorem dX12_aLine_61 : decode cX12_aLine 61 = .ok (.aload_n 0, 1) := by decide +kernel
theorem dX12_aLine_62 : decode cX12_aLine 62 = .ok (.getfield 151, 3) := by decide +kernel
theorem dX12_aLine_65 : decode cX12_aLine 65 = .ok (.invokevirtual 148, 3) := by decide +kernel
theorem dX12_aLine_68 : decode cX12_aLine 68 = .ok (.bipush 59, 2) := by decide +kernel
theorem dX12_aLine_70 : decode cX12_aLine 70 = .ok (.if_icmp .eq 9, 3) := by decide +kernel
theorem dX12_aLine_73 : decode cX12_aLine 73 = .ok (.aload_n 0, 1) := by decide +kernel
theorem dX12_aLine_74 : decode cX12_aLine 74 = .ok (.iconst 2, 1) := by decide +kernel
theorem dX12_aLine_75 : decode cX12_aLine 75 = .ok (.invokevirtual 193, 3) := by decide +kernel
theorem dX12_aLine_78 : decode cX12_aLine 78 = .ok (.ireturn, 1) := by decide +kernel
theorem dX12_aLine_79 : decode cX12_aLine 79 = .ok (.aload_n 0, 1) := by decide +kernel
theorem dX12_aLine_80 : decode cX12_aLine 80 = .ok (.dup, 1) := by decide +kernel
theorem dX12_aLine_81 : decode cX12_aLine 81 = .ok (.getfield 187, 3) := by decide +kernel
theorem dX12_aLine_84 : decode cX12_aLine 84 = .ok (.iconst 1, 1) := by decide +kernel
theorem dX12_aLine_85 : decode cX12_aLine 85 = .ok (.iadd, 1) := by decide +kernel
theorem dX12_aLine_86 : decode cX12_aLine 86 = .ok (.putfield 187, 3) := by decide +kernel
theorem dX12_aLine_89 : decode cX12_aLine 89 = .ok (.aload_n 0, 1) := by decide +kernel
theorem dX12_aLine_90 : decode cX12_aLine 90 = .ok (.invokevirtual 204, 3) := by decide +kernel
theorem dX12_aLine_93 : decode cX12_aLine 93 = .ok (.ireturn, 1) := by decide +kernel
theorem dX12_load_0 : decode cX12_load 0 = .ok (.iload_n 1, 1) := by decide +kernel
theorem dX12_load_1 : decode cX12_load 1 = .ok (.iconst 0, 1) := by decide +kernel
theorem dX12_load_2 : decode cX12_load 2 = .ok (.aload_n 0, 1) := by decide +kernel
theorem dX12_load_3 : decode cX12_load 3 = .ok (.getfield 135, 3) := by decide +kernel
theorem dX12_load_6 : decode cX12_load 6 = .ok (.invokestatic 200, 3) := by decide +kernel
theorem dX12_load_9 : decode cX12_load 9 = .ok (.ifCond .ne 9, 3) := by decide +kernel
theorem dX12_load_12 : decode cX12_load 12 = .ok (.aload_n 0, 1) := by decide +kernel
theorem dX12_load_13 : decode cX12_load 13 = .ok (.iconst 1, 1) := by decide +kernel
theorem dX12_load_14 : decode cX12_load 14 = .ok (.invokevirtual 238, 3) := by decide +kernel
theorem dX12_load_17 : decode cX12_load 17 = .ok (.ireturn, 1) := by decide +kernel
theorem dX12_load_18 : decode cX12_load 18 = .ok (.aload_n 0, 1) := by decide +kernel
theorem dX12_load_19 : decode cX12_load 19 = .ok (.iload_n 1, 1) := by decide +kernel
theorem dX12_load_20 : decode cX12_load 20 = .ok (.putfield 142, 3) := by decide +kernel
theorem dX12_load_23 : decode cX12_load 23 = .ok (.iconst 0, 1) := by decide +kernel
theorem dX12_load_24 : decode cX12_load 24 = .ok (.istore_n 2, 1) := by decide +kernel
theorem dX12_load_25 : decode cX12_load 25 = .ok (.iload_n 2, 1) := by decide +kernel
theorem dX12_load_26 : decode cX12_load 26 = .ok (.iload_n 1, 1) := by decide +kernel
theorem dX12_load_27 : decode cX12_load 27 = .ok (.if_icmp .ge 21, 3) := by decide +kernel
theorem dX12_load_30 : decode cX12_load 30 = .ok (.aload_n 0, 1) := by decide +kernel
theorem dX12_load_31 : decode cX12_load 31 = .ok (.getfield 28, 3) := by decide +kernel
theorem dX12_load_34 : decode cX12_load 34 = .ok (.iload_n 2, 1) := by decide +kernel
theorem dX12_load_35 : decode cX12_load 35 = .ok (.aload_n 0, 1) := by decide +kernel
theorem dX12_load_36 : decode cX12_load 36 = .ok (.getfield 24, 3) := by decide +kernel
theorem dX12_load_39 : decode cX12_load 39 = .ok (.iload_n 2, 1) := by decide +kernel
theorem dX12_load_40 : decode cX12_load 40 = .ok (.baload, 1) := by decide +kernel
theorem dX12_load_41 : decode cX12_load 41 = .ok (.bastore, 1) := by decide +kernel
theorem dX12_load_42 : decode cX12_load 42 = .ok (.iinc 2 1, 3) := by decide +kernel
theorem dX12_load_45 : decode cX12_load 45 = .ok (.goto (-20), 3) := by decide +kernel
theorem dX12_load_48 : decode cX12_load 48 = .ok (.aload_n 0, 1) := by decide +kernel
theorem dX12_load_49 : decode cX12_load 49 = .ok (.iconst 0, 1) := by decide +kernel
theorem dX12_load_50 : decode cX12_load 50 = .ok (.putfield 135, 3) := by decide +kernel
theorem dX12_load_53 : decode cX12_load 53 = .ok (.aload_n 0, 1) := by decide +kernel
theorem dX12_load_54 : decode cX12_load 54 = .ok (.iconst 0, 1) := by decide +kernel
theorem dX12_load_55 : decode cX12_load 55 = .ok (.putfield 184, 3) := by decide +kernel
theorem dX12_load_58 : decode cX12_load 58 = .ok (.aload_n 0, 1) := by decide +kernel
theorem dX12_load_59 : decode cX12_load 59 = .ok (.iconst (-1), 1) := by decide +kernel
theorem dX12_load_60 : decode cX12_load 60 = .ok (.putfield 31, 3) := by decide +kernel
theorem dX12_load_63 : decode cX12_load 63 = .ok (.aload_n 0, 1) := by decide +kernel
theorem dX12_load_64 : decode cX12_load 64 = .ok (.iconst (-1), 1) := by decide +kernel
theorem dX12_load_65 : decode cX12_load 65 = .ok (.putfield 35, 3) := by decide +kernel
theorem dX12_load_68 : decode cX12_load 68 = .ok (.aload_n 0, 1) := by decide +kernel
theorem dX12_load_69 : decode cX12_load 69 = .ok (.iconst 0, 1) := by decide +kernel
theorem dX12_load_70 : decode cX12_load 70 = .ok (.putfield 187, 3) := by decide +kernel
theorem dX12_load_73 : decode cX12_load 73 = .ok (.aload_n 0, 1) := by decide +kernel
theorem dX12_load_74 : decode cX12_load 74 = .ok (.iconst 0, 1) := by decide +kernel
theorem dX12_load_75 : decode cX12_load 75 = .ok (.putfield 145, 3) := by decide +kernel
theorem dX12_load_78 : decode cX12_load 78 = .ok (.aload_n 0, 1) := by decide +kernel
theorem dX12_load_79 : decode cX12_load 79 = .ok (.iconst 0, 1) := by decide +kernel
theorem dX12_load_80 : decode cX12_load 80 = .ok (.sipush 554, 3) := by decide +kernel
theorem dX12_load_83 : decode cX12_load 83 = .ok (.invokevirtual 241, 3) := by decide +kernel
theorem dX12_load_86 : decode cX12_load 86 = .ok (.iconst 0, 1) := by decide +kernel
theorem dX12_load_87 : decode cX12_load 87 = .ok (.istore_n 2, 1) := by decide +kernel
theorem dX12_load_88 : decode cX12_load 88 = .ok (.iload_n 2, 1) := by decide +kernel
theorem dX12_load_89 : decode cX12_load 89 = .ok (.sipush 554, 3) := by decide +kernel
theorem dX12_load_92 : decode cX12_load 92 = .ok (.if_icmp .ge 16, 3) := by decide +kernel
theorem dX12_load_95 : decode cX12_load 95 = .ok (.aload_n 0, 1) := by decide +kernel
theorem dX12_load_96 : decode cX12_load 96 = .ok (.getfield 7, 3) := by decide +kernel
theorem dX12_load_99 : decode cX12_load 99 = .ok (.iload_n 2, 1) := by decide +kernel
theorem dX12_load_100 : decode cX12_load 100 = .ok (.iconst 0, 1) := by decide +kernel
theorem dX12_load_101 : decode cX12_load 101 = .ok (.iastore, 1) := by decide +kernel
theorem dX12_load_102 : decode cX12_load 102 = .ok (.iinc 2 1, 3) := by decide +kernel
theorem dX12_load_105 : decode cX12_load 105 = .ok (.goto (-17), 3) := by decide +kernel
theorem dX12_load_108 : decode cX12_load 108 = .ok (.aload_n 0, 1) := by decide +kernel
theorem dX12_load_109 : decode cX12_load 109 = .ok (.invokevirtual 190, 3) := by decide +kernel
theorem dX12_load_112 : decode cX12_load 112 = .ok (.iconst 1, 1) := by decide +kernel
theorem dX12_load_113 : decode cX12_load 113 = .ok (.istore_n 2, 1) := by decide +kernel
theorem dX12_load_114 : decode cX12_load 114 = .ok (.iload_n 2, 1) := by decide +kernel
theorem dX12_load_115 : decode cX12_load 115 = .ok (.ifCond .eq 18, 3) := by decide +kernel
theorem dX12_load_118 : decode cX12_load 118 = .ok (.aload_n 0, 1) := by decide +kernel
theorem dX12_load_119 : decode cX12_load 119 = .ok (.getfield 154, 3) := by decide +kernel
theorem dX12_load_122 : decode cX12_load 122 = .ok (.ifCond .eq 11, 3) := by decide +kernel
theorem dX12_load_125 : decode cX12_load 125 = .ok (.aload_n 0, 1) := by decide +kernel
theorem dX12_load_126 : decode cX12_load 126 = .ok (.invokevirtual 245, 3) := by decide +kernel
theorem dX12_load_129 : decode cX12_load 129 = .ok (.istore_n 2, 1) := by decide +kernel
theorem dX12_load_130 : decode cX12_load 130 = .ok (.goto (-16), 3) := by decide +kernel
theorem dX12_load_133 : decode cX12_load 133 = .ok (.aload_n 0, 1) := by decide +kernel
theorem dX12_load_134 : decode cX12_load 134 = .ok (.aload_n 0, 1) := by decide +kernel
theorem dX12_load_135 : decode cX12_load 135 = .ok (.getfield 184, 3) := by decide +kernel
theorem dX12_load_138 : decode cX12_load 138 = .ok (.putfield 38, 3) := by decide +kernel
theorem dX12_load_141 : decode cX12_load 141 = .ok (.aload_n 0, 1) := by decide +kernel
theorem dX12_load_142 : decode cX12_load 142 = .ok (.getfield 184, 3) := by decide +kernel
theorem dX12_load_145 : decode cX12_load 145 = .ok (.ifCond .le 18, 3) := by decide +kernel
theorem dX12_load_148 : decode cX12_load 148 = .ok (.aload_n 0, 1) := by decide +kernel
theorem dX12_load_149 : decode cX12_load 149 = .ok (.sipush 554, 3) := by decide +kernel
theorem dX12_load_152 : decode cX12_load 152 = .ok (.iconst 0, 1) := by decide +kernel
theorem dX12_load_153 : decode cX12_load 153 = .ok (.invokevirtual 241, 3) := by decide +kernel
theorem dX12_load_156 : decode cX12_load 156 = .ok (.aload_n 0, 1) := by decide +kernel
theorem dX12_load_157 : decode cX12_load 157 = .ok (.bipush 9, 2) := by decide +kernel
theorem dX12_load_159 : decode cX12_load 159 = .ok (.invokevirtual 238, 3) := by decide +kernel
theorem dX12_load_162 : decode cX12_load 162 = .ok (.ireturn, 1) := by decide +kernel
theorem dX12_load_163 : decode cX12_load 163 = .ok (.aload_n 0, 1) := by decide +kernel
theorem dX12_load_164 : decode cX12_load 164 = .ok (.sipush 554, 3) := by decide +kernel
theorem dX12_load_167 : decode cX12_load 167 = .ok (.invokevirtual 248, 3) := by decide +kernel
theorem dX12_load_170 : decode cX12_load 170 = .ok (.aload_n 0, 1) := by decide +kernel
theorem dX12_load_171 : decode cX12_load 171 = .ok (.aload_n 0, 1) := by decide +kernel
theorem dX12_load_172 : decode cX12_load 172 = .ok (.iconst 2, 1) := by decide +kernel
theorem dX12_load_173 : decode cX12_load 173 = .ok (.invokevirtual 70, 3) := by decide +kernel
theorem dX12_load_176 : decode cX12_load 176 = .ok (.invokevirtual 251, 3) := by decide +kernel
theorem dX12_load_179 : decode cX12_load 179 = .ok (.ireturn, 1) := by decide +kernel
theorem dX12_fault_0 : decode cX12_fault 0 = .ok (.iload_n 1, 1) := by decide +kernel
theorem dX12_fault_1 : decode cX12_fault 1 = .ok (.ifCond .ne 10, 3) := by decide +kernel
theorem dX12_fault_4 : decode cX12_fault 4 = .ok (.aload_n 0, 1) := by decide +kernel
theorem dX12_fault_5 : decode cX12_fault 5 = .ok (.getfield 38, 3) := by decide +kernel
theorem dX12_fault_8 : decode cX12_fault 8 = .ok (.goto 28, 3) := by decide +kernel
theorem dX12_fault_11 : decode cX12_fault 11 = .ok (.iload_n 1, 1) := by decide +kernel
theorem dX12_fault_12 : decode cX12_fault 12 = .ok (.iconst 1, 1) := by decide +kernel
theorem dX12_fault_13 : decode cX12_fault 13 = .ok (.if_icmp .ne 10, 3) := by decide +kernel
theorem dX12_fault_16 : decode cX12_fault 16 = .ok (.aload_n 0, 1) := by decide +kernel
theorem dX12_fault_17 : decode cX12_fault 17 = .ok (.getfield 31, 3) := by decide +kernel
theorem dX12_fault_20 : decode cX12_fault 20 = .ok (.goto 16, 3) := by decide +kernel
theorem dX12_fault_23 : decode cX12_fault 23 = .ok (.iload_n 1, 1) := by decide +kernel
theorem dX12_fault_24 : decode cX12_fault 24 = .ok (.iconst 2, 1) := by decide +kernel
theorem dX12_fault_25 : decode cX12_fault 25 = .ok (.if_icmp .ne 10, 3) := by decide +kernel
theorem dX12_fault_28 : decode cX12_fault 28 = .ok (.aload_n 0, 1) := by decide +kernel
theorem dX12_fault_29 : decode cX12_fault 29 = .ok (.getfield 35, 3) := by decide +kernel
theorem dX12_fault_32 : decode cX12_fault 32 = .ok (.goto 4, 3) := by decide +kernel
theorem dX12_fault_35 : decode cX12_fault 35 = .ok (.iconst (-1), 1) := by decide +kernel
theorem dX12_fault_36 : decode cX12_fault 36 = .ok (.ireturn, 1) := by decide +kernel
theorem dX12_partOf_0 : decode cX12_partOf 0 = .ok (.iconst 1, 1) := by decide +kernel
theorem dX12_partOf_1 : decode cX12_partOf 1 = .ok (.iload_n 1, 1) := by decide +kernel
theorem dX12_partOf_2 : decode cX12_partOf 2 = .ok (.ishl, 1) := by decide +kernel
theorem dX12_partOf_3 : decode cX12_partOf 3 = .ok (.istore_n 2, 1) := by decide +kernel
theorem dX12_partOf_4 : decode cX12_partOf 4 = .ok (.iconst 0, 1) := by decide +kernel
theorem dX12_partOf_5 : decode cX12_partOf 5 = .ok (.istore_n 3, 1) := by decide +kernel
theorem dX12_partOf_6 : decode cX12_partOf 6 = .ok (.iload_n 3, 1) := by decide +kernel
theorem dX12_partOf_7 : decode cX12_partOf 7 = .ok (.bipush 6, 2) := by decide +kernel
theorem dX12_partOf_9 : decode cX12_partOf 9 = .ok (.if_icmp .ge 59, 3) := by decide +kernel
theorem dX12_partOf_12 : decode cX12_partOf 12 = .ok (.iconst 0, 1) := by decide +kernel
theorem dX12_partOf_13 : decode cX12_partOf 13 = .ok (.istore 4, 2) := by decide +kernel
theorem dX12_partOf_15 : decode cX12_partOf 15 = .ok (.iload 4, 2) := by decide +kernel
theorem dX12_partOf_17 : decode cX12_partOf 17 = .ok (.iconst 2, 1) := by decide +kernel
theorem dX12_partOf_18 : decode cX12_partOf 18 = .ok (.aload_n 0, 1) := by decide +kernel
theorem dX12_partOf_19 : decode cX12_partOf 19 = .ok (.iconst 1, 1) := by decide +kernel
theorem dX12_partOf_20 : decode cX12_partOf 20 = .ok (.invokevirtual 70, 3) := by decide +kernel
theorem dX12_partOf_23 : decode cX12_partOf 23 = .ok (.imul, 1) := by decide +kernel
theorem dX12_partOf_24 : decode cX12_partOf 24 = .ok (.if_icmp .ge 38, 3) := by decide +kernel
theorem dX12_partOf_27 : decode cX12_partOf 27 = .ok (.iload_n 2, 1) := by decide +kernel
theorem dX12_partOf_28 : decode cX12_partOf 28 = .ok (.iload_n 2, 1) := by decide +kernel
theorem dX12_partOf_29 : decode cX12_partOf 29 = .ok (.aload_n 0, 1) := by decide +kernel
theorem dX12_partOf_30 : decode cX12_partOf 30 = .ok (.iload 4, 2) := by decide +kernel
theorem dX12_partOf_32 : decode cX12_partOf 32 = .ok (.invokevirtual 78, 3) := by decide +kernel
theorem dX12_partOf_35 : decode cX12_partOf 35 = .ok (.ishr, 1) := by decide +kernel
theorem dX12_partOf_36 : decode cX12_partOf 36 = .ok (.iconst 1, 1) := by decide +kernel
theorem dX12_partOf_37 : decode cX12_partOf 37 = .ok (.iand, 1) := by decide +kernel
theorem dX12_partOf_38 : decode cX12_partOf 38 = .ok (.iconst 1, 1) := by decide +kernel
theorem dX12_partOf_39 : decode cX12_partOf 39 = .ok (.if_icmp .ne 14, 3) := by decide +kernel
theorem dX12_partOf_42 : decode cX12_partOf 42 = .ok (.iconst 1, 1) := by decide +kernel
theorem dX12_partOf_43 : decode cX12_partOf 43 = .ok (.aload_n 0, 1) := by decide +kernel
theorem dX12_partOf_44 : decode cX12_partOf 44 = .ok (.iload 4, 2) := by decide +kernel
theorem dX12_partOf_46 : decode cX12_partOf 46 = .ok (.invokevirtual 91, 3) := by decide +kernel
theorem dX12_partOf_49 : decode cX12_partOf 49 = .ok (.ishl, 1) := by decide +kernel
theorem dX12_partOf_50 : decode cX12_partOf 50 = .ok (.goto 4, 3) := by decide +kernel
theorem dX12_partOf_53 : decode cX12_partOf 53 = .ok (.iconst 0, 1) := by decide +kernel
theorem dX12_partOf_54 : decode cX12_partOf 54 = .ok (.ior, 1) := by decide +kernel
theorem dX12_partOf_55 : decode cX12_partOf 55 = .ok (.istore_n 2, 1) := by decide +kernel
theorem dX12_partOf_56 : decode cX12_partOf 56 = .ok (.iinc 4 1, 3) := by decide +kernel
theorem dX12_partOf_59 : decode cX12_partOf 59 = .ok (.goto (-44), 3) := by decide +kernel
theorem dX12_partOf_62 : decode cX12_partOf 62 = .ok (.iinc 3 1, 3) := by decide +kernel
theorem dX12_partOf_65 : decode cX12_partOf 65 = .ok (.goto (-59), 3) := by decide +kernel
theorem dX12_partOf_68 : decode cX12_partOf 68 = .ok (.iload_n 2, 1) := by decide +kernel
theorem dX12_partOf_69 : decode cX12_partOf 69 = .ok (.ireturn, 1) := by decide +kernel
theorem dX12_parts_0 : decode cX12_parts 0 = .ok (.iconst 0, 1) := by decide +kernel
theorem dX12_parts_1 : decode cX12_parts 1 = .ok (.istore_n 1, 1) := by decide +kernel
theorem dX12_parts_2 : decode cX12_parts 2 = .ok (.iconst 0, 1) := by decide +kernel
theorem dX12_parts_3 : decode cX12_parts 3 = .ok (.istore_n 2, 1) := by decide +kernel
theorem dX12_parts_4 : decode cX12_parts 4 = .ok (.iload_n 2, 1) := by decide +kernel
theorem dX12_parts_5 : decode cX12_parts 5 = .ok (.aload_n 0, 1) := by decide +kernel
theorem dX12_parts_6 : decode cX12_parts 6 = .ok (.iconst 0, 1) := by decide +kernel
theorem dX12_parts_7 : decode cX12_parts 7 = .ok (.invokevirtual 70, 3) := by decide +kernel
theorem dX12_parts_10 : decode cX12_parts 10 = .ok (.if_icmp .ge 31, 3) := by decide +kernel
theorem dX12_parts_13 : decode cX12_parts 13 = .ok (.iload_n 1, 1) := by decide +kernel
theorem dX12_parts_14 : decode cX12_parts 14 = .ok (.aload_n 0, 1) := by decide +kernel
theorem dX12_parts_15 : decode cX12_parts 15 = .ok (.iload_n 2, 1) := by decide +kernel
theorem dX12_parts_16 : decode cX12_parts 16 = .ok (.invokevirtual 254, 3) := by decide +kernel
theorem dX12_parts_19 : decode cX12_parts 19 = .ok (.iconst 1, 1) := by decide +kernel
theorem dX12_parts_20 : decode cX12_parts 20 = .ok (.iload_n 2, 1) := by decide +kernel
theorem dX12_parts_21 : decode cX12_parts 21 = .ok (.ishl, 1) := by decide +kernel
theorem dX12_parts_22 : decode cX12_parts 22 = .ok (.iconst 1, 1) := by decide +kernel
theorem dX12_parts_23 : decode cX12_parts 23 = .ok (.isub, 1) := by decide +kernel
theorem dX12_parts_24 : decode cX12_parts 24 = .ok (.iand, 1) := by decide +kernel
theorem dX12_parts_25 : decode cX12_parts 25 = .ok (.ifCond .ne 7, 3) := by decide +kernel
theorem dX12_parts_28 : decode cX12_parts 28 = .ok (.iconst 1, 1) := by decide +kernel
theorem dX12_parts_29 : decode cX12_parts 29 = .ok (.goto 4, 3) := by decide +kernel
theorem dX12_parts_32 : decode cX12_parts 32 = .ok (.iconst 0, 1) := by decide +kernel
theorem dX12_parts_33 : decode cX12_parts 33 = .ok (.iadd, 1) := by decide +kernel
theorem dX12_parts_34 : decode cX12_parts 34 = .ok (.istore_n 1, 1) := by decide +kernel
theorem dX12_parts_35 : decode cX12_parts 35 = .ok (.iinc 2 1, 3) := by decide +kernel
theorem dX12_parts_38 : decode cX12_parts 38 = .ok (.goto (-34), 3) := by decide +kernel
theorem dX12_parts_41 : decode cX12_parts 41 = .ok (.iload_n 1, 1) := by decide +kernel
theorem dX12_parts_42 : decode cX12_parts 42 = .ok (.ireturn, 1) := by decide +kernel
theorem dX12_many_0 : decode cX12_many 0 = .ok (.iload_n 1, 1) := by decide +kernel
theorem dX12_many_1 : decode cX12_many 1 = .ok (.tableswitch 121 0 6 #[43, 53, 63, 73, 82, 91, 112], 43) := by decide +kernel
theorem dX12_many_44 : decode cX12_many 44 = .ok (.aload_n 0, 1) := by decide +kernel
theorem dX12_many_45 : decode cX12_many 45 = .ok (.aload_n 0, 1) := by decide +kernel
theorem dX12_many_46 : decode cX12_many 46 = .ok (.iconst 0, 1) := by decide +kernel
theorem dX12_many_47 : decode cX12_many 47 = .ok (.invokevirtual 70, 3) := by decide +kernel
theorem dX12_many_50 : decode cX12_many 50 = .ok (.invokevirtual 251, 3) := by decide +kernel
theorem dX12_many_53 : decode cX12_many 53 = .ok (.ireturn, 1) := by decide +kernel
theorem dX12_many_54 : decode cX12_many 54 = .ok (.aload_n 0, 1) := by decide +kernel
theorem dX12_many_55 : decode cX12_many 55 = .ok (.aload_n 0, 1) := by decide +kernel
theorem dX12_many_56 : decode cX12_many 56 = .ok (.iconst 1, 1) := by decide +kernel
theorem dX12_many_57 : decode cX12_many 57 = .ok (.invokevirtual 70, 3) := by decide +kernel
theorem dX12_many_60 : decode cX12_many 60 = .ok (.invokevirtual 251, 3) := by decide +kernel
theorem dX12_many_63 : decode cX12_many 63 = .ok (.ireturn, 1) := by decide +kernel
theorem dX12_many_64 : decode cX12_many 64 = .ok (.aload_n 0, 1) := by decide +kernel
theorem dX12_many_65 : decode cX12_many 65 = .ok (.aload_n 0, 1) := by decide +kernel
theorem dX12_many_66 : decode cX12_many 66 = .ok (.iconst 2, 1) := by decide +kernel
theorem dX12_many_67 : decode cX12_many 67 = .ok (.invokevirtual 70, 3) := by decide +kernel
theorem dX12_many_70 : decode cX12_many 70 = .ok (.invokevirtual 251, 3) := by decide +kernel
theorem dX12_many_73 : decode cX12_many 73 = .ok (.ireturn, 1) := by decide +kernel
theorem dX12_many_74 : decode cX12_many 74 = .ok (.aload_n 0, 1) := by decide +kernel
theorem dX12_many_75 : decode cX12_many 75 = .ok (.aload_n 0, 1) := by decide +kernel
theorem dX12_many_76 : decode cX12_many 76 = .ok (.getfield 257, 3) := by decide +kernel
theorem dX12_many_79 : decode cX12_many 79 = .ok (.invokevirtual 251, 3) := by decide +kernel
theorem dX12_many_82 : decode cX12_many 82 = .ok (.ireturn, 1) := by decide +kernel
theorem dX12_many_83 : decode cX12_many 83 = .ok (.aload_n 0, 1) := by decide +kernel
theorem dX12_many_84 : decode cX12_many 84 = .ok (.aload_n 0, 1) := by decide +kernel
theorem dX12_many_85 : decode cX12_many 85 = .ok (.getfield 260, 3) := by decide +kernel
theorem dX12_many_88 : decode cX12_many 88 = .ok (.invokevirtual 251, 3) := by decide +kernel
theorem dX12_many_91 : decode cX12_many 91 = .ok (.ireturn, 1) := by decide +kernel
theorem dX12_many_92 : decode cX12_many 92 = .ok (.aload_n 0, 1) := by decide +kernel
theorem dX12_many_93 : decode cX12_many 93 = .ok (.aload_n 0, 1) := by decide +kernel
theorem dX12_many_94 : decode cX12_many 94 = .ok (.iconst 1, 1) := by decide +kernel
theorem dX12_many_95 : decode cX12_many 95 = .ok (.invokevirtual 70, 3) := by decide +kernel
theorem dX12_many_98 : decode cX12_many 98 = .ok (.aload_n 0, 1) := by decide +kernel
theorem dX12_many_99 : decode cX12_many 99 = .ok (.iconst 0, 1) := by decide +kernel
theorem dX12_many_100 : decode cX12_many 100 = .ok (.invokevirtual 70, 3) := by decide +kernel
theorem dX12_many_103 : decode cX12_many 103 = .ok (.isub, 1) := by decide +kernel
theorem dX12_many_104 : decode cX12_many 104 = .ok (.aload_n 0, 1) := by decide +kernel
theorem dX12_many_105 : decode cX12_many 105 = .ok (.invokevirtual 263, 3) := by decide +kernel
theorem dX12_many_108 : decode cX12_many 108 = .ok (.iadd, 1) := by decide +kernel
theorem dX12_many_109 : decode cX12_many 109 = .ok (.invokevirtual 251, 3) := by decide +kernel
theorem dX12_many_112 : decode cX12_many 112 = .ok (.ireturn, 1) := by decide +kernel
theorem dX12_many_113 : decode cX12_many 113 = .ok (.aload_n 0, 1) := by decide +kernel
theorem dX12_many_114 : decode cX12_many 114 = .ok (.aload_n 0, 1) := by decide +kernel
theorem dX12_many_115 : decode cX12_many 115 = .ok (.invokevirtual 263, 3) := by decide +kernel
theorem dX12_many_118 : decode cX12_many 118 = .ok (.invokevirtual 251, 3) := by decide +kernel
theorem dX12_many_121 : decode cX12_many 121 = .ok (.ireturn, 1) := by decide +kernel
theorem dX12_many_122 : decode cX12_many 122 = .ok (.aload_n 0, 1) := by decide +kernel
theorem dX12_many_123 : decode cX12_many 123 = .ok (.iconst 1, 1) := by decide +kernel
theorem dX12_many_124 : decode cX12_many 124 = .ok (.invokevirtual 238, 3) := by decide +kernel
theorem dX12_many_127 : decode cX12_many 127 = .ok (.ireturn, 1) := by decide +kernel
theorem dX12_order_0 : decode cX12_order 0 = .ok (.aload_n 0, 1) := by decide +kernel
theorem dX12_order_1 : decode cX12_order 1 = .ok (.iload_n 1, 1) := by decide +kernel
theorem dX12_order_2 : decode cX12_order 2 = .ok (.invokevirtual 207, 3) := by decide +kernel
theorem dX12_order_5 : decode cX12_order 5 = .ok (.ifCond .eq 15, 3) := by decide +kernel
theorem dX12_order_8 : decode cX12_order 8 = .ok (.aload_n 0, 1) := by decide +kernel
theorem dX12_order_9 : decode cX12_order 9 = .ok (.aload_n 0, 1) := by decide +kernel
theorem dX12_order_10 : decode cX12_order 10 = .ok (.iload_n 1, 1) := by decide +kernel
theorem dX12_order_11 : decode cX12_order 11 = .ok (.invokevirtual 84, 3) := by decide +kernel
theorem dX12_order_14 : decode cX12_order 14 = .ok (.invokevirtual 251, 3) := by decide +kernel
theorem dX12_order_17 : decode cX12_order 17 = .ok (.goto 8, 3) := by decide +kernel
theorem dX12_order_20 : decode cX12_order 20 = .ok (.aload_n 0, 1) := by decide +kernel
theorem dX12_order_21 : decode cX12_order 21 = .ok (.iconst 2, 1) := by decide +kernel
theorem dX12_order_22 : decode cX12_order 22 = .ok (.invokevirtual 238, 3) := by decide +kernel
theorem dX12_order_25 : decode cX12_order 25 = .ok (.ireturn, 1) := by decide +kernel
theorem dX12_edge_0 : decode cX12_edge 0 = .ok (.iload_n 2, 1) := by decide +kernel
theorem dX12_edge_1 : decode cX12_edge 1 = .ok (.iconst 0, 1) := by decide +kernel
theorem dX12_edge_2 : decode cX12_edge 2 = .ok (.iconst 4, 1) := by decide +kernel
theorem dX12_edge_3 : decode cX12_edge 3 = .ok (.invokestatic 200, 3) := by decide +kernel
theorem dX12_edge_6 : decode cX12_edge 6 = .ok (.ifCond .ne 9, 3) := by decide +kernel
theorem dX12_edge_9 : decode cX12_edge 9 = .ok (.aload_n 0, 1) := by decide +kernel
theorem dX12_edge_10 : decode cX12_edge 10 = .ok (.iconst 1, 1) := by decide +kernel
theorem dX12_edge_11 : decode cX12_edge 11 = .ok (.invokevirtual 238, 3) := by decide +kernel
theorem dX12_edge_14 : decode cX12_edge 14 = .ok (.ireturn, 1) := by decide +kernel
theorem dX12_edge_15 : decode cX12_edge 15 = .ok (.aload_n 0, 1) := by decide +kernel
theorem dX12_edge_16 : decode cX12_edge 16 = .ok (.iload_n 1, 1) := by decide +kernel
theorem dX12_edge_17 : decode cX12_edge 17 = .ok (.invokevirtual 213, 3) := by decide +kernel
theorem dX12_edge_20 : decode cX12_edge 20 = .ok (.ifCond .ne 9, 3) := by decide +kernel
theorem dX12_edge_23 : decode cX12_edge 23 = .ok (.aload_n 0, 1) := by decide +kernel
theorem dX12_edge_24 : decode cX12_edge 24 = .ok (.iconst 2, 1) := by decide +kernel
theorem dX12_edge_25 : decode cX12_edge 25 = .ok (.invokevirtual 238, 3) := by decide +kernel
theorem dX12_edge_28 : decode cX12_edge 28 = .ok (.ireturn, 1) := by decide +kernel
theorem dX12_edge_29 : decode cX12_edge 29 = .ok (.aload_n 0, 1) := by decide +kernel
theorem dX12_edge_30 : decode cX12_edge 30 = .ok (.iload_n 2, 1) := by decide +kernel
theorem dX12_edge_31 : decode cX12_edge 31 = .ok (.iconst 4, 1) := by decide +kernel
theorem dX12_edge_32 : decode cX12_edge 32 = .ok (.if_icmp .ge 12, 3) := by decide +kernel
theorem dX12_edge_35 : decode cX12_edge 35 = .ok (.aload_n 0, 1) := by decide +kernel
theorem dX12_edge_36 : decode cX12_edge 36 = .ok (.iload_n 1, 1) := by decide +kernel
theorem dX12_edge_37 : decode cX12_edge 37 = .ok (.iload_n 2, 1) := by decide +kernel
theorem dX12_edge_38 : decode cX12_edge 38 = .ok (.invokevirtual 74, 3) := by decide +kernel
theorem dX12_edge_41 : decode cX12_edge 41 = .ok (.goto 20, 3) := by decide +kernel
theorem dX12_edge_44 : decode cX12_edge 44 = .ok (.aload_n 0, 1) := by decide +kernel
theorem dX12_edge_45 : decode cX12_edge 45 = .ok (.aload_n 0, 1) := by decide +kernel
theorem dX12_edge_46 : decode cX12_edge 46 = .ok (.iload_n 1, 1) := by decide +kernel
theorem dX12_edge_47 : decode cX12_edge 47 = .ok (.iconst 0, 1) := by decide +kernel
theorem dX12_edge_48 : decode cX12_edge 48 = .ok (.invokevirtual 74, 3) := by decide +kernel
theorem dX12_edge_51 : decode cX12_edge 51 = .ok (.invokevirtual 84, 3) := by decide +kernel
theorem dX12_edge_54 : decode cX12_edge 54 = .ok (.aload_n 0, 1) := by decide +kernel
theorem dX12_edge_55 : decode cX12_edge 55 = .ok (.iload_n 1, 1) := by decide +kernel
theorem dX12_edge_56 : decode cX12_edge 56 = .ok (.iconst 1, 1) := by decide +kernel
theorem dX12_edge_57 : decode cX12_edge 57 = .ok (.invokevirtual 74, 3) := by decide +kernel
theorem dX12_edge_60 : decode cX12_edge 60 = .ok (.idiv, 1) := by decide +kernel
theorem dX12_edge_61 : decode cX12_edge 61 = .ok (.invokevirtual 251, 3) := by decide +kernel
theorem dX12_edge_64 : decode cX12_edge 64 = .ok (.ireturn, 1) := by decide +kernel
theorem dX12_word_0 : decode cX12_word 0 = .ok (.iload_n 2, 1) := by decide +kernel
theorem dX12_word_1 : decode cX12_word 1 = .ok (.iconst 0, 1) := by decide +kernel
theorem dX12_word_2 : decode cX12_word 2 = .ok (.iconst 4, 1) := by decide +kernel
theorem dX12_word_3 : decode cX12_word 3 = .ok (.invokestatic 200, 3) := by decide +kernel
theorem dX12_word_6 : decode cX12_word 6 = .ok (.ifCond .ne 9, 3) := by decide +kernel
theorem dX12_word_9 : decode cX12_word 9 = .ok (.aload_n 0, 1) := by decide +kernel
theorem dX12_word_10 : decode cX12_word 10 = .ok (.iconst 1, 1) := by decide +kernel
theorem dX12_word_11 : decode cX12_word 11 = .ok (.invokevirtual 238, 3) := by decide +kernel
theorem dX12_word_14 : decode cX12_word 14 = .ok (.ireturn, 1) := by decide +kernel
theorem dX12_word_15 : decode cX12_word 15 = .ok (.aload_n 0, 1) := by decide +kernel
theorem dX12_word_16 : decode cX12_word 16 = .ok (.iload_n 1, 1) := by decide +kernel
theorem dX12_word_17 : decode cX12_word 17 = .ok (.invokevirtual 266, 3) := by decide +kernel
theorem dX12_word_20 : decode cX12_word 20 = .ok (.ifCond .ne 9, 3) := by decide +kernel
theorem dX12_word_23 : decode cX12_word 23 = .ok (.aload_n 0, 1) := by decide +kernel
theorem dX12_word_24 : decode cX12_word 24 = .ok (.iconst 2, 1) := by decide +kernel
theorem dX12_word_25 : decode cX12_word 25 = .ok (.invokevirtual 238, 3) := by decide +kernel
theorem dX12_word_28 : decode cX12_word 28 = .ok (.ireturn, 1) := by decide +kernel
theorem dX12_word_29 : decode cX12_word 29 = .ok (.aload_n 0, 1) := by decide +kernel
theorem dX12_word_30 : decode cX12_word 30 = .ok (.iload_n 1, 1) := by decide +kernel
theorem dX12_word_31 : decode cX12_word 31 = .ok (.aload_n 0, 1) := by decide +kernel
theorem dX12_word_32 : decode cX12_word 32 = .ok (.getfield 15, 3) := by decide +kernel
theorem dX12_word_35 : decode cX12_word 35 = .ok (.iconst 0, 1) := by decide +kernel
theorem dX12_word_36 : decode cX12_word 36 = .ok (.aaload, 1) := by decide +kernel
theorem dX12_word_37 : decode cX12_word 37 = .ok (.invokevirtual 127, 3) := by decide +kernel
theorem dX12_word_40 : decode cX12_word 40 = .ok (.aload_n 0, 1) := by decide +kernel
theorem dX12_word_41 : decode cX12_word 41 = .ok (.aload_n 0, 1) := by decide +kernel
theorem dX12_word_42 : decode cX12_word 42 = .ok (.getfield 15, 3) := by decide +kernel
theorem dX12_word_45 : decode cX12_word 45 = .ok (.iconst 0, 1) := by decide +kernel
theorem dX12_word_46 : decode cX12_word 46 = .ok (.aaload, 1) := by decide +kernel
theorem dX12_word_47 : decode cX12_word 47 = .ok (.aload_n 0, 1) := by decide +kernel
theorem dX12_word_48 : decode cX12_word 48 = .ok (.getfield 15, 3) := by decide +kernel
theorem dX12_word_51 : decode cX12_word 51 = .ok (.iconst 1, 1) := by decide +kernel
theorem dX12_word_52 : decode cX12_word 52 = .ok (.aaload, 1) := by decide +kernel
theorem dX12_word_53 : decode cX12_word 53 = .ok (.invokevirtual 124, 3) := by decide +kernel
theorem dX12_word_56 : decode cX12_word 56 = .ok (.iload_n 2, 1) := by decide +kernel
theorem dX12_word_57 : decode cX12_word 57 = .ok (.tableswitch 100 0 3 #[31, 44, 59, 72], 31) := by decide +kernel
theorem dX12_word_88 : decode cX12_word 88 = .ok (.aload_n 0, 1) := by decide +kernel
theorem dX12_word_89 : decode cX12_word 89 = .ok (.aload_n 0, 1) := by decide +kernel
theorem dX12_word_90 : decode cX12_word 90 = .ok (.getfield 15, 3) := by decide +kernel
theorem dX12_word_93 : decode cX12_word 93 = .ok (.iconst 0, 1) := by decide +kernel
theorem dX12_word_94 : decode cX12_word 94 = .ok (.aaload, 1) := by decide +kernel
theorem dX12_word_95 : decode cX12_word 95 = .ok (.iconst 0, 1) := by decide +kernel
theorem dX12_word_96 : decode cX12_word 96 = .ok (.iaload, 1) := by decide +kernel
theorem dX12_word_97 : decode cX12_word 97 = .ok (.invokevirtual 251, 3) := by decide +kernel
theorem dX12_word_100 : decode cX12_word 100 = .ok (.ireturn, 1) := by decide +kernel
theorem dX12_word_101 : decode cX12_word 101 = .ok (.aload_n 0, 1) := by decide +kernel
theorem dX12_word_102 : decode cX12_word 102 = .ok (.aload_n 0, 1) := by decide +kernel
theorem dX12_word_103 : decode cX12_word 103 = .ok (.aload_n 0, 1) := by decide +kernel
theorem dX12_word_104 : decode cX12_word 104 = .ok (.getfield 15, 3) := by decide +kernel
theorem dX12_word_107 : decode cX12_word 107 = .ok (.iconst 0, 1) := by decide +kernel
theorem dX12_word_108 : decode cX12_word 108 = .ok (.aaload, 1) := by decide +kernel
theorem dX12_word_109 : decode cX12_word 109 = .ok (.invokevirtual 117, 3) := by decide +kernel
theorem dX12_word_112 : decode cX12_word 112 = .ok (.invokevirtual 251, 3) := by decide +kernel
theorem dX12_word_115 : decode cX12_word 115 = .ok (.ireturn, 1) := by decide +kernel
theorem dX12_word_116 : decode cX12_word 116 = .ok (.aload_n 0, 1) := by decide +kernel
theorem dX12_word_117 : decode cX12_word 117 = .ok (.aload_n 0, 1) := by decide +kernel
theorem dX12_word_118 : decode cX12_word 118 = .ok (.getfield 15, 3) := by decide +kernel
theorem dX12_word_121 : decode cX12_word 121 = .ok (.iconst 0, 1) := by decide +kernel
theorem dX12_word_122 : decode cX12_word 122 = .ok (.aaload, 1) := by decide +kernel
theorem dX12_word_123 : decode cX12_word 123 = .ok (.iconst 1, 1) := by decide +kernel
theorem dX12_word_124 : decode cX12_word 124 = .ok (.iaload, 1) := by decide +kernel
theorem dX12_word_125 : decode cX12_word 125 = .ok (.invokevirtual 251, 3) := by decide +kernel
theorem dX12_word_128 : decode cX12_word 128 = .ok (.ireturn, 1) := by decide +kernel
theorem dX12_word_129 : decode cX12_word 129 = .ok (.aload_n 0, 1) := by decide +kernel
theorem dX12_word_130 : decode cX12_word 130 = .ok (.aload_n 0, 1) := by decide +kernel
theorem dX12_word_131 : decode cX12_word 131 = .ok (.getfield 15, 3) := by decide +kernel
theorem dX12_word_134 : decode cX12_word 134 = .ok (.iconst 0, 1) := by decide +kernel
theorem dX12_word_135 : decode cX12_word 135 = .ok (.aaload, 1) := by decide +kernel
theorem dX12_word_136 : decode cX12_word 136 = .ok (.aload_n 0, 1) := by decide +kernel
theorem dX12_word_137 : decode cX12_word 137 = .ok (.getfield 15, 3) := by decide +kernel
theorem dX12_word_140 : decode cX12_word 140 = .ok (.iconst 1, 1) := by decide +kernel
theorem dX12_word_141 : decode cX12_word 141 = .ok (.aaload, 1) := by decide +kernel
theorem dX12_word_142 : decode cX12_word 142 = .ok (.invokestatic 269, 3) := by decide +kernel
theorem dX12_word_145 : decode cX12_word 145 = .ok (.ifCond .eq 7, 3) := by decide +kernel
theorem dX12_word_148 : decode cX12_word 148 = .ok (.iconst 1, 1) := by decide +kernel
theorem dX12_word_149 : decode cX12_word 149 = .ok (.goto 4, 3) := by decide +kernel
theorem dX12_word_152 : decode cX12_word 152 = .ok (.iconst 0, 1) := by decide +kernel
theorem dX12_word_153 : decode cX12_word 153 = .ok (.invokevirtual 251, 3) := by decide +kernel
theorem dX12_word_156 : decode cX12_word 156 = .ok (.ireturn, 1) := by decide +kernel
theorem dX12_word_157 : decode cX12_word 157 = .ok (.aload_n 0, 1) := by decide +kernel
theorem dX12_word_158 : decode cX12_word 158 = .ok (.aload_n 0, 1) := by decide +kernel
theorem dX12_word_159 : decode cX12_word 159 = .ok (.getfield 97, 3) := by decide +kernel
theorem dX12_word_162 : decode cX12_word 162 = .ok (.invokevirtual 251, 3) := by decide +kernel
theorem dX12_word_165 : decode cX12_word 165 = .ok (.ireturn, 1) := by decide +kernel
theorem dX12_number__0 : decode cX12_number_ 0 = .ok (.iload_n 2, 1) := by decide +kernel
theorem dX12_number__1 : decode cX12_number_ 1 = .ok (.ifCond .ge 9, 3) := by decide +kernel
theorem dX12_number__4 : decode cX12_number_ 4 = .ok (.aload_n 0, 1) := by decide +kernel
theorem dX12_number__5 : decode cX12_number_ 5 = .ok (.iconst 1, 1) := by decide +kernel
theorem dX12_number__6 : decode cX12_number_ 6 = .ok (.invokevirtual 238, 3) := by decide +kernel
theorem dX12_number__9 : decode cX12_number_ 9 = .ok (.ireturn, 1) := by decide +kernel
theorem dX12_number__10 : decode cX12_number_ 10 = .ok (.aload_n 0, 1) := by decide +kernel
theorem dX12_number__11 : decode cX12_number_ 11 = .ok (.iload_n 1, 1) := by decide +kernel
theorem dX12_number__12 : decode cX12_number_ 12 = .ok (.invokevirtual 266, 3) := by decide +kernel
theorem dX12_number__15 : decode cX12_number_ 15 = .ok (.ifCond .ne 9, 3) := by decide +kernel
theorem dX12_number__18 : decode cX12_number_ 18 = .ok (.aload_n 0, 1) := by decide +kernel
theorem dX12_number__19 : decode cX12_number_ 19 = .ok (.iconst 2, 1) := by decide +kernel
theorem dX12_number__20 : decode cX12_number_ 20 = .ok (.invokevirtual 238, 3) := by decide +kernel
theorem dX12_number__23 : decode cX12_number_ 23 = .ok (.ireturn, 1) := by decide +kernel
theorem dX12_number__24 : decode cX12_number_ 24 = .ok (.aload_n 0, 1) := by decide +kernel
theorem dX12_number__25 : decode cX12_number_ 25 = .ok (.iload_n 1, 1) := by decide +kernel
theorem dX12_number__26 : decode cX12_number_ 26 = .ok (.aload_n 0, 1) := by decide +kernel
theorem dX12_number__27 : decode cX12_number_ 27 = .ok (.getfield 15, 3) := by decide +kernel
theorem dX12_number__30 : decode cX12_number_ 30 = .ok (.iconst 0, 1) := by decide +kernel
theorem dX12_number__31 : decode cX12_number_ 31 = .ok (.aaload, 1) := by decide +kernel
theorem dX12_number__32 : decode cX12_number_ 32 = .ok (.invokevirtual 127, 3) := by decide +kernel
theorem dX12_number__35 : decode cX12_number_ 35 = .ok (.iload_n 2, 1) := by decide +kernel
theorem dX12_number__36 : decode cX12_number_ 36 = .ok (.aload_n 0, 1) := by decide +kernel
theorem dX12_number__37 : decode cX12_number_ 37 = .ok (.getfield 15, 3) := by decide +kernel
theorem dX12_number__40 : decode cX12_number_ 40 = .ok (.iconst 0, 1) := by decide +kernel
theorem dX12_number__41 : decode cX12_number_ 41 = .ok (.aaload, 1) := by decide +kernel
theorem dX12_number__42 : decode cX12_number_ 42 = .ok (.iconst 1, 1) := by decide +kernel
theorem dX12_number__43 : decode cX12_number_ 43 = .ok (.iaload, 1) := by decide +kernel
theorem dX12_number__44 : decode cX12_number_ 44 = .ok (.if_icmp .gt 20, 3) := by decide +kernel
theorem dX12_number__47 : decode cX12_number_ 47 = .ok (.aload_n 0, 1) := by decide +kernel
theorem dX12_number__48 : decode cX12_number_ 48 = .ok (.aload_n 0, 1) := by decide +kernel
theorem dX12_number__49 : decode cX12_number_ 49 = .ok (.getfield 15, 3) := by decide +kernel
theorem dX12_number__52 : decode cX12_number_ 52 = .ok (.iconst 0, 1) := by decide +kernel
theorem dX12_number__53 : decode cX12_number_ 53 = .ok (.aaload, 1) := by decide +kernel
theorem dX12_number__54 : decode cX12_number_ 54 = .ok (.iload_n 2, 1) := by decide +kernel
theorem dX12_number__55 : decode cX12_number_ 55 = .ok (.invokestatic 94, 3) := by decide +kernel
theorem dX12_number__58 : decode cX12_number_ 58 = .ok (.invokevirtual 251, 3) := by decide +kernel
theorem dX12_number__61 : decode cX12_number_ 61 = .ok (.goto 8, 3) := by decide +kernel
theorem dX12_number__64 : decode cX12_number_ 64 = .ok (.aload_n 0, 1) := by decide +kernel
theorem dX12_number__65 : decode cX12_number_ 65 = .ok (.iconst 5, 1) := by decide +kernel
theorem dX12_number__66 : decode cX12_number_ 66 = .ok (.invokevirtual 238, 3) := by decide +kernel
theorem dX12_number__69 : decode cX12_number_ 69 = .ok (.ireturn, 1) := by decide +kernel
theorem dX12_step__0 : decode cX12_step_ 0 = .ok (.iload_n 2, 1) := by decide +kernel
theorem dX12_step__1 : decode cX12_step_ 1 = .ok (.ifCond .ge 9, 3) := by decide +kernel
theorem dX12_step__4 : decode cX12_step_ 4 = .ok (.aload_n 0, 1) := by decide +kernel
theorem dX12_step__5 : decode cX12_step_ 5 = .ok (.iconst 1, 1) := by decide +kernel
theorem dX12_step__6 : decode cX12_step_ 6 = .ok (.invokevirtual 238, 3) := by decide +kernel
theorem dX12_step__9 : decode cX12_step_ 9 = .ok (.ireturn, 1) := by decide +kernel
theorem dX12_step__10 : decode cX12_step_ 10 = .ok (.aload_n 0, 1) := by decide +kernel
theorem dX12_step__11 : decode cX12_step_ 11 = .ok (.iload_n 1, 1) := by decide +kernel
theorem dX12_step__12 : decode cX12_step_ 12 = .ok (.invokevirtual 266, 3) := by decide +kernel
theorem dX12_step__15 : decode cX12_step_ 15 = .ok (.ifCond .ne 9, 3) := by decide +kernel
theorem dX12_step__18 : decode cX12_step_ 18 = .ok (.aload_n 0, 1) := by decide +kernel
theorem dX12_step__19 : decode cX12_step_ 19 = .ok (.iconst 2, 1) := by decide +kernel
theorem dX12_step__20 : decode cX12_step_ 20 = .ok (.invokevirtual 238, 3) := by decide +kernel
theorem dX12_step__23 : decode cX12_step_ 23 = .ok (.ireturn, 1) := by decide +kernel
theorem dX12_step__24 : decode cX12_step_ 24 = .ok (.aload_n 0, 1) := by decide +kernel
theorem dX12_step__25 : decode cX12_step_ 25 = .ok (.iload_n 1, 1) := by decide +kernel
theorem dX12_step__26 : decode cX12_step_ 26 = .ok (.aload_n 0, 1) := by decide +kernel
theorem dX12_step__27 : decode cX12_step_ 27 = .ok (.getfield 15, 3) := by decide +kernel
theorem dX12_step__30 : decode cX12_step_ 30 = .ok (.iconst 0, 1) := by decide +kernel
theorem dX12_step__31 : decode cX12_step_ 31 = .ok (.aaload, 1) := by decide +kernel
theorem dX12_step__32 : decode cX12_step_ 32 = .ok (.invokevirtual 127, 3) := by decide +kernel
theorem dX12_step__35 : decode cX12_step_ 35 = .ok (.iload_n 2, 1) := by decide +kernel
theorem dX12_step__36 : decode cX12_step_ 36 = .ok (.aload_n 0, 1) := by decide +kernel
theorem dX12_step__37 : decode cX12_step_ 37 = .ok (.getfield 15, 3) := by decide +kernel
theorem dX12_step__40 : decode cX12_step_ 40 = .ok (.iconst 0, 1) := by decide +kernel
theorem dX12_step__41 : decode cX12_step_ 41 = .ok (.aaload, 1) := by decide +kernel
theorem dX12_step__42 : decode cX12_step_ 42 = .ok (.iconst 1, 1) := by decide +kernel
theorem dX12_step__43 : decode cX12_step_ 43 = .ok (.iaload, 1) := by decide +kernel
theorem dX12_step__44 : decode cX12_step_ 44 = .ok (.if_icmp .ge 20, 3) := by decide +kernel
theorem dX12_step__47 : decode cX12_step_ 47 = .ok (.aload_n 0, 1) := by decide +kernel
theorem dX12_step__48 : decode cX12_step_ 48 = .ok (.aload_n 0, 1) := by decide +kernel
theorem dX12_step__49 : decode cX12_step_ 49 = .ok (.getfield 15, 3) := by decide +kernel
theorem dX12_step__52 : decode cX12_step_ 52 = .ok (.iconst 0, 1) := by decide +kernel
theorem dX12_step__53 : decode cX12_step_ 53 = .ok (.aaload, 1) := by decide +kernel
theorem dX12_step__54 : decode cX12_step_ 54 = .ok (.iload_n 2, 1) := by decide +kernel
theorem dX12_step__55 : decode cX12_step_ 55 = .ok (.invokestatic 87, 3) := by decide +kernel
theorem dX12_step__58 : decode cX12_step_ 58 = .ok (.invokevirtual 251, 3) := by decide +kernel
theorem dX12_step__61 : decode cX12_step_ 61 = .ok (.goto 8, 3) := by decide +kernel
theorem dX12_step__64 : decode cX12_step_ 64 = .ok (.aload_n 0, 1) := by decide +kernel
theorem dX12_step__65 : decode cX12_step_ 65 = .ok (.iconst 5, 1) := by decide +kernel
theorem dX12_step__66 : decode cX12_step_ 66 = .ok (.invokevirtual 238, 3) := by decide +kernel
theorem dX12_step__69 : decode cX12_step_ 69 = .ok (.ireturn, 1) := by decide +kernel
theorem dX12_acted_0 : decode cX12_acted 0 = .ok (.aload_n 0, 1) := by decide +kernel
theorem dX12_acted_1 : decode cX12_acted 1 = .ok (.getfield 257, 3) := by decide +kernel
theorem dX12_acted_4 : decode cX12_acted 4 = .ok (.bipush 8, 2) := by decide +kernel
theorem dX12_acted_6 : decode cX12_acted 6 = .ok (.if_icmp .ne 51, 3) := by decide +kernel
theorem dX12_acted_9 : decode cX12_acted 9 = .ok (.iconst 1, 1) := by decide +kernel
theorem dX12_acted_10 : decode cX12_acted 10 = .ok (.istore_n 2, 1) := by decide +kernel
theorem dX12_acted_11 : decode cX12_acted 11 = .ok (.iload_n 2, 1) := by decide +kernel
theorem dX12_acted_12 : decode cX12_acted 12 = .ok (.bipush 8, 2) := by decide +kernel
theorem dX12_acted_14 : decode cX12_acted 14 = .ok (.if_icmp .ge 33, 3) := by decide +kernel
theorem dX12_acted_17 : decode cX12_acted 17 = .ok (.aload_n 0, 1) := by decide +kernel
theorem dX12_acted_18 : decode cX12_acted 18 = .ok (.sipush 1108, 3) := by decide +kernel
theorem dX12_acted_21 : decode cX12_acted 21 = .ok (.sipush 554, 3) := by decide +kernel
theorem dX12_acted_24 : decode cX12_acted 24 = .ok (.iload_n 2, 1) := by decide +kernel
theorem dX12_acted_25 : decode cX12_acted 25 = .ok (.imul, 1) := by decide +kernel
theorem dX12_acted_26 : decode cX12_acted 26 = .ok (.iadd, 1) := by decide +kernel
theorem dX12_acted_27 : decode cX12_acted 27 = .ok (.sipush 1108, 3) := by decide +kernel
theorem dX12_acted_30 : decode cX12_acted 30 = .ok (.sipush 554, 3) := by decide +kernel
theorem dX12_acted_33 : decode cX12_acted 33 = .ok (.iload_n 2, 1) := by decide +kernel
theorem dX12_acted_34 : decode cX12_acted 34 = .ok (.iconst 1, 1) := by decide +kernel
theorem dX12_acted_35 : decode cX12_acted 35 = .ok (.isub, 1) := by decide +kernel
theorem dX12_acted_36 : decode cX12_acted 36 = .ok (.imul, 1) := by decide +kernel
theorem dX12_acted_37 : decode cX12_acted 37 = .ok (.iadd, 1) := by decide +kernel
theorem dX12_acted_38 : decode cX12_acted 38 = .ok (.invokevirtual 241, 3) := by decide +kernel
theorem dX12_acted_41 : decode cX12_acted 41 = .ok (.iinc 2 1, 3) := by decide +kernel
theorem dX12_acted_44 : decode cX12_acted 44 = .ok (.goto (-33), 3) := by decide +kernel
theorem dX12_acted_47 : decode cX12_acted 47 = .ok (.aload_n 0, 1) := by decide +kernel
theorem dX12_acted_48 : decode cX12_acted 48 = .ok (.dup, 1) := by decide +kernel
theorem dX12_acted_49 : decode cX12_acted 49 = .ok (.getfield 257, 3) := by decide +kernel
theorem dX12_acted_52 : decode cX12_acted 52 = .ok (.iconst 1, 1) := by decide +kernel
theorem dX12_acted_53 : decode cX12_acted 53 = .ok (.isub, 1) := by decide +kernel
theorem dX12_acted_54 : decode cX12_acted 54 = .ok (.putfield 257, 3) := by decide +kernel
theorem dX12_acted_57 : decode cX12_acted 57 = .ok (.aload_n 0, 1) := by decide +kernel
theorem dX12_acted_58 : decode cX12_acted 58 = .ok (.iload_n 1, 1) := by decide +kernel
theorem dX12_acted_59 : decode cX12_acted 59 = .ok (.sipush 1108, 3) := by decide +kernel
theorem dX12_acted_62 : decode cX12_acted 62 = .ok (.sipush 554, 3) := by decide +kernel
theorem dX12_acted_65 : decode cX12_acted 65 = .ok (.aload_n 0, 1) := by decide +kernel
theorem dX12_acted_66 : decode cX12_acted 66 = .ok (.getfield 257, 3) := by decide +kernel
theorem dX12_acted_69 : decode cX12_acted 69 = .ok (.imul, 1) := by decide +kernel
theorem dX12_acted_70 : decode cX12_acted 70 = .ok (.iadd, 1) := by decide +kernel
theorem dX12_acted_71 : decode cX12_acted 71 = .ok (.invokevirtual 241, 3) := by decide +kernel
theorem dX12_acted_74 : decode cX12_acted 74 = .ok (.aload_n 0, 1) := by decide +kernel
theorem dX12_acted_75 : decode cX12_acted 75 = .ok (.dup, 1) := by decide +kernel
theorem dX12_acted_76 : decode cX12_acted 76 = .ok (.getfield 257, 3) := by decide +kernel
theorem dX12_acted_79 : decode cX12_acted 79 = .ok (.iconst 1, 1) := by decide +kernel
theorem dX12_acted_80 : decode cX12_acted 80 = .ok (.iadd, 1) := by decide +kernel
theorem dX12_acted_81 : decode cX12_acted 81 = .ok (.putfield 257, 3) := by decide +kernel
theorem dX12_acted_84 : decode cX12_acted 84 = .ok (.return_, 1) := by decide +kernel
theorem dX12_more_0 : decode cX12_more 0 = .ok (.aload_n 1, 1) := by decide +kernel
theorem dX12_more_1 : decode cX12_more 1 = .ok (.iconst 1, 1) := by decide +kernel
theorem dX12_more_2 : decode cX12_more 2 = .ok (.iaload, 1) := by decide +kernel
theorem dX12_more_3 : decode cX12_more 3 = .ok (.bipush 24, 2) := by decide +kernel
theorem dX12_more_5 : decode cX12_more 5 = .ok (.if_icmp .le 10, 3) := by decide +kernel
theorem dX12_more_8 : decode cX12_more 8 = .ok (.aload_n 0, 1) := by decide +kernel
theorem dX12_more_9 : decode cX12_more 9 = .ok (.bipush 6, 2) := by decide +kernel
theorem dX12_more_11 : decode cX12_more 11 = .ok (.invokevirtual 238, 3) := by decide +kernel
theorem dX12_more_14 : decode cX12_more 14 = .ok (.ireturn, 1) := by decide +kernel
theorem dX12_more_15 : decode cX12_more 15 = .ok (.aload_n 0, 1) := by decide +kernel
theorem dX12_more_16 : decode cX12_more 16 = .ok (.iconst 0, 1) := by decide +kernel
theorem dX12_more_17 : decode cX12_more 17 = .ok (.invokevirtual 248, 3) := by decide +kernel
theorem dX12_more_20 : decode cX12_more 20 = .ok (.aload_n 0, 1) := by decide +kernel
theorem dX12_more_21 : decode cX12_more 21 = .ok (.aload_n 1, 1) := by decide +kernel
theorem dX12_more_22 : decode cX12_more 22 = .ok (.invokevirtual 223, 3) := by decide +kernel
theorem dX12_more_25 : decode cX12_more 25 = .ok (.aload_n 0, 1) := by decide +kernel
theorem dX12_more_26 : decode cX12_more 26 = .ok (.aload_n 0, 1) := by decide +kernel
theorem dX12_more_27 : decode cX12_more 27 = .ok (.iconst 2, 1) := by decide +kernel
theorem dX12_more_28 : decode cX12_more 28 = .ok (.invokevirtual 70, 3) := by decide +kernel
theorem dX12_more_31 : decode cX12_more 31 = .ok (.iconst 1, 1) := by decide +kernel
theorem dX12_more_32 : decode cX12_more 32 = .ok (.isub, 1) := by decide +kernel
theorem dX12_more_33 : decode cX12_more 33 = .ok (.invokevirtual 251, 3) := by decide +kernel
theorem dX12_more_36 : decode cX12_more 36 = .ok (.ireturn, 1) := by decide +kernel
theorem dX12_take_0 : decode cX12_take 0 = .ok (.iload_n 2, 1) := by decide +kernel
theorem dX12_take_1 : decode cX12_take 1 = .ok (.ifCond .ge 9, 3) := by decide +kernel
theorem dX12_take_4 : decode cX12_take 4 = .ok (.aload_n 0, 1) := by decide +kernel
theorem dX12_take_5 : decode cX12_take 5 = .ok (.iconst 1, 1) := by decide +kernel
theorem dX12_take_6 : decode cX12_take 6 = .ok (.invokevirtual 238, 3) := by decide +kernel
theorem dX12_take_9 : decode cX12_take 9 = .ok (.ireturn, 1) := by decide +kernel
theorem dX12_take_10 : decode cX12_take 10 = .ok (.aload_n 0, 1) := by decide +kernel
theorem dX12_take_11 : decode cX12_take 11 = .ok (.iload_n 1, 1) := by decide +kernel
theorem dX12_take_12 : decode cX12_take 12 = .ok (.invokevirtual 207, 3) := by decide +kernel
theorem dX12_take_15 : decode cX12_take 15 = .ok (.ifCond .ne 9, 3) := by decide +kernel
theorem dX12_take_18 : decode cX12_take 18 = .ok (.aload_n 0, 1) := by decide +kernel
theorem dX12_take_19 : decode cX12_take 19 = .ok (.iconst 2, 1) := by decide +kernel
theorem dX12_take_20 : decode cX12_take 20 = .ok (.invokevirtual 238, 3) := by decide +kernel
theorem dX12_take_23 : decode cX12_take 23 = .ok (.ireturn, 1) := by decide +kernel
theorem dX12_take_24 : decode cX12_take 24 = .ok (.aload_n 0, 1) := by decide +kernel
theorem dX12_take_25 : decode cX12_take 25 = .ok (.iconst 2, 1) := by decide +kernel
theorem dX12_take_26 : decode cX12_take 26 = .ok (.invokevirtual 70, 3) := by decide +kernel
theorem dX12_take_29 : decode cX12_take 29 = .ok (.bipush 10, 2) := by decide +kernel
theorem dX12_take_31 : decode cX12_take 31 = .ok (.if_icmp .ne 9, 3) := by decide +kernel
theorem dX12_take_34 : decode cX12_take 34 = .ok (.aload_n 0, 1) := by decide +kernel
theorem dX12_take_35 : decode cX12_take 35 = .ok (.iconst 3, 1) := by decide +kernel
theorem dX12_take_36 : decode cX12_take 36 = .ok (.invokevirtual 238, 3) := by decide +kernel
theorem dX12_take_39 : decode cX12_take 39 = .ok (.ireturn, 1) := by decide +kernel
theorem dX12_take_40 : decode cX12_take 40 = .ok (.aload_n 0, 1) := by decide +kernel
theorem dX12_take_41 : decode cX12_take 41 = .ok (.getfield 15, 3) := by decide +kernel
theorem dX12_take_44 : decode cX12_take 44 = .ok (.iconst 0, 1) := by decide +kernel
theorem dX12_take_45 : decode cX12_take 45 = .ok (.aaload, 1) := by decide +kernel
theorem dX12_take_46 : decode cX12_take 46 = .ok (.iload_n 1, 1) := by decide +kernel
theorem dX12_take_47 : decode cX12_take 47 = .ok (.aload_n 0, 1) := by decide +kernel
theorem dX12_take_48 : decode cX12_take 48 = .ok (.iload_n 1, 1) := by decide +kernel
theorem dX12_take_49 : decode cX12_take 49 = .ok (.iload_n 2, 1) := by decide +kernel
theorem dX12_take_50 : decode cX12_take 50 = .ok (.invokevirtual 110, 3) := by decide +kernel
theorem dX12_take_53 : decode cX12_take 53 = .ok (.invokestatic 100, 3) := by decide +kernel
theorem dX12_take_56 : decode cX12_take 56 = .ok (.aload_n 0, 1) := by decide +kernel
theorem dX12_take_57 : decode cX12_take 57 = .ok (.aload_n 0, 1) := by decide +kernel
theorem dX12_take_58 : decode cX12_take 58 = .ok (.getfield 15, 3) := by decide +kernel
theorem dX12_take_61 : decode cX12_take 61 = .ok (.iconst 0, 1) := by decide +kernel
theorem dX12_take_62 : decode cX12_take 62 = .ok (.aaload, 1) := by decide +kernel
theorem dX12_take_63 : decode cX12_take 63 = .ok (.invokevirtual 273, 3) := by decide +kernel
theorem dX12_take_66 : decode cX12_take 66 = .ok (.ireturn, 1) := by decide +kernel
theorem dX12_form_0 : decode cX12_form 0 = .ok (.aload_n 0, 1) := by decide +kernel
theorem dX12_form_1 : decode cX12_form 1 = .ok (.iload_n 1, 1) := by decide +kernel
theorem dX12_form_2 : decode cX12_form 2 = .ok (.invokevirtual 266, 3) := by decide +kernel
theorem dX12_form_5 : decode cX12_form 5 = .ok (.ifCond .ne 9, 3) := by decide +kernel
theorem dX12_form_8 : decode cX12_form 8 = .ok (.aload_n 0, 1) := by decide +kernel
theorem dX12_form_9 : decode cX12_form 9 = .ok (.iconst 2, 1) := by decide +kernel
theorem dX12_form_10 : decode cX12_form 10 = .ok (.invokevirtual 238, 3) := by decide +kernel
theorem dX12_form_13 : decode cX12_form 13 = .ok (.ireturn, 1) := by decide +kernel
theorem dX12_form_14 : decode cX12_form 14 = .ok (.aload_n 0, 1) := by decide +kernel
theorem dX12_form_15 : decode cX12_form 15 = .ok (.iconst 0, 1) := by decide +kernel
theorem dX12_form_16 : decode cX12_form 16 = .ok (.invokevirtual 248, 3) := by decide +kernel
theorem dX12_form_19 : decode cX12_form 19 = .ok (.aload_n 0, 1) := by decide +kernel
theorem dX12_form_20 : decode cX12_form 20 = .ok (.iload_n 1, 1) := by decide +kernel
theorem dX12_form_21 : decode cX12_form 21 = .ok (.aload_n 0, 1) := by decide +kernel
theorem dX12_form_22 : decode cX12_form 22 = .ok (.getfield 15, 3) := by decide +kernel
theorem dX12_form_25 : decode cX12_form 25 = .ok (.iconst 0, 1) := by decide +kernel
theorem dX12_form_26 : decode cX12_form 26 = .ok (.aaload, 1) := by decide +kernel
theorem dX12_form_27 : decode cX12_form 27 = .ok (.invokevirtual 127, 3) := by decide +kernel
theorem dX12_form_30 : decode cX12_form 30 = .ok (.aload_n 0, 1) := by decide +kernel
theorem dX12_form_31 : decode cX12_form 31 = .ok (.aload_n 0, 1) := by decide +kernel
theorem dX12_form_32 : decode cX12_form 32 = .ok (.getfield 15, 3) := by decide +kernel
theorem dX12_form_35 : decode cX12_form 35 = .ok (.iconst 0, 1) := by decide +kernel
theorem dX12_form_36 : decode cX12_form 36 = .ok (.aaload, 1) := by decide +kernel
theorem dX12_form_37 : decode cX12_form 37 = .ok (.aload_n 0, 1) := by decide +kernel
theorem dX12_form_38 : decode cX12_form 38 = .ok (.getfield 15, 3) := by decide +kernel
theorem dX12_form_41 : decode cX12_form 41 = .ok (.iconst 1, 1) := by decide +kernel
theorem dX12_form_42 : decode cX12_form 42 = .ok (.aaload, 1) := by decide +kernel
theorem dX12_form_43 : decode cX12_form 43 = .ok (.invokevirtual 124, 3) := by decide +kernel
theorem dX12_form_46 : decode cX12_form 46 = .ok (.iconst 0, 1) := by decide +kernel
theorem dX12_form_47 : decode cX12_form 47 = .ok (.istore_n 2, 1) := by decide +kernel
theorem dX12_form_48 : decode cX12_form 48 = .ok (.iload_n 2, 1) := by decide +kernel
theorem dX12_form_49 : decode cX12_form 49 = .ok (.bipush 52, 2) := by decide +kernel
theorem dX12_form_51 : decode cX12_form 51 = .ok (.if_icmp .ge 31, 3) := by decide +kernel
theorem dX12_form_54 : decode cX12_form 54 = .ok (.aload_n 0, 1) := by decide +kernel
theorem dX12_form_55 : decode cX12_form 55 = .ok (.getfield 7, 3) := by decide +kernel
theorem dX12_form_58 : decode cX12_form 58 = .ok (.bipush 34, 2) := by decide +kernel
theorem dX12_form_60 : decode cX12_form 60 = .ok (.bipush 52, 2) := by decide +kernel
theorem dX12_form_62 : decode cX12_form 62 = .ok (.iload_n 1, 1) := by decide +kernel
theorem dX12_form_63 : decode cX12_form 63 = .ok (.imul, 1) := by decide +kernel
theorem dX12_form_64 : decode cX12_form 64 = .ok (.iadd, 1) := by decide +kernel
theorem dX12_form_65 : decode cX12_form 65 = .ok (.iload_n 2, 1) := by decide +kernel
theorem dX12_form_66 : decode cX12_form 66 = .ok (.iadd, 1) := by decide +kernel
theorem dX12_form_67 : decode cX12_form 67 = .ok (.aload_n 0, 1) := by decide +kernel
theorem dX12_form_68 : decode cX12_form 68 = .ok (.getfield 15, 3) := by decide +kernel
theorem dX12_form_71 : decode cX12_form 71 = .ok (.iconst 1, 1) := by decide +kernel
theorem dX12_form_72 : decode cX12_form 72 = .ok (.aaload, 1) := by decide +kernel
theorem dX12_form_73 : decode cX12_form 73 = .ok (.iload_n 2, 1) := by decide +kernel
theorem dX12_form_74 : decode cX12_form 74 = .ok (.iaload, 1) := by decide +kernel
theorem dX12_form_75 : decode cX12_form 75 = .ok (.iastore, 1) := by decide +kernel
theorem dX12_form_76 : decode cX12_form 76 = .ok (.iinc 2 1, 3) := by decide +kernel
theorem dX12_form_79 : decode cX12_form 79 = .ok (.goto (-31), 3) := by decide +kernel
theorem dX12_form_82 : decode cX12_form 82 = .ok (.aload_n 0, 1) := by decide +kernel
theorem dX12_form_83 : decode cX12_form 83 = .ok (.aload_n 0, 1) := by decide +kernel
theorem dX12_form_84 : decode cX12_form 84 = .ok (.getfield 15, 3) := by decide +kernel
theorem dX12_form_87 : decode cX12_form 87 = .ok (.iconst 1, 1) := by decide +kernel
theorem dX12_form_88 : decode cX12_form 88 = .ok (.aaload, 1) := by decide +kernel
theorem dX12_form_89 : decode cX12_form 89 = .ok (.iconst 1, 1) := by decide +kernel
theorem dX12_form_90 : decode cX12_form 90 = .ok (.iaload, 1) := by decide +kernel
theorem dX12_form_91 : decode cX12_form 91 = .ok (.invokevirtual 251, 3) := by decide +kernel
theorem dX12_form_94 : decode cX12_form 94 = .ok (.ireturn, 1) := by decide +kernel
theorem dX12_times_0 : decode cX12_times 0 = .ok (.aload_n 0, 1) := by decide +kernel
theorem dX12_times_1 : decode cX12_times 1 = .ok (.iload_n 1, 1) := by decide +kernel
theorem dX12_times_2 : decode cX12_times 2 = .ok (.invokevirtual 266, 3) := by decide +kernel
theorem dX12_times_5 : decode cX12_times 5 = .ok (.ifCond .eq 11, 3) := by decide +kernel
theorem dX12_times_8 : decode cX12_times 8 = .ok (.aload_n 0, 1) := by decide +kernel
theorem dX12_times_9 : decode cX12_times 9 = .ok (.iload_n 2, 1) := by decide +kernel
theorem dX12_times_10 : decode cX12_times 10 = .ok (.invokevirtual 266, 3) := by decide +kernel
theorem dX12_times_13 : decode cX12_times 13 = .ok (.ifCond .ne 9, 3) := by decide +kernel
theorem dX12_times_16 : decode cX12_times 16 = .ok (.aload_n 0, 1) := by decide +kernel
theorem dX12_times_17 : decode cX12_times 17 = .ok (.iconst 2, 1) := by decide +kernel
theorem dX12_times_18 : decode cX12_times 18 = .ok (.invokevirtual 238, 3) := by decide +kernel
theorem dX12_times_21 : decode cX12_times 21 = .ok (.ireturn, 1) := by decide +kernel
theorem dX12_times_22 : decode cX12_times 22 = .ok (.aload_n 0, 1) := by decide +kernel
theorem dX12_times_23 : decode cX12_times 23 = .ok (.iconst 2, 1) := by decide +kernel
theorem dX12_times_24 : decode cX12_times 24 = .ok (.invokevirtual 70, 3) := by decide +kernel
theorem dX12_times_27 : decode cX12_times 27 = .ok (.bipush 10, 2) := by decide +kernel
theorem dX12_times_29 : decode cX12_times 29 = .ok (.if_icmp .ne 9, 3) := by decide +kernel
theorem dX12_times_32 : decode cX12_times 32 = .ok (.aload_n 0, 1) := by decide +kernel
theorem dX12_times_33 : decode cX12_times 33 = .ok (.iconst 3, 1) := by decide +kernel
theorem dX12_times_34 : decode cX12_times 34 = .ok (.invokevirtual 238, 3) := by decide +kernel
theorem dX12_times_37 : decode cX12_times 37 = .ok (.ireturn, 1) := by decide +kernel
theorem dX12_times_38 : decode cX12_times 38 = .ok (.aload_n 0, 1) := by decide +kernel
theorem dX12_times_39 : decode cX12_times 39 = .ok (.iload_n 1, 1) := by decide +kernel
theorem dX12_times_40 : decode cX12_times 40 = .ok (.aload_n 0, 1) := by decide +kernel
theorem dX12_times_41 : decode cX12_times 41 = .ok (.getfield 15, 3) := by decide +kernel
theorem dX12_times_44 : decode cX12_times 44 = .ok (.iconst 0, 1) := by decide +kernel
theorem dX12_times_45 : decode cX12_times 45 = .ok (.aaload, 1) := by decide +kernel
theorem dX12_times_46 : decode cX12_times 46 = .ok (.invokevirtual 127, 3) := by decide +kernel
theorem dX12_times_49 : decode cX12_times 49 = .ok (.aload_n 0, 1) := by decide +kernel
theorem dX12_times_50 : decode cX12_times 50 = .ok (.iload_n 2, 1) := by decide +kernel
theorem dX12_times_51 : decode cX12_times 51 = .ok (.aload_n 0, 1) := by decide +kernel
theorem dX12_times_52 : decode cX12_times 52 = .ok (.getfield 15, 3) := by decide +kernel
theorem dX12_times_55 : decode cX12_times 55 = .ok (.iconst 1, 1) := by decide +kernel
theorem dX12_times_56 : decode cX12_times 56 = .ok (.aaload, 1) := by decide +kernel
theorem dX12_times_57 : decode cX12_times 57 = .ok (.invokevirtual 127, 3) := by decide +kernel
theorem dX12_times_60 : decode cX12_times 60 = .ok (.aload_n 0, 1) := by decide +kernel
theorem dX12_times_61 : decode cX12_times 61 = .ok (.aload_n 0, 1) := by decide +kernel
theorem dX12_times_62 : decode cX12_times 62 = .ok (.getfield 15, 3) := by decide +kernel
theorem dX12_times_65 : decode cX12_times 65 = .ok (.iconst 0, 1) := by decide +kernel
theorem dX12_times_66 : decode cX12_times 66 = .ok (.aaload, 1) := by decide +kernel
theorem dX12_times_67 : decode cX12_times 67 = .ok (.invokevirtual 117, 3) := by decide +kernel
theorem dX12_times_70 : decode cX12_times 70 = .ok (.aload_n 0, 1) := by decide +kernel
theorem dX12_times_71 : decode cX12_times 71 = .ok (.getfield 15, 3) := by decide +kernel
theorem dX12_times_74 : decode cX12_times 74 = .ok (.iconst 1, 1) := by decide +kernel
theorem dX12_times_75 : decode cX12_times 75 = .ok (.aaload, 1) := by decide +kernel
theorem dX12_times_76 : decode cX12_times 76 = .ok (.iconst 0, 1) := by decide +kernel
theorem dX12_times_77 : decode cX12_times 77 = .ok (.iaload, 1) := by decide +kernel
theorem dX12_times_78 : decode cX12_times 78 = .ok (.if_icmp .eq 9, 3) := by decide +kernel
theorem dX12_times_81 : decode cX12_times 81 = .ok (.aload_n 0, 1) := by decide +kernel
theorem dX12_times_82 : decode cX12_times 82 = .ok (.iconst 4, 1) := by decide +kernel
theorem dX12_times_83 : decode cX12_times 83 = .ok (.invokevirtual 238, 3) := by decide +kernel
theorem dX12_times_86 : decode cX12_times 86 = .ok (.ireturn, 1) := by decide +kernel
theorem dX12_times_87 : decode cX12_times 87 = .ok (.aload_n 0, 1) := by decide +kernel
theorem dX12_times_88 : decode cX12_times 88 = .ok (.aload_n 0, 1) := by decide +kernel
theorem dX12_times_89 : decode cX12_times 89 = .ok (.getfield 15, 3) := by decide +kernel
theorem dX12_times_92 : decode cX12_times 92 = .ok (.iconst 0, 1) := by decide +kernel
theorem dX12_times_93 : decode cX12_times 93 = .ok (.aaload, 1) := by decide +kernel
theorem dX12_times_94 : decode cX12_times 94 = .ok (.aload_n 0, 1) := by decide +kernel
theorem dX12_times_95 : decode cX12_times 95 = .ok (.getfield 15, 3) := by decide +kernel
theorem dX12_times_98 : decode cX12_times 98 = .ok (.iconst 1, 1) := by decide +kernel
theorem dX12_times_99 : decode cX12_times 99 = .ok (.aaload, 1) := by decide +kernel
theorem dX12_times_100 : decode cX12_times 100 = .ok (.aload_n 0, 1) := by decide +kernel
theorem dX12_times_101 : decode cX12_times 101 = .ok (.getfield 15, 3) := by decide +kernel
theorem dX12_times_104 : decode cX12_times 104 = .ok (.iconst 2, 1) := by decide +kernel
theorem dX12_times_105 : decode cX12_times 105 = .ok (.aaload, 1) := by decide +kernel
theorem dX12_times_106 : decode cX12_times 106 = .ok (.invokevirtual 276, 3) := by decide +kernel
theorem dX12_times_109 : decode cX12_times 109 = .ok (.aload_n 0, 1) := by decide +kernel
theorem dX12_times_110 : decode cX12_times 110 = .ok (.aload_n 0, 1) := by decide +kernel
theorem dX12_times_111 : decode cX12_times 111 = .ok (.getfield 15, 3) := by decide +kernel
theorem dX12_times_114 : decode cX12_times 114 = .ok (.iconst 2, 1) := by decide +kernel
theorem dX12_times_115 : decode cX12_times 115 = .ok (.aaload, 1) := by decide +kernel
theorem dX12_times_116 : decode cX12_times 116 = .ok (.invokevirtual 273, 3) := by decide +kernel
theorem dX12_times_119 : decode cX12_times 119 = .ok (.ireturn, 1) := by decide +kernel
theorem dX12_turned_0 : decode cX12_turned 0 = .ok (.aload_n 0, 1) := by decide +kernel
theorem dX12_turned_1 : decode cX12_turned 1 = .ok (.iload_n 1, 1) := by decide +kernel
theorem dX12_turned_2 : decode cX12_turned 2 = .ok (.invokevirtual 266, 3) := by decide +kernel
theorem dX12_turned_5 : decode cX12_turned 5 = .ok (.ifCond .ne 9, 3) := by decide +kernel
theorem dX12_turned_8 : decode cX12_turned 8 = .ok (.aload_n 0, 1) := by decide +kernel
theorem dX12_turned_9 : decode cX12_turned 9 = .ok (.iconst 2, 1) := by decide +kernel
theorem dX12_turned_10 : decode cX12_turned 10 = .ok (.invokevirtual 238, 3) := by decide +kernel
theorem dX12_turned_13 : decode cX12_turned 13 = .ok (.ireturn, 1) := by decide +kernel
theorem dX12_turned_14 : decode cX12_turned 14 = .ok (.aload_n 0, 1) := by decide +kernel
theorem dX12_turned_15 : decode cX12_turned 15 = .ok (.iconst 2, 1) := by decide +kernel
theorem dX12_turned_16 : decode cX12_turned 16 = .ok (.invokevirtual 70, 3) := by decide +kernel
theorem dX12_turned_19 : decode cX12_turned 19 = .ok (.bipush 10, 2) := by decide +kernel
theorem dX12_turned_21 : decode cX12_turned 21 = .ok (.if_icmp .ne 9, 3) := by decide +kernel
theorem dX12_turned_24 : decode cX12_turned 24 = .ok (.aload_n 0, 1) := by decide +kernel
theorem dX12_turned_25 : decode cX12_turned 25 = .ok (.iconst 3, 1) := by decide +kernel
theorem dX12_turned_26 : decode cX12_turned 26 = .ok (.invokevirtual 238, 3) := by decide +kernel
theorem dX12_turned_29 : decode cX12_turned 29 = .ok (.ireturn, 1) := by decide +kernel
theorem dX12_turned_30 : decode cX12_turned 30 = .ok (.aload_n 0, 1) := by decide +kernel
theorem dX12_turned_31 : decode cX12_turned 31 = .ok (.iload_n 1, 1) := by decide +kernel
theorem dX12_turned_32 : decode cX12_turned 32 = .ok (.aload_n 0, 1) := by decide +kernel
theorem dX12_turned_33 : decode cX12_turned 33 = .ok (.getfield 15, 3) := by decide +kernel
theorem dX12_turned_36 : decode cX12_turned 36 = .ok (.iconst 0, 1) := by decide +kernel
theorem dX12_turned_37 : decode cX12_turned 37 = .ok (.aaload, 1) := by decide +kernel
theorem dX12_turned_38 : decode cX12_turned 38 = .ok (.invokevirtual 127, 3) := by decide +kernel
theorem dX12_turned_41 : decode cX12_turned 41 = .ok (.aload_n 0, 1) := by decide +kernel
theorem dX12_turned_42 : decode cX12_turned 42 = .ok (.aload_n 0, 1) := by decide +kernel
theorem dX12_turned_43 : decode cX12_turned 43 = .ok (.getfield 15, 3) := by decide +kernel
theorem dX12_turned_46 : decode cX12_turned 46 = .ok (.iconst 0, 1) := by decide +kernel
theorem dX12_turned_47 : decode cX12_turned 47 = .ok (.aaload, 1) := by decide +kernel
theorem dX12_turned_48 : decode cX12_turned 48 = .ok (.aload_n 0, 1) := by decide +kernel
theorem dX12_turned_49 : decode cX12_turned 49 = .ok (.getfield 15, 3) := by decide +kernel
theorem dX12_turned_52 : decode cX12_turned 52 = .ok (.iconst 1, 1) := by decide +kernel
theorem dX12_turned_53 : decode cX12_turned 53 = .ok (.aaload, 1) := by decide +kernel
theorem dX12_turned_54 : decode cX12_turned 54 = .ok (.invokevirtual 280, 3) := by decide +kernel
theorem dX12_turned_57 : decode cX12_turned 57 = .ok (.aload_n 0, 1) := by decide +kernel
theorem dX12_turned_58 : decode cX12_turned 58 = .ok (.aload_n 0, 1) := by decide +kernel
theorem dX12_turned_59 : decode cX12_turned 59 = .ok (.getfield 15, 3) := by decide +kernel
theorem dX12_turned_62 : decode cX12_turned 62 = .ok (.iconst 1, 1) := by decide +kernel
theorem dX12_turned_63 : decode cX12_turned 63 = .ok (.aaload, 1) := by decide +kernel
theorem dX12_turned_64 : decode cX12_turned 64 = .ok (.invokevirtual 273, 3) := by decide +kernel
theorem dX12_turned_67 : decode cX12_turned 67 = .ok (.ireturn, 1) := by decide +kernel
theorem dX12_power_0 : decode cX12_power 0 = .ok (.iload_n 2, 1) := by decide +kernel
theorem dX12_power_1 : decode cX12_power 1 = .ok (.bipush (-9), 2) := by decide +kernel
theorem dX12_power_3 : decode cX12_power 3 = .ok (.bipush 9, 2) := by decide +kernel
theorem dX12_power_5 : decode cX12_power 5 = .ok (.invokestatic 200, 3) := by decide +kernel
theorem dX12_power_8 : decode cX12_power 8 = .ok (.ifCond .ne 9, 3) := by decide +kernel
theorem dX12_power_11 : decode cX12_power 11 = .ok (.aload_n 0, 1) := by decide +kernel
theorem dX12_power_12 : decode cX12_power 12 = .ok (.iconst 1, 1) := by decide +kernel
theorem dX12_power_13 : decode cX12_power 13 = .ok (.invokevirtual 238, 3) := by decide +kernel
theorem dX12_power_16 : decode cX12_power 16 = .ok (.ireturn, 1) := by decide +kernel
theorem dX12_power_17 : decode cX12_power 17 = .ok (.aload_n 0, 1) := by decide +kernel
theorem dX12_power_18 : decode cX12_power 18 = .ok (.iload_n 1, 1) := by decide +kernel
theorem dX12_power_19 : decode cX12_power 19 = .ok (.invokevirtual 266, 3) := by decide +kernel
theorem dX12_power_22 : decode cX12_power 22 = .ok (.ifCond .ne 9, 3) := by decide +kernel
theorem dX12_power_25 : decode cX12_power 25 = .ok (.aload_n 0, 1) := by decide +kernel
theorem dX12_power_26 : decode cX12_power 26 = .ok (.iconst 2, 1) := by decide +kernel
theorem dX12_power_27 : decode cX12_power 27 = .ok (.invokevirtual 238, 3) := by decide +kernel
theorem dX12_power_30 : decode cX12_power 30 = .ok (.ireturn, 1) := by decide +kernel
theorem dX12_power_31 : decode cX12_power 31 = .ok (.aload_n 0, 1) := by decide +kernel
theorem dX12_power_32 : decode cX12_power 32 = .ok (.iconst 2, 1) := by decide +kernel
theorem dX12_power_33 : decode cX12_power 33 = .ok (.invokevirtual 70, 3) := by decide +kernel
theorem dX12_power_36 : decode cX12_power 36 = .ok (.bipush 10, 2) := by decide +kernel
theorem dX12_power_38 : decode cX12_power 38 = .ok (.if_icmp .ne 9, 3) := by decide +kernel
theorem dX12_power_41 : decode cX12_power 41 = .ok (.aload_n 0, 1) := by decide +kernel
theorem dX12_power_42 : decode cX12_power 42 = .ok (.iconst 3, 1) := by decide +kernel
theorem dX12_power_43 : decode cX12_power 43 = .ok (.invokevirtual 238, 3) := by decide +kernel
theorem dX12_power_46 : decode cX12_power 46 = .ok (.ireturn, 1) := by decide +kernel
theorem dX12_power_47 : decode cX12_power 47 = .ok (.aload_n 0, 1) := by decide +kernel
theorem dX12_power_48 : decode cX12_power 48 = .ok (.iload_n 1, 1) := by decide +kernel
theorem dX12_power_49 : decode cX12_power 49 = .ok (.invokevirtual 283, 3) := by decide +kernel
theorem dX12_power_52 : decode cX12_power 52 = .ok (.ifCond .ne 9, 3) := by decide +kernel
theorem dX12_power_55 : decode cX12_power 55 = .ok (.aload_n 0, 1) := by decide +kernel
theorem dX12_power_56 : decode cX12_power 56 = .ok (.iconst 4, 1) := by decide +kernel
theorem dX12_power_57 : decode cX12_power 57 = .ok (.invokevirtual 238, 3) := by decide +kernel
theorem dX12_power_60 : decode cX12_power 60 = .ok (.ireturn, 1) := by decide +kernel
theorem dX12_power_61 : decode cX12_power 61 = .ok (.aload_n 0, 1) := by decide +kernel
theorem dX12_power_62 : decode cX12_power 62 = .ok (.iload_n 1, 1) := by decide +kernel
theorem dX12_power_63 : decode cX12_power 63 = .ok (.aload_n 0, 1) := by decide +kernel
theorem dX12_power_64 : decode cX12_power 64 = .ok (.getfield 15, 3) := by decide +kernel
theorem dX12_power_67 : decode cX12_power 67 = .ok (.iconst 0, 1) := by decide +kernel
theorem dX12_power_68 : decode cX12_power 68 = .ok (.aaload, 1) := by decide +kernel
theorem dX12_power_69 : decode cX12_power 69 = .ok (.invokevirtual 127, 3) := by decide +kernel
theorem dX12_power_72 : decode cX12_power 72 = .ok (.iload_n 2, 1) := by decide +kernel
theorem dX12_power_73 : decode cX12_power 73 = .ok (.ifCond .ge 34, 3) := by decide +kernel
theorem dX12_power_76 : decode cX12_power 76 = .ok (.aload_n 0, 1) := by decide +kernel
theorem dX12_power_77 : decode cX12_power 77 = .ok (.aload_n 0, 1) := by decide +kernel
theorem dX12_power_78 : decode cX12_power 78 = .ok (.getfield 15, 3) := by decide +kernel
theorem dX12_power_81 : decode cX12_power 81 = .ok (.iconst 0, 1) := by decide +kernel
theorem dX12_power_82 : decode cX12_power 82 = .ok (.aaload, 1) := by decide +kernel
theorem dX12_power_83 : decode cX12_power 83 = .ok (.aload_n 0, 1) := by decide +kernel
theorem dX12_power_84 : decode cX12_power 84 = .ok (.getfield 15, 3) := by decide +kernel
theorem dX12_power_87 : decode cX12_power 87 = .ok (.iconst 1, 1) := by decide +kernel
theorem dX12_power_88 : decode cX12_power 88 = .ok (.aaload, 1) := by decide +kernel
theorem dX12_power_89 : decode cX12_power 89 = .ok (.invokevirtual 280, 3) := by decide +kernel
theorem dX12_power_92 : decode cX12_power 92 = .ok (.aload_n 0, 1) := by decide +kernel
theorem dX12_power_93 : decode cX12_power 93 = .ok (.getfield 15, 3) := by decide +kernel
theorem dX12_power_96 : decode cX12_power 96 = .ok (.iconst 1, 1) := by decide +kernel
theorem dX12_power_97 : decode cX12_power 97 = .ok (.aaload, 1) := by decide +kernel
theorem dX12_power_98 : decode cX12_power 98 = .ok (.aload_n 0, 1) := by decide +kernel
theorem dX12_power_99 : decode cX12_power 99 = .ok (.getfield 15, 3) := by decide +kernel
theorem dX12_power_102 : decode cX12_power 102 = .ok (.iconst 0, 1) := by decide +kernel
theorem dX12_power_103 : decode cX12_power 103 = .ok (.aaload, 1) := by decide +kernel
theorem dX12_power_104 : decode cX12_power 104 = .ok (.invokestatic 113, 3) := by decide +kernel
theorem dX12_power_107 : decode cX12_power 107 = .ok (.aload_n 0, 1) := by decide +kernel
theorem dX12_power_108 : decode cX12_power 108 = .ok (.getfield 15, 3) := by decide +kernel
theorem dX12_power_111 : decode cX12_power 111 = .ok (.iconst 2, 1) := by decide +kernel
theorem dX12_power_112 : decode cX12_power 112 = .ok (.aaload, 1) := by decide +kernel
theorem dX12_power_113 : decode cX12_power 113 = .ok (.aload_n 0, 1) := by decide +kernel
theorem dX12_power_114 : decode cX12_power 114 = .ok (.getfield 15, 3) := by decide +kernel
theorem dX12_power_117 : decode cX12_power 117 = .ok (.iconst 0, 1) := by decide +kernel
theorem dX12_power_118 : decode cX12_power 118 = .ok (.aaload, 1) := by decide +kernel
theorem dX12_power_119 : decode cX12_power 119 = .ok (.iconst 0, 1) := by decide +kernel
theorem dX12_power_120 : decode cX12_power 120 = .ok (.iaload, 1) := by decide +kernel
theorem dX12_power_121 : decode cX12_power 121 = .ok (.iconst 0, 1) := by decide +kernel
theorem dX12_power_122 : decode cX12_power 122 = .ok (.invokestatic 100, 3) := by decide +kernel
theorem dX12_power_125 : decode cX12_power 125 = .ok (.iconst 0, 1) := by decide +kernel
theorem dX12_power_126 : decode cX12_power 126 = .ok (.istore_n 3, 1) := by decide +kernel
theorem dX12_power_127 : decode cX12_power 127 = .ok (.iload_n 3, 1) := by decide +kernel
theorem dX12_power_128 : decode cX12_power 128 = .ok (.iload_n 2, 1) := by decide +kernel
theorem dX12_power_129 : decode cX12_power 129 = .ok (.ifCond .ge 8, 3) := by decide +kernel
theorem dX12_power_132 : decode cX12_power 132 = .ok (.iload_n 2, 1) := by decide +kernel
theorem dX12_power_133 : decode cX12_power 133 = .ok (.ineg, 1) := by decide +kernel
theorem dX12_power_134 : decode cX12_power 134 = .ok (.goto 4, 3) := by decide +kernel
theorem dX12_power_137 : decode cX12_power 137 = .ok (.iload_n 2, 1) := by decide +kernel
theorem dX12_power_138 : decode cX12_power 138 = .ok (.if_icmp .ge 66, 3) := by decide +kernel
theorem dX12_power_141 : decode cX12_power 141 = .ok (.aload_n 0, 1) := by decide +kernel
theorem dX12_power_142 : decode cX12_power 142 = .ok (.aload_n 0, 1) := by decide +kernel
theorem dX12_power_143 : decode cX12_power 143 = .ok (.getfield 15, 3) := by decide +kernel
theorem dX12_power_146 : decode cX12_power 146 = .ok (.iconst 2, 1) := by decide +kernel
theorem dX12_power_147 : decode cX12_power 147 = .ok (.aaload, 1) := by decide +kernel
theorem dX12_power_148 : decode cX12_power 148 = .ok (.aload_n 0, 1) := by decide +kernel
theorem dX12_power_149 : decode cX12_power 149 = .ok (.getfield 15, 3) := by decide +kernel
theorem dX12_power_152 : decode cX12_power 152 = .ok (.iconst 0, 1) := by decide +kernel
theorem dX12_power_153 : decode cX12_power 153 = .ok (.aaload, 1) := by decide +kernel
theorem dX12_power_154 : decode cX12_power 154 = .ok (.aload_n 0, 1) := by decide +kernel
theorem dX12_power_155 : decode cX12_power 155 = .ok (.getfield 15, 3) := by decide +kernel
theorem dX12_power_158 : decode cX12_power 158 = .ok (.iconst 3, 1) := by decide +kernel
theorem dX12_power_159 : decode cX12_power 159 = .ok (.aaload, 1) := by decide +kernel
theorem dX12_power_160 : decode cX12_power 160 = .ok (.invokevirtual 276, 3) := by decide +kernel
theorem dX12_power_163 : decode cX12_power 163 = .ok (.aload_n 0, 1) := by decide +kernel
theorem dX12_power_164 : decode cX12_power 164 = .ok (.getfield 15, 3) := by decide +kernel
theorem dX12_power_167 : decode cX12_power 167 = .ok (.iconst 3, 1) := by decide +kernel
theorem dX12_power_168 : decode cX12_power 168 = .ok (.aaload, 1) := by decide +kernel
theorem dX12_power_169 : decode cX12_power 169 = .ok (.iconst 1, 1) := by decide +kernel
theorem dX12_power_170 : decode cX12_power 170 = .ok (.iaload, 1) := by decide +kernel
theorem dX12_power_171 : decode cX12_power 171 = .ok (.bipush 24, 2) := by decide +kernel
theorem dX12_power_173 : decode cX12_power 173 = .ok (.if_icmp .le 10, 3) := by decide +kernel
theorem dX12_power_176 : decode cX12_power 176 = .ok (.aload_n 0, 1) := by decide +kernel
theorem dX12_power_177 : decode cX12_power 177 = .ok (.bipush 6, 2) := by decide +kernel
theorem dX12_power_179 : decode cX12_power 179 = .ok (.invokevirtual 238, 3) := by decide +kernel
theorem dX12_power_182 : decode cX12_power 182 = .ok (.ireturn, 1) := by decide +kernel
theorem dX12_power_183 : decode cX12_power 183 = .ok (.aload_n 0, 1) := by decide +kernel
theorem dX12_power_184 : decode cX12_power 184 = .ok (.getfield 15, 3) := by decide +kernel
theorem dX12_power_187 : decode cX12_power 187 = .ok (.iconst 3, 1) := by decide +kernel
theorem dX12_power_188 : decode cX12_power 188 = .ok (.aaload, 1) := by decide +kernel
theorem dX12_power_189 : decode cX12_power 189 = .ok (.aload_n 0, 1) := by decide +kernel
theorem dX12_power_190 : decode cX12_power 190 = .ok (.getfield 15, 3) := by decide +kernel
theorem dX12_power_193 : decode cX12_power 193 = .ok (.iconst 2, 1) := by decide +kernel
theorem dX12_power_194 : decode cX12_power 194 = .ok (.aaload, 1) := by decide +kernel
theorem dX12_power_195 : decode cX12_power 195 = .ok (.invokestatic 113, 3) := by decide +kernel
theorem dX12_power_198 : decode cX12_power 198 = .ok (.iinc 3 1, 3) := by decide +kernel
theorem dX12_power_201 : decode cX12_power 201 = .ok (.goto (-74), 3) := by decide +kernel
theorem dX12_power_204 : decode cX12_power 204 = .ok (.aload_n 0, 1) := by decide +kernel
theorem dX12_power_205 : decode cX12_power 205 = .ok (.aload_n 0, 1) := by decide +kernel
theorem dX12_power_206 : decode cX12_power 206 = .ok (.getfield 15, 3) := by decide +kernel
theorem dX12_power_209 : decode cX12_power 209 = .ok (.iconst 2, 1) := by decide +kernel
theorem dX12_power_210 : decode cX12_power 210 = .ok (.aaload, 1) := by decide +kernel
theorem dX12_power_211 : decode cX12_power 211 = .ok (.invokevirtual 273, 3) := by decide +kernel
theorem dX12_power_214 : decode cX12_power 214 = .ok (.ireturn, 1) := by decide +kernel
theorem dX12_wrongLoop_0 : decode cX12_wrongLoop 0 = .ok (.aload_n 0, 1) := by decide +kernel
theorem dX12_wrongLoop_1 : decode cX12_wrongLoop 1 = .ok (.iload_n 1, 1) := by decide +kernel
theorem dX12_wrongLoop_2 : decode cX12_wrongLoop 2 = .ok (.invokevirtual 266, 3) := by decide +kernel
theorem dX12_wrongLoop_5 : decode cX12_wrongLoop 5 = .ok (.ifCond .ne 7, 3) := by decide +kernel
theorem dX12_wrongLoop_8 : decode cX12_wrongLoop 8 = .ok (.iconst 2, 1) := by decide +kernel
theorem dX12_wrongLoop_9 : decode cX12_wrongLoop 9 = .ok (.goto 16, 3) := by decide +kernel
theorem dX12_wrongLoop_12 : decode cX12_wrongLoop 12 = .ok (.aload_n 0, 1) := by decide +kernel
theorem dX12_wrongLoop_13 : decode cX12_wrongLoop 13 = .ok (.iload_n 1, 1) := by decide +kernel
theorem dX12_wrongLoop_14 : decode cX12_wrongLoop 14 = .ok (.invokevirtual 283, 3) := by decide +kernel
theorem dX12_wrongLoop_17 : decode cX12_wrongLoop 17 = .ok (.ifCond .eq 7, 3) := by decide +kernel
theorem dX12_wrongLoop_20 : decode cX12_wrongLoop 20 = .ok (.iconst 0, 1) := by decide +kernel
theorem dX12_wrongLoop_21 : decode cX12_wrongLoop 21 = .ok (.goto 4, 3) := by decide +kernel
theorem dX12_wrongLoop_24 : decode cX12_wrongLoop 24 = .ok (.iconst 4, 1) := by decide +kernel
theorem dX12_wrongLoop_25 : decode cX12_wrongLoop 25 = .ok (.ireturn, 1) := by decide +kernel
theorem dX12_core_0 : decode cX12_core 0 = .ok (.aload_n 0, 1) := by decide +kernel
theorem dX12_core_1 : decode cX12_core 1 = .ok (.iload_n 1, 1) := by decide +kernel
theorem dX12_core_2 : decode cX12_core 2 = .ok (.invokevirtual 266, 3) := by decide +kernel
theorem dX12_core_5 : decode cX12_core 5 = .ok (.ifCond .ne 9, 3) := by decide +kernel
theorem dX12_core_8 : decode cX12_core 8 = .ok (.aload_n 0, 1) := by decide +kernel
theorem dX12_core_9 : decode cX12_core 9 = .ok (.iconst 2, 1) := by decide +kernel
theorem dX12_core_10 : decode cX12_core 10 = .ok (.invokevirtual 238, 3) := by decide +kernel
theorem dX12_core_13 : decode cX12_core 13 = .ok (.ireturn, 1) := by decide +kernel
theorem dX12_core_14 : decode cX12_core 14 = .ok (.aload_n 0, 1) := by decide +kernel
theorem dX12_core_15 : decode cX12_core 15 = .ok (.iconst 2, 1) := by decide +kernel
theorem dX12_core_16 : decode cX12_core 16 = .ok (.invokevirtual 70, 3) := by decide +kernel
theorem dX12_core_19 : decode cX12_core 19 = .ok (.bipush 10, 2) := by decide +kernel
theorem dX12_core_21 : decode cX12_core 21 = .ok (.if_icmp .ne 9, 3) := by decide +kernel
theorem dX12_core_24 : decode cX12_core 24 = .ok (.aload_n 0, 1) := by decide +kernel
theorem dX12_core_25 : decode cX12_core 25 = .ok (.iconst 3, 1) := by decide +kernel
theorem dX12_core_26 : decode cX12_core 26 = .ok (.invokevirtual 238, 3) := by decide +kernel
theorem dX12_core_29 : decode cX12_core 29 = .ok (.ireturn, 1) := by decide +kernel
theorem dX12_core_30 : decode cX12_core 30 = .ok (.aload_n 0, 1) := by decide +kernel
theorem dX12_core_31 : decode cX12_core 31 = .ok (.iload_n 1, 1) := by decide +kernel
theorem dX12_core_32 : decode cX12_core 32 = .ok (.invokevirtual 283, 3) := by decide +kernel
theorem dX12_core_35 : decode cX12_core 35 = .ok (.ifCond .ne 9, 3) := by decide +kernel
theorem dX12_core_38 : decode cX12_core 38 = .ok (.aload_n 0, 1) := by decide +kernel
theorem dX12_core_39 : decode cX12_core 39 = .ok (.iconst 4, 1) := by decide +kernel
theorem dX12_core_40 : decode cX12_core 40 = .ok (.invokevirtual 238, 3) := by decide +kernel
theorem dX12_core_43 : decode cX12_core 43 = .ok (.ireturn, 1) := by decide +kernel
theorem dX12_core_44 : decode cX12_core 44 = .ok (.aload_n 0, 1) := by decide +kernel
theorem dX12_core_45 : decode cX12_core 45 = .ok (.iload_n 1, 1) := by decide +kernel
theorem dX12_core_46 : decode cX12_core 46 = .ok (.aload_n 0, 1) := by decide +kernel
theorem dX12_core_47 : decode cX12_core 47 = .ok (.getfield 15, 3) := by decide +kernel
theorem dX12_core_50 : decode cX12_core 50 = .ok (.iconst 0, 1) := by decide +kernel
theorem dX12_core_51 : decode cX12_core 51 = .ok (.aaload, 1) := by decide +kernel
theorem dX12_core_52 : decode cX12_core 52 = .ok (.invokevirtual 286, 3) := by decide +kernel
theorem dX12_core_55 : decode cX12_core 55 = .ok (.aload_n 0, 1) := by decide +kernel
theorem dX12_core_56 : decode cX12_core 56 = .ok (.aload_n 0, 1) := by decide +kernel
theorem dX12_core_57 : decode cX12_core 57 = .ok (.getfield 15, 3) := by decide +kernel
theorem dX12_core_60 : decode cX12_core 60 = .ok (.iconst 0, 1) := by decide +kernel
theorem dX12_core_61 : decode cX12_core 61 = .ok (.aaload, 1) := by decide +kernel
theorem dX12_core_62 : decode cX12_core 62 = .ok (.invokevirtual 273, 3) := by decide +kernel
theorem dX12_core_65 : decode cX12_core 65 = .ok (.ireturn, 1) := by decide +kernel
theorem dX12_drop_0 : decode cX12_drop 0 = .ok (.aload_n 0, 1) := by decide +kernel
theorem dX12_drop_1 : decode cX12_drop 1 = .ok (.iload_n 1, 1) := by decide +kernel
theorem dX12_drop_2 : decode cX12_drop 2 = .ok (.invokevirtual 266, 3) := by decide +kernel
theorem dX12_drop_5 : decode cX12_drop 5 = .ok (.ifCond .ne 9, 3) := by decide +kernel
theorem dX12_drop_8 : decode cX12_drop 8 = .ok (.aload_n 0, 1) := by decide +kernel
theorem dX12_drop_9 : decode cX12_drop 9 = .ok (.iconst 2, 1) := by decide +kernel
theorem dX12_drop_10 : decode cX12_drop 10 = .ok (.invokevirtual 238, 3) := by decide +kernel
theorem dX12_drop_13 : decode cX12_drop 13 = .ok (.ireturn, 1) := by decide +kernel
theorem dX12_drop_14 : decode cX12_drop 14 = .ok (.aload_n 0, 1) := by decide +kernel
theorem dX12_drop_15 : decode cX12_drop 15 = .ok (.iconst 0, 1) := by decide +kernel
theorem dX12_drop_16 : decode cX12_drop 16 = .ok (.invokevirtual 248, 3) := by decide +kernel
theorem dX12_drop_19 : decode cX12_drop 19 = .ok (.aload_n 0, 1) := by decide +kernel
theorem dX12_drop_20 : decode cX12_drop 20 = .ok (.getfield 7, 3) := by decide +kernel
theorem dX12_drop_23 : decode cX12_drop 23 = .ok (.iconst 2, 1) := by decide +kernel
theorem dX12_drop_24 : decode cX12_drop 24 = .ok (.dup2, 1) := by decide +kernel
theorem dX12_drop_25 : decode cX12_drop 25 = .ok (.iaload, 1) := by decide +kernel
theorem dX12_drop_26 : decode cX12_drop 26 = .ok (.iconst 1, 1) := by decide +kernel
theorem dX12_drop_27 : decode cX12_drop 27 = .ok (.isub, 1) := by decide +kernel
theorem dX12_drop_28 : decode cX12_drop 28 = .ok (.iastore, 1) := by decide +kernel
theorem dX12_drop_29 : decode cX12_drop 29 = .ok (.bipush 34, 2) := by decide +kernel
theorem dX12_drop_31 : decode cX12_drop 31 = .ok (.bipush 52, 2) := by decide +kernel
theorem dX12_drop_33 : decode cX12_drop 33 = .ok (.iload_n 1, 1) := by decide +kernel
theorem dX12_drop_34 : decode cX12_drop 34 = .ok (.imul, 1) := by decide +kernel
theorem dX12_drop_35 : decode cX12_drop 35 = .ok (.iadd, 1) := by decide +kernel
theorem dX12_drop_36 : decode cX12_drop 36 = .ok (.istore_n 2, 1) := by decide +kernel
theorem dX12_drop_37 : decode cX12_drop 37 = .ok (.iload_n 2, 1) := by decide +kernel
theorem dX12_drop_38 : decode cX12_drop 38 = .ok (.bipush 34, 2) := by decide +kernel
theorem dX12_drop_40 : decode cX12_drop 40 = .ok (.bipush 52, 2) := by decide +kernel
theorem dX12_drop_42 : decode cX12_drop 42 = .ok (.aload_n 0, 1) := by decide +kernel
theorem dX12_drop_43 : decode cX12_drop 43 = .ok (.iconst 2, 1) := by decide +kernel
theorem dX12_drop_44 : decode cX12_drop 44 = .ok (.invokevirtual 70, 3) := by decide +kernel
theorem dX12_drop_47 : decode cX12_drop 47 = .ok (.imul, 1) := by decide +kernel
theorem dX12_drop_48 : decode cX12_drop 48 = .ok (.iadd, 1) := by decide +kernel
theorem dX12_drop_49 : decode cX12_drop 49 = .ok (.if_icmp .ge 24, 3) := by decide +kernel
theorem dX12_drop_52 : decode cX12_drop 52 = .ok (.aload_n 0, 1) := by decide +kernel
theorem dX12_drop_53 : decode cX12_drop 53 = .ok (.getfield 7, 3) := by decide +kernel
theorem dX12_drop_56 : decode cX12_drop 56 = .ok (.iload_n 2, 1) := by decide +kernel
theorem dX12_drop_57 : decode cX12_drop 57 = .ok (.aload_n 0, 1) := by decide +kernel
theorem dX12_drop_58 : decode cX12_drop 58 = .ok (.getfield 7, 3) := by decide +kernel
theorem dX12_drop_61 : decode cX12_drop 61 = .ok (.iload_n 2, 1) := by decide +kernel
theorem dX12_drop_62 : decode cX12_drop 62 = .ok (.bipush 52, 2) := by decide +kernel
theorem dX12_drop_64 : decode cX12_drop 64 = .ok (.iadd, 1) := by decide +kernel
theorem dX12_drop_65 : decode cX12_drop 65 = .ok (.iaload, 1) := by decide +kernel
theorem dX12_drop_66 : decode cX12_drop 66 = .ok (.iastore, 1) := by decide +kernel
theorem dX12_drop_67 : decode cX12_drop 67 = .ok (.iinc 2 1, 3) := by decide +kernel
theorem dX12_drop_70 : decode cX12_drop 70 = .ok (.goto (-33), 3) := by decide +kernel
theorem dX12_drop_73 : decode cX12_drop 73 = .ok (.aload_n 0, 1) := by decide +kernel
theorem dX12_drop_74 : decode cX12_drop 74 = .ok (.aload_n 0, 1) := by decide +kernel
theorem dX12_drop_75 : decode cX12_drop 75 = .ok (.iconst 2, 1) := by decide +kernel
theorem dX12_drop_76 : decode cX12_drop 76 = .ok (.invokevirtual 70, 3) := by decide +kernel
theorem dX12_drop_79 : decode cX12_drop 79 = .ok (.invokevirtual 251, 3) := by decide +kernel
theorem dX12_drop_82 : decode cX12_drop 82 = .ok (.ireturn, 1) := by decide +kernel
theorem dX12_undo_0 : decode cX12_undo 0 = .ok (.aload_n 0, 1) := by decide +kernel
theorem dX12_undo_1 : decode cX12_undo 1 = .ok (.getfield 257, 3) := by decide +kernel
theorem dX12_undo_4 : decode cX12_undo 4 = .ok (.ifCond .ne 9, 3) := by decide +kernel
theorem dX12_undo_7 : decode cX12_undo 7 = .ok (.aload_n 0, 1) := by decide +kernel
theorem dX12_undo_8 : decode cX12_undo 8 = .ok (.iconst 5, 1) := by decide +kernel
theorem dX12_undo_9 : decode cX12_undo 9 = .ok (.invokevirtual 238, 3) := by decide +kernel
theorem dX12_undo_12 : decode cX12_undo 12 = .ok (.ireturn, 1) := by decide +kernel
theorem dX12_undo_13 : decode cX12_undo 13 = .ok (.aload_n 0, 1) := by decide +kernel
theorem dX12_undo_14 : decode cX12_undo 14 = .ok (.dup, 1) := by decide +kernel
theorem dX12_undo_15 : decode cX12_undo 15 = .ok (.getfield 257, 3) := by decide +kernel
theorem dX12_undo_18 : decode cX12_undo 18 = .ok (.iconst 1, 1) := by decide +kernel
theorem dX12_undo_19 : decode cX12_undo 19 = .ok (.isub, 1) := by decide +kernel
theorem dX12_undo_20 : decode cX12_undo 20 = .ok (.putfield 257, 3) := by decide +kernel
theorem dX12_undo_23 : decode cX12_undo 23 = .ok (.aload_n 0, 1) := by decide +kernel
theorem dX12_undo_24 : decode cX12_undo 24 = .ok (.sipush 1108, 3) := by decide +kernel
theorem dX12_undo_27 : decode cX12_undo 27 = .ok (.sipush 554, 3) := by decide +kernel
theorem dX12_undo_30 : decode cX12_undo 30 = .ok (.aload_n 0, 1) := by decide +kernel
theorem dX12_undo_31 : decode cX12_undo 31 = .ok (.getfield 257, 3) := by decide +kernel
theorem dX12_undo_34 : decode cX12_undo 34 = .ok (.imul, 1) := by decide +kernel
theorem dX12_undo_35 : decode cX12_undo 35 = .ok (.iadd, 1) := by decide +kernel
theorem dX12_undo_36 : decode cX12_undo 36 = .ok (.iconst 0, 1) := by decide +kernel
theorem dX12_undo_37 : decode cX12_undo 37 = .ok (.invokevirtual 241, 3) := by decide +kernel
theorem dX12_undo_40 : decode cX12_undo 40 = .ok (.aload_n 0, 1) := by decide +kernel
theorem dX12_undo_41 : decode cX12_undo 41 = .ok (.aload_n 0, 1) := by decide +kernel
theorem dX12_undo_42 : decode cX12_undo 42 = .ok (.getfield 257, 3) := by decide +kernel
theorem dX12_undo_45 : decode cX12_undo 45 = .ok (.invokevirtual 251, 3) := by decide +kernel
theorem dX12_undo_48 : decode cX12_undo 48 = .ok (.ireturn, 1) := by decide +kernel
theorem dX12_mark_0 : decode cX12_mark 0 = .ok (.aload_n 0, 1) := by decide +kernel
theorem dX12_mark_1 : decode cX12_mark 1 = .ok (.getfield 260, 3) := by decide +kernel
theorem dX12_mark_4 : decode cX12_mark 4 = .ok (.iconst 3, 1) := by decide +kernel
theorem dX12_mark_5 : decode cX12_mark 5 = .ok (.if_icmp .ne 9, 3) := by decide +kernel
theorem dX12_mark_8 : decode cX12_mark 8 = .ok (.aload_n 0, 1) := by decide +kernel
theorem dX12_mark_9 : decode cX12_mark 9 = .ok (.iconst 3, 1) := by decide +kernel
theorem dX12_mark_10 : decode cX12_mark 10 = .ok (.invokevirtual 238, 3) := by decide +kernel
theorem dX12_mark_13 : decode cX12_mark 13 = .ok (.ireturn, 1) := by decide +kernel
theorem dX12_mark_14 : decode cX12_mark 14 = .ok (.aload_n 0, 1) := by decide +kernel
theorem dX12_mark_15 : decode cX12_mark 15 = .ok (.iconst 0, 1) := by decide +kernel
theorem dX12_mark_16 : decode cX12_mark 16 = .ok (.sipush 5540, 3) := by decide +kernel
theorem dX12_mark_19 : decode cX12_mark 19 = .ok (.sipush 554, 3) := by decide +kernel
theorem dX12_mark_22 : decode cX12_mark 22 = .ok (.aload_n 0, 1) := by decide +kernel
theorem dX12_mark_23 : decode cX12_mark 23 = .ok (.getfield 260, 3) := by decide +kernel
theorem dX12_mark_26 : decode cX12_mark 26 = .ok (.imul, 1) := by decide +kernel
theorem dX12_mark_27 : decode cX12_mark 27 = .ok (.iadd, 1) := by decide +kernel
theorem dX12_mark_28 : decode cX12_mark 28 = .ok (.invokevirtual 241, 3) := by decide +kernel
theorem dX12_mark_31 : decode cX12_mark 31 = .ok (.aload_n 0, 1) := by decide +kernel
theorem dX12_mark_32 : decode cX12_mark 32 = .ok (.dup, 1) := by decide +kernel
theorem dX12_mark_33 : decode cX12_mark 33 = .ok (.getfield 260, 3) := by decide +kernel
theorem dX12_mark_36 : decode cX12_mark 36 = .ok (.iconst 1, 1) := by decide +kernel
theorem dX12_mark_37 : decode cX12_mark 37 = .ok (.iadd, 1) := by decide +kernel
theorem dX12_mark_38 : decode cX12_mark 38 = .ok (.putfield 260, 3) := by decide +kernel
theorem dX12_mark_41 : decode cX12_mark 41 = .ok (.aload_n 0, 1) := by decide +kernel
theorem dX12_mark_42 : decode cX12_mark 42 = .ok (.aload_n 0, 1) := by decide +kernel
theorem dX12_mark_43 : decode cX12_mark 43 = .ok (.getfield 260, 3) := by decide +kernel
theorem dX12_mark_46 : decode cX12_mark 46 = .ok (.invokevirtual 251, 3) := by decide +kernel
theorem dX12_mark_49 : decode cX12_mark 49 = .ok (.ireturn, 1) := by decide +kernel
theorem dX12_back_0 : decode cX12_back 0 = .ok (.aload_n 0, 1) := by decide +kernel
theorem dX12_back_1 : decode cX12_back 1 = .ok (.getfield 260, 3) := by decide +kernel
theorem dX12_back_4 : decode cX12_back 4 = .ok (.ifCond .ne 9, 3) := by decide +kernel
theorem dX12_back_7 : decode cX12_back 7 = .ok (.aload_n 0, 1) := by decide +kernel
theorem dX12_back_8 : decode cX12_back 8 = .ok (.iconst 5, 1) := by decide +kernel
theorem dX12_back_9 : decode cX12_back 9 = .ok (.invokevirtual 238, 3) := by decide +kernel
theorem dX12_back_12 : decode cX12_back 12 = .ok (.ireturn, 1) := by decide +kernel
theorem dX12_back_13 : decode cX12_back 13 = .ok (.aload_n 0, 1) := by decide +kernel
theorem dX12_back_14 : decode cX12_back 14 = .ok (.dup, 1) := by decide +kernel
theorem dX12_back_15 : decode cX12_back 15 = .ok (.getfield 260, 3) := by decide +kernel
theorem dX12_back_18 : decode cX12_back 18 = .ok (.iconst 1, 1) := by decide +kernel
theorem dX12_back_19 : decode cX12_back 19 = .ok (.isub, 1) := by decide +kernel
theorem dX12_back_20 : decode cX12_back 20 = .ok (.putfield 260, 3) := by decide +kernel
theorem dX12_back_23 : decode cX12_back 23 = .ok (.aload_n 0, 1) := by decide +kernel
theorem dX12_back_24 : decode cX12_back 24 = .ok (.sipush 5540, 3) := by decide +kernel
theorem dX12_back_27 : decode cX12_back 27 = .ok (.sipush 554, 3) := by decide +kernel
theorem dX12_back_30 : decode cX12_back 30 = .ok (.aload_n 0, 1) := by decide +kernel
theorem dX12_back_31 : decode cX12_back 31 = .ok (.getfield 260, 3) := by decide +kernel
theorem dX12_back_34 : decode cX12_back 34 = .ok (.imul, 1) := by decide +kernel
theorem dX12_back_35 : decode cX12_back 35 = .ok (.iadd, 1) := by decide +kernel
theorem dX12_back_36 : decode cX12_back 36 = .ok (.iconst 0, 1) := by decide +kernel
theorem dX12_back_37 : decode cX12_back 37 = .ok (.invokevirtual 241, 3) := by decide +kernel
theorem dX12_back_40 : decode cX12_back 40 = .ok (.aload_n 0, 1) := by decide +kernel
theorem dX12_back_41 : decode cX12_back 41 = .ok (.aload_n 0, 1) := by decide +kernel
theorem dX12_back_42 : decode cX12_back 42 = .ok (.getfield 260, 3) := by decide +kernel
theorem dX12_back_45 : decode cX12_back 45 = .ok (.invokevirtual 251, 3) := by decide +kernel
theorem dX12_back_48 : decode cX12_back 48 = .ok (.ireturn, 1) := by decide +kernel
theorem dX12_areAlike_0 : decode cX12_areAlike 0 = .ok (.aload_n 0, 1) := by decide +kernel
theorem dX12_areAlike_1 : decode cX12_areAlike 1 = .ok (.iload_n 1, 1) := by decide +kernel
theorem dX12_areAlike_2 : decode cX12_areAlike 2 = .ok (.aload_n 0, 1) := by decide +kernel
theorem dX12_areAlike_3 : decode cX12_areAlike 3 = .ok (.getfield 15, 3) := by decide +kernel
theorem dX12_areAlike_6 : decode cX12_areAlike 6 = .ok (.iconst 0, 1) := by decide +kernel
theorem dX12_areAlike_7 : decode cX12_areAlike 7 = .ok (.aaload, 1) := by decide +kernel
theorem dX12_areAlike_8 : decode cX12_areAlike 8 = .ok (.invokevirtual 127, 3) := by decide +kernel
theorem dX12_areAlike_11 : decode cX12_areAlike 11 = .ok (.aload_n 0, 1) := by decide +kernel
theorem dX12_areAlike_12 : decode cX12_areAlike 12 = .ok (.iload_n 2, 1) := by decide +kernel
theorem dX12_areAlike_13 : decode cX12_areAlike 13 = .ok (.aload_n 0, 1) := by decide +kernel
theorem dX12_areAlike_14 : decode cX12_areAlike 14 = .ok (.getfield 15, 3) := by decide +kernel
theorem dX12_areAlike_17 : decode cX12_areAlike 17 = .ok (.iconst 1, 1) := by decide +kernel
theorem dX12_areAlike_18 : decode cX12_areAlike 18 = .ok (.aaload, 1) := by decide +kernel
theorem dX12_areAlike_19 : decode cX12_areAlike 19 = .ok (.invokevirtual 127, 3) := by decide +kernel
theorem dX12_areAlike_22 : decode cX12_areAlike 22 = .ok (.aload_n 0, 1) := by decide +kernel
theorem dX12_areAlike_23 : decode cX12_areAlike 23 = .ok (.aload_n 0, 1) := by decide +kernel
theorem dX12_areAlike_24 : decode cX12_areAlike 24 = .ok (.getfield 15, 3) := by decide +kernel
theorem dX12_areAlike_27 : decode cX12_areAlike 27 = .ok (.iconst 0, 1) := by decide +kernel
theorem dX12_areAlike_28 : decode cX12_areAlike 28 = .ok (.aaload, 1) := by decide +kernel
theorem dX12_areAlike_29 : decode cX12_areAlike 29 = .ok (.aload_n 0, 1) := by decide +kernel
theorem dX12_areAlike_30 : decode cX12_areAlike 30 = .ok (.getfield 15, 3) := by decide +kernel
theorem dX12_areAlike_33 : decode cX12_areAlike 33 = .ok (.iconst 2, 1) := by decide +kernel
theorem dX12_areAlike_34 : decode cX12_areAlike 34 = .ok (.aaload, 1) := by decide +kernel
theorem dX12_areAlike_35 : decode cX12_areAlike 35 = .ok (.invokevirtual 124, 3) := by decide +kernel
theorem dX12_areAlike_38 : decode cX12_areAlike 38 = .ok (.aload_n 0, 1) := by decide +kernel
theorem dX12_areAlike_39 : decode cX12_areAlike 39 = .ok (.aload_n 0, 1) := by decide +kernel
theorem dX12_areAlike_40 : decode cX12_areAlike 40 = .ok (.getfield 15, 3) := by decide +kernel
theorem dX12_areAlike_43 : decode cX12_areAlike 43 = .ok (.iconst 1, 1) := by decide +kernel
theorem dX12_areAlike_44 : decode cX12_areAlike 44 = .ok (.aaload, 1) := by decide +kernel
theorem dX12_areAlike_45 : decode cX12_areAlike 45 = .ok (.aload_n 0, 1) := by decide +kernel
theorem dX12_areAlike_46 : decode cX12_areAlike 46 = .ok (.getfield 15, 3) := by decide +kernel
theorem dX12_areAlike_49 : decode cX12_areAlike 49 = .ok (.iconst 3, 1) := by decide +kernel
theorem dX12_areAlike_50 : decode cX12_areAlike 50 = .ok (.aaload, 1) := by decide +kernel
theorem dX12_areAlike_51 : decode cX12_areAlike 51 = .ok (.invokevirtual 124, 3) := by decide +kernel
theorem dX12_areAlike_54 : decode cX12_areAlike 54 = .ok (.aload_n 0, 1) := by decide +kernel
theorem dX12_areAlike_55 : decode cX12_areAlike 55 = .ok (.getfield 15, 3) := by decide +kernel
theorem dX12_areAlike_58 : decode cX12_areAlike 58 = .ok (.iconst 2, 1) := by decide +kernel
theorem dX12_areAlike_59 : decode cX12_areAlike 59 = .ok (.aaload, 1) := by decide +kernel
theorem dX12_areAlike_60 : decode cX12_areAlike 60 = .ok (.aload_n 0, 1) := by decide +kernel
theorem dX12_areAlike_61 : decode cX12_areAlike 61 = .ok (.getfield 15, 3) := by decide +kernel
theorem dX12_areAlike_64 : decode cX12_areAlike 64 = .ok (.iconst 3, 1) := by decide +kernel
theorem dX12_areAlike_65 : decode cX12_areAlike 65 = .ok (.aaload, 1) := by decide +kernel
theorem dX12_areAlike_66 : decode cX12_areAlike 66 = .ok (.invokestatic 269, 3) := by decide +kernel
theorem dX12_areAlike_69 : decode cX12_areAlike 69 = .ok (.ireturn, 1) := by decide +kernel
theorem dX12_alike_0 : decode cX12_alike 0 = .ok (.aload_n 0, 1) := by decide +kernel
theorem dX12_alike_1 : decode cX12_alike 1 = .ok (.iload_n 1, 1) := by decide +kernel
theorem dX12_alike_2 : decode cX12_alike 2 = .ok (.invokevirtual 266, 3) := by decide +kernel
theorem dX12_alike_5 : decode cX12_alike 5 = .ok (.ifCond .eq 32, 3) := by decide +kernel
theorem dX12_alike_8 : decode cX12_alike 8 = .ok (.aload_n 0, 1) := by decide +kernel
theorem dX12_alike_9 : decode cX12_alike 9 = .ok (.iload_n 2, 1) := by decide +kernel
theorem dX12_alike_10 : decode cX12_alike 10 = .ok (.invokevirtual 266, 3) := by decide +kernel
theorem dX12_alike_13 : decode cX12_alike 13 = .ok (.ifCond .eq 24, 3) := by decide +kernel
theorem dX12_alike_16 : decode cX12_alike 16 = .ok (.aload_n 0, 1) := by decide +kernel
theorem dX12_alike_17 : decode cX12_alike 17 = .ok (.aload_n 0, 1) := by decide +kernel
theorem dX12_alike_18 : decode cX12_alike 18 = .ok (.iload_n 1, 1) := by decide +kernel
theorem dX12_alike_19 : decode cX12_alike 19 = .ok (.iload_n 2, 1) := by decide +kernel
theorem dX12_alike_20 : decode cX12_alike 20 = .ok (.invokevirtual 289, 3) := by decide +kernel
theorem dX12_alike_23 : decode cX12_alike 23 = .ok (.ifCond .eq 7, 3) := by decide +kernel
theorem dX12_alike_26 : decode cX12_alike 26 = .ok (.iconst 1, 1) := by decide +kernel
theorem dX12_alike_27 : decode cX12_alike 27 = .ok (.goto 4, 3) := by decide +kernel
theorem dX12_alike_30 : decode cX12_alike 30 = .ok (.iconst 0, 1) := by decide +kernel
theorem dX12_alike_31 : decode cX12_alike 31 = .ok (.invokevirtual 251, 3) := by decide +kernel
theorem dX12_alike_34 : decode cX12_alike 34 = .ok (.goto 8, 3) := by decide +kernel
theorem dX12_alike_37 : decode cX12_alike 37 = .ok (.aload_n 0, 1) := by decide +kernel
theorem dX12_alike_38 : decode cX12_alike 38 = .ok (.iconst 2, 1) := by decide +kernel
theorem dX12_alike_39 : decode cX12_alike 39 = .ok (.invokevirtual 238, 3) := by decide +kernel
theorem dX12_alike_42 : decode cX12_alike 42 = .ok (.ireturn, 1) := by decide +kernel
theorem dX12_alikes_0 : decode cX12_alikes 0 = .ok (.aload_n 0, 1) := by decide +kernel
theorem dX12_alikes_1 : decode cX12_alikes 1 = .ok (.iload_n 1, 1) := by decide +kernel
theorem dX12_alikes_2 : decode cX12_alikes 2 = .ok (.invokevirtual 266, 3) := by decide +kernel
theorem dX12_alikes_5 : decode cX12_alikes 5 = .ok (.ifCond .ne 9, 3) := by decide +kernel
theorem dX12_alikes_8 : decode cX12_alikes 8 = .ok (.aload_n 0, 1) := by decide +kernel
theorem dX12_alikes_9 : decode cX12_alikes 9 = .ok (.iconst 2, 1) := by decide +kernel
theorem dX12_alikes_10 : decode cX12_alikes 10 = .ok (.invokevirtual 238, 3) := by decide +kernel
theorem dX12_alikes_13 : decode cX12_alikes 13 = .ok (.ireturn, 1) := by decide +kernel
theorem dX12_alikes_14 : decode cX12_alikes 14 = .ok (.iconst 0, 1) := by decide +kernel
theorem dX12_alikes_15 : decode cX12_alikes 15 = .ok (.istore_n 2, 1) := by decide +kernel
theorem dX12_alikes_16 : decode cX12_alikes 16 = .ok (.iconst 0, 1) := by decide +kernel
theorem dX12_alikes_17 : decode cX12_alikes 17 = .ok (.istore_n 3, 1) := by decide +kernel
theorem dX12_alikes_18 : decode cX12_alikes 18 = .ok (.iload_n 3, 1) := by decide +kernel
theorem dX12_alikes_19 : decode cX12_alikes 19 = .ok (.aload_n 0, 1) := by decide +kernel
theorem dX12_alikes_20 : decode cX12_alikes 20 = .ok (.iconst 2, 1) := by decide +kernel
theorem dX12_alikes_21 : decode cX12_alikes 21 = .ok (.invokevirtual 70, 3) := by decide +kernel
theorem dX12_alikes_24 : decode cX12_alikes 24 = .ok (.if_icmp .ge 28, 3) := by decide +kernel
theorem dX12_alikes_27 : decode cX12_alikes 27 = .ok (.iload_n 2, 1) := by decide +kernel
theorem dX12_alikes_28 : decode cX12_alikes 28 = .ok (.aload_n 0, 1) := by decide +kernel
theorem dX12_alikes_29 : decode cX12_alikes 29 = .ok (.iload_n 1, 1) := by decide +kernel
theorem dX12_alikes_30 : decode cX12_alikes 30 = .ok (.iload_n 3, 1) := by decide +kernel
theorem dX12_alikes_31 : decode cX12_alikes 31 = .ok (.invokevirtual 289, 3) := by decide +kernel
theorem dX12_alikes_34 : decode cX12_alikes 34 = .ok (.ifCond .eq 9, 3) := by decide +kernel
theorem dX12_alikes_37 : decode cX12_alikes 37 = .ok (.iconst 1, 1) := by decide +kernel
theorem dX12_alikes_38 : decode cX12_alikes 38 = .ok (.iload_n 3, 1) := by decide +kernel
theorem dX12_alikes_39 : decode cX12_alikes 39 = .ok (.ishl, 1) := by decide +kernel
theorem dX12_alikes_40 : decode cX12_alikes 40 = .ok (.goto 4, 3) := by decide +kernel
theorem dX12_alikes_43 : decode cX12_alikes 43 = .ok (.iconst 0, 1) := by decide +kernel
theorem dX12_alikes_44 : decode cX12_alikes 44 = .ok (.ior, 1) := by decide +kernel
theorem dX12_alikes_45 : decode cX12_alikes 45 = .ok (.istore_n 2, 1) := by decide +kernel
theorem dX12_alikes_46 : decode cX12_alikes 46 = .ok (.iinc 3 1, 3) := by decide +kernel
theorem dX12_alikes_49 : decode cX12_alikes 49 = .ok (.goto (-31), 3) := by decide +kernel
theorem dX12_alikes_52 : decode cX12_alikes 52 = .ok (.aload_n 0, 1) := by decide +kernel
theorem dX12_alikes_53 : decode cX12_alikes 53 = .ok (.iload_n 2, 1) := by decide +kernel
theorem dX12_alikes_54 : decode cX12_alikes 54 = .ok (.invokevirtual 251, 3) := by decide +kernel
theorem dX12_alikes_57 : decode cX12_alikes 57 = .ok (.ireturn, 1) := by decide +kernel
theorem dX12_twin_0 : decode cX12_twin 0 = .ok (.aload_n 0, 1) := by decide +kernel
theorem dX12_twin_1 : decode cX12_twin 1 = .ok (.iload_n 1, 1) := by decide +kernel
theorem dX12_twin_2 : decode cX12_twin 2 = .ok (.invokevirtual 266, 3) := by decide +kernel
theorem dX12_twin_5 : decode cX12_twin 5 = .ok (.ifCond .ne 9, 3) := by decide +kernel
theorem dX12_twin_8 : decode cX12_twin 8 = .ok (.aload_n 0, 1) := by decide +kernel
theorem dX12_twin_9 : decode cX12_twin 9 = .ok (.iconst 2, 1) := by decide +kernel
theorem dX12_twin_10 : decode cX12_twin 10 = .ok (.invokevirtual 238, 3) := by decide +kernel
theorem dX12_twin_13 : decode cX12_twin 13 = .ok (.ireturn, 1) := by decide +kernel
theorem dX12_twin_14 : decode cX12_twin 14 = .ok (.iconst 0, 1) := by decide +kernel
theorem dX12_twin_15 : decode cX12_twin 15 = .ok (.istore_n 2, 1) := by decide +kernel
theorem dX12_twin_16 : decode cX12_twin 16 = .ok (.iload_n 2, 1) := by decide +kernel
theorem dX12_twin_17 : decode cX12_twin 17 = .ok (.aload_n 0, 1) := by decide +kernel
theorem dX12_twin_18 : decode cX12_twin 18 = .ok (.iconst 2, 1) := by decide +kernel
theorem dX12_twin_19 : decode cX12_twin 19 = .ok (.invokevirtual 70, 3) := by decide +kernel
theorem dX12_twin_22 : decode cX12_twin 22 = .ok (.if_icmp .ge 29, 3) := by decide +kernel
theorem dX12_twin_25 : decode cX12_twin 25 = .ok (.iload_n 2, 1) := by decide +kernel
theorem dX12_twin_26 : decode cX12_twin 26 = .ok (.iload_n 1, 1) := by decide +kernel
theorem dX12_twin_27 : decode cX12_twin 27 = .ok (.if_icmp .eq 18, 3) := by decide +kernel
theorem dX12_twin_30 : decode cX12_twin 30 = .ok (.aload_n 0, 1) := by decide +kernel
theorem dX12_twin_31 : decode cX12_twin 31 = .ok (.iload_n 1, 1) := by decide +kernel
theorem dX12_twin_32 : decode cX12_twin 32 = .ok (.iload_n 2, 1) := by decide +kernel
theorem dX12_twin_33 : decode cX12_twin 33 = .ok (.invokevirtual 289, 3) := by decide +kernel
theorem dX12_twin_36 : decode cX12_twin 36 = .ok (.ifCond .eq 9, 3) := by decide +kernel
theorem dX12_twin_39 : decode cX12_twin 39 = .ok (.aload_n 0, 1) := by decide +kernel
theorem dX12_twin_40 : decode cX12_twin 40 = .ok (.iload_n 2, 1) := by decide +kernel
theorem dX12_twin_41 : decode cX12_twin 41 = .ok (.invokevirtual 251, 3) := by decide +kernel
theorem dX12_twin_44 : decode cX12_twin 44 = .ok (.ireturn, 1) := by decide +kernel
theorem dX12_twin_45 : decode cX12_twin 45 = .ok (.iinc 2 1, 3) := by decide +kernel
theorem dX12_twin_48 : decode cX12_twin 48 = .ok (.goto (-32), 3) := by decide +kernel
theorem dX12_twin_51 : decode cX12_twin 51 = .ok (.aload_n 0, 1) := by decide +kernel
theorem dX12_twin_52 : decode cX12_twin 52 = .ok (.iconst 5, 1) := by decide +kernel
theorem dX12_twin_53 : decode cX12_twin 53 = .ok (.invokevirtual 238, 3) := by decide +kernel
theorem dX12_twin_56 : decode cX12_twin 56 = .ok (.ireturn, 1) := by decide +kernel
theorem dX12_steps_0 : decode cX12_steps 0 = .ok (.aload_n 0, 1) := by decide +kernel
theorem dX12_steps_1 : decode cX12_steps 1 = .ok (.iload_n 1, 1) := by decide +kernel
theorem dX12_steps_2 : decode cX12_steps 2 = .ok (.invokevirtual 266, 3) := by decide +kernel
theorem dX12_steps_5 : decode cX12_steps 5 = .ok (.ifCond .ne 9, 3) := by decide +kernel
theorem dX12_steps_8 : decode cX12_steps 8 = .ok (.aload_n 0, 1) := by decide +kernel
theorem dX12_steps_9 : decode cX12_steps 9 = .ok (.iconst 2, 1) := by decide +kernel
theorem dX12_steps_10 : decode cX12_steps 10 = .ok (.invokevirtual 238, 3) := by decide +kernel
theorem dX12_steps_13 : decode cX12_steps 13 = .ok (.ireturn, 1) := by decide +kernel
theorem dX12_steps_14 : decode cX12_steps 14 = .ok (.aload_n 0, 1) := by decide +kernel
theorem dX12_steps_15 : decode cX12_steps 15 = .ok (.iload_n 1, 1) := by decide +kernel
theorem dX12_steps_16 : decode cX12_steps 16 = .ok (.aload_n 0, 1) := by decide +kernel
theorem dX12_steps_17 : decode cX12_steps 17 = .ok (.getfield 15, 3) := by decide +kernel
theorem dX12_steps_20 : decode cX12_steps 20 = .ok (.iconst 0, 1) := by decide +kernel
theorem dX12_steps_21 : decode cX12_steps 21 = .ok (.aaload, 1) := by decide +kernel
theorem dX12_steps_22 : decode cX12_steps 22 = .ok (.invokevirtual 127, 3) := by decide +kernel
theorem dX12_steps_25 : decode cX12_steps 25 = .ok (.aload_n 0, 1) := by decide +kernel
theorem dX12_steps_26 : decode cX12_steps 26 = .ok (.aload_n 0, 1) := by decide +kernel
theorem dX12_steps_27 : decode cX12_steps 27 = .ok (.getfield 15, 3) := by decide +kernel
theorem dX12_steps_30 : decode cX12_steps 30 = .ok (.iconst 0, 1) := by decide +kernel
theorem dX12_steps_31 : decode cX12_steps 31 = .ok (.aaload, 1) := by decide +kernel
theorem dX12_steps_32 : decode cX12_steps 32 = .ok (.aload_n 0, 1) := by decide +kernel
theorem dX12_steps_33 : decode cX12_steps 33 = .ok (.getfield 15, 3) := by decide +kernel
theorem dX12_steps_36 : decode cX12_steps 36 = .ok (.iconst 1, 1) := by decide +kernel
theorem dX12_steps_37 : decode cX12_steps 37 = .ok (.aaload, 1) := by decide +kernel
theorem dX12_steps_38 : decode cX12_steps 38 = .ok (.invokevirtual 124, 3) := by decide +kernel
theorem dX12_steps_41 : decode cX12_steps 41 = .ok (.aload_n 0, 1) := by decide +kernel
theorem dX12_steps_42 : decode cX12_steps 42 = .ok (.aload_n 0, 1) := by decide +kernel
theorem dX12_steps_43 : decode cX12_steps 43 = .ok (.getfield 15, 3) := by decide +kernel
theorem dX12_steps_46 : decode cX12_steps 46 = .ok (.iconst 1, 1) := by decide +kernel
theorem dX12_steps_47 : decode cX12_steps 47 = .ok (.aaload, 1) := by decide +kernel
theorem dX12_steps_48 : decode cX12_steps 48 = .ok (.iconst 1, 1) := by decide +kernel
theorem dX12_steps_49 : decode cX12_steps 49 = .ok (.iaload, 1) := by decide +kernel
theorem dX12_steps_50 : decode cX12_steps 50 = .ok (.invokevirtual 251, 3) := by decide +kernel
theorem dX12_steps_53 : decode cX12_steps 53 = .ok (.ireturn, 1) := by decide +kernel
theorem dX12_length_0 : decode cX12_length 0 = .ok (.aload_n 0, 1) := by decide +kernel
theorem dX12_length_1 : decode cX12_length 1 = .ok (.iload_n 1, 1) := by decide +kernel
theorem dX12_length_2 : decode cX12_length 2 = .ok (.invokevirtual 293, 3) := by decide +kernel
theorem dX12_length_5 : decode cX12_length 5 = .ok (.istore_n 2, 1) := by decide +kernel
theorem dX12_length_6 : decode cX12_length 6 = .ok (.iload_n 2, 1) := by decide +kernel
theorem dX12_length_7 : decode cX12_length 7 = .ok (.ifCond .le 9, 3) := by decide +kernel
theorem dX12_length_10 : decode cX12_length 10 = .ok (.aload_n 0, 1) := by decide +kernel
theorem dX12_length_11 : decode cX12_length 11 = .ok (.iload_n 2, 1) := by decide +kernel
theorem dX12_length_12 : decode cX12_length 12 = .ok (.invokevirtual 238, 3) := by decide +kernel
theorem dX12_length_15 : decode cX12_length 15 = .ok (.ireturn, 1) := by decide +kernel
theorem dX12_length_16 : decode cX12_length 16 = .ok (.aload_n 0, 1) := by decide +kernel
theorem dX12_length_17 : decode cX12_length 17 = .ok (.iload_n 1, 1) := by decide +kernel
theorem dX12_length_18 : decode cX12_length 18 = .ok (.aload_n 0, 1) := by decide +kernel
theorem dX12_length_19 : decode cX12_length 19 = .ok (.getfield 15, 3) := by decide +kernel
theorem dX12_length_22 : decode cX12_length 22 = .ok (.iconst 0, 1) := by decide +kernel
theorem dX12_length_23 : decode cX12_length 23 = .ok (.aaload, 1) := by decide +kernel
theorem dX12_length_24 : decode cX12_length 24 = .ok (.invokevirtual 286, 3) := by decide +kernel
theorem dX12_length_27 : decode cX12_length 27 = .ok (.aload_n 0, 1) := by decide +kernel
theorem dX12_length_28 : decode cX12_length 28 = .ok (.aload_n 0, 1) := by decide +kernel
theorem dX12_length_29 : decode cX12_length 29 = .ok (.getfield 15, 3) := by decide +kernel
theorem dX12_length_32 : decode cX12_length 32 = .ok (.iconst 0, 1) := by decide +kernel
theorem dX12_length_33 : decode cX12_length 33 = .ok (.aaload, 1) := by decide +kernel
theorem dX12_length_34 : decode cX12_length 34 = .ok (.iconst 1, 1) := by decide +kernel
theorem dX12_length_35 : decode cX12_length 35 = .ok (.iaload, 1) := by decide +kernel
theorem dX12_length_36 : decode cX12_length 36 = .ok (.invokevirtual 251, 3) := by decide +kernel
theorem dX12_length_39 : decode cX12_length 39 = .ok (.ireturn, 1) := by decide +kernel
theorem dX12_common_0 : decode cX12_common 0 = .ok (.iload_n 1, 1) := by decide +kernel
theorem dX12_common_1 : decode cX12_common 1 = .ok (.ifCond .ne 7, 3) := by decide +kernel
theorem dX12_common_4 : decode cX12_common 4 = .ok (.iload_n 0, 1) := by decide +kernel
theorem dX12_common_5 : decode cX12_common 5 = .ok (.goto 10, 3) := by decide +kernel
theorem dX12_common_8 : decode cX12_common 8 = .ok (.iload_n 1, 1) := by decide +kernel
theorem dX12_common_9 : decode cX12_common 9 = .ok (.iload_n 0, 1) := by decide +kernel
theorem dX12_common_10 : decode cX12_common 10 = .ok (.iload_n 1, 1) := by decide +kernel
theorem dX12_common_11 : decode cX12_common 11 = .ok (.irem, 1) := by decide +kernel
theorem dX12_common_12 : decode cX12_common 12 = .ok (.invokestatic 296, 3) := by decide +kernel
theorem dX12_common_15 : decode cX12_common 15 = .ok (.ireturn, 1) := by decide +kernel
theorem dX12_orderIn_0 : decode cX12_orderIn 0 = .ok (.aload_n 0, 1) := by decide +kernel
theorem dX12_orderIn_1 : decode cX12_orderIn 1 = .ok (.iload_n 1, 1) := by decide +kernel
theorem dX12_orderIn_2 : decode cX12_orderIn 2 = .ok (.invokevirtual 84, 3) := by decide +kernel
theorem dX12_orderIn_5 : decode cX12_orderIn 5 = .ok (.aload_n 0, 1) := by decide +kernel
theorem dX12_orderIn_6 : decode cX12_orderIn 6 = .ok (.iload_n 1, 1) := by decide +kernel
theorem dX12_orderIn_7 : decode cX12_orderIn 7 = .ok (.invokevirtual 84, 3) := by decide +kernel
theorem dX12_orderIn_10 : decode cX12_orderIn 10 = .ok (.iload_n 2, 1) := by decide +kernel
theorem dX12_orderIn_11 : decode cX12_orderIn 11 = .ok (.invokestatic 296, 3) := by decide +kernel
theorem dX12_orderIn_14 : decode cX12_orderIn 14 = .ok (.idiv, 1) := by decide +kernel
theorem dX12_orderIn_15 : decode cX12_orderIn 15 = .ok (.ireturn, 1) := by decide +kernel
theorem dX12_orderOf_0 : decode cX12_orderOf 0 = .ok (.aload_n 0, 1) := by decide +kernel
theorem dX12_orderOf_1 : decode cX12_orderOf 1 = .ok (.iload_n 1, 1) := by decide +kernel
theorem dX12_orderOf_2 : decode cX12_orderOf 2 = .ok (.invokevirtual 293, 3) := by decide +kernel
theorem dX12_orderOf_5 : decode cX12_orderOf 5 = .ok (.istore_n 2, 1) := by decide +kernel
theorem dX12_orderOf_6 : decode cX12_orderOf 6 = .ok (.iload_n 2, 1) := by decide +kernel
theorem dX12_orderOf_7 : decode cX12_orderOf 7 = .ok (.ifCond .le 9, 3) := by decide +kernel
theorem dX12_orderOf_10 : decode cX12_orderOf 10 = .ok (.aload_n 0, 1) := by decide +kernel
theorem dX12_orderOf_11 : decode cX12_orderOf 11 = .ok (.iload_n 2, 1) := by decide +kernel
theorem dX12_orderOf_12 : decode cX12_orderOf 12 = .ok (.invokevirtual 238, 3) := by decide +kernel
theorem dX12_orderOf_15 : decode cX12_orderOf 15 = .ok (.ireturn, 1) := by decide +kernel
theorem dX12_orderOf_16 : decode cX12_orderOf 16 = .ok (.aload_n 0, 1) := by decide +kernel
theorem dX12_orderOf_17 : decode cX12_orderOf 17 = .ok (.iload_n 1, 1) := by decide +kernel
theorem dX12_orderOf_18 : decode cX12_orderOf 18 = .ok (.aload_n 0, 1) := by decide +kernel
theorem dX12_orderOf_19 : decode cX12_orderOf 19 = .ok (.getfield 15, 3) := by decide +kernel
theorem dX12_orderOf_22 : decode cX12_orderOf 22 = .ok (.iconst 0, 1) := by decide +kernel
theorem dX12_orderOf_23 : decode cX12_orderOf 23 = .ok (.aaload, 1) := by decide +kernel
theorem dX12_orderOf_24 : decode cX12_orderOf 24 = .ok (.invokevirtual 286, 3) := by decide +kernel
theorem dX12_orderOf_27 : decode cX12_orderOf 27 = .ok (.aload_n 0, 1) := by decide +kernel
theorem dX12_orderOf_28 : decode cX12_orderOf 28 = .ok (.aload_n 0, 1) := by decide +kernel
theorem dX12_orderOf_29 : decode cX12_orderOf 29 = .ok (.getfield 15, 3) := by decide +kernel
theorem dX12_orderOf_32 : decode cX12_orderOf 32 = .ok (.iconst 0, 1) := by decide +kernel
theorem dX12_orderOf_33 : decode cX12_orderOf 33 = .ok (.aaload, 1) := by decide +kernel
theorem dX12_orderOf_34 : decode cX12_orderOf 34 = .ok (.iconst 1, 1) := by decide +kernel
theorem dX12_orderOf_35 : decode cX12_orderOf 35 = .ok (.iaload, 1) := by decide +kernel
theorem dX12_orderOf_36 : decode cX12_orderOf 36 = .ok (.ifCond .le 7, 3) := by decide +kernel
theorem dX12_orderOf_39 : decode cX12_orderOf 39 = .ok (.iconst 0, 1) := by decide +kernel
theorem dX12_orderOf_40 : decode cX12_orderOf 40 = .ok (.goto 25, 3) := by decide +kernel
theorem dX12_orderOf_43 : decode cX12_orderOf 43 = .ok (.aload_n 0, 1) := by decide +kernel
theorem dX12_orderOf_44 : decode cX12_orderOf 44 = .ok (.aload_n 0, 1) := by decide +kernel
theorem dX12_orderOf_45 : decode cX12_orderOf 45 = .ok (.getfield 15, 3) := by decide +kernel
theorem dX12_orderOf_48 : decode cX12_orderOf 48 = .ok (.iconst 0, 1) := by decide +kernel
theorem dX12_orderOf_49 : decode cX12_orderOf 49 = .ok (.aaload, 1) := by decide +kernel
theorem dX12_orderOf_50 : decode cX12_orderOf 50 = .ok (.iconst 0, 1) := by decide +kernel
theorem dX12_orderOf_51 : decode cX12_orderOf 51 = .ok (.iaload, 1) := by decide +kernel
theorem dX12_orderOf_52 : decode cX12_orderOf 52 = .ok (.aload_n 0, 1) := by decide +kernel
theorem dX12_orderOf_53 : decode cX12_orderOf 53 = .ok (.getfield 15, 3) := by decide +kernel
theorem dX12_orderOf_56 : decode cX12_orderOf 56 = .ok (.iconst 0, 1) := by decide +kernel
theorem dX12_orderOf_57 : decode cX12_orderOf 57 = .ok (.aaload, 1) := by decide +kernel
theorem dX12_orderOf_58 : decode cX12_orderOf 58 = .ok (.iconst 0, 1) := by decide +kernel
theorem dX12_orderOf_59 : decode cX12_orderOf 59 = .ok (.invokestatic 94, 3) := by decide +kernel
theorem dX12_orderOf_62 : decode cX12_orderOf 62 = .ok (.invokevirtual 299, 3) := by decide +kernel
theorem dX12_orderOf_65 : decode cX12_orderOf 65 = .ok (.invokevirtual 251, 3) := by decide +kernel
theorem dX12_orderOf_68 : decode cX12_orderOf 68 = .ok (.ireturn, 1) := by decide +kernel
theorem dX12_along_0 : decode cX12_along 0 = .ok (.iconst 1, 1) := by decide +kernel
theorem dX12_along_1 : decode cX12_along 1 = .ok (.istore 5, 2) := by decide +kernel
theorem dX12_along_3 : decode cX12_along 3 = .ok (.iconst 0, 1) := by decide +kernel
theorem dX12_along_4 : decode cX12_along 4 = .ok (.istore 6, 2) := by decide +kernel
theorem dX12_along_6 : decode cX12_along 6 = .ok (.iload 6, 2) := by decide +kernel
theorem dX12_along_8 : decode cX12_along 8 = .ok (.aload_n 0, 1) := by decide +kernel
theorem dX12_along_9 : decode cX12_along 9 = .ok (.getfield 47, 3) := by decide +kernel
theorem dX12_along_12 : decode cX12_along 12 = .ok (.arraylength, 1) := by decide +kernel
theorem dX12_along_13 : decode cX12_along 13 = .ok (.if_icmp .ge 17, 3) := by decide +kernel
theorem dX12_along_16 : decode cX12_along 16 = .ok (.aload_n 0, 1) := by decide +kernel
theorem dX12_along_17 : decode cX12_along 17 = .ok (.getfield 47, 3) := by decide +kernel
theorem dX12_along_20 : decode cX12_along 20 = .ok (.iload 6, 2) := by decide +kernel
theorem dX12_along_22 : decode cX12_along 22 = .ok (.iconst 0, 1) := by decide +kernel
theorem dX12_along_23 : decode cX12_along 23 = .ok (.bastore, 1) := by decide +kernel
theorem dX12_along_24 : decode cX12_along 24 = .ok (.iinc 6 1, 3) := by decide +kernel
theorem dX12_along_27 : decode cX12_along 27 = .ok (.goto (-21), 3) := by decide +kernel
theorem dX12_along_30 : decode cX12_along 30 = .ok (.aload_n 0, 1) := by decide +kernel
theorem dX12_along_31 : decode cX12_along 31 = .ok (.getfield 41, 3) := by decide +kernel
theorem dX12_along_34 : decode cX12_along 34 = .ok (.iconst 0, 1) := by decide +kernel
theorem dX12_along_35 : decode cX12_along 35 = .ok (.bipush 60, 2) := by decide +kernel
theorem dX12_along_37 : decode cX12_along 37 = .ok (.iload_n 1, 1) := by decide +kernel
theorem dX12_along_38 : decode cX12_along 38 = .ok (.imul, 1) := by decide +kernel
theorem dX12_along_39 : decode cX12_along 39 = .ok (.iload_n 2, 1) := by decide +kernel
theorem dX12_along_40 : decode cX12_along 40 = .ok (.iadd, 1) := by decide +kernel
theorem dX12_along_41 : decode cX12_along 41 = .ok (.iastore, 1) := by decide +kernel
theorem dX12_along_42 : decode cX12_along 42 = .ok (.aload_n 0, 1) := by decide +kernel
theorem dX12_along_43 : decode cX12_along 43 = .ok (.getfield 44, 3) := by decide +kernel
theorem dX12_along_46 : decode cX12_along 46 = .ok (.iconst 0, 1) := by decide +kernel
theorem dX12_along_47 : decode cX12_along 47 = .ok (.iconst 0, 1) := by decide +kernel
theorem dX12_along_48 : decode cX12_along 48 = .ok (.iastore, 1) := by decide +kernel
theorem dX12_along_49 : decode cX12_along 49 = .ok (.aload_n 0, 1) := by decide +kernel
theorem dX12_along_50 : decode cX12_along 50 = .ok (.getfield 47, 3) := by decide +kernel
theorem dX12_along_53 : decode cX12_along 53 = .ok (.aload_n 0, 1) := by decide +kernel
theorem dX12_along_54 : decode cX12_along 54 = .ok (.getfield 41, 3) := by decide +kernel
theorem dX12_along_57 : decode cX12_along 57 = .ok (.iconst 0, 1) := by decide +kernel
theorem dX12_along_58 : decode cX12_along 58 = .ok (.iaload, 1) := by decide +kernel
theorem dX12_along_59 : decode cX12_along 59 = .ok (.iconst 1, 1) := by decide +kernel
theorem dX12_along_60 : decode cX12_along 60 = .ok (.bastore, 1) := by decide +kernel
theorem dX12_along_61 : decode cX12_along 61 = .ok (.iconst 0, 1) := by decide +kernel
theorem dX12_along_62 : decode cX12_along 62 = .ok (.istore 6, 2) := by decide +kernel
theorem dX12_along_64 : decode cX12_along 64 = .ok (.iload 6, 2) := by decide +kernel
theorem dX12_along_66 : decode cX12_along 66 = .ok (.iload 5, 2) := by decide +kernel
theorem dX12_along_68 : decode cX12_along 68 = .ok (.if_icmp .ge 178, 3) := by decide +kernel
theorem dX12_along_71 : decode cX12_along 71 = .ok (.aload_n 0, 1) := by decide +kernel
theorem dX12_along_72 : decode cX12_along 72 = .ok (.getfield 41, 3) := by decide +kernel
theorem dX12_along_75 : decode cX12_along 75 = .ok (.iload 6, 2) := by decide +kernel
theorem dX12_along_77 : decode cX12_along 77 = .ok (.iaload, 1) := by decide +kernel
theorem dX12_along_78 : decode cX12_along 78 = .ok (.bipush 60, 2) := by decide +kernel
theorem dX12_along_80 : decode cX12_along 80 = .ok (.idiv, 1) := by decide +kernel
theorem dX12_along_81 : decode cX12_along 81 = .ok (.istore 7, 2) := by decide +kernel
theorem dX12_along_83 : decode cX12_along 83 = .ok (.aload_n 0, 1) := by decide +kernel
theorem dX12_along_84 : decode cX12_along 84 = .ok (.getfield 41, 3) := by decide +kernel
theorem dX12_along_87 : decode cX12_along 87 = .ok (.iload 6, 2) := by decide +kernel
theorem dX12_along_89 : decode cX12_along 89 = .ok (.iaload, 1) := by decide +kernel
theorem dX12_along_90 : decode cX12_along 90 = .ok (.bipush 60, 2) := by decide +kernel
theorem dX12_along_92 : decode cX12_along 92 = .ok (.irem, 1) := by decide +kernel
theorem dX12_along_93 : decode cX12_along 93 = .ok (.istore 8, 2) := by decide +kernel
theorem dX12_along_95 : decode cX12_along 95 = .ok (.iload 7, 2) := by decide +kernel
theorem dX12_along_97 : decode cX12_along 97 = .ok (.iload_n 3, 1) := by decide +kernel
theorem dX12_along_98 : decode cX12_along 98 = .ok (.if_icmp .ne 18, 3) := by decide +kernel
theorem dX12_along_101 : decode cX12_along 101 = .ok (.iload 8, 2) := by decide +kernel
theorem dX12_along_103 : decode cX12_along 103 = .ok (.iload 4, 2) := by decide +kernel
theorem dX12_along_105 : decode cX12_along 105 = .ok (.if_icmp .ne 11, 3) := by decide +kernel
theorem dX12_along_108 : decode cX12_along 108 = .ok (.aload_n 0, 1) := by decide +kernel
theorem dX12_along_109 : decode cX12_along 109 = .ok (.getfield 44, 3) := by decide +kernel
theorem dX12_along_112 : decode cX12_along 112 = .ok (.iload 6, 2) := by decide +kernel
theorem dX12_along_114 : decode cX12_along 114 = .ok (.iaload, 1) := by decide +kernel
theorem dX12_along_115 : decode cX12_along 115 = .ok (.ireturn, 1) := by decide +kernel
theorem dX12_along_116 : decode cX12_along 116 = .ok (.iconst 0, 1) := by decide +kernel
theorem dX12_along_117 : decode cX12_along 117 = .ok (.istore 9, 2) := by decide +kernel
theorem dX12_along_119 : decode cX12_along 119 = .ok (.iload 9, 2) := by decide +kernel
theorem dX12_along_121 : decode cX12_along 121 = .ok (.iconst 2, 1) := by decide +kernel
theorem dX12_along_122 : decode cX12_along 122 = .ok (.aload_n 0, 1) := by decide +kernel
theorem dX12_along_123 : decode cX12_along 123 = .ok (.iconst 1, 1) := by decide +kernel
theorem dX12_along_124 : decode cX12_along 124 = .ok (.invokevirtual 70, 3) := by decide +kernel
theorem dX12_along_127 : decode cX12_along 127 = .ok (.imul, 1) := by decide +kernel
theorem dX12_along_128 : decode cX12_along 128 = .ok (.if_icmp .ge 112, 3) := by decide +kernel
theorem dX12_along_131 : decode cX12_along 131 = .ok (.aload_n 0, 1) := by decide +kernel
theorem dX12_along_132 : decode cX12_along 132 = .ok (.iload 9, 2) := by decide +kernel
theorem dX12_along_134 : decode cX12_along 134 = .ok (.invokevirtual 78, 3) := by decide +kernel
theorem dX12_along_137 : decode cX12_along 137 = .ok (.iload 7, 2) := by decide +kernel
theorem dX12_along_139 : decode cX12_along 139 = .ok (.if_icmp .ne 95, 3) := by decide +kernel
theorem dX12_along_142 : decode cX12_along 142 = .ok (.iload 8, 2) := by decide +kernel
theorem dX12_along_144 : decode cX12_along 144 = .ok (.aload_n 0, 1) := by decide +kernel
theorem dX12_along_145 : decode cX12_along 145 = .ok (.iload 9, 2) := by decide +kernel
theorem dX12_along_147 : decode cX12_along 147 = .ok (.invokevirtual 81, 3) := by decide +kernel
theorem dX12_along_150 : decode cX12_along 150 = .ok (.irem, 1) := by decide +kernel
theorem dX12_along_151 : decode cX12_along 151 = .ok (.ifCond .eq 6, 3) := by decide +kernel
theorem dX12_along_154 : decode cX12_along 154 = .ok (.goto 80, 3) := by decide +kernel
theorem dX12_along_157 : decode cX12_along 157 = .ok (.bipush 60, 2) := by decide +kernel
theorem dX12_along_159 : decode cX12_along 159 = .ok (.aload_n 0, 1) := by decide +kernel
theorem dX12_along_160 : decode cX12_along 160 = .ok (.iload 9, 2) := by decide +kernel
theorem dX12_along_162 : decode cX12_along 162 = .ok (.invokevirtual 91, 3) := by decide +kernel
theorem dX12_along_165 : decode cX12_along 165 = .ok (.imul, 1) := by decide +kernel
theorem dX12_along_166 : decode cX12_along 166 = .ok (.iload 8, 2) := by decide +kernel
theorem dX12_along_168 : decode cX12_along 168 = .ok (.aload_n 0, 1) := by decide +kernel
theorem dX12_along_169 : decode cX12_along 169 = .ok (.iload 9, 2) := by decide +kernel
theorem dX12_along_171 : decode cX12_along 171 = .ok (.invokevirtual 81, 3) := by decide +kernel
theorem dX12_along_174 : decode cX12_along 174 = .ok (.idiv, 1) := by decide +kernel
theorem dX12_along_175 : decode cX12_along 175 = .ok (.aload_n 0, 1) := by decide +kernel
theorem dX12_along_176 : decode cX12_along 176 = .ok (.iload 9, 2) := by decide +kernel
theorem dX12_along_178 : decode cX12_along 178 = .ok (.invokevirtual 107, 3) := by decide +kernel
theorem dX12_along_181 : decode cX12_along 181 = .ok (.imul, 1) := by decide +kernel
theorem dX12_along_182 : decode cX12_along 182 = .ok (.iadd, 1) := by decide +kernel
theorem dX12_along_183 : decode cX12_along 183 = .ok (.istore 10, 2) := by decide +kernel
theorem dX12_along_185 : decode cX12_along 185 = .ok (.aload_n 0, 1) := by decide +kernel
theorem dX12_along_186 : decode cX12_along 186 = .ok (.getfield 47, 3) := by decide +kernel
theorem dX12_along_189 : decode cX12_along 189 = .ok (.iload 10, 2) := by decide +kernel
theorem dX12_along_191 : decode cX12_along 191 = .ok (.baload, 1) := by decide +kernel
theorem dX12_along_192 : decode cX12_along 192 = .ok (.ifCond .eq 6, 3) := by decide +kernel
theorem dX12_along_195 : decode cX12_along 195 = .ok (.goto 39, 3) := by decide +kernel
theorem dX12_along_198 : decode cX12_along 198 = .ok (.aload_n 0, 1) := by decide +kernel
theorem dX12_along_199 : decode cX12_along 199 = .ok (.getfield 47, 3) := by decide +kernel
theorem dX12_along_202 : decode cX12_along 202 = .ok (.iload 10, 2) := by decide +kernel
theorem dX12_along_204 : decode cX12_along 204 = .ok (.iconst 1, 1) := by decide +kernel
theorem dX12_along_205 : decode cX12_along 205 = .ok (.bastore, 1) := by decide +kernel
theorem dX12_along_206 : decode cX12_along 206 = .ok (.aload_n 0, 1) := by decide +kernel
theorem dX12_along_207 : decode cX12_along 207 = .ok (.getfield 41, 3) := by decide +kernel
theorem dX12_along_210 : decode cX12_along 210 = .ok (.iload 5, 2) := by decide +kernel
theorem dX12_along_212 : decode cX12_along 212 = .ok (.iload 10, 2) := by decide +kernel
theorem dX12_along_214 : decode cX12_along 214 = .ok (.iastore, 1) := by decide +kernel
theorem dX12_along_215 : decode cX12_along 215 = .ok (.aload_n 0, 1) := by decide +kernel
theorem dX12_along_216 : decode cX12_along 216 = .ok (.getfield 44, 3) := by decide +kernel
theorem dX12_along_219 : decode cX12_along 219 = .ok (.iload 5, 2) := by decide +kernel
theorem dX12_along_221 : decode cX12_along 221 = .ok (.aload_n 0, 1) := by decide +kernel
theorem dX12_along_222 : decode cX12_along 222 = .ok (.getfield 44, 3) := by decide +kernel
theorem dX12_along_225 : decode cX12_along 225 = .ok (.iload 6, 2) := by decide +kernel
theorem dX12_along_227 : decode cX12_along 227 = .ok (.iaload, 1) := by decide +kernel
theorem dX12_along_228 : decode cX12_along 228 = .ok (.iconst 1, 1) := by decide +kernel
theorem dX12_along_229 : decode cX12_along 229 = .ok (.iadd, 1) := by decide +kernel
theorem dX12_along_230 : decode cX12_along 230 = .ok (.iastore, 1) := by decide +kernel
theorem dX12_along_231 : decode cX12_along 231 = .ok (.iinc 5 1, 3) := by decide +kernel
theorem dX12_along_234 : decode cX12_along 234 = .ok (.iinc 9 1, 3) := by decide +kernel
theorem dX12_along_237 : decode cX12_along 237 = .ok (.goto (-118), 3) := by decide +kernel
theorem dX12_along_240 : decode cX12_along 240 = .ok (.iinc 6 1, 3) := by decide +kernel
theorem dX12_along_243 : decode cX12_along 243 = .ok (.goto (-179), 3) := by decide +kernel
theorem dX12_along_246 : decode cX12_along 246 = .ok (.iconst (-1), 1) := by decide +kernel
theorem dX12_along_247 : decode cX12_along 247 = .ok (.ireturn, 1) := by decide +kernel
theorem dX12_begins_0 : decode cX12_begins 0 = .ok (.iload_n 2, 1) := by decide +kernel
theorem dX12_begins_1 : decode cX12_begins 1 = .ok (.ifCond .ne 9, 3) := by decide +kernel
theorem dX12_begins_4 : decode cX12_begins 4 = .ok (.aload_n 1, 1) := by decide +kernel
theorem dX12_begins_5 : decode cX12_begins 5 = .ok (.aload_n 3, 1) := by decide +kernel
theorem dX12_begins_6 : decode cX12_begins 6 = .ok (.invokestatic 113, 3) := by decide +kernel
theorem dX12_begins_9 : decode cX12_begins 9 = .ok (.return_, 1) := by decide +kernel
theorem dX12_begins_10 : decode cX12_begins 10 = .ok (.aload_n 1, 1) := by decide +kernel
theorem dX12_begins_11 : decode cX12_begins 11 = .ok (.iconst 1, 1) := by decide +kernel
theorem dX12_begins_12 : decode cX12_begins 12 = .ok (.iaload, 1) := by decide +kernel
theorem dX12_begins_13 : decode cX12_begins 13 = .ok (.istore 4, 2) := by decide +kernel
theorem dX12_begins_15 : decode cX12_begins 15 = .ok (.aload_n 3, 1) := by decide +kernel
theorem dX12_begins_16 : decode cX12_begins 16 = .ok (.aload_n 0, 1) := by decide +kernel
theorem dX12_begins_17 : decode cX12_begins 17 = .ok (.aload_n 1, 1) := by decide +kernel
theorem dX12_begins_18 : decode cX12_begins 18 = .ok (.iload_n 2, 1) := by decide +kernel
theorem dX12_begins_19 : decode cX12_begins 19 = .ok (.invokestatic 87, 3) := by decide +kernel
theorem dX12_begins_22 : decode cX12_begins 22 = .ok (.invokevirtual 78, 3) := by decide +kernel
theorem dX12_begins_25 : decode cX12_begins 25 = .ok (.aload_n 1, 1) := by decide +kernel
theorem dX12_begins_26 : decode cX12_begins 26 = .ok (.iload_n 2, 1) := by decide +kernel
theorem dX12_begins_27 : decode cX12_begins 27 = .ok (.invokestatic 94, 3) := by decide +kernel
theorem dX12_begins_30 : decode cX12_begins 30 = .ok (.invokestatic 100, 3) := by decide +kernel
theorem dX12_begins_33 : decode cX12_begins 33 = .ok (.iload_n 2, 1) := by decide +kernel
theorem dX12_begins_34 : decode cX12_begins 34 = .ok (.istore 5, 2) := by decide +kernel
theorem dX12_begins_36 : decode cX12_begins 36 = .ok (.iload 5, 2) := by decide +kernel
theorem dX12_begins_38 : decode cX12_begins 38 = .ok (.iload 4, 2) := by decide +kernel
theorem dX12_begins_40 : decode cX12_begins 40 = .ok (.if_icmp .ge 56, 3) := by decide +kernel
theorem dX12_begins_43 : decode cX12_begins 43 = .ok (.aload_n 3, 1) := by decide +kernel
theorem dX12_begins_44 : decode cX12_begins 44 = .ok (.aload_n 1, 1) := by decide +kernel
theorem dX12_begins_45 : decode cX12_begins 45 = .ok (.iload 5, 2) := by decide +kernel
theorem dX12_begins_47 : decode cX12_begins 47 = .ok (.invokestatic 87, 3) := by decide +kernel
theorem dX12_begins_50 : decode cX12_begins 50 = .ok (.iload 5, 2) := by decide +kernel
theorem dX12_begins_52 : decode cX12_begins 52 = .ok (.iconst 1, 1) := by decide +kernel
theorem dX12_begins_53 : decode cX12_begins 53 = .ok (.iadd, 1) := by decide +kernel
theorem dX12_begins_54 : decode cX12_begins 54 = .ok (.iload 4, 2) := by decide +kernel
theorem dX12_begins_56 : decode cX12_begins 56 = .ok (.if_icmp .ge 14, 3) := by decide +kernel
theorem dX12_begins_59 : decode cX12_begins 59 = .ok (.aload_n 1, 1) := by decide +kernel
theorem dX12_begins_60 : decode cX12_begins 60 = .ok (.iload 5, 2) := by decide +kernel
theorem dX12_begins_62 : decode cX12_begins 62 = .ok (.iconst 1, 1) := by decide +kernel
theorem dX12_begins_63 : decode cX12_begins 63 = .ok (.iadd, 1) := by decide +kernel
theorem dX12_begins_64 : decode cX12_begins 64 = .ok (.invokestatic 94, 3) := by decide +kernel
theorem dX12_begins_67 : decode cX12_begins 67 = .ok (.goto 20, 3) := by decide +kernel
theorem dX12_begins_70 : decode cX12_begins 70 = .ok (.aload_n 0, 1) := by decide +kernel
theorem dX12_begins_71 : decode cX12_begins 71 = .ok (.aload_n 1, 1) := by decide +kernel
theorem dX12_begins_72 : decode cX12_begins 72 = .ok (.iconst 0, 1) := by decide +kernel
theorem dX12_begins_73 : decode cX12_begins 73 = .ok (.iaload, 1) := by decide +kernel
theorem dX12_begins_74 : decode cX12_begins 74 = .ok (.aload_n 1, 1) := by decide +kernel
theorem dX12_begins_75 : decode cX12_begins 75 = .ok (.invokestatic 121, 3) := by decide +kernel
theorem dX12_begins_78 : decode cX12_begins 78 = .ok (.aload_n 1, 1) := by decide +kernel
theorem dX12_begins_79 : decode cX12_begins 79 = .ok (.iconst 0, 1) := by decide +kernel
theorem dX12_begins_80 : decode cX12_begins 80 = .ok (.invokestatic 94, 3) := by decide +kernel
theorem dX12_begins_83 : decode cX12_begins 83 = .ok (.iadd, 1) := by decide +kernel
theorem dX12_begins_84 : decode cX12_begins 84 = .ok (.invokevirtual 110, 3) := by decide +kernel
theorem dX12_begins_87 : decode cX12_begins 87 = .ok (.invokestatic 104, 3) := by decide +kernel
theorem dX12_begins_90 : decode cX12_begins 90 = .ok (.iinc 5 1, 3) := by decide +kernel
theorem dX12_begins_93 : decode cX12_begins 93 = .ok (.goto (-57), 3) := by decide +kernel
theorem dX12_begins_96 : decode cX12_begins 96 = .ok (.iconst 0, 1) := by decide +kernel
theorem dX12_begins_97 : decode cX12_begins 97 = .ok (.istore 5, 2) := by decide +kernel
theorem dX12_begins_99 : decode cX12_begins 99 = .ok (.iload 5, 2) := by decide +kernel
theorem dX12_begins_101 : decode cX12_begins 101 = .ok (.iload_n 2, 1) := by decide +kernel
theorem dX12_begins_102 : decode cX12_begins 102 = .ok (.if_icmp .ge 39, 3) := by decide +kernel
theorem dX12_begins_105 : decode cX12_begins 105 = .ok (.aload_n 3, 1) := by decide +kernel
theorem dX12_begins_106 : decode cX12_begins 106 = .ok (.aload_n 1, 1) := by decide +kernel
theorem dX12_begins_107 : decode cX12_begins 107 = .ok (.iload 5, 2) := by decide +kernel
theorem dX12_begins_109 : decode cX12_begins 109 = .ok (.invokestatic 87, 3) := by decide +kernel
theorem dX12_begins_112 : decode cX12_begins 112 = .ok (.iload 5, 2) := by decide +kernel
theorem dX12_begins_114 : decode cX12_begins 114 = .ok (.iconst 1, 1) := by decide +kernel
theorem dX12_begins_115 : decode cX12_begins 115 = .ok (.iadd, 1) := by decide +kernel
theorem dX12_begins_116 : decode cX12_begins 116 = .ok (.iload_n 2, 1) := by decide +kernel
theorem dX12_begins_117 : decode cX12_begins 117 = .ok (.if_icmp .ge 14, 3) := by decide +kernel
theorem dX12_begins_120 : decode cX12_begins 120 = .ok (.aload_n 1, 1) := by decide +kernel
theorem dX12_begins_121 : decode cX12_begins 121 = .ok (.iload 5, 2) := by decide +kernel
theorem dX12_begins_123 : decode cX12_begins 123 = .ok (.iconst 1, 1) := by decide +kernel
theorem dX12_begins_124 : decode cX12_begins 124 = .ok (.iadd, 1) := by decide +kernel
theorem dX12_begins_125 : decode cX12_begins 125 = .ok (.invokestatic 94, 3) := by decide +kernel
theorem dX12_begins_128 : decode cX12_begins 128 = .ok (.goto 4, 3) := by decide +kernel
theorem dX12_begins_131 : decode cX12_begins 131 = .ok (.iconst 0, 1) := by decide +kernel
theorem dX12_begins_132 : decode cX12_begins 132 = .ok (.invokestatic 104, 3) := by decide +kernel
theorem dX12_begins_135 : decode cX12_begins 135 = .ok (.iinc 5 1, 3) := by decide +kernel
theorem dX12_begins_138 : decode cX12_begins 138 = .ok (.goto (-39), 3) := by decide +kernel
theorem dX12_begins_141 : decode cX12_begins 141 = .ok (.return_, 1) := by decide +kernel
theorem dX12_areKin_0 : decode cX12_areKin 0 = .ok (.aload_n 0, 1) := by decide +kernel
theorem dX12_areKin_1 : decode cX12_areKin 1 = .ok (.iload_n 1, 1) := by decide +kernel
theorem dX12_areKin_2 : decode cX12_areKin 2 = .ok (.aload_n 0, 1) := by decide +kernel
theorem dX12_areKin_3 : decode cX12_areKin 3 = .ok (.getfield 15, 3) := by decide +kernel
theorem dX12_areKin_6 : decode cX12_areKin 6 = .ok (.iconst 4, 1) := by decide +kernel
theorem dX12_areKin_7 : decode cX12_areKin 7 = .ok (.aaload, 1) := by decide +kernel
theorem dX12_areKin_8 : decode cX12_areKin 8 = .ok (.invokevirtual 286, 3) := by decide +kernel
theorem dX12_areKin_11 : decode cX12_areKin 11 = .ok (.aload_n 0, 1) := by decide +kernel
theorem dX12_areKin_12 : decode cX12_areKin 12 = .ok (.iload_n 2, 1) := by decide +kernel
theorem dX12_areKin_13 : decode cX12_areKin 13 = .ok (.aload_n 0, 1) := by decide +kernel
theorem dX12_areKin_14 : decode cX12_areKin 14 = .ok (.getfield 15, 3) := by decide +kernel
theorem dX12_areKin_17 : decode cX12_areKin 17 = .ok (.iconst 5, 1) := by decide +kernel
theorem dX12_areKin_18 : decode cX12_areKin 18 = .ok (.aaload, 1) := by decide +kernel
theorem dX12_areKin_19 : decode cX12_areKin 19 = .ok (.invokevirtual 286, 3) := by decide +kernel
theorem dX12_areKin_22 : decode cX12_areKin 22 = .ok (.aload_n 0, 1) := by decide +kernel
theorem dX12_areKin_23 : decode cX12_areKin 23 = .ok (.iconst (-1), 1) := by decide +kernel
theorem dX12_areKin_24 : decode cX12_areKin 24 = .ok (.putfield 302, 3) := by decide +kernel
theorem dX12_areKin_27 : decode cX12_areKin 27 = .ok (.aload_n 0, 1) := by decide +kernel
theorem dX12_areKin_28 : decode cX12_areKin 28 = .ok (.iconst 0, 1) := by decide +kernel
theorem dX12_areKin_29 : decode cX12_areKin 29 = .ok (.putfield 305, 3) := by decide +kernel
theorem dX12_areKin_32 : decode cX12_areKin 32 = .ok (.aload_n 0, 1) := by decide +kernel
theorem dX12_areKin_33 : decode cX12_areKin 33 = .ok (.getfield 15, 3) := by decide +kernel
theorem dX12_areKin_36 : decode cX12_areKin 36 = .ok (.iconst 4, 1) := by decide +kernel
theorem dX12_areKin_37 : decode cX12_areKin 37 = .ok (.aaload, 1) := by decide +kernel
theorem dX12_areKin_38 : decode cX12_areKin 38 = .ok (.iconst 1, 1) := by decide +kernel
theorem dX12_areKin_39 : decode cX12_areKin 39 = .ok (.iaload, 1) := by decide +kernel
theorem dX12_areKin_40 : decode cX12_areKin 40 = .ok (.aload_n 0, 1) := by decide +kernel
theorem dX12_areKin_41 : decode cX12_areKin 41 = .ok (.getfield 15, 3) := by decide +kernel
theorem dX12_areKin_44 : decode cX12_areKin 44 = .ok (.iconst 5, 1) := by decide +kernel
theorem dX12_areKin_45 : decode cX12_areKin 45 = .ok (.aaload, 1) := by decide +kernel
theorem dX12_areKin_46 : decode cX12_areKin 46 = .ok (.iconst 1, 1) := by decide +kernel
theorem dX12_areKin_47 : decode cX12_areKin 47 = .ok (.iaload, 1) := by decide +kernel
theorem dX12_areKin_48 : decode cX12_areKin 48 = .ok (.if_icmp .eq 5, 3) := by decide +kernel
theorem dX12_areKin_51 : decode cX12_areKin 51 = .ok (.iconst 0, 1) := by decide +kernel
theorem dX12_areKin_52 : decode cX12_areKin 52 = .ok (.ireturn, 1) := by decide +kernel
theorem dX12_areKin_53 : decode cX12_areKin 53 = .ok (.aload_n 0, 1) := by decide +kernel
theorem dX12_areKin_54 : decode cX12_areKin 54 = .ok (.getfield 15, 3) := by decide +kernel
theorem dX12_areKin_57 : decode cX12_areKin 57 = .ok (.iconst 4, 1) := by decide +kernel
theorem dX12_areKin_58 : decode cX12_areKin 58 = .ok (.aaload, 1) := by decide +kernel
theorem dX12_areKin_59 : decode cX12_areKin 59 = .ok (.iconst 1, 1) := by decide +kernel
theorem dX12_areKin_60 : decode cX12_areKin 60 = .ok (.iaload, 1) := by decide +kernel
theorem dX12_areKin_61 : decode cX12_areKin 61 = .ok (.ifCond .ne 61, 3) := by decide +kernel
theorem dX12_areKin_64 : decode cX12_areKin 64 = .ok (.aload_n 0, 1) := by decide +kernel
theorem dX12_areKin_65 : decode cX12_areKin 65 = .ok (.aload_n 0, 1) := by decide +kernel
theorem dX12_areKin_66 : decode cX12_areKin 66 = .ok (.aload_n 0, 1) := by decide +kernel
theorem dX12_areKin_67 : decode cX12_areKin 67 = .ok (.getfield 15, 3) := by decide +kernel
theorem dX12_areKin_70 : decode cX12_areKin 70 = .ok (.iconst 4, 1) := by decide +kernel
theorem dX12_areKin_71 : decode cX12_areKin 71 = .ok (.aaload, 1) := by decide +kernel
theorem dX12_areKin_72 : decode cX12_areKin 72 = .ok (.iconst 0, 1) := by decide +kernel
theorem dX12_areKin_73 : decode cX12_areKin 73 = .ok (.iaload, 1) := by decide +kernel
theorem dX12_areKin_74 : decode cX12_areKin 74 = .ok (.aload_n 0, 1) := by decide +kernel
theorem dX12_areKin_75 : decode cX12_areKin 75 = .ok (.getfield 15, 3) := by decide +kernel
theorem dX12_areKin_78 : decode cX12_areKin 78 = .ok (.iconst 4, 1) := by decide +kernel
theorem dX12_areKin_79 : decode cX12_areKin 79 = .ok (.aaload, 1) := by decide +kernel
theorem dX12_areKin_80 : decode cX12_areKin 80 = .ok (.iconst 0, 1) := by decide +kernel
theorem dX12_areKin_81 : decode cX12_areKin 81 = .ok (.invokestatic 94, 3) := by decide +kernel
theorem dX12_areKin_84 : decode cX12_areKin 84 = .ok (.aload_n 0, 1) := by decide +kernel
theorem dX12_areKin_85 : decode cX12_areKin 85 = .ok (.getfield 15, 3) := by decide +kernel
theorem dX12_areKin_88 : decode cX12_areKin 88 = .ok (.iconst 5, 1) := by decide +kernel
theorem dX12_areKin_89 : decode cX12_areKin 89 = .ok (.aaload, 1) := by decide +kernel
theorem dX12_areKin_90 : decode cX12_areKin 90 = .ok (.iconst 0, 1) := by decide +kernel
theorem dX12_areKin_91 : decode cX12_areKin 91 = .ok (.iaload, 1) := by decide +kernel
theorem dX12_areKin_92 : decode cX12_areKin 92 = .ok (.aload_n 0, 1) := by decide +kernel
theorem dX12_areKin_93 : decode cX12_areKin 93 = .ok (.getfield 15, 3) := by decide +kernel
theorem dX12_areKin_96 : decode cX12_areKin 96 = .ok (.iconst 5, 1) := by decide +kernel
theorem dX12_areKin_97 : decode cX12_areKin 97 = .ok (.aaload, 1) := by decide +kernel
theorem dX12_areKin_98 : decode cX12_areKin 98 = .ok (.iconst 0, 1) := by decide +kernel
theorem dX12_areKin_99 : decode cX12_areKin 99 = .ok (.invokestatic 94, 3) := by decide +kernel
theorem dX12_areKin_102 : decode cX12_areKin 102 = .ok (.invokevirtual 308, 3) := by decide +kernel
theorem dX12_areKin_105 : decode cX12_areKin 105 = .ok (.putfield 302, 3) := by decide +kernel
theorem dX12_areKin_108 : decode cX12_areKin 108 = .ok (.aload_n 0, 1) := by decide +kernel
theorem dX12_areKin_109 : decode cX12_areKin 109 = .ok (.getfield 302, 3) := by decide +kernel
theorem dX12_areKin_112 : decode cX12_areKin 112 = .ok (.iconst (-1), 1) := by decide +kernel
theorem dX12_areKin_113 : decode cX12_areKin 113 = .ok (.if_icmp .eq 7, 3) := by decide +kernel
theorem dX12_areKin_116 : decode cX12_areKin 116 = .ok (.iconst 1, 1) := by decide +kernel
theorem dX12_areKin_117 : decode cX12_areKin 117 = .ok (.goto 4, 3) := by decide +kernel
theorem dX12_areKin_120 : decode cX12_areKin 120 = .ok (.iconst 0, 1) := by decide +kernel
theorem dX12_areKin_121 : decode cX12_areKin 121 = .ok (.ireturn, 1) := by decide +kernel
theorem dX12_areKin_122 : decode cX12_areKin 122 = .ok (.iconst 0, 1) := by decide +kernel
theorem dX12_areKin_123 : decode cX12_areKin 123 = .ok (.istore_n 3, 1) := by decide +kernel
theorem dX12_areKin_124 : decode cX12_areKin 124 = .ok (.iload_n 3, 1) := by decide +kernel
theorem dX12_areKin_125 : decode cX12_areKin 125 = .ok (.aload_n 0, 1) := by decide +kernel
theorem dX12_areKin_126 : decode cX12_areKin 126 = .ok (.getfield 15, 3) := by decide +kernel
theorem dX12_areKin_129 : decode cX12_areKin 129 = .ok (.iconst 4, 1) := by decide +kernel
theorem dX12_areKin_130 : decode cX12_areKin 130 = .ok (.aaload, 1) := by decide +kernel
theorem dX12_areKin_131 : decode cX12_areKin 131 = .ok (.iconst 1, 1) := by decide +kernel
theorem dX12_areKin_132 : decode cX12_areKin 132 = .ok (.iaload, 1) := by decide +kernel
theorem dX12_areKin_133 : decode cX12_areKin 133 = .ok (.if_icmp .ge 230, 3) := by decide +kernel
theorem dX12_areKin_136 : decode cX12_areKin 136 = .ok (.aload_n 0, 1) := by decide +kernel
theorem dX12_areKin_137 : decode cX12_areKin 137 = .ok (.aload_n 0, 1) := by decide +kernel
theorem dX12_areKin_138 : decode cX12_areKin 138 = .ok (.getfield 15, 3) := by decide +kernel
theorem dX12_areKin_141 : decode cX12_areKin 141 = .ok (.iconst 4, 1) := by decide +kernel
theorem dX12_areKin_142 : decode cX12_areKin 142 = .ok (.aaload, 1) := by decide +kernel
theorem dX12_areKin_143 : decode cX12_areKin 143 = .ok (.iload_n 3, 1) := by decide +kernel
theorem dX12_areKin_144 : decode cX12_areKin 144 = .ok (.aload_n 0, 1) := by decide +kernel
theorem dX12_areKin_145 : decode cX12_areKin 145 = .ok (.getfield 15, 3) := by decide +kernel
theorem dX12_areKin_148 : decode cX12_areKin 148 = .ok (.bipush 6, 2) := by decide +kernel
theorem dX12_areKin_150 : decode cX12_areKin 150 = .ok (.aaload, 1) := by decide +kernel
theorem dX12_areKin_151 : decode cX12_areKin 151 = .ok (.invokevirtual 312, 3) := by decide +kernel
theorem dX12_areKin_154 : decode cX12_areKin 154 = .ok (.aload_n 0, 1) := by decide +kernel
theorem dX12_areKin_155 : decode cX12_areKin 155 = .ok (.getfield 15, 3) := by decide +kernel
theorem dX12_areKin_158 : decode cX12_areKin 158 = .ok (.bipush 6, 2) := by decide +kernel
theorem dX12_areKin_160 : decode cX12_areKin 160 = .ok (.aaload, 1) := by decide +kernel
theorem dX12_areKin_161 : decode cX12_areKin 161 = .ok (.iconst 0, 1) := by decide +kernel
theorem dX12_areKin_162 : decode cX12_areKin 162 = .ok (.iaload, 1) := by decide +kernel
theorem dX12_areKin_163 : decode cX12_areKin 163 = .ok (.aload_n 0, 1) := by decide +kernel
theorem dX12_areKin_164 : decode cX12_areKin 164 = .ok (.getfield 15, 3) := by decide +kernel
theorem dX12_areKin_167 : decode cX12_areKin 167 = .ok (.iconst 5, 1) := by decide +kernel
theorem dX12_areKin_168 : decode cX12_areKin 168 = .ok (.aaload, 1) := by decide +kernel
theorem dX12_areKin_169 : decode cX12_areKin 169 = .ok (.iconst 0, 1) := by decide +kernel
theorem dX12_areKin_170 : decode cX12_areKin 170 = .ok (.iaload, 1) := by decide +kernel
theorem dX12_areKin_171 : decode cX12_areKin 171 = .ok (.if_icmp .eq 6, 3) := by decide +kernel
theorem dX12_areKin_174 : decode cX12_areKin 174 = .ok (.goto 183, 3) := by decide +kernel
theorem dX12_areKin_177 : decode cX12_areKin 177 = .ok (.iconst 0, 1) := by decide +kernel
theorem dX12_areKin_178 : decode cX12_areKin 178 = .ok (.istore 4, 2) := by decide +kernel
theorem dX12_areKin_180 : decode cX12_areKin 180 = .ok (.iload 4, 2) := by decide +kernel
theorem dX12_areKin_182 : decode cX12_areKin 182 = .ok (.aload_n 0, 1) := by decide +kernel
theorem dX12_areKin_183 : decode cX12_areKin 183 = .ok (.aload_n 0, 1) := by decide +kernel
theorem dX12_areKin_184 : decode cX12_areKin 184 = .ok (.getfield 15, 3) := by decide +kernel
theorem dX12_areKin_187 : decode cX12_areKin 187 = .ok (.bipush 6, 2) := by decide +kernel
theorem dX12_areKin_189 : decode cX12_areKin 189 = .ok (.aaload, 1) := by decide +kernel
theorem dX12_areKin_190 : decode cX12_areKin 190 = .ok (.iconst 0, 1) := by decide +kernel
theorem dX12_areKin_191 : decode cX12_areKin 191 = .ok (.iaload, 1) := by decide +kernel
theorem dX12_areKin_192 : decode cX12_areKin 192 = .ok (.invokevirtual 84, 3) := by decide +kernel
theorem dX12_areKin_195 : decode cX12_areKin 195 = .ok (.if_icmp .ge 162, 3) := by decide +kernel
theorem dX12_areKin_198 : decode cX12_areKin 198 = .ok (.aload_n 0, 1) := by decide +kernel
theorem dX12_areKin_199 : decode cX12_areKin 199 = .ok (.getfield 15, 3) := by decide +kernel
theorem dX12_areKin_202 : decode cX12_areKin 202 = .ok (.bipush 6, 2) := by decide +kernel
theorem dX12_areKin_204 : decode cX12_areKin 204 = .ok (.aaload, 1) := by decide +kernel
theorem dX12_areKin_205 : decode cX12_areKin 205 = .ok (.aload_n 0, 1) := by decide +kernel
theorem dX12_areKin_206 : decode cX12_areKin 206 = .ok (.getfield 15, 3) := by decide +kernel
theorem dX12_areKin_209 : decode cX12_areKin 209 = .ok (.bipush 7, 2) := by decide +kernel
theorem dX12_areKin_211 : decode cX12_areKin 211 = .ok (.aaload, 1) := by decide +kernel
theorem dX12_areKin_212 : decode cX12_areKin 212 = .ok (.invokestatic 113, 3) := by decide +kernel
theorem dX12_areKin_215 : decode cX12_areKin 215 = .ok (.aload_n 0, 1) := by decide +kernel
theorem dX12_areKin_216 : decode cX12_areKin 216 = .ok (.getfield 15, 3) := by decide +kernel
theorem dX12_areKin_219 : decode cX12_areKin 219 = .ok (.bipush 7, 2) := by decide +kernel
theorem dX12_areKin_221 : decode cX12_areKin 221 = .ok (.aaload, 1) := by decide +kernel
theorem dX12_areKin_222 : decode cX12_areKin 222 = .ok (.iconst 2, 1) := by decide +kernel
theorem dX12_areKin_223 : decode cX12_areKin 223 = .ok (.aload_n 0, 1) := by decide +kernel
theorem dX12_areKin_224 : decode cX12_areKin 224 = .ok (.aload_n 0, 1) := by decide +kernel
theorem dX12_areKin_225 : decode cX12_areKin 225 = .ok (.getfield 15, 3) := by decide +kernel
theorem dX12_areKin_228 : decode cX12_areKin 228 = .ok (.bipush 6, 2) := by decide +kernel
theorem dX12_areKin_230 : decode cX12_areKin 230 = .ok (.aaload, 1) := by decide +kernel
theorem dX12_areKin_231 : decode cX12_areKin 231 = .ok (.iconst 0, 1) := by decide +kernel
theorem dX12_areKin_232 : decode cX12_areKin 232 = .ok (.iaload, 1) := by decide +kernel
theorem dX12_areKin_233 : decode cX12_areKin 233 = .ok (.aload_n 0, 1) := by decide +kernel
theorem dX12_areKin_234 : decode cX12_areKin 234 = .ok (.getfield 15, 3) := by decide +kernel
theorem dX12_areKin_237 : decode cX12_areKin 237 = .ok (.bipush 6, 2) := by decide +kernel
theorem dX12_areKin_239 : decode cX12_areKin 239 = .ok (.aaload, 1) := by decide +kernel
theorem dX12_areKin_240 : decode cX12_areKin 240 = .ok (.iconst 0, 1) := by decide +kernel
theorem dX12_areKin_241 : decode cX12_areKin 241 = .ok (.invokestatic 94, 3) := by decide +kernel
theorem dX12_areKin_244 : decode cX12_areKin 244 = .ok (.iload 4, 2) := by decide +kernel
theorem dX12_areKin_246 : decode cX12_areKin 246 = .ok (.isub, 1) := by decide +kernel
theorem dX12_areKin_247 : decode cX12_areKin 247 = .ok (.invokevirtual 110, 3) := by decide +kernel
theorem dX12_areKin_250 : decode cX12_areKin 250 = .ok (.iastore, 1) := by decide +kernel
theorem dX12_areKin_251 : decode cX12_areKin 251 = .ok (.aload_n 0, 1) := by decide +kernel
theorem dX12_areKin_252 : decode cX12_areKin 252 = .ok (.getfield 15, 3) := by decide +kernel
theorem dX12_areKin_255 : decode cX12_areKin 255 = .ok (.bipush 7, 2) := by decide +kernel
theorem dX12_areKin_257 : decode cX12_areKin 257 = .ok (.aaload, 1) := by decide +kernel
theorem dX12_areKin_258 : decode cX12_areKin 258 = .ok (.iconst 2, 1) := by decide +kernel
theorem dX12_areKin_259 : decode cX12_areKin 259 = .ok (.iconst 2, 1) := by decide +kernel
theorem dX12_areKin_260 : decode cX12_areKin 260 = .ok (.aload_n 0, 1) := by decide +kernel
theorem dX12_areKin_261 : decode cX12_areKin 261 = .ok (.getfield 15, 3) := by decide +kernel
theorem dX12_areKin_264 : decode cX12_areKin 264 = .ok (.bipush 6, 2) := by decide +kernel
theorem dX12_areKin_266 : decode cX12_areKin 266 = .ok (.aaload, 1) := by decide +kernel
theorem dX12_areKin_267 : decode cX12_areKin 267 = .ok (.iconst 1, 1) := by decide +kernel
theorem dX12_areKin_268 : decode cX12_areKin 268 = .ok (.iaload, 1) := by decide +kernel
theorem dX12_areKin_269 : decode cX12_areKin 269 = .ok (.imul, 1) := by decide +kernel
theorem dX12_areKin_270 : decode cX12_areKin 270 = .ok (.iadd, 1) := by decide +kernel
theorem dX12_areKin_271 : decode cX12_areKin 271 = .ok (.aload_n 0, 1) := by decide +kernel
theorem dX12_areKin_272 : decode cX12_areKin 272 = .ok (.aload_n 0, 1) := by decide +kernel
theorem dX12_areKin_273 : decode cX12_areKin 273 = .ok (.getfield 15, 3) := by decide +kernel
theorem dX12_areKin_276 : decode cX12_areKin 276 = .ok (.bipush 6, 2) := by decide +kernel
theorem dX12_areKin_278 : decode cX12_areKin 278 = .ok (.aaload, 1) := by decide +kernel
theorem dX12_areKin_279 : decode cX12_areKin 279 = .ok (.iconst 0, 1) := by decide +kernel
theorem dX12_areKin_280 : decode cX12_areKin 280 = .ok (.iaload, 1) := by decide +kernel
theorem dX12_areKin_281 : decode cX12_areKin 281 = .ok (.aload_n 0, 1) := by decide +kernel
theorem dX12_areKin_282 : decode cX12_areKin 282 = .ok (.getfield 15, 3) := by decide +kernel
theorem dX12_areKin_285 : decode cX12_areKin 285 = .ok (.bipush 6, 2) := by decide +kernel
theorem dX12_areKin_287 : decode cX12_areKin 287 = .ok (.aaload, 1) := by decide +kernel
theorem dX12_areKin_288 : decode cX12_areKin 288 = .ok (.invokestatic 121, 3) := by decide +kernel
theorem dX12_areKin_291 : decode cX12_areKin 291 = .ok (.iload 4, 2) := by decide +kernel
theorem dX12_areKin_293 : decode cX12_areKin 293 = .ok (.iadd, 1) := by decide +kernel
theorem dX12_areKin_294 : decode cX12_areKin 294 = .ok (.invokevirtual 110, 3) := by decide +kernel
theorem dX12_areKin_297 : decode cX12_areKin 297 = .ok (.iastore, 1) := by decide +kernel
theorem dX12_areKin_298 : decode cX12_areKin 298 = .ok (.aload_n 0, 1) := by decide +kernel
theorem dX12_areKin_299 : decode cX12_areKin 299 = .ok (.aload_n 0, 1) := by decide +kernel
theorem dX12_areKin_300 : decode cX12_areKin 300 = .ok (.getfield 15, 3) := by decide +kernel
theorem dX12_areKin_303 : decode cX12_areKin 303 = .ok (.bipush 7, 2) := by decide +kernel
theorem dX12_areKin_305 : decode cX12_areKin 305 = .ok (.aaload, 1) := by decide +kernel
theorem dX12_areKin_306 : decode cX12_areKin 306 = .ok (.aload_n 0, 1) := by decide +kernel
theorem dX12_areKin_307 : decode cX12_areKin 307 = .ok (.getfield 15, 3) := by decide +kernel
theorem dX12_areKin_310 : decode cX12_areKin 310 = .ok (.bipush 8, 2) := by decide +kernel
theorem dX12_areKin_312 : decode cX12_areKin 312 = .ok (.aaload, 1) := by decide +kernel
theorem dX12_areKin_313 : decode cX12_areKin 313 = .ok (.invokevirtual 124, 3) := by decide +kernel
theorem dX12_areKin_316 : decode cX12_areKin 316 = .ok (.aload_n 0, 1) := by decide +kernel
theorem dX12_areKin_317 : decode cX12_areKin 317 = .ok (.getfield 15, 3) := by decide +kernel
theorem dX12_areKin_320 : decode cX12_areKin 320 = .ok (.bipush 8, 2) := by decide +kernel
theorem dX12_areKin_322 : decode cX12_areKin 322 = .ok (.aaload, 1) := by decide +kernel
theorem dX12_areKin_323 : decode cX12_areKin 323 = .ok (.aload_n 0, 1) := by decide +kernel
theorem dX12_areKin_324 : decode cX12_areKin 324 = .ok (.getfield 15, 3) := by decide +kernel
theorem dX12_areKin_327 : decode cX12_areKin 327 = .ok (.iconst 5, 1) := by decide +kernel
theorem dX12_areKin_328 : decode cX12_areKin 328 = .ok (.aaload, 1) := by decide +kernel
theorem dX12_areKin_329 : decode cX12_areKin 329 = .ok (.invokestatic 269, 3) := by decide +kernel
theorem dX12_areKin_332 : decode cX12_areKin 332 = .ok (.ifCond .ne 6, 3) := by decide +kernel
theorem dX12_areKin_335 : decode cX12_areKin 335 = .ok (.goto 16, 3) := by decide +kernel
theorem dX12_areKin_338 : decode cX12_areKin 338 = .ok (.aload_n 0, 1) := by decide +kernel
theorem dX12_areKin_339 : decode cX12_areKin 339 = .ok (.iload_n 3, 1) := by decide +kernel
theorem dX12_areKin_340 : decode cX12_areKin 340 = .ok (.putfield 302, 3) := by decide +kernel
theorem dX12_areKin_343 : decode cX12_areKin 343 = .ok (.aload_n 0, 1) := by decide +kernel
theorem dX12_areKin_344 : decode cX12_areKin 344 = .ok (.iload 4, 2) := by decide +kernel
theorem dX12_areKin_346 : decode cX12_areKin 346 = .ok (.putfield 305, 3) := by decide +kernel
theorem dX12_areKin_349 : decode cX12_areKin 349 = .ok (.iconst 1, 1) := by decide +kernel
theorem dX12_areKin_350 : decode cX12_areKin 350 = .ok (.ireturn, 1) := by decide +kernel
theorem dX12_areKin_351 : decode cX12_areKin 351 = .ok (.iinc 4 1, 3) := by decide +kernel
theorem dX12_areKin_354 : decode cX12_areKin 354 = .ok (.goto (-174), 3) := by decide +kernel
theorem dX12_areKin_357 : decode cX12_areKin 357 = .ok (.iinc 3 1, 3) := by decide +kernel
theorem dX12_areKin_360 : decode cX12_areKin 360 = .ok (.goto (-236), 3) := by decide +kernel
theorem dX12_areKin_363 : decode cX12_areKin 363 = .ok (.iconst 0, 1) := by decide +kernel
theorem dX12_areKin_364 : decode cX12_areKin 364 = .ok (.ireturn, 1) := by decide +kernel
theorem dX12_wrongLoops_0 : decode cX12_wrongLoops 0 = .ok (.aload_n 0, 1) := by decide +kernel
theorem dX12_wrongLoops_1 : decode cX12_wrongLoops 1 = .ok (.iload_n 1, 1) := by decide +kernel
theorem dX12_wrongLoops_2 : decode cX12_wrongLoops 2 = .ok (.invokevirtual 266, 3) := by decide +kernel
theorem dX12_wrongLoops_5 : decode cX12_wrongLoops 5 = .ok (.ifCond .eq 11, 3) := by decide +kernel
theorem dX12_wrongLoops_8 : decode cX12_wrongLoops 8 = .ok (.aload_n 0, 1) := by decide +kernel
theorem dX12_wrongLoops_9 : decode cX12_wrongLoops 9 = .ok (.iload_n 2, 1) := by decide +kernel
theorem dX12_wrongLoops_10 : decode cX12_wrongLoops 10 = .ok (.invokevirtual 266, 3) := by decide +kernel
theorem dX12_wrongLoops_13 : decode cX12_wrongLoops 13 = .ok (.ifCond .ne 7, 3) := by decide +kernel
theorem dX12_wrongLoops_16 : decode cX12_wrongLoops 16 = .ok (.iconst 2, 1) := by decide +kernel
theorem dX12_wrongLoops_17 : decode cX12_wrongLoops 17 = .ok (.goto 8, 3) := by decide +kernel
theorem dX12_wrongLoops_20 : decode cX12_wrongLoops 20 = .ok (.aload_n 0, 1) := by decide +kernel
theorem dX12_wrongLoops_21 : decode cX12_wrongLoops 21 = .ok (.iload_n 1, 1) := by decide +kernel
theorem dX12_wrongLoops_22 : decode cX12_wrongLoops 22 = .ok (.invokevirtual 293, 3) := by decide +kernel
theorem dX12_wrongLoops_25 : decode cX12_wrongLoops 25 = .ok (.istore_n 3, 1) := by decide +kernel
theorem dX12_wrongLoops_26 : decode cX12_wrongLoops 26 = .ok (.iload_n 3, 1) := by decide +kernel
theorem dX12_wrongLoops_27 : decode cX12_wrongLoops 27 = .ok (.ifCond .le 7, 3) := by decide +kernel
theorem dX12_wrongLoops_30 : decode cX12_wrongLoops 30 = .ok (.iload_n 3, 1) := by decide +kernel
theorem dX12_wrongLoops_31 : decode cX12_wrongLoops 31 = .ok (.goto 8, 3) := by decide +kernel
theorem dX12_wrongLoops_34 : decode cX12_wrongLoops 34 = .ok (.aload_n 0, 1) := by decide +kernel
theorem dX12_wrongLoops_35 : decode cX12_wrongLoops 35 = .ok (.iload_n 2, 1) := by decide +kernel
theorem dX12_wrongLoops_36 : decode cX12_wrongLoops 36 = .ok (.invokevirtual 293, 3) := by decide +kernel
theorem dX12_wrongLoops_39 : decode cX12_wrongLoops 39 = .ok (.ireturn, 1) := by decide +kernel
theorem dX12_kin_0 : decode cX12_kin 0 = .ok (.aload_n 0, 1) := by decide +kernel
theorem dX12_kin_1 : decode cX12_kin 1 = .ok (.iload_n 1, 1) := by decide +kernel
theorem dX12_kin_2 : decode cX12_kin 2 = .ok (.iload_n 2, 1) := by decide +kernel
theorem dX12_kin_3 : decode cX12_kin 3 = .ok (.invokevirtual 316, 3) := by decide +kernel
theorem dX12_kin_6 : decode cX12_kin 6 = .ok (.istore_n 3, 1) := by decide +kernel
theorem dX12_kin_7 : decode cX12_kin 7 = .ok (.iload_n 3, 1) := by decide +kernel
theorem dX12_kin_8 : decode cX12_kin 8 = .ok (.ifCond .le 11, 3) := by decide +kernel
theorem dX12_kin_11 : decode cX12_kin 11 = .ok (.aload_n 0, 1) := by decide +kernel
theorem dX12_kin_12 : decode cX12_kin 12 = .ok (.iload_n 3, 1) := by decide +kernel
theorem dX12_kin_13 : decode cX12_kin 13 = .ok (.invokevirtual 238, 3) := by decide +kernel
theorem dX12_kin_16 : decode cX12_kin 16 = .ok (.goto 21, 3) := by decide +kernel
theorem dX12_kin_19 : decode cX12_kin 19 = .ok (.aload_n 0, 1) := by decide +kernel
theorem dX12_kin_20 : decode cX12_kin 20 = .ok (.aload_n 0, 1) := by decide +kernel
theorem dX12_kin_21 : decode cX12_kin 21 = .ok (.iload_n 1, 1) := by decide +kernel
theorem dX12_kin_22 : decode cX12_kin 22 = .ok (.iload_n 2, 1) := by decide +kernel
theorem dX12_kin_23 : decode cX12_kin 23 = .ok (.invokevirtual 319, 3) := by decide +kernel
theorem dX12_kin_26 : decode cX12_kin 26 = .ok (.ifCond .eq 7, 3) := by decide +kernel
theorem dX12_kin_29 : decode cX12_kin 29 = .ok (.iconst 1, 1) := by decide +kernel
theorem dX12_kin_30 : decode cX12_kin 30 = .ok (.goto 4, 3) := by decide +kernel
theorem dX12_kin_33 : decode cX12_kin 33 = .ok (.iconst 0, 1) := by decide +kernel
theorem dX12_kin_34 : decode cX12_kin 34 = .ok (.invokevirtual 251, 3) := by decide +kernel
theorem dX12_kin_37 : decode cX12_kin 37 = .ok (.ireturn, 1) := by decide +kernel
theorem dX12_kinBy_0 : decode cX12_kinBy 0 = .ok (.iload_n 3, 1) := by decide +kernel
theorem dX12_kinBy_1 : decode cX12_kinBy 1 = .ok (.iconst 0, 1) := by decide +kernel
theorem dX12_kinBy_2 : decode cX12_kinBy 2 = .ok (.iconst 1, 1) := by decide +kernel
theorem dX12_kinBy_3 : decode cX12_kinBy 3 = .ok (.invokestatic 200, 3) := by decide +kernel
theorem dX12_kinBy_6 : decode cX12_kinBy 6 = .ok (.ifCond .eq 12, 3) := by decide +kernel
theorem dX12_kinBy_9 : decode cX12_kinBy 9 = .ok (.aload_n 0, 1) := by decide +kernel
theorem dX12_kinBy_10 : decode cX12_kinBy 10 = .ok (.iload_n 1, 1) := by decide +kernel
theorem dX12_kinBy_11 : decode cX12_kinBy 11 = .ok (.iload_n 2, 1) := by decide +kernel
theorem dX12_kinBy_12 : decode cX12_kinBy 12 = .ok (.invokevirtual 316, 3) := by decide +kernel
theorem dX12_kinBy_15 : decode cX12_kinBy 15 = .ok (.goto 4, 3) := by decide +kernel
theorem dX12_kinBy_18 : decode cX12_kinBy 18 = .ok (.iconst 1, 1) := by decide +kernel
theorem dX12_kinBy_19 : decode cX12_kinBy 19 = .ok (.istore 4, 2) := by decide +kernel
theorem dX12_kinBy_21 : decode cX12_kinBy 21 = .ok (.iload 4, 2) := by decide +kernel
theorem dX12_kinBy_23 : decode cX12_kinBy 23 = .ok (.ifCond .ne 15, 3) := by decide +kernel
theorem dX12_kinBy_26 : decode cX12_kinBy 26 = .ok (.aload_n 0, 1) := by decide +kernel
theorem dX12_kinBy_27 : decode cX12_kinBy 27 = .ok (.iload_n 1, 1) := by decide +kernel
theorem dX12_kinBy_28 : decode cX12_kinBy 28 = .ok (.iload_n 2, 1) := by decide +kernel
theorem dX12_kinBy_29 : decode cX12_kinBy 29 = .ok (.invokevirtual 319, 3) := by decide +kernel
theorem dX12_kinBy_32 : decode cX12_kinBy 32 = .ok (.ifCond .ne 6, 3) := by decide +kernel
theorem dX12_kinBy_35 : decode cX12_kinBy 35 = .ok (.iconst 5, 1) := by decide +kernel
theorem dX12_kinBy_36 : decode cX12_kinBy 36 = .ok (.istore 4, 2) := by decide +kernel
theorem dX12_kinBy_38 : decode cX12_kinBy 38 = .ok (.iload 4, 2) := by decide +kernel
theorem dX12_kinBy_40 : decode cX12_kinBy 40 = .ok (.ifCond .le 12, 3) := by decide +kernel
theorem dX12_kinBy_43 : decode cX12_kinBy 43 = .ok (.aload_n 0, 1) := by decide +kernel
theorem dX12_kinBy_44 : decode cX12_kinBy 44 = .ok (.iload 4, 2) := by decide +kernel
theorem dX12_kinBy_46 : decode cX12_kinBy 46 = .ok (.invokevirtual 238, 3) := by decide +kernel
theorem dX12_kinBy_49 : decode cX12_kinBy 49 = .ok (.goto 22, 3) := by decide +kernel
theorem dX12_kinBy_52 : decode cX12_kinBy 52 = .ok (.aload_n 0, 1) := by decide +kernel
theorem dX12_kinBy_53 : decode cX12_kinBy 53 = .ok (.iload_n 3, 1) := by decide +kernel
theorem dX12_kinBy_54 : decode cX12_kinBy 54 = .ok (.ifCond .ne 10, 3) := by decide +kernel
theorem dX12_kinBy_57 : decode cX12_kinBy 57 = .ok (.aload_n 0, 1) := by decide +kernel
theorem dX12_kinBy_58 : decode cX12_kinBy 58 = .ok (.getfield 302, 3) := by decide +kernel
theorem dX12_kinBy_61 : decode cX12_kinBy 61 = .ok (.goto 7, 3) := by decide +kernel
theorem dX12_kinBy_64 : decode cX12_kinBy 64 = .ok (.aload_n 0, 1) := by decide +kernel
theorem dX12_kinBy_65 : decode cX12_kinBy 65 = .ok (.getfield 305, 3) := by decide +kernel
theorem dX12_kinBy_68 : decode cX12_kinBy 68 = .ok (.invokevirtual 251, 3) := by decide +kernel
theorem dX12_kinBy_71 : decode cX12_kinBy 71 = .ok (.ireturn, 1) := by decide +kernel
theorem dX12_kins_0 : decode cX12_kins 0 = .ok (.aload_n 0, 1) := by decide +kernel
theorem dX12_kins_1 : decode cX12_kins 1 = .ok (.iload_n 1, 1) := by decide +kernel
theorem dX12_kins_2 : decode cX12_kins 2 = .ok (.invokevirtual 293, 3) := by decide +kernel
theorem dX12_kins_5 : decode cX12_kins 5 = .ok (.istore_n 2, 1) := by decide +kernel
theorem dX12_kins_6 : decode cX12_kins 6 = .ok (.iload_n 2, 1) := by decide +kernel
theorem dX12_kins_7 : decode cX12_kins 7 = .ok (.ifCond .le 9, 3) := by decide +kernel
theorem dX12_kins_10 : decode cX12_kins 10 = .ok (.aload_n 0, 1) := by decide +kernel
theorem dX12_kins_11 : decode cX12_kins 11 = .ok (.iload_n 2, 1) := by decide +kernel
theorem dX12_kins_12 : decode cX12_kins 12 = .ok (.invokevirtual 238, 3) := by decide +kernel
theorem dX12_kins_15 : decode cX12_kins 15 = .ok (.ireturn, 1) := by decide +kernel
theorem dX12_kins_16 : decode cX12_kins 16 = .ok (.iconst 0, 1) := by decide +kernel
theorem dX12_kins_17 : decode cX12_kins 17 = .ok (.istore_n 3, 1) := by decide +kernel
theorem dX12_kins_18 : decode cX12_kins 18 = .ok (.iconst 0, 1) := by decide +kernel
theorem dX12_kins_19 : decode cX12_kins 19 = .ok (.istore 4, 2) := by decide +kernel
theorem dX12_kins_21 : decode cX12_kins 21 = .ok (.iload 4, 2) := by decide +kernel
theorem dX12_kins_23 : decode cX12_kins 23 = .ok (.aload_n 0, 1) := by decide +kernel
theorem dX12_kins_24 : decode cX12_kins 24 = .ok (.iconst 2, 1) := by decide +kernel
theorem dX12_kins_25 : decode cX12_kins 25 = .ok (.invokevirtual 70, 3) := by decide +kernel
theorem dX12_kins_28 : decode cX12_kins 28 = .ok (.if_icmp .ge 39, 3) := by decide +kernel
theorem dX12_kins_31 : decode cX12_kins 31 = .ok (.iload_n 3, 1) := by decide +kernel
theorem dX12_kins_32 : decode cX12_kins 32 = .ok (.aload_n 0, 1) := by decide +kernel
theorem dX12_kins_33 : decode cX12_kins 33 = .ok (.iload 4, 2) := by decide +kernel
theorem dX12_kins_35 : decode cX12_kins 35 = .ok (.invokevirtual 283, 3) := by decide +kernel
theorem dX12_kins_38 : decode cX12_kins 38 = .ok (.ifCond .eq 20, 3) := by decide +kernel
theorem dX12_kins_41 : decode cX12_kins 41 = .ok (.aload_n 0, 1) := by decide +kernel
theorem dX12_kins_42 : decode cX12_kins 42 = .ok (.iload_n 1, 1) := by decide +kernel
theorem dX12_kins_43 : decode cX12_kins 43 = .ok (.iload 4, 2) := by decide +kernel
theorem dX12_kins_45 : decode cX12_kins 45 = .ok (.invokevirtual 319, 3) := by decide +kernel
theorem dX12_kins_48 : decode cX12_kins 48 = .ok (.ifCond .eq 10, 3) := by decide +kernel
theorem dX12_kins_51 : decode cX12_kins 51 = .ok (.iconst 1, 1) := by decide +kernel
theorem dX12_kins_52 : decode cX12_kins 52 = .ok (.iload 4, 2) := by decide +kernel
theorem dX12_kins_54 : decode cX12_kins 54 = .ok (.ishl, 1) := by decide +kernel
theorem dX12_kins_55 : decode cX12_kins 55 = .ok (.goto 4, 3) := by decide +kernel
theorem dX12_kins_58 : decode cX12_kins 58 = .ok (.iconst 0, 1) := by decide +kernel
theorem dX12_kins_59 : decode cX12_kins 59 = .ok (.ior, 1) := by decide +kernel
theorem dX12_kins_60 : decode cX12_kins 60 = .ok (.istore_n 3, 1) := by decide +kernel
theorem dX12_kins_61 : decode cX12_kins 61 = .ok (.iinc 4 1, 3) := by decide +kernel
theorem dX12_kins_64 : decode cX12_kins 64 = .ok (.goto (-43), 3) := by decide +kernel
theorem dX12_kins_67 : decode cX12_kins 67 = .ok (.aload_n 0, 1) := by decide +kernel
theorem dX12_kins_68 : decode cX12_kins 68 = .ok (.iload_n 3, 1) := by decide +kernel
theorem dX12_kins_69 : decode cX12_kins 69 = .ok (.invokevirtual 251, 3) := by decide +kernel
theorem dX12_kins_72 : decode cX12_kins 72 = .ok (.ireturn, 1) := by decide +kernel
theorem dX12_net_0 : decode cX12_net 0 = .ok (.aload_n 0, 1) := by decide +kernel
theorem dX12_net_1 : decode cX12_net 1 = .ok (.iload_n 1, 1) := by decide +kernel
theorem dX12_net_2 : decode cX12_net 2 = .ok (.invokevirtual 266, 3) := by decide +kernel
theorem dX12_net_5 : decode cX12_net 5 = .ok (.ifCond .eq 11, 3) := by decide +kernel
theorem dX12_net_8 : decode cX12_net 8 = .ok (.aload_n 0, 1) := by decide +kernel
theorem dX12_net_9 : decode cX12_net 9 = .ok (.iload_n 2, 1) := by decide +kernel
theorem dX12_net_10 : decode cX12_net 10 = .ok (.invokevirtual 213, 3) := by decide +kernel
theorem dX12_net_13 : decode cX12_net 13 = .ok (.ifCond .ne 9, 3) := by decide +kernel
theorem dX12_net_16 : decode cX12_net 16 = .ok (.aload_n 0, 1) := by decide +kernel
theorem dX12_net_17 : decode cX12_net 17 = .ok (.iconst 2, 1) := by decide +kernel
theorem dX12_net_18 : decode cX12_net 18 = .ok (.invokevirtual 238, 3) := by decide +kernel
theorem dX12_net_21 : decode cX12_net 21 = .ok (.ireturn, 1) := by decide +kernel
theorem dX12_net_22 : decode cX12_net 22 = .ok (.iconst 0, 1) := by decide +kernel
theorem dX12_net_23 : decode cX12_net 23 = .ok (.istore_n 3, 1) := by decide +kernel
theorem dX12_net_24 : decode cX12_net 24 = .ok (.aload_n 0, 1) := by decide +kernel
theorem dX12_net_25 : decode cX12_net 25 = .ok (.iload_n 1, 1) := by decide +kernel
theorem dX12_net_26 : decode cX12_net 26 = .ok (.aload_n 0, 1) := by decide +kernel
theorem dX12_net_27 : decode cX12_net 27 = .ok (.getfield 15, 3) := by decide +kernel
theorem dX12_net_30 : decode cX12_net 30 = .ok (.iconst 0, 1) := by decide +kernel
theorem dX12_net_31 : decode cX12_net 31 = .ok (.aaload, 1) := by decide +kernel
theorem dX12_net_32 : decode cX12_net 32 = .ok (.invokevirtual 127, 3) := by decide +kernel
theorem dX12_net_35 : decode cX12_net 35 = .ok (.iconst 0, 1) := by decide +kernel
theorem dX12_net_36 : decode cX12_net 36 = .ok (.istore 4, 2) := by decide +kernel
theorem dX12_net_38 : decode cX12_net 38 = .ok (.iload 4, 2) := by decide +kernel
theorem dX12_net_40 : decode cX12_net 40 = .ok (.aload_n 0, 1) := by decide +kernel
theorem dX12_net_41 : decode cX12_net 41 = .ok (.getfield 15, 3) := by decide +kernel
theorem dX12_net_44 : decode cX12_net 44 = .ok (.iconst 0, 1) := by decide +kernel
theorem dX12_net_45 : decode cX12_net 45 = .ok (.aaload, 1) := by decide +kernel
theorem dX12_net_46 : decode cX12_net 46 = .ok (.iconst 1, 1) := by decide +kernel
theorem dX12_net_47 : decode cX12_net 47 = .ok (.iaload, 1) := by decide +kernel
theorem dX12_net_48 : decode cX12_net 48 = .ok (.if_icmp .ge 54, 3) := by decide +kernel
theorem dX12_net_51 : decode cX12_net 51 = .ok (.iload_n 3, 1) := by decide +kernel
theorem dX12_net_52 : decode cX12_net 52 = .ok (.aload_n 0, 1) := by decide +kernel
theorem dX12_net_53 : decode cX12_net 53 = .ok (.getfield 15, 3) := by decide +kernel
theorem dX12_net_56 : decode cX12_net 56 = .ok (.iconst 0, 1) := by decide +kernel
theorem dX12_net_57 : decode cX12_net 57 = .ok (.aaload, 1) := by decide +kernel
theorem dX12_net_58 : decode cX12_net 58 = .ok (.iload 4, 2) := by decide +kernel
theorem dX12_net_60 : decode cX12_net 60 = .ok (.invokestatic 87, 3) := by decide +kernel
theorem dX12_net_63 : decode cX12_net 63 = .ok (.iconst 2, 1) := by decide +kernel
theorem dX12_net_64 : decode cX12_net 64 = .ok (.idiv, 1) := by decide +kernel
theorem dX12_net_65 : decode cX12_net 65 = .ok (.iload_n 2, 1) := by decide +kernel
theorem dX12_net_66 : decode cX12_net 66 = .ok (.if_icmp .eq 7, 3) := by decide +kernel
theorem dX12_net_69 : decode cX12_net 69 = .ok (.iconst 0, 1) := by decide +kernel
theorem dX12_net_70 : decode cX12_net 70 = .ok (.goto 24, 3) := by decide +kernel
theorem dX12_net_73 : decode cX12_net 73 = .ok (.aload_n 0, 1) := by decide +kernel
theorem dX12_net_74 : decode cX12_net 74 = .ok (.getfield 15, 3) := by decide +kernel
theorem dX12_net_77 : decode cX12_net 77 = .ok (.iconst 0, 1) := by decide +kernel
theorem dX12_net_78 : decode cX12_net 78 = .ok (.aaload, 1) := by decide +kernel
theorem dX12_net_79 : decode cX12_net 79 = .ok (.iload 4, 2) := by decide +kernel
theorem dX12_net_81 : decode cX12_net 81 = .ok (.invokestatic 87, 3) := by decide +kernel
theorem dX12_net_84 : decode cX12_net 84 = .ok (.iconst 2, 1) := by decide +kernel
theorem dX12_net_85 : decode cX12_net 85 = .ok (.irem, 1) := by decide +kernel
theorem dX12_net_86 : decode cX12_net 86 = .ok (.ifCond .ne 7, 3) := by decide +kernel
theorem dX12_net_89 : decode cX12_net 89 = .ok (.iconst 1, 1) := by decide +kernel
theorem dX12_net_90 : decode cX12_net 90 = .ok (.goto 4, 3) := by decide +kernel
theorem dX12_net_93 : decode cX12_net 93 = .ok (.iconst (-1), 1) := by decide +kernel
theorem dX12_net_94 : decode cX12_net 94 = .ok (.iadd, 1) := by decide +kernel
theorem dX12_net_95 : decode cX12_net 95 = .ok (.istore_n 3, 1) := by decide +kernel
theorem dX12_net_96 : decode cX12_net 96 = .ok (.iinc 4 1, 3) := by decide +kernel
theorem dX12_net_99 : decode cX12_net 99 = .ok (.goto (-61), 3) := by decide +kernel
theorem dX12_net_102 : decode cX12_net 102 = .ok (.aload_n 0, 1) := by decide +kernel
theorem dX12_net_103 : decode cX12_net 103 = .ok (.iload_n 3, 1) := by decide +kernel
theorem dX12_net_104 : decode cX12_net 104 = .ok (.invokevirtual 251, 3) := by decide +kernel
theorem dX12_net_107 : decode cX12_net 107 = .ok (.ireturn, 1) := by decide +kernel
theorem dX12_isCentral_0 : decode cX12_isCentral 0 = .ok (.iconst 0, 1) := by decide +kernel
theorem dX12_isCentral_1 : decode cX12_isCentral 1 = .ok (.istore_n 3, 1) := by decide +kernel
theorem dX12_isCentral_2 : decode cX12_isCentral 2 = .ok (.iload_n 3, 1) := by decide +kernel
theorem dX12_isCentral_3 : decode cX12_isCentral 3 = .ok (.bipush 6, 2) := by decide +kernel
theorem dX12_isCentral_5 : decode cX12_isCentral 5 = .ok (.if_icmp .ge 16, 3) := by decide +kernel
theorem dX12_isCentral_8 : decode cX12_isCentral 8 = .ok (.aload_n 0, 1) := by decide +kernel
theorem dX12_isCentral_9 : decode cX12_isCentral 9 = .ok (.getfield 51, 3) := by decide +kernel
theorem dX12_isCentral_12 : decode cX12_isCentral 12 = .ok (.iload_n 3, 1) := by decide +kernel
theorem dX12_isCentral_13 : decode cX12_isCentral 13 = .ok (.iconst (-1), 1) := by decide +kernel
theorem dX12_isCentral_14 : decode cX12_isCentral 14 = .ok (.iastore, 1) := by decide +kernel
theorem dX12_isCentral_15 : decode cX12_isCentral 15 = .ok (.iinc 3 1, 3) := by decide +kernel
theorem dX12_isCentral_18 : decode cX12_isCentral 18 = .ok (.goto (-16), 3) := by decide +kernel
theorem dX12_isCentral_21 : decode cX12_isCentral 21 = .ok (.aload_n 0, 1) := by decide +kernel
theorem dX12_isCentral_22 : decode cX12_isCentral 22 = .ok (.getfield 51, 3) := by decide +kernel
theorem dX12_isCentral_25 : decode cX12_isCentral 25 = .ok (.iload_n 1, 1) := by decide +kernel
theorem dX12_isCentral_26 : decode cX12_isCentral 26 = .ok (.iload_n 2, 1) := by decide +kernel
theorem dX12_isCentral_27 : decode cX12_isCentral 27 = .ok (.iastore, 1) := by decide +kernel
theorem dX12_isCentral_28 : decode cX12_isCentral 28 = .ok (.iconst 0, 1) := by decide +kernel
theorem dX12_isCentral_29 : decode cX12_isCentral 29 = .ok (.istore_n 3, 1) := by decide +kernel
theorem dX12_isCentral_30 : decode cX12_isCentral 30 = .ok (.iload_n 3, 1) := by decide +kernel
theorem dX12_isCentral_31 : decode cX12_isCentral 31 = .ok (.bipush 6, 2) := by decide +kernel
theorem dX12_isCentral_33 : decode cX12_isCentral 33 = .ok (.if_icmp .gt 130, 3) := by decide +kernel
theorem dX12_isCentral_36 : decode cX12_isCentral 36 = .ok (.iconst 0, 1) := by decide +kernel
theorem dX12_isCentral_37 : decode cX12_isCentral 37 = .ok (.istore 4, 2) := by decide +kernel
theorem dX12_isCentral_39 : decode cX12_isCentral 39 = .ok (.iload 4, 2) := by decide +kernel
theorem dX12_isCentral_41 : decode cX12_isCentral 41 = .ok (.iconst 2, 1) := by decide +kernel
theorem dX12_isCentral_42 : decode cX12_isCentral 42 = .ok (.aload_n 0, 1) := by decide +kernel
theorem dX12_isCentral_43 : decode cX12_isCentral 43 = .ok (.iconst 1, 1) := by decide +kernel
theorem dX12_isCentral_44 : decode cX12_isCentral 44 = .ok (.invokevirtual 70, 3) := by decide +kernel
theorem dX12_isCentral_47 : decode cX12_isCentral 47 = .ok (.imul, 1) := by decide +kernel
theorem dX12_isCentral_48 : decode cX12_isCentral 48 = .ok (.if_icmp .ge 109, 3) := by decide +kernel
theorem dX12_isCentral_51 : decode cX12_isCentral 51 = .ok (.aload_n 0, 1) := by decide +kernel
theorem dX12_isCentral_52 : decode cX12_isCentral 52 = .ok (.getfield 51, 3) := by decide +kernel
theorem dX12_isCentral_55 : decode cX12_isCentral 55 = .ok (.aload_n 0, 1) := by decide +kernel
theorem dX12_isCentral_56 : decode cX12_isCentral 56 = .ok (.iload 4, 2) := by decide +kernel
theorem dX12_isCentral_58 : decode cX12_isCentral 58 = .ok (.invokevirtual 78, 3) := by decide +kernel
theorem dX12_isCentral_61 : decode cX12_isCentral 61 = .ok (.iaload, 1) := by decide +kernel
theorem dX12_isCentral_62 : decode cX12_isCentral 62 = .ok (.istore 5, 2) := by decide +kernel
theorem dX12_isCentral_64 : decode cX12_isCentral 64 = .ok (.iload 5, 2) := by decide +kernel
theorem dX12_isCentral_66 : decode cX12_isCentral 66 = .ok (.iconst (-1), 1) := by decide +kernel
theorem dX12_isCentral_67 : decode cX12_isCentral 67 = .ok (.if_icmp .ne 6, 3) := by decide +kernel
theorem dX12_isCentral_70 : decode cX12_isCentral 70 = .ok (.goto 81, 3) := by decide +kernel
theorem dX12_isCentral_73 : decode cX12_isCentral 73 = .ok (.iload 5, 2) := by decide +kernel
theorem dX12_isCentral_75 : decode cX12_isCentral 75 = .ok (.aload_n 0, 1) := by decide +kernel
theorem dX12_isCentral_76 : decode cX12_isCentral 76 = .ok (.iload 4, 2) := by decide +kernel
theorem dX12_isCentral_78 : decode cX12_isCentral 78 = .ok (.invokevirtual 81, 3) := by decide +kernel
theorem dX12_isCentral_81 : decode cX12_isCentral 81 = .ok (.irem, 1) := by decide +kernel
theorem dX12_isCentral_82 : decode cX12_isCentral 82 = .ok (.ifCond .eq 5, 3) := by decide +kernel
theorem dX12_isCentral_85 : decode cX12_isCentral 85 = .ok (.iconst 0, 1) := by decide +kernel
theorem dX12_isCentral_86 : decode cX12_isCentral 86 = .ok (.ireturn, 1) := by decide +kernel
theorem dX12_isCentral_87 : decode cX12_isCentral 87 = .ok (.iload 5, 2) := by decide +kernel
theorem dX12_isCentral_89 : decode cX12_isCentral 89 = .ok (.aload_n 0, 1) := by decide +kernel
theorem dX12_isCentral_90 : decode cX12_isCentral 90 = .ok (.iload 4, 2) := by decide +kernel
theorem dX12_isCentral_92 : decode cX12_isCentral 92 = .ok (.invokevirtual 81, 3) := by decide +kernel
theorem dX12_isCentral_95 : decode cX12_isCentral 95 = .ok (.idiv, 1) := by decide +kernel
theorem dX12_isCentral_96 : decode cX12_isCentral 96 = .ok (.aload_n 0, 1) := by decide +kernel
theorem dX12_isCentral_97 : decode cX12_isCentral 97 = .ok (.iload 4, 2) := by decide +kernel
theorem dX12_isCentral_99 : decode cX12_isCentral 99 = .ok (.invokevirtual 107, 3) := by decide +kernel
theorem dX12_isCentral_102 : decode cX12_isCentral 102 = .ok (.imul, 1) := by decide +kernel
theorem dX12_isCentral_103 : decode cX12_isCentral 103 = .ok (.istore 6, 2) := by decide +kernel
theorem dX12_isCentral_105 : decode cX12_isCentral 105 = .ok (.aload_n 0, 1) := by decide +kernel
theorem dX12_isCentral_106 : decode cX12_isCentral 106 = .ok (.getfield 51, 3) := by decide +kernel
theorem dX12_isCentral_109 : decode cX12_isCentral 109 = .ok (.aload_n 0, 1) := by decide +kernel
theorem dX12_isCentral_110 : decode cX12_isCentral 110 = .ok (.iload 4, 2) := by decide +kernel
theorem dX12_isCentral_112 : decode cX12_isCentral 112 = .ok (.invokevirtual 91, 3) := by decide +kernel
theorem dX12_isCentral_115 : decode cX12_isCentral 115 = .ok (.iaload, 1) := by decide +kernel
theorem dX12_isCentral_116 : decode cX12_isCentral 116 = .ok (.iconst (-1), 1) := by decide +kernel
theorem dX12_isCentral_117 : decode cX12_isCentral 117 = .ok (.if_icmp .eq 21, 3) := by decide +kernel
theorem dX12_isCentral_120 : decode cX12_isCentral 120 = .ok (.aload_n 0, 1) := by decide +kernel
theorem dX12_isCentral_121 : decode cX12_isCentral 121 = .ok (.getfield 51, 3) := by decide +kernel
theorem dX12_isCentral_124 : decode cX12_isCentral 124 = .ok (.aload_n 0, 1) := by decide +kernel
theorem dX12_isCentral_125 : decode cX12_isCentral 125 = .ok (.iload 4, 2) := by decide +kernel
theorem dX12_isCentral_127 : decode cX12_isCentral 127 = .ok (.invokevirtual 91, 3) := by decide +kernel
theorem dX12_isCentral_130 : decode cX12_isCentral 130 = .ok (.iaload, 1) := by decide +kernel
theorem dX12_isCentral_131 : decode cX12_isCentral 131 = .ok (.iload 6, 2) := by decide +kernel
theorem dX12_isCentral_133 : decode cX12_isCentral 133 = .ok (.if_icmp .eq 5, 3) := by decide +kernel
theorem dX12_isCentral_136 : decode cX12_isCentral 136 = .ok (.iconst 0, 1) := by decide +kernel
theorem dX12_isCentral_137 : decode cX12_isCentral 137 = .ok (.ireturn, 1) := by decide +kernel
theorem dX12_isCentral_138 : decode cX12_isCentral 138 = .ok (.aload_n 0, 1) := by decide +kernel
theorem dX12_isCentral_139 : decode cX12_isCentral 139 = .ok (.getfield 51, 3) := by decide +kernel
theorem dX12_isCentral_142 : decode cX12_isCentral 142 = .ok (.aload_n 0, 1) := by decide +kernel
theorem dX12_isCentral_143 : decode cX12_isCentral 143 = .ok (.iload 4, 2) := by decide +kernel
theorem dX12_isCentral_145 : decode cX12_isCentral 145 = .ok (.invokevirtual 91, 3) := by decide +kernel
theorem dX12_isCentral_148 : decode cX12_isCentral 148 = .ok (.iload 6, 2) := by decide +kernel
theorem dX12_isCentral_150 : decode cX12_isCentral 150 = .ok (.iastore, 1) := by decide +kernel
theorem dX12_isCentral_151 : decode cX12_isCentral 151 = .ok (.iinc 4 1, 3) := by decide +kernel
theorem dX12_isCentral_154 : decode cX12_isCentral 154 = .ok (.goto (-115), 3) := by decide +kernel
theorem dX12_isCentral_157 : decode cX12_isCentral 157 = .ok (.iinc 3 1, 3) := by decide +kernel
theorem dX12_isCentral_160 : decode cX12_isCentral 160 = .ok (.goto (-130), 3) := by decide +kernel
theorem dX12_isCentral_163 : decode cX12_isCentral 163 = .ok (.iconst 1, 1) := by decide +kernel
theorem dX12_isCentral_164 : decode cX12_isCentral 164 = .ok (.ireturn, 1) := by decide +kernel
theorem dX12_central_0 : decode cX12_central 0 = .ok (.iload_n 2, 1) := by decide +kernel
theorem dX12_central_1 : decode cX12_central 1 = .ok (.ifCond .ge 9, 3) := by decide +kernel
theorem dX12_central_4 : decode cX12_central 4 = .ok (.aload_n 0, 1) := by decide +kernel
theorem dX12_central_5 : decode cX12_central 5 = .ok (.iconst 1, 1) := by decide +kernel
theorem dX12_central_6 : decode cX12_central 6 = .ok (.invokevirtual 238, 3) := by decide +kernel
theorem dX12_central_9 : decode cX12_central 9 = .ok (.ireturn, 1) := by decide +kernel
theorem dX12_central_10 : decode cX12_central 10 = .ok (.aload_n 0, 1) := by decide +kernel
theorem dX12_central_11 : decode cX12_central 11 = .ok (.iload_n 1, 1) := by decide +kernel
theorem dX12_central_12 : decode cX12_central 12 = .ok (.invokevirtual 207, 3) := by decide +kernel
theorem dX12_central_15 : decode cX12_central 15 = .ok (.ifCond .ne 9, 3) := by decide +kernel
theorem dX12_central_18 : decode cX12_central 18 = .ok (.aload_n 0, 1) := by decide +kernel
theorem dX12_central_19 : decode cX12_central 19 = .ok (.iconst 2, 1) := by decide +kernel
theorem dX12_central_20 : decode cX12_central 20 = .ok (.invokevirtual 238, 3) := by decide +kernel
theorem dX12_central_23 : decode cX12_central 23 = .ok (.ireturn, 1) := by decide +kernel
theorem dX12_central_24 : decode cX12_central 24 = .ok (.iload_n 2, 1) := by decide +kernel
theorem dX12_central_25 : decode cX12_central 25 = .ok (.aload_n 0, 1) := by decide +kernel
theorem dX12_central_26 : decode cX12_central 26 = .ok (.iload_n 1, 1) := by decide +kernel
theorem dX12_central_27 : decode cX12_central 27 = .ok (.invokevirtual 84, 3) := by decide +kernel
theorem dX12_central_30 : decode cX12_central 30 = .ok (.if_icmp .ge 24, 3) := by decide +kernel
theorem dX12_central_33 : decode cX12_central 33 = .ok (.aload_n 0, 1) := by decide +kernel
theorem dX12_central_34 : decode cX12_central 34 = .ok (.aload_n 0, 1) := by decide +kernel
theorem dX12_central_35 : decode cX12_central 35 = .ok (.iload_n 1, 1) := by decide +kernel
theorem dX12_central_36 : decode cX12_central 36 = .ok (.iload_n 2, 1) := by decide +kernel
theorem dX12_central_37 : decode cX12_central 37 = .ok (.invokevirtual 322, 3) := by decide +kernel
theorem dX12_central_40 : decode cX12_central 40 = .ok (.ifCond .eq 7, 3) := by decide +kernel
theorem dX12_central_43 : decode cX12_central 43 = .ok (.iconst 1, 1) := by decide +kernel
theorem dX12_central_44 : decode cX12_central 44 = .ok (.goto 4, 3) := by decide +kernel
theorem dX12_central_47 : decode cX12_central 47 = .ok (.iconst 0, 1) := by decide +kernel
theorem dX12_central_48 : decode cX12_central 48 = .ok (.invokevirtual 251, 3) := by decide +kernel
theorem dX12_central_51 : decode cX12_central 51 = .ok (.goto 8, 3) := by decide +kernel
theorem dX12_central_54 : decode cX12_central 54 = .ok (.aload_n 0, 1) := by decide +kernel
theorem dX12_central_55 : decode cX12_central 55 = .ok (.iconst 1, 1) := by decide +kernel
theorem dX12_central_56 : decode cX12_central 56 = .ok (.invokevirtual 238, 3) := by decide +kernel
theorem dX12_central_59 : decode cX12_central 59 = .ok (.ireturn, 1) := by decide +kernel
theorem dX12_centre_0 : decode cX12_centre 0 = .ok (.aload_n 0, 1) := by decide +kernel
theorem dX12_centre_1 : decode cX12_centre 1 = .ok (.iload_n 1, 1) := by decide +kernel
theorem dX12_centre_2 : decode cX12_centre 2 = .ok (.invokevirtual 207, 3) := by decide +kernel
theorem dX12_centre_5 : decode cX12_centre 5 = .ok (.ifCond .ne 9, 3) := by decide +kernel
theorem dX12_centre_8 : decode cX12_centre 8 = .ok (.aload_n 0, 1) := by decide +kernel
theorem dX12_centre_9 : decode cX12_centre 9 = .ok (.iconst 2, 1) := by decide +kernel
theorem dX12_centre_10 : decode cX12_centre 10 = .ok (.invokevirtual 238, 3) := by decide +kernel
theorem dX12_centre_13 : decode cX12_centre 13 = .ok (.ireturn, 1) := by decide +kernel
theorem dX12_centre_14 : decode cX12_centre 14 = .ok (.iconst 0, 1) := by decide +kernel
theorem dX12_centre_15 : decode cX12_centre 15 = .ok (.istore_n 2, 1) := by decide +kernel
theorem dX12_centre_16 : decode cX12_centre 16 = .ok (.iconst 0, 1) := by decide +kernel
theorem dX12_centre_17 : decode cX12_centre 17 = .ok (.istore_n 3, 1) := by decide +kernel
theorem dX12_centre_18 : decode cX12_centre 18 = .ok (.iload_n 3, 1) := by decide +kernel
theorem dX12_centre_19 : decode cX12_centre 19 = .ok (.aload_n 0, 1) := by decide +kernel
theorem dX12_centre_20 : decode cX12_centre 20 = .ok (.iload_n 1, 1) := by decide +kernel
theorem dX12_centre_21 : decode cX12_centre 21 = .ok (.invokevirtual 84, 3) := by decide +kernel
theorem dX12_centre_24 : decode cX12_centre 24 = .ok (.if_icmp .ge 26, 3) := by decide +kernel
theorem dX12_centre_27 : decode cX12_centre 27 = .ok (.iload_n 2, 1) := by decide +kernel
theorem dX12_centre_28 : decode cX12_centre 28 = .ok (.aload_n 0, 1) := by decide +kernel
theorem dX12_centre_29 : decode cX12_centre 29 = .ok (.iload_n 1, 1) := by decide +kernel
theorem dX12_centre_30 : decode cX12_centre 30 = .ok (.iload_n 3, 1) := by decide +kernel
theorem dX12_centre_31 : decode cX12_centre 31 = .ok (.invokevirtual 322, 3) := by decide +kernel
theorem dX12_centre_34 : decode cX12_centre 34 = .ok (.ifCond .eq 7, 3) := by decide +kernel
theorem dX12_centre_37 : decode cX12_centre 37 = .ok (.iconst 1, 1) := by decide +kernel
theorem dX12_centre_38 : decode cX12_centre 38 = .ok (.goto 4, 3) := by decide +kernel
theorem dX12_centre_41 : decode cX12_centre 41 = .ok (.iconst 0, 1) := by decide +kernel
theorem dX12_centre_42 : decode cX12_centre 42 = .ok (.iadd, 1) := by decide +kernel
theorem dX12_centre_43 : decode cX12_centre 43 = .ok (.istore_n 2, 1) := by decide +kernel
theorem dX12_centre_44 : decode cX12_centre 44 = .ok (.iinc 3 1, 3) := by decide +kernel
theorem dX12_centre_47 : decode cX12_centre 47 = .ok (.goto (-29), 3) := by decide +kernel
theorem dX12_centre_50 : decode cX12_centre 50 = .ok (.aload_n 0, 1) := by decide +kernel
theorem dX12_centre_51 : decode cX12_centre 51 = .ok (.iload_n 2, 1) := by decide +kernel
theorem dX12_centre_52 : decode cX12_centre 52 = .ok (.invokevirtual 251, 3) := by decide +kernel
theorem dX12_centre_55 : decode cX12_centre 55 = .ok (.ireturn, 1) := by decide +kernel
theorem dX12_having_0 : decode cX12_having 0 = .ok (.iload_n 2, 1) := by decide +kernel
theorem dX12_having_1 : decode cX12_having 1 = .ok (.iconst 1, 1) := by decide +kernel
theorem dX12_having_2 : decode cX12_having 2 = .ok (.if_icmp .ge 9, 3) := by decide +kernel
theorem dX12_having_5 : decode cX12_having 5 = .ok (.aload_n 0, 1) := by decide +kernel
theorem dX12_having_6 : decode cX12_having 6 = .ok (.iconst 1, 1) := by decide +kernel
theorem dX12_having_7 : decode cX12_having 7 = .ok (.invokevirtual 238, 3) := by decide +kernel
theorem dX12_having_10 : decode cX12_having 10 = .ok (.ireturn, 1) := by decide +kernel
theorem dX12_having_11 : decode cX12_having 11 = .ok (.aload_n 0, 1) := by decide +kernel
theorem dX12_having_12 : decode cX12_having 12 = .ok (.iload_n 1, 1) := by decide +kernel
theorem dX12_having_13 : decode cX12_having 13 = .ok (.invokevirtual 207, 3) := by decide +kernel
theorem dX12_having_16 : decode cX12_having 16 = .ok (.ifCond .ne 9, 3) := by decide +kernel
theorem dX12_having_19 : decode cX12_having 19 = .ok (.aload_n 0, 1) := by decide +kernel
theorem dX12_having_20 : decode cX12_having 20 = .ok (.iconst 2, 1) := by decide +kernel
theorem dX12_having_21 : decode cX12_having 21 = .ok (.invokevirtual 238, 3) := by decide +kernel
theorem dX12_having_24 : decode cX12_having 24 = .ok (.ireturn, 1) := by decide +kernel
theorem dX12_having_25 : decode cX12_having 25 = .ok (.iconst 0, 1) := by decide +kernel
theorem dX12_having_26 : decode cX12_having 26 = .ok (.istore_n 3, 1) := by decide +kernel
theorem dX12_having_27 : decode cX12_having 27 = .ok (.iconst 0, 1) := by decide +kernel
theorem dX12_having_28 : decode cX12_having 28 = .ok (.istore 4, 2) := by decide +kernel
theorem dX12_having_30 : decode cX12_having 30 = .ok (.iload 4, 2) := by decide +kernel
theorem dX12_having_32 : decode cX12_having 32 = .ok (.aload_n 0, 1) := by decide +kernel
theorem dX12_having_33 : decode cX12_having 33 = .ok (.iload_n 1, 1) := by decide +kernel
theorem dX12_having_34 : decode cX12_having 34 = .ok (.invokevirtual 84, 3) := by decide +kernel
theorem dX12_having_37 : decode cX12_having 37 = .ok (.if_icmp .ge 28, 3) := by decide +kernel
theorem dX12_having_40 : decode cX12_having 40 = .ok (.iload_n 3, 1) := by decide +kernel
theorem dX12_having_41 : decode cX12_having 41 = .ok (.aload_n 0, 1) := by decide +kernel
theorem dX12_having_42 : decode cX12_having 42 = .ok (.iload_n 1, 1) := by decide +kernel
theorem dX12_having_43 : decode cX12_having 43 = .ok (.iload 4, 2) := by decide +kernel
theorem dX12_having_45 : decode cX12_having 45 = .ok (.invokevirtual 299, 3) := by decide +kernel
theorem dX12_having_48 : decode cX12_having 48 = .ok (.iload_n 2, 1) := by decide +kernel
theorem dX12_having_49 : decode cX12_having 49 = .ok (.if_icmp .ne 7, 3) := by decide +kernel
theorem dX12_having_52 : decode cX12_having 52 = .ok (.iconst 1, 1) := by decide +kernel
theorem dX12_having_53 : decode cX12_having 53 = .ok (.goto 4, 3) := by decide +kernel
theorem dX12_having_56 : decode cX12_having 56 = .ok (.iconst 0, 1) := by decide +kernel
theorem dX12_having_57 : decode cX12_having 57 = .ok (.iadd, 1) := by decide +kernel
theorem dX12_having_58 : decode cX12_having 58 = .ok (.istore_n 3, 1) := by decide +kernel
theorem dX12_having_59 : decode cX12_having 59 = .ok (.iinc 4 1, 3) := by decide +kernel
theorem dX12_having_62 : decode cX12_having 62 = .ok (.goto (-32), 3) := by decide +kernel
theorem dX12_having_65 : decode cX12_having 65 = .ok (.aload_n 0, 1) := by decide +kernel
theorem dX12_having_66 : decode cX12_having 66 = .ok (.iload_n 3, 1) := by decide +kernel
theorem dX12_having_67 : decode cX12_having 67 = .ok (.invokevirtual 251, 3) := by decide +kernel
theorem dX12_having_70 : decode cX12_having 70 = .ok (.ireturn, 1) := by decide +kernel
theorem dX12_isPower_0 : decode cX12_isPower 0 = .ok (.aload_n 0, 1) := by decide +kernel
theorem dX12_isPower_1 : decode cX12_isPower 1 = .ok (.getfield 15, 3) := by decide +kernel
theorem dX12_isPower_4 : decode cX12_isPower 4 = .ok (.bipush 6, 2) := by decide +kernel
theorem dX12_isPower_6 : decode cX12_isPower 6 = .ok (.aaload, 1) := by decide +kernel
theorem dX12_isPower_7 : decode cX12_isPower 7 = .ok (.aload_n 1, 1) := by decide +kernel
theorem dX12_isPower_8 : decode cX12_isPower 8 = .ok (.iconst 0, 1) := by decide +kernel
theorem dX12_isPower_9 : decode cX12_isPower 9 = .ok (.iaload, 1) := by decide +kernel
theorem dX12_isPower_10 : decode cX12_isPower 10 = .ok (.aload_n 1, 1) := by decide +kernel
theorem dX12_isPower_11 : decode cX12_isPower 11 = .ok (.iconst 0, 1) := by decide +kernel
theorem dX12_isPower_12 : decode cX12_isPower 12 = .ok (.invokestatic 94, 3) := by decide +kernel
theorem dX12_isPower_15 : decode cX12_isPower 15 = .ok (.invokestatic 100, 3) := by decide +kernel
theorem dX12_isPower_18 : decode cX12_isPower 18 = .ok (.iconst 0, 1) := by decide +kernel
theorem dX12_isPower_19 : decode cX12_isPower 19 = .ok (.istore 4, 2) := by decide +kernel
theorem dX12_isPower_21 : decode cX12_isPower 21 = .ok (.iload 4, 2) := by decide +kernel
theorem dX12_isPower_23 : decode cX12_isPower 23 = .ok (.iload_n 2, 1) := by decide +kernel
theorem dX12_isPower_24 : decode cX12_isPower 24 = .ok (.if_icmp .ge 45, 3) := by decide +kernel
theorem dX12_isPower_27 : decode cX12_isPower 27 = .ok (.aload_n 0, 1) := by decide +kernel
theorem dX12_isPower_28 : decode cX12_isPower 28 = .ok (.getfield 15, 3) := by decide +kernel
theorem dX12_isPower_31 : decode cX12_isPower 31 = .ok (.bipush 6, 2) := by decide +kernel
theorem dX12_isPower_33 : decode cX12_isPower 33 = .ok (.aaload, 1) := by decide +kernel
theorem dX12_isPower_34 : decode cX12_isPower 34 = .ok (.aload_n 1, 1) := by decide +kernel
theorem dX12_isPower_35 : decode cX12_isPower 35 = .ok (.iload 4, 2) := by decide +kernel
theorem dX12_isPower_37 : decode cX12_isPower 37 = .ok (.invokestatic 87, 3) := by decide +kernel
theorem dX12_isPower_40 : decode cX12_isPower 40 = .ok (.iload 4, 2) := by decide +kernel
theorem dX12_isPower_42 : decode cX12_isPower 42 = .ok (.iconst 1, 1) := by decide +kernel
theorem dX12_isPower_43 : decode cX12_isPower 43 = .ok (.iadd, 1) := by decide +kernel
theorem dX12_isPower_44 : decode cX12_isPower 44 = .ok (.iload_n 2, 1) := by decide +kernel
theorem dX12_isPower_45 : decode cX12_isPower 45 = .ok (.if_icmp .ge 14, 3) := by decide +kernel
theorem dX12_isPower_48 : decode cX12_isPower 48 = .ok (.aload_n 1, 1) := by decide +kernel
theorem dX12_isPower_49 : decode cX12_isPower 49 = .ok (.iload 4, 2) := by decide +kernel
theorem dX12_isPower_51 : decode cX12_isPower 51 = .ok (.iconst 1, 1) := by decide +kernel
theorem dX12_isPower_52 : decode cX12_isPower 52 = .ok (.iadd, 1) := by decide +kernel
theorem dX12_isPower_53 : decode cX12_isPower 53 = .ok (.invokestatic 94, 3) := by decide +kernel
theorem dX12_isPower_56 : decode cX12_isPower 56 = .ok (.goto 4, 3) := by decide +kernel
theorem dX12_isPower_59 : decode cX12_isPower 59 = .ok (.iload_n 3, 1) := by decide +kernel
theorem dX12_isPower_60 : decode cX12_isPower 60 = .ok (.invokestatic 104, 3) := by decide +kernel
theorem dX12_isPower_63 : decode cX12_isPower 63 = .ok (.iinc 4 1, 3) := by decide +kernel
theorem dX12_isPower_66 : decode cX12_isPower 66 = .ok (.goto (-45), 3) := by decide +kernel
theorem dX12_isPower_69 : decode cX12_isPower 69 = .ok (.aload_n 0, 1) := by decide +kernel
theorem dX12_isPower_70 : decode cX12_isPower 70 = .ok (.getfield 15, 3) := by decide +kernel
theorem dX12_isPower_73 : decode cX12_isPower 73 = .ok (.bipush 6, 2) := by decide +kernel
theorem dX12_isPower_75 : decode cX12_isPower 75 = .ok (.aaload, 1) := by decide +kernel
theorem dX12_isPower_76 : decode cX12_isPower 76 = .ok (.aload_n 0, 1) := by decide +kernel
theorem dX12_isPower_77 : decode cX12_isPower 77 = .ok (.getfield 15, 3) := by decide +kernel
theorem dX12_isPower_80 : decode cX12_isPower 80 = .ok (.bipush 7, 2) := by decide +kernel
theorem dX12_isPower_82 : decode cX12_isPower 82 = .ok (.aaload, 1) := by decide +kernel
theorem dX12_isPower_83 : decode cX12_isPower 83 = .ok (.invokestatic 113, 3) := by decide +kernel
theorem dX12_isPower_86 : decode cX12_isPower 86 = .ok (.iload_n 2, 1) := by decide +kernel
theorem dX12_isPower_87 : decode cX12_isPower 87 = .ok (.istore 4, 2) := by decide +kernel
theorem dX12_isPower_89 : decode cX12_isPower 89 = .ok (.iload 4, 2) := by decide +kernel
theorem dX12_isPower_91 : decode cX12_isPower 91 = .ok (.aload_n 1, 1) := by decide +kernel
theorem dX12_isPower_92 : decode cX12_isPower 92 = .ok (.iconst 1, 1) := by decide +kernel
theorem dX12_isPower_93 : decode cX12_isPower 93 = .ok (.iaload, 1) := by decide +kernel
theorem dX12_isPower_94 : decode cX12_isPower 94 = .ok (.if_icmp .ge 54, 3) := by decide +kernel
theorem dX12_isPower_97 : decode cX12_isPower 97 = .ok (.aload_n 0, 1) := by decide +kernel
theorem dX12_isPower_98 : decode cX12_isPower 98 = .ok (.aload_n 0, 1) := by decide +kernel
theorem dX12_isPower_99 : decode cX12_isPower 99 = .ok (.getfield 15, 3) := by decide +kernel
theorem dX12_isPower_102 : decode cX12_isPower 102 = .ok (.bipush 7, 2) := by decide +kernel
theorem dX12_isPower_104 : decode cX12_isPower 104 = .ok (.aaload, 1) := by decide +kernel
theorem dX12_isPower_105 : decode cX12_isPower 105 = .ok (.aload_n 0, 1) := by decide +kernel
theorem dX12_isPower_106 : decode cX12_isPower 106 = .ok (.getfield 15, 3) := by decide +kernel
theorem dX12_isPower_109 : decode cX12_isPower 109 = .ok (.bipush 6, 2) := by decide +kernel
theorem dX12_isPower_111 : decode cX12_isPower 111 = .ok (.aaload, 1) := by decide +kernel
theorem dX12_isPower_112 : decode cX12_isPower 112 = .ok (.aload_n 0, 1) := by decide +kernel
theorem dX12_isPower_113 : decode cX12_isPower 113 = .ok (.getfield 15, 3) := by decide +kernel
theorem dX12_isPower_116 : decode cX12_isPower 116 = .ok (.bipush 8, 2) := by decide +kernel
theorem dX12_isPower_118 : decode cX12_isPower 118 = .ok (.aaload, 1) := by decide +kernel
theorem dX12_isPower_119 : decode cX12_isPower 119 = .ok (.invokevirtual 276, 3) := by decide +kernel
theorem dX12_isPower_122 : decode cX12_isPower 122 = .ok (.aload_n 0, 1) := by decide +kernel
theorem dX12_isPower_123 : decode cX12_isPower 123 = .ok (.getfield 15, 3) := by decide +kernel
theorem dX12_isPower_126 : decode cX12_isPower 126 = .ok (.bipush 8, 2) := by decide +kernel
theorem dX12_isPower_128 : decode cX12_isPower 128 = .ok (.aaload, 1) := by decide +kernel
theorem dX12_isPower_129 : decode cX12_isPower 129 = .ok (.aload_n 0, 1) := by decide +kernel
theorem dX12_isPower_130 : decode cX12_isPower 130 = .ok (.getfield 15, 3) := by decide +kernel
theorem dX12_isPower_133 : decode cX12_isPower 133 = .ok (.bipush 7, 2) := by decide +kernel
theorem dX12_isPower_135 : decode cX12_isPower 135 = .ok (.aaload, 1) := by decide +kernel
theorem dX12_isPower_136 : decode cX12_isPower 136 = .ok (.invokestatic 113, 3) := by decide +kernel
theorem dX12_isPower_139 : decode cX12_isPower 139 = .ok (.iload 4, 2) := by decide +kernel
theorem dX12_isPower_141 : decode cX12_isPower 141 = .ok (.iload_n 2, 1) := by decide +kernel
theorem dX12_isPower_142 : decode cX12_isPower 142 = .ok (.iadd, 1) := by decide +kernel
theorem dX12_isPower_143 : decode cX12_isPower 143 = .ok (.istore 4, 2) := by decide +kernel
theorem dX12_isPower_145 : decode cX12_isPower 145 = .ok (.goto (-56), 3) := by decide +kernel
theorem dX12_isPower_148 : decode cX12_isPower 148 = .ok (.aload_n 0, 1) := by decide +kernel
theorem dX12_isPower_149 : decode cX12_isPower 149 = .ok (.aload_n 0, 1) := by decide +kernel
theorem dX12_isPower_150 : decode cX12_isPower 150 = .ok (.getfield 15, 3) := by decide +kernel
theorem dX12_isPower_153 : decode cX12_isPower 153 = .ok (.bipush 7, 2) := by decide +kernel
theorem dX12_isPower_155 : decode cX12_isPower 155 = .ok (.aaload, 1) := by decide +kernel
theorem dX12_isPower_156 : decode cX12_isPower 156 = .ok (.aload_n 0, 1) := by decide +kernel
theorem dX12_isPower_157 : decode cX12_isPower 157 = .ok (.getfield 15, 3) := by decide +kernel
theorem dX12_isPower_160 : decode cX12_isPower 160 = .ok (.bipush 8, 2) := by decide +kernel
theorem dX12_isPower_162 : decode cX12_isPower 162 = .ok (.aaload, 1) := by decide +kernel
theorem dX12_isPower_163 : decode cX12_isPower 163 = .ok (.invokevirtual 124, 3) := by decide +kernel
theorem dX12_isPower_166 : decode cX12_isPower 166 = .ok (.aload_n 0, 1) := by decide +kernel
theorem dX12_isPower_167 : decode cX12_isPower 167 = .ok (.getfield 15, 3) := by decide +kernel
theorem dX12_isPower_170 : decode cX12_isPower 170 = .ok (.bipush 8, 2) := by decide +kernel
theorem dX12_isPower_172 : decode cX12_isPower 172 = .ok (.aaload, 1) := by decide +kernel
theorem dX12_isPower_173 : decode cX12_isPower 173 = .ok (.aload_n 1, 1) := by decide +kernel
theorem dX12_isPower_174 : decode cX12_isPower 174 = .ok (.invokestatic 269, 3) := by decide +kernel
theorem dX12_isPower_177 : decode cX12_isPower 177 = .ok (.ireturn, 1) := by decide +kernel
theorem dX12_rootOf_0 : decode cX12_rootOf 0 = .ok (.iconst 1, 1) := by decide +kernel
theorem dX12_rootOf_1 : decode cX12_rootOf 1 = .ok (.istore_n 2, 1) := by decide +kernel
theorem dX12_rootOf_2 : decode cX12_rootOf 2 = .ok (.iload_n 2, 1) := by decide +kernel
theorem dX12_rootOf_3 : decode cX12_rootOf 3 = .ok (.aload_n 1, 1) := by decide +kernel
theorem dX12_rootOf_4 : decode cX12_rootOf 4 = .ok (.iconst 1, 1) := by decide +kernel
theorem dX12_rootOf_5 : decode cX12_rootOf 5 = .ok (.iaload, 1) := by decide +kernel
theorem dX12_rootOf_6 : decode cX12_rootOf 6 = .ok (.if_icmp .ge 72, 3) := by decide +kernel
theorem dX12_rootOf_9 : decode cX12_rootOf 9 = .ok (.aload_n 1, 1) := by decide +kernel
theorem dX12_rootOf_10 : decode cX12_rootOf 10 = .ok (.iconst 1, 1) := by decide +kernel
theorem dX12_rootOf_11 : decode cX12_rootOf 11 = .ok (.iaload, 1) := by decide +kernel
theorem dX12_rootOf_12 : decode cX12_rootOf 12 = .ok (.iload_n 2, 1) := by decide +kernel
theorem dX12_rootOf_13 : decode cX12_rootOf 13 = .ok (.irem, 1) := by decide +kernel
theorem dX12_rootOf_14 : decode cX12_rootOf 14 = .ok (.ifCond .ne 58, 3) := by decide +kernel
theorem dX12_rootOf_17 : decode cX12_rootOf 17 = .ok (.aload_n 0, 1) := by decide +kernel
theorem dX12_rootOf_18 : decode cX12_rootOf 18 = .ok (.aload_n 1, 1) := by decide +kernel
theorem dX12_rootOf_19 : decode cX12_rootOf 19 = .ok (.iload_n 2, 1) := by decide +kernel
theorem dX12_rootOf_20 : decode cX12_rootOf 20 = .ok (.iconst 1, 1) := by decide +kernel
theorem dX12_rootOf_21 : decode cX12_rootOf 21 = .ok (.isub, 1) := by decide +kernel
theorem dX12_rootOf_22 : decode cX12_rootOf 22 = .ok (.invokestatic 87, 3) := by decide +kernel
theorem dX12_rootOf_25 : decode cX12_rootOf 25 = .ok (.invokevirtual 91, 3) := by decide +kernel
theorem dX12_rootOf_28 : decode cX12_rootOf 28 = .ok (.aload_n 1, 1) := by decide +kernel
theorem dX12_rootOf_29 : decode cX12_rootOf 29 = .ok (.iconst 0, 1) := by decide +kernel
theorem dX12_rootOf_30 : decode cX12_rootOf 30 = .ok (.iaload, 1) := by decide +kernel
theorem dX12_rootOf_31 : decode cX12_rootOf 31 = .ok (.if_icmp .eq 6, 3) := by decide +kernel
theorem dX12_rootOf_34 : decode cX12_rootOf 34 = .ok (.goto 38, 3) := by decide +kernel
theorem dX12_rootOf_37 : decode cX12_rootOf 37 = .ok (.iconst 0, 1) := by decide +kernel
theorem dX12_rootOf_38 : decode cX12_rootOf 38 = .ok (.istore_n 3, 1) := by decide +kernel
theorem dX12_rootOf_39 : decode cX12_rootOf 39 = .ok (.iload_n 3, 1) := by decide +kernel
theorem dX12_rootOf_40 : decode cX12_rootOf 40 = .ok (.aload_n 0, 1) := by decide +kernel
theorem dX12_rootOf_41 : decode cX12_rootOf 41 = .ok (.aload_n 1, 1) := by decide +kernel
theorem dX12_rootOf_42 : decode cX12_rootOf 42 = .ok (.iconst 0, 1) := by decide +kernel
theorem dX12_rootOf_43 : decode cX12_rootOf 43 = .ok (.iaload, 1) := by decide +kernel
theorem dX12_rootOf_44 : decode cX12_rootOf 44 = .ok (.invokevirtual 84, 3) := by decide +kernel
theorem dX12_rootOf_47 : decode cX12_rootOf 47 = .ok (.if_icmp .ge 25, 3) := by decide +kernel
theorem dX12_rootOf_50 : decode cX12_rootOf 50 = .ok (.aload_n 0, 1) := by decide +kernel
theorem dX12_rootOf_51 : decode cX12_rootOf 51 = .ok (.aload_n 1, 1) := by decide +kernel
theorem dX12_rootOf_52 : decode cX12_rootOf 52 = .ok (.iload_n 2, 1) := by decide +kernel
theorem dX12_rootOf_53 : decode cX12_rootOf 53 = .ok (.iload_n 3, 1) := by decide +kernel
theorem dX12_rootOf_54 : decode cX12_rootOf 54 = .ok (.invokevirtual 325, 3) := by decide +kernel
theorem dX12_rootOf_57 : decode cX12_rootOf 57 = .ok (.ifCond .eq 9, 3) := by decide +kernel
theorem dX12_rootOf_60 : decode cX12_rootOf 60 = .ok (.aload_n 1, 1) := by decide +kernel
theorem dX12_rootOf_61 : decode cX12_rootOf 61 = .ok (.iconst 1, 1) := by decide +kernel
theorem dX12_rootOf_62 : decode cX12_rootOf 62 = .ok (.iaload, 1) := by decide +kernel
theorem dX12_rootOf_63 : decode cX12_rootOf 63 = .ok (.iload_n 2, 1) := by decide +kernel
theorem dX12_rootOf_64 : decode cX12_rootOf 64 = .ok (.idiv, 1) := by decide +kernel
theorem dX12_rootOf_65 : decode cX12_rootOf 65 = .ok (.ireturn, 1) := by decide +kernel
theorem dX12_rootOf_66 : decode cX12_rootOf 66 = .ok (.iinc 3 1, 3) := by decide +kernel
theorem dX12_rootOf_69 : decode cX12_rootOf 69 = .ok (.goto (-30), 3) := by decide +kernel
theorem dX12_rootOf_72 : decode cX12_rootOf 72 = .ok (.iinc 2 1, 3) := by decide +kernel
theorem dX12_rootOf_75 : decode cX12_rootOf 75 = .ok (.goto (-73), 3) := by decide +kernel
theorem dX12_rootOf_78 : decode cX12_rootOf 78 = .ok (.iconst 1, 1) := by decide +kernel
theorem dX12_rootOf_79 : decode cX12_rootOf 79 = .ok (.ireturn, 1) := by decide +kernel
theorem dX12_root_0 : decode cX12_root 0 = .ok (.aload_n 0, 1) := by decide +kernel
theorem dX12_root_1 : decode cX12_root 1 = .ok (.iload_n 1, 1) := by decide +kernel
theorem dX12_root_2 : decode cX12_root 2 = .ok (.invokevirtual 293, 3) := by decide +kernel
theorem dX12_root_5 : decode cX12_root 5 = .ok (.istore_n 2, 1) := by decide +kernel
theorem dX12_root_6 : decode cX12_root 6 = .ok (.iload_n 2, 1) := by decide +kernel
theorem dX12_root_7 : decode cX12_root 7 = .ok (.ifCond .le 9, 3) := by decide +kernel
theorem dX12_root_10 : decode cX12_root 10 = .ok (.aload_n 0, 1) := by decide +kernel
theorem dX12_root_11 : decode cX12_root 11 = .ok (.iload_n 2, 1) := by decide +kernel
theorem dX12_root_12 : decode cX12_root 12 = .ok (.invokevirtual 238, 3) := by decide +kernel
theorem dX12_root_15 : decode cX12_root 15 = .ok (.ireturn, 1) := by decide +kernel
theorem dX12_root_16 : decode cX12_root 16 = .ok (.aload_n 0, 1) := by decide +kernel
theorem dX12_root_17 : decode cX12_root 17 = .ok (.iload_n 1, 1) := by decide +kernel
theorem dX12_root_18 : decode cX12_root 18 = .ok (.aload_n 0, 1) := by decide +kernel
theorem dX12_root_19 : decode cX12_root 19 = .ok (.getfield 15, 3) := by decide +kernel
theorem dX12_root_22 : decode cX12_root 22 = .ok (.iconst 4, 1) := by decide +kernel
theorem dX12_root_23 : decode cX12_root 23 = .ok (.aaload, 1) := by decide +kernel
theorem dX12_root_24 : decode cX12_root 24 = .ok (.invokevirtual 286, 3) := by decide +kernel
theorem dX12_root_27 : decode cX12_root 27 = .ok (.aload_n 0, 1) := by decide +kernel
theorem dX12_root_28 : decode cX12_root 28 = .ok (.getfield 15, 3) := by decide +kernel
theorem dX12_root_31 : decode cX12_root 31 = .ok (.iconst 4, 1) := by decide +kernel
theorem dX12_root_32 : decode cX12_root 32 = .ok (.aaload, 1) := by decide +kernel
theorem dX12_root_33 : decode cX12_root 33 = .ok (.iconst 1, 1) := by decide +kernel
theorem dX12_root_34 : decode cX12_root 34 = .ok (.iaload, 1) := by decide +kernel
theorem dX12_root_35 : decode cX12_root 35 = .ok (.ifCond .ne 11, 3) := by decide +kernel
theorem dX12_root_38 : decode cX12_root 38 = .ok (.aload_n 0, 1) := by decide +kernel
theorem dX12_root_39 : decode cX12_root 39 = .ok (.iconst 5, 1) := by decide +kernel
theorem dX12_root_40 : decode cX12_root 40 = .ok (.invokevirtual 238, 3) := by decide +kernel
theorem dX12_root_43 : decode cX12_root 43 = .ok (.goto 17, 3) := by decide +kernel
theorem dX12_root_46 : decode cX12_root 46 = .ok (.aload_n 0, 1) := by decide +kernel
theorem dX12_root_47 : decode cX12_root 47 = .ok (.aload_n 0, 1) := by decide +kernel
theorem dX12_root_48 : decode cX12_root 48 = .ok (.aload_n 0, 1) := by decide +kernel
theorem dX12_root_49 : decode cX12_root 49 = .ok (.getfield 15, 3) := by decide +kernel
theorem dX12_root_52 : decode cX12_root 52 = .ok (.iconst 4, 1) := by decide +kernel
theorem dX12_root_53 : decode cX12_root 53 = .ok (.aaload, 1) := by decide +kernel
theorem dX12_root_54 : decode cX12_root 54 = .ok (.invokevirtual 329, 3) := by decide +kernel
theorem dX12_root_57 : decode cX12_root 57 = .ok (.invokevirtual 251, 3) := by decide +kernel
theorem dX12_root_60 : decode cX12_root 60 = .ok (.ireturn, 1) := by decide +kernel
theorem dX12_swaps_0 : decode cX12_swaps 0 = .ok (.aload_n 0, 1) := by decide +kernel
theorem dX12_swaps_1 : decode cX12_swaps 1 = .ok (.iload_n 1, 1) := by decide +kernel
theorem dX12_swaps_2 : decode cX12_swaps 2 = .ok (.iload_n 2, 1) := by decide +kernel
theorem dX12_swaps_3 : decode cX12_swaps 3 = .ok (.invokevirtual 316, 3) := by decide +kernel
theorem dX12_swaps_6 : decode cX12_swaps 6 = .ok (.istore_n 3, 1) := by decide +kernel
theorem dX12_swaps_7 : decode cX12_swaps 7 = .ok (.iload_n 3, 1) := by decide +kernel
theorem dX12_swaps_8 : decode cX12_swaps 8 = .ok (.ifCond .le 9, 3) := by decide +kernel
theorem dX12_swaps_11 : decode cX12_swaps 11 = .ok (.aload_n 0, 1) := by decide +kernel
theorem dX12_swaps_12 : decode cX12_swaps 12 = .ok (.iload_n 3, 1) := by decide +kernel
theorem dX12_swaps_13 : decode cX12_swaps 13 = .ok (.invokevirtual 238, 3) := by decide +kernel
theorem dX12_swaps_16 : decode cX12_swaps 16 = .ok (.ireturn, 1) := by decide +kernel
theorem dX12_swaps_17 : decode cX12_swaps 17 = .ok (.aload_n 0, 1) := by decide +kernel
theorem dX12_swaps_18 : decode cX12_swaps 18 = .ok (.iload_n 1, 1) := by decide +kernel
theorem dX12_swaps_19 : decode cX12_swaps 19 = .ok (.aload_n 0, 1) := by decide +kernel
theorem dX12_swaps_20 : decode cX12_swaps 20 = .ok (.getfield 15, 3) := by decide +kernel
theorem dX12_swaps_23 : decode cX12_swaps 23 = .ok (.iconst 0, 1) := by decide +kernel
theorem dX12_swaps_24 : decode cX12_swaps 24 = .ok (.aaload, 1) := by decide +kernel
theorem dX12_swaps_25 : decode cX12_swaps 25 = .ok (.invokevirtual 127, 3) := by decide +kernel
theorem dX12_swaps_28 : decode cX12_swaps 28 = .ok (.aload_n 0, 1) := by decide +kernel
theorem dX12_swaps_29 : decode cX12_swaps 29 = .ok (.iload_n 2, 1) := by decide +kernel
theorem dX12_swaps_30 : decode cX12_swaps 30 = .ok (.aload_n 0, 1) := by decide +kernel
theorem dX12_swaps_31 : decode cX12_swaps 31 = .ok (.getfield 15, 3) := by decide +kernel
theorem dX12_swaps_34 : decode cX12_swaps 34 = .ok (.iconst 1, 1) := by decide +kernel
theorem dX12_swaps_35 : decode cX12_swaps 35 = .ok (.aaload, 1) := by decide +kernel
theorem dX12_swaps_36 : decode cX12_swaps 36 = .ok (.invokevirtual 127, 3) := by decide +kernel
theorem dX12_swaps_39 : decode cX12_swaps 39 = .ok (.aload_n 0, 1) := by decide +kernel
theorem dX12_swaps_40 : decode cX12_swaps 40 = .ok (.getfield 15, 3) := by decide +kernel
theorem dX12_swaps_43 : decode cX12_swaps 43 = .ok (.iconst 0, 1) := by decide +kernel
theorem dX12_swaps_44 : decode cX12_swaps 44 = .ok (.aaload, 1) := by decide +kernel
theorem dX12_swaps_45 : decode cX12_swaps 45 = .ok (.iconst 0, 1) := by decide +kernel
theorem dX12_swaps_46 : decode cX12_swaps 46 = .ok (.iaload, 1) := by decide +kernel
theorem dX12_swaps_47 : decode cX12_swaps 47 = .ok (.aload_n 0, 1) := by decide +kernel
theorem dX12_swaps_48 : decode cX12_swaps 48 = .ok (.getfield 15, 3) := by decide +kernel
theorem dX12_swaps_51 : decode cX12_swaps 51 = .ok (.iconst 1, 1) := by decide +kernel
theorem dX12_swaps_52 : decode cX12_swaps 52 = .ok (.aaload, 1) := by decide +kernel
theorem dX12_swaps_53 : decode cX12_swaps 53 = .ok (.iconst 0, 1) := by decide +kernel
theorem dX12_swaps_54 : decode cX12_swaps 54 = .ok (.iaload, 1) := by decide +kernel
theorem dX12_swaps_55 : decode cX12_swaps 55 = .ok (.if_icmp .eq 9, 3) := by decide +kernel
theorem dX12_swaps_58 : decode cX12_swaps 58 = .ok (.aload_n 0, 1) := by decide +kernel
theorem dX12_swaps_59 : decode cX12_swaps 59 = .ok (.iconst 4, 1) := by decide +kernel
theorem dX12_swaps_60 : decode cX12_swaps 60 = .ok (.invokevirtual 238, 3) := by decide +kernel
theorem dX12_swaps_63 : decode cX12_swaps 63 = .ok (.ireturn, 1) := by decide +kernel
theorem dX12_swaps_64 : decode cX12_swaps 64 = .ok (.aload_n 0, 1) := by decide +kernel
theorem dX12_swaps_65 : decode cX12_swaps 65 = .ok (.aload_n 0, 1) := by decide +kernel
theorem dX12_swaps_66 : decode cX12_swaps 66 = .ok (.getfield 15, 3) := by decide +kernel
theorem dX12_swaps_69 : decode cX12_swaps 69 = .ok (.iconst 0, 1) := by decide +kernel
theorem dX12_swaps_70 : decode cX12_swaps 70 = .ok (.aaload, 1) := by decide +kernel
theorem dX12_swaps_71 : decode cX12_swaps 71 = .ok (.aload_n 0, 1) := by decide +kernel
theorem dX12_swaps_72 : decode cX12_swaps 72 = .ok (.getfield 15, 3) := by decide +kernel
theorem dX12_swaps_75 : decode cX12_swaps 75 = .ok (.iconst 1, 1) := by decide +kernel
theorem dX12_swaps_76 : decode cX12_swaps 76 = .ok (.aaload, 1) := by decide +kernel
theorem dX12_swaps_77 : decode cX12_swaps 77 = .ok (.aload_n 0, 1) := by decide +kernel
theorem dX12_swaps_78 : decode cX12_swaps 78 = .ok (.getfield 15, 3) := by decide +kernel
theorem dX12_swaps_81 : decode cX12_swaps 81 = .ok (.iconst 2, 1) := by decide +kernel
theorem dX12_swaps_82 : decode cX12_swaps 82 = .ok (.aaload, 1) := by decide +kernel
theorem dX12_swaps_83 : decode cX12_swaps 83 = .ok (.invokevirtual 276, 3) := by decide +kernel
theorem dX12_swaps_86 : decode cX12_swaps 86 = .ok (.aload_n 0, 1) := by decide +kernel
theorem dX12_swaps_87 : decode cX12_swaps 87 = .ok (.aload_n 0, 1) := by decide +kernel
theorem dX12_swaps_88 : decode cX12_swaps 88 = .ok (.getfield 15, 3) := by decide +kernel
theorem dX12_swaps_91 : decode cX12_swaps 91 = .ok (.iconst 1, 1) := by decide +kernel
theorem dX12_swaps_92 : decode cX12_swaps 92 = .ok (.aaload, 1) := by decide +kernel
theorem dX12_swaps_93 : decode cX12_swaps 93 = .ok (.aload_n 0, 1) := by decide +kernel
theorem dX12_swaps_94 : decode cX12_swaps 94 = .ok (.getfield 15, 3) := by decide +kernel
theorem dX12_swaps_97 : decode cX12_swaps 97 = .ok (.iconst 0, 1) := by decide +kernel
theorem dX12_swaps_98 : decode cX12_swaps 98 = .ok (.aaload, 1) := by decide +kernel
theorem dX12_swaps_99 : decode cX12_swaps 99 = .ok (.aload_n 0, 1) := by decide +kernel
theorem dX12_swaps_100 : decode cX12_swaps 100 = .ok (.getfield 15, 3) := by decide +kernel
theorem dX12_swaps_103 : decode cX12_swaps 103 = .ok (.iconst 3, 1) := by decide +kernel
theorem dX12_swaps_104 : decode cX12_swaps 104 = .ok (.aaload, 1) := by decide +kernel
theorem dX12_swaps_105 : decode cX12_swaps 105 = .ok (.invokevirtual 276, 3) := by decide +kernel
theorem dX12_swaps_108 : decode cX12_swaps 108 = .ok (.aload_n 0, 1) := by decide +kernel
theorem dX12_swaps_109 : decode cX12_swaps 109 = .ok (.aload_n 0, 1) := by decide +kernel
theorem dX12_swaps_110 : decode cX12_swaps 110 = .ok (.getfield 15, 3) := by decide +kernel
theorem dX12_swaps_113 : decode cX12_swaps 113 = .ok (.iconst 2, 1) := by decide +kernel
theorem dX12_swaps_114 : decode cX12_swaps 114 = .ok (.aaload, 1) := by decide +kernel
theorem dX12_swaps_115 : decode cX12_swaps 115 = .ok (.aload_n 0, 1) := by decide +kernel
theorem dX12_swaps_116 : decode cX12_swaps 116 = .ok (.getfield 15, 3) := by decide +kernel
theorem dX12_swaps_119 : decode cX12_swaps 119 = .ok (.iconst 3, 1) := by decide +kernel
theorem dX12_swaps_120 : decode cX12_swaps 120 = .ok (.aaload, 1) := by decide +kernel
theorem dX12_swaps_121 : decode cX12_swaps 121 = .ok (.invokestatic 269, 3) := by decide +kernel
theorem dX12_swaps_124 : decode cX12_swaps 124 = .ok (.ifCond .eq 7, 3) := by decide +kernel
theorem dX12_swaps_127 : decode cX12_swaps 127 = .ok (.iconst 1, 1) := by decide +kernel
theorem dX12_swaps_128 : decode cX12_swaps 128 = .ok (.goto 4, 3) := by decide +kernel
theorem dX12_swaps_131 : decode cX12_swaps 131 = .ok (.iconst 0, 1) := by decide +kernel
theorem dX12_swaps_132 : decode cX12_swaps 132 = .ok (.invokevirtual 251, 3) := by decide +kernel
theorem dX12_swaps_135 : decode cX12_swaps 135 = .ok (.ireturn, 1) := by decide +kernel
theorem dX12_ways_0 : decode cX12_ways 0 = .ok (.aload_n 0, 1) := by decide +kernel
theorem dX12_ways_1 : decode cX12_ways 1 = .ok (.aload_n 1, 1) := by decide +kernel
theorem dX12_ways_2 : decode cX12_ways 2 = .ok (.aload_n 0, 1) := by decide +kernel
theorem dX12_ways_3 : decode cX12_ways 3 = .ok (.getfield 15, 3) := by decide +kernel
theorem dX12_ways_6 : decode cX12_ways 6 = .ok (.bipush 7, 2) := by decide +kernel
theorem dX12_ways_8 : decode cX12_ways 8 = .ok (.aaload, 1) := by decide +kernel
theorem dX12_ways_9 : decode cX12_ways 9 = .ok (.invokevirtual 280, 3) := by decide +kernel
theorem dX12_ways_12 : decode cX12_ways 12 = .ok (.aload_n 0, 1) := by decide +kernel
theorem dX12_ways_13 : decode cX12_ways 13 = .ok (.aload_n 0, 1) := by decide +kernel
theorem dX12_ways_14 : decode cX12_ways 14 = .ok (.getfield 15, 3) := by decide +kernel
theorem dX12_ways_17 : decode cX12_ways 17 = .ok (.bipush 7, 2) := by decide +kernel
theorem dX12_ways_19 : decode cX12_ways 19 = .ok (.aaload, 1) := by decide +kernel
theorem dX12_ways_20 : decode cX12_ways 20 = .ok (.aload_n 2, 1) := by decide +kernel
theorem dX12_ways_21 : decode cX12_ways 21 = .ok (.aload_n 3, 1) := by decide +kernel
theorem dX12_ways_22 : decode cX12_ways 22 = .ok (.invokevirtual 276, 3) := by decide +kernel
theorem dX12_ways_25 : decode cX12_ways 25 = .ok (.return_, 1) := by decide +kernel
theorem dX12_wrongPair_0 : decode cX12_wrongPair 0 = .ok (.aload_n 0, 1) := by decide +kernel
theorem dX12_wrongPair_1 : decode cX12_wrongPair 1 = .ok (.iload_n 1, 1) := by decide +kernel
theorem dX12_wrongPair_2 : decode cX12_wrongPair 2 = .ok (.invokevirtual 266, 3) := by decide +kernel
theorem dX12_wrongPair_5 : decode cX12_wrongPair 5 = .ok (.ifCond .eq 11, 3) := by decide +kernel
theorem dX12_wrongPair_8 : decode cX12_wrongPair 8 = .ok (.aload_n 0, 1) := by decide +kernel
theorem dX12_wrongPair_9 : decode cX12_wrongPair 9 = .ok (.iload_n 2, 1) := by decide +kernel
theorem dX12_wrongPair_10 : decode cX12_wrongPair 10 = .ok (.invokevirtual 266, 3) := by decide +kernel
theorem dX12_wrongPair_13 : decode cX12_wrongPair 13 = .ok (.ifCond .ne 5, 3) := by decide +kernel
theorem dX12_wrongPair_16 : decode cX12_wrongPair 16 = .ok (.iconst 2, 1) := by decide +kernel
theorem dX12_wrongPair_17 : decode cX12_wrongPair 17 = .ok (.ireturn, 1) := by decide +kernel
theorem dX12_wrongPair_18 : decode cX12_wrongPair 18 = .ok (.aload_n 0, 1) := by decide +kernel
theorem dX12_wrongPair_19 : decode cX12_wrongPair 19 = .ok (.iload_n 1, 1) := by decide +kernel
theorem dX12_wrongPair_20 : decode cX12_wrongPair 20 = .ok (.aload_n 0, 1) := by decide +kernel
theorem dX12_wrongPair_21 : decode cX12_wrongPair 21 = .ok (.getfield 15, 3) := by decide +kernel
theorem dX12_wrongPair_24 : decode cX12_wrongPair 24 = .ok (.iconst 0, 1) := by decide +kernel
theorem dX12_wrongPair_25 : decode cX12_wrongPair 25 = .ok (.aaload, 1) := by decide +kernel
theorem dX12_wrongPair_26 : decode cX12_wrongPair 26 = .ok (.invokevirtual 127, 3) := by decide +kernel
theorem dX12_wrongPair_29 : decode cX12_wrongPair 29 = .ok (.aload_n 0, 1) := by decide +kernel
theorem dX12_wrongPair_30 : decode cX12_wrongPair 30 = .ok (.iload_n 2, 1) := by decide +kernel
theorem dX12_wrongPair_31 : decode cX12_wrongPair 31 = .ok (.aload_n 0, 1) := by decide +kernel
theorem dX12_wrongPair_32 : decode cX12_wrongPair 32 = .ok (.getfield 15, 3) := by decide +kernel
theorem dX12_wrongPair_35 : decode cX12_wrongPair 35 = .ok (.iconst 1, 1) := by decide +kernel
theorem dX12_wrongPair_36 : decode cX12_wrongPair 36 = .ok (.aaload, 1) := by decide +kernel
theorem dX12_wrongPair_37 : decode cX12_wrongPair 37 = .ok (.invokevirtual 127, 3) := by decide +kernel
theorem dX12_wrongPair_40 : decode cX12_wrongPair 40 = .ok (.aload_n 0, 1) := by decide +kernel
theorem dX12_wrongPair_41 : decode cX12_wrongPair 41 = .ok (.getfield 15, 3) := by decide +kernel
theorem dX12_wrongPair_44 : decode cX12_wrongPair 44 = .ok (.iconst 0, 1) := by decide +kernel
theorem dX12_wrongPair_45 : decode cX12_wrongPair 45 = .ok (.aaload, 1) := by decide +kernel
theorem dX12_wrongPair_46 : decode cX12_wrongPair 46 = .ok (.iconst 0, 1) := by decide +kernel
theorem dX12_wrongPair_47 : decode cX12_wrongPair 47 = .ok (.iaload, 1) := by decide +kernel
theorem dX12_wrongPair_48 : decode cX12_wrongPair 48 = .ok (.aload_n 0, 1) := by decide +kernel
theorem dX12_wrongPair_49 : decode cX12_wrongPair 49 = .ok (.getfield 15, 3) := by decide +kernel
theorem dX12_wrongPair_52 : decode cX12_wrongPair 52 = .ok (.iconst 1, 1) := by decide +kernel
theorem dX12_wrongPair_53 : decode cX12_wrongPair 53 = .ok (.aaload, 1) := by decide +kernel
theorem dX12_wrongPair_54 : decode cX12_wrongPair 54 = .ok (.iconst 0, 1) := by decide +kernel
theorem dX12_wrongPair_55 : decode cX12_wrongPair 55 = .ok (.iaload, 1) := by decide +kernel
theorem dX12_wrongPair_56 : decode cX12_wrongPair 56 = .ok (.if_icmp .ne 7, 3) := by decide +kernel
theorem dX12_wrongPair_59 : decode cX12_wrongPair 59 = .ok (.iconst 0, 1) := by decide +kernel
theorem dX12_wrongPair_60 : decode cX12_wrongPair 60 = .ok (.goto 4, 3) := by decide +kernel
theorem dX12_wrongPair_63 : decode cX12_wrongPair 63 = .ok (.iconst 4, 1) := by decide +kernel
theorem dX12_wrongPair_64 : decode cX12_wrongPair 64 = .ok (.ireturn, 1) := by decide +kernel
theorem dX12_apart_0 : decode cX12_apart 0 = .ok (.aload_n 0, 1) := by decide +kernel
theorem dX12_apart_1 : decode cX12_apart 1 = .ok (.iload_n 1, 1) := by decide +kernel
theorem dX12_apart_2 : decode cX12_apart 2 = .ok (.iload_n 2, 1) := by decide +kernel
theorem dX12_apart_3 : decode cX12_apart 3 = .ok (.invokevirtual 332, 3) := by decide +kernel
theorem dX12_apart_6 : decode cX12_apart 6 = .ok (.istore_n 3, 1) := by decide +kernel
theorem dX12_apart_7 : decode cX12_apart 7 = .ok (.iload_n 3, 1) := by decide +kernel
theorem dX12_apart_8 : decode cX12_apart 8 = .ok (.ifCond .le 9, 3) := by decide +kernel
theorem dX12_apart_11 : decode cX12_apart 11 = .ok (.aload_n 0, 1) := by decide +kernel
theorem dX12_apart_12 : decode cX12_apart 12 = .ok (.iload_n 3, 1) := by decide +kernel
theorem dX12_apart_13 : decode cX12_apart 13 = .ok (.invokevirtual 238, 3) := by decide +kernel
theorem dX12_apart_16 : decode cX12_apart 16 = .ok (.ireturn, 1) := by decide +kernel
theorem dX12_apart_17 : decode cX12_apart 17 = .ok (.aload_n 0, 1) := by decide +kernel
theorem dX12_apart_18 : decode cX12_apart 18 = .ok (.aload_n 0, 1) := by decide +kernel
theorem dX12_apart_19 : decode cX12_apart 19 = .ok (.getfield 15, 3) := by decide +kernel
theorem dX12_apart_22 : decode cX12_apart 22 = .ok (.iconst 0, 1) := by decide +kernel
theorem dX12_apart_23 : decode cX12_apart 23 = .ok (.aaload, 1) := by decide +kernel
theorem dX12_apart_24 : decode cX12_apart 24 = .ok (.aload_n 0, 1) := by decide +kernel
theorem dX12_apart_25 : decode cX12_apart 25 = .ok (.getfield 15, 3) := by decide +kernel
theorem dX12_apart_28 : decode cX12_apart 28 = .ok (.iconst 1, 1) := by decide +kernel
theorem dX12_apart_29 : decode cX12_apart 29 = .ok (.aaload, 1) := by decide +kernel
theorem dX12_apart_30 : decode cX12_apart 30 = .ok (.aload_n 0, 1) := by decide +kernel
theorem dX12_apart_31 : decode cX12_apart 31 = .ok (.getfield 15, 3) := by decide +kernel
theorem dX12_apart_34 : decode cX12_apart 34 = .ok (.iconst 2, 1) := by decide +kernel
theorem dX12_apart_35 : decode cX12_apart 35 = .ok (.aaload, 1) := by decide +kernel
theorem dX12_apart_36 : decode cX12_apart 36 = .ok (.invokevirtual 335, 3) := by decide +kernel
theorem dX12_apart_39 : decode cX12_apart 39 = .ok (.aload_n 0, 1) := by decide +kernel
theorem dX12_apart_40 : decode cX12_apart 40 = .ok (.aload_n 0, 1) := by decide +kernel
theorem dX12_apart_41 : decode cX12_apart 41 = .ok (.getfield 15, 3) := by decide +kernel
theorem dX12_apart_44 : decode cX12_apart 44 = .ok (.iconst 2, 1) := by decide +kernel
theorem dX12_apart_45 : decode cX12_apart 45 = .ok (.aaload, 1) := by decide +kernel
theorem dX12_apart_46 : decode cX12_apart 46 = .ok (.iconst 1, 1) := by decide +kernel
theorem dX12_apart_47 : decode cX12_apart 47 = .ok (.iaload, 1) := by decide +kernel
theorem dX12_apart_48 : decode cX12_apart 48 = .ok (.invokevirtual 251, 3) := by decide +kernel
theorem dX12_apart_51 : decode cX12_apart 51 = .ok (.ireturn, 1) := by decide +kernel
theorem dX12_moves_0 : decode cX12_moves 0 = .ok (.aload_n 0, 1) := by decide +kernel
theorem dX12_moves_1 : decode cX12_moves 1 = .ok (.iload_n 1, 1) := by decide +kernel
theorem dX12_moves_2 : decode cX12_moves 2 = .ok (.iload_n 2, 1) := by decide +kernel
theorem dX12_moves_3 : decode cX12_moves 3 = .ok (.invokevirtual 332, 3) := by decide +kernel
theorem dX12_moves_6 : decode cX12_moves 6 = .ok (.istore_n 3, 1) := by decide +kernel
theorem dX12_moves_7 : decode cX12_moves 7 = .ok (.iload_n 3, 1) := by decide +kernel
theorem dX12_moves_8 : decode cX12_moves 8 = .ok (.ifCond .ne 13, 3) := by decide +kernel
theorem dX12_moves_11 : decode cX12_moves 11 = .ok (.aload_n 0, 1) := by decide +kernel
theorem dX12_moves_12 : decode cX12_moves 12 = .ok (.iload_n 1, 1) := by decide +kernel
theorem dX12_moves_13 : decode cX12_moves 13 = .ok (.invokevirtual 283, 3) := by decide +kernel
theorem dX12_moves_16 : decode cX12_moves 16 = .ok (.ifCond .ne 5, 3) := by decide +kernel
theorem dX12_moves_19 : decode cX12_moves 19 = .ok (.iconst 4, 1) := by decide +kernel
theorem dX12_moves_20 : decode cX12_moves 20 = .ok (.istore_n 3, 1) := by decide +kernel
theorem dX12_moves_21 : decode cX12_moves 21 = .ok (.iload_n 3, 1) := by decide +kernel
theorem dX12_moves_22 : decode cX12_moves 22 = .ok (.ifCond .le 9, 3) := by decide +kernel
theorem dX12_moves_25 : decode cX12_moves 25 = .ok (.aload_n 0, 1) := by decide +kernel
theorem dX12_moves_26 : decode cX12_moves 26 = .ok (.iload_n 3, 1) := by decide +kernel
theorem dX12_moves_27 : decode cX12_moves 27 = .ok (.invokevirtual 238, 3) := by decide +kernel
theorem dX12_moves_30 : decode cX12_moves 30 = .ok (.ireturn, 1) := by decide +kernel
theorem dX12_moves_31 : decode cX12_moves 31 = .ok (.aload_n 0, 1) := by decide +kernel
theorem dX12_moves_32 : decode cX12_moves 32 = .ok (.aload_n 0, 1) := by decide +kernel
theorem dX12_moves_33 : decode cX12_moves 33 = .ok (.getfield 15, 3) := by decide +kernel
theorem dX12_moves_36 : decode cX12_moves 36 = .ok (.iconst 0, 1) := by decide +kernel
theorem dX12_moves_37 : decode cX12_moves 37 = .ok (.aaload, 1) := by decide +kernel
theorem dX12_moves_38 : decode cX12_moves 38 = .ok (.aload_n 0, 1) := by decide +kernel
theorem dX12_moves_39 : decode cX12_moves 39 = .ok (.getfield 15, 3) := by decide +kernel
theorem dX12_moves_42 : decode cX12_moves 42 = .ok (.iconst 1, 1) := by decide +kernel
theorem dX12_moves_43 : decode cX12_moves 43 = .ok (.aaload, 1) := by decide +kernel
theorem dX12_moves_44 : decode cX12_moves 44 = .ok (.aload_n 0, 1) := by decide +kernel
theorem dX12_moves_45 : decode cX12_moves 45 = .ok (.getfield 15, 3) := by decide +kernel
theorem dX12_moves_48 : decode cX12_moves 48 = .ok (.iconst 3, 1) := by decide +kernel
theorem dX12_moves_49 : decode cX12_moves 49 = .ok (.aaload, 1) := by decide +kernel
theorem dX12_moves_50 : decode cX12_moves 50 = .ok (.invokevirtual 276, 3) := by decide +kernel
theorem dX12_moves_53 : decode cX12_moves 53 = .ok (.aload_n 0, 1) := by decide +kernel
theorem dX12_moves_54 : decode cX12_moves 54 = .ok (.aload_n 0, 1) := by decide +kernel
theorem dX12_moves_55 : decode cX12_moves 55 = .ok (.getfield 15, 3) := by decide +kernel
theorem dX12_moves_58 : decode cX12_moves 58 = .ok (.iconst 1, 1) := by decide +kernel
theorem dX12_moves_59 : decode cX12_moves 59 = .ok (.aaload, 1) := by decide +kernel
theorem dX12_moves_60 : decode cX12_moves 60 = .ok (.aload_n 0, 1) := by decide +kernel
theorem dX12_moves_61 : decode cX12_moves 61 = .ok (.getfield 15, 3) := by decide +kernel
theorem dX12_moves_64 : decode cX12_moves 64 = .ok (.iconst 3, 1) := by decide +kernel
theorem dX12_moves_65 : decode cX12_moves 65 = .ok (.aaload, 1) := by decide +kernel
theorem dX12_moves_66 : decode cX12_moves 66 = .ok (.aload_n 0, 1) := by decide +kernel
theorem dX12_moves_67 : decode cX12_moves 67 = .ok (.getfield 15, 3) := by decide +kernel
theorem dX12_moves_70 : decode cX12_moves 70 = .ok (.iconst 2, 1) := by decide +kernel
theorem dX12_moves_71 : decode cX12_moves 71 = .ok (.aaload, 1) := by decide +kernel
theorem dX12_moves_72 : decode cX12_moves 72 = .ok (.invokevirtual 335, 3) := by decide +kernel
theorem dX12_moves_75 : decode cX12_moves 75 = .ok (.aload_n 0, 1) := by decide +kernel
theorem dX12_moves_76 : decode cX12_moves 76 = .ok (.aload_n 0, 1) := by decide +kernel
theorem dX12_moves_77 : decode cX12_moves 77 = .ok (.getfield 15, 3) := by decide +kernel
theorem dX12_moves_80 : decode cX12_moves 80 = .ok (.iconst 2, 1) := by decide +kernel
theorem dX12_moves_81 : decode cX12_moves 81 = .ok (.aaload, 1) := by decide +kernel
theorem dX12_moves_82 : decode cX12_moves 82 = .ok (.iconst 1, 1) := by decide +kernel
theorem dX12_moves_83 : decode cX12_moves 83 = .ok (.iaload, 1) := by decide +kernel
theorem dX12_moves_84 : decode cX12_moves 84 = .ok (.invokevirtual 251, 3) := by decide +kernel
theorem dX12_moves_87 : decode cX12_moves 87 = .ok (.ireturn, 1) := by decide +kernel
theorem dX12_way_0 : decode cX12_way 0 = .ok (.iload_n 3, 1) := by decide +kernel
theorem dX12_way_1 : decode cX12_way 1 = .ok (.ifCond .ge 7, 3) := by decide +kernel
theorem dX12_way_4 : decode cX12_way 4 = .ok (.iconst 1, 1) := by decide +kernel
theorem dX12_way_5 : decode cX12_way 5 = .ok (.goto 9, 3) := by decide +kernel
theorem dX12_way_8 : decode cX12_way 8 = .ok (.aload_n 0, 1) := by decide +kernel
theorem dX12_way_9 : decode cX12_way 9 = .ok (.iload_n 1, 1) := by decide +kernel
theorem dX12_way_10 : decode cX12_way 10 = .ok (.iload_n 2, 1) := by decide +kernel
theorem dX12_way_11 : decode cX12_way 11 = .ok (.invokevirtual 332, 3) := by decide +kernel
theorem dX12_way_14 : decode cX12_way 14 = .ok (.istore 4, 2) := by decide +kernel
theorem dX12_way_16 : decode cX12_way 16 = .ok (.iload 4, 2) := by decide +kernel
theorem dX12_way_18 : decode cX12_way 18 = .ok (.ifCond .le 10, 3) := by decide +kernel
theorem dX12_way_21 : decode cX12_way 21 = .ok (.aload_n 0, 1) := by decide +kernel
theorem dX12_way_22 : decode cX12_way 22 = .ok (.iload 4, 2) := by decide +kernel
theorem dX12_way_24 : decode cX12_way 24 = .ok (.invokevirtual 238, 3) := by decide +kernel
theorem dX12_way_27 : decode cX12_way 27 = .ok (.ireturn, 1) := by decide +kernel
theorem dX12_way_28 : decode cX12_way 28 = .ok (.aload_n 0, 1) := by decide +kernel
theorem dX12_way_29 : decode cX12_way 29 = .ok (.aload_n 0, 1) := by decide +kernel
theorem dX12_way_30 : decode cX12_way 30 = .ok (.getfield 15, 3) := by decide +kernel
theorem dX12_way_33 : decode cX12_way 33 = .ok (.iconst 0, 1) := by decide +kernel
theorem dX12_way_34 : decode cX12_way 34 = .ok (.aaload, 1) := by decide +kernel
theorem dX12_way_35 : decode cX12_way 35 = .ok (.aload_n 0, 1) := by decide +kernel
theorem dX12_way_36 : decode cX12_way 36 = .ok (.getfield 15, 3) := by decide +kernel
theorem dX12_way_39 : decode cX12_way 39 = .ok (.iconst 1, 1) := by decide +kernel
theorem dX12_way_40 : decode cX12_way 40 = .ok (.aaload, 1) := by decide +kernel
theorem dX12_way_41 : decode cX12_way 41 = .ok (.aload_n 0, 1) := by decide +kernel
theorem dX12_way_42 : decode cX12_way 42 = .ok (.getfield 15, 3) := by decide +kernel
theorem dX12_way_45 : decode cX12_way 45 = .ok (.iconst 2, 1) := by decide +kernel
theorem dX12_way_46 : decode cX12_way 46 = .ok (.aaload, 1) := by decide +kernel
theorem dX12_way_47 : decode cX12_way 47 = .ok (.invokevirtual 335, 3) := by decide +kernel
theorem dX12_way_50 : decode cX12_way 50 = .ok (.iload_n 3, 1) := by decide +kernel
theorem dX12_way_51 : decode cX12_way 51 = .ok (.aload_n 0, 1) := by decide +kernel
theorem dX12_way_52 : decode cX12_way 52 = .ok (.getfield 15, 3) := by decide +kernel
theorem dX12_way_55 : decode cX12_way 55 = .ok (.iconst 2, 1) := by decide +kernel
theorem dX12_way_56 : decode cX12_way 56 = .ok (.aaload, 1) := by decide +kernel
theorem dX12_way_57 : decode cX12_way 57 = .ok (.iconst 1, 1) := by decide +kernel
theorem dX12_way_58 : decode cX12_way 58 = .ok (.iaload, 1) := by decide +kernel
theorem dX12_way_59 : decode cX12_way 59 = .ok (.if_icmp .le 9, 3) := by decide +kernel
theorem dX12_way_62 : decode cX12_way 62 = .ok (.aload_n 0, 1) := by decide +kernel
theorem dX12_way_63 : decode cX12_way 63 = .ok (.iconst 5, 1) := by decide +kernel
theorem dX12_way_64 : decode cX12_way 64 = .ok (.invokevirtual 238, 3) := by decide +kernel
theorem dX12_way_67 : decode cX12_way 67 = .ok (.ireturn, 1) := by decide +kernel
theorem dX12_way_68 : decode cX12_way 68 = .ok (.aload_n 0, 1) := by decide +kernel
theorem dX12_way_69 : decode cX12_way 69 = .ok (.iload_n 3, 1) := by decide +kernel
theorem dX12_way_70 : decode cX12_way 70 = .ok (.ifCond .ne 14, 3) := by decide +kernel
theorem dX12_way_73 : decode cX12_way 73 = .ok (.aload_n 0, 1) := by decide +kernel
theorem dX12_way_74 : decode cX12_way 74 = .ok (.getfield 15, 3) := by decide +kernel
theorem dX12_way_77 : decode cX12_way 77 = .ok (.iconst 2, 1) := by decide +kernel
theorem dX12_way_78 : decode cX12_way 78 = .ok (.aaload, 1) := by decide +kernel
theorem dX12_way_79 : decode cX12_way 79 = .ok (.iconst 0, 1) := by decide +kernel
theorem dX12_way_80 : decode cX12_way 80 = .ok (.iaload, 1) := by decide +kernel
theorem dX12_way_81 : decode cX12_way 81 = .ok (.goto 19, 3) := by decide +kernel
theorem dX12_way_84 : decode cX12_way 84 = .ok (.aload_n 0, 1) := by decide +kernel
theorem dX12_way_85 : decode cX12_way 85 = .ok (.aload_n 0, 1) := by decide +kernel
theorem dX12_way_86 : decode cX12_way 86 = .ok (.getfield 15, 3) := by decide +kernel
theorem dX12_way_89 : decode cX12_way 89 = .ok (.iconst 2, 1) := by decide +kernel
theorem dX12_way_90 : decode cX12_way 90 = .ok (.aaload, 1) := by decide +kernel
theorem dX12_way_91 : decode cX12_way 91 = .ok (.iload_n 3, 1) := by decide +kernel
theorem dX12_way_92 : decode cX12_way 92 = .ok (.iconst 1, 1) := by decide +kernel
theorem dX12_way_93 : decode cX12_way 93 = .ok (.isub, 1) := by decide +kernel
theorem dX12_way_94 : decode cX12_way 94 = .ok (.invokestatic 87, 3) := by decide +kernel
theorem dX12_way_97 : decode cX12_way 97 = .ok (.invokevirtual 91, 3) := by decide +kernel
theorem dX12_way_100 : decode cX12_way 100 = .ok (.invokevirtual 251, 3) := by decide +kernel
theorem dX12_way_103 : decode cX12_way 103 = .ok (.ireturn, 1) := by decide +kernel
theorem dX12_near_0 : decode cX12_near 0 = .ok (.iload_n 2, 1) := by decide +kernel
theorem dX12_near_1 : decode cX12_near 1 = .ok (.iconst 0, 1) := by decide +kernel
theorem dX12_near_2 : decode cX12_near 2 = .ok (.bipush 99, 2) := by decide +kernel
theorem dX12_near_4 : decode cX12_near 4 = .ok (.invokestatic 200, 3) := by decide +kernel
theorem dX12_near_7 : decode cX12_near 7 = .ok (.ifCond .ne 9, 3) := by decide +kernel
theorem dX12_near_10 : decode cX12_near 10 = .ok (.aload_n 0, 1) := by decide +kernel
theorem dX12_near_11 : decode cX12_near 11 = .ok (.iconst 1, 1) := by decide +kernel
theorem dX12_near_12 : decode cX12_near 12 = .ok (.invokevirtual 238, 3) := by decide +kernel
theorem dX12_near_15 : decode cX12_near 15 = .ok (.ireturn, 1) := by decide +kernel
theorem dX12_near_16 : decode cX12_near 16 = .ok (.aload_n 0, 1) := by decide +kernel
theorem dX12_near_17 : decode cX12_near 17 = .ok (.iload_n 1, 1) := by decide +kernel
theorem dX12_near_18 : decode cX12_near 18 = .ok (.invokevirtual 266, 3) := by decide +kernel
theorem dX12_near_21 : decode cX12_near 21 = .ok (.ifCond .ne 9, 3) := by decide +kernel
theorem dX12_near_24 : decode cX12_near 24 = .ok (.aload_n 0, 1) := by decide +kernel
theorem dX12_near_25 : decode cX12_near 25 = .ok (.iconst 2, 1) := by decide +kernel
theorem dX12_near_26 : decode cX12_near 26 = .ok (.invokevirtual 238, 3) := by decide +kernel
theorem dX12_near_29 : decode cX12_near 29 = .ok (.ireturn, 1) := by decide +kernel
theorem dX12_near_30 : decode cX12_near 30 = .ok (.iconst 0, 1) := by decide +kernel
theorem dX12_near_31 : decode cX12_near 31 = .ok (.istore_n 3, 1) := by decide +kernel
theorem dX12_near_32 : decode cX12_near 32 = .ok (.iconst 0, 1) := by decide +kernel
theorem dX12_near_33 : decode cX12_near 33 = .ok (.istore 4, 2) := by decide +kernel
theorem dX12_near_35 : decode cX12_near 35 = .ok (.iload 4, 2) := by decide +kernel
theorem dX12_near_37 : decode cX12_near 37 = .ok (.aload_n 0, 1) := by decide +kernel
theorem dX12_near_38 : decode cX12_near 38 = .ok (.iconst 2, 1) := by decide +kernel
theorem dX12_near_39 : decode cX12_near 39 = .ok (.invokevirtual 70, 3) := by decide +kernel
theorem dX12_near_42 : decode cX12_near 42 = .ok (.if_icmp .ge 67, 3) := by decide +kernel
theorem dX12_near_45 : decode cX12_near 45 = .ok (.aload_n 0, 1) := by decide +kernel
theorem dX12_near_46 : decode cX12_near 46 = .ok (.iload_n 1, 1) := by decide +kernel
theorem dX12_near_47 : decode cX12_near 47 = .ok (.iload 4, 2) := by decide +kernel
theorem dX12_near_49 : decode cX12_near 49 = .ok (.invokevirtual 332, 3) := by decide +kernel
theorem dX12_near_52 : decode cX12_near 52 = .ok (.ifCond .eq 6, 3) := by decide +kernel
theorem dX12_near_55 : decode cX12_near 55 = .ok (.goto 48, 3) := by decide +kernel
theorem dX12_near_58 : decode cX12_near 58 = .ok (.aload_n 0, 1) := by decide +kernel
theorem dX12_near_59 : decode cX12_near 59 = .ok (.aload_n 0, 1) := by decide +kernel
theorem dX12_near_60 : decode cX12_near 60 = .ok (.getfield 15, 3) := by decide +kernel
theorem dX12_near_63 : decode cX12_near 63 = .ok (.iconst 0, 1) := by decide +kernel
theorem dX12_near_64 : decode cX12_near 64 = .ok (.aaload, 1) := by decide +kernel
theorem dX12_near_65 : decode cX12_near 65 = .ok (.aload_n 0, 1) := by decide +kernel
theorem dX12_near_66 : decode cX12_near 66 = .ok (.getfield 15, 3) := by decide +kernel
theorem dX12_near_69 : decode cX12_near 69 = .ok (.iconst 1, 1) := by decide +kernel
theorem dX12_near_70 : decode cX12_near 70 = .ok (.aaload, 1) := by decide +kernel
theorem dX12_near_71 : decode cX12_near 71 = .ok (.aload_n 0, 1) := by decide +kernel
theorem dX12_near_72 : decode cX12_near 72 = .ok (.getfield 15, 3) := by decide +kernel
theorem dX12_near_75 : decode cX12_near 75 = .ok (.iconst 2, 1) := by decide +kernel
theorem dX12_near_76 : decode cX12_near 76 = .ok (.aaload, 1) := by decide +kernel
theorem dX12_near_77 : decode cX12_near 77 = .ok (.invokevirtual 335, 3) := by decide +kernel
theorem dX12_near_80 : decode cX12_near 80 = .ok (.iload_n 3, 1) := by decide +kernel
theorem dX12_near_81 : decode cX12_near 81 = .ok (.aload_n 0, 1) := by decide +kernel
theorem dX12_near_82 : decode cX12_near 82 = .ok (.getfield 15, 3) := by decide +kernel
theorem dX12_near_85 : decode cX12_near 85 = .ok (.iconst 2, 1) := by decide +kernel
theorem dX12_near_86 : decode cX12_near 86 = .ok (.aaload, 1) := by decide +kernel
theorem dX12_near_87 : decode cX12_near 87 = .ok (.iconst 1, 1) := by decide +kernel
theorem dX12_near_88 : decode cX12_near 88 = .ok (.iaload, 1) := by decide +kernel
theorem dX12_near_89 : decode cX12_near 89 = .ok (.iload_n 2, 1) := by decide +kernel
theorem dX12_near_90 : decode cX12_near 90 = .ok (.if_icmp .gt 10, 3) := by decide +kernel
theorem dX12_near_93 : decode cX12_near 93 = .ok (.iconst 1, 1) := by decide +kernel
theorem dX12_near_94 : decode cX12_near 94 = .ok (.iload 4, 2) := by decide +kernel
theorem dX12_near_96 : decode cX12_near 96 = .ok (.ishl, 1) := by decide +kernel
theorem dX12_near_97 : decode cX12_near 97 = .ok (.goto 4, 3) := by decide +kernel
theorem dX12_near_100 : decode cX12_near 100 = .ok (.iconst 0, 1) := by decide +kernel
theorem dX12_near_101 : decode cX12_near 101 = .ok (.ior, 1) := by decide +kernel
theorem dX12_near_102 : decode cX12_near 102 = .ok (.istore_n 3, 1) := by decide +kernel
theorem dX12_near_103 : decode cX12_near 103 = .ok (.iinc 4 1, 3) := by decide +kernel
theorem dX12_near_106 : decode cX12_near 106 = .ok (.goto (-71), 3) := by decide +kernel
theorem dX12_near_109 : decode cX12_near 109 = .ok (.aload_n 0, 1) := by decide +kernel
theorem dX12_near_110 : decode cX12_near 110 = .ok (.iload_n 3, 1) := by decide +kernel
theorem dX12_near_111 : decode cX12_near 111 = .ok (.invokevirtual 251, 3) := by decide +kernel
theorem dX12_near_114 : decode cX12_near 114 = .ok (.ireturn, 1) := by decide +kernel
theorem dX12_held_0 : decode cX12_held 0 = .ok (.lload_n 0, 1) := by decide +kernel
theorem dX12_held_1 : decode cX12_held 1 = .ok (.ldc2_w 338, 3) := by decide +kernel
theorem dX12_held_4 : decode cX12_held 4 = .ok (.lcmp, 1) := by decide +kernel
theorem dX12_held_5 : decode cX12_held 5 = .ok (.ifCond .le 9, 3) := by decide +kernel
theorem dX12_held_8 : decode cX12_held 8 = .ok (.ldc2_w 338, 3) := by decide +kernel
theorem dX12_held_11 : decode cX12_held 11 = .ok (.goto 4, 3) := by decide +kernel
theorem dX12_held_14 : decode cX12_held 14 = .ok (.lload_n 0, 1) := by decide +kernel
theorem dX12_held_15 : decode cX12_held 15 = .ok (.lreturn, 1) := by decide +kernel
theorem dX12_choices_0 : decode cX12_choices 0 = .ok (.aload_n 0, 1) := by decide +kernel
theorem dX12_choices_1 : decode cX12_choices 1 = .ok (.iload_n 1, 1) := by decide +kernel
theorem dX12_choices_2 : decode cX12_choices 2 = .ok (.invokevirtual 81, 3) := by decide +kernel
theorem dX12_choices_5 : decode cX12_choices 5 = .ok (.iload_n 2, 1) := by decide +kernel
theorem dX12_choices_6 : decode cX12_choices 6 = .ok (.ifCond .lt 14, 3) := by decide +kernel
theorem dX12_choices_9 : decode cX12_choices 9 = .ok (.iload_n 1, 1) := by decide +kernel
theorem dX12_choices_10 : decode cX12_choices 10 = .ok (.iload_n 2, 1) := by decide +kernel
theorem dX12_choices_11 : decode cX12_choices 11 = .ok (.iconst 1, 1) := by decide +kernel
theorem dX12_choices_12 : decode cX12_choices 12 = .ok (.ixor, 1) := by decide +kernel
theorem dX12_choices_13 : decode cX12_choices 13 = .ok (.if_icmp .ne 7, 3) := by decide +kernel
theorem dX12_choices_16 : decode cX12_choices 16 = .ok (.iconst 1, 1) := by decide +kernel
theorem dX12_choices_17 : decode cX12_choices 17 = .ok (.goto 4, 3) := by decide +kernel
theorem dX12_choices_20 : decode cX12_choices 20 = .ok (.iconst 0, 1) := by decide +kernel
theorem dX12_choices_21 : decode cX12_choices 21 = .ok (.isub, 1) := by decide +kernel
theorem dX12_choices_22 : decode cX12_choices 22 = .ok (.ireturn, 1) := by decide +kernel
theorem dX12_homes_0 : decode cX12_homes 0 = .ok (.iload_n 2, 1) := by decide +kernel
theorem dX12_homes_1 : decode cX12_homes 1 = .ok (.ifCond .ne 21, 3) := by decide +kernel
theorem dX12_homes_4 : decode cX12_homes 4 = .ok (.iload_n 1, 1) := by decide +kernel
theorem dX12_homes_5 : decode cX12_homes 5 = .ok (.iload 4, 2) := by decide +kernel
theorem dX12_homes_7 : decode cX12_homes 7 = .ok (.if_icmp .ne 13, 3) := by decide +kernel
theorem dX12_homes_10 : decode cX12_homes 10 = .ok (.aload_n 0, 1) := by decide +kernel
theorem dX12_homes_11 : decode cX12_homes 11 = .ok (.iload 4, 2) := by decide +kernel
theorem dX12_homes_13 : decode cX12_homes 13 = .ok (.invokevirtual 84, 3) := by decide +kernel
theorem dX12_homes_16 : decode cX12_homes 16 = .ok (.i2l, 1) := by decide +kernel
theorem dX12_homes_17 : decode cX12_homes 17 = .ok (.goto 4, 3) := by decide +kernel
theorem dX12_homes_20 : decode cX12_homes 20 = .ok (.lconst 0, 1) := by decide +kernel
theorem dX12_homes_21 : decode cX12_homes 21 = .ok (.lreturn, 1) := by decide +kernel
theorem dX12_homes_22 : decode cX12_homes 22 = .ok (.aload_n 0, 1) := by decide +kernel
theorem dX12_homes_23 : decode cX12_homes 23 = .ok (.getfield 56, 3) := by decide +kernel
theorem dX12_homes_26 : decode cX12_homes 26 = .ok (.iload_n 1, 1) := by decide +kernel
theorem dX12_homes_27 : decode cX12_homes 27 = .ok (.aaload, 1) := by decide +kernel
theorem dX12_homes_28 : decode cX12_homes 28 = .ok (.iload_n 2, 1) := by decide +kernel
theorem dX12_homes_29 : decode cX12_homes 29 = .ok (.aaload, 1) := by decide +kernel
theorem dX12_homes_30 : decode cX12_homes 30 = .ok (.iload_n 3, 1) := by decide +kernel
theorem dX12_homes_31 : decode cX12_homes 31 = .ok (.iconst 1, 1) := by decide +kernel
theorem dX12_homes_32 : decode cX12_homes 32 = .ok (.iadd, 1) := by decide +kernel
theorem dX12_homes_33 : decode cX12_homes 33 = .ok (.laload, 1) := by decide +kernel
theorem dX12_homes_34 : decode cX12_homes 34 = .ok (.lconst 0, 1) := by decide +kernel
theorem dX12_homes_35 : decode cX12_homes 35 = .ok (.lcmp, 1) := by decide +kernel
theorem dX12_homes_36 : decode cX12_homes 36 = .ok (.ifCond .lt 16, 3) := by decide +kernel
theorem dX12_homes_39 : decode cX12_homes 39 = .ok (.aload_n 0, 1) := by decide +kernel
theorem dX12_homes_40 : decode cX12_homes 40 = .ok (.getfield 56, 3) := by decide +kernel
theorem dX12_homes_43 : decode cX12_homes 43 = .ok (.iload_n 1, 1) := by decide +kernel
theorem dX12_homes_44 : decode cX12_homes 44 = .ok (.aaload, 1) := by decide +kernel
theorem dX12_homes_45 : decode cX12_homes 45 = .ok (.iload_n 2, 1) := by decide +kernel
theorem dX12_homes_46 : decode cX12_homes 46 = .ok (.aaload, 1) := by decide +kernel
theorem dX12_homes_47 : decode cX12_homes 47 = .ok (.iload_n 3, 1) := by decide +kernel
theorem dX12_homes_48 : decode cX12_homes 48 = .ok (.iconst 1, 1) := by decide +kernel
theorem dX12_homes_49 : decode cX12_homes 49 = .ok (.iadd, 1) := by decide +kernel
theorem dX12_homes_50 : decode cX12_homes 50 = .ok (.laload, 1) := by decide +kernel
theorem dX12_homes_51 : decode cX12_homes 51 = .ok (.lreturn, 1) := by decide +kernel
theorem dX12_homes_52 : decode cX12_homes 52 = .ok (.lconst 0, 1) := by decide +kernel
theorem dX12_homes_53 : decode cX12_homes 53 = .ok (.lstore 5, 2) := by decide +kernel
theorem dX12_homes_55 : decode cX12_homes 55 = .ok (.iconst 0, 1) := by decide +kernel
theorem dX12_homes_56 : decode cX12_homes 56 = .ok (.istore 7, 2) := by decide +kernel
theorem dX12_homes_58 : decode cX12_homes 58 = .ok (.iload 7, 2) := by decide +kernel
theorem dX12_homes_60 : decode cX12_homes 60 = .ok (.iconst 2, 1) := by decide +kernel
theorem dX12_homes_61 : decode cX12_homes 61 = .ok (.aload_n 0, 1) := by decide +kernel
theorem dX12_homes_62 : decode cX12_homes 62 = .ok (.iconst 1, 1) := by decide +kernel
theorem dX12_homes_63 : decode cX12_homes 63 = .ok (.invokevirtual 70, 3) := by decide +kernel
theorem dX12_homes_66 : decode cX12_homes 66 = .ok (.imul, 1) := by decide +kernel
theorem dX12_homes_67 : decode cX12_homes 67 = .ok (.if_icmp .ge 53, 3) := by decide +kernel
theorem dX12_homes_70 : decode cX12_homes 70 = .ok (.aload_n 0, 1) := by decide +kernel
theorem dX12_homes_71 : decode cX12_homes 71 = .ok (.iload 7, 2) := by decide +kernel
theorem dX12_homes_73 : decode cX12_homes 73 = .ok (.invokevirtual 78, 3) := by decide +kernel
theorem dX12_homes_76 : decode cX12_homes 76 = .ok (.iload_n 1, 1) := by decide +kernel
theorem dX12_homes_77 : decode cX12_homes 77 = .ok (.if_icmp .ne 37, 3) := by decide +kernel
theorem dX12_homes_80 : decode cX12_homes 80 = .ok (.lload 5, 2) := by decide +kernel
theorem dX12_homes_82 : decode cX12_homes 82 = .ok (.aload_n 0, 1) := by decide +kernel
theorem dX12_homes_83 : decode cX12_homes 83 = .ok (.iload 7, 2) := by decide +kernel
theorem dX12_homes_85 : decode cX12_homes 85 = .ok (.iload_n 3, 1) := by decide +kernel
theorem dX12_homes_86 : decode cX12_homes 86 = .ok (.invokevirtual 340, 3) := by decide +kernel
theorem dX12_homes_89 : decode cX12_homes 89 = .ok (.i2l, 1) := by decide +kernel
theorem dX12_homes_90 : decode cX12_homes 90 = .ok (.aload_n 0, 1) := by decide +kernel
theorem dX12_homes_91 : decode cX12_homes 91 = .ok (.aload_n 0, 1) := by decide +kernel
theorem dX12_homes_92 : decode cX12_homes 92 = .ok (.iload 7, 2) := by decide +kernel
theorem dX12_homes_94 : decode cX12_homes 94 = .ok (.invokevirtual 91, 3) := by decide +kernel
theorem dX12_homes_97 : decode cX12_homes 97 = .ok (.iload_n 2, 1) := by decide +kernel
theorem dX12_homes_98 : decode cX12_homes 98 = .ok (.iconst 1, 1) := by decide +kernel
theorem dX12_homes_99 : decode cX12_homes 99 = .ok (.isub, 1) := by decide +kernel
theorem dX12_homes_100 : decode cX12_homes 100 = .ok (.iload 7, 2) := by decide +kernel
theorem dX12_homes_102 : decode cX12_homes 102 = .ok (.iload 4, 2) := by decide +kernel
theorem dX12_homes_104 : decode cX12_homes 104 = .ok (.invokevirtual 343, 3) := by decide +kernel
theorem dX12_homes_107 : decode cX12_homes 107 = .ok (.lmul, 1) := by decide +kernel
theorem dX12_homes_108 : decode cX12_homes 108 = .ok (.ladd, 1) := by decide +kernel
theorem dX12_homes_109 : decode cX12_homes 109 = .ok (.invokestatic 347, 3) := by decide +kernel
theorem dX12_homes_112 : decode cX12_homes 112 = .ok (.lstore 5, 2) := by decide +kernel
theorem dX12_homes_114 : decode cX12_homes 114 = .ok (.iinc 7 1, 3) := by decide +kernel
theorem dX12_homes_117 : decode cX12_homes 117 = .ok (.goto (-59), 3) := by decide +kernel
theorem dX12_homes_120 : decode cX12_homes 120 = .ok (.aload_n 0, 1) := by decide +kernel
theorem dX12_homes_121 : decode cX12_homes 121 = .ok (.getfield 56, 3) := by decide +kernel
theorem dX12_homes_124 : decode cX12_homes 124 = .ok (.iload_n 1, 1) := by decide +kernel
theorem dX12_homes_125 : decode cX12_homes 125 = .ok (.aaload, 1) := by decide +kernel
theorem dX12_homes_126 : decode cX12_homes 126 = .ok (.iload_n 2, 1) := by decide +kernel
theorem dX12_homes_127 : decode cX12_homes 127 = .ok (.aaload, 1) := by decide +kernel
theorem dX12_homes_128 : decode cX12_homes 128 = .ok (.iload_n 3, 1) := by decide +kernel
theorem dX12_homes_129 : decode cX12_homes 129 = .ok (.iconst 1, 1) := by decide +kernel
theorem dX12_homes_130 : decode cX12_homes 130 = .ok (.iadd, 1) := by decide +kernel
theorem dX12_homes_131 : decode cX12_homes 131 = .ok (.lload 5, 2) := by decide +kernel
theorem dX12_homes_133 : decode cX12_homes 133 = .ok (.lastore, 1) := by decide +kernel
theorem dX12_homes_134 : decode cX12_homes 134 = .ok (.lload 5, 2) := by decide +kernel
theorem dX12_homes_136 : decode cX12_homes 136 = .ok (.lreturn, 1) := by decide +kernel
theorem dX12_forgets_0 : decode cX12_forgets 0 = .ok (.iconst 0, 1) := by decide +kernel
theorem dX12_forgets_1 : decode cX12_forgets 1 = .ok (.istore_n 1, 1) := by decide +kernel
theorem dX12_forgets_2 : decode cX12_forgets 2 = .ok (.iload_n 1, 1) := by decide +kernel
theorem dX12_forgets_3 : decode cX12_forgets 3 = .ok (.bipush 6, 2) := by decide +kernel
theorem dX12_forgets_5 : decode cX12_forgets 5 = .ok (.if_icmp .ge 50, 3) := by decide +kernel
theorem dX12_forgets_8 : decode cX12_forgets 8 = .ok (.iconst 0, 1) := by decide +kernel
theorem dX12_forgets_9 : decode cX12_forgets 9 = .ok (.istore_n 2, 1) := by decide +kernel
theorem dX12_forgets_10 : decode cX12_forgets 10 = .ok (.iload_n 2, 1) := by decide +kernel
theorem dX12_forgets_11 : decode cX12_forgets 11 = .ok (.bipush 12, 2) := by decide +kernel
theorem dX12_forgets_13 : decode cX12_forgets 13 = .ok (.if_icmp .gt 36, 3) := by decide +kernel
theorem dX12_forgets_16 : decode cX12_forgets 16 = .ok (.iconst 0, 1) := by decide +kernel
theorem dX12_forgets_17 : decode cX12_forgets 17 = .ok (.istore_n 3, 1) := by decide +kernel
theorem dX12_forgets_18 : decode cX12_forgets 18 = .ok (.iload_n 3, 1) := by decide +kernel
theorem dX12_forgets_19 : decode cX12_forgets 19 = .ok (.bipush 12, 2) := by decide +kernel
theorem dX12_forgets_21 : decode cX12_forgets 21 = .ok (.if_icmp .gt 22, 3) := by decide +kernel
theorem dX12_forgets_24 : decode cX12_forgets 24 = .ok (.aload_n 0, 1) := by decide +kernel
theorem dX12_forgets_25 : decode cX12_forgets 25 = .ok (.getfield 56, 3) := by decide +kernel
theorem dX12_forgets_28 : decode cX12_forgets 28 = .ok (.iload_n 1, 1) := by decide +kernel
theorem dX12_forgets_29 : decode cX12_forgets 29 = .ok (.aaload, 1) := by decide +kernel
theorem dX12_forgets_30 : decode cX12_forgets 30 = .ok (.iload_n 2, 1) := by decide +kernel
theorem dX12_forgets_31 : decode cX12_forgets 31 = .ok (.aaload, 1) := by decide +kernel
theorem dX12_forgets_32 : decode cX12_forgets 32 = .ok (.iload_n 3, 1) := by decide +kernel
theorem dX12_forgets_33 : decode cX12_forgets 33 = .ok (.ldc2_w 351, 3) := by decide +kernel
theorem dX12_forgets_36 : decode cX12_forgets 36 = .ok (.lastore, 1) := by decide +kernel
theorem dX12_forgets_37 : decode cX12_forgets 37 = .ok (.iinc 3 1, 3) := by decide +kernel
theorem dX12_forgets_40 : decode cX12_forgets 40 = .ok (.goto (-22), 3) := by decide +kernel
theorem dX12_forgets_43 : decode cX12_forgets 43 = .ok (.iinc 2 1, 3) := by decide +kernel
theorem dX12_forgets_46 : decode cX12_forgets 46 = .ok (.goto (-36), 3) := by decide +kernel
theorem dX12_forgets_49 : decode cX12_forgets 49 = .ok (.iinc 1 1, 3) := by decide +kernel
theorem dX12_forgets_52 : decode cX12_forgets 52 = .ok (.goto (-50), 3) := by decide +kernel
theorem dX12_forgets_55 : decode cX12_forgets 55 = .ok (.return_, 1) := by decide +kernel
theorem dX12_holds_0 : decode cX12_holds 0 = .ok (.iload_n 2, 1) := by decide +kernel
theorem dX12_holds_1 : decode cX12_holds 1 = .ok (.iconst 0, 1) := by decide +kernel
theorem dX12_holds_2 : decode cX12_holds 2 = .ok (.bipush 12, 2) := by decide +kernel
theorem dX12_holds_4 : decode cX12_holds 4 = .ok (.invokestatic 200, 3) := by decide +kernel
theorem dX12_holds_7 : decode cX12_holds 7 = .ok (.ifCond .ne 10, 3) := by decide +kernel
theorem dX12_holds_10 : decode cX12_holds 10 = .ok (.aload_n 0, 1) := by decide +kernel
theorem dX12_holds_11 : decode cX12_holds 11 = .ok (.iconst 1, 1) := by decide +kernel
theorem dX12_holds_12 : decode cX12_holds 12 = .ok (.invokevirtual 238, 3) := by decide +kernel
theorem dX12_holds_15 : decode cX12_holds 15 = .ok (.i2l, 1) := by decide +kernel
theorem dX12_holds_16 : decode cX12_holds 16 = .ok (.lreturn, 1) := by decide +kernel
theorem dX12_holds_17 : decode cX12_holds 17 = .ok (.aload_n 0, 1) := by decide +kernel
theorem dX12_holds_18 : decode cX12_holds 18 = .ok (.iload_n 1, 1) := by decide +kernel
theorem dX12_holds_19 : decode cX12_holds 19 = .ok (.invokevirtual 293, 3) := by decide +kernel
theorem dX12_holds_22 : decode cX12_holds 22 = .ok (.istore_n 3, 1) := by decide +kernel
theorem dX12_holds_23 : decode cX12_holds 23 = .ok (.iload_n 3, 1) := by decide +kernel
theorem dX12_holds_24 : decode cX12_holds 24 = .ok (.ifCond .le 10, 3) := by decide +kernel
theorem dX12_holds_27 : decode cX12_holds 27 = .ok (.aload_n 0, 1) := by decide +kernel
theorem dX12_holds_28 : decode cX12_holds 28 = .ok (.iload_n 3, 1) := by decide +kernel
theorem dX12_holds_29 : decode cX12_holds 29 = .ok (.invokevirtual 238, 3) := by decide +kernel
theorem dX12_holds_32 : decode cX12_holds 32 = .ok (.i2l, 1) := by decide +kernel
theorem dX12_holds_33 : decode cX12_holds 33 = .ok (.lreturn, 1) := by decide +kernel
theorem dX12_holds_34 : decode cX12_holds 34 = .ok (.aload_n 0, 1) := by decide +kernel
theorem dX12_holds_35 : decode cX12_holds 35 = .ok (.iload_n 1, 1) := by decide +kernel
theorem dX12_holds_36 : decode cX12_holds 36 = .ok (.aload_n 0, 1) := by decide +kernel
theorem dX12_holds_37 : decode cX12_holds 37 = .ok (.getfield 15, 3) := by decide +kernel
theorem dX12_holds_40 : decode cX12_holds 40 = .ok (.iconst 0, 1) := by decide +kernel
theorem dX12_holds_41 : decode cX12_holds 41 = .ok (.aaload, 1) := by decide +kernel
theorem dX12_holds_42 : decode cX12_holds 42 = .ok (.invokevirtual 286, 3) := by decide +kernel
theorem dX12_holds_45 : decode cX12_holds 45 = .ok (.aload_n 0, 1) := by decide +kernel
theorem dX12_holds_46 : decode cX12_holds 46 = .ok (.getfield 15, 3) := by decide +kernel
theorem dX12_holds_49 : decode cX12_holds 49 = .ok (.iconst 0, 1) := by decide +kernel
theorem dX12_holds_50 : decode cX12_holds 50 = .ok (.aaload, 1) := by decide +kernel
theorem dX12_holds_51 : decode cX12_holds 51 = .ok (.iconst 1, 1) := by decide +kernel
theorem dX12_holds_52 : decode cX12_holds 52 = .ok (.iaload, 1) := by decide +kernel
theorem dX12_holds_53 : decode cX12_holds 53 = .ok (.ifCond .le 12, 3) := by decide +kernel
theorem dX12_holds_56 : decode cX12_holds 56 = .ok (.aload_n 0, 1) := by decide +kernel
theorem dX12_holds_57 : decode cX12_holds 57 = .ok (.iconst 5, 1) := by decide +kernel
theorem dX12_holds_58 : decode cX12_holds 58 = .ok (.invokevirtual 238, 3) := by decide +kernel
theorem dX12_holds_61 : decode cX12_holds 61 = .ok (.i2l, 1) := by decide +kernel
theorem dX12_holds_62 : decode cX12_holds 62 = .ok (.goto 30, 3) := by decide +kernel
theorem dX12_holds_65 : decode cX12_holds 65 = .ok (.aload_n 0, 1) := by decide +kernel
theorem dX12_holds_66 : decode cX12_holds 66 = .ok (.aload_n 0, 1) := by decide +kernel
theorem dX12_holds_67 : decode cX12_holds 67 = .ok (.aload_n 0, 1) := by decide +kernel
theorem dX12_holds_68 : decode cX12_holds 68 = .ok (.getfield 15, 3) := by decide +kernel
theorem dX12_holds_71 : decode cX12_holds 71 = .ok (.iconst 0, 1) := by decide +kernel
theorem dX12_holds_72 : decode cX12_holds 72 = .ok (.aaload, 1) := by decide +kernel
theorem dX12_holds_73 : decode cX12_holds 73 = .ok (.iconst 0, 1) := by decide +kernel
theorem dX12_holds_74 : decode cX12_holds 74 = .ok (.iaload, 1) := by decide +kernel
theorem dX12_holds_75 : decode cX12_holds 75 = .ok (.aload_n 0, 1) := by decide +kernel
theorem dX12_holds_76 : decode cX12_holds 76 = .ok (.getfield 15, 3) := by decide +kernel
theorem dX12_holds_79 : decode cX12_holds 79 = .ok (.iconst 0, 1) := by decide +kernel
theorem dX12_holds_80 : decode cX12_holds 80 = .ok (.aaload, 1) := by decide +kernel
theorem dX12_holds_81 : decode cX12_holds 81 = .ok (.iconst 0, 1) := by decide +kernel
theorem dX12_holds_82 : decode cX12_holds 82 = .ok (.invokestatic 94, 3) := by decide +kernel
theorem dX12_holds_85 : decode cX12_holds 85 = .ok (.iload_n 2, 1) := by decide +kernel
theorem dX12_holds_86 : decode cX12_holds 86 = .ok (.invokevirtual 353, 3) := by decide +kernel
theorem dX12_holds_89 : decode cX12_holds 89 = .ok (.invokevirtual 357, 3) := by decide +kernel
theorem dX12_holds_92 : decode cX12_holds 92 = .ok (.lreturn, 1) := by decide +kernel
theorem dX12_held0_0 : decode cX12_held0 0 = .ok (.iconst 0, 1) := by decide +kernel
theorem dX12_held0_1 : decode cX12_held0 1 = .ok (.istore 4, 2) := by decide +kernel
theorem dX12_held0_3 : decode cX12_held0 3 = .ok (.iload 4, 2) := by decide +kernel
theorem dX12_held0_5 : decode cX12_held0 5 = .ok (.aload_n 0, 1) := by decide +kernel
theorem dX12_held0_6 : decode cX12_held0 6 = .ok (.getfield 60, 3) := by decide +kernel
theorem dX12_held0_9 : decode cX12_held0 9 = .ok (.arraylength, 1) := by decide +kernel
theorem dX12_held0_10 : decode cX12_held0 10 = .ok (.if_icmp .ge 19, 3) := by decide +kernel
theorem dX12_held0_13 : decode cX12_held0 13 = .ok (.aload_n 0, 1) := by decide +kernel
theorem dX12_held0_14 : decode cX12_held0 14 = .ok (.getfield 60, 3) := by decide +kernel
theorem dX12_held0_17 : decode cX12_held0 17 = .ok (.iload 4, 2) := by decide +kernel
theorem dX12_held0_19 : decode cX12_held0 19 = .ok (.ldc2_w 351, 3) := by decide +kernel
theorem dX12_held0_22 : decode cX12_held0 22 = .ok (.lastore, 1) := by decide +kernel
theorem dX12_held0_23 : decode cX12_held0 23 = .ok (.iinc 4 1, 3) := by decide +kernel
theorem dX12_held0_26 : decode cX12_held0 26 = .ok (.goto (-23), 3) := by decide +kernel
theorem dX12_held0_29 : decode cX12_held0 29 = .ok (.aload_n 0, 1) := by decide +kernel
theorem dX12_held0_30 : decode cX12_held0 30 = .ok (.iload_n 1, 1) := by decide +kernel
theorem dX12_held0_31 : decode cX12_held0 31 = .ok (.iload_n 2, 1) := by decide +kernel
theorem dX12_held0_32 : decode cX12_held0 32 = .ok (.iload_n 3, 1) := by decide +kernel
theorem dX12_held0_33 : decode cX12_held0 33 = .ok (.iconst (-1), 1) := by decide +kernel
theorem dX12_held0_34 : decode cX12_held0 34 = .ok (.invokevirtual 359, 3) := by decide +kernel
theorem dX12_held0_37 : decode cX12_held0 37 = .ok (.lreturn, 1) := by decide +kernel
theorem dX12_heldFrom_0 : decode cX12_heldFrom 0 = .ok (.iload_n 3, 1) := by decide +kernel
theorem dX12_heldFrom_1 : decode cX12_heldFrom 1 = .ok (.sipush 360, 3) := by decide +kernel
theorem dX12_heldFrom_4 : decode cX12_heldFrom 4 = .ok (.imul, 1) := by decide +kernel
theorem dX12_heldFrom_5 : decode cX12_heldFrom 5 = .ok (.bipush 60, 2) := by decide +kernel
theorem dX12_heldFrom_7 : decode cX12_heldFrom 7 = .ok (.iload_n 1, 1) := by decide +kernel
theorem dX12_heldFrom_8 : decode cX12_heldFrom 8 = .ok (.imul, 1) := by decide +kernel
theorem dX12_heldFrom_9 : decode cX12_heldFrom 9 = .ok (.iadd, 1) := by decide +kernel
theorem dX12_heldFrom_10 : decode cX12_heldFrom 10 = .ok (.iload_n 2, 1) := by decide +kernel
theorem dX12_heldFrom_11 : decode cX12_heldFrom 11 = .ok (.iadd, 1) := by decide +kernel
theorem dX12_heldFrom_12 : decode cX12_heldFrom 12 = .ok (.bipush 13, 2) := by decide +kernel
theorem dX12_heldFrom_14 : decode cX12_heldFrom 14 = .ok (.imul, 1) := by decide +kernel
theorem dX12_heldFrom_15 : decode cX12_heldFrom 15 = .ok (.iload 4, 2) := by decide +kernel
theorem dX12_heldFrom_17 : decode cX12_heldFrom 17 = .ok (.iadd, 1) := by decide +kernel
theorem dX12_heldFrom_18 : decode cX12_heldFrom 18 = .ok (.iconst 1, 1) := by decide +kernel
theorem dX12_heldFrom_19 : decode cX12_heldFrom 19 = .ok (.iadd, 1) := by decide +kernel
theorem dX12_heldFrom_20 : decode cX12_heldFrom 20 = .ok (.istore 5, 2) := by decide +kernel
theorem dX12_heldFrom_22 : decode cX12_heldFrom 22 = .ok (.aload_n 0, 1) := by decide +kernel
theorem dX12_heldFrom_23 : decode cX12_heldFrom 23 = .ok (.getfield 60, 3) := by decide +kernel
theorem dX12_heldFrom_26 : decode cX12_heldFrom 26 = .ok (.iload 5, 2) := by decide +kernel
theorem dX12_heldFrom_28 : decode cX12_heldFrom 28 = .ok (.laload, 1) := by decide +kernel
theorem dX12_heldFrom_29 : decode cX12_heldFrom 29 = .ok (.lconst 0, 1) := by decide +kernel
theorem dX12_heldFrom_30 : decode cX12_heldFrom 30 = .ok (.lcmp, 1) := by decide +kernel
theorem dX12_heldFrom_31 : decode cX12_heldFrom 31 = .ok (.ifCond .lt 11, 3) := by decide +kernel
theorem dX12_heldFrom_34 : decode cX12_heldFrom 34 = .ok (.aload_n 0, 1) := by decide +kernel
theorem dX12_heldFrom_35 : decode cX12_heldFrom 35 = .ok (.getfield 60, 3) := by decide +kernel
theorem dX12_heldFrom_38 : decode cX12_heldFrom 38 = .ok (.iload 5, 2) := by decide +kernel
theorem dX12_heldFrom_40 : decode cX12_heldFrom 40 = .ok (.laload, 1) := by decide +kernel
theorem dX12_heldFrom_41 : decode cX12_heldFrom 41 = .ok (.lreturn, 1) := by decide +kernel
theorem dX12_heldFrom_42 : decode cX12_heldFrom 42 = .ok (.lconst 1, 1) := by decide +kernel
theorem dX12_heldFrom_43 : decode cX12_heldFrom 43 = .ok (.lstore 6, 2) := by decide +kernel
theorem dX12_heldFrom_45 : decode cX12_heldFrom 45 = .ok (.iconst 0, 1) := by decide +kernel
theorem dX12_heldFrom_46 : decode cX12_heldFrom 46 = .ok (.istore 8, 2) := by decide +kernel
theorem dX12_heldFrom_48 : decode cX12_heldFrom 48 = .ok (.iload 8, 2) := by decide +kernel
theorem dX12_heldFrom_50 : decode cX12_heldFrom 50 = .ok (.iconst 2, 1) := by decide +kernel
theorem dX12_heldFrom_51 : decode cX12_heldFrom 51 = .ok (.aload_n 0, 1) := by decide +kernel
theorem dX12_heldFrom_52 : decode cX12_heldFrom 52 = .ok (.iconst 1, 1) := by decide +kernel
theorem dX12_heldFrom_53 : decode cX12_heldFrom 53 = .ok (.invokevirtual 70, 3) := by decide +kernel
theorem dX12_heldFrom_56 : decode cX12_heldFrom 56 = .ok (.imul, 1) := by decide +kernel
theorem dX12_heldFrom_57 : decode cX12_heldFrom 57 = .ok (.if_icmp .ge 96, 3) := by decide +kernel
theorem dX12_heldFrom_60 : decode cX12_heldFrom 60 = .ok (.iload_n 3, 1) := by decide +kernel
theorem dX12_heldFrom_61 : decode cX12_heldFrom 61 = .ok (.ifCond .le 92, 3) := by decide +kernel
theorem dX12_heldFrom_64 : decode cX12_heldFrom 64 = .ok (.aload_n 0, 1) := by decide +kernel
theorem dX12_heldFrom_65 : decode cX12_heldFrom 65 = .ok (.iload 8, 2) := by decide +kernel
theorem dX12_heldFrom_67 : decode cX12_heldFrom 67 = .ok (.invokevirtual 78, 3) := by decide +kernel
theorem dX12_heldFrom_70 : decode cX12_heldFrom 70 = .ok (.iload_n 1, 1) := by decide +kernel
theorem dX12_heldFrom_71 : decode cX12_heldFrom 71 = .ok (.if_icmp .ne 76, 3) := by decide +kernel
theorem dX12_heldFrom_74 : decode cX12_heldFrom 74 = .ok (.iload_n 2, 1) := by decide +kernel
theorem dX12_heldFrom_75 : decode cX12_heldFrom 75 = .ok (.aload_n 0, 1) := by decide +kernel
theorem dX12_heldFrom_76 : decode cX12_heldFrom 76 = .ok (.iload 8, 2) := by decide +kernel
theorem dX12_heldFrom_78 : decode cX12_heldFrom 78 = .ok (.invokevirtual 81, 3) := by decide +kernel
theorem dX12_heldFrom_81 : decode cX12_heldFrom 81 = .ok (.irem, 1) := by decide +kernel
theorem dX12_heldFrom_82 : decode cX12_heldFrom 82 = .ok (.ifCond .ne 65, 3) := by decide +kernel
theorem dX12_heldFrom_85 : decode cX12_heldFrom 85 = .ok (.aload_n 0, 1) := by decide +kernel
theorem dX12_heldFrom_86 : decode cX12_heldFrom 86 = .ok (.iload 8, 2) := by decide +kernel
theorem dX12_heldFrom_88 : decode cX12_heldFrom 88 = .ok (.iload 4, 2) := by decide +kernel
theorem dX12_heldFrom_90 : decode cX12_heldFrom 90 = .ok (.invokevirtual 340, 3) := by decide +kernel
theorem dX12_heldFrom_93 : decode cX12_heldFrom 93 = .ok (.ifCond .ne 6, 3) := by decide +kernel
theorem dX12_heldFrom_96 : decode cX12_heldFrom 96 = .ok (.goto 51, 3) := by decide +kernel
theorem dX12_heldFrom_99 : decode cX12_heldFrom 99 = .ok (.lload 6, 2) := by decide +kernel
theorem dX12_heldFrom_101 : decode cX12_heldFrom 101 = .ok (.aload_n 0, 1) := by decide +kernel
theorem dX12_heldFrom_102 : decode cX12_heldFrom 102 = .ok (.iload 8, 2) := by decide +kernel
theorem dX12_heldFrom_104 : decode cX12_heldFrom 104 = .ok (.iload 4, 2) := by decide +kernel
theorem dX12_heldFrom_106 : decode cX12_heldFrom 106 = .ok (.invokevirtual 340, 3) := by decide +kernel
theorem dX12_heldFrom_109 : decode cX12_heldFrom 109 = .ok (.i2l, 1) := by decide +kernel
theorem dX12_heldFrom_110 : decode cX12_heldFrom 110 = .ok (.aload_n 0, 1) := by decide +kernel
theorem dX12_heldFrom_111 : decode cX12_heldFrom 111 = .ok (.aload_n 0, 1) := by decide +kernel
theorem dX12_heldFrom_112 : decode cX12_heldFrom 112 = .ok (.iload 8, 2) := by decide +kernel
theorem dX12_heldFrom_114 : decode cX12_heldFrom 114 = .ok (.invokevirtual 91, 3) := by decide +kernel
theorem dX12_heldFrom_117 : decode cX12_heldFrom 117 = .ok (.iload_n 2, 1) := by decide +kernel
theorem dX12_heldFrom_118 : decode cX12_heldFrom 118 = .ok (.aload_n 0, 1) := by decide +kernel
theorem dX12_heldFrom_119 : decode cX12_heldFrom 119 = .ok (.iload 8, 2) := by decide +kernel
theorem dX12_heldFrom_121 : decode cX12_heldFrom 121 = .ok (.invokevirtual 81, 3) := by decide +kernel
theorem dX12_heldFrom_124 : decode cX12_heldFrom 124 = .ok (.idiv, 1) := by decide +kernel
theorem dX12_heldFrom_125 : decode cX12_heldFrom 125 = .ok (.aload_n 0, 1) := by decide +kernel
theorem dX12_heldFrom_126 : decode cX12_heldFrom 126 = .ok (.iload 8, 2) := by decide +kernel
theorem dX12_heldFrom_128 : decode cX12_heldFrom 128 = .ok (.invokevirtual 107, 3) := by decide +kernel
theorem dX12_heldFrom_131 : decode cX12_heldFrom 131 = .ok (.imul, 1) := by decide +kernel
theorem dX12_heldFrom_132 : decode cX12_heldFrom 132 = .ok (.iload_n 3, 1) := by decide +kernel
theorem dX12_heldFrom_133 : decode cX12_heldFrom 133 = .ok (.iconst 1, 1) := by decide +kernel
theorem dX12_heldFrom_134 : decode cX12_heldFrom 134 = .ok (.isub, 1) := by decide +kernel
theorem dX12_heldFrom_135 : decode cX12_heldFrom 135 = .ok (.iload 8, 2) := by decide +kernel
theorem dX12_heldFrom_137 : decode cX12_heldFrom 137 = .ok (.invokevirtual 359, 3) := by decide +kernel
theorem dX12_heldFrom_140 : decode cX12_heldFrom 140 = .ok (.lmul, 1) := by decide +kernel
theorem dX12_heldFrom_141 : decode cX12_heldFrom 141 = .ok (.ladd, 1) := by decide +kernel
theorem dX12_heldFrom_142 : decode cX12_heldFrom 142 = .ok (.invokestatic 347, 3) := by decide +kernel
theorem dX12_heldFrom_145 : decode cX12_heldFrom 145 = .ok (.lstore 6, 2) := by decide +kernel
theorem dX12_heldFrom_147 : decode cX12_heldFrom 147 = .ok (.iinc 8 1, 3) := by decide +kernel
theorem dX12_heldFrom_150 : decode cX12_heldFrom 150 = .ok (.goto (-102), 3) := by decide +kernel
theorem dX12_heldFrom_153 : decode cX12_heldFrom 153 = .ok (.aload_n 0, 1) := by decide +kernel
theorem dX12_heldFrom_154 : decode cX12_heldFrom 154 = .ok (.getfield 60, 3) := by decide +kernel
theorem dX12_heldFrom_157 : decode cX12_heldFrom 157 = .ok (.iload 5, 2) := by decide +kernel
theorem dX12_heldFrom_159 : decode cX12_heldFrom 159 = .ok (.lload 6, 2) := by decide +kernel
theorem dX12_heldFrom_161 : decode cX12_heldFrom 161 = .ok (.lastore, 1) := by decide +kernel
theorem dX12_heldFrom_162 : decode cX12_heldFrom 162 = .ok (.lload 6, 2) := by decide +kernel
theorem dX12_heldFrom_164 : decode cX12_heldFrom 164 = .ok (.lreturn, 1) := by decide +kernel
theorem dX12_ball_0 : decode cX12_ball 0 = .ok (.iload_n 2, 1) := by decide +kernel
theorem dX12_ball_1 : decode cX12_ball 1 = .ok (.iconst 0, 1) := by decide +kernel
theorem dX12_ball_2 : decode cX12_ball 2 = .ok (.bipush 12, 2) := by decide +kernel
theorem dX12_ball_4 : decode cX12_ball 4 = .ok (.invokestatic 200, 3) := by decide +kernel
theorem dX12_ball_7 : decode cX12_ball 7 = .ok (.ifCond .ne 10, 3) := by decide +kernel
theorem dX12_ball_10 : decode cX12_ball 10 = .ok (.aload_n 0, 1) := by decide +kernel
theorem dX12_ball_11 : decode cX12_ball 11 = .ok (.iconst 1, 1) := by decide +kernel
theorem dX12_ball_12 : decode cX12_ball 12 = .ok (.invokevirtual 238, 3) := by decide +kernel
theorem dX12_ball_15 : decode cX12_ball 15 = .ok (.i2l, 1) := by decide +kernel
theorem dX12_ball_16 : decode cX12_ball 16 = .ok (.lreturn, 1) := by decide +kernel
theorem dX12_ball_17 : decode cX12_ball 17 = .ok (.aload_n 0, 1) := by decide +kernel
theorem dX12_ball_18 : decode cX12_ball 18 = .ok (.iload_n 1, 1) := by decide +kernel
theorem dX12_ball_19 : decode cX12_ball 19 = .ok (.invokevirtual 207, 3) := by decide +kernel
theorem dX12_ball_22 : decode cX12_ball 22 = .ok (.ifCond .eq 17, 3) := by decide +kernel
theorem dX12_ball_25 : decode cX12_ball 25 = .ok (.aload_n 0, 1) := by decide +kernel
theorem dX12_ball_26 : decode cX12_ball 26 = .ok (.aload_n 0, 1) := by decide +kernel
theorem dX12_ball_27 : decode cX12_ball 27 = .ok (.iload_n 1, 1) := by decide +kernel
theorem dX12_ball_28 : decode cX12_ball 28 = .ok (.iconst 0, 1) := by decide +kernel
theorem dX12_ball_29 : decode cX12_ball 29 = .ok (.iload_n 2, 1) := by decide +kernel
theorem dX12_ball_30 : decode cX12_ball 30 = .ok (.invokevirtual 353, 3) := by decide +kernel
theorem dX12_ball_33 : decode cX12_ball 33 = .ok (.invokevirtual 357, 3) := by decide +kernel
theorem dX12_ball_36 : decode cX12_ball 36 = .ok (.goto 9, 3) := by decide +kernel
theorem dX12_ball_39 : decode cX12_ball 39 = .ok (.aload_n 0, 1) := by decide +kernel
theorem dX12_ball_40 : decode cX12_ball 40 = .ok (.iconst 2, 1) := by decide +kernel
theorem dX12_ball_41 : decode cX12_ball 41 = .ok (.invokevirtual 238, 3) := by decide +kernel
theorem dX12_ball_44 : decode cX12_ball 44 = .ok (.i2l, 1) := by decide +kernel
theorem dX12_ball_45 : decode cX12_ball 45 = .ok (.lreturn, 1) := by decide +kernel
theorem dX12_sphere_0 : decode cX12_sphere 0 = .ok (.iload_n 2, 1) := by decide +kernel
theorem dX12_sphere_1 : decode cX12_sphere 1 = .ok (.iconst 0, 1) := by decide +kernel
theorem dX12_sphere_2 : decode cX12_sphere 2 = .ok (.bipush 12, 2) := by decide +kernel
theorem dX12_sphere_4 : decode cX12_sphere 4 = .ok (.invokestatic 200, 3) := by decide +kernel
theorem dX12_sphere_7 : decode cX12_sphere 7 = .ok (.ifCond .ne 10, 3) := by decide +kernel
theorem dX12_sphere_10 : decode cX12_sphere 10 = .ok (.aload_n 0, 1) := by decide +kernel
theorem dX12_sphere_11 : decode cX12_sphere 11 = .ok (.iconst 1, 1) := by decide +kernel
theorem dX12_sphere_12 : decode cX12_sphere 12 = .ok (.invokevirtual 238, 3) := by decide +kernel
theorem dX12_sphere_15 : decode cX12_sphere 15 = .ok (.i2l, 1) := by decide +kernel
theorem dX12_sphere_16 : decode cX12_sphere 16 = .ok (.lreturn, 1) := by decide +kernel
theorem dX12_sphere_17 : decode cX12_sphere 17 = .ok (.aload_n 0, 1) := by decide +kernel
theorem dX12_sphere_18 : decode cX12_sphere 18 = .ok (.iload_n 1, 1) := by decide +kernel
theorem dX12_sphere_19 : decode cX12_sphere 19 = .ok (.invokevirtual 207, 3) := by decide +kernel
theorem dX12_sphere_22 : decode cX12_sphere 22 = .ok (.ifCond .ne 10, 3) := by decide +kernel
theorem dX12_sphere_25 : decode cX12_sphere 25 = .ok (.aload_n 0, 1) := by decide +kernel
theorem dX12_sphere_26 : decode cX12_sphere 26 = .ok (.iconst 2, 1) := by decide +kernel
theorem dX12_sphere_27 : decode cX12_sphere 27 = .ok (.invokevirtual 238, 3) := by decide +kernel
theorem dX12_sphere_30 : decode cX12_sphere 30 = .ok (.i2l, 1) := by decide +kernel
theorem dX12_sphere_31 : decode cX12_sphere 31 = .ok (.lreturn, 1) := by decide +kernel
theorem dX12_sphere_32 : decode cX12_sphere 32 = .ok (.aload_n 0, 1) := by decide +kernel
theorem dX12_sphere_33 : decode cX12_sphere 33 = .ok (.invokevirtual 362, 3) := by decide +kernel
theorem dX12_sphere_36 : decode cX12_sphere 36 = .ok (.aload_n 0, 1) := by decide +kernel
theorem dX12_sphere_37 : decode cX12_sphere 37 = .ok (.aload_n 0, 1) := by decide +kernel
theorem dX12_sphere_38 : decode cX12_sphere 38 = .ok (.iload_n 1, 1) := by decide +kernel
theorem dX12_sphere_39 : decode cX12_sphere 39 = .ok (.iload_n 2, 1) := by decide +kernel
theorem dX12_sphere_40 : decode cX12_sphere 40 = .ok (.iconst (-1), 1) := by decide +kernel
theorem dX12_sphere_41 : decode cX12_sphere 41 = .ok (.iload_n 1, 1) := by decide +kernel
theorem dX12_sphere_42 : decode cX12_sphere 42 = .ok (.invokevirtual 343, 3) := by decide +kernel
theorem dX12_sphere_45 : decode cX12_sphere 45 = .ok (.invokevirtual 357, 3) := by decide +kernel
theorem dX12_sphere_48 : decode cX12_sphere 48 = .ok (.lreturn, 1) := by decide +kernel
theorem dX12_leastAhead_0 : decode cX12_leastAhead 0 = .ok (.iload_n 1, 1) := by decide +kernel
theorem dX12_leastAhead_1 : decode cX12_leastAhead 1 = .ok (.ifCond .lt 14, 3) := by decide +kernel
theorem dX12_leastAhead_4 : decode cX12_leastAhead 4 = .ok (.iload_n 0, 1) := by decide +kernel
theorem dX12_leastAhead_5 : decode cX12_leastAhead 5 = .ok (.iload_n 1, 1) := by decide +kernel
theorem dX12_leastAhead_6 : decode cX12_leastAhead 6 = .ok (.iconst 1, 1) := by decide +kernel
theorem dX12_leastAhead_7 : decode cX12_leastAhead 7 = .ok (.ixor, 1) := by decide +kernel
theorem dX12_leastAhead_8 : decode cX12_leastAhead 8 = .ok (.if_icmp .ne 7, 3) := by decide +kernel
theorem dX12_leastAhead_11 : decode cX12_leastAhead 11 = .ok (.iconst 1, 1) := by decide +kernel
theorem dX12_leastAhead_12 : decode cX12_leastAhead 12 = .ok (.goto 4, 3) := by decide +kernel
theorem dX12_leastAhead_15 : decode cX12_leastAhead 15 = .ok (.iconst 0, 1) := by decide +kernel
theorem dX12_leastAhead_16 : decode cX12_leastAhead 16 = .ok (.ireturn, 1) := by decide +kernel
theorem dX12_spell_0 : decode cX12_spell 0 = .ok (.iload_n 2, 1) := by decide +kernel
theorem dX12_spell_1 : decode cX12_spell 1 = .ok (.iconst 0, 1) := by decide +kernel
theorem dX12_spell_2 : decode cX12_spell 2 = .ok (.bipush 12, 2) := by decide +kernel
theorem dX12_spell_4 : decode cX12_spell 4 = .ok (.invokestatic 200, 3) := by decide +kernel
theorem dX12_spell_7 : decode cX12_spell 7 = .ok (.ifCond .eq 7, 3) := by decide +kernel
theorem dX12_spell_10 : decode cX12_spell 10 = .ok (.iload_n 3, 1) := by decide +kernel
theorem dX12_spell_11 : decode cX12_spell 11 = .ok (.ifCond .ge 9, 3) := by decide +kernel
theorem dX12_spell_14 : decode cX12_spell 14 = .ok (.aload_n 0, 1) := by decide +kernel
theorem dX12_spell_15 : decode cX12_spell 15 = .ok (.iconst 1, 1) := by decide +kernel
theorem dX12_spell_16 : decode cX12_spell 16 = .ok (.invokevirtual 238, 3) := by decide +kernel
theorem dX12_spell_19 : decode cX12_spell 19 = .ok (.ireturn, 1) := by decide +kernel
theorem dX12_spell_20 : decode cX12_spell 20 = .ok (.aload_n 0, 1) := by decide +kernel
theorem dX12_spell_21 : decode cX12_spell 21 = .ok (.iload_n 1, 1) := by decide +kernel
theorem dX12_spell_22 : decode cX12_spell 22 = .ok (.invokevirtual 207, 3) := by decide +kernel
theorem dX12_spell_25 : decode cX12_spell 25 = .ok (.ifCond .ne 9, 3) := by decide +kernel
theorem dX12_spell_28 : decode cX12_spell 28 = .ok (.aload_n 0, 1) := by decide +kernel
theorem dX12_spell_29 : decode cX12_spell 29 = .ok (.iconst 2, 1) := by decide +kernel
theorem dX12_spell_30 : decode cX12_spell 30 = .ok (.invokevirtual 238, 3) := by decide +kernel
theorem dX12_spell_33 : decode cX12_spell 33 = .ok (.ireturn, 1) := by decide +kernel
theorem dX12_spell_34 : decode cX12_spell 34 = .ok (.aload_n 0, 1) := by decide +kernel
theorem dX12_spell_35 : decode cX12_spell 35 = .ok (.iconst 2, 1) := by decide +kernel
theorem dX12_spell_36 : decode cX12_spell 36 = .ok (.invokevirtual 70, 3) := by decide +kernel
theorem dX12_spell_39 : decode cX12_spell 39 = .ok (.bipush 10, 2) := by decide +kernel
theorem dX12_spell_41 : decode cX12_spell 41 = .ok (.if_icmp .ne 9, 3) := by decide +kernel
theorem dX12_spell_44 : decode cX12_spell 44 = .ok (.aload_n 0, 1) := by decide +kernel
theorem dX12_spell_45 : decode cX12_spell 45 = .ok (.iconst 3, 1) := by decide +kernel
theorem dX12_spell_46 : decode cX12_spell 46 = .ok (.invokevirtual 238, 3) := by decide +kernel
theorem dX12_spell_49 : decode cX12_spell 49 = .ok (.ireturn, 1) := by decide +kernel
theorem dX12_spell_50 : decode cX12_spell 50 = .ok (.aload_n 0, 1) := by decide +kernel
theorem dX12_spell_51 : decode cX12_spell 51 = .ok (.invokevirtual 362, 3) := by decide +kernel
theorem dX12_spell_54 : decode cX12_spell 54 = .ok (.iload_n 3, 1) := by decide +kernel
theorem dX12_spell_55 : decode cX12_spell 55 = .ok (.i2l, 1) := by decide +kernel
theorem dX12_spell_56 : decode cX12_spell 56 = .ok (.aload_n 0, 1) := by decide +kernel
theorem dX12_spell_57 : decode cX12_spell 57 = .ok (.iload_n 1, 1) := by decide +kernel
theorem dX12_spell_58 : decode cX12_spell 58 = .ok (.iload_n 2, 1) := by decide +kernel
theorem dX12_spell_59 : decode cX12_spell 59 = .ok (.iconst (-1), 1) := by decide +kernel
theorem dX12_spell_60 : decode cX12_spell 60 = .ok (.iload_n 1, 1) := by decide +kernel
theorem dX12_spell_61 : decode cX12_spell 61 = .ok (.invokevirtual 343, 3) := by decide +kernel
theorem dX12_spell_64 : decode cX12_spell 64 = .ok (.lcmp, 1) := by decide +kernel
theorem dX12_spell_65 : decode cX12_spell 65 = .ok (.ifCond .lt 9, 3) := by decide +kernel
theorem dX12_spell_68 : decode cX12_spell 68 = .ok (.aload_n 0, 1) := by decide +kernel
theorem dX12_spell_69 : decode cX12_spell 69 = .ok (.iconst 5, 1) := by decide +kernel
theorem dX12_spell_70 : decode cX12_spell 70 = .ok (.invokevirtual 238, 3) := by decide +kernel
theorem dX12_spell_73 : decode cX12_spell 73 = .ok (.ireturn, 1) := by decide +kernel
theorem dX12_spell_74 : decode cX12_spell 74 = .ok (.iload_n 3, 1) := by decide +kernel
theorem dX12_spell_75 : decode cX12_spell 75 = .ok (.i2l, 1) := by decide +kernel
theorem dX12_spell_76 : decode cX12_spell 76 = .ok (.lstore 4, 2) := by decide +kernel
theorem dX12_spell_78 : decode cX12_spell 78 = .ok (.iload_n 1, 1) := by decide +kernel
theorem dX12_spell_79 : decode cX12_spell 79 = .ok (.istore 6, 2) := by decide +kernel
theorem dX12_spell_81 : decode cX12_spell 81 = .ok (.iconst (-1), 1) := by decide +kernel
theorem dX12_spell_82 : decode cX12_spell 82 = .ok (.istore 7, 2) := by decide +kernel
theorem dX12_spell_84 : decode cX12_spell 84 = .ok (.aload_n 0, 1) := by decide +kernel
theorem dX12_spell_85 : decode cX12_spell 85 = .ok (.getfield 15, 3) := by decide +kernel
theorem dX12_spell_88 : decode cX12_spell 88 = .ok (.iconst 0, 1) := by decide +kernel
theorem dX12_spell_89 : decode cX12_spell 89 = .ok (.aaload, 1) := by decide +kernel
theorem dX12_spell_90 : decode cX12_spell 90 = .ok (.iload_n 1, 1) := by decide +kernel
theorem dX12_spell_91 : decode cX12_spell 91 = .ok (.iconst 0, 1) := by decide +kernel
theorem dX12_spell_92 : decode cX12_spell 92 = .ok (.invokestatic 100, 3) := by decide +kernel
theorem dX12_spell_95 : decode cX12_spell 95 = .ok (.iload_n 2, 1) := by decide +kernel
theorem dX12_spell_96 : decode cX12_spell 96 = .ok (.istore 8, 2) := by decide +kernel
theorem dX12_spell_98 : decode cX12_spell 98 = .ok (.iload 8, 2) := by decide +kernel
theorem dX12_spell_100 : decode cX12_spell 100 = .ok (.ifCond .le 188, 3) := by decide +kernel
theorem dX12_spell_103 : decode cX12_spell 103 = .ok (.iconst 0, 1) := by decide +kernel
theorem dX12_spell_104 : decode cX12_spell 104 = .ok (.istore 9, 2) := by decide +kernel
theorem dX12_spell_106 : decode cX12_spell 106 = .ok (.aload_n 0, 1) := by decide +kernel
theorem dX12_spell_107 : decode cX12_spell 107 = .ok (.iload 9, 2) := by decide +kernel
theorem dX12_spell_109 : decode cX12_spell 109 = .ok (.invokevirtual 78, 3) := by decide +kernel
theorem dX12_spell_112 : decode cX12_spell 112 = .ok (.iload 6, 2) := by decide +kernel
theorem dX12_spell_114 : decode cX12_spell 114 = .ok (.if_icmp .ne 36, 3) := by decide +kernel
theorem dX12_spell_117 : decode cX12_spell 117 = .ok (.lload 4, 2) := by decide +kernel
theorem dX12_spell_119 : decode cX12_spell 119 = .ok (.aload_n 0, 1) := by decide +kernel
theorem dX12_spell_120 : decode cX12_spell 120 = .ok (.iload 9, 2) := by decide +kernel
theorem dX12_spell_122 : decode cX12_spell 122 = .ok (.iload 7, 2) := by decide +kernel
theorem dX12_spell_124 : decode cX12_spell 124 = .ok (.invokevirtual 340, 3) := by decide +kernel
theorem dX12_spell_127 : decode cX12_spell 127 = .ok (.i2l, 1) := by decide +kernel
theorem dX12_spell_128 : decode cX12_spell 128 = .ok (.aload_n 0, 1) := by decide +kernel
theorem dX12_spell_129 : decode cX12_spell 129 = .ok (.aload_n 0, 1) := by decide +kernel
theorem dX12_spell_130 : decode cX12_spell 130 = .ok (.iload 9, 2) := by decide +kernel
theorem dX12_spell_132 : decode cX12_spell 132 = .ok (.invokevirtual 91, 3) := by decide +kernel
theorem dX12_spell_135 : decode cX12_spell 135 = .ok (.iload 8, 2) := by decide +kernel
theorem dX12_spell_137 : decode cX12_spell 137 = .ok (.iconst 1, 1) := by decide +kernel
theorem dX12_spell_138 : decode cX12_spell 138 = .ok (.isub, 1) := by decide +kernel
theorem dX12_spell_139 : decode cX12_spell 139 = .ok (.iload 9, 2) := by decide +kernel
theorem dX12_spell_141 : decode cX12_spell 141 = .ok (.iload_n 1, 1) := by decide +kernel
theorem dX12_spell_142 : decode cX12_spell 142 = .ok (.invokevirtual 343, 3) := by decide +kernel
theorem dX12_spell_145 : decode cX12_spell 145 = .ok (.lmul, 1) := by decide +kernel
theorem dX12_spell_146 : decode cX12_spell 146 = .ok (.lcmp, 1) := by decide +kernel
theorem dX12_spell_147 : decode cX12_spell 147 = .ok (.ifCond .lt 52, 3) := by decide +kernel
theorem dX12_spell_150 : decode cX12_spell 150 = .ok (.aload_n 0, 1) := by decide +kernel
theorem dX12_spell_151 : decode cX12_spell 151 = .ok (.iload 9, 2) := by decide +kernel
theorem dX12_spell_153 : decode cX12_spell 153 = .ok (.invokevirtual 78, 3) := by decide +kernel
theorem dX12_spell_156 : decode cX12_spell 156 = .ok (.iload 6, 2) := by decide +kernel
theorem dX12_spell_158 : decode cX12_spell 158 = .ok (.if_icmp .ne 35, 3) := by decide +kernel
theorem dX12_spell_161 : decode cX12_spell 161 = .ok (.lload 4, 2) := by decide +kernel
theorem dX12_spell_163 : decode cX12_spell 163 = .ok (.aload_n 0, 1) := by decide +kernel
theorem dX12_spell_164 : decode cX12_spell 164 = .ok (.iload 9, 2) := by decide +kernel
theorem dX12_spell_166 : decode cX12_spell 166 = .ok (.iload 7, 2) := by decide +kernel
theorem dX12_spell_168 : decode cX12_spell 168 = .ok (.invokevirtual 340, 3) := by decide +kernel
theorem dX12_spell_171 : decode cX12_spell 171 = .ok (.i2l, 1) := by decide +kernel
theorem dX12_spell_172 : decode cX12_spell 172 = .ok (.aload_n 0, 1) := by decide +kernel
theorem dX12_spell_173 : decode cX12_spell 173 = .ok (.aload_n 0, 1) := by decide +kernel
theorem dX12_spell_174 : decode cX12_spell 174 = .ok (.iload 9, 2) := by decide +kernel
theorem dX12_spell_176 : decode cX12_spell 176 = .ok (.invokevirtual 91, 3) := by decide +kernel
theorem dX12_spell_179 : decode cX12_spell 179 = .ok (.iload 8, 2) := by decide +kernel
theorem dX12_spell_181 : decode cX12_spell 181 = .ok (.iconst 1, 1) := by decide +kernel
theorem dX12_spell_182 : decode cX12_spell 182 = .ok (.isub, 1) := by decide +kernel
theorem dX12_spell_183 : decode cX12_spell 183 = .ok (.iload 9, 2) := by decide +kernel
theorem dX12_spell_185 : decode cX12_spell 185 = .ok (.iload_n 1, 1) := by decide +kernel
theorem dX12_spell_186 : decode cX12_spell 186 = .ok (.invokevirtual 343, 3) := by decide +kernel
theorem dX12_spell_189 : decode cX12_spell 189 = .ok (.lmul, 1) := by decide +kernel
theorem dX12_spell_190 : decode cX12_spell 190 = .ok (.lsub, 1) := by decide +kernel
theorem dX12_spell_191 : decode cX12_spell 191 = .ok (.lstore 4, 2) := by decide +kernel
theorem dX12_spell_193 : decode cX12_spell 193 = .ok (.iinc 9 1, 3) := by decide +kernel
theorem dX12_spell_196 : decode cX12_spell 196 = .ok (.goto (-90), 3) := by decide +kernel
theorem dX12_spell_199 : decode cX12_spell 199 = .ok (.aload_n 0, 1) := by decide +kernel
theorem dX12_spell_200 : decode cX12_spell 200 = .ok (.aload_n 0, 1) := by decide +kernel
theorem dX12_spell_201 : decode cX12_spell 201 = .ok (.iload 9, 2) := by decide +kernel
theorem dX12_spell_203 : decode cX12_spell 203 = .ok (.invokevirtual 91, 3) := by decide +kernel
theorem dX12_spell_206 : decode cX12_spell 206 = .ok (.iload 8, 2) := by decide +kernel
theorem dX12_spell_208 : decode cX12_spell 208 = .ok (.iconst 1, 1) := by decide +kernel
theorem dX12_spell_209 : decode cX12_spell 209 = .ok (.isub, 1) := by decide +kernel
theorem dX12_spell_210 : decode cX12_spell 210 = .ok (.iload 9, 2) := by decide +kernel
theorem dX12_spell_212 : decode cX12_spell 212 = .ok (.iload_n 1, 1) := by decide +kernel
theorem dX12_spell_213 : decode cX12_spell 213 = .ok (.invokevirtual 343, 3) := by decide +kernel
theorem dX12_spell_216 : decode cX12_spell 216 = .ok (.lstore 10, 2) := by decide +kernel
theorem dX12_spell_218 : decode cX12_spell 218 = .ok (.aload_n 0, 1) := by decide +kernel
theorem dX12_spell_219 : decode cX12_spell 219 = .ok (.getfield 15, 3) := by decide +kernel
theorem dX12_spell_222 : decode cX12_spell 222 = .ok (.iconst 0, 1) := by decide +kernel
theorem dX12_spell_223 : decode cX12_spell 223 = .ok (.aaload, 1) := by decide +kernel
theorem dX12_spell_224 : decode cX12_spell 224 = .ok (.iconst 2, 1) := by decide +kernel
theorem dX12_spell_225 : decode cX12_spell 225 = .ok (.iconst 2, 1) := by decide +kernel
theorem dX12_spell_226 : decode cX12_spell 226 = .ok (.aload_n 0, 1) := by decide +kernel
theorem dX12_spell_227 : decode cX12_spell 227 = .ok (.getfield 15, 3) := by decide +kernel
theorem dX12_spell_230 : decode cX12_spell 230 = .ok (.iconst 0, 1) := by decide +kernel
theorem dX12_spell_231 : decode cX12_spell 231 = .ok (.aaload, 1) := by decide +kernel
theorem dX12_spell_232 : decode cX12_spell 232 = .ok (.iconst 1, 1) := by decide +kernel
theorem dX12_spell_233 : decode cX12_spell 233 = .ok (.iaload, 1) := by decide +kernel
theorem dX12_spell_234 : decode cX12_spell 234 = .ok (.imul, 1) := by decide +kernel
theorem dX12_spell_235 : decode cX12_spell 235 = .ok (.iadd, 1) := by decide +kernel
theorem dX12_spell_236 : decode cX12_spell 236 = .ok (.iload 9, 2) := by decide +kernel
theorem dX12_spell_238 : decode cX12_spell 238 = .ok (.iload 7, 2) := by decide +kernel
theorem dX12_spell_240 : decode cX12_spell 240 = .ok (.invokestatic 365, 3) := by decide +kernel
theorem dX12_spell_243 : decode cX12_spell 243 = .ok (.lload 4, 2) := by decide +kernel
theorem dX12_spell_245 : decode cX12_spell 245 = .ok (.lload 10, 2) := by decide +kernel
theorem dX12_spell_247 : decode cX12_spell 247 = .ok (.ldiv, 1) := by decide +kernel
theorem dX12_spell_248 : decode cX12_spell 248 = .ok (.l2i, 1) := by decide +kernel
theorem dX12_spell_249 : decode cX12_spell 249 = .ok (.iadd, 1) := by decide +kernel
theorem dX12_spell_250 : decode cX12_spell 250 = .ok (.iastore, 1) := by decide +kernel
theorem dX12_spell_251 : decode cX12_spell 251 = .ok (.aload_n 0, 1) := by decide +kernel
theorem dX12_spell_252 : decode cX12_spell 252 = .ok (.getfield 15, 3) := by decide +kernel
theorem dX12_spell_255 : decode cX12_spell 255 = .ok (.iconst 0, 1) := by decide +kernel
theorem dX12_spell_256 : decode cX12_spell 256 = .ok (.aaload, 1) := by decide +kernel
theorem dX12_spell_257 : decode cX12_spell 257 = .ok (.iload 9, 2) := by decide +kernel
theorem dX12_spell_259 : decode cX12_spell 259 = .ok (.iconst 0, 1) := by decide +kernel
theorem dX12_spell_260 : decode cX12_spell 260 = .ok (.invokestatic 104, 3) := by decide +kernel
theorem dX12_spell_263 : decode cX12_spell 263 = .ok (.lload 4, 2) := by decide +kernel
theorem dX12_spell_265 : decode cX12_spell 265 = .ok (.lload 10, 2) := by decide +kernel
theorem dX12_spell_267 : decode cX12_spell 267 = .ok (.lrem, 1) := by decide +kernel
theorem dX12_spell_268 : decode cX12_spell 268 = .ok (.lstore 4, 2) := by decide +kernel
theorem dX12_spell_270 : decode cX12_spell 270 = .ok (.iload 9, 2) := by decide +kernel
theorem dX12_spell_272 : decode cX12_spell 272 = .ok (.istore 7, 2) := by decide +kernel
theorem dX12_spell_274 : decode cX12_spell 274 = .ok (.aload_n 0, 1) := by decide +kernel
theorem dX12_spell_275 : decode cX12_spell 275 = .ok (.iload 9, 2) := by decide +kernel
theorem dX12_spell_277 : decode cX12_spell 277 = .ok (.invokevirtual 91, 3) := by decide +kernel
theorem dX12_spell_280 : decode cX12_spell 280 = .ok (.istore 6, 2) := by decide +kernel
theorem dX12_spell_282 : decode cX12_spell 282 = .ok (.iinc 8 (-1), 3) := by decide +kernel
theorem dX12_spell_285 : decode cX12_spell 285 = .ok (.goto (-187), 3) := by decide +kernel
theorem dX12_spell_288 : decode cX12_spell 288 = .ok (.aload_n 0, 1) := by decide +kernel
theorem dX12_spell_289 : decode cX12_spell 289 = .ok (.getfield 15, 3) := by decide +kernel
theorem dX12_spell_292 : decode cX12_spell 292 = .ok (.iconst 0, 1) := by decide +kernel
theorem dX12_spell_293 : decode cX12_spell 293 = .ok (.aaload, 1) := by decide +kernel
theorem dX12_spell_294 : decode cX12_spell 294 = .ok (.iconst 2, 1) := by decide +kernel
theorem dX12_spell_295 : decode cX12_spell 295 = .ok (.iconst 2, 1) := by decide +kernel
theorem dX12_spell_296 : decode cX12_spell 296 = .ok (.iload_n 2, 1) := by decide +kernel
theorem dX12_spell_297 : decode cX12_spell 297 = .ok (.imul, 1) := by decide +kernel
theorem dX12_spell_298 : decode cX12_spell 298 = .ok (.iadd, 1) := by decide +kernel
theorem dX12_spell_299 : decode cX12_spell 299 = .ok (.lload 4, 2) := by decide +kernel
theorem dX12_spell_301 : decode cX12_spell 301 = .ok (.l2i, 1) := by decide +kernel
theorem dX12_spell_302 : decode cX12_spell 302 = .ok (.iastore, 1) := by decide +kernel
theorem dX12_spell_303 : decode cX12_spell 303 = .ok (.aload_n 0, 1) := by decide +kernel
theorem dX12_spell_304 : decode cX12_spell 304 = .ok (.aload_n 0, 1) := by decide +kernel
theorem dX12_spell_305 : decode cX12_spell 305 = .ok (.getfield 15, 3) := by decide +kernel
theorem dX12_spell_308 : decode cX12_spell 308 = .ok (.iconst 0, 1) := by decide +kernel
theorem dX12_spell_309 : decode cX12_spell 309 = .ok (.aaload, 1) := by decide +kernel
theorem dX12_spell_310 : decode cX12_spell 310 = .ok (.invokevirtual 273, 3) := by decide +kernel
theorem dX12_spell_313 : decode cX12_spell 313 = .ok (.ireturn, 1) := by decide +kernel
theorem dX12_listed_0 : decode cX12_listed 0 = .ok (.aload_n 0, 1) := by decide +kernel
theorem dX12_listed_1 : decode cX12_listed 1 = .ok (.iload_n 1, 1) := by decide +kernel
theorem dX12_listed_2 : decode cX12_listed 2 = .ok (.invokevirtual 293, 3) := by decide +kernel
theorem dX12_listed_5 : decode cX12_listed 5 = .ok (.istore_n 2, 1) := by decide +kernel
theorem dX12_listed_6 : decode cX12_listed 6 = .ok (.iload_n 2, 1) := by decide +kernel
theorem dX12_listed_7 : decode cX12_listed 7 = .ok (.ifCond .le 10, 3) := by decide +kernel
theorem dX12_listed_10 : decode cX12_listed 10 = .ok (.aload_n 0, 1) := by decide +kernel
theorem dX12_listed_11 : decode cX12_listed 11 = .ok (.iload_n 2, 1) := by decide +kernel
theorem dX12_listed_12 : decode cX12_listed 12 = .ok (.invokevirtual 238, 3) := by decide +kernel
theorem dX12_listed_15 : decode cX12_listed 15 = .ok (.i2l, 1) := by decide +kernel
theorem dX12_listed_16 : decode cX12_listed 16 = .ok (.lreturn, 1) := by decide +kernel
theorem dX12_listed_17 : decode cX12_listed 17 = .ok (.aload_n 0, 1) := by decide +kernel
theorem dX12_listed_18 : decode cX12_listed 18 = .ok (.iload_n 1, 1) := by decide +kernel
theorem dX12_listed_19 : decode cX12_listed 19 = .ok (.aload_n 0, 1) := by decide +kernel
theorem dX12_listed_20 : decode cX12_listed 20 = .ok (.getfield 15, 3) := by decide +kernel
theorem dX12_listed_23 : decode cX12_listed 23 = .ok (.iconst 0, 1) := by decide +kernel
theorem dX12_listed_24 : decode cX12_listed 24 = .ok (.aaload, 1) := by decide +kernel
theorem dX12_listed_25 : decode cX12_listed 25 = .ok (.invokevirtual 127, 3) := by decide +kernel
theorem dX12_listed_28 : decode cX12_listed 28 = .ok (.aload_n 0, 1) := by decide +kernel
theorem dX12_listed_29 : decode cX12_listed 29 = .ok (.aload_n 0, 1) := by decide +kernel
theorem dX12_listed_30 : decode cX12_listed 30 = .ok (.getfield 15, 3) := by decide +kernel
theorem dX12_listed_33 : decode cX12_listed 33 = .ok (.iconst 0, 1) := by decide +kernel
theorem dX12_listed_34 : decode cX12_listed 34 = .ok (.aaload, 1) := by decide +kernel
theorem dX12_listed_35 : decode cX12_listed 35 = .ok (.aload_n 0, 1) := by decide +kernel
theorem dX12_listed_36 : decode cX12_listed 36 = .ok (.getfield 15, 3) := by decide +kernel
theorem dX12_listed_39 : decode cX12_listed 39 = .ok (.iconst 1, 1) := by decide +kernel
theorem dX12_listed_40 : decode cX12_listed 40 = .ok (.aaload, 1) := by decide +kernel
theorem dX12_listed_41 : decode cX12_listed 41 = .ok (.invokevirtual 124, 3) := by decide +kernel
theorem dX12_listed_44 : decode cX12_listed 44 = .ok (.aload_n 0, 1) := by decide +kernel
theorem dX12_listed_45 : decode cX12_listed 45 = .ok (.getfield 15, 3) := by decide +kernel
theorem dX12_listed_48 : decode cX12_listed 48 = .ok (.iconst 1, 1) := by decide +kernel
theorem dX12_listed_49 : decode cX12_listed 49 = .ok (.aaload, 1) := by decide +kernel
theorem dX12_listed_50 : decode cX12_listed 50 = .ok (.iconst 1, 1) := by decide +kernel
theorem dX12_listed_51 : decode cX12_listed 51 = .ok (.iaload, 1) := by decide +kernel
theorem dX12_listed_52 : decode cX12_listed 52 = .ok (.istore_n 3, 1) := by decide +kernel
theorem dX12_listed_53 : decode cX12_listed 53 = .ok (.iload_n 3, 1) := by decide +kernel
theorem dX12_listed_54 : decode cX12_listed 54 = .ok (.bipush 12, 2) := by decide +kernel
theorem dX12_listed_56 : decode cX12_listed 56 = .ok (.if_icmp .le 10, 3) := by decide +kernel
theorem dX12_listed_59 : decode cX12_listed 59 = .ok (.aload_n 0, 1) := by decide +kernel
theorem dX12_listed_60 : decode cX12_listed 60 = .ok (.iconst 5, 1) := by decide +kernel
theorem dX12_listed_61 : decode cX12_listed 61 = .ok (.invokevirtual 238, 3) := by decide +kernel
theorem dX12_listed_64 : decode cX12_listed 64 = .ok (.i2l, 1) := by decide +kernel
theorem dX12_listed_65 : decode cX12_listed 65 = .ok (.lreturn, 1) := by decide +kernel
theorem dX12_listed_66 : decode cX12_listed 66 = .ok (.aload_n 0, 1) := by decide +kernel
theorem dX12_listed_67 : decode cX12_listed 67 = .ok (.getfield 15, 3) := by decide +kernel
theorem dX12_listed_70 : decode cX12_listed 70 = .ok (.iconst 1, 1) := by decide +kernel
theorem dX12_listed_71 : decode cX12_listed 71 = .ok (.aaload, 1) := by decide +kernel
theorem dX12_listed_72 : decode cX12_listed 72 = .ok (.iconst 0, 1) := by decide +kernel
theorem dX12_listed_73 : decode cX12_listed 73 = .ok (.iaload, 1) := by decide +kernel
theorem dX12_listed_74 : decode cX12_listed 74 = .ok (.istore 4, 2) := by decide +kernel
theorem dX12_listed_76 : decode cX12_listed 76 = .ok (.lconst 0, 1) := by decide +kernel
theorem dX12_listed_77 : decode cX12_listed 77 = .ok (.lstore 5, 2) := by decide +kernel
theorem dX12_listed_79 : decode cX12_listed 79 = .ok (.iload 4, 2) := by decide +kernel
theorem dX12_listed_81 : decode cX12_listed 81 = .ok (.istore 7, 2) := by decide +kernel
theorem dX12_listed_83 : decode cX12_listed 83 = .ok (.iconst (-1), 1) := by decide +kernel
theorem dX12_listed_84 : decode cX12_listed 84 = .ok (.istore 8, 2) := by decide +kernel
theorem dX12_listed_86 : decode cX12_listed 86 = .ok (.aload_n 0, 1) := by decide +kernel
theorem dX12_listed_87 : decode cX12_listed 87 = .ok (.invokevirtual 362, 3) := by decide +kernel
theorem dX12_listed_90 : decode cX12_listed 90 = .ok (.iconst 0, 1) := by decide +kernel
theorem dX12_listed_91 : decode cX12_listed 91 = .ok (.istore 9, 2) := by decide +kernel
theorem dX12_listed_93 : decode cX12_listed 93 = .ok (.iload 9, 2) := by decide +kernel
theorem dX12_listed_95 : decode cX12_listed 95 = .ok (.iload_n 3, 1) := by decide +kernel
theorem dX12_listed_96 : decode cX12_listed 96 = .ok (.if_icmp .ge 148, 3) := by decide +kernel
theorem dX12_listed_99 : decode cX12_listed 99 = .ok (.aload_n 0, 1) := by decide +kernel
theorem dX12_listed_100 : decode cX12_listed 100 = .ok (.getfield 15, 3) := by decide +kernel
theorem dX12_listed_103 : decode cX12_listed 103 = .ok (.iconst 1, 1) := by decide +kernel
theorem dX12_listed_104 : decode cX12_listed 104 = .ok (.aaload, 1) := by decide +kernel
theorem dX12_listed_105 : decode cX12_listed 105 = .ok (.iload 9, 2) := by decide +kernel
theorem dX12_listed_107 : decode cX12_listed 107 = .ok (.invokestatic 87, 3) := by decide +kernel
theorem dX12_listed_110 : decode cX12_listed 110 = .ok (.istore 10, 2) := by decide +kernel
theorem dX12_listed_112 : decode cX12_listed 112 = .ok (.iconst 0, 1) := by decide +kernel
theorem dX12_listed_113 : decode cX12_listed 113 = .ok (.istore 11, 2) := by decide +kernel
theorem dX12_listed_115 : decode cX12_listed 115 = .ok (.iload 11, 2) := by decide +kernel
theorem dX12_listed_117 : decode cX12_listed 117 = .ok (.iload 10, 2) := by decide +kernel
theorem dX12_listed_119 : decode cX12_listed 119 = .ok (.if_icmp .ge 58, 3) := by decide +kernel
theorem dX12_listed_122 : decode cX12_listed 122 = .ok (.aload_n 0, 1) := by decide +kernel
theorem dX12_listed_123 : decode cX12_listed 123 = .ok (.iload 11, 2) := by decide +kernel
theorem dX12_listed_125 : decode cX12_listed 125 = .ok (.invokevirtual 78, 3) := by decide +kernel
theorem dX12_listed_128 : decode cX12_listed 128 = .ok (.iload 7, 2) := by decide +kernel
theorem dX12_listed_130 : decode cX12_listed 130 = .ok (.if_icmp .ne 41, 3) := by decide +kernel
theorem dX12_listed_133 : decode cX12_listed 133 = .ok (.lload 5, 2) := by decide +kernel
theorem dX12_listed_135 : decode cX12_listed 135 = .ok (.aload_n 0, 1) := by decide +kernel
theorem dX12_listed_136 : decode cX12_listed 136 = .ok (.iload 11, 2) := by decide +kernel
theorem dX12_listed_138 : decode cX12_listed 138 = .ok (.iload 8, 2) := by decide +kernel
theorem dX12_listed_140 : decode cX12_listed 140 = .ok (.invokevirtual 340, 3) := by decide +kernel
theorem dX12_listed_143 : decode cX12_listed 143 = .ok (.i2l, 1) := by decide +kernel
theorem dX12_listed_144 : decode cX12_listed 144 = .ok (.aload_n 0, 1) := by decide +kernel
theorem dX12_listed_145 : decode cX12_listed 145 = .ok (.aload_n 0, 1) := by decide +kernel
theorem dX12_listed_146 : decode cX12_listed 146 = .ok (.iload 11, 2) := by decide +kernel
theorem dX12_listed_148 : decode cX12_listed 148 = .ok (.invokevirtual 91, 3) := by decide +kernel
theorem dX12_listed_151 : decode cX12_listed 151 = .ok (.iload_n 3, 1) := by decide +kernel
theorem dX12_listed_152 : decode cX12_listed 152 = .ok (.iconst 1, 1) := by decide +kernel
theorem dX12_listed_153 : decode cX12_listed 153 = .ok (.isub, 1) := by decide +kernel
theorem dX12_listed_154 : decode cX12_listed 154 = .ok (.iload 9, 2) := by decide +kernel
theorem dX12_listed_156 : decode cX12_listed 156 = .ok (.isub, 1) := by decide +kernel
theorem dX12_listed_157 : decode cX12_listed 157 = .ok (.iload 11, 2) := by decide +kernel
theorem dX12_listed_159 : decode cX12_listed 159 = .ok (.iload 4, 2) := by decide +kernel
theorem dX12_listed_161 : decode cX12_listed 161 = .ok (.invokevirtual 343, 3) := by decide +kernel
theorem dX12_listed_164 : decode cX12_listed 164 = .ok (.lmul, 1) := by decide +kernel
theorem dX12_listed_165 : decode cX12_listed 165 = .ok (.ladd, 1) := by decide +kernel
theorem dX12_listed_166 : decode cX12_listed 166 = .ok (.invokestatic 347, 3) := by decide +kernel
theorem dX12_listed_169 : decode cX12_listed 169 = .ok (.lstore 5, 2) := by decide +kernel
theorem dX12_listed_171 : decode cX12_listed 171 = .ok (.iinc 11 1, 3) := by decide +kernel
theorem dX12_listed_174 : decode cX12_listed 174 = .ok (.goto (-59), 3) := by decide +kernel
theorem dX12_listed_177 : decode cX12_listed 177 = .ok (.lload 5, 2) := by decide +kernel
theorem dX12_listed_179 : decode cX12_listed 179 = .ok (.aload_n 0, 1) := by decide +kernel
theorem dX12_listed_180 : decode cX12_listed 180 = .ok (.getfield 15, 3) := by decide +kernel
theorem dX12_listed_183 : decode cX12_listed 183 = .ok (.iconst 1, 1) := by decide +kernel
theorem dX12_listed_184 : decode cX12_listed 184 = .ok (.aaload, 1) := by decide +kernel
theorem dX12_listed_185 : decode cX12_listed 185 = .ok (.iload 9, 2) := by decide +kernel
theorem dX12_listed_187 : decode cX12_listed 187 = .ok (.invokestatic 94, 3) := by decide +kernel
theorem dX12_listed_190 : decode cX12_listed 190 = .ok (.iload 10, 2) := by decide +kernel
theorem dX12_listed_192 : decode cX12_listed 192 = .ok (.iload 8, 2) := by decide +kernel
theorem dX12_listed_194 : decode cX12_listed 194 = .ok (.invokestatic 365, 3) := by decide +kernel
theorem dX12_listed_197 : decode cX12_listed 197 = .ok (.isub, 1) := by decide +kernel
theorem dX12_listed_198 : decode cX12_listed 198 = .ok (.i2l, 1) := by decide +kernel
theorem dX12_listed_199 : decode cX12_listed 199 = .ok (.aload_n 0, 1) := by decide +kernel
theorem dX12_listed_200 : decode cX12_listed 200 = .ok (.aload_n 0, 1) := by decide +kernel
theorem dX12_listed_201 : decode cX12_listed 201 = .ok (.iload 10, 2) := by decide +kernel
theorem dX12_listed_203 : decode cX12_listed 203 = .ok (.invokevirtual 91, 3) := by decide +kernel
theorem dX12_listed_206 : decode cX12_listed 206 = .ok (.iload_n 3, 1) := by decide +kernel
theorem dX12_listed_207 : decode cX12_listed 207 = .ok (.iconst 1, 1) := by decide +kernel
theorem dX12_listed_208 : decode cX12_listed 208 = .ok (.isub, 1) := by decide +kernel
theorem dX12_listed_209 : decode cX12_listed 209 = .ok (.iload 9, 2) := by decide +kernel
theorem dX12_listed_211 : decode cX12_listed 211 = .ok (.isub, 1) := by decide +kernel
theorem dX12_listed_212 : decode cX12_listed 212 = .ok (.iload 10, 2) := by decide +kernel
theorem dX12_listed_214 : decode cX12_listed 214 = .ok (.iload 4, 2) := by decide +kernel
theorem dX12_listed_216 : decode cX12_listed 216 = .ok (.invokevirtual 343, 3) := by decide +kernel
theorem dX12_listed_219 : decode cX12_listed 219 = .ok (.lmul, 1) := by decide +kernel
theorem dX12_listed_220 : decode cX12_listed 220 = .ok (.ladd, 1) := by decide +kernel
theorem dX12_listed_221 : decode cX12_listed 221 = .ok (.invokestatic 347, 3) := by decide +kernel
theorem dX12_listed_224 : decode cX12_listed 224 = .ok (.lstore 5, 2) := by decide +kernel
theorem dX12_listed_226 : decode cX12_listed 226 = .ok (.iload 10, 2) := by decide +kernel
theorem dX12_listed_228 : decode cX12_listed 228 = .ok (.istore 8, 2) := by decide +kernel
theorem dX12_listed_230 : decode cX12_listed 230 = .ok (.aload_n 0, 1) := by decide +kernel
theorem dX12_listed_231 : decode cX12_listed 231 = .ok (.iload 10, 2) := by decide +kernel
theorem dX12_listed_233 : decode cX12_listed 233 = .ok (.invokevirtual 91, 3) := by decide +kernel
theorem dX12_listed_236 : decode cX12_listed 236 = .ok (.istore 7, 2) := by decide +kernel
theorem dX12_listed_238 : decode cX12_listed 238 = .ok (.iinc 9 1, 3) := by decide +kernel
theorem dX12_listed_241 : decode cX12_listed 241 = .ok (.goto (-148), 3) := by decide +kernel
theorem dX12_listed_244 : decode cX12_listed 244 = .ok (.aload_n 0, 1) := by decide +kernel
theorem dX12_listed_245 : decode cX12_listed 245 = .ok (.lload 5, 2) := by decide +kernel
theorem dX12_listed_247 : decode cX12_listed 247 = .ok (.aload_n 0, 1) := by decide +kernel
theorem dX12_listed_248 : decode cX12_listed 248 = .ok (.getfield 15, 3) := by decide +kernel
theorem dX12_listed_251 : decode cX12_listed 251 = .ok (.iconst 1, 1) := by decide +kernel
theorem dX12_listed_252 : decode cX12_listed 252 = .ok (.aaload, 1) := by decide +kernel
theorem dX12_listed_253 : decode cX12_listed 253 = .ok (.invokestatic 121, 3) := by decide +kernel
theorem dX12_listed_256 : decode cX12_listed 256 = .ok (.i2l, 1) := by decide +kernel
theorem dX12_listed_257 : decode cX12_listed 257 = .ok (.ladd, 1) := by decide +kernel
theorem dX12_listed_258 : decode cX12_listed 258 = .ok (.invokestatic 347, 3) := by decide +kernel
theorem dX12_listed_261 : decode cX12_listed 261 = .ok (.invokevirtual 357, 3) := by decide +kernel
theorem dX12_listed_264 : decode cX12_listed 264 = .ok (.lreturn, 1) := by decide +kernel
theorem dX12_axis_0 : decode cX12_axis 0 = .ok (.iload_n 2, 1) := by decide +kernel
theorem dX12_axis_1 : decode cX12_axis 1 = .ok (.ifCond .ge 9, 3) := by decide +kernel
theorem dX12_axis_4 : decode cX12_axis 4 = .ok (.aload_n 0, 1) := by decide +kernel
theorem dX12_axis_5 : decode cX12_axis 5 = .ok (.iconst 1, 1) := by decide +kernel
theorem dX12_axis_6 : decode cX12_axis 6 = .ok (.invokevirtual 238, 3) := by decide +kernel
theorem dX12_axis_9 : decode cX12_axis 9 = .ok (.ireturn, 1) := by decide +kernel
theorem dX12_axis_10 : decode cX12_axis 10 = .ok (.aload_n 0, 1) := by decide +kernel
theorem dX12_axis_11 : decode cX12_axis 11 = .ok (.iload_n 1, 1) := by decide +kernel
theorem dX12_axis_12 : decode cX12_axis 12 = .ok (.invokevirtual 293, 3) := by decide +kernel
theorem dX12_axis_15 : decode cX12_axis 15 = .ok (.istore_n 3, 1) := by decide +kernel
theorem dX12_axis_16 : decode cX12_axis 16 = .ok (.iload_n 3, 1) := by decide +kernel
theorem dX12_axis_17 : decode cX12_axis 17 = .ok (.ifCond .le 9, 3) := by decide +kernel
theorem dX12_axis_20 : decode cX12_axis 20 = .ok (.aload_n 0, 1) := by decide +kernel
theorem dX12_axis_21 : decode cX12_axis 21 = .ok (.iload_n 3, 1) := by decide +kernel
theorem dX12_axis_22 : decode cX12_axis 22 = .ok (.invokevirtual 238, 3) := by decide +kernel
theorem dX12_axis_25 : decode cX12_axis 25 = .ok (.ireturn, 1) := by decide +kernel
theorem dX12_axis_26 : decode cX12_axis 26 = .ok (.aload_n 0, 1) := by decide +kernel
theorem dX12_axis_27 : decode cX12_axis 27 = .ok (.iload_n 1, 1) := by decide +kernel
theorem dX12_axis_28 : decode cX12_axis 28 = .ok (.aload_n 0, 1) := by decide +kernel
theorem dX12_axis_29 : decode cX12_axis 29 = .ok (.getfield 15, 3) := by decide +kernel
theorem dX12_axis_32 : decode cX12_axis 32 = .ok (.iconst 0, 1) := by decide +kernel
theorem dX12_axis_33 : decode cX12_axis 33 = .ok (.aaload, 1) := by decide +kernel
theorem dX12_axis_34 : decode cX12_axis 34 = .ok (.invokevirtual 286, 3) := by decide +kernel
theorem dX12_axis_37 : decode cX12_axis 37 = .ok (.aload_n 0, 1) := by decide +kernel
theorem dX12_axis_38 : decode cX12_axis 38 = .ok (.getfield 15, 3) := by decide +kernel
theorem dX12_axis_41 : decode cX12_axis 41 = .ok (.iconst 0, 1) := by decide +kernel
theorem dX12_axis_42 : decode cX12_axis 42 = .ok (.aaload, 1) := by decide +kernel
theorem dX12_axis_43 : decode cX12_axis 43 = .ok (.iconst 1, 1) := by decide +kernel
theorem dX12_axis_44 : decode cX12_axis 44 = .ok (.iaload, 1) := by decide +kernel
theorem dX12_axis_45 : decode cX12_axis 45 = .ok (.ifCond .ne 11, 3) := by decide +kernel
theorem dX12_axis_48 : decode cX12_axis 48 = .ok (.aload_n 0, 1) := by decide +kernel
theorem dX12_axis_49 : decode cX12_axis 49 = .ok (.iconst 5, 1) := by decide +kernel
theorem dX12_axis_50 : decode cX12_axis 50 = .ok (.invokevirtual 238, 3) := by decide +kernel
theorem dX12_axis_53 : decode cX12_axis 53 = .ok (.goto 30, 3) := by decide +kernel
theorem dX12_axis_56 : decode cX12_axis 56 = .ok (.aload_n 0, 1) := by decide +kernel
theorem dX12_axis_57 : decode cX12_axis 57 = .ok (.aload_n 0, 1) := by decide +kernel
theorem dX12_axis_58 : decode cX12_axis 58 = .ok (.aload_n 0, 1) := by decide +kernel
theorem dX12_axis_59 : decode cX12_axis 59 = .ok (.getfield 15, 3) := by decide +kernel
theorem dX12_axis_62 : decode cX12_axis 62 = .ok (.iconst 0, 1) := by decide +kernel
theorem dX12_axis_63 : decode cX12_axis 63 = .ok (.aaload, 1) := by decide +kernel
theorem dX12_axis_64 : decode cX12_axis 64 = .ok (.iload_n 2, 1) := by decide +kernel
theorem dX12_axis_65 : decode cX12_axis 65 = .ok (.aload_n 0, 1) := by decide +kernel
theorem dX12_axis_66 : decode cX12_axis 66 = .ok (.getfield 15, 3) := by decide +kernel
theorem dX12_axis_69 : decode cX12_axis 69 = .ok (.iconst 0, 1) := by decide +kernel
theorem dX12_axis_70 : decode cX12_axis 70 = .ok (.aaload, 1) := by decide +kernel
theorem dX12_axis_71 : decode cX12_axis 71 = .ok (.iconst 1, 1) := by decide +kernel
theorem dX12_axis_72 : decode cX12_axis 72 = .ok (.iaload, 1) := by decide +kernel
theorem dX12_axis_73 : decode cX12_axis 73 = .ok (.irem, 1) := by decide +kernel
theorem dX12_axis_74 : decode cX12_axis 74 = .ok (.invokestatic 87, 3) := by decide +kernel
theorem dX12_axis_77 : decode cX12_axis 77 = .ok (.invokevirtual 78, 3) := by decide +kernel
theorem dX12_axis_80 : decode cX12_axis 80 = .ok (.invokevirtual 251, 3) := by decide +kernel
theorem dX12_axis_83 : decode cX12_axis 83 = .ok (.ireturn, 1) := by decide +kernel
theorem dX12_meet_0 : decode cX12_meet 0 = .ok (.aload_n 0, 1) := by decide +kernel
theorem dX12_meet_1 : decode cX12_meet 1 = .ok (.iload_n 1, 1) := by decide +kernel
theorem dX12_meet_2 : decode cX12_meet 2 = .ok (.invokevirtual 207, 3) := by decide +kernel
theorem dX12_meet_5 : decode cX12_meet 5 = .ok (.ifCond .ne 9, 3) := by decide +kernel
theorem dX12_meet_8 : decode cX12_meet 8 = .ok (.aload_n 0, 1) := by decide +kernel
theorem dX12_meet_9 : decode cX12_meet 9 = .ok (.iconst 2, 1) := by decide +kernel
theorem dX12_meet_10 : decode cX12_meet 10 = .ok (.invokevirtual 238, 3) := by decide +kernel
theorem dX12_meet_13 : decode cX12_meet 13 = .ok (.ireturn, 1) := by decide +kernel
theorem dX12_meet_14 : decode cX12_meet 14 = .ok (.iconst 0, 1) := by decide +kernel
theorem dX12_meet_15 : decode cX12_meet 15 = .ok (.istore_n 2, 1) := by decide +kernel
theorem dX12_meet_16 : decode cX12_meet 16 = .ok (.iconst 0, 1) := by decide +kernel
theorem dX12_meet_17 : decode cX12_meet 17 = .ok (.istore_n 3, 1) := by decide +kernel
theorem dX12_meet_18 : decode cX12_meet 18 = .ok (.iload_n 3, 1) := by decide +kernel
theorem dX12_meet_19 : decode cX12_meet 19 = .ok (.iconst 2, 1) := by decide +kernel
theorem dX12_meet_20 : decode cX12_meet 20 = .ok (.aload_n 0, 1) := by decide +kernel
theorem dX12_meet_21 : decode cX12_meet 21 = .ok (.iconst 1, 1) := by decide +kernel
theorem dX12_meet_22 : decode cX12_meet 22 = .ok (.invokevirtual 70, 3) := by decide +kernel
theorem dX12_meet_25 : decode cX12_meet 25 = .ok (.imul, 1) := by decide +kernel
theorem dX12_meet_26 : decode cX12_meet 26 = .ok (.if_icmp .ge 30, 3) := by decide +kernel
theorem dX12_meet_29 : decode cX12_meet 29 = .ok (.iload_n 2, 1) := by decide +kernel
theorem dX12_meet_30 : decode cX12_meet 30 = .ok (.aload_n 0, 1) := by decide +kernel
theorem dX12_meet_31 : decode cX12_meet 31 = .ok (.iload_n 3, 1) := by decide +kernel
theorem dX12_meet_32 : decode cX12_meet 32 = .ok (.invokevirtual 78, 3) := by decide +kernel
theorem dX12_meet_35 : decode cX12_meet 35 = .ok (.iload_n 1, 1) := by decide +kernel
theorem dX12_meet_36 : decode cX12_meet 36 = .ok (.if_icmp .ne 11, 3) := by decide +kernel
theorem dX12_meet_39 : decode cX12_meet 39 = .ok (.aload_n 0, 1) := by decide +kernel
theorem dX12_meet_40 : decode cX12_meet 40 = .ok (.iload_n 3, 1) := by decide +kernel
theorem dX12_meet_41 : decode cX12_meet 41 = .ok (.invokevirtual 81, 3) := by decide +kernel
theorem dX12_meet_44 : decode cX12_meet 44 = .ok (.goto 4, 3) := by decide +kernel
theorem dX12_meet_47 : decode cX12_meet 47 = .ok (.iconst 0, 1) := by decide +kernel
theorem dX12_meet_48 : decode cX12_meet 48 = .ok (.iadd, 1) := by decide +kernel
theorem dX12_meet_49 : decode cX12_meet 49 = .ok (.istore_n 2, 1) := by decide +kernel
theorem dX12_meet_50 : decode cX12_meet 50 = .ok (.iinc 3 1, 3) := by decide +kernel
theorem dX12_meet_53 : decode cX12_meet 53 = .ok (.goto (-35), 3) := by decide +kernel
theorem dX12_meet_56 : decode cX12_meet 56 = .ok (.aload_n 0, 1) := by decide +kernel
theorem dX12_meet_57 : decode cX12_meet 57 = .ok (.iload_n 2, 1) := by decide +kernel
theorem dX12_meet_58 : decode cX12_meet 58 = .ok (.invokevirtual 251, 3) := by decide +kernel
theorem dX12_meet_61 : decode cX12_meet 61 = .ok (.ireturn, 1) := by decide +kernel
theorem dX12_writes_0 : decode cX12_writes 0 = .ok (.aload_n 0, 1) := by decide +kernel
theorem dX12_writes_1 : decode cX12_writes 1 = .ok (.getfield 64, 3) := by decide +kernel
theorem dX12_writes_4 : decode cX12_writes 4 = .ok (.aload_n 0, 1) := by decide +kernel
theorem dX12_writes_5 : decode cX12_writes 5 = .ok (.getfield 368, 3) := by decide +kernel
theorem dX12_writes_8 : decode cX12_writes 8 = .ok (.iload_n 1, 1) := by decide +kernel
theorem dX12_writes_9 : decode cX12_writes 9 = .ok (.i2b, 1) := by decide +kernel
theorem dX12_writes_10 : decode cX12_writes 10 = .ok (.bastore, 1) := by decide +kernel
theorem dX12_writes_11 : decode cX12_writes 11 = .ok (.aload_n 0, 1) := by decide +kernel
theorem dX12_writes_12 : decode cX12_writes 12 = .ok (.dup, 1) := by decide +kernel
theorem dX12_writes_13 : decode cX12_writes 13 = .ok (.getfield 368, 3) := by decide +kernel
theorem dX12_writes_16 : decode cX12_writes 16 = .ok (.iconst 1, 1) := by decide +kernel
theorem dX12_writes_17 : decode cX12_writes 17 = .ok (.iadd, 1) := by decide +kernel
theorem dX12_writes_18 : decode cX12_writes 18 = .ok (.putfield 368, 3) := by decide +kernel
theorem dX12_writes_21 : decode cX12_writes 21 = .ok (.return_, 1) := by decide +kernel
theorem dX12_writesNumber_0 : decode cX12_writesNumber 0 = .ok (.aload_n 0, 1) := by decide +kernel
theorem dX12_writesNumber_1 : decode cX12_writesNumber 1 = .ok (.bipush 32, 2) := by decide +kernel
theorem dX12_writesNumber_3 : decode cX12_writesNumber 3 = .ok (.invokevirtual 371, 3) := by decide +kernel
theorem dX12_writesNumber_6 : decode cX12_writesNumber 6 = .ok (.iload_n 1, 1) := by decide +kernel
theorem dX12_writesNumber_7 : decode cX12_writesNumber 7 = .ok (.bipush 9, 2) := by decide +kernel
theorem dX12_writesNumber_9 : decode cX12_writesNumber 9 = .ok (.if_icmp .le 14, 3) := by decide +kernel
theorem dX12_writesNumber_12 : decode cX12_writesNumber 12 = .ok (.aload_n 0, 1) := by decide +kernel
theorem dX12_writesNumber_13 : decode cX12_writesNumber 13 = .ok (.bipush 48, 2) := by decide +kernel
theorem dX12_writesNumber_15 : decode cX12_writesNumber 15 = .ok (.iload_n 1, 1) := by decide +kernel
theorem dX12_writesNumber_16 : decode cX12_writesNumber 16 = .ok (.bipush 10, 2) := by decide +kernel
theorem dX12_writesNumber_18 : decode cX12_writesNumber 18 = .ok (.idiv, 1) := by decide +kernel
theorem dX12_writesNumber_19 : decode cX12_writesNumber 19 = .ok (.iadd, 1) := by decide +kernel
theorem dX12_writesNumber_20 : decode cX12_writesNumber 20 = .ok (.invokevirtual 371, 3) := by decide +kernel
theorem dX12_writesNumber_23 : decode cX12_writesNumber 23 = .ok (.aload_n 0, 1) := by decide +kernel
theorem dX12_writesNumber_24 : decode cX12_writesNumber 24 = .ok (.bipush 48, 2) := by decide +kernel
theorem dX12_writesNumber_26 : decode cX12_writesNumber 26 = .ok (.iload_n 1, 1) := by decide +kernel
theorem dX12_writesNumber_27 : decode cX12_writesNumber 27 = .ok (.bipush 10, 2) := by decide +kernel
theorem dX12_writesNumber_29 : decode cX12_writesNumber 29 = .ok (.irem, 1) := by decide +kernel
theorem dX12_writesNumber_30 : decode cX12_writesNumber 30 = .ok (.iadd, 1) := by decide +kernel
theorem dX12_writesNumber_31 : decode cX12_writesNumber 31 = .ok (.invokevirtual 371, 3) := by decide +kernel
theorem dX12_writesNumber_34 : decode cX12_writesNumber 34 = .ok (.return_, 1) := by decide +kernel
theorem dX12_tell_0 : decode cX12_tell 0 = .ok (.aload_n 0, 1) := by decide +kernel
theorem dX12_tell_1 : decode cX12_tell 1 = .ok (.iload_n 1, 1) := by decide +kernel
theorem dX12_tell_2 : decode cX12_tell 2 = .ok (.invokevirtual 266, 3) := by decide +kernel
theorem dX12_tell_5 : decode cX12_tell 5 = .ok (.ifCond .ne 9, 3) := by decide +kernel
theorem dX12_tell_8 : decode cX12_tell 8 = .ok (.aload_n 0, 1) := by decide +kernel
theorem dX12_tell_9 : decode cX12_tell 9 = .ok (.iconst 2, 1) := by decide +kernel
theorem dX12_tell_10 : decode cX12_tell 10 = .ok (.invokevirtual 238, 3) := by decide +kernel
theorem dX12_tell_13 : decode cX12_tell 13 = .ok (.ireturn, 1) := by decide +kernel
theorem dX12_tell_14 : decode cX12_tell 14 = .ok (.aload_n 0, 1) := by decide +kernel
theorem dX12_tell_15 : decode cX12_tell 15 = .ok (.iload_n 1, 1) := by decide +kernel
theorem dX12_tell_16 : decode cX12_tell 16 = .ok (.aload_n 0, 1) := by decide +kernel
theorem dX12_tell_17 : decode cX12_tell 17 = .ok (.getfield 15, 3) := by decide +kernel
theorem dX12_tell_20 : decode cX12_tell 20 = .ok (.iconst 0, 1) := by decide +kernel
theorem dX12_tell_21 : decode cX12_tell 21 = .ok (.aaload, 1) := by decide +kernel
theorem dX12_tell_22 : decode cX12_tell 22 = .ok (.invokevirtual 127, 3) := by decide +kernel
theorem dX12_tell_25 : decode cX12_tell 25 = .ok (.aload_n 0, 1) := by decide +kernel
theorem dX12_tell_26 : decode cX12_tell 26 = .ok (.iconst 0, 1) := by decide +kernel
theorem dX12_tell_27 : decode cX12_tell 27 = .ok (.putfield 368, 3) := by decide +kernel
theorem dX12_tell_30 : decode cX12_tell 30 = .ok (.aload_n 0, 1) := by decide +kernel
theorem dX12_tell_31 : decode cX12_tell 31 = .ok (.bipush 119, 2) := by decide +kernel
theorem dX12_tell_33 : decode cX12_tell 33 = .ok (.invokevirtual 371, 3) := by decide +kernel
theorem dX12_tell_36 : decode cX12_tell 36 = .ok (.aload_n 0, 1) := by decide +kernel
theorem dX12_tell_37 : decode cX12_tell 37 = .ok (.bipush 111, 2) := by decide +kernel
theorem dX12_tell_39 : decode cX12_tell 39 = .ok (.invokevirtual 371, 3) := by decide +kernel
theorem dX12_tell_42 : decode cX12_tell 42 = .ok (.aload_n 0, 1) := by decide +kernel
theorem dX12_tell_43 : decode cX12_tell 43 = .ok (.bipush 114, 2) := by decide +kernel
theorem dX12_tell_45 : decode cX12_tell 45 = .ok (.invokevirtual 371, 3) := by decide +kernel
theorem dX12_tell_48 : decode cX12_tell 48 = .ok (.aload_n 0, 1) := by decide +kernel
theorem dX12_tell_49 : decode cX12_tell 49 = .ok (.bipush 100, 2) := by decide +kernel
theorem dX12_tell_51 : decode cX12_tell 51 = .ok (.invokevirtual 371, 3) := by decide +kernel
theorem dX12_tell_54 : decode cX12_tell 54 = .ok (.aload_n 0, 1) := by decide +kernel
theorem dX12_tell_55 : decode cX12_tell 55 = .ok (.aload_n 0, 1) := by decide +kernel
theorem dX12_tell_56 : decode cX12_tell 56 = .ok (.getfield 15, 3) := by decide +kernel
theorem dX12_tell_59 : decode cX12_tell 59 = .ok (.iconst 0, 1) := by decide +kernel
theorem dX12_tell_60 : decode cX12_tell 60 = .ok (.aaload, 1) := by decide +kernel
theorem dX12_tell_61 : decode cX12_tell 61 = .ok (.iconst 0, 1) := by decide +kernel
theorem dX12_tell_62 : decode cX12_tell 62 = .ok (.iaload, 1) := by decide +kernel
theorem dX12_tell_63 : decode cX12_tell 63 = .ok (.invokevirtual 374, 3) := by decide +kernel
theorem dX12_tell_66 : decode cX12_tell 66 = .ok (.aload_n 0, 1) := by decide +kernel
theorem dX12_tell_67 : decode cX12_tell 67 = .ok (.aload_n 0, 1) := by decide +kernel
theorem dX12_tell_68 : decode cX12_tell 68 = .ok (.getfield 15, 3) := by decide +kernel
theorem dX12_tell_71 : decode cX12_tell 71 = .ok (.iconst 0, 1) := by decide +kernel
theorem dX12_tell_72 : decode cX12_tell 72 = .ok (.aaload, 1) := by decide +kernel
theorem dX12_tell_73 : decode cX12_tell 73 = .ok (.iconst 0, 1) := by decide +kernel
theorem dX12_tell_74 : decode cX12_tell 74 = .ok (.invokestatic 94, 3) := by decide +kernel
theorem dX12_tell_77 : decode cX12_tell 77 = .ok (.invokevirtual 374, 3) := by decide +kernel
theorem dX12_tell_80 : decode cX12_tell 80 = .ok (.iconst 0, 1) := by decide +kernel
theorem dX12_tell_81 : decode cX12_tell 81 = .ok (.istore_n 2, 1) := by decide +kernel
theorem dX12_tell_82 : decode cX12_tell 82 = .ok (.iload_n 2, 1) := by decide +kernel
theorem dX12_tell_83 : decode cX12_tell 83 = .ok (.aload_n 0, 1) := by decide +kernel
theorem dX12_tell_84 : decode cX12_tell 84 = .ok (.getfield 15, 3) := by decide +kernel
theorem dX12_tell_87 : decode cX12_tell 87 = .ok (.iconst 0, 1) := by decide +kernel
theorem dX12_tell_88 : decode cX12_tell 88 = .ok (.aaload, 1) := by decide +kernel
theorem dX12_tell_89 : decode cX12_tell 89 = .ok (.iconst 1, 1) := by decide +kernel
theorem dX12_tell_90 : decode cX12_tell 90 = .ok (.iaload, 1) := by decide +kernel
theorem dX12_tell_91 : decode cX12_tell 91 = .ok (.if_icmp .ge 73, 3) := by decide +kernel
theorem dX12_tell_94 : decode cX12_tell 94 = .ok (.aload_n 0, 1) := by decide +kernel
theorem dX12_tell_95 : decode cX12_tell 95 = .ok (.bipush 32, 2) := by decide +kernel
theorem dX12_tell_97 : decode cX12_tell 97 = .ok (.invokevirtual 371, 3) := by decide +kernel
theorem dX12_tell_100 : decode cX12_tell 100 = .ok (.aload_n 0, 1) := by decide +kernel
theorem dX12_tell_101 : decode cX12_tell 101 = .ok (.aload_n 0, 1) := by decide +kernel
theorem dX12_tell_102 : decode cX12_tell 102 = .ok (.getfield 15, 3) := by decide +kernel
theorem dX12_tell_105 : decode cX12_tell 105 = .ok (.iconst 0, 1) := by decide +kernel
theorem dX12_tell_106 : decode cX12_tell 106 = .ok (.aaload, 1) := by decide +kernel
theorem dX12_tell_107 : decode cX12_tell 107 = .ok (.iload_n 2, 1) := by decide +kernel
theorem dX12_tell_108 : decode cX12_tell 108 = .ok (.invokestatic 87, 3) := by decide +kernel
theorem dX12_tell_111 : decode cX12_tell 111 = .ok (.iconst 2, 1) := by decide +kernel
theorem dX12_tell_112 : decode cX12_tell 112 = .ok (.irem, 1) := by decide +kernel
theorem dX12_tell_113 : decode cX12_tell 113 = .ok (.ifCond .ne 8, 3) := by decide +kernel
theorem dX12_tell_116 : decode cX12_tell 116 = .ok (.bipush 62, 2) := by decide +kernel
theorem dX12_tell_118 : decode cX12_tell 118 = .ok (.goto 5, 3) := by decide +kernel
theorem dX12_tell_121 : decode cX12_tell 121 = .ok (.bipush 60, 2) := by decide +kernel
theorem dX12_tell_123 : decode cX12_tell 123 = .ok (.invokevirtual 371, 3) := by decide +kernel
theorem dX12_tell_126 : decode cX12_tell 126 = .ok (.aload_n 0, 1) := by decide +kernel
theorem dX12_tell_127 : decode cX12_tell 127 = .ok (.aload_n 0, 1) := by decide +kernel
theorem dX12_tell_128 : decode cX12_tell 128 = .ok (.getfield 15, 3) := by decide +kernel
theorem dX12_tell_131 : decode cX12_tell 131 = .ok (.iconst 0, 1) := by decide +kernel
theorem dX12_tell_132 : decode cX12_tell 132 = .ok (.aaload, 1) := by decide +kernel
theorem dX12_tell_133 : decode cX12_tell 133 = .ok (.iload_n 2, 1) := by decide +kernel
theorem dX12_tell_134 : decode cX12_tell 134 = .ok (.invokestatic 87, 3) := by decide +kernel
theorem dX12_tell_137 : decode cX12_tell 137 = .ok (.iconst 2, 1) := by decide +kernel
theorem dX12_tell_138 : decode cX12_tell 138 = .ok (.idiv, 1) := by decide +kernel
theorem dX12_tell_139 : decode cX12_tell 139 = .ok (.invokevirtual 374, 3) := by decide +kernel
theorem dX12_tell_142 : decode cX12_tell 142 = .ok (.aload_n 0, 1) := by decide +kernel
theorem dX12_tell_143 : decode cX12_tell 143 = .ok (.aload_n 0, 1) := by decide +kernel
theorem dX12_tell_144 : decode cX12_tell 144 = .ok (.getfield 15, 3) := by decide +kernel
theorem dX12_tell_147 : decode cX12_tell 147 = .ok (.iconst 0, 1) := by decide +kernel
theorem dX12_tell_148 : decode cX12_tell 148 = .ok (.aaload, 1) := by decide +kernel
theorem dX12_tell_149 : decode cX12_tell 149 = .ok (.iload_n 2, 1) := by decide +kernel
theorem dX12_tell_150 : decode cX12_tell 150 = .ok (.iconst 1, 1) := by decide +kernel
theorem dX12_tell_151 : decode cX12_tell 151 = .ok (.iadd, 1) := by decide +kernel
theorem dX12_tell_152 : decode cX12_tell 152 = .ok (.invokestatic 94, 3) := by decide +kernel
theorem dX12_tell_155 : decode cX12_tell 155 = .ok (.invokevirtual 374, 3) := by decide +kernel
theorem dX12_tell_158 : decode cX12_tell 158 = .ok (.iinc 2 1, 3) := by decide +kernel
theorem dX12_tell_161 : decode cX12_tell 161 = .ok (.goto (-79), 3) := by decide +kernel
theorem dX12_tell_164 : decode cX12_tell 164 = .ok (.aload_n 0, 1) := by decide +kernel
theorem dX12_tell_165 : decode cX12_tell 165 = .ok (.bipush 59, 2) := by decide +kernel
theorem dX12_tell_167 : decode cX12_tell 167 = .ok (.invokevirtual 371, 3) := by decide +kernel
theorem dX12_tell_170 : decode cX12_tell 170 = .ok (.aload_n 0, 1) := by decide +kernel
theorem dX12_tell_171 : decode cX12_tell 171 = .ok (.aload_n 0, 1) := by decide +kernel
theorem dX12_tell_172 : decode cX12_tell 172 = .ok (.getfield 368, 3) := by decide +kernel
theorem dX12_tell_175 : decode cX12_tell 175 = .ok (.invokevirtual 251, 3) := by decide +kernel
theorem dX12_tell_178 : decode cX12_tell 178 = .ok (.ireturn, 1) := by decide +kernel
theorem dX12_out_0 : decode cX12_out 0 = .ok (.iload_n 1, 1) := by decide +kernel
theorem dX12_out_1 : decode cX12_out 1 = .ok (.ifCond .ge 9, 3) := by decide +kernel
theorem dX12_out_4 : decode cX12_out 4 = .ok (.aload_n 0, 1) := by decide +kernel
theorem dX12_out_5 : decode cX12_out 5 = .ok (.iconst 1, 1) := by decide +kernel
theorem dX12_out_6 : decode cX12_out 6 = .ok (.invokevirtual 238, 3) := by decide +kernel
theorem dX12_out_9 : decode cX12_out 9 = .ok (.ireturn, 1) := by decide +kernel
theorem dX12_out_10 : decode cX12_out 10 = .ok (.iload_n 1, 1) := by decide +kernel
theorem dX12_out_11 : decode cX12_out 11 = .ok (.aload_n 0, 1) := by decide +kernel
theorem dX12_out_12 : decode cX12_out 12 = .ok (.getfield 368, 3) := by decide +kernel
theorem dX12_out_15 : decode cX12_out 15 = .ok (.if_icmp .ge 16, 3) := by decide +kernel
theorem dX12_out_18 : decode cX12_out 18 = .ok (.aload_n 0, 1) := by decide +kernel
theorem dX12_out_19 : decode cX12_out 19 = .ok (.aload_n 0, 1) := by decide +kernel
theorem dX12_out_20 : decode cX12_out 20 = .ok (.getfield 64, 3) := by decide +kernel
theorem dX12_out_23 : decode cX12_out 23 = .ok (.iload_n 1, 1) := by decide +kernel
theorem dX12_out_24 : decode cX12_out 24 = .ok (.baload, 1) := by decide +kernel
theorem dX12_out_25 : decode cX12_out 25 = .ok (.invokevirtual 251, 3) := by decide +kernel
theorem dX12_out_28 : decode cX12_out 28 = .ok (.goto 8, 3) := by decide +kernel
theorem dX12_out_31 : decode cX12_out 31 = .ok (.aload_n 0, 1) := by decide +kernel
theorem dX12_out_32 : decode cX12_out 32 = .ok (.iconst 5, 1) := by decide +kernel
theorem dX12_out_33 : decode cX12_out 33 = .ok (.invokevirtual 238, 3) := by decide +kernel
theorem dX12_out_36 : decode cX12_out 36 = .ok (.ireturn, 1) := by decide +kernel
theorem dX12_common__0 : decode cX12_common_ 0 = .ok (.lload_n 0, 1) := by decide +kernel
theorem dX12_common__1 : decode cX12_common_ 1 = .ok (.lconst 0, 1) := by decide +kernel
theorem dX12_common__2 : decode cX12_common_ 2 = .ok (.lcmp, 1) := by decide +kernel
theorem dX12_common__3 : decode cX12_common_ 3 = .ok (.ifCond .ge 8, 3) := by decide +kernel
theorem dX12_common__6 : decode cX12_common_ 6 = .ok (.lload_n 0, 1) := by decide +kernel
theorem dX12_common__7 : decode cX12_common_ 7 = .ok (.lneg, 1) := by decide +kernel
theorem dX12_common__8 : decode cX12_common_ 8 = .ok (.goto 4, 3) := by decide +kernel
theorem dX12_common__11 : decode cX12_common_ 11 = .ok (.lload_n 0, 1) := by decide +kernel
theorem dX12_common__12 : decode cX12_common_ 12 = .ok (.lstore 4, 2) := by decide +kernel
theorem dX12_common__14 : decode cX12_common_ 14 = .ok (.lload_n 2, 1) := by decide +kernel
theorem dX12_common__15 : decode cX12_common_ 15 = .ok (.lstore 6, 2) := by decide +kernel
theorem dX12_common__17 : decode cX12_common_ 17 = .ok (.lload 6, 2) := by decide +kernel
theorem dX12_common__19 : decode cX12_common_ 19 = .ok (.lconst 0, 1) := by decide +kernel
theorem dX12_common__20 : decode cX12_common_ 20 = .ok (.lcmp, 1) := by decide +kernel
theorem dX12_common__21 : decode cX12_common_ 21 = .ok (.ifCond .eq 21, 3) := by decide +kernel
theorem dX12_common__24 : decode cX12_common_ 24 = .ok (.lload 4, 2) := by decide +kernel
theorem dX12_common__26 : decode cX12_common_ 26 = .ok (.lload 6, 2) := by decide +kernel
theorem dX12_common__28 : decode cX12_common_ 28 = .ok (.lrem, 1) := by decide +kernel
theorem dX12_common__29 : decode cX12_common_ 29 = .ok (.lstore 8, 2) := by decide +kernel
theorem dX12_common__31 : decode cX12_common_ 31 = .ok (.lload 6, 2) := by decide +kernel
theorem dX12_common__33 : decode cX12_common_ 33 = .ok (.lstore 4, 2) := by decide +kernel
theorem dX12_common__35 : decode cX12_common_ 35 = .ok (.lload 8, 2) := by decide +kernel
theorem dX12_common__37 : decode cX12_common_ 37 = .ok (.lstore 6, 2) := by decide +kernel
theorem dX12_common__39 : decode cX12_common_ 39 = .ok (.goto (-22), 3) := by decide +kernel
theorem dX12_common__42 : decode cX12_common_ 42 = .ok (.lload 4, 2) := by decide +kernel
theorem dX12_common__44 : decode cX12_common_ 44 = .ok (.lreturn, 1) := by decide +kernel
theorem dX12_chi_0 : decode cX12_chi 0 = .ok (.iload_n 1, 1) := by decide +kernel
theorem dX12_chi_1 : decode cX12_chi 1 = .ok (.iconst 0, 1) := by decide +kernel
theorem dX12_chi_2 : decode cX12_chi 2 = .ok (.iconst 1, 1) := by decide +kernel
theorem dX12_chi_3 : decode cX12_chi 3 = .ok (.invokestatic 200, 3) := by decide +kernel
theorem dX12_chi_6 : decode cX12_chi 6 = .ok (.ifCond .ne 9, 3) := by decide +kernel
theorem dX12_chi_9 : decode cX12_chi 9 = .ok (.aload_n 0, 1) := by decide +kernel
theorem dX12_chi_10 : decode cX12_chi 10 = .ok (.iconst 1, 1) := by decide +kernel
theorem dX12_chi_11 : decode cX12_chi 11 = .ok (.invokevirtual 238, 3) := by decide +kernel
theorem dX12_chi_14 : decode cX12_chi 14 = .ok (.ireturn, 1) := by decide +kernel
theorem dX12_chi_15 : decode cX12_chi 15 = .ok (.lconst 0, 1) := by decide +kernel
theorem dX12_chi_16 : decode cX12_chi 16 = .ok (.lstore_n 2, 1) := by decide +kernel
theorem dX12_chi_17 : decode cX12_chi 17 = .ok (.lconst 1, 1) := by decide +kernel
theorem dX12_chi_18 : decode cX12_chi 18 = .ok (.lstore 4, 2) := by decide +kernel
theorem dX12_chi_20 : decode cX12_chi 20 = .ok (.iconst 0, 1) := by decide +kernel
theorem dX12_chi_21 : decode cX12_chi 21 = .ok (.istore 6, 2) := by decide +kernel
theorem dX12_chi_23 : decode cX12_chi 23 = .ok (.iload 6, 2) := by decide +kernel
theorem dX12_chi_25 : decode cX12_chi 25 = .ok (.aload_n 0, 1) := by decide +kernel
theorem dX12_chi_26 : decode cX12_chi 26 = .ok (.iconst 0, 1) := by decide +kernel
theorem dX12_chi_27 : decode cX12_chi 27 = .ok (.invokevirtual 70, 3) := by decide +kernel
theorem dX12_chi_30 : decode cX12_chi 30 = .ok (.aload_n 0, 1) := by decide +kernel
theorem dX12_chi_31 : decode cX12_chi 31 = .ok (.iconst 1, 1) := by decide +kernel
theorem dX12_chi_32 : decode cX12_chi 32 = .ok (.invokevirtual 70, 3) := by decide +kernel
theorem dX12_chi_35 : decode cX12_chi 35 = .ok (.iadd, 1) := by decide +kernel
theorem dX12_chi_36 : decode cX12_chi 36 = .ok (.if_icmp .ge 102, 3) := by decide +kernel
theorem dX12_chi_39 : decode cX12_chi 39 = .ok (.iload 6, 2) := by decide +kernel
theorem dX12_chi_41 : decode cX12_chi 41 = .ok (.aload_n 0, 1) := by decide +kernel
theorem dX12_chi_42 : decode cX12_chi 42 = .ok (.iconst 0, 1) := by decide +kernel
theorem dX12_chi_43 : decode cX12_chi 43 = .ok (.invokevirtual 70, 3) := by decide +kernel
theorem dX12_chi_46 : decode cX12_chi 46 = .ok (.isub, 1) := by decide +kernel
theorem dX12_chi_47 : decode cX12_chi 47 = .ok (.istore 7, 2) := by decide +kernel
theorem dX12_chi_49 : decode cX12_chi 49 = .ok (.iload 7, 2) := by decide +kernel
theorem dX12_chi_51 : decode cX12_chi 51 = .ok (.ifCond .ge 13, 3) := by decide +kernel
theorem dX12_chi_54 : decode cX12_chi 54 = .ok (.aload_n 0, 1) := by decide +kernel
theorem dX12_chi_55 : decode cX12_chi 55 = .ok (.iload 6, 2) := by decide +kernel
theorem dX12_chi_57 : decode cX12_chi 57 = .ok (.invokevirtual 84, 3) := by decide +kernel
theorem dX12_chi_60 : decode cX12_chi 60 = .ok (.i2l, 1) := by decide +kernel
theorem dX12_chi_61 : decode cX12_chi 61 = .ok (.goto 23, 3) := by decide +kernel
theorem dX12_chi_64 : decode cX12_chi 64 = .ok (.aload_n 0, 1) := by decide +kernel
theorem dX12_chi_65 : decode cX12_chi 65 = .ok (.aload_n 0, 1) := by decide +kernel
theorem dX12_chi_66 : decode cX12_chi 66 = .ok (.iload 7, 2) := by decide +kernel
theorem dX12_chi_68 : decode cX12_chi 68 = .ok (.iconst 0, 1) := by decide +kernel
theorem dX12_chi_69 : decode cX12_chi 69 = .ok (.invokevirtual 74, 3) := by decide +kernel
theorem dX12_chi_72 : decode cX12_chi 72 = .ok (.invokevirtual 84, 3) := by decide +kernel
theorem dX12_chi_75 : decode cX12_chi 75 = .ok (.aload_n 0, 1) := by decide +kernel
theorem dX12_chi_76 : decode cX12_chi 76 = .ok (.iload 7, 2) := by decide +kernel
theorem dX12_chi_78 : decode cX12_chi 78 = .ok (.iconst 1, 1) := by decide +kernel
theorem dX12_chi_79 : decode cX12_chi 79 = .ok (.invokevirtual 74, 3) := by decide +kernel
theorem dX12_chi_82 : decode cX12_chi 82 = .ok (.idiv, 1) := by decide +kernel
theorem dX12_chi_83 : decode cX12_chi 83 = .ok (.i2l, 1) := by decide +kernel
theorem dX12_chi_84 : decode cX12_chi 84 = .ok (.lstore 8, 2) := by decide +kernel
theorem dX12_chi_86 : decode cX12_chi 86 = .ok (.lload_n 2, 1) := by decide +kernel
theorem dX12_chi_87 : decode cX12_chi 87 = .ok (.lload 8, 2) := by decide +kernel
theorem dX12_chi_89 : decode cX12_chi 89 = .ok (.lmul, 1) := by decide +kernel
theorem dX12_chi_90 : decode cX12_chi 90 = .ok (.iload 7, 2) := by decide +kernel
theorem dX12_chi_92 : decode cX12_chi 92 = .ok (.ifCond .ge 8, 3) := by decide +kernel
theorem dX12_chi_95 : decode cX12_chi 95 = .ok (.lload 4, 2) := by decide +kernel
theorem dX12_chi_97 : decode cX12_chi 97 = .ok (.goto 6, 3) := by decide +kernel
theorem dX12_chi_100 : decode cX12_chi 100 = .ok (.lload 4, 2) := by decide +kernel
theorem dX12_chi_102 : decode cX12_chi 102 = .ok (.lneg, 1) := by decide +kernel
theorem dX12_chi_103 : decode cX12_chi 103 = .ok (.ladd, 1) := by decide +kernel
theorem dX12_chi_104 : decode cX12_chi 104 = .ok (.lstore_n 2, 1) := by decide +kernel
theorem dX12_chi_105 : decode cX12_chi 105 = .ok (.lload 4, 2) := by decide +kernel
theorem dX12_chi_107 : decode cX12_chi 107 = .ok (.lload 8, 2) := by decide +kernel
theorem dX12_chi_109 : decode cX12_chi 109 = .ok (.lmul, 1) := by decide +kernel
theorem dX12_chi_110 : decode cX12_chi 110 = .ok (.lstore 4, 2) := by decide +kernel
theorem dX12_chi_112 : decode cX12_chi 112 = .ok (.lload_n 2, 1) := by decide +kernel
theorem dX12_chi_113 : decode cX12_chi 113 = .ok (.lload 4, 2) := by decide +kernel
theorem dX12_chi_115 : decode cX12_chi 115 = .ok (.invokestatic 377, 3) := by decide +kernel
theorem dX12_chi_118 : decode cX12_chi 118 = .ok (.lstore 10, 2) := by decide +kernel
theorem dX12_chi_120 : decode cX12_chi 120 = .ok (.lload_n 2, 1) := by decide +kernel
theorem dX12_chi_121 : decode cX12_chi 121 = .ok (.lload 10, 2) := by decide +kernel
theorem dX12_chi_123 : decode cX12_chi 123 = .ok (.ldiv, 1) := by decide +kernel
theorem dX12_chi_124 : decode cX12_chi 124 = .ok (.lstore_n 2, 1) := by decide +kernel
theorem dX12_chi_125 : decode cX12_chi 125 = .ok (.lload 4, 2) := by decide +kernel
theorem dX12_chi_127 : decode cX12_chi 127 = .ok (.lload 10, 2) := by decide +kernel
theorem dX12_chi_129 : decode cX12_chi 129 = .ok (.ldiv, 1) := by decide +kernel
theorem dX12_chi_130 : decode cX12_chi 130 = .ok (.lstore 4, 2) := by decide +kernel
theorem dX12_chi_132 : decode cX12_chi 132 = .ok (.iinc 6 1, 3) := by decide +kernel
theorem dX12_chi_135 : decode cX12_chi 135 = .ok (.goto (-112), 3) := by decide +kernel
theorem dX12_chi_138 : decode cX12_chi 138 = .ok (.aload_n 0, 1) := by decide +kernel
theorem dX12_chi_139 : decode cX12_chi 139 = .ok (.iload_n 1, 1) := by decide +kernel
theorem dX12_chi_140 : decode cX12_chi 140 = .ok (.ifCond .ne 7, 3) := by decide +kernel
theorem dX12_chi_143 : decode cX12_chi 143 = .ok (.lload_n 2, 1) := by decide +kernel
theorem dX12_chi_144 : decode cX12_chi 144 = .ok (.goto 5, 3) := by decide +kernel
theorem dX12_chi_147 : decode cX12_chi 147 = .ok (.lload 4, 2) := by decide +kernel
theorem dX12_chi_149 : decode cX12_chi 149 = .ok (.l2i, 1) := by decide +kernel
theorem dX12_chi_150 : decode cX12_chi 150 = .ok (.invokevirtual 251, 3) := by decide +kernel
theorem dX12_chi_153 : decode cX12_chi 153 = .ok (.ireturn, 1) := by decide +kernel
theorem dJ0_length_8abf5_0 : decode cJ0_length_8abf5 0 = .ok (.aload_n 0, 1) := by decide +kernel
theorem dJ0_length_8abf5_1 : decode cJ0_length_8abf5 1 = .ok (.getfield 9, 3) := by decide +kernel
theorem dJ0_length_8abf5_4 : decode cJ0_length_8abf5 4 = .ok (.arraylength, 1) := by decide +kernel
theorem dJ0_length_8abf5_5 : decode cJ0_length_8abf5 5 = .ok (.aload_n 0, 1) := by decide +kernel
theorem dJ0_length_8abf5_6 : decode cJ0_length_8abf5 6 = .ok (.invokevirtual 335, 3) := by decide +kernel
theorem dJ0_length_8abf5_9 : decode cJ0_length_8abf5 9 = .ok (.ishr, 1) := by decide +kernel
theorem dJ0_length_8abf5_10 : decode cJ0_length_8abf5 10 = .ok (.ireturn, 1) := by decide +kernel
theorem dJ0_charAt_5068e_0 : decode cJ0_charAt_5068e 0 = .ok (.aload_n 0, 1) := by decide +kernel
theorem dJ0_charAt_5068e_1 : decode cJ0_charAt_5068e 1 = .ok (.invokevirtual 492, 3) := by decide +kernel
theorem dJ0_charAt_5068e_4 : decode cJ0_charAt_5068e 4 = .ok (.ifCond .eq 12, 3) := by decide +kernel
theorem dJ0_charAt_5068e_7 : decode cJ0_charAt_5068e 7 = .ok (.aload_n 0, 1) := by decide +kernel
theorem dJ0_charAt_5068e_8 : decode cJ0_charAt_5068e 8 = .ok (.getfield 9, 3) := by decide +kernel
theorem dJ0_charAt_5068e_11 : decode cJ0_charAt_5068e 11 = .ok (.iload_n 1, 1) := by decide +kernel
theorem dJ0_charAt_5068e_12 : decode cJ0_charAt_5068e 12 = .ok (.invokestatic 495, 3) := by decide +kernel
theorem dJ0_charAt_5068e_15 : decode cJ0_charAt_5068e 15 = .ok (.ireturn, 1) := by decide +kernel
theorem dJ0_coder_7d493_0 : decode cJ0_coder_7d493 0 = .ok (.getstatic 38, 3) := by decide +kernel
theorem dJ0_coder_7d493_3 : decode cJ0_coder_7d493 3 = .ok (.ifCond .eq 10, 3) := by decide +kernel
theorem dJ0_coder_7d493_6 : decode cJ0_coder_7d493 6 = .ok (.aload_n 0, 1) := by decide +kernel
theorem dJ0_coder_7d493_7 : decode cJ0_coder_7d493 7 = .ok (.getfield 15, 3) := by decide +kernel
theorem dJ0_coder_7d493_10 : decode cJ0_coder_7d493 10 = .ok (.goto 4, 3) := by decide +kernel
theorem dJ0_coder_7d493_14 : decode cJ0_coder_7d493 14 = .ok (.ireturn, 1) := by decide +kernel
theorem dJ0_isLatin1_aae02_0 : decode cJ0_isLatin1_aae02 0 = .ok (.getstatic 38, 3) := by decide +kernel
theorem dJ0_isLatin1_aae02_3 : decode cJ0_isLatin1_aae02 3 = .ok (.ifCond .eq 14, 3) := by decide +kernel
theorem dJ0_isLatin1_aae02_6 : decode cJ0_isLatin1_aae02 6 = .ok (.aload_n 0, 1) := by decide +kernel
theorem dJ0_isLatin1_aae02_7 : decode cJ0_isLatin1_aae02 7 = .ok (.getfield 15, 3) := by decide +kernel
theorem dJ0_isLatin1_aae02_10 : decode cJ0_isLatin1_aae02 10 = .ok (.ifCond .ne 7, 3) := by decide +kernel
theorem dJ0_isLatin1_aae02_13 : decode cJ0_isLatin1_aae02 13 = .ok (.iconst 1, 1) := by decide +kernel
theorem dJ0_isLatin1_aae02_14 : decode cJ0_isLatin1_aae02 14 = .ok (.goto 4, 3) := by decide +kernel
theorem dJ0_isLatin1_aae02_18 : decode cJ0_isLatin1_aae02 18 = .ok (.ireturn, 1) := by decide +kernel
theorem dJ0_checkIndex_df160_0 : decode cJ0_checkIndex_df160 0 = .ok (.iload_n 0, 1) := by decide +kernel
theorem dJ0_checkIndex_df160_1 : decode cJ0_checkIndex_df160 1 = .ok (.iload_n 1, 1) := by decide +kernel
theorem dJ0_checkIndex_df160_2 : decode cJ0_checkIndex_df160 2 = .ok (.getstatic 1053, 3) := by decide +kernel
theorem dJ0_checkIndex_df160_5 : decode cJ0_checkIndex_df160 5 = .ok (.invokestatic 1059, 3) := by decide +kernel
theorem dJ0_checkIndex_df160_8 : decode cJ0_checkIndex_df160 8 = .ok (.pop, 1) := by decide +kernel
theorem dJ0_checkIndex_df160_9 : decode cJ0_checkIndex_df160 9 = .ok (.return_, 1) := by decide +kernel
theorem dJ1_charAt_3b067_0 : decode cJ1_charAt_3b067 0 = .ok (.iload_n 1, 1) := by decide +kernel
theorem dJ1_charAt_3b067_1 : decode cJ1_charAt_3b067 1 = .ok (.aload_n 0, 1) := by decide +kernel
theorem dJ1_charAt_3b067_2 : decode cJ1_charAt_3b067 2 = .ok (.arraylength, 1) := by decide +kernel
theorem dJ1_charAt_3b067_3 : decode cJ1_charAt_3b067 3 = .ok (.invokestatic 9, 3) := by decide +kernel
theorem dJ1_charAt_3b067_6 : decode cJ1_charAt_3b067 6 = .ok (.aload_n 0, 1) := by decide +kernel
theorem dJ1_charAt_3b067_7 : decode cJ1_charAt_3b067 7 = .ok (.iload_n 1, 1) := by decide +kernel
theorem dJ1_charAt_3b067_8 : decode cJ1_charAt_3b067 8 = .ok (.baload, 1) := by decide +kernel
theorem dJ1_charAt_3b067_9 : decode cJ1_charAt_3b067 9 = .ok (.sipush 255, 3) := by decide +kernel
theorem dJ1_charAt_3b067_12 : decode cJ1_charAt_3b067 12 = .ok (.iand, 1) := by decide +kernel
theorem dJ1_charAt_3b067_13 : decode cJ1_charAt_3b067 13 = .ok (.i2c, 1) := by decide +kernel
theorem dJ1_charAt_3b067_14 : decode cJ1_charAt_3b067 14 = .ok (.ireturn, 1) := by decide +kernel
theorem dJ3_checkIndex_8e157_0 : decode cJ3_checkIndex_8e157 0 = .ok (.iload_n 0, 1) := by decide +kernel
theorem dJ3_checkIndex_8e157_1 : decode cJ3_checkIndex_8e157 1 = .ok (.ifCond .lt 8, 3) := by decide +kernel
theorem dJ3_checkIndex_8e157_4 : decode cJ3_checkIndex_8e157 4 = .ok (.iload_n 0, 1) := by decide +kernel
theorem dJ3_checkIndex_8e157_5 : decode cJ3_checkIndex_8e157 5 = .ok (.iload_n 1, 1) := by decide +kernel
theorem dJ3_checkIndex_8e157_6 : decode cJ3_checkIndex_8e157 6 = .ok (.if_icmp .lt 10, 3) := by decide +kernel
theorem dJ3_checkIndex_8e157_16 : decode cJ3_checkIndex_8e157 16 = .ok (.iload_n 0, 1) := by decide +kernel
theorem dJ3_checkIndex_8e157_17 : decode cJ3_checkIndex_8e157 17 = .ok (.ireturn, 1) := by decide +kernel
