abbrev cX5_read : ByteArray := prog_7_method_2_code
def yX5_read : MethodName := ⟨RX5, "read", "([BI)Z"⟩
def tyX9 : Nat → FieldType := fun k => match k with
  | 0 => .array .int
  | 1 => .array .int
  | 2 => .array .int
  | 3 => .int
  | 4 => .array .byte
  | _ => .int
theorem nmX9 : ∀ a, a < 6 → ∀ b, b < 6 → a ≠ b → (TX9 a).2.1 ≠ (TX9 b).2.1 := by decide +kernel
theorem tyX9_ok : ∀ k, k < 6 → parseFieldDescriptor (TX9 k).2.2.1 = some (tyX9 k) := by decide +kernel
abbrev cX9_cut : ByteArray := prog_11_method_5_code
def yX9_cut : MethodName := ⟨RX9, "cut", "([BI)V"⟩
abbrev cX9_add : ByteArray := prog_11_method_10_code
def yX9_add : MethodName := ⟨RX9, "add", "(II)V"⟩
abbrev cX9_kindOf : ByteArray := prog_11_method_11_code
def yX9_kindOf : MethodName := ⟨RX9, "kindOf", "(II)I"⟩
abbrev cX9_isText : ByteArray := prog_11_method_13_code
def yX9_isText : MethodName := ⟨RX9, "isText", "(IILjava/lang/String;)Z"⟩
abbrev cX11_load : ByteArray := prog_1_method_4_code
def yX11_load : MethodName := ⟨RX11, "load", "(I)I"⟩
theorem dX5_read_0 : decode cX5_read 0 = .ok (.aload_n 0, 1) := by decide +kernel
theorem dX5_read_1 : decode cX5_read 1 = .ok (.iconst 1, 1) := by decide +kernel
theorem dX5_read_2 : decode cX5_read 2 = .ok (.putfield 32, 3) := by decide +kernel
theorem dX5_read_5 : decode cX5_read 5 = .ok (.aload_n 0, 1) := by decide +kernel
theorem dX5_read_6 : decode cX5_read 6 = .ok (.iconst 0, 1) := by decide +kernel
theorem dX5_read_7 : decode cX5_read 7 = .ok (.putfield 36, 3) := by decide +kernel
theorem dX5_read_10 : decode cX5_read 10 = .ok (.aload_n 0, 1) := by decide +kernel
theorem dX5_read_11 : decode cX5_read 11 = .ok (.iconst 0, 1) := by decide +kernel
theorem dX5_read_12 : decode cX5_read 12 = .ok (.putfield 43, 3) := by decide +kernel
theorem dX5_read_15 : decode cX5_read 15 = .ok (.aload_n 0, 1) := by decide +kernel
theorem dX5_read_16 : decode cX5_read 16 = .ok (.iconst 0, 1) := by decide +kernel
theorem dX5_read_17 : decode cX5_read 17 = .ok (.putfield 46, 3) := by decide +kernel
theorem dX5_read_20 : decode cX5_read 20 = .ok (.aload_n 0, 1) := by decide +kernel
theorem dX5_read_21 : decode cX5_read 21 = .ok (.iconst (-1), 1) := by decide +kernel
theorem dX5_read_22 : decode cX5_read 22 = .ok (.putfield 49, 3) := by decide +kernel
theorem dX5_read_25 : decode cX5_read 25 = .ok (.aload_n 0, 1) := by decide +kernel
theorem dX5_read_26 : decode cX5_read 26 = .ok (.iconst (-1), 1) := by decide +kernel
theorem dX5_read_27 : decode cX5_read 27 = .ok (.putfield 52, 3) := by decide +kernel
theorem dX5_read_30 : decode cX5_read 30 = .ok (.aload_n 0, 1) := by decide +kernel
theorem dX5_read_31 : decode cX5_read 31 = .ok (.getfield 21, 3) := by decide +kernel
theorem dX5_read_34 : decode cX5_read 34 = .ok (.invokevirtual 55, 3) := by decide +kernel
theorem dX5_read_37 : decode cX5_read 37 = .ok (.aload_n 0, 1) := by decide +kernel
theorem dX5_read_38 : decode cX5_read 38 = .ok (.getfield 12, 3) := by decide +kernel
theorem dX5_read_41 : decode cX5_read 41 = .ok (.aload_n 1, 1) := by decide +kernel
theorem dX5_read_42 : decode cX5_read 42 = .ok (.iload_n 2, 1) := by decide +kernel
theorem dX5_read_43 : decode cX5_read 43 = .ok (.invokevirtual 58, 3) := by decide +kernel
theorem dX5_read_46 : decode cX5_read 46 = .ok (.iconst 0, 1) := by decide +kernel
theorem dX5_read_47 : decode cX5_read 47 = .ok (.istore_n 3, 1) := by decide +kernel
theorem dX5_read_48 : decode cX5_read 48 = .ok (.iload_n 3, 1) := by decide +kernel
theorem dX5_read_49 : decode cX5_read 49 = .ok (.sipush 700, 3) := by decide +kernel
theorem dX5_read_52 : decode cX5_read 52 = .ok (.if_icmp .ge 72, 3) := by decide +kernel
theorem dX5_read_55 : decode cX5_read 55 = .ok (.aload_n 0, 1) := by decide +kernel
theorem dX5_read_56 : decode cX5_read 56 = .ok (.getfield 46, 3) := by decide +kernel
theorem dX5_read_59 : decode cX5_read 59 = .ok (.ifCond .ne 65, 3) := by decide +kernel
theorem dX5_read_62 : decode cX5_read 62 = .ok (.aload_n 0, 1) := by decide +kernel
theorem dX5_read_63 : decode cX5_read 63 = .ok (.invokevirtual 62, 3) := by decide +kernel
theorem dX5_read_66 : decode cX5_read 66 = .ok (.ifCond .eq 58, 3) := by decide +kernel
theorem dX5_read_69 : decode cX5_read 69 = .ok (.aload_n 0, 1) := by decide +kernel
theorem dX5_read_70 : decode cX5_read 70 = .ok (.invokevirtual 62, 3) := by decide +kernel
theorem dX5_read_73 : decode cX5_read 73 = .ok (.lookupswitch 41 #[(3, 27), (4, 34)], 27) := by decide +kernel
theorem dX5_read_100 : decode cX5_read 100 = .ok (.aload_n 0, 1) := by decide +kernel
theorem dX5_read_101 : decode cX5_read 101 = .ok (.invokevirtual 66, 3) := by decide +kernel
theorem dX5_read_104 : decode cX5_read 104 = .ok (.goto 14, 3) := by decide +kernel
theorem dX5_read_107 : decode cX5_read 107 = .ok (.aload_n 0, 1) := by decide +kernel
theorem dX5_read_108 : decode cX5_read 108 = .ok (.invokevirtual 69, 3) := by decide +kernel
theorem dX5_read_111 : decode cX5_read 111 = .ok (.goto 7, 3) := by decide +kernel
theorem dX5_read_114 : decode cX5_read 114 = .ok (.aload_n 0, 1) := by decide +kernel
theorem dX5_read_115 : decode cX5_read 115 = .ok (.invokevirtual 72, 3) := by decide +kernel
theorem dX5_read_118 : decode cX5_read 118 = .ok (.iinc 3 1, 3) := by decide +kernel
theorem dX5_read_121 : decode cX5_read 121 = .ok (.goto (-73), 3) := by decide +kernel
theorem dX5_read_124 : decode cX5_read 124 = .ok (.aload_n 0, 1) := by decide +kernel
theorem dX5_read_125 : decode cX5_read 125 = .ok (.getfield 46, 3) := by decide +kernel
theorem dX5_read_128 : decode cX5_read 128 = .ok (.ifCond .ne 7, 3) := by decide +kernel
theorem dX5_read_131 : decode cX5_read 131 = .ok (.iconst 1, 1) := by decide +kernel
theorem dX5_read_132 : decode cX5_read 132 = .ok (.goto 4, 3) := by decide +kernel
theorem dX5_read_135 : decode cX5_read 135 = .ok (.iconst 0, 1) := by decide +kernel
theorem dX5_read_136 : decode cX5_read 136 = .ok (.ireturn, 1) := by decide +kernel
theorem dX9_cut_0 : decode cX9_cut 0 = .ok (.aload_n 0, 1) := by decide +kernel
theorem dX9_cut_1 : decode cX9_cut 1 = .ok (.aload_n 1, 1) := by decide +kernel
theorem dX9_cut_2 : decode cX9_cut 2 = .ok (.putfield 25, 3) := by decide +kernel
theorem dX9_cut_5 : decode cX9_cut 5 = .ok (.aload_n 0, 1) := by decide +kernel
theorem dX9_cut_6 : decode cX9_cut 6 = .ok (.iload_n 2, 1) := by decide +kernel
theorem dX9_cut_7 : decode cX9_cut 7 = .ok (.aload_n 1, 1) := by decide +kernel
theorem dX9_cut_8 : decode cX9_cut 8 = .ok (.arraylength, 1) := by decide +kernel
theorem dX9_cut_9 : decode cX9_cut 9 = .ok (.invokestatic 32, 3) := by decide +kernel
theorem dX9_cut_12 : decode cX9_cut 12 = .ok (.putfield 29, 3) := by decide +kernel
theorem dX9_cut_15 : decode cX9_cut 15 = .ok (.aload_n 0, 1) := by decide +kernel
theorem dX9_cut_16 : decode cX9_cut 16 = .ok (.iconst 0, 1) := by decide +kernel
theorem dX9_cut_17 : decode cX9_cut 17 = .ok (.putfield 21, 3) := by decide +kernel
theorem dX9_cut_20 : decode cX9_cut 20 = .ok (.iconst 0, 1) := by decide +kernel
theorem dX9_cut_21 : decode cX9_cut 21 = .ok (.istore_n 3, 1) := by decide +kernel
theorem dX9_cut_22 : decode cX9_cut 22 = .ok (.iload_n 3, 1) := by decide +kernel
theorem dX9_cut_23 : decode cX9_cut 23 = .ok (.aload_n 0, 1) := by decide +kernel
theorem dX9_cut_24 : decode cX9_cut 24 = .ok (.getfield 29, 3) := by decide +kernel
theorem dX9_cut_27 : decode cX9_cut 27 = .ok (.if_icmp .ge 50, 3) := by decide +kernel
theorem dX9_cut_30 : decode cX9_cut 30 = .ok (.aload_n 0, 1) := by decide +kernel
theorem dX9_cut_31 : decode cX9_cut 31 = .ok (.iload_n 3, 1) := by decide +kernel
theorem dX9_cut_32 : decode cX9_cut 32 = .ok (.invokevirtual 38, 3) := by decide +kernel
theorem dX9_cut_35 : decode cX9_cut 35 = .ok (.istore 4, 2) := by decide +kernel
theorem dX9_cut_37 : decode cX9_cut 37 = .ok (.aload_n 0, 1) := by decide +kernel
theorem dX9_cut_38 : decode cX9_cut 38 = .ok (.iload_n 3, 1) := by decide +kernel
theorem dX9_cut_39 : decode cX9_cut 39 = .ok (.invokevirtual 42, 3) := by decide +kernel
theorem dX9_cut_42 : decode cX9_cut 42 = .ok (.istore 5, 2) := by decide +kernel
theorem dX9_cut_44 : decode cX9_cut 44 = .ok (.iload 4, 2) := by decide +kernel
theorem dX9_cut_46 : decode cX9_cut 46 = .ok (.bipush 10, 2) := by decide +kernel
theorem dX9_cut_48 : decode cX9_cut 48 = .ok (.if_icmp .eq 17, 3) := by decide +kernel
theorem dX9_cut_51 : decode cX9_cut 51 = .ok (.iload 4, 2) := by decide +kernel
theorem dX9_cut_53 : decode cX9_cut 53 = .ok (.bipush 32, 2) := by decide +kernel
theorem dX9_cut_55 : decode cX9_cut 55 = .ok (.if_icmp .eq 10, 3) := by decide +kernel
theorem dX9_cut_58 : decode cX9_cut 58 = .ok (.aload_n 0, 1) := by decide +kernel
theorem dX9_cut_59 : decode cX9_cut 59 = .ok (.iload_n 3, 1) := by decide +kernel
theorem dX9_cut_60 : decode cX9_cut 60 = .ok (.iload 5, 2) := by decide +kernel
theorem dX9_cut_62 : decode cX9_cut 62 = .ok (.invokevirtual 45, 3) := by decide +kernel
theorem dX9_cut_65 : decode cX9_cut 65 = .ok (.iload 5, 2) := by decide +kernel
theorem dX9_cut_67 : decode cX9_cut 67 = .ok (.iload_n 3, 1) := by decide +kernel
theorem dX9_cut_68 : decode cX9_cut 68 = .ok (.iconst 1, 1) := by decide +kernel
theorem dX9_cut_69 : decode cX9_cut 69 = .ok (.iadd, 1) := by decide +kernel
theorem dX9_cut_70 : decode cX9_cut 70 = .ok (.invokestatic 49, 3) := by decide +kernel
theorem dX9_cut_73 : decode cX9_cut 73 = .ok (.istore_n 3, 1) := by decide +kernel
theorem dX9_cut_74 : decode cX9_cut 74 = .ok (.goto (-52), 3) := by decide +kernel
theorem dX9_cut_77 : decode cX9_cut 77 = .ok (.return_, 1) := by decide +kernel
theorem dX9_add_0 : decode cX9_add 0 = .ok (.aload_n 0, 1) := by decide +kernel
theorem dX9_add_1 : decode cX9_add 1 = .ok (.getfield 21, 3) := by decide +kernel
theorem dX9_add_4 : decode cX9_add 4 = .ok (.ifCond .lt 39, 3) := by decide +kernel
theorem dX9_add_7 : decode cX9_add 7 = .ok (.aload_n 0, 1) := by decide +kernel
theorem dX9_add_8 : decode cX9_add 8 = .ok (.getfield 21, 3) := by decide +kernel
theorem dX9_add_11 : decode cX9_add 11 = .ok (.aload_n 0, 1) := by decide +kernel
theorem dX9_add_12 : decode cX9_add 12 = .ok (.getfield 9, 3) := by decide +kernel
theorem dX9_add_15 : decode cX9_add 15 = .ok (.arraylength, 1) := by decide +kernel
theorem dX9_add_16 : decode cX9_add 16 = .ok (.if_icmp .ge 27, 3) := by decide +kernel
theorem dX9_add_19 : decode cX9_add 19 = .ok (.aload_n 0, 1) := by decide +kernel
theorem dX9_add_20 : decode cX9_add 20 = .ok (.getfield 21, 3) := by decide +kernel
theorem dX9_add_23 : decode cX9_add 23 = .ok (.aload_n 0, 1) := by decide +kernel
theorem dX9_add_24 : decode cX9_add 24 = .ok (.getfield 15, 3) := by decide +kernel
theorem dX9_add_27 : decode cX9_add 27 = .ok (.arraylength, 1) := by decide +kernel
theorem dX9_add_28 : decode cX9_add 28 = .ok (.if_icmp .ge 15, 3) := by decide +kernel
theorem dX9_add_31 : decode cX9_add 31 = .ok (.aload_n 0, 1) := by decide +kernel
theorem dX9_add_32 : decode cX9_add 32 = .ok (.getfield 21, 3) := by decide +kernel
theorem dX9_add_35 : decode cX9_add 35 = .ok (.aload_n 0, 1) := by decide +kernel
theorem dX9_add_36 : decode cX9_add 36 = .ok (.getfield 18, 3) := by decide +kernel
theorem dX9_add_39 : decode cX9_add 39 = .ok (.arraylength, 1) := by decide +kernel
theorem dX9_add_40 : decode cX9_add 40 = .ok (.if_icmp .lt 4, 3) := by decide +kernel
theorem dX9_add_43 : decode cX9_add 43 = .ok (.return_, 1) := by decide +kernel
theorem dX9_add_44 : decode cX9_add 44 = .ok (.aload_n 0, 1) := by decide +kernel
theorem dX9_add_45 : decode cX9_add 45 = .ok (.getfield 9, 3) := by decide +kernel
theorem dX9_add_48 : decode cX9_add 48 = .ok (.aload_n 0, 1) := by decide +kernel
theorem dX9_add_49 : decode cX9_add 49 = .ok (.getfield 21, 3) := by decide +kernel
theorem dX9_add_52 : decode cX9_add 52 = .ok (.aload_n 0, 1) := by decide +kernel
theorem dX9_add_53 : decode cX9_add 53 = .ok (.iload_n 1, 1) := by decide +kernel
theorem dX9_add_54 : decode cX9_add 54 = .ok (.iload_n 2, 1) := by decide +kernel
theorem dX9_add_55 : decode cX9_add 55 = .ok (.invokevirtual 59, 3) := by decide +kernel
theorem dX9_add_58 : decode cX9_add 58 = .ok (.iastore, 1) := by decide +kernel
theorem dX9_add_59 : decode cX9_add 59 = .ok (.aload_n 0, 1) := by decide +kernel
theorem dX9_add_60 : decode cX9_add 60 = .ok (.getfield 15, 3) := by decide +kernel
theorem dX9_add_63 : decode cX9_add 63 = .ok (.aload_n 0, 1) := by decide +kernel
theorem dX9_add_64 : decode cX9_add 64 = .ok (.getfield 21, 3) := by decide +kernel
theorem dX9_add_67 : decode cX9_add 67 = .ok (.iload_n 1, 1) := by decide +kernel
theorem dX9_add_68 : decode cX9_add 68 = .ok (.iastore, 1) := by decide +kernel
theorem dX9_add_69 : decode cX9_add 69 = .ok (.aload_n 0, 1) := by decide +kernel
theorem dX9_add_70 : decode cX9_add 70 = .ok (.getfield 18, 3) := by decide +kernel
theorem dX9_add_73 : decode cX9_add 73 = .ok (.aload_n 0, 1) := by decide +kernel
theorem dX9_add_74 : decode cX9_add 74 = .ok (.getfield 21, 3) := by decide +kernel
theorem dX9_add_77 : decode cX9_add 77 = .ok (.aload_n 0, 1) := by decide +kernel
theorem dX9_add_78 : decode cX9_add 78 = .ok (.getfield 9, 3) := by decide +kernel
theorem dX9_add_81 : decode cX9_add 81 = .ok (.aload_n 0, 1) := by decide +kernel
theorem dX9_add_82 : decode cX9_add 82 = .ok (.getfield 21, 3) := by decide +kernel
theorem dX9_add_85 : decode cX9_add 85 = .ok (.iaload, 1) := by decide +kernel
theorem dX9_add_86 : decode cX9_add 86 = .ok (.bipush 6, 2) := by decide +kernel
theorem dX9_add_88 : decode cX9_add 88 = .ok (.if_icmp .ne 12, 3) := by decide +kernel
theorem dX9_add_91 : decode cX9_add 91 = .ok (.aload_n 0, 1) := by decide +kernel
theorem dX9_add_92 : decode cX9_add 92 = .ok (.iload_n 1, 1) := by decide +kernel
theorem dX9_add_93 : decode cX9_add 93 = .ok (.iload_n 2, 1) := by decide +kernel
theorem dX9_add_94 : decode cX9_add 94 = .ok (.invokevirtual 62, 3) := by decide +kernel
theorem dX9_add_97 : decode cX9_add 97 = .ok (.goto 4, 3) := by decide +kernel
theorem dX9_add_100 : decode cX9_add 100 = .ok (.iconst 0, 1) := by decide +kernel
theorem dX9_add_101 : decode cX9_add 101 = .ok (.iastore, 1) := by decide +kernel
theorem dX9_add_102 : decode cX9_add 102 = .ok (.aload_n 0, 1) := by decide +kernel
theorem dX9_add_103 : decode cX9_add 103 = .ok (.dup, 1) := by decide +kernel
theorem dX9_add_104 : decode cX9_add 104 = .ok (.getfield 21, 3) := by decide +kernel
theorem dX9_add_107 : decode cX9_add 107 = .ok (.iconst 1, 1) := by decide +kernel
theorem dX9_add_108 : decode cX9_add 108 = .ok (.iadd, 1) := by decide +kernel
theorem dX9_add_109 : decode cX9_add 109 = .ok (.putfield 21, 3) := by decide +kernel
theorem dX9_add_112 : decode cX9_add 112 = .ok (.return_, 1) := by decide +kernel
theorem dX9_kindOf_0 : decode cX9_kindOf 0 = .ok (.aload_n 0, 1) := by decide +kernel
theorem dX9_kindOf_1 : decode cX9_kindOf 1 = .ok (.iload_n 1, 1) := by decide +kernel
theorem dX9_kindOf_2 : decode cX9_kindOf 2 = .ok (.invokevirtual 38, 3) := by decide +kernel
theorem dX9_kindOf_5 : decode cX9_kindOf 5 = .ok (.istore_n 3, 1) := by decide +kernel
theorem dX9_kindOf_6 : decode cX9_kindOf 6 = .ok (.iload_n 3, 1) := by decide +kernel
theorem dX9_kindOf_7 : decode cX9_kindOf 7 = .ok (.invokestatic 56, 3) := by decide +kernel
theorem dX9_kindOf_10 : decode cX9_kindOf 10 = .ok (.ifCond .eq 17, 3) := by decide +kernel
theorem dX9_kindOf_13 : decode cX9_kindOf 13 = .ok (.iload_n 2, 1) := by decide +kernel
theorem dX9_kindOf_14 : decode cX9_kindOf 14 = .ok (.iload_n 1, 1) := by decide +kernel
theorem dX9_kindOf_15 : decode cX9_kindOf 15 = .ok (.isub, 1) := by decide +kernel
theorem dX9_kindOf_16 : decode cX9_kindOf 16 = .ok (.iconst 3, 1) := by decide +kernel
theorem dX9_kindOf_17 : decode cX9_kindOf 17 = .ok (.if_icmp .le 7, 3) := by decide +kernel
theorem dX9_kindOf_20 : decode cX9_kindOf 20 = .ok (.iconst 1, 1) := by decide +kernel
theorem dX9_kindOf_21 : decode cX9_kindOf 21 = .ok (.goto 5, 3) := by decide +kernel
theorem dX9_kindOf_24 : decode cX9_kindOf 24 = .ok (.bipush 6, 2) := by decide +kernel
theorem dX9_kindOf_26 : decode cX9_kindOf 26 = .ok (.ireturn, 1) := by decide +kernel
theorem dX9_kindOf_27 : decode cX9_kindOf 27 = .ok (.iload_n 3, 1) := by decide +kernel
theorem dX9_kindOf_28 : decode cX9_kindOf 28 = .ok (.invokestatic 52, 3) := by decide +kernel
theorem dX9_kindOf_31 : decode cX9_kindOf 31 = .ok (.ifCond .ne 8, 3) := by decide +kernel
theorem dX9_kindOf_34 : decode cX9_kindOf 34 = .ok (.iload_n 3, 1) := by decide +kernel
theorem dX9_kindOf_35 : decode cX9_kindOf 35 = .ok (.invokestatic 65, 3) := by decide +kernel
theorem dX9_kindOf_38 : decode cX9_kindOf 38 = .ok (.ireturn, 1) := by decide +kernel
theorem dX9_kindOf_39 : decode cX9_kindOf 39 = .ok (.aload_n 0, 1) := by decide +kernel
theorem dX9_kindOf_40 : decode cX9_kindOf 40 = .ok (.iload_n 1, 1) := by decide +kernel
theorem dX9_kindOf_41 : decode cX9_kindOf 41 = .ok (.iload_n 2, 1) := by decide +kernel
theorem dX9_kindOf_42 : decode cX9_kindOf 42 = .ok (.ldc 68, 2) := by decide +kernel
theorem dX9_kindOf_44 : decode cX9_kindOf 44 = .ok (.invokevirtual 70, 3) := by decide +kernel
theorem dX9_kindOf_47 : decode cX9_kindOf 47 = .ok (.ifCond .eq 5, 3) := by decide +kernel
theorem dX9_kindOf_50 : decode cX9_kindOf 50 = .ok (.iconst 3, 1) := by decide +kernel
theorem dX9_kindOf_51 : decode cX9_kindOf 51 = .ok (.ireturn, 1) := by decide +kernel
theorem dX9_kindOf_52 : decode cX9_kindOf 52 = .ok (.aload_n 0, 1) := by decide +kernel
theorem dX9_kindOf_53 : decode cX9_kindOf 53 = .ok (.iload_n 1, 1) := by decide +kernel
theorem dX9_kindOf_54 : decode cX9_kindOf 54 = .ok (.iload_n 2, 1) := by decide +kernel
theorem dX9_kindOf_55 : decode cX9_kindOf 55 = .ok (.ldc 74, 2) := by decide +kernel
theorem dX9_kindOf_57 : decode cX9_kindOf 57 = .ok (.invokevirtual 70, 3) := by decide +kernel
theorem dX9_kindOf_60 : decode cX9_kindOf 60 = .ok (.ifCond .eq 5, 3) := by decide +kernel
theorem dX9_kindOf_63 : decode cX9_kindOf 63 = .ok (.iconst 4, 1) := by decide +kernel
theorem dX9_kindOf_64 : decode cX9_kindOf 64 = .ok (.ireturn, 1) := by decide +kernel
theorem dX9_kindOf_65 : decode cX9_kindOf 65 = .ok (.aload_n 0, 1) := by decide +kernel
theorem dX9_kindOf_66 : decode cX9_kindOf 66 = .ok (.iload_n 1, 1) := by decide +kernel
theorem dX9_kindOf_67 : decode cX9_kindOf 67 = .ok (.iload_n 2, 1) := by decide +kernel
theorem dX9_kindOf_68 : decode cX9_kindOf 68 = .ok (.ldc 76, 2) := by decide +kernel
theorem dX9_kindOf_70 : decode cX9_kindOf 70 = .ok (.invokevirtual 70, 3) := by decide +kernel
theorem dX9_kindOf_73 : decode cX9_kindOf 73 = .ok (.ifCond .eq 7, 3) := by decide +kernel
theorem dX9_kindOf_76 : decode cX9_kindOf 76 = .ok (.iconst 5, 1) := by decide +kernel
theorem dX9_kindOf_77 : decode cX9_kindOf 77 = .ok (.goto 4, 3) := by decide +kernel
theorem dX9_kindOf_80 : decode cX9_kindOf 80 = .ok (.iconst 2, 1) := by decide +kernel
theorem dX9_kindOf_81 : decode cX9_kindOf 81 = .ok (.ireturn, 1) := by decide +kernel
theorem dX9_isText_0 : decode cX9_isText 0 = .ok (.iload_n 2, 1) := by decide +kernel
theorem dX9_isText_1 : decode cX9_isText 1 = .ok (.iload_n 1, 1) := by decide +kernel
theorem dX9_isText_2 : decode cX9_isText 2 = .ok (.isub, 1) := by decide +kernel
theorem dX9_isText_3 : decode cX9_isText 3 = .ok (.aload_n 3, 1) := by decide +kernel
theorem dX9_isText_4 : decode cX9_isText 4 = .ok (.invokevirtual 78, 3) := by decide +kernel
theorem dX9_isText_7 : decode cX9_isText 7 = .ok (.if_icmp .eq 5, 3) := by decide +kernel
theorem dX9_isText_10 : decode cX9_isText 10 = .ok (.iconst 0, 1) := by decide +kernel
theorem dX9_isText_11 : decode cX9_isText 11 = .ok (.ireturn, 1) := by decide +kernel
theorem dX9_isText_12 : decode cX9_isText 12 = .ok (.iconst 0, 1) := by decide +kernel
theorem dX9_isText_13 : decode cX9_isText 13 = .ok (.istore 4, 2) := by decide +kernel
theorem dX9_isText_15 : decode cX9_isText 15 = .ok (.iload 4, 2) := by decide +kernel
theorem dX9_isText_17 : decode cX9_isText 17 = .ok (.aload_n 3, 1) := by decide +kernel
theorem dX9_isText_18 : decode cX9_isText 18 = .ok (.invokevirtual 78, 3) := by decide +kernel
theorem dX9_isText_21 : decode cX9_isText 21 = .ok (.if_icmp .ge 28, 3) := by decide +kernel
theorem dX9_isText_24 : decode cX9_isText 24 = .ok (.aload_n 0, 1) := by decide +kernel
theorem dX9_isText_25 : decode cX9_isText 25 = .ok (.iload_n 1, 1) := by decide +kernel
theorem dX9_isText_26 : decode cX9_isText 26 = .ok (.iload 4, 2) := by decide +kernel
theorem dX9_isText_28 : decode cX9_isText 28 = .ok (.iadd, 1) := by decide +kernel
theorem dX9_isText_29 : decode cX9_isText 29 = .ok (.invokevirtual 38, 3) := by decide +kernel
theorem dX9_isText_32 : decode cX9_isText 32 = .ok (.aload_n 3, 1) := by decide +kernel
theorem dX9_isText_33 : decode cX9_isText 33 = .ok (.iload 4, 2) := by decide +kernel
theorem dX9_isText_35 : decode cX9_isText 35 = .ok (.invokevirtual 84, 3) := by decide +kernel
theorem dX9_isText_38 : decode cX9_isText 38 = .ok (.if_icmp .eq 5, 3) := by decide +kernel
theorem dX9_isText_41 : decode cX9_isText 41 = .ok (.iconst 0, 1) := by decide +kernel
theorem dX9_isText_42 : decode cX9_isText 42 = .ok (.ireturn, 1) := by decide +kernel
theorem dX9_isText_43 : decode cX9_isText 43 = .ok (.iinc 4 1, 3) := by decide +kernel
theorem dX9_isText_46 : decode cX9_isText 46 = .ok (.goto (-31), 3) := by decide +kernel
theorem dX9_isText_49 : decode cX9_isText 49 = .ok (.iconst 1, 1) := by decide +kernel
theorem dX9_isText_50 : decode cX9_isText 50 = .ok (.ireturn, 1) := by decide +kernel
theorem dX11_load_0 : decode cX11_load 0 = .ok (.iload_n 1, 1) := by decide +kernel
theorem dX11_load_1 : decode cX11_load 1 = .ok (.ifCond .lt 11, 3) := by decide +kernel
theorem dX11_load_4 : decode cX11_load 4 = .ok (.iload_n 1, 1) := by decide +kernel
theorem dX11_load_5 : decode cX11_load 5 = .ok (.aload_n 0, 1) := by decide +kernel
theorem dX11_load_6 : decode cX11_load 6 = .ok (.getfield 42, 3) := by decide +kernel
theorem dX11_load_9 : decode cX11_load 9 = .ok (.if_icmp .le 9, 3) := by decide +kernel
theorem dX11_load_12 : decode cX11_load 12 = .ok (.aload_n 0, 1) := by decide +kernel
theorem dX11_load_13 : decode cX11_load 13 = .ok (.iconst 1, 1) := by decide +kernel
theorem dX11_load_14 : decode cX11_load 14 = .ok (.invokevirtual 110, 3) := by decide +kernel
theorem dX11_load_17 : decode cX11_load 17 = .ok (.ireturn, 1) := by decide +kernel
