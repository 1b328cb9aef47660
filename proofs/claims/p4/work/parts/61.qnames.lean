abbrev cX11_fault : ByteArray := prog_1_method_5_code
def yX11_fault : MethodName := ⟨RX11, "fault", "(I)I"⟩
abbrev cX11_feedFour : ByteArray := prog_1_method_54_code
def yX11_feedFour : MethodName := ⟨RX11, "feedFour", "(I)V"⟩
theorem dX11_feed_15 : decode cX11_feed 15 = .ok (.aload_n 0, 1) := by decide +kernel
theorem dX11_feed_16 : decode cX11_feed 16 = .ok (.iload_n 1, 1) := by decide +kernel
theorem dX11_feed_17 : decode cX11_feed 17 = .ok (.invokevirtual 106, 3) := by decide +kernel
theorem dX11_feed_20 : decode cX11_feed 20 = .ok (.aload_n 0, 1) := by decide +kernel
theorem dX11_feed_21 : decode cX11_feed 21 = .ok (.iload_n 2, 1) := by decide +kernel
theorem dX11_feed_22 : decode cX11_feed 22 = .ok (.invokevirtual 106, 3) := by decide +kernel
theorem dX11_feed_25 : decode cX11_feed 25 = .ok (.aload_n 0, 1) := by decide +kernel
theorem dX11_feed_26 : decode cX11_feed 26 = .ok (.iload_n 3, 1) := by decide +kernel
theorem dX11_feed_27 : decode cX11_feed 27 = .ok (.invokevirtual 106, 3) := by decide +kernel
theorem dX11_feed_30 : decode cX11_feed 30 = .ok (.aload_n 0, 1) := by decide +kernel
theorem dX11_feed_31 : decode cX11_feed 31 = .ok (.iload 4, 2) := by decide +kernel
theorem dX11_feed_33 : decode cX11_feed 33 = .ok (.invokevirtual 106, 3) := by decide +kernel
theorem dX11_feed_36 : decode cX11_feed 36 = .ok (.aload_n 0, 1) := by decide +kernel
theorem dX11_feed_37 : decode cX11_feed 37 = .ok (.iload 5, 2) := by decide +kernel
theorem dX11_feed_39 : decode cX11_feed 39 = .ok (.invokevirtual 106, 3) := by decide +kernel
theorem dX11_feed_42 : decode cX11_feed 42 = .ok (.aload_n 0, 1) := by decide +kernel
theorem dX11_feed_43 : decode cX11_feed 43 = .ok (.getfield 42, 3) := by decide +kernel
theorem dX11_feed_46 : decode cX11_feed 46 = .ok (.ireturn, 1) := by decide +kernel
theorem dX11_fault_0 : decode cX11_fault 0 = .ok (.aload_n 0, 1) := by decide +kernel
theorem dX11_fault_1 : decode cX11_fault 1 = .ok (.getfield 48, 3) := by decide +kernel
theorem dX11_fault_4 : decode cX11_fault 4 = .ok (.iload_n 1, 1) := by decide +kernel
theorem dX11_fault_5 : decode cX11_fault 5 = .ok (.invokevirtual 136, 3) := by decide +kernel
theorem dX11_fault_8 : decode cX11_fault 8 = .ok (.ireturn, 1) := by decide +kernel
theorem dX11_feedFour_0 : decode cX11_feedFour 0 = .ok (.bipush 24, 2) := by decide +kernel
theorem dX11_feedFour_2 : decode cX11_feedFour 2 = .ok (.istore_n 2, 1) := by decide +kernel
theorem dX11_feedFour_3 : decode cX11_feedFour 3 = .ok (.iload_n 2, 1) := by decide +kernel
theorem dX11_feedFour_4 : decode cX11_feedFour 4 = .ok (.ifCond .lt 51, 3) := by decide +kernel
theorem dX11_feedFour_7 : decode cX11_feedFour 7 = .ok (.aload_n 0, 1) := by decide +kernel
theorem dX11_feedFour_8 : decode cX11_feedFour 8 = .ok (.getfield 42, 3) := by decide +kernel
theorem dX11_feedFour_11 : decode cX11_feedFour 11 = .ok (.ifCond .lt 38, 3) := by decide +kernel
theorem dX11_feedFour_14 : decode cX11_feedFour 14 = .ok (.aload_n 0, 1) := by decide +kernel
theorem dX11_feedFour_15 : decode cX11_feedFour 15 = .ok (.getfield 42, 3) := by decide +kernel
theorem dX11_feedFour_18 : decode cX11_feedFour 18 = .ok (.aload_n 0, 1) := by decide +kernel
theorem dX11_feedFour_19 : decode cX11_feedFour 19 = .ok (.getfield 38, 3) := by decide +kernel
theorem dX11_feedFour_22 : decode cX11_feedFour 22 = .ok (.arraylength, 1) := by decide +kernel
theorem dX11_feedFour_23 : decode cX11_feedFour 23 = .ok (.if_icmp .ge 26, 3) := by decide +kernel
theorem dX11_feedFour_26 : decode cX11_feedFour 26 = .ok (.aload_n 0, 1) := by decide +kernel
theorem dX11_feedFour_27 : decode cX11_feedFour 27 = .ok (.getfield 38, 3) := by decide +kernel
theorem dX11_feedFour_30 : decode cX11_feedFour 30 = .ok (.aload_n 0, 1) := by decide +kernel
theorem dX11_feedFour_31 : decode cX11_feedFour 31 = .ok (.getfield 42, 3) := by decide +kernel
theorem dX11_feedFour_34 : decode cX11_feedFour 34 = .ok (.iload_n 1, 1) := by decide +kernel
theorem dX11_feedFour_35 : decode cX11_feedFour 35 = .ok (.iload_n 2, 1) := by decide +kernel
theorem dX11_feedFour_36 : decode cX11_feedFour 36 = .ok (.ishr, 1) := by decide +kernel
theorem dX11_feedFour_37 : decode cX11_feedFour 37 = .ok (.i2b, 1) := by decide +kernel
theorem dX11_feedFour_38 : decode cX11_feedFour 38 = .ok (.bastore, 1) := by decide +kernel
theorem dX11_feedFour_39 : decode cX11_feedFour 39 = .ok (.aload_n 0, 1) := by decide +kernel
theorem dX11_feedFour_40 : decode cX11_feedFour 40 = .ok (.dup, 1) := by decide +kernel
theorem dX11_feedFour_41 : decode cX11_feedFour 41 = .ok (.getfield 42, 3) := by decide +kernel
theorem dX11_feedFour_44 : decode cX11_feedFour 44 = .ok (.iconst 1, 1) := by decide +kernel
theorem dX11_feedFour_45 : decode cX11_feedFour 45 = .ok (.iadd, 1) := by decide +kernel
theorem dX11_feedFour_46 : decode cX11_feedFour 46 = .ok (.putfield 42, 3) := by decide +kernel
theorem dX11_feedFour_49 : decode cX11_feedFour 49 = .ok (.iinc 2 (-8), 3) := by decide +kernel
theorem dX11_feedFour_52 : decode cX11_feedFour 52 = .ok (.goto (-49), 3) := by decide +kernel
theorem dX11_feedFour_55 : decode cX11_feedFour 55 = .ok (.return_, 1) := by decide +kernel
