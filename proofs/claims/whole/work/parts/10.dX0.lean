theorem dX0_forget_0 : decode cX0_forget 0 = .ok (.aload_n 0, 1) := by decide +kernel
theorem dX0_forget_1 : decode cX0_forget 1 = .ok (.iconst 0, 1) := by decide +kernel
theorem dX0_forget_2 : decode cX0_forget 2 = .ok (.putfield 23, 3) := by decide +kernel
theorem dX0_forget_5 : decode cX0_forget 5 = .ok (.return_, 1) := by decide +kernel
theorem dX0_isAsItIs_0 : decode cX0_isAsItIs 0 = .ok (.iload_n 2, 1) := by decide +kernel
theorem dX0_isAsItIs_1 : decode cX0_isAsItIs 1 = .ok (.ifCond .lt 9, 3) := by decide +kernel
theorem dX0_isAsItIs_4 : decode cX0_isAsItIs 4 = .ok (.iload_n 2, 1) := by decide +kernel
theorem dX0_isAsItIs_5 : decode cX0_isAsItIs 5 = .ok (.bipush 14, 2) := by decide +kernel
theorem dX0_isAsItIs_7 : decode cX0_isAsItIs 7 = .ok (.if_icmp .le 5, 3) := by decide +kernel
theorem dX0_isAsItIs_10 : decode cX0_isAsItIs 10 = .ok (.iconst 0, 1) := by decide +kernel
theorem dX0_isAsItIs_11 : decode cX0_isAsItIs 11 = .ok (.ireturn, 1) := by decide +kernel
theorem dX0_isAsItIs_12 : decode cX0_isAsItIs 12 = .ok (.iconst 0, 1) := by decide +kernel
theorem dX0_isAsItIs_13 : decode cX0_isAsItIs 13 = .ok (.istore_n 3, 1) := by decide +kernel
theorem dX0_isAsItIs_14 : decode cX0_isAsItIs 14 = .ok (.iload_n 3, 1) := by decide +kernel
theorem dX0_isAsItIs_15 : decode cX0_isAsItIs 15 = .ok (.bipush 26, 2) := by decide +kernel
theorem dX0_isAsItIs_17 : decode cX0_isAsItIs 17 = .ok (.if_icmp .ge 38, 3) := by decide +kernel
theorem dX0_isAsItIs_20 : decode cX0_isAsItIs 20 = .ok (.aload_n 1, 1) := by decide +kernel
theorem dX0_isAsItIs_21 : decode cX0_isAsItIs 21 = .ok (.getfield 70, 3) := by decide +kernel
theorem dX0_isAsItIs_24 : decode cX0_isAsItIs 24 = .ok (.iload_n 3, 1) := by decide +kernel
theorem dX0_isAsItIs_25 : decode cX0_isAsItIs 25 = .ok (.iaload, 1) := by decide +kernel
theorem dX0_isAsItIs_26 : decode cX0_isAsItIs 26 = .ok (.iconst (-1), 1) := by decide +kernel
theorem dX0_isAsItIs_27 : decode cX0_isAsItIs 27 = .ok (.if_icmp .ne 22, 3) := by decide +kernel
theorem dX0_isAsItIs_30 : decode cX0_isAsItIs 30 = .ok (.aload_n 1, 1) := by decide +kernel
theorem dX0_isAsItIs_31 : decode cX0_isAsItIs 31 = .ok (.getfield 73, 3) := by decide +kernel
theorem dX0_isAsItIs_34 : decode cX0_isAsItIs 34 = .ok (.iload_n 3, 1) := by decide +kernel
theorem dX0_isAsItIs_35 : decode cX0_isAsItIs 35 = .ok (.iaload, 1) := by decide +kernel
theorem dX0_isAsItIs_36 : decode cX0_isAsItIs 36 = .ok (.aload_n 0, 1) := by decide +kernel
theorem dX0_isAsItIs_37 : decode cX0_isAsItIs 37 = .ok (.getfield 17, 3) := by decide +kernel
theorem dX0_isAsItIs_40 : decode cX0_isAsItIs 40 = .ok (.iload_n 2, 1) := by decide +kernel
theorem dX0_isAsItIs_41 : decode cX0_isAsItIs 41 = .ok (.aaload, 1) := by decide +kernel
theorem dX0_isAsItIs_42 : decode cX0_isAsItIs 42 = .ok (.iload_n 3, 1) := by decide +kernel
theorem dX0_isAsItIs_43 : decode cX0_isAsItIs 43 = .ok (.iaload, 1) := by decide +kernel
theorem dX0_isAsItIs_44 : decode cX0_isAsItIs 44 = .ok (.if_icmp .eq 5, 3) := by decide +kernel
theorem dX0_isAsItIs_47 : decode cX0_isAsItIs 47 = .ok (.iconst 0, 1) := by decide +kernel
theorem dX0_isAsItIs_48 : decode cX0_isAsItIs 48 = .ok (.ireturn, 1) := by decide +kernel
theorem dX0_isAsItIs_49 : decode cX0_isAsItIs 49 = .ok (.iinc 3 1, 3) := by decide +kernel
theorem dX0_isAsItIs_52 : decode cX0_isAsItIs 52 = .ok (.goto (-38), 3) := by decide +kernel
theorem dX0_isAsItIs_55 : decode cX0_isAsItIs 55 = .ok (.iconst 1, 1) := by decide +kernel
theorem dX0_isAsItIs_56 : decode cX0_isAsItIs 56 = .ok (.ireturn, 1) := by decide +kernel
theorem dX0_maskAhead_0 : decode cX0_maskAhead 0 = .ok (.iconst 0, 1) := by decide +kernel
theorem dX0_maskAhead_1 : decode cX0_maskAhead 1 = .ok (.istore_n 3, 1) := by decide +kernel
theorem dX0_maskAhead_2 : decode cX0_maskAhead 2 = .ok (.iconst 0, 1) := by decide +kernel
theorem dX0_maskAhead_3 : decode cX0_maskAhead 3 = .ok (.istore 4, 2) := by decide +kernel
theorem dX0_maskAhead_5 : decode cX0_maskAhead 5 = .ok (.iload 4, 2) := by decide +kernel
theorem dX0_maskAhead_7 : decode cX0_maskAhead 7 = .ok (.iload_n 1, 1) := by decide +kernel
theorem dX0_maskAhead_8 : decode cX0_maskAhead 8 = .ok (.if_icmp .ge 33, 3) := by decide +kernel
theorem dX0_maskAhead_11 : decode cX0_maskAhead 11 = .ok (.iload 4, 2) := by decide +kernel
theorem dX0_maskAhead_13 : decode cX0_maskAhead 13 = .ok (.bipush 14, 2) := by decide +kernel
theorem dX0_maskAhead_15 : decode cX0_maskAhead 15 = .ok (.if_icmp .ge 26, 3) := by decide +kernel
theorem dX0_maskAhead_18 : decode cX0_maskAhead 18 = .ok (.aload_n 0, 1) := by decide +kernel
theorem dX0_maskAhead_19 : decode cX0_maskAhead 19 = .ok (.iload 4, 2) := by decide +kernel
theorem dX0_maskAhead_21 : decode cX0_maskAhead 21 = .ok (.iload_n 2, 1) := by decide +kernel
theorem dX0_maskAhead_22 : decode cX0_maskAhead 22 = .ok (.invokevirtual 54, 3) := by decide +kernel
theorem dX0_maskAhead_25 : decode cX0_maskAhead 25 = .ok (.ifCond .eq 10, 3) := by decide +kernel
theorem dX0_maskAhead_28 : decode cX0_maskAhead 28 = .ok (.iload_n 3, 1) := by decide +kernel
theorem dX0_maskAhead_29 : decode cX0_maskAhead 29 = .ok (.iconst 1, 1) := by decide +kernel
theorem dX0_maskAhead_30 : decode cX0_maskAhead 30 = .ok (.iload 4, 2) := by decide +kernel
theorem dX0_maskAhead_32 : decode cX0_maskAhead 32 = .ok (.ishl, 1) := by decide +kernel
theorem dX0_maskAhead_33 : decode cX0_maskAhead 33 = .ok (.ior, 1) := by decide +kernel
theorem dX0_maskAhead_34 : decode cX0_maskAhead 34 = .ok (.istore_n 3, 1) := by decide +kernel
theorem dX0_maskAhead_35 : decode cX0_maskAhead 35 = .ok (.iinc 4 1, 3) := by decide +kernel
theorem dX0_maskAhead_38 : decode cX0_maskAhead 38 = .ok (.goto (-33), 3) := by decide +kernel
theorem dX0_maskAhead_41 : decode cX0_maskAhead 41 = .ok (.iload_n 3, 1) := by decide +kernel
theorem dX0_maskAhead_42 : decode cX0_maskAhead 42 = .ok (.ireturn, 1) := by decide +kernel
