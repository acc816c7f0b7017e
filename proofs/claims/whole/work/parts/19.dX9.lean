theorem dX9_advance_0 : decode cX9_advance 0 = .ok (.aload_n 0, 1) := by decide +kernel
theorem dX9_advance_1 : decode cX9_advance 1 = .ok (.getfield 47, 3) := by decide +kernel
theorem dX9_advance_4 : decode cX9_advance 4 = .ok (.aload_n 0, 1) := by decide +kernel
theorem dX9_advance_5 : decode cX9_advance 5 = .ok (.getfield 35, 3) := by decide +kernel
theorem dX9_advance_8 : decode cX9_advance 8 = .ok (.iconst 1, 1) := by decide +kernel
theorem dX9_advance_9 : decode cX9_advance 9 = .ok (.isub, 1) := by decide +kernel
theorem dX9_advance_10 : decode cX9_advance 10 = .ok (.if_icmp .ge 13, 3) := by decide +kernel
theorem dX9_advance_13 : decode cX9_advance 13 = .ok (.aload_n 0, 1) := by decide +kernel
theorem dX9_advance_14 : decode cX9_advance 14 = .ok (.dup, 1) := by decide +kernel
theorem dX9_advance_15 : decode cX9_advance 15 = .ok (.getfield 47, 3) := by decide +kernel
theorem dX9_advance_18 : decode cX9_advance 18 = .ok (.iconst 1, 1) := by decide +kernel
theorem dX9_advance_19 : decode cX9_advance 19 = .ok (.iadd, 1) := by decide +kernel
theorem dX9_advance_20 : decode cX9_advance 20 = .ok (.putfield 47, 3) := by decide +kernel
theorem dX9_advance_23 : decode cX9_advance 23 = .ok (.aload_n 0, 1) := by decide +kernel
theorem dX9_advance_24 : decode cX9_advance 24 = .ok (.getfield 47, 3) := by decide +kernel
theorem dX9_advance_27 : decode cX9_advance 27 = .ok (.ifCond .lt 52, 3) := by decide +kernel
theorem dX9_advance_30 : decode cX9_advance 30 = .ok (.aload_n 0, 1) := by decide +kernel
theorem dX9_advance_31 : decode cX9_advance 31 = .ok (.getfield 47, 3) := by decide +kernel
theorem dX9_advance_34 : decode cX9_advance 34 = .ok (.sipush 1001, 3) := by decide +kernel
theorem dX9_advance_37 : decode cX9_advance 37 = .ok (.if_icmp .ge 42, 3) := by decide +kernel
theorem dX9_advance_40 : decode cX9_advance 40 = .ok (.aload_n 0, 1) := by decide +kernel
theorem dX9_advance_41 : decode cX9_advance 41 = .ok (.aload_n 0, 1) := by decide +kernel
theorem dX9_advance_42 : decode cX9_advance 42 = .ok (.getfield 15, 3) := by decide +kernel
theorem dX9_advance_45 : decode cX9_advance 45 = .ok (.aload_n 0, 1) := by decide +kernel
theorem dX9_advance_46 : decode cX9_advance 46 = .ok (.getfield 47, 3) := by decide +kernel
theorem dX9_advance_49 : decode cX9_advance 49 = .ok (.iaload, 1) := by decide +kernel
theorem dX9_advance_50 : decode cX9_advance 50 = .ok (.putfield 32, 3) := by decide +kernel
theorem dX9_advance_53 : decode cX9_advance 53 = .ok (.aload_n 0, 1) := by decide +kernel
theorem dX9_advance_54 : decode cX9_advance 54 = .ok (.aload_n 0, 1) := by decide +kernel
theorem dX9_advance_55 : decode cX9_advance 55 = .ok (.getfield 19, 3) := by decide +kernel
theorem dX9_advance_58 : decode cX9_advance 58 = .ok (.aload_n 0, 1) := by decide +kernel
theorem dX9_advance_59 : decode cX9_advance 59 = .ok (.getfield 47, 3) := by decide +kernel
theorem dX9_advance_62 : decode cX9_advance 62 = .ok (.iaload, 1) := by decide +kernel
theorem dX9_advance_63 : decode cX9_advance 63 = .ok (.putfield 41, 3) := by decide +kernel
theorem dX9_advance_66 : decode cX9_advance 66 = .ok (.aload_n 0, 1) := by decide +kernel
theorem dX9_advance_67 : decode cX9_advance 67 = .ok (.aload_n 0, 1) := by decide +kernel
theorem dX9_advance_68 : decode cX9_advance 68 = .ok (.getfield 22, 3) := by decide +kernel
theorem dX9_advance_71 : decode cX9_advance 71 = .ok (.aload_n 0, 1) := by decide +kernel
theorem dX9_advance_72 : decode cX9_advance 72 = .ok (.getfield 47, 3) := by decide +kernel
theorem dX9_advance_75 : decode cX9_advance 75 = .ok (.iaload, 1) := by decide +kernel
theorem dX9_advance_76 : decode cX9_advance 76 = .ok (.putfield 44, 3) := by decide +kernel
theorem dX9_advance_79 : decode cX9_advance 79 = .ok (.return_, 1) := by decide +kernel
theorem dX9_byteAt_0 : decode cX9_byteAt 0 = .ok (.iload_n 1, 1) := by decide +kernel
theorem dX9_byteAt_1 : decode cX9_byteAt 1 = .ok (.ifCond .lt 33, 3) := by decide +kernel
theorem dX9_byteAt_4 : decode cX9_byteAt 4 = .ok (.iload_n 1, 1) := by decide +kernel
theorem dX9_byteAt_5 : decode cX9_byteAt 5 = .ok (.aload_n 0, 1) := by decide +kernel
theorem dX9_byteAt_6 : decode cX9_byteAt 6 = .ok (.getfield 25, 3) := by decide +kernel
theorem dX9_byteAt_9 : decode cX9_byteAt 9 = .ok (.if_icmp .ge 25, 3) := by decide +kernel
theorem dX9_byteAt_12 : decode cX9_byteAt 12 = .ok (.iload_n 1, 1) := by decide +kernel
theorem dX9_byteAt_13 : decode cX9_byteAt 13 = .ok (.aload_n 0, 1) := by decide +kernel
theorem dX9_byteAt_14 : decode cX9_byteAt 14 = .ok (.getfield 9, 3) := by decide +kernel
theorem dX9_byteAt_17 : decode cX9_byteAt 17 = .ok (.arraylength, 1) := by decide +kernel
theorem dX9_byteAt_18 : decode cX9_byteAt 18 = .ok (.if_icmp .ge 16, 3) := by decide +kernel
theorem dX9_byteAt_21 : decode cX9_byteAt 21 = .ok (.aload_n 0, 1) := by decide +kernel
theorem dX9_byteAt_22 : decode cX9_byteAt 22 = .ok (.getfield 9, 3) := by decide +kernel
theorem dX9_byteAt_25 : decode cX9_byteAt 25 = .ok (.iload_n 1, 1) := by decide +kernel
theorem dX9_byteAt_26 : decode cX9_byteAt 26 = .ok (.baload, 1) := by decide +kernel
theorem dX9_byteAt_27 : decode cX9_byteAt 27 = .ok (.sipush 255, 3) := by decide +kernel
theorem dX9_byteAt_30 : decode cX9_byteAt 30 = .ok (.iand, 1) := by decide +kernel
theorem dX9_byteAt_31 : decode cX9_byteAt 31 = .ok (.goto 4, 3) := by decide +kernel
theorem dX9_byteAt_34 : decode cX9_byteAt 34 = .ok (.iconst (-1), 1) := by decide +kernel
theorem dX9_byteAt_35 : decode cX9_byteAt 35 = .ok (.ireturn, 1) := by decide +kernel
theorem dX9_isBlank_0 : decode cX9_isBlank 0 = .ok (.iload_n 0, 1) := by decide +kernel
theorem dX9_isBlank_1 : decode cX9_isBlank 1 = .ok (.bipush 10, 2) := by decide +kernel
theorem dX9_isBlank_3 : decode cX9_isBlank 3 = .ok (.if_icmp .eq 9, 3) := by decide +kernel
theorem dX9_isBlank_6 : decode cX9_isBlank 6 = .ok (.iload_n 0, 1) := by decide +kernel
theorem dX9_isBlank_7 : decode cX9_isBlank 7 = .ok (.bipush 32, 2) := by decide +kernel
theorem dX9_isBlank_9 : decode cX9_isBlank 9 = .ok (.if_icmp .ne 7, 3) := by decide +kernel
theorem dX9_isBlank_12 : decode cX9_isBlank 12 = .ok (.iconst 1, 1) := by decide +kernel
theorem dX9_isBlank_13 : decode cX9_isBlank 13 = .ok (.goto 4, 3) := by decide +kernel
theorem dX9_isBlank_16 : decode cX9_isBlank 16 = .ok (.iconst 0, 1) := by decide +kernel
theorem dX9_isBlank_17 : decode cX9_isBlank 17 = .ok (.ireturn, 1) := by decide +kernel
theorem dX9_isSmall_0 : decode cX9_isSmall 0 = .ok (.iload_n 0, 1) := by decide +kernel
theorem dX9_isSmall_1 : decode cX9_isSmall 1 = .ok (.bipush 97, 2) := by decide +kernel
theorem dX9_isSmall_3 : decode cX9_isSmall 3 = .ok (.if_icmp .lt 13, 3) := by decide +kernel
theorem dX9_isSmall_6 : decode cX9_isSmall 6 = .ok (.iload_n 0, 1) := by decide +kernel
theorem dX9_isSmall_7 : decode cX9_isSmall 7 = .ok (.bipush 122, 2) := by decide +kernel
theorem dX9_isSmall_9 : decode cX9_isSmall 9 = .ok (.if_icmp .gt 7, 3) := by decide +kernel
theorem dX9_isSmall_12 : decode cX9_isSmall 12 = .ok (.iconst 1, 1) := by decide +kernel
theorem dX9_isSmall_13 : decode cX9_isSmall 13 = .ok (.goto 4, 3) := by decide +kernel
theorem dX9_isSmall_16 : decode cX9_isSmall 16 = .ok (.iconst 0, 1) := by decide +kernel
theorem dX9_isSmall_17 : decode cX9_isSmall 17 = .ok (.ireturn, 1) := by decide +kernel
theorem dX9_isLetter_0 : decode cX9_isLetter 0 = .ok (.iload_n 0, 1) := by decide +kernel
theorem dX9_isLetter_1 : decode cX9_isLetter 1 = .ok (.invokestatic 77, 3) := by decide +kernel
theorem dX9_isLetter_4 : decode cX9_isLetter 4 = .ok (.ifCond .ne 15, 3) := by decide +kernel
theorem dX9_isLetter_7 : decode cX9_isLetter 7 = .ok (.iload_n 0, 1) := by decide +kernel
theorem dX9_isLetter_8 : decode cX9_isLetter 8 = .ok (.bipush 65, 2) := by decide +kernel
theorem dX9_isLetter_10 : decode cX9_isLetter 10 = .ok (.if_icmp .lt 13, 3) := by decide +kernel
theorem dX9_isLetter_13 : decode cX9_isLetter 13 = .ok (.iload_n 0, 1) := by decide +kernel
theorem dX9_isLetter_14 : decode cX9_isLetter 14 = .ok (.bipush 90, 2) := by decide +kernel
theorem dX9_isLetter_16 : decode cX9_isLetter 16 = .ok (.if_icmp .gt 7, 3) := by decide +kernel
theorem dX9_isLetter_19 : decode cX9_isLetter 19 = .ok (.iconst 1, 1) := by decide +kernel
theorem dX9_isLetter_20 : decode cX9_isLetter 20 = .ok (.goto 4, 3) := by decide +kernel
theorem dX9_isLetter_23 : decode cX9_isLetter 23 = .ok (.iconst 0, 1) := by decide +kernel
theorem dX9_isLetter_24 : decode cX9_isLetter 24 = .ok (.ireturn, 1) := by decide +kernel
theorem dX9_isDigit_0 : decode cX9_isDigit 0 = .ok (.iload_n 0, 1) := by decide +kernel
theorem dX9_isDigit_1 : decode cX9_isDigit 1 = .ok (.bipush 48, 2) := by decide +kernel
theorem dX9_isDigit_3 : decode cX9_isDigit 3 = .ok (.if_icmp .lt 13, 3) := by decide +kernel
theorem dX9_isDigit_6 : decode cX9_isDigit 6 = .ok (.iload_n 0, 1) := by decide +kernel
theorem dX9_isDigit_7 : decode cX9_isDigit 7 = .ok (.bipush 57, 2) := by decide +kernel
theorem dX9_isDigit_9 : decode cX9_isDigit 9 = .ok (.if_icmp .gt 7, 3) := by decide +kernel
theorem dX9_isDigit_12 : decode cX9_isDigit 12 = .ok (.iconst 1, 1) := by decide +kernel
theorem dX9_isDigit_13 : decode cX9_isDigit 13 = .ok (.goto 4, 3) := by decide +kernel
theorem dX9_isDigit_16 : decode cX9_isDigit 16 = .ok (.iconst 0, 1) := by decide +kernel
theorem dX9_isDigit_17 : decode cX9_isDigit 17 = .ok (.ireturn, 1) := by decide +kernel
theorem dX9_numberKind_0 : decode cX9_numberKind 0 = .ok (.aload_n 0, 1) := by decide +kernel
theorem dX9_numberKind_1 : decode cX9_numberKind 1 = .ok (.getfield 29, 3) := by decide +kernel
theorem dX9_numberKind_4 : decode cX9_numberKind 4 = .ok (.aload_n 0, 1) := by decide +kernel
theorem dX9_numberKind_5 : decode cX9_numberKind 5 = .ok (.getfield 25, 3) := by decide +kernel
theorem dX9_numberKind_8 : decode cX9_numberKind 8 = .ok (.if_icmp .ge 62, 3) := by decide +kernel
theorem dX9_numberKind_11 : decode cX9_numberKind 11 = .ok (.aload_n 0, 1) := by decide +kernel
theorem dX9_numberKind_12 : decode cX9_numberKind 12 = .ok (.aload_n 0, 1) := by decide +kernel
theorem dX9_numberKind_13 : decode cX9_numberKind 13 = .ok (.getfield 29, 3) := by decide +kernel
theorem dX9_numberKind_16 : decode cX9_numberKind 16 = .ok (.invokevirtual 53, 3) := by decide +kernel
theorem dX9_numberKind_19 : decode cX9_numberKind 19 = .ok (.invokestatic 68, 3) := by decide +kernel
theorem dX9_numberKind_22 : decode cX9_numberKind 22 = .ok (.ifCond .eq 48, 3) := by decide +kernel
theorem dX9_numberKind_25 : decode cX9_numberKind 25 = .ok (.aload_n 0, 1) := by decide +kernel
theorem dX9_numberKind_26 : decode cX9_numberKind 26 = .ok (.getfield 44, 3) := by decide +kernel
theorem dX9_numberKind_29 : decode cX9_numberKind 29 = .ok (.ldc 119, 2) := by decide +kernel
theorem dX9_numberKind_31 : decode cX9_numberKind 31 = .ok (.if_icmp .gt 26, 3) := by decide +kernel
theorem dX9_numberKind_34 : decode cX9_numberKind 34 = .ok (.aload_n 0, 1) := by decide +kernel
theorem dX9_numberKind_35 : decode cX9_numberKind 35 = .ok (.aload_n 0, 1) := by decide +kernel
theorem dX9_numberKind_36 : decode cX9_numberKind 36 = .ok (.getfield 44, 3) := by decide +kernel
theorem dX9_numberKind_39 : decode cX9_numberKind 39 = .ok (.bipush 10, 2) := by decide +kernel
theorem dX9_numberKind_41 : decode cX9_numberKind 41 = .ok (.imul, 1) := by decide +kernel
theorem dX9_numberKind_42 : decode cX9_numberKind 42 = .ok (.aload_n 0, 1) := by decide +kernel
theorem dX9_numberKind_43 : decode cX9_numberKind 43 = .ok (.aload_n 0, 1) := by decide +kernel
theorem dX9_numberKind_44 : decode cX9_numberKind 44 = .ok (.getfield 29, 3) := by decide +kernel
theorem dX9_numberKind_47 : decode cX9_numberKind 47 = .ok (.invokevirtual 53, 3) := by decide +kernel
theorem dX9_numberKind_50 : decode cX9_numberKind 50 = .ok (.iadd, 1) := by decide +kernel
theorem dX9_numberKind_51 : decode cX9_numberKind 51 = .ok (.bipush 48, 2) := by decide +kernel
theorem dX9_numberKind_53 : decode cX9_numberKind 53 = .ok (.isub, 1) := by decide +kernel
theorem dX9_numberKind_54 : decode cX9_numberKind 54 = .ok (.putfield 44, 3) := by decide +kernel
theorem dX9_numberKind_57 : decode cX9_numberKind 57 = .ok (.aload_n 0, 1) := by decide +kernel
theorem dX9_numberKind_58 : decode cX9_numberKind 58 = .ok (.dup, 1) := by decide +kernel
theorem dX9_numberKind_59 : decode cX9_numberKind 59 = .ok (.getfield 29, 3) := by decide +kernel
theorem dX9_numberKind_62 : decode cX9_numberKind 62 = .ok (.iconst 1, 1) := by decide +kernel
theorem dX9_numberKind_63 : decode cX9_numberKind 63 = .ok (.iadd, 1) := by decide +kernel
theorem dX9_numberKind_64 : decode cX9_numberKind 64 = .ok (.putfield 29, 3) := by decide +kernel
theorem dX9_numberKind_67 : decode cX9_numberKind 67 = .ok (.goto (-67), 3) := by decide +kernel
theorem dX9_numberKind_70 : decode cX9_numberKind 70 = .ok (.aload_n 0, 1) := by decide +kernel
theorem dX9_numberKind_71 : decode cX9_numberKind 71 = .ok (.getfield 44, 3) := by decide +kernel
theorem dX9_numberKind_74 : decode cX9_numberKind 74 = .ok (.ldc 119, 2) := by decide +kernel
theorem dX9_numberKind_76 : decode cX9_numberKind 76 = .ok (.if_icmp .gt 7, 3) := by decide +kernel
theorem dX9_numberKind_79 : decode cX9_numberKind 79 = .ok (.iconst 4, 1) := by decide +kernel
theorem dX9_numberKind_80 : decode cX9_numberKind 80 = .ok (.goto 4, 3) := by decide +kernel
theorem dX9_numberKind_83 : decode cX9_numberKind 83 = .ok (.iconst 1, 1) := by decide +kernel
theorem dX9_numberKind_84 : decode cX9_numberKind 84 = .ok (.ireturn, 1) := by decide +kernel
theorem dX9_equalsKind_0 : decode cX9_equalsKind 0 = .ok (.aload_n 0, 1) := by decide +kernel
theorem dX9_equalsKind_1 : decode cX9_equalsKind 1 = .ok (.aload_n 0, 1) := by decide +kernel
theorem dX9_equalsKind_2 : decode cX9_equalsKind 2 = .ok (.getfield 29, 3) := by decide +kernel
theorem dX9_equalsKind_5 : decode cX9_equalsKind 5 = .ok (.invokevirtual 53, 3) := by decide +kernel
theorem dX9_equalsKind_8 : decode cX9_equalsKind 8 = .ok (.bipush 61, 2) := by decide +kernel
theorem dX9_equalsKind_10 : decode cX9_equalsKind 10 = .ok (.if_icmp .eq 6, 3) := by decide +kernel
theorem dX9_equalsKind_13 : decode cX9_equalsKind 13 = .ok (.bipush 22, 2) := by decide +kernel
theorem dX9_equalsKind_15 : decode cX9_equalsKind 15 = .ok (.ireturn, 1) := by decide +kernel
theorem dX9_equalsKind_16 : decode cX9_equalsKind 16 = .ok (.aload_n 0, 1) := by decide +kernel
theorem dX9_equalsKind_17 : decode cX9_equalsKind 17 = .ok (.dup, 1) := by decide +kernel
theorem dX9_equalsKind_18 : decode cX9_equalsKind 18 = .ok (.getfield 29, 3) := by decide +kernel
theorem dX9_equalsKind_21 : decode cX9_equalsKind 21 = .ok (.iconst 1, 1) := by decide +kernel
theorem dX9_equalsKind_22 : decode cX9_equalsKind 22 = .ok (.iadd, 1) := by decide +kernel
theorem dX9_equalsKind_23 : decode cX9_equalsKind 23 = .ok (.putfield 29, 3) := by decide +kernel
theorem dX9_equalsKind_26 : decode cX9_equalsKind 26 = .ok (.bipush 23, 2) := by decide +kernel
theorem dX9_equalsKind_28 : decode cX9_equalsKind 28 = .ok (.ireturn, 1) := by decide +kernel
