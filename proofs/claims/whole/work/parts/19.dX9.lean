theorem dX9_advance_0 : decode cX9_advance 0 = .ok (.aload_n 0, 1) := by decide +kernel
theorem dX9_advance_1 : decode cX9_advance 1 = .ok (.getfield 47, 3) := by decide +kernel
theorem dX9_advance_4 : decode cX9_advance 4 = .ok (.aload_n 0, 1) := by decide +kernel
theorem dX9_advance_5 : decode cX9_advance 5 = .ok (.getfield 35, 3) := by decide +kernel
theorem dX9_advance_8 : decode cX9_advance 8 = .ok (.iconst 1, 1) := by decide +kernel
theorem dX9_advance_9 : decode cX9_advance 9 = .ok (.isub, 1) := by decide +kernel
theorem dX9_advance_10 : decode cX9_advance 10 = .ok (.if_icmp .ge 13, 3) := by decide +kernel
theorem dX9_advance_13 : decode cX9_advance 13 = .ok (.aload_n 0, 1) := by decide +kernel
theorem dX9_advance_14 : decode cX9_advance 14 = .ok (.dup, 1) := by decide +kernel
theorem dX9_advance_15 : decode cX9_advance 15 = .ok (.getfield 47, 3) := by decide +kernel
theorem dX9_advance_18 : decode cX9_advance 18 = .ok (.iconst 1, 1) := by decide +kernel
theorem dX9_advance_19 : decode cX9_advance 19 = .ok (.iadd, 1) := by decide +kernel
theorem dX9_advance_20 : decode cX9_advance 20 = .ok (.putfield 47, 3) := by decide +kernel
theorem dX9_advance_23 : decode cX9_advance 23 = .ok (.aload_n 0, 1) := by decide +kernel
theorem dX9_advance_24 : decode cX9_advance 24 = .ok (.getfield 47, 3) := by decide +kernel
theorem dX9_advance_27 : decode cX9_advance 27 = .ok (.ifCond .lt 52, 3) := by decide +kernel
theorem dX9_advance_30 : decode cX9_advance 30 = .ok (.aload_n 0, 1) := by decide +kernel
theorem dX9_advance_31 : decode cX9_advance 31 = .ok (.getfield 47, 3) := by decide +kernel
theorem dX9_advance_34 : decode cX9_advance 34 = .ok (.sipush 1001, 3) := by decide +kernel
theorem dX9_advance_37 : decode cX9_advance 37 = .ok (.if_icmp .ge 42, 3) := by decide +kernel
theorem dX9_advance_40 : decode cX9_advance 40 = .ok (.aload_n 0, 1) := by decide +kernel
theorem dX9_advance_41 : decode cX9_advance 41 = .ok (.aload_n 0, 1) := by decide +kernel
theorem dX9_advance_42 : decode cX9_advance 42 = .ok (.getfield 15, 3) := by decide +kernel
theorem dX9_advance_45 : decode cX9_advance 45 = .ok (.aload_n 0, 1) := by decide +kernel
theorem dX9_advance_46 : decode cX9_advance 46 = .ok (.getfield 47, 3) := by decide +kernel
theorem dX9_advance_49 : decode cX9_advance 49 = .ok (.iaload, 1) := by decide +kernel
theorem dX9_advance_50 : decode cX9_advance 50 = .ok (.putfield 32, 3) := by decide +kernel
theorem dX9_advance_53 : decode cX9_advance 53 = .ok (.aload_n 0, 1) := by decide +kernel
theorem dX9_advance_54 : decode cX9_advance 54 = .ok (.aload_n 0, 1) := by decide +kernel
theorem dX9_advance_55 : decode cX9_advance 55 = .ok (.getfield 19, 3) := by decide +kernel
theorem dX9_advance_58 : decode cX9_advance 58 = .ok (.aload_n 0, 1) := by decide +kernel
theorem dX9_advance_59 : decode cX9_advance 59 = .ok (.getfield 47, 3) := by decide +kernel
theorem dX9_advance_62 : decode cX9_advance 62 = .ok (.iaload, 1) := by decide +kernel
theorem dX9_advance_63 : decode cX9_advance 63 = .ok (.putfield 41, 3) := by decide +kernel
theorem dX9_advance_66 : decode cX9_advance 66 = .ok (.aload_n 0, 1) := by decide +kernel
theorem dX9_advance_67 : decode cX9_advance 67 = .ok (.aload_n 0, 1) := by decide +kernel
theorem dX9_advance_68 : decode cX9_advance 68 = .ok (.getfield 22, 3) := by decide +kernel
theorem dX9_advance_71 : decode cX9_advance 71 = .ok (.aload_n 0, 1) := by decide +kernel
theorem dX9_advance_72 : decode cX9_advance 72 = .ok (.getfield 47, 3) := by decide +kernel
theorem dX9_advance_75 : decode cX9_advance 75 = .ok (.iaload, 1) := by decide +kernel
theorem dX9_advance_76 : decode cX9_advance 76 = .ok (.putfield 44, 3) := by decide +kernel
theorem dX9_advance_79 : decode cX9_advance 79 = .ok (.return_, 1) := by decide +kernel
theorem dX9_byteAt_0 : decode cX9_byteAt 0 = .ok (.iload_n 1, 1) := by decide +kernel
theorem dX9_byteAt_1 : decode cX9_byteAt 1 = .ok (.ifCond .lt 33, 3) := by decide +kernel
theorem dX9_byteAt_4 : decode cX9_byteAt 4 = .ok (.iload_n 1, 1) := by decide +kernel
theorem dX9_byteAt_5 : decode cX9_byteAt 5 = .ok (.aload_n 0, 1) := by decide +kernel
theorem dX9_byteAt_6 : decode cX9_byteAt 6 = .ok (.getfield 25, 3) := by decide +kernel
theorem dX9_byteAt_9 : decode cX9_byteAt 9 = .ok (.if_icmp .ge 25, 3) := by decide +kernel
theorem dX9_byteAt_12 : decode cX9_byteAt 12 = .ok (.iload_n 1, 1) := by decide +kernel
theorem dX9_byteAt_13 : decode cX9_byteAt 13 = .ok (.aload_n 0, 1) := by decide +kernel
theorem dX9_byteAt_14 : decode cX9_byteAt 14 = .ok (.getfield 9, 3) := by decide +kernel
theorem dX9_byteAt_17 : decode cX9_byteAt 17 = .ok (.arraylength, 1) := by decide +kernel
theorem dX9_byteAt_18 : decode cX9_byteAt 18 = .ok (.if_icmp .ge 16, 3) := by decide +kernel
theorem dX9_byteAt_21 : decode cX9_byteAt 21 = .ok (.aload_n 0, 1) := by decide +kernel
theorem dX9_byteAt_22 : decode cX9_byteAt 22 = .ok (.getfield 9, 3) := by decide +kernel
theorem dX9_byteAt_25 : decode cX9_byteAt 25 = .ok (.iload_n 1, 1) := by decide +kernel
theorem dX9_byteAt_26 : decode cX9_byteAt 26 = .ok (.baload, 1) := by decide +kernel
theorem dX9_byteAt_27 : decode cX9_byteAt 27 = .ok (.sipush 255, 3) := by decide +kernel
theorem dX9_byteAt_30 : decode cX9_byteAt 30 = .ok (.iand, 1) := by decide +kernel
theorem dX9_byteAt_31 : decode cX9_byteAt 31 = .ok (.goto 4, 3) := by decide +kernel
theorem dX9_byteAt_34 : decode cX9_byteAt 34 = .ok (.iconst (-1), 1) := by decide +kernel
theorem dX9_byteAt_35 : decode cX9_byteAt 35 = .ok (.ireturn, 1) := by decide +kernel
theorem dX9_equalsKind_0 : decode cX9_equalsKind 0 = .ok (.aload_n 0, 1) := by decide +kernel
theorem dX9_equalsKind_1 : decode cX9_equalsKind 1 = .ok (.aload_n 0, 1) := by decide +kernel
theorem dX9_equalsKind_2 : decode cX9_equalsKind 2 = .ok (.getfield 29, 3) := by decide +kernel
theorem dX9_equalsKind_5 : decode cX9_equalsKind 5 = .ok (.invokevirtual 53, 3) := by decide +kernel
theorem dX9_equalsKind_8 : decode cX9_equalsKind 8 = .ok (.bipush 61, 2) := by decide +kernel
theorem dX9_equalsKind_10 : decode cX9_equalsKind 10 = .ok (.if_icmp .eq 6, 3) := by decide +kernel
theorem dX9_equalsKind_13 : decode cX9_equalsKind 13 = .ok (.bipush 22, 2) := by decide +kernel
theorem dX9_equalsKind_15 : decode cX9_equalsKind 15 = .ok (.ireturn, 1) := by decide +kernel
theorem dX9_equalsKind_16 : decode cX9_equalsKind 16 = .ok (.aload_n 0, 1) := by decide +kernel
theorem dX9_equalsKind_17 : decode cX9_equalsKind 17 = .ok (.dup, 1) := by decide +kernel
theorem dX9_equalsKind_18 : decode cX9_equalsKind 18 = .ok (.getfield 29, 3) := by decide +kernel
theorem dX9_equalsKind_21 : decode cX9_equalsKind 21 = .ok (.iconst 1, 1) := by decide +kernel
theorem dX9_equalsKind_22 : decode cX9_equalsKind 22 = .ok (.iadd, 1) := by decide +kernel
theorem dX9_equalsKind_23 : decode cX9_equalsKind 23 = .ok (.putfield 29, 3) := by decide +kernel
theorem dX9_equalsKind_26 : decode cX9_equalsKind 26 = .ok (.bipush 23, 2) := by decide +kernel
theorem dX9_equalsKind_28 : decode cX9_equalsKind 28 = .ok (.ireturn, 1) := by decide +kernel
theorem dX9_init_0 : decode cX9_init 0 = .ok (.aload_n 0, 1) := by decide +kernel
theorem dX9_init_1 : decode cX9_init 1 = .ok (.invokespecial 3, 3) := by decide +kernel
theorem dX9_init_4 : decode cX9_init 4 = .ok (.aload_n 0, 1) := by decide +kernel
theorem dX9_init_5 : decode cX9_init 5 = .ok (.iconst 0, 1) := by decide +kernel
theorem dX9_init_6 : decode cX9_init 6 = .ok (.newarray .byte, 2) := by decide +kernel
theorem dX9_init_8 : decode cX9_init 8 = .ok (.putfield 9, 3) := by decide +kernel
theorem dX9_init_11 : decode cX9_init 11 = .ok (.aload_n 0, 1) := by decide +kernel
theorem dX9_init_12 : decode cX9_init 12 = .ok (.sipush 1001, 3) := by decide +kernel
theorem dX9_init_15 : decode cX9_init 15 = .ok (.newarray .int, 2) := by decide +kernel
theorem dX9_init_17 : decode cX9_init 17 = .ok (.putfield 15, 3) := by decide +kernel
theorem dX9_init_20 : decode cX9_init 20 = .ok (.aload_n 0, 1) := by decide +kernel
theorem dX9_init_21 : decode cX9_init 21 = .ok (.sipush 1001, 3) := by decide +kernel
theorem dX9_init_24 : decode cX9_init 24 = .ok (.newarray .int, 2) := by decide +kernel
theorem dX9_init_26 : decode cX9_init 26 = .ok (.putfield 19, 3) := by decide +kernel
theorem dX9_init_29 : decode cX9_init 29 = .ok (.aload_n 0, 1) := by decide +kernel
theorem dX9_init_30 : decode cX9_init 30 = .ok (.sipush 1001, 3) := by decide +kernel
theorem dX9_init_33 : decode cX9_init 33 = .ok (.newarray .int, 2) := by decide +kernel
theorem dX9_init_35 : decode cX9_init 35 = .ok (.putfield 22, 3) := by decide +kernel
theorem dX9_init_38 : decode cX9_init 38 = .ok (.return_, 1) := by decide +kernel
theorem dX9_isBlank_0 : decode cX9_isBlank 0 = .ok (.iload_n 0, 1) := by decide +kernel
theorem dX9_isBlank_1 : decode cX9_isBlank 1 = .ok (.bipush 10, 2) := by decide +kernel
theorem dX9_isBlank_3 : decode cX9_isBlank 3 = .ok (.if_icmp .eq 9, 3) := by decide +kernel
theorem dX9_isBlank_6 : decode cX9_isBlank 6 = .ok (.iload_n 0, 1) := by decide +kernel
theorem dX9_isBlank_7 : decode cX9_isBlank 7 = .ok (.bipush 32, 2) := by decide +kernel
theorem dX9_isBlank_9 : decode cX9_isBlank 9 = .ok (.if_icmp .ne 7, 3) := by decide +kernel
theorem dX9_isBlank_12 : decode cX9_isBlank 12 = .ok (.iconst 1, 1) := by decide +kernel
theorem dX9_isBlank_13 : decode cX9_isBlank 13 = .ok (.goto 4, 3) := by decide +kernel
theorem dX9_isBlank_16 : decode cX9_isBlank 16 = .ok (.iconst 0, 1) := by decide +kernel
theorem dX9_isBlank_17 : decode cX9_isBlank 17 = .ok (.ireturn, 1) := by decide +kernel
theorem dX9_isDigit_0 : decode cX9_isDigit 0 = .ok (.iload_n 0, 1) := by decide +kernel
theorem dX9_isDigit_1 : decode cX9_isDigit 1 = .ok (.bipush 48, 2) := by decide +kernel
theorem dX9_isDigit_3 : decode cX9_isDigit 3 = .ok (.if_icmp .lt 13, 3) := by decide +kernel
theorem dX9_isDigit_6 : decode cX9_isDigit 6 = .ok (.iload_n 0, 1) := by decide +kernel
theorem dX9_isDigit_7 : decode cX9_isDigit 7 = .ok (.bipush 57, 2) := by decide +kernel
theorem dX9_isDigit_9 : decode cX9_isDigit 9 = .ok (.if_icmp .gt 7, 3) := by decide +kernel
theorem dX9_isDigit_12 : decode cX9_isDigit 12 = .ok (.iconst 1, 1) := by decide +kernel
theorem dX9_isDigit_13 : decode cX9_isDigit 13 = .ok (.goto 4, 3) := by decide +kernel
theorem dX9_isDigit_16 : decode cX9_isDigit 16 = .ok (.iconst 0, 1) := by decide +kernel
theorem dX9_isDigit_17 : decode cX9_isDigit 17 = .ok (.ireturn, 1) := by decide +kernel
theorem dX9_isLetter_0 : decode cX9_isLetter 0 = .ok (.iload_n 0, 1) := by decide +kernel
theorem dX9_isLetter_1 : decode cX9_isLetter 1 = .ok (.invokestatic 77, 3) := by decide +kernel
theorem dX9_isLetter_4 : decode cX9_isLetter 4 = .ok (.ifCond .ne 15, 3) := by decide +kernel
theorem dX9_isLetter_7 : decode cX9_isLetter 7 = .ok (.iload_n 0, 1) := by decide +kernel
theorem dX9_isLetter_8 : decode cX9_isLetter 8 = .ok (.bipush 65, 2) := by decide +kernel
theorem dX9_isLetter_10 : decode cX9_isLetter 10 = .ok (.if_icmp .lt 13, 3) := by decide +kernel
theorem dX9_isLetter_13 : decode cX9_isLetter 13 = .ok (.iload_n 0, 1) := by decide +kernel
theorem dX9_isLetter_14 : decode cX9_isLetter 14 = .ok (.bipush 90, 2) := by decide +kernel
theorem dX9_isLetter_16 : decode cX9_isLetter 16 = .ok (.if_icmp .gt 7, 3) := by decide +kernel
theorem dX9_isLetter_19 : decode cX9_isLetter 19 = .ok (.iconst 1, 1) := by decide +kernel
theorem dX9_isLetter_20 : decode cX9_isLetter 20 = .ok (.goto 4, 3) := by decide +kernel
theorem dX9_isLetter_23 : decode cX9_isLetter 23 = .ok (.iconst 0, 1) := by decide +kernel
theorem dX9_isLetter_24 : decode cX9_isLetter 24 = .ok (.ireturn, 1) := by decide +kernel
theorem dX9_isSmall_0 : decode cX9_isSmall 0 = .ok (.iload_n 0, 1) := by decide +kernel
theorem dX9_isSmall_1 : decode cX9_isSmall 1 = .ok (.bipush 97, 2) := by decide +kernel
theorem dX9_isSmall_3 : decode cX9_isSmall 3 = .ok (.if_icmp .lt 13, 3) := by decide +kernel
theorem dX9_isSmall_6 : decode cX9_isSmall 6 = .ok (.iload_n 0, 1) := by decide +kernel
theorem dX9_isSmall_7 : decode cX9_isSmall 7 = .ok (.bipush 122, 2) := by decide +kernel
theorem dX9_isSmall_9 : decode cX9_isSmall 9 = .ok (.if_icmp .gt 7, 3) := by decide +kernel
theorem dX9_isSmall_12 : decode cX9_isSmall 12 = .ok (.iconst 1, 1) := by decide +kernel
theorem dX9_isSmall_13 : decode cX9_isSmall 13 = .ok (.goto 4, 3) := by decide +kernel
theorem dX9_isSmall_16 : decode cX9_isSmall 16 = .ok (.iconst 0, 1) := by decide +kernel
theorem dX9_isSmall_17 : decode cX9_isSmall 17 = .ok (.ireturn, 1) := by decide +kernel
theorem dX9_isWord_0 : decode cX9_isWord 0 = .ok (.aload_n 1, 1) := by decide +kernel
theorem dX9_isWord_1 : decode cX9_isWord 1 = .ok (.invokevirtual 111, 3) := by decide +kernel
theorem dX9_isWord_4 : decode cX9_isWord 4 = .ok (.aload_n 0, 1) := by decide +kernel
theorem dX9_isWord_5 : decode cX9_isWord 5 = .ok (.getfield 29, 3) := by decide +kernel
theorem dX9_isWord_8 : decode cX9_isWord 8 = .ok (.aload_n 0, 1) := by decide +kernel
theorem dX9_isWord_9 : decode cX9_isWord 9 = .ok (.getfield 41, 3) := by decide +kernel
theorem dX9_isWord_12 : decode cX9_isWord 12 = .ok (.isub, 1) := by decide +kernel
theorem dX9_isWord_13 : decode cX9_isWord 13 = .ok (.if_icmp .eq 5, 3) := by decide +kernel
theorem dX9_isWord_16 : decode cX9_isWord 16 = .ok (.iconst 0, 1) := by decide +kernel
theorem dX9_isWord_17 : decode cX9_isWord 17 = .ok (.ireturn, 1) := by decide +kernel
theorem dX9_isWord_18 : decode cX9_isWord 18 = .ok (.iconst 0, 1) := by decide +kernel
theorem dX9_isWord_19 : decode cX9_isWord 19 = .ok (.istore_n 2, 1) := by decide +kernel
theorem dX9_isWord_20 : decode cX9_isWord 20 = .ok (.iload_n 2, 1) := by decide +kernel
theorem dX9_isWord_21 : decode cX9_isWord 21 = .ok (.aload_n 1, 1) := by decide +kernel
theorem dX9_isWord_22 : decode cX9_isWord 22 = .ok (.invokevirtual 111, 3) := by decide +kernel
theorem dX9_isWord_25 : decode cX9_isWord 25 = .ok (.if_icmp .ge 29, 3) := by decide +kernel
theorem dX9_isWord_28 : decode cX9_isWord 28 = .ok (.aload_n 1, 1) := by decide +kernel
theorem dX9_isWord_29 : decode cX9_isWord 29 = .ok (.iload_n 2, 1) := by decide +kernel
theorem dX9_isWord_30 : decode cX9_isWord 30 = .ok (.invokevirtual 115, 3) := by decide +kernel
theorem dX9_isWord_33 : decode cX9_isWord 33 = .ok (.aload_n 0, 1) := by decide +kernel
theorem dX9_isWord_34 : decode cX9_isWord 34 = .ok (.aload_n 0, 1) := by decide +kernel
theorem dX9_isWord_35 : decode cX9_isWord 35 = .ok (.getfield 41, 3) := by decide +kernel
theorem dX9_isWord_38 : decode cX9_isWord 38 = .ok (.iload_n 2, 1) := by decide +kernel
theorem dX9_isWord_39 : decode cX9_isWord 39 = .ok (.iadd, 1) := by decide +kernel
theorem dX9_isWord_40 : decode cX9_isWord 40 = .ok (.invokevirtual 53, 3) := by decide +kernel
theorem dX9_isWord_43 : decode cX9_isWord 43 = .ok (.if_icmp .eq 5, 3) := by decide +kernel
theorem dX9_isWord_46 : decode cX9_isWord 46 = .ok (.iconst 0, 1) := by decide +kernel
theorem dX9_isWord_47 : decode cX9_isWord 47 = .ok (.ireturn, 1) := by decide +kernel
theorem dX9_isWord_48 : decode cX9_isWord 48 = .ok (.iinc 2 1, 3) := by decide +kernel
theorem dX9_isWord_51 : decode cX9_isWord 51 = .ok (.goto (-31), 3) := by decide +kernel
theorem dX9_isWord_54 : decode cX9_isWord 54 = .ok (.iconst 1, 1) := by decide +kernel
theorem dX9_isWord_55 : decode cX9_isWord 55 = .ok (.ireturn, 1) := by decide +kernel
theorem dX9_keywordKind_0 : decode cX9_keywordKind 0 = .ok (.aload_n 0, 1) := by decide +kernel
theorem dX9_keywordKind_1 : decode cX9_keywordKind 1 = .ok (.ldc 83, 2) := by decide +kernel
theorem dX9_keywordKind_3 : decode cX9_keywordKind 3 = .ok (.invokevirtual 85, 3) := by decide +kernel
theorem dX9_keywordKind_6 : decode cX9_keywordKind 6 = .ok (.ifCond .eq 7, 3) := by decide +kernel
theorem dX9_keywordKind_9 : decode cX9_keywordKind 9 = .ok (.iconst 5, 1) := by decide +kernel
theorem dX9_keywordKind_10 : decode cX9_keywordKind 10 = .ok (.goto 158, 3) := by decide +kernel
theorem dX9_keywordKind_13 : decode cX9_keywordKind 13 = .ok (.aload_n 0, 1) := by decide +kernel
theorem dX9_keywordKind_14 : decode cX9_keywordKind 14 = .ok (.ldc 89, 2) := by decide +kernel
theorem dX9_keywordKind_16 : decode cX9_keywordKind 16 = .ok (.invokevirtual 85, 3) := by decide +kernel
theorem dX9_keywordKind_19 : decode cX9_keywordKind 19 = .ok (.ifCond .eq 8, 3) := by decide +kernel
theorem dX9_keywordKind_22 : decode cX9_keywordKind 22 = .ok (.bipush 6, 2) := by decide +kernel
theorem dX9_keywordKind_24 : decode cX9_keywordKind 24 = .ok (.goto 144, 3) := by decide +kernel
theorem dX9_keywordKind_27 : decode cX9_keywordKind 27 = .ok (.aload_n 0, 1) := by decide +kernel
theorem dX9_keywordKind_28 : decode cX9_keywordKind 28 = .ok (.ldc 91, 2) := by decide +kernel
theorem dX9_keywordKind_30 : decode cX9_keywordKind 30 = .ok (.invokevirtual 85, 3) := by decide +kernel
theorem dX9_keywordKind_33 : decode cX9_keywordKind 33 = .ok (.ifCond .eq 8, 3) := by decide +kernel
theorem dX9_keywordKind_36 : decode cX9_keywordKind 36 = .ok (.bipush 7, 2) := by decide +kernel
theorem dX9_keywordKind_38 : decode cX9_keywordKind 38 = .ok (.goto 130, 3) := by decide +kernel
theorem dX9_keywordKind_41 : decode cX9_keywordKind 41 = .ok (.aload_n 0, 1) := by decide +kernel
theorem dX9_keywordKind_42 : decode cX9_keywordKind 42 = .ok (.ldc 93, 2) := by decide +kernel
theorem dX9_keywordKind_44 : decode cX9_keywordKind 44 = .ok (.invokevirtual 85, 3) := by decide +kernel
theorem dX9_keywordKind_47 : decode cX9_keywordKind 47 = .ok (.ifCond .eq 8, 3) := by decide +kernel
theorem dX9_keywordKind_50 : decode cX9_keywordKind 50 = .ok (.bipush 8, 2) := by decide +kernel
theorem dX9_keywordKind_52 : decode cX9_keywordKind 52 = .ok (.goto 116, 3) := by decide +kernel
theorem dX9_keywordKind_55 : decode cX9_keywordKind 55 = .ok (.aload_n 0, 1) := by decide +kernel
theorem dX9_keywordKind_56 : decode cX9_keywordKind 56 = .ok (.ldc 95, 2) := by decide +kernel
theorem dX9_keywordKind_58 : decode cX9_keywordKind 58 = .ok (.invokevirtual 85, 3) := by decide +kernel
theorem dX9_keywordKind_61 : decode cX9_keywordKind 61 = .ok (.ifCond .eq 8, 3) := by decide +kernel
theorem dX9_keywordKind_64 : decode cX9_keywordKind 64 = .ok (.bipush 9, 2) := by decide +kernel
theorem dX9_keywordKind_66 : decode cX9_keywordKind 66 = .ok (.goto 102, 3) := by decide +kernel
theorem dX9_keywordKind_69 : decode cX9_keywordKind 69 = .ok (.aload_n 0, 1) := by decide +kernel
theorem dX9_keywordKind_70 : decode cX9_keywordKind 70 = .ok (.ldc 97, 2) := by decide +kernel
theorem dX9_keywordKind_72 : decode cX9_keywordKind 72 = .ok (.invokevirtual 85, 3) := by decide +kernel
theorem dX9_keywordKind_75 : decode cX9_keywordKind 75 = .ok (.ifCond .eq 8, 3) := by decide +kernel
theorem dX9_keywordKind_78 : decode cX9_keywordKind 78 = .ok (.bipush 10, 2) := by decide +kernel
theorem dX9_keywordKind_80 : decode cX9_keywordKind 80 = .ok (.goto 88, 3) := by decide +kernel
theorem dX9_keywordKind_83 : decode cX9_keywordKind 83 = .ok (.aload_n 0, 1) := by decide +kernel
theorem dX9_keywordKind_84 : decode cX9_keywordKind 84 = .ok (.ldc 99, 2) := by decide +kernel
theorem dX9_keywordKind_86 : decode cX9_keywordKind 86 = .ok (.invokevirtual 85, 3) := by decide +kernel
theorem dX9_keywordKind_89 : decode cX9_keywordKind 89 = .ok (.ifCond .eq 8, 3) := by decide +kernel
theorem dX9_keywordKind_92 : decode cX9_keywordKind 92 = .ok (.bipush 11, 2) := by decide +kernel
theorem dX9_keywordKind_94 : decode cX9_keywordKind 94 = .ok (.goto 74, 3) := by decide +kernel
theorem dX9_keywordKind_97 : decode cX9_keywordKind 97 = .ok (.aload_n 0, 1) := by decide +kernel
theorem dX9_keywordKind_98 : decode cX9_keywordKind 98 = .ok (.ldc 101, 2) := by decide +kernel
theorem dX9_keywordKind_100 : decode cX9_keywordKind 100 = .ok (.invokevirtual 85, 3) := by decide +kernel
theorem dX9_keywordKind_103 : decode cX9_keywordKind 103 = .ok (.ifCond .eq 8, 3) := by decide +kernel
theorem dX9_keywordKind_106 : decode cX9_keywordKind 106 = .ok (.bipush 12, 2) := by decide +kernel
theorem dX9_keywordKind_108 : decode cX9_keywordKind 108 = .ok (.goto 60, 3) := by decide +kernel
theorem dX9_keywordKind_111 : decode cX9_keywordKind 111 = .ok (.aload_n 0, 1) := by decide +kernel
theorem dX9_keywordKind_112 : decode cX9_keywordKind 112 = .ok (.ldc 103, 2) := by decide +kernel
theorem dX9_keywordKind_114 : decode cX9_keywordKind 114 = .ok (.invokevirtual 85, 3) := by decide +kernel
theorem dX9_keywordKind_117 : decode cX9_keywordKind 117 = .ok (.ifCond .eq 8, 3) := by decide +kernel
theorem dX9_keywordKind_120 : decode cX9_keywordKind 120 = .ok (.bipush 13, 2) := by decide +kernel
theorem dX9_keywordKind_122 : decode cX9_keywordKind 122 = .ok (.goto 46, 3) := by decide +kernel
theorem dX9_keywordKind_125 : decode cX9_keywordKind 125 = .ok (.aload_n 0, 1) := by decide +kernel
theorem dX9_keywordKind_126 : decode cX9_keywordKind 126 = .ok (.ldc 105, 2) := by decide +kernel
theorem dX9_keywordKind_128 : decode cX9_keywordKind 128 = .ok (.invokevirtual 85, 3) := by decide +kernel
theorem dX9_keywordKind_131 : decode cX9_keywordKind 131 = .ok (.ifCond .eq 8, 3) := by decide +kernel
theorem dX9_keywordKind_134 : decode cX9_keywordKind 134 = .ok (.bipush 14, 2) := by decide +kernel
theorem dX9_keywordKind_136 : decode cX9_keywordKind 136 = .ok (.goto 32, 3) := by decide +kernel
theorem dX9_keywordKind_139 : decode cX9_keywordKind 139 = .ok (.aload_n 0, 1) := by decide +kernel
theorem dX9_keywordKind_140 : decode cX9_keywordKind 140 = .ok (.ldc 107, 2) := by decide +kernel
theorem dX9_keywordKind_142 : decode cX9_keywordKind 142 = .ok (.invokevirtual 85, 3) := by decide +kernel
theorem dX9_keywordKind_145 : decode cX9_keywordKind 145 = .ok (.ifCond .eq 8, 3) := by decide +kernel
theorem dX9_keywordKind_148 : decode cX9_keywordKind 148 = .ok (.bipush 15, 2) := by decide +kernel
theorem dX9_keywordKind_150 : decode cX9_keywordKind 150 = .ok (.goto 18, 3) := by decide +kernel
theorem dX9_keywordKind_153 : decode cX9_keywordKind 153 = .ok (.aload_n 0, 1) := by decide +kernel
theorem dX9_keywordKind_154 : decode cX9_keywordKind 154 = .ok (.ldc 109, 2) := by decide +kernel
theorem dX9_keywordKind_156 : decode cX9_keywordKind 156 = .ok (.invokevirtual 85, 3) := by decide +kernel
theorem dX9_keywordKind_159 : decode cX9_keywordKind 159 = .ok (.ifCond .eq 8, 3) := by decide +kernel
theorem dX9_keywordKind_162 : decode cX9_keywordKind 162 = .ok (.bipush 16, 2) := by decide +kernel
theorem dX9_keywordKind_164 : decode cX9_keywordKind 164 = .ok (.goto 4, 3) := by decide +kernel
theorem dX9_keywordKind_167 : decode cX9_keywordKind 167 = .ok (.iconst 1, 1) := by decide +kernel
theorem dX9_keywordKind_168 : decode cX9_keywordKind 168 = .ok (.ireturn, 1) := by decide +kernel
theorem dX9_numberKind_0 : decode cX9_numberKind 0 = .ok (.aload_n 0, 1) := by decide +kernel
theorem dX9_numberKind_1 : decode cX9_numberKind 1 = .ok (.getfield 29, 3) := by decide +kernel
theorem dX9_numberKind_4 : decode cX9_numberKind 4 = .ok (.aload_n 0, 1) := by decide +kernel
theorem dX9_numberKind_5 : decode cX9_numberKind 5 = .ok (.getfield 25, 3) := by decide +kernel
theorem dX9_numberKind_8 : decode cX9_numberKind 8 = .ok (.if_icmp .ge 62, 3) := by decide +kernel
theorem dX9_numberKind_11 : decode cX9_numberKind 11 = .ok (.aload_n 0, 1) := by decide +kernel
theorem dX9_numberKind_12 : decode cX9_numberKind 12 = .ok (.aload_n 0, 1) := by decide +kernel
theorem dX9_numberKind_13 : decode cX9_numberKind 13 = .ok (.getfield 29, 3) := by decide +kernel
theorem dX9_numberKind_16 : decode cX9_numberKind 16 = .ok (.invokevirtual 53, 3) := by decide +kernel
theorem dX9_numberKind_19 : decode cX9_numberKind 19 = .ok (.invokestatic 68, 3) := by decide +kernel
theorem dX9_numberKind_22 : decode cX9_numberKind 22 = .ok (.ifCond .eq 48, 3) := by decide +kernel
theorem dX9_numberKind_25 : decode cX9_numberKind 25 = .ok (.aload_n 0, 1) := by decide +kernel
theorem dX9_numberKind_26 : decode cX9_numberKind 26 = .ok (.getfield 44, 3) := by decide +kernel
theorem dX9_numberKind_29 : decode cX9_numberKind 29 = .ok (.ldc 119, 2) := by decide +kernel
theorem dX9_numberKind_31 : decode cX9_numberKind 31 = .ok (.if_icmp .gt 26, 3) := by decide +kernel
theorem dX9_numberKind_34 : decode cX9_numberKind 34 = .ok (.aload_n 0, 1) := by decide +kernel
theorem dX9_numberKind_35 : decode cX9_numberKind 35 = .ok (.aload_n 0, 1) := by decide +kernel
theorem dX9_numberKind_36 : decode cX9_numberKind 36 = .ok (.getfield 44, 3) := by decide +kernel
theorem dX9_numberKind_39 : decode cX9_numberKind 39 = .ok (.bipush 10, 2) := by decide +kernel
theorem dX9_numberKind_41 : decode cX9_numberKind 41 = .ok (.imul, 1) := by decide +kernel
theorem dX9_numberKind_42 : decode cX9_numberKind 42 = .ok (.aload_n 0, 1) := by decide +kernel
theorem dX9_numberKind_43 : decode cX9_numberKind 43 = .ok (.aload_n 0, 1) := by decide +kernel
theorem dX9_numberKind_44 : decode cX9_numberKind 44 = .ok (.getfield 29, 3) := by decide +kernel
theorem dX9_numberKind_47 : decode cX9_numberKind 47 = .ok (.invokevirtual 53, 3) := by decide +kernel
theorem dX9_numberKind_50 : decode cX9_numberKind 50 = .ok (.iadd, 1) := by decide +kernel
theorem dX9_numberKind_51 : decode cX9_numberKind 51 = .ok (.bipush 48, 2) := by decide +kernel
theorem dX9_numberKind_53 : decode cX9_numberKind 53 = .ok (.isub, 1) := by decide +kernel
theorem dX9_numberKind_54 : decode cX9_numberKind 54 = .ok (.putfield 44, 3) := by decide +kernel
theorem dX9_numberKind_57 : decode cX9_numberKind 57 = .ok (.aload_n 0, 1) := by decide +kernel
theorem dX9_numberKind_58 : decode cX9_numberKind 58 = .ok (.dup, 1) := by decide +kernel
theorem dX9_numberKind_59 : decode cX9_numberKind 59 = .ok (.getfield 29, 3) := by decide +kernel
theorem dX9_numberKind_62 : decode cX9_numberKind 62 = .ok (.iconst 1, 1) := by decide +kernel
theorem dX9_numberKind_63 : decode cX9_numberKind 63 = .ok (.iadd, 1) := by decide +kernel
theorem dX9_numberKind_64 : decode cX9_numberKind 64 = .ok (.putfield 29, 3) := by decide +kernel
theorem dX9_numberKind_67 : decode cX9_numberKind 67 = .ok (.goto (-67), 3) := by decide +kernel
theorem dX9_numberKind_70 : decode cX9_numberKind 70 = .ok (.aload_n 0, 1) := by decide +kernel
theorem dX9_numberKind_71 : decode cX9_numberKind 71 = .ok (.getfield 44, 3) := by decide +kernel
theorem dX9_numberKind_74 : decode cX9_numberKind 74 = .ok (.ldc 119, 2) := by decide +kernel
theorem dX9_numberKind_76 : decode cX9_numberKind 76 = .ok (.if_icmp .gt 7, 3) := by decide +kernel
theorem dX9_numberKind_79 : decode cX9_numberKind 79 = .ok (.iconst 4, 1) := by decide +kernel
theorem dX9_numberKind_80 : decode cX9_numberKind 80 = .ok (.goto 4, 3) := by decide +kernel
theorem dX9_numberKind_83 : decode cX9_numberKind 83 = .ok (.iconst 1, 1) := by decide +kernel
theorem dX9_numberKind_84 : decode cX9_numberKind 84 = .ok (.ireturn, 1) := by decide +kernel
theorem dX9_read_0 : decode cX9_read 0 = .ok (.aload_n 0, 1) := by decide +kernel
theorem dX9_read_1 : decode cX9_read 1 = .ok (.aload_n 1, 1) := by decide +kernel
theorem dX9_read_2 : decode cX9_read 2 = .ok (.putfield 9, 3) := by decide +kernel
theorem dX9_read_5 : decode cX9_read 5 = .ok (.aload_n 0, 1) := by decide +kernel
theorem dX9_read_6 : decode cX9_read 6 = .ok (.iload_n 2, 1) := by decide +kernel
theorem dX9_read_7 : decode cX9_read 7 = .ok (.putfield 25, 3) := by decide +kernel
theorem dX9_read_10 : decode cX9_read 10 = .ok (.aload_n 0, 1) := by decide +kernel
theorem dX9_read_11 : decode cX9_read 11 = .ok (.iconst 0, 1) := by decide +kernel
theorem dX9_read_12 : decode cX9_read 12 = .ok (.putfield 29, 3) := by decide +kernel
theorem dX9_read_15 : decode cX9_read 15 = .ok (.aload_n 0, 1) := by decide +kernel
theorem dX9_read_16 : decode cX9_read 16 = .ok (.iconst 1, 1) := by decide +kernel
theorem dX9_read_17 : decode cX9_read 17 = .ok (.putfield 32, 3) := by decide +kernel
theorem dX9_read_20 : decode cX9_read 20 = .ok (.aload_n 0, 1) := by decide +kernel
theorem dX9_read_21 : decode cX9_read 21 = .ok (.iconst 0, 1) := by decide +kernel
theorem dX9_read_22 : decode cX9_read 22 = .ok (.putfield 35, 3) := by decide +kernel
theorem dX9_read_25 : decode cX9_read 25 = .ok (.iconst 0, 1) := by decide +kernel
theorem dX9_read_26 : decode cX9_read 26 = .ok (.istore_n 3, 1) := by decide +kernel
theorem dX9_read_27 : decode cX9_read 27 = .ok (.iload_n 3, 1) := by decide +kernel
theorem dX9_read_28 : decode cX9_read 28 = .ok (.sipush 1001, 3) := by decide +kernel
theorem dX9_read_31 : decode cX9_read 31 = .ok (.if_icmp .ge 57, 3) := by decide +kernel
theorem dX9_read_34 : decode cX9_read 34 = .ok (.aload_n 0, 1) := by decide +kernel
theorem dX9_read_35 : decode cX9_read 35 = .ok (.getfield 32, 3) := by decide +kernel
theorem dX9_read_38 : decode cX9_read 38 = .ok (.ifCond .eq 50, 3) := by decide +kernel
theorem dX9_read_41 : decode cX9_read 41 = .ok (.aload_n 0, 1) := by decide +kernel
theorem dX9_read_42 : decode cX9_read 42 = .ok (.invokevirtual 38, 3) := by decide +kernel
theorem dX9_read_45 : decode cX9_read 45 = .ok (.aload_n 0, 1) := by decide +kernel
theorem dX9_read_46 : decode cX9_read 46 = .ok (.getfield 15, 3) := by decide +kernel
theorem dX9_read_49 : decode cX9_read 49 = .ok (.iload_n 3, 1) := by decide +kernel
theorem dX9_read_50 : decode cX9_read 50 = .ok (.aload_n 0, 1) := by decide +kernel
theorem dX9_read_51 : decode cX9_read 51 = .ok (.getfield 32, 3) := by decide +kernel
theorem dX9_read_54 : decode cX9_read 54 = .ok (.iastore, 1) := by decide +kernel
theorem dX9_read_55 : decode cX9_read 55 = .ok (.aload_n 0, 1) := by decide +kernel
theorem dX9_read_56 : decode cX9_read 56 = .ok (.getfield 19, 3) := by decide +kernel
theorem dX9_read_59 : decode cX9_read 59 = .ok (.iload_n 3, 1) := by decide +kernel
theorem dX9_read_60 : decode cX9_read 60 = .ok (.aload_n 0, 1) := by decide +kernel
theorem dX9_read_61 : decode cX9_read 61 = .ok (.getfield 41, 3) := by decide +kernel
theorem dX9_read_64 : decode cX9_read 64 = .ok (.iastore, 1) := by decide +kernel
theorem dX9_read_65 : decode cX9_read 65 = .ok (.aload_n 0, 1) := by decide +kernel
theorem dX9_read_66 : decode cX9_read 66 = .ok (.getfield 22, 3) := by decide +kernel
theorem dX9_read_69 : decode cX9_read 69 = .ok (.iload_n 3, 1) := by decide +kernel
theorem dX9_read_70 : decode cX9_read 70 = .ok (.aload_n 0, 1) := by decide +kernel
theorem dX9_read_71 : decode cX9_read 71 = .ok (.getfield 44, 3) := by decide +kernel
theorem dX9_read_74 : decode cX9_read 74 = .ok (.iastore, 1) := by decide +kernel
theorem dX9_read_75 : decode cX9_read 75 = .ok (.aload_n 0, 1) := by decide +kernel
theorem dX9_read_76 : decode cX9_read 76 = .ok (.iload_n 3, 1) := by decide +kernel
theorem dX9_read_77 : decode cX9_read 77 = .ok (.iconst 1, 1) := by decide +kernel
theorem dX9_read_78 : decode cX9_read 78 = .ok (.iadd, 1) := by decide +kernel
theorem dX9_read_79 : decode cX9_read 79 = .ok (.putfield 35, 3) := by decide +kernel
theorem dX9_read_82 : decode cX9_read 82 = .ok (.iinc 3 1, 3) := by decide +kernel
theorem dX9_read_85 : decode cX9_read 85 = .ok (.goto (-58), 3) := by decide +kernel
theorem dX9_read_88 : decode cX9_read 88 = .ok (.aload_n 0, 1) := by decide +kernel
theorem dX9_read_89 : decode cX9_read 89 = .ok (.iconst (-1), 1) := by decide +kernel
theorem dX9_read_90 : decode cX9_read 90 = .ok (.putfield 47, 3) := by decide +kernel
theorem dX9_read_93 : decode cX9_read 93 = .ok (.aload_n 0, 1) := by decide +kernel
theorem dX9_read_94 : decode cX9_read 94 = .ok (.invokevirtual 50, 3) := by decide +kernel
theorem dX9_read_97 : decode cX9_read 97 = .ok (.return_, 1) := by decide +kernel
theorem dX9_scan_0 : decode cX9_scan 0 = .ok (.aload_n 0, 1) := by decide +kernel
theorem dX9_scan_1 : decode cX9_scan 1 = .ok (.getfield 29, 3) := by decide +kernel
theorem dX9_scan_4 : decode cX9_scan 4 = .ok (.aload_n 0, 1) := by decide +kernel
theorem dX9_scan_5 : decode cX9_scan 5 = .ok (.getfield 25, 3) := by decide +kernel
theorem dX9_scan_8 : decode cX9_scan 8 = .ok (.if_icmp .ge 30, 3) := by decide +kernel
theorem dX9_scan_11 : decode cX9_scan 11 = .ok (.aload_n 0, 1) := by decide +kernel
theorem dX9_scan_12 : decode cX9_scan 12 = .ok (.aload_n 0, 1) := by decide +kernel
theorem dX9_scan_13 : decode cX9_scan 13 = .ok (.getfield 29, 3) := by decide +kernel
theorem dX9_scan_16 : decode cX9_scan 16 = .ok (.invokevirtual 53, 3) := by decide +kernel
theorem dX9_scan_19 : decode cX9_scan 19 = .ok (.invokestatic 57, 3) := by decide +kernel
theorem dX9_scan_22 : decode cX9_scan 22 = .ok (.ifCond .eq 16, 3) := by decide +kernel
theorem dX9_scan_25 : decode cX9_scan 25 = .ok (.aload_n 0, 1) := by decide +kernel
theorem dX9_scan_26 : decode cX9_scan 26 = .ok (.dup, 1) := by decide +kernel
theorem dX9_scan_27 : decode cX9_scan 27 = .ok (.getfield 29, 3) := by decide +kernel
theorem dX9_scan_30 : decode cX9_scan 30 = .ok (.iconst 1, 1) := by decide +kernel
theorem dX9_scan_31 : decode cX9_scan 31 = .ok (.iadd, 1) := by decide +kernel
theorem dX9_scan_32 : decode cX9_scan 32 = .ok (.putfield 29, 3) := by decide +kernel
theorem dX9_scan_35 : decode cX9_scan 35 = .ok (.goto (-35), 3) := by decide +kernel
theorem dX9_scan_38 : decode cX9_scan 38 = .ok (.aload_n 0, 1) := by decide +kernel
theorem dX9_scan_39 : decode cX9_scan 39 = .ok (.aload_n 0, 1) := by decide +kernel
theorem dX9_scan_40 : decode cX9_scan 40 = .ok (.getfield 29, 3) := by decide +kernel
theorem dX9_scan_43 : decode cX9_scan 43 = .ok (.putfield 41, 3) := by decide +kernel
theorem dX9_scan_46 : decode cX9_scan 46 = .ok (.aload_n 0, 1) := by decide +kernel
theorem dX9_scan_47 : decode cX9_scan 47 = .ok (.iconst 0, 1) := by decide +kernel
theorem dX9_scan_48 : decode cX9_scan 48 = .ok (.putfield 44, 3) := by decide +kernel
theorem dX9_scan_51 : decode cX9_scan 51 = .ok (.aload_n 0, 1) := by decide +kernel
theorem dX9_scan_52 : decode cX9_scan 52 = .ok (.aload_n 0, 1) := by decide +kernel
theorem dX9_scan_53 : decode cX9_scan 53 = .ok (.getfield 29, 3) := by decide +kernel
theorem dX9_scan_56 : decode cX9_scan 56 = .ok (.invokevirtual 53, 3) := by decide +kernel
theorem dX9_scan_59 : decode cX9_scan 59 = .ok (.istore_n 1, 1) := by decide +kernel
theorem dX9_scan_60 : decode cX9_scan 60 = .ok (.aload_n 0, 1) := by decide +kernel
theorem dX9_scan_61 : decode cX9_scan 61 = .ok (.getfield 29, 3) := by decide +kernel
theorem dX9_scan_64 : decode cX9_scan 64 = .ok (.aload_n 0, 1) := by decide +kernel
theorem dX9_scan_65 : decode cX9_scan 65 = .ok (.getfield 25, 3) := by decide +kernel
theorem dX9_scan_68 : decode cX9_scan 68 = .ok (.if_icmp .lt 11, 3) := by decide +kernel
theorem dX9_scan_71 : decode cX9_scan 71 = .ok (.aload_n 0, 1) := by decide +kernel
theorem dX9_scan_72 : decode cX9_scan 72 = .ok (.iconst 0, 1) := by decide +kernel
theorem dX9_scan_73 : decode cX9_scan 73 = .ok (.putfield 32, 3) := by decide +kernel
theorem dX9_scan_76 : decode cX9_scan 76 = .ok (.goto 48, 3) := by decide +kernel
theorem dX9_scan_79 : decode cX9_scan 79 = .ok (.iload_n 1, 1) := by decide +kernel
theorem dX9_scan_80 : decode cX9_scan 80 = .ok (.invokestatic 61, 3) := by decide +kernel
theorem dX9_scan_83 : decode cX9_scan 83 = .ok (.ifCond .eq 14, 3) := by decide +kernel
theorem dX9_scan_86 : decode cX9_scan 86 = .ok (.aload_n 0, 1) := by decide +kernel
theorem dX9_scan_87 : decode cX9_scan 87 = .ok (.aload_n 0, 1) := by decide +kernel
theorem dX9_scan_88 : decode cX9_scan 88 = .ok (.invokevirtual 64, 3) := by decide +kernel
theorem dX9_scan_91 : decode cX9_scan 91 = .ok (.putfield 32, 3) := by decide +kernel
theorem dX9_scan_94 : decode cX9_scan 94 = .ok (.goto 30, 3) := by decide +kernel
theorem dX9_scan_97 : decode cX9_scan 97 = .ok (.iload_n 1, 1) := by decide +kernel
theorem dX9_scan_98 : decode cX9_scan 98 = .ok (.invokestatic 68, 3) := by decide +kernel
theorem dX9_scan_101 : decode cX9_scan 101 = .ok (.ifCond .eq 14, 3) := by decide +kernel
theorem dX9_scan_104 : decode cX9_scan 104 = .ok (.aload_n 0, 1) := by decide +kernel
theorem dX9_scan_105 : decode cX9_scan 105 = .ok (.aload_n 0, 1) := by decide +kernel
theorem dX9_scan_106 : decode cX9_scan 106 = .ok (.invokevirtual 71, 3) := by decide +kernel
theorem dX9_scan_109 : decode cX9_scan 109 = .ok (.putfield 32, 3) := by decide +kernel
theorem dX9_scan_112 : decode cX9_scan 112 = .ok (.goto 12, 3) := by decide +kernel
theorem dX9_scan_115 : decode cX9_scan 115 = .ok (.aload_n 0, 1) := by decide +kernel
theorem dX9_scan_116 : decode cX9_scan 116 = .ok (.aload_n 0, 1) := by decide +kernel
theorem dX9_scan_117 : decode cX9_scan 117 = .ok (.iload_n 1, 1) := by decide +kernel
theorem dX9_scan_118 : decode cX9_scan 118 = .ok (.invokevirtual 74, 3) := by decide +kernel
theorem dX9_scan_121 : decode cX9_scan 121 = .ok (.putfield 32, 3) := by decide +kernel
theorem dX9_scan_124 : decode cX9_scan 124 = .ok (.return_, 1) := by decide +kernel
theorem dX9_signKind_0 : decode cX9_signKind 0 = .ok (.aload_n 0, 1) := by decide +kernel
theorem dX9_signKind_1 : decode cX9_signKind 1 = .ok (.dup, 1) := by decide +kernel
theorem dX9_signKind_2 : decode cX9_signKind 2 = .ok (.getfield 29, 3) := by decide +kernel
theorem dX9_signKind_5 : decode cX9_signKind 5 = .ok (.iconst 1, 1) := by decide +kernel
theorem dX9_signKind_6 : decode cX9_signKind 6 = .ok (.iadd, 1) := by decide +kernel
theorem dX9_signKind_7 : decode cX9_signKind 7 = .ok (.putfield 29, 3) := by decide +kernel
theorem dX9_signKind_10 : decode cX9_signKind 10 = .ok (.iload_n 1, 1) := by decide +kernel
theorem dX9_signKind_11 : decode cX9_signKind 11 = .ok (.lookupswitch 121 #[(40, 95), (41, 98), (42, 113), (43, 107), (45, 110), (59, 101), (60, 104), (61, 116), (123, 89), (125, 92)], 89) := by decide +kernel
theorem dX9_signKind_100 : decode cX9_signKind 100 = .ok (.bipush 17, 2) := by decide +kernel
theorem dX9_signKind_102 : decode cX9_signKind 102 = .ok (.ireturn, 1) := by decide +kernel
theorem dX9_signKind_103 : decode cX9_signKind 103 = .ok (.bipush 18, 2) := by decide +kernel
theorem dX9_signKind_105 : decode cX9_signKind 105 = .ok (.ireturn, 1) := by decide +kernel
theorem dX9_signKind_106 : decode cX9_signKind 106 = .ok (.bipush 19, 2) := by decide +kernel
theorem dX9_signKind_108 : decode cX9_signKind 108 = .ok (.ireturn, 1) := by decide +kernel
theorem dX9_signKind_109 : decode cX9_signKind 109 = .ok (.bipush 20, 2) := by decide +kernel
theorem dX9_signKind_111 : decode cX9_signKind 111 = .ok (.ireturn, 1) := by decide +kernel
theorem dX9_signKind_112 : decode cX9_signKind 112 = .ok (.bipush 21, 2) := by decide +kernel
theorem dX9_signKind_114 : decode cX9_signKind 114 = .ok (.ireturn, 1) := by decide +kernel
theorem dX9_signKind_115 : decode cX9_signKind 115 = .ok (.bipush 24, 2) := by decide +kernel
theorem dX9_signKind_117 : decode cX9_signKind 117 = .ok (.ireturn, 1) := by decide +kernel
theorem dX9_signKind_118 : decode cX9_signKind 118 = .ok (.bipush 25, 2) := by decide +kernel
theorem dX9_signKind_120 : decode cX9_signKind 120 = .ok (.ireturn, 1) := by decide +kernel
theorem dX9_signKind_121 : decode cX9_signKind 121 = .ok (.bipush 26, 2) := by decide +kernel
theorem dX9_signKind_123 : decode cX9_signKind 123 = .ok (.ireturn, 1) := by decide +kernel
theorem dX9_signKind_124 : decode cX9_signKind 124 = .ok (.bipush 27, 2) := by decide +kernel
theorem dX9_signKind_126 : decode cX9_signKind 126 = .ok (.ireturn, 1) := by decide +kernel
theorem dX9_signKind_127 : decode cX9_signKind 127 = .ok (.aload_n 0, 1) := by decide +kernel
theorem dX9_signKind_128 : decode cX9_signKind 128 = .ok (.invokevirtual 120, 3) := by decide +kernel
theorem dX9_signKind_131 : decode cX9_signKind 131 = .ok (.ireturn, 1) := by decide +kernel
theorem dX9_signKind_132 : decode cX9_signKind 132 = .ok (.iconst 1, 1) := by decide +kernel
theorem dX9_signKind_133 : decode cX9_signKind 133 = .ok (.ireturn, 1) := by decide +kernel
theorem dX9_wordKind_0 : decode cX9_wordKind 0 = .ok (.aload_n 0, 1) := by decide +kernel
theorem dX9_wordKind_1 : decode cX9_wordKind 1 = .ok (.getfield 29, 3) := by decide +kernel
theorem dX9_wordKind_4 : decode cX9_wordKind 4 = .ok (.aload_n 0, 1) := by decide +kernel
theorem dX9_wordKind_5 : decode cX9_wordKind 5 = .ok (.getfield 25, 3) := by decide +kernel
theorem dX9_wordKind_8 : decode cX9_wordKind 8 = .ok (.if_icmp .ge 30, 3) := by decide +kernel
theorem dX9_wordKind_11 : decode cX9_wordKind 11 = .ok (.aload_n 0, 1) := by decide +kernel
theorem dX9_wordKind_12 : decode cX9_wordKind 12 = .ok (.aload_n 0, 1) := by decide +kernel
theorem dX9_wordKind_13 : decode cX9_wordKind 13 = .ok (.getfield 29, 3) := by decide +kernel
theorem dX9_wordKind_16 : decode cX9_wordKind 16 = .ok (.invokevirtual 53, 3) := by decide +kernel
theorem dX9_wordKind_19 : decode cX9_wordKind 19 = .ok (.invokestatic 61, 3) := by decide +kernel
theorem dX9_wordKind_22 : decode cX9_wordKind 22 = .ok (.ifCond .eq 16, 3) := by decide +kernel
theorem dX9_wordKind_25 : decode cX9_wordKind 25 = .ok (.aload_n 0, 1) := by decide +kernel
theorem dX9_wordKind_26 : decode cX9_wordKind 26 = .ok (.dup, 1) := by decide +kernel
theorem dX9_wordKind_27 : decode cX9_wordKind 27 = .ok (.getfield 29, 3) := by decide +kernel
theorem dX9_wordKind_30 : decode cX9_wordKind 30 = .ok (.iconst 1, 1) := by decide +kernel
theorem dX9_wordKind_31 : decode cX9_wordKind 31 = .ok (.iadd, 1) := by decide +kernel
theorem dX9_wordKind_32 : decode cX9_wordKind 32 = .ok (.putfield 29, 3) := by decide +kernel
theorem dX9_wordKind_35 : decode cX9_wordKind 35 = .ok (.goto (-35), 3) := by decide +kernel
theorem dX9_wordKind_38 : decode cX9_wordKind 38 = .ok (.aload_n 0, 1) := by decide +kernel
theorem dX9_wordKind_39 : decode cX9_wordKind 39 = .ok (.getfield 29, 3) := by decide +kernel
theorem dX9_wordKind_42 : decode cX9_wordKind 42 = .ok (.aload_n 0, 1) := by decide +kernel
theorem dX9_wordKind_43 : decode cX9_wordKind 43 = .ok (.getfield 41, 3) := by decide +kernel
theorem dX9_wordKind_46 : decode cX9_wordKind 46 = .ok (.isub, 1) := by decide +kernel
theorem dX9_wordKind_47 : decode cX9_wordKind 47 = .ok (.iconst 1, 1) := by decide +kernel
theorem dX9_wordKind_48 : decode cX9_wordKind 48 = .ok (.if_icmp .ne 47, 3) := by decide +kernel
theorem dX9_wordKind_51 : decode cX9_wordKind 51 = .ok (.aload_n 0, 1) := by decide +kernel
theorem dX9_wordKind_52 : decode cX9_wordKind 52 = .ok (.aload_n 0, 1) := by decide +kernel
theorem dX9_wordKind_53 : decode cX9_wordKind 53 = .ok (.getfield 41, 3) := by decide +kernel
theorem dX9_wordKind_56 : decode cX9_wordKind 56 = .ok (.invokevirtual 53, 3) := by decide +kernel
theorem dX9_wordKind_59 : decode cX9_wordKind 59 = .ok (.istore_n 1, 1) := by decide +kernel
theorem dX9_wordKind_60 : decode cX9_wordKind 60 = .ok (.aload_n 0, 1) := by decide +kernel
theorem dX9_wordKind_61 : decode cX9_wordKind 61 = .ok (.iload_n 1, 1) := by decide +kernel
theorem dX9_wordKind_62 : decode cX9_wordKind 62 = .ok (.invokestatic 77, 3) := by decide +kernel
theorem dX9_wordKind_65 : decode cX9_wordKind 65 = .ok (.ifCond .eq 10, 3) := by decide +kernel
theorem dX9_wordKind_68 : decode cX9_wordKind 68 = .ok (.iload_n 1, 1) := by decide +kernel
theorem dX9_wordKind_69 : decode cX9_wordKind 69 = .ok (.bipush 97, 2) := by decide +kernel
theorem dX9_wordKind_71 : decode cX9_wordKind 71 = .ok (.isub, 1) := by decide +kernel
theorem dX9_wordKind_72 : decode cX9_wordKind 72 = .ok (.goto 7, 3) := by decide +kernel
theorem dX9_wordKind_75 : decode cX9_wordKind 75 = .ok (.iload_n 1, 1) := by decide +kernel
theorem dX9_wordKind_76 : decode cX9_wordKind 76 = .ok (.bipush 65, 2) := by decide +kernel
theorem dX9_wordKind_78 : decode cX9_wordKind 78 = .ok (.isub, 1) := by decide +kernel
theorem dX9_wordKind_79 : decode cX9_wordKind 79 = .ok (.putfield 44, 3) := by decide +kernel
theorem dX9_wordKind_82 : decode cX9_wordKind 82 = .ok (.iload_n 1, 1) := by decide +kernel
theorem dX9_wordKind_83 : decode cX9_wordKind 83 = .ok (.invokestatic 77, 3) := by decide +kernel
theorem dX9_wordKind_86 : decode cX9_wordKind 86 = .ok (.ifCond .eq 7, 3) := by decide +kernel
theorem dX9_wordKind_89 : decode cX9_wordKind 89 = .ok (.iconst 2, 1) := by decide +kernel
theorem dX9_wordKind_90 : decode cX9_wordKind 90 = .ok (.goto 4, 3) := by decide +kernel
theorem dX9_wordKind_93 : decode cX9_wordKind 93 = .ok (.iconst 3, 1) := by decide +kernel
theorem dX9_wordKind_94 : decode cX9_wordKind 94 = .ok (.ireturn, 1) := by decide +kernel
theorem dX9_wordKind_95 : decode cX9_wordKind 95 = .ok (.aload_n 0, 1) := by decide +kernel
theorem dX9_wordKind_96 : decode cX9_wordKind 96 = .ok (.invokevirtual 80, 3) := by decide +kernel
theorem dX9_wordKind_99 : decode cX9_wordKind 99 = .ok (.ireturn, 1) := by decide +kernel
