theorem dX12_thrown_0 : decode cX12_thrown 0 = .ok (.aload_n 0, 1) := by decide +kernel
theorem dX12_thrown_1 : decode cX12_thrown 1 = .ok (.getfield 1, 3) := by decide +kernel
theorem dX12_thrown_4 : decode cX12_thrown 4 = .ok (.ireturn, 1) := by decide +kernel
theorem dX12_fails_0 : decode cX12_fails 0 = .ok (.aload_n 0, 1) := by decide +kernel
theorem dX12_fails_1 : decode cX12_fails 1 = .ok (.iload_n 1, 1) := by decide +kernel
theorem dX12_fails_2 : decode cX12_fails 2 = .ok (.putfield 1, 3) := by decide +kernel
theorem dX12_fails_5 : decode cX12_fails 5 = .ok (.iload_n 1, 1) := by decide +kernel
theorem dX12_fails_6 : decode cX12_fails 6 = .ok (.ifCond .eq 7, 3) := by decide +kernel
theorem dX12_fails_9 : decode cX12_fails 9 = .ok (.iconst 1, 1) := by decide +kernel
theorem dX12_fails_10 : decode cX12_fails 10 = .ok (.goto 4, 3) := by decide +kernel
theorem dX12_fails_13 : decode cX12_fails 13 = .ok (.iconst 0, 1) := by decide +kernel
theorem dX12_fails_14 : decode cX12_fails 14 = .ok (.ireturn, 1) := by decide +kernel
theorem dX12_wrong_0 : decode cX12_wrong 0 = .ok (.aload_n 0, 1) := by decide +kernel
theorem dX12_wrong_1 : decode cX12_wrong 1 = .ok (.iload_n 1, 1) := by decide +kernel
theorem dX12_wrong_2 : decode cX12_wrong 2 = .ok (.putfield 7, 3) := by decide +kernel
theorem dX12_wrong_5 : decode cX12_wrong 5 = .ok (.aload_n 0, 1) := by decide +kernel
theorem dX12_wrong_6 : decode cX12_wrong 6 = .ok (.getfield 10, 3) := by decide +kernel
theorem dX12_wrong_9 : decode cX12_wrong 9 = .ok (.areturn, 1) := by decide +kernel
theorem dX12_byteAt_0 : decode cX12_byteAt 0 = .ok (.iload_n 1, 1) := by decide +kernel
theorem dX12_byteAt_1 : decode cX12_byteAt 1 = .ok (.aload_n 0, 1) := by decide +kernel
theorem dX12_byteAt_2 : decode cX12_byteAt 2 = .ok (.getfield 14, 3) := by decide +kernel
theorem dX12_byteAt_5 : decode cX12_byteAt 5 = .ok (.if_icmp .ge 12, 3) := by decide +kernel
theorem dX12_byteAt_8 : decode cX12_byteAt 8 = .ok (.aload_n 0, 1) := by decide +kernel
theorem dX12_byteAt_9 : decode cX12_byteAt 9 = .ok (.getfield 17, 3) := by decide +kernel
theorem dX12_byteAt_12 : decode cX12_byteAt 12 = .ok (.iload_n 1, 1) := by decide +kernel
theorem dX12_byteAt_13 : decode cX12_byteAt 13 = .ok (.baload, 1) := by decide +kernel
theorem dX12_byteAt_14 : decode cX12_byteAt 14 = .ok (.goto 4, 3) := by decide +kernel
theorem dX12_byteAt_17 : decode cX12_byteAt 17 = .ok (.iconst (-1), 1) := by decide +kernel
theorem dX12_byteAt_18 : decode cX12_byteAt 18 = .ok (.ireturn, 1) := by decide +kernel
theorem dX12_isLetter_0 : decode cX12_isLetter 0 = .ok (.iload_n 0, 1) := by decide +kernel
theorem dX12_isLetter_1 : decode cX12_isLetter 1 = .ok (.bipush 97, 2) := by decide +kernel
theorem dX12_isLetter_3 : decode cX12_isLetter 3 = .ok (.if_icmp .lt 9, 3) := by decide +kernel
theorem dX12_isLetter_6 : decode cX12_isLetter 6 = .ok (.iload_n 0, 1) := by decide +kernel
theorem dX12_isLetter_7 : decode cX12_isLetter 7 = .ok (.bipush 122, 2) := by decide +kernel
theorem dX12_isLetter_9 : decode cX12_isLetter 9 = .ok (.if_icmp .le 15, 3) := by decide +kernel
theorem dX12_isLetter_12 : decode cX12_isLetter 12 = .ok (.iload_n 0, 1) := by decide +kernel
theorem dX12_isLetter_13 : decode cX12_isLetter 13 = .ok (.bipush 65, 2) := by decide +kernel
theorem dX12_isLetter_15 : decode cX12_isLetter 15 = .ok (.if_icmp .lt 13, 3) := by decide +kernel
theorem dX12_isLetter_18 : decode cX12_isLetter 18 = .ok (.iload_n 0, 1) := by decide +kernel
theorem dX12_isLetter_19 : decode cX12_isLetter 19 = .ok (.bipush 90, 2) := by decide +kernel
theorem dX12_isLetter_21 : decode cX12_isLetter 21 = .ok (.if_icmp .gt 7, 3) := by decide +kernel
theorem dX12_isLetter_24 : decode cX12_isLetter 24 = .ok (.iconst 1, 1) := by decide +kernel
theorem dX12_isLetter_25 : decode cX12_isLetter 25 = .ok (.goto 4, 3) := by decide +kernel
theorem dX12_isLetter_28 : decode cX12_isLetter 28 = .ok (.iconst 0, 1) := by decide +kernel
theorem dX12_isLetter_29 : decode cX12_isLetter 29 = .ok (.ireturn, 1) := by decide +kernel
theorem dX12_isDigit_0 : decode cX12_isDigit 0 = .ok (.iload_n 0, 1) := by decide +kernel
theorem dX12_isDigit_1 : decode cX12_isDigit 1 = .ok (.bipush 48, 2) := by decide +kernel
theorem dX12_isDigit_3 : decode cX12_isDigit 3 = .ok (.if_icmp .lt 13, 3) := by decide +kernel
theorem dX12_isDigit_6 : decode cX12_isDigit 6 = .ok (.iload_n 0, 1) := by decide +kernel
theorem dX12_isDigit_7 : decode cX12_isDigit 7 = .ok (.bipush 57, 2) := by decide +kernel
theorem dX12_isDigit_9 : decode cX12_isDigit 9 = .ok (.if_icmp .gt 7, 3) := by decide +kernel
theorem dX12_isDigit_12 : decode cX12_isDigit 12 = .ok (.iconst 1, 1) := by decide +kernel
theorem dX12_isDigit_13 : decode cX12_isDigit 13 = .ok (.goto 4, 3) := by decide +kernel
theorem dX12_isDigit_16 : decode cX12_isDigit 16 = .ok (.iconst 0, 1) := by decide +kernel
theorem dX12_isDigit_17 : decode cX12_isDigit 17 = .ok (.ireturn, 1) := by decide +kernel
theorem dX12_isSign_0 : decode cX12_isSign 0 = .ok (.aload_n 0, 1) := by decide +kernel
theorem dX12_isSign_1 : decode cX12_isSign 1 = .ok (.getfield 42, 3) := by decide +kernel
theorem dX12_isSign_4 : decode cX12_isSign 4 = .ok (.iconst 5, 1) := by decide +kernel
theorem dX12_isSign_5 : decode cX12_isSign 5 = .ok (.if_icmp .ne 15, 3) := by decide +kernel
theorem dX12_isSign_8 : decode cX12_isSign 8 = .ok (.aload_n 0, 1) := by decide +kernel
theorem dX12_isSign_9 : decode cX12_isSign 9 = .ok (.getfield 49, 3) := by decide +kernel
theorem dX12_isSign_12 : decode cX12_isSign 12 = .ok (.iload_n 1, 1) := by decide +kernel
theorem dX12_isSign_13 : decode cX12_isSign 13 = .ok (.if_icmp .ne 7, 3) := by decide +kernel
theorem dX12_isSign_16 : decode cX12_isSign 16 = .ok (.iconst 1, 1) := by decide +kernel
theorem dX12_isSign_17 : decode cX12_isSign 17 = .ok (.goto 4, 3) := by decide +kernel
theorem dX12_isSign_20 : decode cX12_isSign 20 = .ok (.iconst 0, 1) := by decide +kernel
theorem dX12_isSign_21 : decode cX12_isSign 21 = .ok (.ireturn, 1) := by decide +kernel
theorem dX12_isWord_0 : decode cX12_isWord 0 = .ok (.aload_n 0, 1) := by decide +kernel
theorem dX12_isWord_1 : decode cX12_isWord 1 = .ok (.getfield 42, 3) := by decide +kernel
theorem dX12_isWord_4 : decode cX12_isWord 4 = .ok (.iconst 3, 1) := by decide +kernel
theorem dX12_isWord_5 : decode cX12_isWord 5 = .ok (.if_icmp .ne 15, 3) := by decide +kernel
theorem dX12_isWord_8 : decode cX12_isWord 8 = .ok (.aload_n 0, 1) := by decide +kernel
theorem dX12_isWord_9 : decode cX12_isWord 9 = .ok (.getfield 49, 3) := by decide +kernel
theorem dX12_isWord_12 : decode cX12_isWord 12 = .ok (.iload_n 1, 1) := by decide +kernel
theorem dX12_isWord_13 : decode cX12_isWord 13 = .ok (.if_icmp .ne 7, 3) := by decide +kernel
theorem dX12_isWord_16 : decode cX12_isWord 16 = .ok (.iconst 1, 1) := by decide +kernel
theorem dX12_isWord_17 : decode cX12_isWord 17 = .ok (.goto 4, 3) := by decide +kernel
theorem dX12_isWord_20 : decode cX12_isWord 20 = .ok (.iconst 0, 1) := by decide +kernel
theorem dX12_isWord_21 : decode cX12_isWord 21 = .ok (.ireturn, 1) := by decide +kernel
theorem dX12_make_0 : decode cX12_make 0 = .ok (.aload_n 0, 1) := by decide +kernel
theorem dX12_make_1 : decode cX12_make 1 = .ok (.getfield 74, 3) := by decide +kernel
theorem dX12_make_4 : decode cX12_make 4 = .ok (.iconst 3, 1) := by decide +kernel
theorem dX12_make_5 : decode cX12_make 5 = .ok (.aload_n 0, 1) := by decide +kernel
theorem dX12_make_6 : decode cX12_make 6 = .ok (.getfield 78, 3) := by decide +kernel
theorem dX12_make_9 : decode cX12_make 9 = .ok (.imul, 1) := by decide +kernel
theorem dX12_make_10 : decode cX12_make 10 = .ok (.iload_n 1, 1) := by decide +kernel
theorem dX12_make_11 : decode cX12_make 11 = .ok (.iastore, 1) := by decide +kernel
theorem dX12_make_12 : decode cX12_make 12 = .ok (.aload_n 0, 1) := by decide +kernel
theorem dX12_make_13 : decode cX12_make 13 = .ok (.getfield 74, 3) := by decide +kernel
theorem dX12_make_16 : decode cX12_make 16 = .ok (.iconst 3, 1) := by decide +kernel
theorem dX12_make_17 : decode cX12_make 17 = .ok (.aload_n 0, 1) := by decide +kernel
theorem dX12_make_18 : decode cX12_make 18 = .ok (.getfield 78, 3) := by decide +kernel
theorem dX12_make_21 : decode cX12_make 21 = .ok (.imul, 1) := by decide +kernel
theorem dX12_make_22 : decode cX12_make 22 = .ok (.iconst 1, 1) := by decide +kernel
theorem dX12_make_23 : decode cX12_make 23 = .ok (.iadd, 1) := by decide +kernel
theorem dX12_make_24 : decode cX12_make 24 = .ok (.iload_n 2, 1) := by decide +kernel
theorem dX12_make_25 : decode cX12_make 25 = .ok (.iastore, 1) := by decide +kernel
theorem dX12_make_26 : decode cX12_make 26 = .ok (.aload_n 0, 1) := by decide +kernel
theorem dX12_make_27 : decode cX12_make 27 = .ok (.getfield 74, 3) := by decide +kernel
theorem dX12_make_30 : decode cX12_make 30 = .ok (.iconst 3, 1) := by decide +kernel
theorem dX12_make_31 : decode cX12_make 31 = .ok (.aload_n 0, 1) := by decide +kernel
theorem dX12_make_32 : decode cX12_make 32 = .ok (.getfield 78, 3) := by decide +kernel
theorem dX12_make_35 : decode cX12_make 35 = .ok (.imul, 1) := by decide +kernel
theorem dX12_make_36 : decode cX12_make 36 = .ok (.iconst 2, 1) := by decide +kernel
theorem dX12_make_37 : decode cX12_make 37 = .ok (.iadd, 1) := by decide +kernel
theorem dX12_make_38 : decode cX12_make 38 = .ok (.iload_n 3, 1) := by decide +kernel
theorem dX12_make_39 : decode cX12_make 39 = .ok (.iastore, 1) := by decide +kernel
theorem dX12_make_40 : decode cX12_make 40 = .ok (.aload_n 0, 1) := by decide +kernel
theorem dX12_make_41 : decode cX12_make 41 = .ok (.dup, 1) := by decide +kernel
theorem dX12_make_42 : decode cX12_make 42 = .ok (.getfield 78, 3) := by decide +kernel
theorem dX12_make_45 : decode cX12_make 45 = .ok (.iconst 1, 1) := by decide +kernel
theorem dX12_make_46 : decode cX12_make 46 = .ok (.iadd, 1) := by decide +kernel
theorem dX12_make_47 : decode cX12_make 47 = .ok (.putfield 78, 3) := by decide +kernel
theorem dX12_make_50 : decode cX12_make 50 = .ok (.aload_n 0, 1) := by decide +kernel
theorem dX12_make_51 : decode cX12_make 51 = .ok (.getfield 78, 3) := by decide +kernel
theorem dX12_make_54 : decode cX12_make 54 = .ok (.iconst 1, 1) := by decide +kernel
theorem dX12_make_55 : decode cX12_make 55 = .ok (.isub, 1) := by decide +kernel
theorem dX12_make_56 : decode cX12_make 56 = .ok (.ireturn, 1) := by decide +kernel
theorem dX12_past_0 : decode cX12_past 0 = .ok (.aload_n 0, 1) := by decide +kernel
theorem dX12_past_1 : decode cX12_past 1 = .ok (.getfield 154, 3) := by decide +kernel
theorem dX12_past_4 : decode cX12_past 4 = .ok (.iload_n 1, 1) := by decide +kernel
theorem dX12_past_5 : decode cX12_past 5 = .ok (.iaload, 1) := by decide +kernel
theorem dX12_past_6 : decode cX12_past 6 = .ok (.istore_n 3, 1) := by decide +kernel
theorem dX12_past_7 : decode cX12_past 7 = .ok (.iload_n 3, 1) := by decide +kernel
theorem dX12_past_8 : decode cX12_past 8 = .ok (.ifCond .lt 23, 3) := by decide +kernel
theorem dX12_past_11 : decode cX12_past 11 = .ok (.aload_n 0, 1) := by decide +kernel
theorem dX12_past_12 : decode cX12_past 12 = .ok (.getfield 135, 3) := by decide +kernel
theorem dX12_past_15 : decode cX12_past 15 = .ok (.iload_n 3, 1) := by decide +kernel
theorem dX12_past_16 : decode cX12_past 16 = .ok (.iaload, 1) := by decide +kernel
theorem dX12_past_17 : decode cX12_past 17 = .ok (.iload_n 2, 1) := by decide +kernel
theorem dX12_past_18 : decode cX12_past 18 = .ok (.if_icmp .le 13, 3) := by decide +kernel
theorem dX12_past_21 : decode cX12_past 21 = .ok (.aload_n 0, 1) := by decide +kernel
theorem dX12_past_22 : decode cX12_past 22 = .ok (.getfield 145, 3) := by decide +kernel
theorem dX12_past_25 : decode cX12_past 25 = .ok (.iload_n 3, 1) := by decide +kernel
theorem dX12_past_26 : decode cX12_past 26 = .ok (.iaload, 1) := by decide +kernel
theorem dX12_past_27 : decode cX12_past 27 = .ok (.istore_n 3, 1) := by decide +kernel
theorem dX12_past_28 : decode cX12_past 28 = .ok (.goto (-21), 3) := by decide +kernel
theorem dX12_past_31 : decode cX12_past 31 = .ok (.iload_n 3, 1) := by decide +kernel
theorem dX12_past_32 : decode cX12_past 32 = .ok (.ifCond .ge 7, 3) := by decide +kernel
theorem dX12_past_35 : decode cX12_past 35 = .ok (.iconst 0, 1) := by decide +kernel
theorem dX12_past_36 : decode cX12_past 36 = .ok (.goto 9, 3) := by decide +kernel
theorem dX12_past_39 : decode cX12_past 39 = .ok (.aload_n 0, 1) := by decide +kernel
theorem dX12_past_40 : decode cX12_past 40 = .ok (.getfield 142, 3) := by decide +kernel
theorem dX12_past_43 : decode cX12_past 43 = .ok (.iload_n 3, 1) := by decide +kernel
theorem dX12_past_44 : decode cX12_past 44 = .ok (.iaload, 1) := by decide +kernel
theorem dX12_past_45 : decode cX12_past 45 = .ok (.ireturn, 1) := by decide +kernel
theorem dX12_level_0 : decode cX12_level 0 = .ok (.iload_n 1, 1) := by decide +kernel
theorem dX12_level_1 : decode cX12_level 1 = .ok (.bipush 12, 2) := by decide +kernel
theorem dX12_level_3 : decode cX12_level 3 = .ok (.imul, 1) := by decide +kernel
theorem dX12_level_4 : decode cX12_level 4 = .ok (.iload_n 2, 1) := by decide +kernel
theorem dX12_level_5 : decode cX12_level 5 = .ok (.iadd, 1) := by decide +kernel
theorem dX12_level_6 : decode cX12_level 6 = .ok (.ireturn, 1) := by decide +kernel
theorem dX12_cell_0 : decode cX12_cell 0 = .ok (.iload_n 1, 1) := by decide +kernel
theorem dX12_cell_1 : decode cX12_cell 1 = .ok (.bipush 12, 2) := by decide +kernel
theorem dX12_cell_3 : decode cX12_cell 3 = .ok (.imul, 1) := by decide +kernel
theorem dX12_cell_4 : decode cX12_cell 4 = .ok (.iload_n 2, 1) := by decide +kernel
theorem dX12_cell_5 : decode cX12_cell 5 = .ok (.iadd, 1) := by decide +kernel
theorem dX12_cell_6 : decode cX12_cell 6 = .ok (.bipush 26, 2) := by decide +kernel
theorem dX12_cell_8 : decode cX12_cell 8 = .ok (.imul, 1) := by decide +kernel
theorem dX12_cell_9 : decode cX12_cell 9 = .ok (.iload_n 3, 1) := by decide +kernel
theorem dX12_cell_10 : decode cX12_cell 10 = .ok (.iadd, 1) := by decide +kernel
theorem dX12_cell_11 : decode cX12_cell 11 = .ok (.ireturn, 1) := by decide +kernel
theorem dX12_clearLevel_0 : decode cX12_clearLevel 0 = .ok (.iconst 0, 1) := by decide +kernel
theorem dX12_clearLevel_1 : decode cX12_clearLevel 1 = .ok (.istore_n 3, 1) := by decide +kernel
theorem dX12_clearLevel_2 : decode cX12_clearLevel 2 = .ok (.iload_n 3, 1) := by decide +kernel
theorem dX12_clearLevel_3 : decode cX12_clearLevel 3 = .ok (.bipush 26, 2) := by decide +kernel
theorem dX12_clearLevel_5 : decode cX12_clearLevel 5 = .ok (.if_icmp .ge 35, 3) := by decide +kernel
theorem dX12_clearLevel_8 : decode cX12_clearLevel 8 = .ok (.aload_n 0, 1) := by decide +kernel
theorem dX12_clearLevel_9 : decode cX12_clearLevel 9 = .ok (.getfield 266, 3) := by decide +kernel
theorem dX12_clearLevel_12 : decode cX12_clearLevel 12 = .ok (.aload_n 0, 1) := by decide +kernel
theorem dX12_clearLevel_13 : decode cX12_clearLevel 13 = .ok (.iload_n 1, 1) := by decide +kernel
theorem dX12_clearLevel_14 : decode cX12_clearLevel 14 = .ok (.iload_n 2, 1) := by decide +kernel
theorem dX12_clearLevel_15 : decode cX12_clearLevel 15 = .ok (.iload_n 3, 1) := by decide +kernel
theorem dX12_clearLevel_16 : decode cX12_clearLevel 16 = .ok (.invokevirtual 357, 3) := by decide +kernel
theorem dX12_clearLevel_19 : decode cX12_clearLevel 19 = .ok (.iconst 0, 1) := by decide +kernel
theorem dX12_clearLevel_20 : decode cX12_clearLevel 20 = .ok (.bastore, 1) := by decide +kernel
theorem dX12_clearLevel_21 : decode cX12_clearLevel 21 = .ok (.aload_n 0, 1) := by decide +kernel
theorem dX12_clearLevel_22 : decode cX12_clearLevel 22 = .ok (.getfield 269, 3) := by decide +kernel
theorem dX12_clearLevel_25 : decode cX12_clearLevel 25 = .ok (.aload_n 0, 1) := by decide +kernel
theorem dX12_clearLevel_26 : decode cX12_clearLevel 26 = .ok (.iload_n 1, 1) := by decide +kernel
theorem dX12_clearLevel_27 : decode cX12_clearLevel 27 = .ok (.iload_n 2, 1) := by decide +kernel
theorem dX12_clearLevel_28 : decode cX12_clearLevel 28 = .ok (.iload_n 3, 1) := by decide +kernel
theorem dX12_clearLevel_29 : decode cX12_clearLevel 29 = .ok (.invokevirtual 357, 3) := by decide +kernel
theorem dX12_clearLevel_32 : decode cX12_clearLevel 32 = .ok (.iconst 0, 1) := by decide +kernel
theorem dX12_clearLevel_33 : decode cX12_clearLevel 33 = .ok (.bastore, 1) := by decide +kernel
theorem dX12_clearLevel_34 : decode cX12_clearLevel 34 = .ok (.iinc 3 1, 3) := by decide +kernel
theorem dX12_clearLevel_37 : decode cX12_clearLevel 37 = .ok (.goto (-35), 3) := by decide +kernel
theorem dX12_clearLevel_40 : decode cX12_clearLevel 40 = .ok (.aload_n 0, 1) := by decide +kernel
theorem dX12_clearLevel_41 : decode cX12_clearLevel 41 = .ok (.getfield 287, 3) := by decide +kernel
theorem dX12_clearLevel_44 : decode cX12_clearLevel 44 = .ok (.aload_n 0, 1) := by decide +kernel
theorem dX12_clearLevel_45 : decode cX12_clearLevel 45 = .ok (.iload_n 1, 1) := by decide +kernel
theorem dX12_clearLevel_46 : decode cX12_clearLevel 46 = .ok (.iload_n 2, 1) := by decide +kernel
theorem dX12_clearLevel_47 : decode cX12_clearLevel 47 = .ok (.invokevirtual 360, 3) := by decide +kernel
theorem dX12_clearLevel_50 : decode cX12_clearLevel 50 = .ok (.iconst 0, 1) := by decide +kernel
theorem dX12_clearLevel_51 : decode cX12_clearLevel 51 = .ok (.iastore, 1) := by decide +kernel
theorem dX12_clearLevel_52 : decode cX12_clearLevel 52 = .ok (.return_, 1) := by decide +kernel
theorem dX12_keepRegisters_0 : decode cX12_keepRegisters 0 = .ok (.iconst 0, 1) := by decide +kernel
theorem dX12_keepRegisters_1 : decode cX12_keepRegisters 1 = .ok (.istore_n 3, 1) := by decide +kernel
theorem dX12_keepRegisters_2 : decode cX12_keepRegisters 2 = .ok (.iload_n 3, 1) := by decide +kernel
theorem dX12_keepRegisters_3 : decode cX12_keepRegisters 3 = .ok (.bipush 26, 2) := by decide +kernel
theorem dX12_keepRegisters_5 : decode cX12_keepRegisters 5 = .ok (.if_icmp .ge 32, 3) := by decide +kernel
theorem dX12_keepRegisters_8 : decode cX12_keepRegisters 8 = .ok (.aload_n 0, 1) := by decide +kernel
theorem dX12_keepRegisters_9 : decode cX12_keepRegisters 9 = .ok (.getfield 259, 3) := by decide +kernel
theorem dX12_keepRegisters_12 : decode cX12_keepRegisters 12 = .ok (.aload_n 0, 1) := by decide +kernel
theorem dX12_keepRegisters_13 : decode cX12_keepRegisters 13 = .ok (.iload_n 1, 1) := by decide +kernel
theorem dX12_keepRegisters_14 : decode cX12_keepRegisters 14 = .ok (.iload_n 2, 1) := by decide +kernel
theorem dX12_keepRegisters_15 : decode cX12_keepRegisters 15 = .ok (.iload_n 3, 1) := by decide +kernel
theorem dX12_keepRegisters_16 : decode cX12_keepRegisters 16 = .ok (.invokevirtual 357, 3) := by decide +kernel
theorem dX12_keepRegisters_19 : decode cX12_keepRegisters 19 = .ok (.aload_n 0, 1) := by decide +kernel
theorem dX12_keepRegisters_20 : decode cX12_keepRegisters 20 = .ok (.getfield 193, 3) := by decide +kernel
theorem dX12_keepRegisters_23 : decode cX12_keepRegisters 23 = .ok (.iload_n 1, 1) := by decide +kernel
theorem dX12_keepRegisters_24 : decode cX12_keepRegisters 24 = .ok (.bipush 26, 2) := by decide +kernel
theorem dX12_keepRegisters_26 : decode cX12_keepRegisters 26 = .ok (.imul, 1) := by decide +kernel
theorem dX12_keepRegisters_27 : decode cX12_keepRegisters 27 = .ok (.iload_n 3, 1) := by decide +kernel
theorem dX12_keepRegisters_28 : decode cX12_keepRegisters 28 = .ok (.iadd, 1) := by decide +kernel
theorem dX12_keepRegisters_29 : decode cX12_keepRegisters 29 = .ok (.iaload, 1) := by decide +kernel
theorem dX12_keepRegisters_30 : decode cX12_keepRegisters 30 = .ok (.iastore, 1) := by decide +kernel
theorem dX12_keepRegisters_31 : decode cX12_keepRegisters 31 = .ok (.iinc 3 1, 3) := by decide +kernel
theorem dX12_keepRegisters_34 : decode cX12_keepRegisters 34 = .ok (.goto (-32), 3) := by decide +kernel
theorem dX12_keepRegisters_37 : decode cX12_keepRegisters 37 = .ok (.return_, 1) := by decide +kernel
theorem dX12_openLevel_0 : decode cX12_openLevel 0 = .ok (.aload_n 0, 1) := by decide +kernel
theorem dX12_openLevel_1 : decode cX12_openLevel 1 = .ok (.getfield 202, 3) := by decide +kernel
theorem dX12_openLevel_4 : decode cX12_openLevel 4 = .ok (.iload_n 1, 1) := by decide +kernel
theorem dX12_openLevel_5 : decode cX12_openLevel 5 = .ok (.iaload, 1) := by decide +kernel
theorem dX12_openLevel_6 : decode cX12_openLevel 6 = .ok (.istore 4, 2) := by decide +kernel
theorem dX12_openLevel_8 : decode cX12_openLevel 8 = .ok (.aload_n 0, 1) := by decide +kernel
theorem dX12_openLevel_9 : decode cX12_openLevel 9 = .ok (.iload_n 1, 1) := by decide +kernel
theorem dX12_openLevel_10 : decode cX12_openLevel 10 = .ok (.iload 4, 2) := by decide +kernel
theorem dX12_openLevel_12 : decode cX12_openLevel 12 = .ok (.invokevirtual 353, 3) := by decide +kernel
theorem dX12_openLevel_15 : decode cX12_openLevel 15 = .ok (.aload_n 0, 1) := by decide +kernel
theorem dX12_openLevel_16 : decode cX12_openLevel 16 = .ok (.iload_n 1, 1) := by decide +kernel
theorem dX12_openLevel_17 : decode cX12_openLevel 17 = .ok (.iload 4, 2) := by decide +kernel
theorem dX12_openLevel_19 : decode cX12_openLevel 19 = .ok (.invokevirtual 360, 3) := by decide +kernel
theorem dX12_openLevel_22 : decode cX12_openLevel 22 = .ok (.istore 5, 2) := by decide +kernel
theorem dX12_openLevel_24 : decode cX12_openLevel 24 = .ok (.aload_n 0, 1) := by decide +kernel
theorem dX12_openLevel_25 : decode cX12_openLevel 25 = .ok (.getfield 244, 3) := by decide +kernel
theorem dX12_openLevel_28 : decode cX12_openLevel 28 = .ok (.iload 5, 2) := by decide +kernel
theorem dX12_openLevel_30 : decode cX12_openLevel 30 = .ok (.aload_n 0, 1) := by decide +kernel
theorem dX12_openLevel_31 : decode cX12_openLevel 31 = .ok (.getfield 190, 3) := by decide +kernel
theorem dX12_openLevel_34 : decode cX12_openLevel 34 = .ok (.iload_n 1, 1) := by decide +kernel
theorem dX12_openLevel_35 : decode cX12_openLevel 35 = .ok (.iaload, 1) := by decide +kernel
theorem dX12_openLevel_36 : decode cX12_openLevel 36 = .ok (.iastore, 1) := by decide +kernel
theorem dX12_openLevel_37 : decode cX12_openLevel 37 = .ok (.aload_n 0, 1) := by decide +kernel
theorem dX12_openLevel_38 : decode cX12_openLevel 38 = .ok (.getfield 247, 3) := by decide +kernel
theorem dX12_openLevel_41 : decode cX12_openLevel 41 = .ok (.iload 5, 2) := by decide +kernel
theorem dX12_openLevel_43 : decode cX12_openLevel 43 = .ok (.iload_n 2, 1) := by decide +kernel
theorem dX12_openLevel_44 : decode cX12_openLevel 44 = .ok (.iastore, 1) := by decide +kernel
theorem dX12_openLevel_45 : decode cX12_openLevel 45 = .ok (.aload_n 0, 1) := by decide +kernel
theorem dX12_openLevel_46 : decode cX12_openLevel 46 = .ok (.getfield 250, 3) := by decide +kernel
theorem dX12_openLevel_49 : decode cX12_openLevel 49 = .ok (.iload 5, 2) := by decide +kernel
theorem dX12_openLevel_51 : decode cX12_openLevel 51 = .ok (.iload_n 3, 1) := by decide +kernel
theorem dX12_openLevel_52 : decode cX12_openLevel 52 = .ok (.iastore, 1) := by decide +kernel
theorem dX12_openLevel_53 : decode cX12_openLevel 53 = .ok (.aload_n 0, 1) := by decide +kernel
theorem dX12_openLevel_54 : decode cX12_openLevel 54 = .ok (.getfield 262, 3) := by decide +kernel
theorem dX12_openLevel_57 : decode cX12_openLevel 57 = .ok (.iload 5, 2) := by decide +kernel
theorem dX12_openLevel_59 : decode cX12_openLevel 59 = .ok (.iconst 0, 1) := by decide +kernel
theorem dX12_openLevel_60 : decode cX12_openLevel 60 = .ok (.bastore, 1) := by decide +kernel
theorem dX12_openLevel_61 : decode cX12_openLevel 61 = .ok (.aload_n 0, 1) := by decide +kernel
theorem dX12_openLevel_62 : decode cX12_openLevel 62 = .ok (.getfield 253, 3) := by decide +kernel
theorem dX12_openLevel_65 : decode cX12_openLevel 65 = .ok (.iload 5, 2) := by decide +kernel
theorem dX12_openLevel_67 : decode cX12_openLevel 67 = .ok (.aload_n 0, 1) := by decide +kernel
theorem dX12_openLevel_68 : decode cX12_openLevel 68 = .ok (.getfield 205, 3) := by decide +kernel
theorem dX12_openLevel_71 : decode cX12_openLevel 71 = .ok (.iload_n 1, 1) := by decide +kernel
theorem dX12_openLevel_72 : decode cX12_openLevel 72 = .ok (.iaload, 1) := by decide +kernel
theorem dX12_openLevel_73 : decode cX12_openLevel 73 = .ok (.iastore, 1) := by decide +kernel
theorem dX12_openLevel_74 : decode cX12_openLevel 74 = .ok (.aload_n 0, 1) := by decide +kernel
theorem dX12_openLevel_75 : decode cX12_openLevel 75 = .ok (.getfield 256, 3) := by decide +kernel
theorem dX12_openLevel_78 : decode cX12_openLevel 78 = .ok (.iload 5, 2) := by decide +kernel
theorem dX12_openLevel_80 : decode cX12_openLevel 80 = .ok (.aload_n 0, 1) := by decide +kernel
theorem dX12_openLevel_81 : decode cX12_openLevel 81 = .ok (.getfield 208, 3) := by decide +kernel
theorem dX12_openLevel_84 : decode cX12_openLevel 84 = .ok (.iload_n 1, 1) := by decide +kernel
theorem dX12_openLevel_85 : decode cX12_openLevel 85 = .ok (.iaload, 1) := by decide +kernel
theorem dX12_openLevel_86 : decode cX12_openLevel 86 = .ok (.iastore, 1) := by decide +kernel
theorem dX12_openLevel_87 : decode cX12_openLevel 87 = .ok (.aload_n 0, 1) := by decide +kernel
theorem dX12_openLevel_88 : decode cX12_openLevel 88 = .ok (.iload_n 1, 1) := by decide +kernel
theorem dX12_openLevel_89 : decode cX12_openLevel 89 = .ok (.iload 4, 2) := by decide +kernel
theorem dX12_openLevel_91 : decode cX12_openLevel 91 = .ok (.invokevirtual 363, 3) := by decide +kernel
theorem dX12_openLevel_94 : decode cX12_openLevel 94 = .ok (.aload_n 0, 1) := by decide +kernel
theorem dX12_openLevel_95 : decode cX12_openLevel 95 = .ok (.getfield 202, 3) := by decide +kernel
theorem dX12_openLevel_98 : decode cX12_openLevel 98 = .ok (.iload_n 1, 1) := by decide +kernel
theorem dX12_openLevel_99 : decode cX12_openLevel 99 = .ok (.dup2, 1) := by decide +kernel
theorem dX12_openLevel_100 : decode cX12_openLevel 100 = .ok (.iaload, 1) := by decide +kernel
theorem dX12_openLevel_101 : decode cX12_openLevel 101 = .ok (.iconst 1, 1) := by decide +kernel
theorem dX12_openLevel_102 : decode cX12_openLevel 102 = .ok (.iadd, 1) := by decide +kernel
theorem dX12_openLevel_103 : decode cX12_openLevel 103 = .ok (.iastore, 1) := by decide +kernel
theorem dX12_openLevel_104 : decode cX12_openLevel 104 = .ok (.return_, 1) := by decide +kernel
theorem dX12_isEager_0 : decode cX12_isEager 0 = .ok (.aload_n 0, 1) := by decide +kernel
theorem dX12_isEager_1 : decode cX12_isEager 1 = .ok (.getfield 332, 3) := by decide +kernel
theorem dX12_isEager_4 : decode cX12_isEager 4 = .ok (.iconst 3, 1) := by decide +kernel
theorem dX12_isEager_5 : decode cX12_isEager 5 = .ok (.if_icmp .eq 11, 3) := by decide +kernel
theorem dX12_isEager_8 : decode cX12_isEager 8 = .ok (.aload_n 0, 1) := by decide +kernel
theorem dX12_isEager_9 : decode cX12_isEager 9 = .ok (.getfield 332, 3) := by decide +kernel
theorem dX12_isEager_12 : decode cX12_isEager 12 = .ok (.iconst 4, 1) := by decide +kernel
theorem dX12_isEager_13 : decode cX12_isEager 13 = .ok (.if_icmp .ne 7, 3) := by decide +kernel
theorem dX12_isEager_16 : decode cX12_isEager 16 = .ok (.iconst 1, 1) := by decide +kernel
theorem dX12_isEager_17 : decode cX12_isEager 17 = .ok (.goto 4, 3) := by decide +kernel
theorem dX12_isEager_20 : decode cX12_isEager 20 = .ok (.iconst 0, 1) := by decide +kernel
theorem dX12_isEager_21 : decode cX12_isEager 21 = .ok (.ireturn, 1) := by decide +kernel
theorem dX12_giveReads_0 : decode cX12_giveReads 0 = .ok (.iload_n 2, 1) := by decide +kernel
theorem dX12_giveReads_1 : decode cX12_giveReads 1 = .ok (.ifCond .ne 4, 3) := by decide +kernel
theorem dX12_giveReads_4 : decode cX12_giveReads 4 = .ok (.return_, 1) := by decide +kernel
theorem dX12_giveReads_5 : decode cX12_giveReads 5 = .ok (.iconst (-1), 1) := by decide +kernel
theorem dX12_giveReads_6 : decode cX12_giveReads 6 = .ok (.istore_n 3, 1) := by decide +kernel
theorem dX12_giveReads_7 : decode cX12_giveReads 7 = .ok (.iconst 0, 1) := by decide +kernel
theorem dX12_giveReads_8 : decode cX12_giveReads 8 = .ok (.istore 4, 2) := by decide +kernel
theorem dX12_giveReads_10 : decode cX12_giveReads 10 = .ok (.iload 4, 2) := by decide +kernel
theorem dX12_giveReads_12 : decode cX12_giveReads 12 = .ok (.bipush 26, 2) := by decide +kernel
theorem dX12_giveReads_14 : decode cX12_giveReads 14 = .ok (.if_icmp .ge 60, 3) := by decide +kernel
theorem dX12_giveReads_17 : decode cX12_giveReads 17 = .ok (.aload_n 0, 1) := by decide +kernel
theorem dX12_giveReads_18 : decode cX12_giveReads 18 = .ok (.getfield 266, 3) := by decide +kernel
theorem dX12_giveReads_21 : decode cX12_giveReads 21 = .ok (.aload_n 0, 1) := by decide +kernel
theorem dX12_giveReads_22 : decode cX12_giveReads 22 = .ok (.iload_n 1, 1) := by decide +kernel
theorem dX12_giveReads_23 : decode cX12_giveReads 23 = .ok (.iload_n 2, 1) := by decide +kernel
theorem dX12_giveReads_24 : decode cX12_giveReads 24 = .ok (.iload 4, 2) := by decide +kernel
theorem dX12_giveReads_26 : decode cX12_giveReads 26 = .ok (.invokevirtual 357, 3) := by decide +kernel
theorem dX12_giveReads_29 : decode cX12_giveReads 29 = .ok (.baload, 1) := by decide +kernel
theorem dX12_giveReads_30 : decode cX12_giveReads 30 = .ok (.ifCond .eq 38, 3) := by decide +kernel
theorem dX12_giveReads_33 : decode cX12_giveReads 33 = .ok (.iload_n 3, 1) := by decide +kernel
theorem dX12_giveReads_34 : decode cX12_giveReads 34 = .ok (.ifCond .lt 31, 3) := by decide +kernel
theorem dX12_giveReads_37 : decode cX12_giveReads 37 = .ok (.aload_n 0, 1) := by decide +kernel
theorem dX12_giveReads_38 : decode cX12_giveReads 38 = .ok (.getfield 278, 3) := by decide +kernel
theorem dX12_giveReads_41 : decode cX12_giveReads 41 = .ok (.aload_n 0, 1) := by decide +kernel
theorem dX12_giveReads_42 : decode cX12_giveReads 42 = .ok (.iload_n 1, 1) := by decide +kernel
theorem dX12_giveReads_43 : decode cX12_giveReads 43 = .ok (.iload_n 2, 1) := by decide +kernel
theorem dX12_giveReads_44 : decode cX12_giveReads 44 = .ok (.iload 4, 2) := by decide +kernel
theorem dX12_giveReads_46 : decode cX12_giveReads 46 = .ok (.invokevirtual 357, 3) := by decide +kernel
theorem dX12_giveReads_49 : decode cX12_giveReads 49 = .ok (.iaload, 1) := by decide +kernel
theorem dX12_giveReads_50 : decode cX12_giveReads 50 = .ok (.aload_n 0, 1) := by decide +kernel
theorem dX12_giveReads_51 : decode cX12_giveReads 51 = .ok (.getfield 278, 3) := by decide +kernel
theorem dX12_giveReads_54 : decode cX12_giveReads 54 = .ok (.aload_n 0, 1) := by decide +kernel
theorem dX12_giveReads_55 : decode cX12_giveReads 55 = .ok (.iload_n 1, 1) := by decide +kernel
theorem dX12_giveReads_56 : decode cX12_giveReads 56 = .ok (.iload_n 2, 1) := by decide +kernel
theorem dX12_giveReads_57 : decode cX12_giveReads 57 = .ok (.iload_n 3, 1) := by decide +kernel
theorem dX12_giveReads_58 : decode cX12_giveReads 58 = .ok (.invokevirtual 357, 3) := by decide +kernel
theorem dX12_giveReads_61 : decode cX12_giveReads 61 = .ok (.iaload, 1) := by decide +kernel
theorem dX12_giveReads_62 : decode cX12_giveReads 62 = .ok (.if_icmp .ge 6, 3) := by decide +kernel
theorem dX12_giveReads_65 : decode cX12_giveReads 65 = .ok (.iload 4, 2) := by decide +kernel
theorem dX12_giveReads_67 : decode cX12_giveReads 67 = .ok (.istore_n 3, 1) := by decide +kernel
theorem dX12_giveReads_68 : decode cX12_giveReads 68 = .ok (.iinc 4 1, 3) := by decide +kernel
theorem dX12_giveReads_71 : decode cX12_giveReads 71 = .ok (.goto (-61), 3) := by decide +kernel
theorem dX12_giveReads_74 : decode cX12_giveReads 74 = .ok (.iload_n 3, 1) := by decide +kernel
theorem dX12_giveReads_75 : decode cX12_giveReads 75 = .ok (.ifCond .ge 4, 3) := by decide +kernel
theorem dX12_giveReads_78 : decode cX12_giveReads 78 = .ok (.return_, 1) := by decide +kernel
theorem dX12_giveReads_79 : decode cX12_giveReads 79 = .ok (.aload_n 0, 1) := by decide +kernel
theorem dX12_giveReads_80 : decode cX12_giveReads 80 = .ok (.iload_n 1, 1) := by decide +kernel
theorem dX12_giveReads_81 : decode cX12_giveReads 81 = .ok (.iload_n 2, 1) := by decide +kernel
theorem dX12_giveReads_82 : decode cX12_giveReads 82 = .ok (.iload_n 3, 1) := by decide +kernel
theorem dX12_giveReads_83 : decode cX12_giveReads 83 = .ok (.invokevirtual 357, 3) := by decide +kernel
theorem dX12_giveReads_86 : decode cX12_giveReads 86 = .ok (.istore 4, 2) := by decide +kernel
theorem dX12_giveReads_88 : decode cX12_giveReads 88 = .ok (.aload_n 0, 1) := by decide +kernel
theorem dX12_giveReads_89 : decode cX12_giveReads 89 = .ok (.iload_n 1, 1) := by decide +kernel
theorem dX12_giveReads_90 : decode cX12_giveReads 90 = .ok (.iload_n 2, 1) := by decide +kernel
theorem dX12_giveReads_91 : decode cX12_giveReads 91 = .ok (.iconst 1, 1) := by decide +kernel
theorem dX12_giveReads_92 : decode cX12_giveReads 92 = .ok (.isub, 1) := by decide +kernel
theorem dX12_giveReads_93 : decode cX12_giveReads 93 = .ok (.iload_n 3, 1) := by decide +kernel
theorem dX12_giveReads_94 : decode cX12_giveReads 94 = .ok (.invokevirtual 357, 3) := by decide +kernel
theorem dX12_giveReads_97 : decode cX12_giveReads 97 = .ok (.istore 5, 2) := by decide +kernel
theorem dX12_giveReads_99 : decode cX12_giveReads 99 = .ok (.aload_n 0, 1) := by decide +kernel
theorem dX12_giveReads_100 : decode cX12_giveReads 100 = .ok (.getfield 266, 3) := by decide +kernel
theorem dX12_giveReads_103 : decode cX12_giveReads 103 = .ok (.iload 4, 2) := by decide +kernel
theorem dX12_giveReads_105 : decode cX12_giveReads 105 = .ok (.iconst 0, 1) := by decide +kernel
theorem dX12_giveReads_106 : decode cX12_giveReads 106 = .ok (.bastore, 1) := by decide +kernel
theorem dX12_giveReads_107 : decode cX12_giveReads 107 = .ok (.aload_n 0, 1) := by decide +kernel
theorem dX12_giveReads_108 : decode cX12_giveReads 108 = .ok (.getfield 266, 3) := by decide +kernel
theorem dX12_giveReads_111 : decode cX12_giveReads 111 = .ok (.iload 5, 2) := by decide +kernel
theorem dX12_giveReads_113 : decode cX12_giveReads 113 = .ok (.baload, 1) := by decide +kernel
theorem dX12_giveReads_114 : decode cX12_giveReads 114 = .ok (.ifCond .eq 6, 3) := by decide +kernel
theorem dX12_giveReads_117 : decode cX12_giveReads 117 = .ok (.goto (-112), 3) := by decide +kernel
theorem dX12_giveReads_120 : decode cX12_giveReads 120 = .ok (.aload_n 0, 1) := by decide +kernel
theorem dX12_giveReads_121 : decode cX12_giveReads 121 = .ok (.getfield 266, 3) := by decide +kernel
theorem dX12_giveReads_124 : decode cX12_giveReads 124 = .ok (.iload 5, 2) := by decide +kernel
theorem dX12_giveReads_126 : decode cX12_giveReads 126 = .ok (.iconst 1, 1) := by decide +kernel
theorem dX12_giveReads_127 : decode cX12_giveReads 127 = .ok (.bastore, 1) := by decide +kernel
theorem dX12_giveReads_128 : decode cX12_giveReads 128 = .ok (.aload_n 0, 1) := by decide +kernel
theorem dX12_giveReads_129 : decode cX12_giveReads 129 = .ok (.getfield 272, 3) := by decide +kernel
theorem dX12_giveReads_132 : decode cX12_giveReads 132 = .ok (.iload 5, 2) := by decide +kernel
theorem dX12_giveReads_134 : decode cX12_giveReads 134 = .ok (.aload_n 0, 1) := by decide +kernel
theorem dX12_giveReads_135 : decode cX12_giveReads 135 = .ok (.getfield 272, 3) := by decide +kernel
theorem dX12_giveReads_138 : decode cX12_giveReads 138 = .ok (.iload 4, 2) := by decide +kernel
theorem dX12_giveReads_140 : decode cX12_giveReads 140 = .ok (.iaload, 1) := by decide +kernel
theorem dX12_giveReads_141 : decode cX12_giveReads 141 = .ok (.iastore, 1) := by decide +kernel
theorem dX12_giveReads_142 : decode cX12_giveReads 142 = .ok (.aload_n 0, 1) := by decide +kernel
theorem dX12_giveReads_143 : decode cX12_giveReads 143 = .ok (.getfield 275, 3) := by decide +kernel
theorem dX12_giveReads_146 : decode cX12_giveReads 146 = .ok (.iload 5, 2) := by decide +kernel
theorem dX12_giveReads_148 : decode cX12_giveReads 148 = .ok (.aload_n 0, 1) := by decide +kernel
theorem dX12_giveReads_149 : decode cX12_giveReads 149 = .ok (.getfield 275, 3) := by decide +kernel
theorem dX12_giveReads_152 : decode cX12_giveReads 152 = .ok (.iload 4, 2) := by decide +kernel
theorem dX12_giveReads_154 : decode cX12_giveReads 154 = .ok (.iaload, 1) := by decide +kernel
theorem dX12_giveReads_155 : decode cX12_giveReads 155 = .ok (.iastore, 1) := by decide +kernel
theorem dX12_giveReads_156 : decode cX12_giveReads 156 = .ok (.aload_n 0, 1) := by decide +kernel
theorem dX12_giveReads_157 : decode cX12_giveReads 157 = .ok (.getfield 278, 3) := by decide +kernel
theorem dX12_giveReads_160 : decode cX12_giveReads 160 = .ok (.iload 5, 2) := by decide +kernel
theorem dX12_giveReads_162 : decode cX12_giveReads 162 = .ok (.aload_n 0, 1) := by decide +kernel
theorem dX12_giveReads_163 : decode cX12_giveReads 163 = .ok (.getfield 366, 3) := by decide +kernel
theorem dX12_giveReads_166 : decode cX12_giveReads 166 = .ok (.iastore, 1) := by decide +kernel
theorem dX12_giveReads_167 : decode cX12_giveReads 167 = .ok (.aload_n 0, 1) := by decide +kernel
theorem dX12_giveReads_168 : decode cX12_giveReads 168 = .ok (.dup, 1) := by decide +kernel
theorem dX12_giveReads_169 : decode cX12_giveReads 169 = .ok (.getfield 366, 3) := by decide +kernel
theorem dX12_giveReads_172 : decode cX12_giveReads 172 = .ok (.iconst 1, 1) := by decide +kernel
theorem dX12_giveReads_173 : decode cX12_giveReads 173 = .ok (.iadd, 1) := by decide +kernel
theorem dX12_giveReads_174 : decode cX12_giveReads 174 = .ok (.putfield 366, 3) := by decide +kernel
theorem dX12_giveReads_177 : decode cX12_giveReads 177 = .ok (.goto (-172), 3) := by decide +kernel
theorem dX12_dropReads_0 : decode cX12_dropReads 0 = .ok (.iconst 0, 1) := by decide +kernel
theorem dX12_dropReads_1 : decode cX12_dropReads 1 = .ok (.istore_n 3, 1) := by decide +kernel
theorem dX12_dropReads_2 : decode cX12_dropReads 2 = .ok (.iload_n 3, 1) := by decide +kernel
theorem dX12_dropReads_3 : decode cX12_dropReads 3 = .ok (.bipush 26, 2) := by decide +kernel
theorem dX12_dropReads_5 : decode cX12_dropReads 5 = .ok (.if_icmp .ge 22, 3) := by decide +kernel
theorem dX12_dropReads_8 : decode cX12_dropReads 8 = .ok (.aload_n 0, 1) := by decide +kernel
theorem dX12_dropReads_9 : decode cX12_dropReads 9 = .ok (.getfield 266, 3) := by decide +kernel
theorem dX12_dropReads_12 : decode cX12_dropReads 12 = .ok (.aload_n 0, 1) := by decide +kernel
theorem dX12_dropReads_13 : decode cX12_dropReads 13 = .ok (.iload_n 1, 1) := by decide +kernel
theorem dX12_dropReads_14 : decode cX12_dropReads 14 = .ok (.iload_n 2, 1) := by decide +kernel
theorem dX12_dropReads_15 : decode cX12_dropReads 15 = .ok (.iload_n 3, 1) := by decide +kernel
theorem dX12_dropReads_16 : decode cX12_dropReads 16 = .ok (.invokevirtual 357, 3) := by decide +kernel
theorem dX12_dropReads_19 : decode cX12_dropReads 19 = .ok (.iconst 0, 1) := by decide +kernel
theorem dX12_dropReads_20 : decode cX12_dropReads 20 = .ok (.bastore, 1) := by decide +kernel
theorem dX12_dropReads_21 : decode cX12_dropReads 21 = .ok (.iinc 3 1, 3) := by decide +kernel
theorem dX12_dropReads_24 : decode cX12_dropReads 24 = .ok (.goto (-22), 3) := by decide +kernel
theorem dX12_dropReads_27 : decode cX12_dropReads 27 = .ok (.return_, 1) := by decide +kernel
theorem dX12_takeBack_0 : decode cX12_takeBack 0 = .ok (.iconst 0, 1) := by decide +kernel
theorem dX12_takeBack_1 : decode cX12_takeBack 1 = .ok (.istore_n 3, 1) := by decide +kernel
theorem dX12_takeBack_2 : decode cX12_takeBack 2 = .ok (.iload_n 3, 1) := by decide +kernel
theorem dX12_takeBack_3 : decode cX12_takeBack 3 = .ok (.bipush 26, 2) := by decide +kernel
theorem dX12_takeBack_5 : decode cX12_takeBack 5 = .ok (.if_icmp .ge 74, 3) := by decide +kernel
theorem dX12_takeBack_8 : decode cX12_takeBack 8 = .ok (.aload_n 0, 1) := by decide +kernel
theorem dX12_takeBack_9 : decode cX12_takeBack 9 = .ok (.iload_n 1, 1) := by decide +kernel
theorem dX12_takeBack_10 : decode cX12_takeBack 10 = .ok (.iload_n 2, 1) := by decide +kernel
theorem dX12_takeBack_11 : decode cX12_takeBack 11 = .ok (.iload_n 3, 1) := by decide +kernel
theorem dX12_takeBack_12 : decode cX12_takeBack 12 = .ok (.invokevirtual 357, 3) := by decide +kernel
theorem dX12_takeBack_15 : decode cX12_takeBack 15 = .ok (.istore 4, 2) := by decide +kernel
theorem dX12_takeBack_17 : decode cX12_takeBack 17 = .ok (.aload_n 0, 1) := by decide +kernel
theorem dX12_takeBack_18 : decode cX12_takeBack 18 = .ok (.getfield 269, 3) := by decide +kernel
theorem dX12_takeBack_21 : decode cX12_takeBack 21 = .ok (.iload 4, 2) := by decide +kernel
theorem dX12_takeBack_23 : decode cX12_takeBack 23 = .ok (.baload, 1) := by decide +kernel
theorem dX12_takeBack_24 : decode cX12_takeBack 24 = .ok (.ifCond .eq 23, 3) := by decide +kernel
theorem dX12_takeBack_27 : decode cX12_takeBack 27 = .ok (.aload_n 0, 1) := by decide +kernel
theorem dX12_takeBack_28 : decode cX12_takeBack 28 = .ok (.invokevirtual 369, 3) := by decide +kernel
theorem dX12_takeBack_31 : decode cX12_takeBack 31 = .ok (.ifCond .eq 16, 3) := by decide +kernel
theorem dX12_takeBack_34 : decode cX12_takeBack 34 = .ok (.aload_n 0, 1) := by decide +kernel
theorem dX12_takeBack_35 : decode cX12_takeBack 35 = .ok (.getfield 151, 3) := by decide +kernel
theorem dX12_takeBack_38 : decode cX12_takeBack 38 = .ok (.iload_n 3, 1) := by decide +kernel
theorem dX12_takeBack_39 : decode cX12_takeBack 39 = .ok (.aload_n 0, 1) := by decide +kernel
theorem dX12_takeBack_40 : decode cX12_takeBack 40 = .ok (.getfield 281, 3) := by decide +kernel
theorem dX12_takeBack_43 : decode cX12_takeBack 43 = .ok (.iload 4, 2) := by decide +kernel
theorem dX12_takeBack_45 : decode cX12_takeBack 45 = .ok (.iaload, 1) := by decide +kernel
theorem dX12_takeBack_46 : decode cX12_takeBack 46 = .ok (.iastore, 1) := by decide +kernel
theorem dX12_takeBack_47 : decode cX12_takeBack 47 = .ok (.aload_n 0, 1) := by decide +kernel
theorem dX12_takeBack_48 : decode cX12_takeBack 48 = .ok (.getfield 269, 3) := by decide +kernel
theorem dX12_takeBack_51 : decode cX12_takeBack 51 = .ok (.iload 4, 2) := by decide +kernel
theorem dX12_takeBack_53 : decode cX12_takeBack 53 = .ok (.iconst 0, 1) := by decide +kernel
theorem dX12_takeBack_54 : decode cX12_takeBack 54 = .ok (.bastore, 1) := by decide +kernel
theorem dX12_takeBack_55 : decode cX12_takeBack 55 = .ok (.aload_n 0, 1) := by decide +kernel
theorem dX12_takeBack_56 : decode cX12_takeBack 56 = .ok (.getfield 193, 3) := by decide +kernel
theorem dX12_takeBack_59 : decode cX12_takeBack 59 = .ok (.iload_n 1, 1) := by decide +kernel
theorem dX12_takeBack_60 : decode cX12_takeBack 60 = .ok (.bipush 26, 2) := by decide +kernel
theorem dX12_takeBack_62 : decode cX12_takeBack 62 = .ok (.imul, 1) := by decide +kernel
theorem dX12_takeBack_63 : decode cX12_takeBack 63 = .ok (.iload_n 3, 1) := by decide +kernel
theorem dX12_takeBack_64 : decode cX12_takeBack 64 = .ok (.iadd, 1) := by decide +kernel
theorem dX12_takeBack_65 : decode cX12_takeBack 65 = .ok (.aload_n 0, 1) := by decide +kernel
theorem dX12_takeBack_66 : decode cX12_takeBack 66 = .ok (.getfield 259, 3) := by decide +kernel
theorem dX12_takeBack_69 : decode cX12_takeBack 69 = .ok (.iload 4, 2) := by decide +kernel
theorem dX12_takeBack_71 : decode cX12_takeBack 71 = .ok (.iaload, 1) := by decide +kernel
theorem dX12_takeBack_72 : decode cX12_takeBack 72 = .ok (.iastore, 1) := by decide +kernel
theorem dX12_takeBack_73 : decode cX12_takeBack 73 = .ok (.iinc 3 1, 3) := by decide +kernel
theorem dX12_takeBack_76 : decode cX12_takeBack 76 = .ok (.goto (-74), 3) := by decide +kernel
theorem dX12_takeBack_79 : decode cX12_takeBack 79 = .ok (.aload_n 0, 1) := by decide +kernel
theorem dX12_takeBack_80 : decode cX12_takeBack 80 = .ok (.getfield 287, 3) := by decide +kernel
theorem dX12_takeBack_83 : decode cX12_takeBack 83 = .ok (.aload_n 0, 1) := by decide +kernel
theorem dX12_takeBack_84 : decode cX12_takeBack 84 = .ok (.iload_n 1, 1) := by decide +kernel
theorem dX12_takeBack_85 : decode cX12_takeBack 85 = .ok (.iload_n 2, 1) := by decide +kernel
theorem dX12_takeBack_86 : decode cX12_takeBack 86 = .ok (.invokevirtual 360, 3) := by decide +kernel
theorem dX12_takeBack_89 : decode cX12_takeBack 89 = .ok (.iconst 0, 1) := by decide +kernel
theorem dX12_takeBack_90 : decode cX12_takeBack 90 = .ok (.iastore, 1) := by decide +kernel
theorem dX12_takeBack_91 : decode cX12_takeBack 91 = .ok (.return_, 1) := by decide +kernel
theorem dX12_takeBackTo_0 : decode cX12_takeBackTo 0 = .ok (.aload_n 0, 1) := by decide +kernel
theorem dX12_takeBackTo_1 : decode cX12_takeBackTo 1 = .ok (.getfield 202, 3) := by decide +kernel
theorem dX12_takeBackTo_4 : decode cX12_takeBackTo 4 = .ok (.iload_n 1, 1) := by decide +kernel
theorem dX12_takeBackTo_5 : decode cX12_takeBackTo 5 = .ok (.iaload, 1) := by decide +kernel
theorem dX12_takeBackTo_6 : decode cX12_takeBackTo 6 = .ok (.iconst 1, 1) := by decide +kernel
theorem dX12_takeBackTo_7 : decode cX12_takeBackTo 7 = .ok (.isub, 1) := by decide +kernel
theorem dX12_takeBackTo_8 : decode cX12_takeBackTo 8 = .ok (.istore 4, 2) := by decide +kernel
theorem dX12_takeBackTo_10 : decode cX12_takeBackTo 10 = .ok (.iload 4, 2) := by decide +kernel
theorem dX12_takeBackTo_12 : decode cX12_takeBackTo 12 = .ok (.iload_n 2, 1) := by decide +kernel
theorem dX12_takeBackTo_13 : decode cX12_takeBackTo 13 = .ok (.if_icmp .lt 37, 3) := by decide +kernel
theorem dX12_takeBackTo_16 : decode cX12_takeBackTo 16 = .ok (.aload_n 0, 1) := by decide +kernel
theorem dX12_takeBackTo_17 : decode cX12_takeBackTo 17 = .ok (.iload_n 1, 1) := by decide +kernel
theorem dX12_takeBackTo_18 : decode cX12_takeBackTo 18 = .ok (.iload 4, 2) := by decide +kernel
theorem dX12_takeBackTo_20 : decode cX12_takeBackTo 20 = .ok (.invokevirtual 373, 3) := by decide +kernel
theorem dX12_takeBackTo_23 : decode cX12_takeBackTo 23 = .ok (.iload_n 3, 1) := by decide +kernel
theorem dX12_takeBackTo_24 : decode cX12_takeBackTo 24 = .ok (.ifCond .eq 13, 3) := by decide +kernel
theorem dX12_takeBackTo_27 : decode cX12_takeBackTo 27 = .ok (.aload_n 0, 1) := by decide +kernel
theorem dX12_takeBackTo_28 : decode cX12_takeBackTo 28 = .ok (.iload_n 1, 1) := by decide +kernel
theorem dX12_takeBackTo_29 : decode cX12_takeBackTo 29 = .ok (.iload 4, 2) := by decide +kernel
theorem dX12_takeBackTo_31 : decode cX12_takeBackTo 31 = .ok (.invokevirtual 376, 3) := by decide +kernel
theorem dX12_takeBackTo_34 : decode cX12_takeBackTo 34 = .ok (.goto 10, 3) := by decide +kernel
theorem dX12_takeBackTo_37 : decode cX12_takeBackTo 37 = .ok (.aload_n 0, 1) := by decide +kernel
theorem dX12_takeBackTo_38 : decode cX12_takeBackTo 38 = .ok (.iload_n 1, 1) := by decide +kernel
theorem dX12_takeBackTo_39 : decode cX12_takeBackTo 39 = .ok (.iload 4, 2) := by decide +kernel
theorem dX12_takeBackTo_41 : decode cX12_takeBackTo 41 = .ok (.invokevirtual 379, 3) := by decide +kernel
theorem dX12_takeBackTo_44 : decode cX12_takeBackTo 44 = .ok (.iinc 4 (-1), 3) := by decide +kernel
theorem dX12_takeBackTo_47 : decode cX12_takeBackTo 47 = .ok (.goto (-37), 3) := by decide +kernel
theorem dX12_takeBackTo_50 : decode cX12_takeBackTo 50 = .ok (.aload_n 0, 1) := by decide +kernel
theorem dX12_takeBackTo_51 : decode cX12_takeBackTo 51 = .ok (.getfield 199, 3) := by decide +kernel
theorem dX12_takeBackTo_54 : decode cX12_takeBackTo 54 = .ok (.iload_n 1, 1) := by decide +kernel
theorem dX12_takeBackTo_55 : decode cX12_takeBackTo 55 = .ok (.iconst 0, 1) := by decide +kernel
theorem dX12_takeBackTo_56 : decode cX12_takeBackTo 56 = .ok (.iastore, 1) := by decide +kernel
theorem dX12_takeBackTo_57 : decode cX12_takeBackTo 57 = .ok (.return_, 1) := by decide +kernel
theorem dX12_isWrong_0 : decode cX12_isWrong 0 = .ok (.aload_n 0, 1) := by decide +kernel
theorem dX12_isWrong_1 : decode cX12_isWrong 1 = .ok (.iload_n 1, 1) := by decide +kernel
theorem dX12_isWrong_2 : decode cX12_isWrong 2 = .ok (.iload_n 2, 1) := by decide +kernel
theorem dX12_isWrong_3 : decode cX12_isWrong 3 = .ok (.iload_n 3, 1) := by decide +kernel
theorem dX12_isWrong_4 : decode cX12_isWrong 4 = .ok (.invokevirtual 357, 3) := by decide +kernel
theorem dX12_isWrong_7 : decode cX12_isWrong 7 = .ok (.istore 4, 2) := by decide +kernel
theorem dX12_isWrong_9 : decode cX12_isWrong 9 = .ok (.aload_n 0, 1) := by decide +kernel
theorem dX12_isWrong_10 : decode cX12_isWrong 10 = .ok (.getfield 266, 3) := by decide +kernel
theorem dX12_isWrong_13 : decode cX12_isWrong 13 = .ok (.iload 4, 2) := by decide +kernel
theorem dX12_isWrong_15 : decode cX12_isWrong 15 = .ok (.baload, 1) := by decide +kernel
theorem dX12_isWrong_16 : decode cX12_isWrong 16 = .ok (.ifCond .ne 5, 3) := by decide +kernel
theorem dX12_isWrong_19 : decode cX12_isWrong 19 = .ok (.iconst 0, 1) := by decide +kernel
theorem dX12_isWrong_20 : decode cX12_isWrong 20 = .ok (.ireturn, 1) := by decide +kernel
theorem dX12_isWrong_21 : decode cX12_isWrong 21 = .ok (.aload_n 0, 1) := by decide +kernel
theorem dX12_isWrong_22 : decode cX12_isWrong 22 = .ok (.getfield 332, 3) := by decide +kernel
theorem dX12_isWrong_25 : decode cX12_isWrong 25 = .ok (.tableswitch 115 0 3 #[31, 52, 31, 74], 31) := by decide +kernel
theorem dX12_isWrong_56 : decode cX12_isWrong 56 = .ok (.aload_n 0, 1) := by decide +kernel
theorem dX12_isWrong_57 : decode cX12_isWrong 57 = .ok (.getfield 157, 3) := by decide +kernel
theorem dX12_isWrong_60 : decode cX12_isWrong 60 = .ok (.iload_n 3, 1) := by decide +kernel
theorem dX12_isWrong_61 : decode cX12_isWrong 61 = .ok (.iaload, 1) := by decide +kernel
theorem dX12_isWrong_62 : decode cX12_isWrong 62 = .ok (.aload_n 0, 1) := by decide +kernel
theorem dX12_isWrong_63 : decode cX12_isWrong 63 = .ok (.getfield 214, 3) := by decide +kernel
theorem dX12_isWrong_66 : decode cX12_isWrong 66 = .ok (.iload_n 1, 1) := by decide +kernel
theorem dX12_isWrong_67 : decode cX12_isWrong 67 = .ok (.iaload, 1) := by decide +kernel
theorem dX12_isWrong_68 : decode cX12_isWrong 68 = .ok (.if_icmp .le 7, 3) := by decide +kernel
theorem dX12_isWrong_71 : decode cX12_isWrong 71 = .ok (.iconst 1, 1) := by decide +kernel
theorem dX12_isWrong_72 : decode cX12_isWrong 72 = .ok (.goto 4, 3) := by decide +kernel
theorem dX12_isWrong_75 : decode cX12_isWrong 75 = .ok (.iconst 0, 1) := by decide +kernel
theorem dX12_isWrong_76 : decode cX12_isWrong 76 = .ok (.ireturn, 1) := by decide +kernel
theorem dX12_isWrong_77 : decode cX12_isWrong 77 = .ok (.aload_n 0, 1) := by decide +kernel
theorem dX12_isWrong_78 : decode cX12_isWrong 78 = .ok (.getfield 151, 3) := by decide +kernel
theorem dX12_isWrong_81 : decode cX12_isWrong 81 = .ok (.iload_n 3, 1) := by decide +kernel
theorem dX12_isWrong_82 : decode cX12_isWrong 82 = .ok (.iaload, 1) := by decide +kernel
theorem dX12_isWrong_83 : decode cX12_isWrong 83 = .ok (.aload_n 0, 1) := by decide +kernel
theorem dX12_isWrong_84 : decode cX12_isWrong 84 = .ok (.getfield 272, 3) := by decide +kernel
theorem dX12_isWrong_87 : decode cX12_isWrong 87 = .ok (.iload 4, 2) := by decide +kernel
theorem dX12_isWrong_89 : decode cX12_isWrong 89 = .ok (.iaload, 1) := by decide +kernel
theorem dX12_isWrong_90 : decode cX12_isWrong 90 = .ok (.if_icmp .eq 7, 3) := by decide +kernel
theorem dX12_isWrong_93 : decode cX12_isWrong 93 = .ok (.iconst 1, 1) := by decide +kernel
theorem dX12_isWrong_94 : decode cX12_isWrong 94 = .ok (.goto 4, 3) := by decide +kernel
theorem dX12_isWrong_97 : decode cX12_isWrong 97 = .ok (.iconst 0, 1) := by decide +kernel
theorem dX12_isWrong_98 : decode cX12_isWrong 98 = .ok (.ireturn, 1) := by decide +kernel
theorem dX12_isWrong_99 : decode cX12_isWrong 99 = .ok (.aload_n 0, 1) := by decide +kernel
theorem dX12_isWrong_100 : decode cX12_isWrong 100 = .ok (.getfield 177, 3) := by decide +kernel
theorem dX12_isWrong_103 : decode cX12_isWrong 103 = .ok (.iload_n 3, 1) := by decide +kernel
theorem dX12_isWrong_104 : decode cX12_isWrong 104 = .ok (.iaload, 1) := by decide +kernel
theorem dX12_isWrong_105 : decode cX12_isWrong 105 = .ok (.ifCond .lt 13, 3) := by decide +kernel
theorem dX12_isWrong_108 : decode cX12_isWrong 108 = .ok (.aload_n 0, 1) := by decide +kernel
theorem dX12_isWrong_109 : decode cX12_isWrong 109 = .ok (.getfield 177, 3) := by decide +kernel
theorem dX12_isWrong_112 : decode cX12_isWrong 112 = .ok (.iload_n 3, 1) := by decide +kernel
theorem dX12_isWrong_113 : decode cX12_isWrong 113 = .ok (.iaload, 1) := by decide +kernel
theorem dX12_isWrong_114 : decode cX12_isWrong 114 = .ok (.iload_n 1, 1) := by decide +kernel
theorem dX12_isWrong_115 : decode cX12_isWrong 115 = .ok (.if_icmp .ne 19, 3) := by decide +kernel
theorem dX12_isWrong_118 : decode cX12_isWrong 118 = .ok (.aload_n 0, 1) := by decide +kernel
theorem dX12_isWrong_119 : decode cX12_isWrong 119 = .ok (.getfield 157, 3) := by decide +kernel
theorem dX12_isWrong_122 : decode cX12_isWrong 122 = .ok (.iload_n 3, 1) := by decide +kernel
theorem dX12_isWrong_123 : decode cX12_isWrong 123 = .ok (.iaload, 1) := by decide +kernel
theorem dX12_isWrong_124 : decode cX12_isWrong 124 = .ok (.aload_n 0, 1) := by decide +kernel
theorem dX12_isWrong_125 : decode cX12_isWrong 125 = .ok (.getfield 275, 3) := by decide +kernel
theorem dX12_isWrong_128 : decode cX12_isWrong 128 = .ok (.iload 4, 2) := by decide +kernel
theorem dX12_isWrong_130 : decode cX12_isWrong 130 = .ok (.iaload, 1) := by decide +kernel
theorem dX12_isWrong_131 : decode cX12_isWrong 131 = .ok (.if_icmp .eq 7, 3) := by decide +kernel
theorem dX12_isWrong_134 : decode cX12_isWrong 134 = .ok (.iconst 1, 1) := by decide +kernel
theorem dX12_isWrong_135 : decode cX12_isWrong 135 = .ok (.goto 4, 3) := by decide +kernel
theorem dX12_isWrong_138 : decode cX12_isWrong 138 = .ok (.iconst 0, 1) := by decide +kernel
theorem dX12_isWrong_139 : decode cX12_isWrong 139 = .ok (.ireturn, 1) := by decide +kernel
theorem dX12_isWrong_140 : decode cX12_isWrong 140 = .ok (.iconst 0, 1) := by decide +kernel
theorem dX12_isWrong_141 : decode cX12_isWrong 141 = .ok (.ireturn, 1) := by decide +kernel
theorem dX12_wrongLevel_0 : decode cX12_wrongLevel 0 = .ok (.iconst 0, 1) := by decide +kernel
theorem dX12_wrongLevel_1 : decode cX12_wrongLevel 1 = .ok (.istore_n 2, 1) := by decide +kernel
theorem dX12_wrongLevel_2 : decode cX12_wrongLevel 2 = .ok (.iload_n 2, 1) := by decide +kernel
theorem dX12_wrongLevel_3 : decode cX12_wrongLevel 3 = .ok (.aload_n 0, 1) := by decide +kernel
theorem dX12_wrongLevel_4 : decode cX12_wrongLevel 4 = .ok (.getfield 202, 3) := by decide +kernel
theorem dX12_wrongLevel_7 : decode cX12_wrongLevel 7 = .ok (.iload_n 1, 1) := by decide +kernel
theorem dX12_wrongLevel_8 : decode cX12_wrongLevel 8 = .ok (.iaload, 1) := by decide +kernel
theorem dX12_wrongLevel_9 : decode cX12_wrongLevel 9 = .ok (.if_icmp .ge 35, 3) := by decide +kernel
theorem dX12_wrongLevel_12 : decode cX12_wrongLevel 12 = .ok (.iconst 0, 1) := by decide +kernel
theorem dX12_wrongLevel_13 : decode cX12_wrongLevel 13 = .ok (.istore_n 3, 1) := by decide +kernel
theorem dX12_wrongLevel_14 : decode cX12_wrongLevel 14 = .ok (.iload_n 3, 1) := by decide +kernel
theorem dX12_wrongLevel_15 : decode cX12_wrongLevel 15 = .ok (.bipush 26, 2) := by decide +kernel
theorem dX12_wrongLevel_17 : decode cX12_wrongLevel 17 = .ok (.if_icmp .ge 21, 3) := by decide +kernel
theorem dX12_wrongLevel_20 : decode cX12_wrongLevel 20 = .ok (.aload_n 0, 1) := by decide +kernel
theorem dX12_wrongLevel_21 : decode cX12_wrongLevel 21 = .ok (.iload_n 1, 1) := by decide +kernel
theorem dX12_wrongLevel_22 : decode cX12_wrongLevel 22 = .ok (.iload_n 2, 1) := by decide +kernel
theorem dX12_wrongLevel_23 : decode cX12_wrongLevel 23 = .ok (.iload_n 3, 1) := by decide +kernel
theorem dX12_wrongLevel_24 : decode cX12_wrongLevel 24 = .ok (.invokevirtual 389, 3) := by decide +kernel
theorem dX12_wrongLevel_27 : decode cX12_wrongLevel 27 = .ok (.ifCond .eq 5, 3) := by decide +kernel
theorem dX12_wrongLevel_30 : decode cX12_wrongLevel 30 = .ok (.iload_n 2, 1) := by decide +kernel
theorem dX12_wrongLevel_31 : decode cX12_wrongLevel 31 = .ok (.ireturn, 1) := by decide +kernel
theorem dX12_wrongLevel_32 : decode cX12_wrongLevel 32 = .ok (.iinc 3 1, 3) := by decide +kernel
theorem dX12_wrongLevel_35 : decode cX12_wrongLevel 35 = .ok (.goto (-21), 3) := by decide +kernel
theorem dX12_wrongLevel_38 : decode cX12_wrongLevel 38 = .ok (.iinc 2 1, 3) := by decide +kernel
theorem dX12_wrongLevel_41 : decode cX12_wrongLevel 41 = .ok (.goto (-39), 3) := by decide +kernel
theorem dX12_wrongLevel_44 : decode cX12_wrongLevel 44 = .ok (.iconst (-1), 1) := by decide +kernel
theorem dX12_wrongLevel_45 : decode cX12_wrongLevel 45 = .ok (.ireturn, 1) := by decide +kernel
theorem dX12_writtenLevel_0 : decode cX12_writtenLevel 0 = .ok (.aload_n 0, 1) := by decide +kernel
theorem dX12_writtenLevel_1 : decode cX12_writtenLevel 1 = .ok (.getfield 202, 3) := by decide +kernel
theorem dX12_writtenLevel_4 : decode cX12_writtenLevel 4 = .ok (.iload_n 1, 1) := by decide +kernel
theorem dX12_writtenLevel_5 : decode cX12_writtenLevel 5 = .ok (.iaload, 1) := by decide +kernel
theorem dX12_writtenLevel_6 : decode cX12_writtenLevel 6 = .ok (.iconst 1, 1) := by decide +kernel
theorem dX12_writtenLevel_7 : decode cX12_writtenLevel 7 = .ok (.isub, 1) := by decide +kernel
theorem dX12_writtenLevel_8 : decode cX12_writtenLevel 8 = .ok (.istore_n 3, 1) := by decide +kernel
theorem dX12_writtenLevel_9 : decode cX12_writtenLevel 9 = .ok (.iload_n 3, 1) := by decide +kernel
theorem dX12_writtenLevel_10 : decode cX12_writtenLevel 10 = .ok (.ifCond .lt 26, 3) := by decide +kernel
theorem dX12_writtenLevel_13 : decode cX12_writtenLevel 13 = .ok (.aload_n 0, 1) := by decide +kernel
theorem dX12_writtenLevel_14 : decode cX12_writtenLevel 14 = .ok (.getfield 269, 3) := by decide +kernel
theorem dX12_writtenLevel_17 : decode cX12_writtenLevel 17 = .ok (.aload_n 0, 1) := by decide +kernel
theorem dX12_writtenLevel_18 : decode cX12_writtenLevel 18 = .ok (.iload_n 1, 1) := by decide +kernel
theorem dX12_writtenLevel_19 : decode cX12_writtenLevel 19 = .ok (.iload_n 3, 1) := by decide +kernel
theorem dX12_writtenLevel_20 : decode cX12_writtenLevel 20 = .ok (.iload_n 2, 1) := by decide +kernel
theorem dX12_writtenLevel_21 : decode cX12_writtenLevel 21 = .ok (.invokevirtual 357, 3) := by decide +kernel
theorem dX12_writtenLevel_24 : decode cX12_writtenLevel 24 = .ok (.baload, 1) := by decide +kernel
theorem dX12_writtenLevel_25 : decode cX12_writtenLevel 25 = .ok (.ifCond .eq 5, 3) := by decide +kernel
theorem dX12_writtenLevel_28 : decode cX12_writtenLevel 28 = .ok (.iload_n 3, 1) := by decide +kernel
theorem dX12_writtenLevel_29 : decode cX12_writtenLevel 29 = .ok (.ireturn, 1) := by decide +kernel
theorem dX12_writtenLevel_30 : decode cX12_writtenLevel 30 = .ok (.iinc 3 (-1), 3) := by decide +kernel
theorem dX12_writtenLevel_33 : decode cX12_writtenLevel 33 = .ok (.goto (-24), 3) := by decide +kernel
theorem dX12_writtenLevel_36 : decode cX12_writtenLevel 36 = .ok (.iconst (-1), 1) := by decide +kernel
theorem dX12_writtenLevel_37 : decode cX12_writtenLevel 37 = .ok (.ireturn, 1) := by decide +kernel
theorem dX12_addRead_0 : decode cX12_addRead 0 = .ok (.aload_n 0, 1) := by decide +kernel
theorem dX12_addRead_1 : decode cX12_addRead 1 = .ok (.iload_n 1, 1) := by decide +kernel
theorem dX12_addRead_2 : decode cX12_addRead 2 = .ok (.aload_n 0, 1) := by decide +kernel
theorem dX12_addRead_3 : decode cX12_addRead 3 = .ok (.getfield 202, 3) := by decide +kernel
theorem dX12_addRead_6 : decode cX12_addRead 6 = .ok (.iload_n 1, 1) := by decide +kernel
theorem dX12_addRead_7 : decode cX12_addRead 7 = .ok (.iaload, 1) := by decide +kernel
theorem dX12_addRead_8 : decode cX12_addRead 8 = .ok (.iconst 1, 1) := by decide +kernel
theorem dX12_addRead_9 : decode cX12_addRead 9 = .ok (.isub, 1) := by decide +kernel
theorem dX12_addRead_10 : decode cX12_addRead 10 = .ok (.iload_n 2, 1) := by decide +kernel
theorem dX12_addRead_11 : decode cX12_addRead 11 = .ok (.invokevirtual 357, 3) := by decide +kernel
theorem dX12_addRead_14 : decode cX12_addRead 14 = .ok (.istore 4, 2) := by decide +kernel
theorem dX12_addRead_16 : decode cX12_addRead 16 = .ok (.aload_n 0, 1) := by decide +kernel
theorem dX12_addRead_17 : decode cX12_addRead 17 = .ok (.getfield 266, 3) := by decide +kernel
theorem dX12_addRead_20 : decode cX12_addRead 20 = .ok (.iload 4, 2) := by decide +kernel
theorem dX12_addRead_22 : decode cX12_addRead 22 = .ok (.baload, 1) := by decide +kernel
theorem dX12_addRead_23 : decode cX12_addRead 23 = .ok (.ifCond .eq 4, 3) := by decide +kernel
theorem dX12_addRead_26 : decode cX12_addRead 26 = .ok (.return_, 1) := by decide +kernel
theorem dX12_addRead_27 : decode cX12_addRead 27 = .ok (.aload_n 0, 1) := by decide +kernel
theorem dX12_addRead_28 : decode cX12_addRead 28 = .ok (.getfield 266, 3) := by decide +kernel
theorem dX12_addRead_31 : decode cX12_addRead 31 = .ok (.iload 4, 2) := by decide +kernel
theorem dX12_addRead_33 : decode cX12_addRead 33 = .ok (.iconst 1, 1) := by decide +kernel
theorem dX12_addRead_34 : decode cX12_addRead 34 = .ok (.bastore, 1) := by decide +kernel
theorem dX12_addRead_35 : decode cX12_addRead 35 = .ok (.aload_n 0, 1) := by decide +kernel
theorem dX12_addRead_36 : decode cX12_addRead 36 = .ok (.getfield 272, 3) := by decide +kernel
theorem dX12_addRead_39 : decode cX12_addRead 39 = .ok (.iload 4, 2) := by decide +kernel
theorem dX12_addRead_41 : decode cX12_addRead 41 = .ok (.iload_n 3, 1) := by decide +kernel
theorem dX12_addRead_42 : decode cX12_addRead 42 = .ok (.iastore, 1) := by decide +kernel
theorem dX12_addRead_43 : decode cX12_addRead 43 = .ok (.aload_n 0, 1) := by decide +kernel
theorem dX12_addRead_44 : decode cX12_addRead 44 = .ok (.getfield 275, 3) := by decide +kernel
theorem dX12_addRead_47 : decode cX12_addRead 47 = .ok (.iload 4, 2) := by decide +kernel
theorem dX12_addRead_49 : decode cX12_addRead 49 = .ok (.aload_n 0, 1) := by decide +kernel
theorem dX12_addRead_50 : decode cX12_addRead 50 = .ok (.getfield 157, 3) := by decide +kernel
theorem dX12_addRead_53 : decode cX12_addRead 53 = .ok (.iload_n 2, 1) := by decide +kernel
theorem dX12_addRead_54 : decode cX12_addRead 54 = .ok (.iaload, 1) := by decide +kernel
theorem dX12_addRead_55 : decode cX12_addRead 55 = .ok (.iastore, 1) := by decide +kernel
theorem dX12_addRead_56 : decode cX12_addRead 56 = .ok (.aload_n 0, 1) := by decide +kernel
theorem dX12_addRead_57 : decode cX12_addRead 57 = .ok (.getfield 278, 3) := by decide +kernel
theorem dX12_addRead_60 : decode cX12_addRead 60 = .ok (.iload 4, 2) := by decide +kernel
theorem dX12_addRead_62 : decode cX12_addRead 62 = .ok (.aload_n 0, 1) := by decide +kernel
theorem dX12_addRead_63 : decode cX12_addRead 63 = .ok (.getfield 366, 3) := by decide +kernel
theorem dX12_addRead_66 : decode cX12_addRead 66 = .ok (.iastore, 1) := by decide +kernel
theorem dX12_addRead_67 : decode cX12_addRead 67 = .ok (.aload_n 0, 1) := by decide +kernel
theorem dX12_addRead_68 : decode cX12_addRead 68 = .ok (.dup, 1) := by decide +kernel
theorem dX12_addRead_69 : decode cX12_addRead 69 = .ok (.getfield 366, 3) := by decide +kernel
theorem dX12_addRead_72 : decode cX12_addRead 72 = .ok (.iconst 1, 1) := by decide +kernel
theorem dX12_addRead_73 : decode cX12_addRead 73 = .ok (.iadd, 1) := by decide +kernel
theorem dX12_addRead_74 : decode cX12_addRead 74 = .ok (.putfield 366, 3) := by decide +kernel
theorem dX12_addRead_77 : decode cX12_addRead 77 = .ok (.return_, 1) := by decide +kernel
theorem dX12_hasWrites_0 : decode cX12_hasWrites 0 = .ok (.iconst 0, 1) := by decide +kernel
theorem dX12_hasWrites_1 : decode cX12_hasWrites 1 = .ok (.istore_n 2, 1) := by decide +kernel
theorem dX12_hasWrites_2 : decode cX12_hasWrites 2 = .ok (.iload_n 2, 1) := by decide +kernel
theorem dX12_hasWrites_3 : decode cX12_hasWrites 3 = .ok (.bipush 26, 2) := by decide +kernel
theorem dX12_hasWrites_5 : decode cX12_hasWrites 5 = .ok (.if_icmp .ge 26, 3) := by decide +kernel
theorem dX12_hasWrites_8 : decode cX12_hasWrites 8 = .ok (.aload_n 0, 1) := by decide +kernel
theorem dX12_hasWrites_9 : decode cX12_hasWrites 9 = .ok (.getfield 269, 3) := by decide +kernel
theorem dX12_hasWrites_12 : decode cX12_hasWrites 12 = .ok (.aload_n 0, 1) := by decide +kernel
theorem dX12_hasWrites_13 : decode cX12_hasWrites 13 = .ok (.iload_n 1, 1) := by decide +kernel
theorem dX12_hasWrites_14 : decode cX12_hasWrites 14 = .ok (.iconst 0, 1) := by decide +kernel
theorem dX12_hasWrites_15 : decode cX12_hasWrites 15 = .ok (.iload_n 2, 1) := by decide +kernel
theorem dX12_hasWrites_16 : decode cX12_hasWrites 16 = .ok (.invokevirtual 357, 3) := by decide +kernel
theorem dX12_hasWrites_19 : decode cX12_hasWrites 19 = .ok (.baload, 1) := by decide +kernel
theorem dX12_hasWrites_20 : decode cX12_hasWrites 20 = .ok (.ifCond .eq 5, 3) := by decide +kernel
theorem dX12_hasWrites_23 : decode cX12_hasWrites 23 = .ok (.iconst 1, 1) := by decide +kernel
theorem dX12_hasWrites_24 : decode cX12_hasWrites 24 = .ok (.ireturn, 1) := by decide +kernel
theorem dX12_hasWrites_25 : decode cX12_hasWrites 25 = .ok (.iinc 2 1, 3) := by decide +kernel
theorem dX12_hasWrites_28 : decode cX12_hasWrites 28 = .ok (.goto (-26), 3) := by decide +kernel
theorem dX12_hasWrites_31 : decode cX12_hasWrites 31 = .ok (.iconst 0, 1) := by decide +kernel
theorem dX12_hasWrites_32 : decode cX12_hasWrites 32 = .ok (.ireturn, 1) := by decide +kernel
theorem dX12_say_0 : decode cX12_say 0 = .ok (.aload_n 0, 1) := by decide +kernel
theorem dX12_say_1 : decode cX12_say 1 = .ok (.getfield 335, 3) := by decide +kernel
theorem dX12_say_4 : decode cX12_say 4 = .ok (.sipush 200, 3) := by decide +kernel
theorem dX12_say_7 : decode cX12_say 7 = .ok (.if_icmp .ne 4, 3) := by decide +kernel
theorem dX12_say_10 : decode cX12_say 10 = .ok (.return_, 1) := by decide +kernel
theorem dX12_say_11 : decode cX12_say 11 = .ok (.aload_n 0, 1) := by decide +kernel
theorem dX12_say_12 : decode cX12_say 12 = .ok (.getfield 290, 3) := by decide +kernel
theorem dX12_say_15 : decode cX12_say 15 = .ok (.aload_n 0, 1) := by decide +kernel
theorem dX12_say_16 : decode cX12_say 16 = .ok (.getfield 335, 3) := by decide +kernel
theorem dX12_say_19 : decode cX12_say 19 = .ok (.iload_n 2, 1) := by decide +kernel
theorem dX12_say_20 : decode cX12_say 20 = .ok (.iastore, 1) := by decide +kernel
theorem dX12_say_21 : decode cX12_say 21 = .ok (.aload_n 0, 1) := by decide +kernel
theorem dX12_say_22 : decode cX12_say 22 = .ok (.getfield 293, 3) := by decide +kernel
theorem dX12_say_25 : decode cX12_say 25 = .ok (.aload_n 0, 1) := by decide +kernel
theorem dX12_say_26 : decode cX12_say 26 = .ok (.getfield 335, 3) := by decide +kernel
theorem dX12_say_29 : decode cX12_say 29 = .ok (.iload_n 1, 1) := by decide +kernel
theorem dX12_say_30 : decode cX12_say 30 = .ok (.iastore, 1) := by decide +kernel
theorem dX12_say_31 : decode cX12_say 31 = .ok (.aload_n 0, 1) := by decide +kernel
theorem dX12_say_32 : decode cX12_say 32 = .ok (.dup, 1) := by decide +kernel
theorem dX12_say_33 : decode cX12_say 33 = .ok (.getfield 335, 3) := by decide +kernel
theorem dX12_say_36 : decode cX12_say 36 = .ok (.iconst 1, 1) := by decide +kernel
theorem dX12_say_37 : decode cX12_say 37 = .ok (.iadd, 1) := by decide +kernel
theorem dX12_say_38 : decode cX12_say 38 = .ok (.putfield 335, 3) := by decide +kernel
theorem dX12_say_41 : decode cX12_say 41 = .ok (.return_, 1) := by decide +kernel
theorem dX12_endPart_0 : decode cX12_endPart 0 = .ok (.aload_n 0, 1) := by decide +kernel
theorem dX12_endPart_1 : decode cX12_endPart 1 = .ok (.getfield 202, 3) := by decide +kernel
theorem dX12_endPart_4 : decode cX12_endPart 4 = .ok (.iload_n 1, 1) := by decide +kernel
theorem dX12_endPart_5 : decode cX12_endPart 5 = .ok (.iaload, 1) := by decide +kernel
theorem dX12_endPart_6 : decode cX12_endPart 6 = .ok (.iconst 1, 1) := by decide +kernel
theorem dX12_endPart_7 : decode cX12_endPart 7 = .ok (.isub, 1) := by decide +kernel
theorem dX12_endPart_8 : decode cX12_endPart 8 = .ok (.istore_n 2, 1) := by decide +kernel
theorem dX12_endPart_9 : decode cX12_endPart 9 = .ok (.aload_n 0, 1) := by decide +kernel
theorem dX12_endPart_10 : decode cX12_endPart 10 = .ok (.iload_n 1, 1) := by decide +kernel
theorem dX12_endPart_11 : decode cX12_endPart 11 = .ok (.iload_n 2, 1) := by decide +kernel
theorem dX12_endPart_12 : decode cX12_endPart 12 = .ok (.invokevirtual 376, 3) := by decide +kernel
theorem dX12_endPart_15 : decode cX12_endPart 15 = .ok (.iconst 0, 1) := by decide +kernel
theorem dX12_endPart_16 : decode cX12_endPart 16 = .ok (.istore_n 3, 1) := by decide +kernel
theorem dX12_endPart_17 : decode cX12_endPart 17 = .ok (.iload_n 3, 1) := by decide +kernel
theorem dX12_endPart_18 : decode cX12_endPart 18 = .ok (.bipush 26, 2) := by decide +kernel
theorem dX12_endPart_20 : decode cX12_endPart 20 = .ok (.if_icmp .ge 81, 3) := by decide +kernel
theorem dX12_endPart_23 : decode cX12_endPart 23 = .ok (.aload_n 0, 1) := by decide +kernel
theorem dX12_endPart_24 : decode cX12_endPart 24 = .ok (.iload_n 1, 1) := by decide +kernel
theorem dX12_endPart_25 : decode cX12_endPart 25 = .ok (.iload_n 2, 1) := by decide +kernel
theorem dX12_endPart_26 : decode cX12_endPart 26 = .ok (.iload_n 3, 1) := by decide +kernel
theorem dX12_endPart_27 : decode cX12_endPart 27 = .ok (.invokevirtual 357, 3) := by decide +kernel
theorem dX12_endPart_30 : decode cX12_endPart 30 = .ok (.istore 4, 2) := by decide +kernel
theorem dX12_endPart_32 : decode cX12_endPart 32 = .ok (.aload_n 0, 1) := by decide +kernel
theorem dX12_endPart_33 : decode cX12_endPart 33 = .ok (.iload_n 1, 1) := by decide +kernel
theorem dX12_endPart_34 : decode cX12_endPart 34 = .ok (.iload_n 2, 1) := by decide +kernel
theorem dX12_endPart_35 : decode cX12_endPart 35 = .ok (.iconst 1, 1) := by decide +kernel
theorem dX12_endPart_36 : decode cX12_endPart 36 = .ok (.isub, 1) := by decide +kernel
theorem dX12_endPart_37 : decode cX12_endPart 37 = .ok (.iload_n 3, 1) := by decide +kernel
theorem dX12_endPart_38 : decode cX12_endPart 38 = .ok (.invokevirtual 357, 3) := by decide +kernel
theorem dX12_endPart_41 : decode cX12_endPart 41 = .ok (.istore 5, 2) := by decide +kernel
theorem dX12_endPart_43 : decode cX12_endPart 43 = .ok (.aload_n 0, 1) := by decide +kernel
theorem dX12_endPart_44 : decode cX12_endPart 44 = .ok (.getfield 269, 3) := by decide +kernel
theorem dX12_endPart_47 : decode cX12_endPart 47 = .ok (.iload 4, 2) := by decide +kernel
theorem dX12_endPart_49 : decode cX12_endPart 49 = .ok (.baload, 1) := by decide +kernel
theorem dX12_endPart_50 : decode cX12_endPart 50 = .ok (.ifCond .eq 45, 3) := by decide +kernel
theorem dX12_endPart_53 : decode cX12_endPart 53 = .ok (.aload_n 0, 1) := by decide +kernel
theorem dX12_endPart_54 : decode cX12_endPart 54 = .ok (.invokevirtual 369, 3) := by decide +kernel
theorem dX12_endPart_57 : decode cX12_endPart 57 = .ok (.ifCond .eq 16, 3) := by decide +kernel
theorem dX12_endPart_60 : decode cX12_endPart 60 = .ok (.aload_n 0, 1) := by decide +kernel
theorem dX12_endPart_61 : decode cX12_endPart 61 = .ok (.getfield 269, 3) := by decide +kernel
theorem dX12_endPart_64 : decode cX12_endPart 64 = .ok (.iload 5, 2) := by decide +kernel
theorem dX12_endPart_66 : decode cX12_endPart 66 = .ok (.baload, 1) := by decide +kernel
theorem dX12_endPart_67 : decode cX12_endPart 67 = .ok (.ifCond .eq 6, 3) := by decide +kernel
theorem dX12_endPart_70 : decode cX12_endPart 70 = .ok (.goto 25, 3) := by decide +kernel
theorem dX12_endPart_73 : decode cX12_endPart 73 = .ok (.aload_n 0, 1) := by decide +kernel
theorem dX12_endPart_74 : decode cX12_endPart 74 = .ok (.getfield 269, 3) := by decide +kernel
theorem dX12_endPart_77 : decode cX12_endPart 77 = .ok (.iload 5, 2) := by decide +kernel
theorem dX12_endPart_79 : decode cX12_endPart 79 = .ok (.iconst 1, 1) := by decide +kernel
theorem dX12_endPart_80 : decode cX12_endPart 80 = .ok (.bastore, 1) := by decide +kernel
theorem dX12_endPart_81 : decode cX12_endPart 81 = .ok (.aload_n 0, 1) := by decide +kernel
theorem dX12_endPart_82 : decode cX12_endPart 82 = .ok (.getfield 281, 3) := by decide +kernel
theorem dX12_endPart_85 : decode cX12_endPart 85 = .ok (.iload 5, 2) := by decide +kernel
theorem dX12_endPart_87 : decode cX12_endPart 87 = .ok (.aload_n 0, 1) := by decide +kernel
theorem dX12_endPart_88 : decode cX12_endPart 88 = .ok (.getfield 281, 3) := by decide +kernel
theorem dX12_endPart_91 : decode cX12_endPart 91 = .ok (.iload 4, 2) := by decide +kernel
theorem dX12_endPart_93 : decode cX12_endPart 93 = .ok (.iaload, 1) := by decide +kernel
theorem dX12_endPart_94 : decode cX12_endPart 94 = .ok (.iastore, 1) := by decide +kernel
theorem dX12_endPart_95 : decode cX12_endPart 95 = .ok (.iinc 3 1, 3) := by decide +kernel
theorem dX12_endPart_98 : decode cX12_endPart 98 = .ok (.goto (-81), 3) := by decide +kernel
theorem dX12_endPart_101 : decode cX12_endPart 101 = .ok (.aload_n 0, 1) := by decide +kernel
theorem dX12_endPart_102 : decode cX12_endPart 102 = .ok (.iload_n 1, 1) := by decide +kernel
theorem dX12_endPart_103 : decode cX12_endPart 103 = .ok (.iload_n 2, 1) := by decide +kernel
theorem dX12_endPart_104 : decode cX12_endPart 104 = .ok (.invokevirtual 360, 3) := by decide +kernel
theorem dX12_endPart_107 : decode cX12_endPart 107 = .ok (.istore_n 3, 1) := by decide +kernel
theorem dX12_endPart_108 : decode cX12_endPart 108 = .ok (.aload_n 0, 1) := by decide +kernel
theorem dX12_endPart_109 : decode cX12_endPart 109 = .ok (.iload_n 1, 1) := by decide +kernel
theorem dX12_endPart_110 : decode cX12_endPart 110 = .ok (.iload_n 2, 1) := by decide +kernel
theorem dX12_endPart_111 : decode cX12_endPart 111 = .ok (.iconst 1, 1) := by decide +kernel
theorem dX12_endPart_112 : decode cX12_endPart 112 = .ok (.isub, 1) := by decide +kernel
theorem dX12_endPart_113 : decode cX12_endPart 113 = .ok (.invokevirtual 360, 3) := by decide +kernel
theorem dX12_endPart_116 : decode cX12_endPart 116 = .ok (.istore 4, 2) := by decide +kernel
theorem dX12_endPart_118 : decode cX12_endPart 118 = .ok (.iconst 0, 1) := by decide +kernel
theorem dX12_endPart_119 : decode cX12_endPart 119 = .ok (.istore 5, 2) := by decide +kernel
theorem dX12_endPart_121 : decode cX12_endPart 121 = .ok (.iload 5, 2) := by decide +kernel
theorem dX12_endPart_123 : decode cX12_endPart 123 = .ok (.aload_n 0, 1) := by decide +kernel
theorem dX12_endPart_124 : decode cX12_endPart 124 = .ok (.getfield 287, 3) := by decide +kernel
theorem dX12_endPart_127 : decode cX12_endPart 127 = .ok (.iload_n 3, 1) := by decide +kernel
theorem dX12_endPart_128 : decode cX12_endPart 128 = .ok (.iaload, 1) := by decide +kernel
theorem dX12_endPart_129 : decode cX12_endPart 129 = .ok (.if_icmp .ge 65, 3) := by decide +kernel
theorem dX12_endPart_132 : decode cX12_endPart 132 = .ok (.aload_n 0, 1) := by decide +kernel
theorem dX12_endPart_133 : decode cX12_endPart 133 = .ok (.getfield 287, 3) := by decide +kernel
theorem dX12_endPart_136 : decode cX12_endPart 136 = .ok (.iload 4, 2) := by decide +kernel
theorem dX12_endPart_138 : decode cX12_endPart 138 = .ok (.iaload, 1) := by decide +kernel
theorem dX12_endPart_139 : decode cX12_endPart 139 = .ok (.sipush 200, 3) := by decide +kernel
theorem dX12_endPart_142 : decode cX12_endPart 142 = .ok (.if_icmp .ge 52, 3) := by decide +kernel
theorem dX12_endPart_145 : decode cX12_endPart 145 = .ok (.aload_n 0, 1) := by decide +kernel
theorem dX12_endPart_146 : decode cX12_endPart 146 = .ok (.getfield 284, 3) := by decide +kernel
theorem dX12_endPart_149 : decode cX12_endPart 149 = .ok (.iload 4, 2) := by decide +kernel
theorem dX12_endPart_151 : decode cX12_endPart 151 = .ok (.sipush 200, 3) := by decide +kernel
theorem dX12_endPart_154 : decode cX12_endPart 154 = .ok (.imul, 1) := by decide +kernel
theorem dX12_endPart_155 : decode cX12_endPart 155 = .ok (.aload_n 0, 1) := by decide +kernel
theorem dX12_endPart_156 : decode cX12_endPart 156 = .ok (.getfield 287, 3) := by decide +kernel
theorem dX12_endPart_159 : decode cX12_endPart 159 = .ok (.iload 4, 2) := by decide +kernel
theorem dX12_endPart_161 : decode cX12_endPart 161 = .ok (.iaload, 1) := by decide +kernel
theorem dX12_endPart_162 : decode cX12_endPart 162 = .ok (.iadd, 1) := by decide +kernel
theorem dX12_endPart_163 : decode cX12_endPart 163 = .ok (.aload_n 0, 1) := by decide +kernel
theorem dX12_endPart_164 : decode cX12_endPart 164 = .ok (.getfield 284, 3) := by decide +kernel
theorem dX12_endPart_167 : decode cX12_endPart 167 = .ok (.iload_n 3, 1) := by decide +kernel
theorem dX12_endPart_168 : decode cX12_endPart 168 = .ok (.sipush 200, 3) := by decide +kernel
theorem dX12_endPart_171 : decode cX12_endPart 171 = .ok (.imul, 1) := by decide +kernel
theorem dX12_endPart_172 : decode cX12_endPart 172 = .ok (.iload 5, 2) := by decide +kernel
theorem dX12_endPart_174 : decode cX12_endPart 174 = .ok (.iadd, 1) := by decide +kernel
theorem dX12_endPart_175 : decode cX12_endPart 175 = .ok (.iaload, 1) := by decide +kernel
theorem dX12_endPart_176 : decode cX12_endPart 176 = .ok (.iastore, 1) := by decide +kernel
theorem dX12_endPart_177 : decode cX12_endPart 177 = .ok (.aload_n 0, 1) := by decide +kernel
theorem dX12_endPart_178 : decode cX12_endPart 178 = .ok (.getfield 287, 3) := by decide +kernel
theorem dX12_endPart_181 : decode cX12_endPart 181 = .ok (.iload 4, 2) := by decide +kernel
theorem dX12_endPart_183 : decode cX12_endPart 183 = .ok (.dup2, 1) := by decide +kernel
theorem dX12_endPart_184 : decode cX12_endPart 184 = .ok (.iaload, 1) := by decide +kernel
theorem dX12_endPart_185 : decode cX12_endPart 185 = .ok (.iconst 1, 1) := by decide +kernel
theorem dX12_endPart_186 : decode cX12_endPart 186 = .ok (.iadd, 1) := by decide +kernel
theorem dX12_endPart_187 : decode cX12_endPart 187 = .ok (.iastore, 1) := by decide +kernel
theorem dX12_endPart_188 : decode cX12_endPart 188 = .ok (.iinc 5 1, 3) := by decide +kernel
theorem dX12_endPart_191 : decode cX12_endPart 191 = .ok (.goto (-70), 3) := by decide +kernel
theorem dX12_endPart_194 : decode cX12_endPart 194 = .ok (.aload_n 0, 1) := by decide +kernel
theorem dX12_endPart_195 : decode cX12_endPart 195 = .ok (.getfield 202, 3) := by decide +kernel
theorem dX12_endPart_198 : decode cX12_endPart 198 = .ok (.iload_n 1, 1) := by decide +kernel
theorem dX12_endPart_199 : decode cX12_endPart 199 = .ok (.dup2, 1) := by decide +kernel
theorem dX12_endPart_200 : decode cX12_endPart 200 = .ok (.iaload, 1) := by decide +kernel
theorem dX12_endPart_201 : decode cX12_endPart 201 = .ok (.iconst 1, 1) := by decide +kernel
theorem dX12_endPart_202 : decode cX12_endPart 202 = .ok (.isub, 1) := by decide +kernel
theorem dX12_endPart_203 : decode cX12_endPart 203 = .ok (.iastore, 1) := by decide +kernel
theorem dX12_endPart_204 : decode cX12_endPart 204 = .ok (.return_, 1) := by decide +kernel
theorem dX12_newRecord_0 : decode cX12_newRecord 0 = .ok (.aload_n 0, 1) := by decide +kernel
theorem dX12_newRecord_1 : decode cX12_newRecord 1 = .ok (.getfield 338, 3) := by decide +kernel
theorem dX12_newRecord_4 : decode cX12_newRecord 4 = .ok (.sipush 300, 3) := by decide +kernel
theorem dX12_newRecord_7 : decode cX12_newRecord 7 = .ok (.if_icmp .ne 5, 3) := by decide +kernel
theorem dX12_newRecord_10 : decode cX12_newRecord 10 = .ok (.iconst (-1), 1) := by decide +kernel
theorem dX12_newRecord_11 : decode cX12_newRecord 11 = .ok (.ireturn, 1) := by decide +kernel
theorem dX12_newRecord_12 : decode cX12_newRecord 12 = .ok (.aload_n 0, 1) := by decide +kernel
theorem dX12_newRecord_13 : decode cX12_newRecord 13 = .ok (.getfield 296, 3) := by decide +kernel
theorem dX12_newRecord_16 : decode cX12_newRecord 16 = .ok (.aload_n 0, 1) := by decide +kernel
theorem dX12_newRecord_17 : decode cX12_newRecord 17 = .ok (.getfield 338, 3) := by decide +kernel
theorem dX12_newRecord_20 : decode cX12_newRecord 20 = .ok (.iload_n 1, 1) := by decide +kernel
theorem dX12_newRecord_21 : decode cX12_newRecord 21 = .ok (.iastore, 1) := by decide +kernel
theorem dX12_newRecord_22 : decode cX12_newRecord 22 = .ok (.aload_n 0, 1) := by decide +kernel
theorem dX12_newRecord_23 : decode cX12_newRecord 23 = .ok (.getfield 299, 3) := by decide +kernel
theorem dX12_newRecord_26 : decode cX12_newRecord 26 = .ok (.aload_n 0, 1) := by decide +kernel
theorem dX12_newRecord_27 : decode cX12_newRecord 27 = .ok (.getfield 338, 3) := by decide +kernel
theorem dX12_newRecord_30 : decode cX12_newRecord 30 = .ok (.iload_n 2, 1) := by decide +kernel
theorem dX12_newRecord_31 : decode cX12_newRecord 31 = .ok (.iastore, 1) := by decide +kernel
theorem dX12_newRecord_32 : decode cX12_newRecord 32 = .ok (.aload_n 0, 1) := by decide +kernel
theorem dX12_newRecord_33 : decode cX12_newRecord 33 = .ok (.getfield 302, 3) := by decide +kernel
theorem dX12_newRecord_36 : decode cX12_newRecord 36 = .ok (.aload_n 0, 1) := by decide +kernel
theorem dX12_newRecord_37 : decode cX12_newRecord 37 = .ok (.getfield 338, 3) := by decide +kernel
theorem dX12_newRecord_40 : decode cX12_newRecord 40 = .ok (.aload_n 0, 1) := by decide +kernel
theorem dX12_newRecord_41 : decode cX12_newRecord 41 = .ok (.getfield 341, 3) := by decide +kernel
theorem dX12_newRecord_44 : decode cX12_newRecord 44 = .ok (.iastore, 1) := by decide +kernel
theorem dX12_newRecord_45 : decode cX12_newRecord 45 = .ok (.aload_n 0, 1) := by decide +kernel
theorem dX12_newRecord_46 : decode cX12_newRecord 46 = .ok (.getfield 338, 3) := by decide +kernel
theorem dX12_newRecord_49 : decode cX12_newRecord 49 = .ok (.bipush 26, 2) := by decide +kernel
theorem dX12_newRecord_51 : decode cX12_newRecord 51 = .ok (.imul, 1) := by decide +kernel
theorem dX12_newRecord_52 : decode cX12_newRecord 52 = .ok (.istore_n 3, 1) := by decide +kernel
theorem dX12_newRecord_53 : decode cX12_newRecord 53 = .ok (.iload_n 3, 1) := by decide +kernel
theorem dX12_newRecord_54 : decode cX12_newRecord 54 = .ok (.aload_n 0, 1) := by decide +kernel
theorem dX12_newRecord_55 : decode cX12_newRecord 55 = .ok (.getfield 338, 3) := by decide +kernel
theorem dX12_newRecord_58 : decode cX12_newRecord 58 = .ok (.bipush 26, 2) := by decide +kernel
theorem dX12_newRecord_60 : decode cX12_newRecord 60 = .ok (.imul, 1) := by decide +kernel
theorem dX12_newRecord_61 : decode cX12_newRecord 61 = .ok (.bipush 26, 2) := by decide +kernel
theorem dX12_newRecord_63 : decode cX12_newRecord 63 = .ok (.iadd, 1) := by decide +kernel
theorem dX12_newRecord_64 : decode cX12_newRecord 64 = .ok (.if_icmp .ge 23, 3) := by decide +kernel
theorem dX12_newRecord_67 : decode cX12_newRecord 67 = .ok (.aload_n 0, 1) := by decide +kernel
theorem dX12_newRecord_68 : decode cX12_newRecord 68 = .ok (.getfield 311, 3) := by decide +kernel
theorem dX12_newRecord_71 : decode cX12_newRecord 71 = .ok (.iload_n 3, 1) := by decide +kernel
theorem dX12_newRecord_72 : decode cX12_newRecord 72 = .ok (.iconst 0, 1) := by decide +kernel
theorem dX12_newRecord_73 : decode cX12_newRecord 73 = .ok (.bastore, 1) := by decide +kernel
theorem dX12_newRecord_74 : decode cX12_newRecord 74 = .ok (.aload_n 0, 1) := by decide +kernel
theorem dX12_newRecord_75 : decode cX12_newRecord 75 = .ok (.getfield 314, 3) := by decide +kernel
theorem dX12_newRecord_78 : decode cX12_newRecord 78 = .ok (.iload_n 3, 1) := by decide +kernel
theorem dX12_newRecord_79 : decode cX12_newRecord 79 = .ok (.iconst 0, 1) := by decide +kernel
theorem dX12_newRecord_80 : decode cX12_newRecord 80 = .ok (.bastore, 1) := by decide +kernel
theorem dX12_newRecord_81 : decode cX12_newRecord 81 = .ok (.iinc 3 1, 3) := by decide +kernel
theorem dX12_newRecord_84 : decode cX12_newRecord 84 = .ok (.goto (-31), 3) := by decide +kernel
theorem dX12_newRecord_87 : decode cX12_newRecord 87 = .ok (.aload_n 0, 1) := by decide +kernel
theorem dX12_newRecord_88 : decode cX12_newRecord 88 = .ok (.dup, 1) := by decide +kernel
theorem dX12_newRecord_89 : decode cX12_newRecord 89 = .ok (.getfield 338, 3) := by decide +kernel
theorem dX12_newRecord_92 : decode cX12_newRecord 92 = .ok (.iconst 1, 1) := by decide +kernel
theorem dX12_newRecord_93 : decode cX12_newRecord 93 = .ok (.iadd, 1) := by decide +kernel
theorem dX12_newRecord_94 : decode cX12_newRecord 94 = .ok (.putfield 338, 3) := by decide +kernel
theorem dX12_newRecord_97 : decode cX12_newRecord 97 = .ok (.aload_n 0, 1) := by decide +kernel
theorem dX12_newRecord_98 : decode cX12_newRecord 98 = .ok (.getfield 338, 3) := by decide +kernel
theorem dX12_newRecord_101 : decode cX12_newRecord 101 = .ok (.iconst 1, 1) := by decide +kernel
theorem dX12_newRecord_102 : decode cX12_newRecord 102 = .ok (.isub, 1) := by decide +kernel
theorem dX12_newRecord_103 : decode cX12_newRecord 103 = .ok (.ireturn, 1) := by decide +kernel
theorem dX12_pop_0 : decode cX12_pop 0 = .ok (.aload_n 0, 1) := by decide +kernel
theorem dX12_pop_1 : decode cX12_pop 1 = .ok (.getfield 199, 3) := by decide +kernel
theorem dX12_pop_4 : decode cX12_pop 4 = .ok (.iload_n 1, 1) := by decide +kernel
theorem dX12_pop_5 : decode cX12_pop 5 = .ok (.dup2, 1) := by decide +kernel
theorem dX12_pop_6 : decode cX12_pop 6 = .ok (.iaload, 1) := by decide +kernel
theorem dX12_pop_7 : decode cX12_pop 7 = .ok (.iconst 1, 1) := by decide +kernel
theorem dX12_pop_8 : decode cX12_pop 8 = .ok (.isub, 1) := by decide +kernel
theorem dX12_pop_9 : decode cX12_pop 9 = .ok (.iastore, 1) := by decide +kernel
theorem dX12_pop_10 : decode cX12_pop 10 = .ok (.aload_n 0, 1) := by decide +kernel
theorem dX12_pop_11 : decode cX12_pop 11 = .ok (.getfield 196, 3) := by decide +kernel
theorem dX12_pop_14 : decode cX12_pop 14 = .ok (.iload_n 1, 1) := by decide +kernel
theorem dX12_pop_15 : decode cX12_pop 15 = .ok (.bipush 64, 2) := by decide +kernel
theorem dX12_pop_17 : decode cX12_pop 17 = .ok (.imul, 1) := by decide +kernel
theorem dX12_pop_18 : decode cX12_pop 18 = .ok (.aload_n 0, 1) := by decide +kernel
theorem dX12_pop_19 : decode cX12_pop 19 = .ok (.getfield 199, 3) := by decide +kernel
theorem dX12_pop_22 : decode cX12_pop 22 = .ok (.iload_n 1, 1) := by decide +kernel
theorem dX12_pop_23 : decode cX12_pop 23 = .ok (.iaload, 1) := by decide +kernel
theorem dX12_pop_24 : decode cX12_pop 24 = .ok (.iadd, 1) := by decide +kernel
theorem dX12_pop_25 : decode cX12_pop 25 = .ok (.iaload, 1) := by decide +kernel
theorem dX12_pop_26 : decode cX12_pop 26 = .ok (.ireturn, 1) := by decide +kernel
theorem dX12_push_0 : decode cX12_push 0 = .ok (.aload_n 0, 1) := by decide +kernel
theorem dX12_push_1 : decode cX12_push 1 = .ok (.getfield 196, 3) := by decide +kernel
theorem dX12_push_4 : decode cX12_push 4 = .ok (.iload_n 1, 1) := by decide +kernel
theorem dX12_push_5 : decode cX12_push 5 = .ok (.bipush 64, 2) := by decide +kernel
theorem dX12_push_7 : decode cX12_push 7 = .ok (.imul, 1) := by decide +kernel
theorem dX12_push_8 : decode cX12_push 8 = .ok (.aload_n 0, 1) := by decide +kernel
theorem dX12_push_9 : decode cX12_push 9 = .ok (.getfield 199, 3) := by decide +kernel
theorem dX12_push_12 : decode cX12_push 12 = .ok (.iload_n 1, 1) := by decide +kernel
theorem dX12_push_13 : decode cX12_push 13 = .ok (.iaload, 1) := by decide +kernel
theorem dX12_push_14 : decode cX12_push 14 = .ok (.iadd, 1) := by decide +kernel
theorem dX12_push_15 : decode cX12_push 15 = .ok (.iload_n 2, 1) := by decide +kernel
theorem dX12_push_16 : decode cX12_push 16 = .ok (.iastore, 1) := by decide +kernel
theorem dX12_push_17 : decode cX12_push 17 = .ok (.aload_n 0, 1) := by decide +kernel
theorem dX12_push_18 : decode cX12_push 18 = .ok (.getfield 199, 3) := by decide +kernel
theorem dX12_push_21 : decode cX12_push 21 = .ok (.iload_n 1, 1) := by decide +kernel
theorem dX12_push_22 : decode cX12_push 22 = .ok (.dup2, 1) := by decide +kernel
theorem dX12_push_23 : decode cX12_push 23 = .ok (.iaload, 1) := by decide +kernel
theorem dX12_push_24 : decode cX12_push 24 = .ok (.iconst 1, 1) := by decide +kernel
theorem dX12_push_25 : decode cX12_push 25 = .ok (.iadd, 1) := by decide +kernel
theorem dX12_push_26 : decode cX12_push 26 = .ok (.iastore, 1) := by decide +kernel
theorem dX12_push_27 : decode cX12_push 27 = .ok (.return_, 1) := by decide +kernel
theorem dX12_isBusy_0 : decode cX12_isBusy 0 = .ok (.aload_n 0, 1) := by decide +kernel
theorem dX12_isBusy_1 : decode cX12_isBusy 1 = .ok (.getfield 332, 3) := by decide +kernel
theorem dX12_isBusy_4 : decode cX12_isBusy 4 = .ok (.iconst 4, 1) := by decide +kernel
theorem dX12_isBusy_5 : decode cX12_isBusy 5 = .ok (.if_icmp .eq 5, 3) := by decide +kernel
theorem dX12_isBusy_8 : decode cX12_isBusy 8 = .ok (.iconst 0, 1) := by decide +kernel
theorem dX12_isBusy_9 : decode cX12_isBusy 9 = .ok (.ireturn, 1) := by decide +kernel
theorem dX12_isBusy_10 : decode cX12_isBusy 10 = .ok (.iconst 0, 1) := by decide +kernel
theorem dX12_isBusy_11 : decode cX12_isBusy 11 = .ok (.istore_n 2, 1) := by decide +kernel
theorem dX12_isBusy_12 : decode cX12_isBusy 12 = .ok (.iload_n 2, 1) := by decide +kernel
theorem dX12_isBusy_13 : decode cX12_isBusy 13 = .ok (.bipush 6, 2) := by decide +kernel
theorem dX12_isBusy_15 : decode cX12_isBusy 15 = .ok (.if_icmp .ge 26, 3) := by decide +kernel
theorem dX12_isBusy_18 : decode cX12_isBusy 18 = .ok (.iload_n 2, 1) := by decide +kernel
theorem dX12_isBusy_19 : decode cX12_isBusy 19 = .ok (.iload_n 1, 1) := by decide +kernel
theorem dX12_isBusy_20 : decode cX12_isBusy 20 = .ok (.if_icmp .eq 15, 3) := by decide +kernel
theorem dX12_isBusy_23 : decode cX12_isBusy 23 = .ok (.aload_n 0, 1) := by decide +kernel
theorem dX12_isBusy_24 : decode cX12_isBusy 24 = .ok (.getfield 187, 3) := by decide +kernel
theorem dX12_isBusy_27 : decode cX12_isBusy 27 = .ok (.iload_n 2, 1) := by decide +kernel
theorem dX12_isBusy_28 : decode cX12_isBusy 28 = .ok (.iaload, 1) := by decide +kernel
theorem dX12_isBusy_29 : decode cX12_isBusy 29 = .ok (.iconst 2, 1) := by decide +kernel
theorem dX12_isBusy_30 : decode cX12_isBusy 30 = .ok (.if_icmp .ne 5, 3) := by decide +kernel
theorem dX12_isBusy_33 : decode cX12_isBusy 33 = .ok (.iconst 1, 1) := by decide +kernel
theorem dX12_isBusy_34 : decode cX12_isBusy 34 = .ok (.ireturn, 1) := by decide +kernel
theorem dX12_isBusy_35 : decode cX12_isBusy 35 = .ok (.iinc 2 1, 3) := by decide +kernel
theorem dX12_isBusy_38 : decode cX12_isBusy 38 = .ok (.goto (-26), 3) := by decide +kernel
theorem dX12_isBusy_41 : decode cX12_isBusy 41 = .ok (.iconst 0, 1) := by decide +kernel
theorem dX12_isBusy_42 : decode cX12_isBusy 42 = .ok (.ireturn, 1) := by decide +kernel
theorem dX12_beginBlock_0 : decode cX12_beginBlock 0 = .ok (.iload_n 2, 1) := by decide +kernel
theorem dX12_beginBlock_1 : decode cX12_beginBlock 1 = .ok (.iconst 2, 1) := by decide +kernel
theorem dX12_beginBlock_2 : decode cX12_beginBlock 2 = .ok (.irem, 1) := by decide +kernel
theorem dX12_beginBlock_3 : decode cX12_beginBlock 3 = .ok (.iconst 1, 1) := by decide +kernel
theorem dX12_beginBlock_4 : decode cX12_beginBlock 4 = .ok (.if_icmp .ne 7, 3) := by decide +kernel
theorem dX12_beginBlock_7 : decode cX12_beginBlock 7 = .ok (.iconst 1, 1) := by decide +kernel
theorem dX12_beginBlock_8 : decode cX12_beginBlock 8 = .ok (.goto 4, 3) := by decide +kernel
theorem dX12_beginBlock_11 : decode cX12_beginBlock 11 = .ok (.iconst 0, 1) := by decide +kernel
theorem dX12_beginBlock_12 : decode cX12_beginBlock 12 = .ok (.istore 4, 2) := by decide +kernel
theorem dX12_beginBlock_14 : decode cX12_beginBlock 14 = .ok (.iload_n 2, 1) := by decide +kernel
theorem dX12_beginBlock_15 : decode cX12_beginBlock 15 = .ok (.iconst 2, 1) := by decide +kernel
theorem dX12_beginBlock_16 : decode cX12_beginBlock 16 = .ok (.idiv, 1) := by decide +kernel
theorem dX12_beginBlock_17 : decode cX12_beginBlock 17 = .ok (.iconst 1, 1) := by decide +kernel
theorem dX12_beginBlock_18 : decode cX12_beginBlock 18 = .ok (.isub, 1) := by decide +kernel
theorem dX12_beginBlock_19 : decode cX12_beginBlock 19 = .ok (.istore 5, 2) := by decide +kernel
theorem dX12_beginBlock_21 : decode cX12_beginBlock 21 = .ok (.aload_n 0, 1) := by decide +kernel
theorem dX12_beginBlock_22 : decode cX12_beginBlock 22 = .ok (.getfield 187, 3) := by decide +kernel
theorem dX12_beginBlock_25 : decode cX12_beginBlock 25 = .ok (.iload_n 1, 1) := by decide +kernel
theorem dX12_beginBlock_26 : decode cX12_beginBlock 26 = .ok (.iaload, 1) := by decide +kernel
theorem dX12_beginBlock_27 : decode cX12_beginBlock 27 = .ok (.iconst 2, 1) := by decide +kernel
theorem dX12_beginBlock_28 : decode cX12_beginBlock 28 = .ok (.if_icmp .eq 124, 3) := by decide +kernel
theorem dX12_beginBlock_31 : decode cX12_beginBlock 31 = .ok (.aload_n 0, 1) := by decide +kernel
theorem dX12_beginBlock_32 : decode cX12_beginBlock 32 = .ok (.iload_n 1, 1) := by decide +kernel
theorem dX12_beginBlock_33 : decode cX12_beginBlock 33 = .ok (.invokevirtual 431, 3) := by decide +kernel
theorem dX12_beginBlock_36 : decode cX12_beginBlock 36 = .ok (.ifCond .eq 5, 3) := by decide +kernel
theorem dX12_beginBlock_39 : decode cX12_beginBlock 39 = .ok (.iconst 4, 1) := by decide +kernel
theorem dX12_beginBlock_40 : decode cX12_beginBlock 40 = .ok (.ireturn, 1) := by decide +kernel
theorem dX12_beginBlock_41 : decode cX12_beginBlock 41 = .ok (.aload_n 0, 1) := by decide +kernel
theorem dX12_beginBlock_42 : decode cX12_beginBlock 42 = .ok (.getfield 190, 3) := by decide +kernel
theorem dX12_beginBlock_45 : decode cX12_beginBlock 45 = .ok (.iload_n 1, 1) := by decide +kernel
theorem dX12_beginBlock_46 : decode cX12_beginBlock 46 = .ok (.dup2, 1) := by decide +kernel
theorem dX12_beginBlock_47 : decode cX12_beginBlock 47 = .ok (.iaload, 1) := by decide +kernel
theorem dX12_beginBlock_48 : decode cX12_beginBlock 48 = .ok (.iconst 1, 1) := by decide +kernel
theorem dX12_beginBlock_49 : decode cX12_beginBlock 49 = .ok (.iadd, 1) := by decide +kernel
theorem dX12_beginBlock_50 : decode cX12_beginBlock 50 = .ok (.iastore, 1) := by decide +kernel
theorem dX12_beginBlock_51 : decode cX12_beginBlock 51 = .ok (.aload_n 0, 1) := by decide +kernel
theorem dX12_beginBlock_52 : decode cX12_beginBlock 52 = .ok (.iload_n 1, 1) := by decide +kernel
theorem dX12_beginBlock_53 : decode cX12_beginBlock 53 = .ok (.iload 5, 2) := by decide +kernel
theorem dX12_beginBlock_55 : decode cX12_beginBlock 55 = .ok (.iload_n 3, 1) := by decide +kernel
theorem dX12_beginBlock_56 : decode cX12_beginBlock 56 = .ok (.invokevirtual 434, 3) := by decide +kernel
theorem dX12_beginBlock_59 : decode cX12_beginBlock 59 = .ok (.aload_n 0, 1) := by decide +kernel
theorem dX12_beginBlock_60 : decode cX12_beginBlock 60 = .ok (.getfield 229, 3) := by decide +kernel
theorem dX12_beginBlock_63 : decode cX12_beginBlock 63 = .ok (.aload_n 0, 1) := by decide +kernel
theorem dX12_beginBlock_64 : decode cX12_beginBlock 64 = .ok (.iload_n 1, 1) := by decide +kernel
theorem dX12_beginBlock_65 : decode cX12_beginBlock 65 = .ok (.aload_n 0, 1) := by decide +kernel
theorem dX12_beginBlock_66 : decode cX12_beginBlock 66 = .ok (.getfield 205, 3) := by decide +kernel
theorem dX12_beginBlock_69 : decode cX12_beginBlock 69 = .ok (.iload_n 1, 1) := by decide +kernel
theorem dX12_beginBlock_70 : decode cX12_beginBlock 70 = .ok (.iaload, 1) := by decide +kernel
theorem dX12_beginBlock_71 : decode cX12_beginBlock 71 = .ok (.invokevirtual 360, 3) := by decide +kernel
theorem dX12_beginBlock_74 : decode cX12_beginBlock 74 = .ok (.iconst 0, 1) := by decide +kernel
theorem dX12_beginBlock_75 : decode cX12_beginBlock 75 = .ok (.iastore, 1) := by decide +kernel
theorem dX12_beginBlock_76 : decode cX12_beginBlock 76 = .ok (.aload_n 0, 1) := by decide +kernel
theorem dX12_beginBlock_77 : decode cX12_beginBlock 77 = .ok (.getfield 205, 3) := by decide +kernel
theorem dX12_beginBlock_80 : decode cX12_beginBlock 80 = .ok (.iload_n 1, 1) := by decide +kernel
theorem dX12_beginBlock_81 : decode cX12_beginBlock 81 = .ok (.dup2, 1) := by decide +kernel
theorem dX12_beginBlock_82 : decode cX12_beginBlock 82 = .ok (.iaload, 1) := by decide +kernel
theorem dX12_beginBlock_83 : decode cX12_beginBlock 83 = .ok (.iconst 1, 1) := by decide +kernel
theorem dX12_beginBlock_84 : decode cX12_beginBlock 84 = .ok (.iadd, 1) := by decide +kernel
theorem dX12_beginBlock_85 : decode cX12_beginBlock 85 = .ok (.iastore, 1) := by decide +kernel
theorem dX12_beginBlock_86 : decode cX12_beginBlock 86 = .ok (.aload_n 0, 1) := by decide +kernel
theorem dX12_beginBlock_87 : decode cX12_beginBlock 87 = .ok (.getfield 253, 3) := by decide +kernel
theorem dX12_beginBlock_90 : decode cX12_beginBlock 90 = .ok (.aload_n 0, 1) := by decide +kernel
theorem dX12_beginBlock_91 : decode cX12_beginBlock 91 = .ok (.iload_n 1, 1) := by decide +kernel
theorem dX12_beginBlock_92 : decode cX12_beginBlock 92 = .ok (.iconst 0, 1) := by decide +kernel
theorem dX12_beginBlock_93 : decode cX12_beginBlock 93 = .ok (.invokevirtual 360, 3) := by decide +kernel
theorem dX12_beginBlock_96 : decode cX12_beginBlock 96 = .ok (.aload_n 0, 1) := by decide +kernel
theorem dX12_beginBlock_97 : decode cX12_beginBlock 97 = .ok (.getfield 205, 3) := by decide +kernel
theorem dX12_beginBlock_100 : decode cX12_beginBlock 100 = .ok (.iload_n 1, 1) := by decide +kernel
theorem dX12_beginBlock_101 : decode cX12_beginBlock 101 = .ok (.iaload, 1) := by decide +kernel
theorem dX12_beginBlock_102 : decode cX12_beginBlock 102 = .ok (.iastore, 1) := by decide +kernel
theorem dX12_beginBlock_103 : decode cX12_beginBlock 103 = .ok (.aload_n 0, 1) := by decide +kernel
theorem dX12_beginBlock_104 : decode cX12_beginBlock 104 = .ok (.getfield 187, 3) := by decide +kernel
theorem dX12_beginBlock_107 : decode cX12_beginBlock 107 = .ok (.iload_n 1, 1) := by decide +kernel
theorem dX12_beginBlock_108 : decode cX12_beginBlock 108 = .ok (.iconst 2, 1) := by decide +kernel
theorem dX12_beginBlock_109 : decode cX12_beginBlock 109 = .ok (.iastore, 1) := by decide +kernel
theorem dX12_beginBlock_110 : decode cX12_beginBlock 110 = .ok (.aload_n 0, 1) := by decide +kernel
theorem dX12_beginBlock_111 : decode cX12_beginBlock 111 = .ok (.getfield 214, 3) := by decide +kernel
theorem dX12_beginBlock_114 : decode cX12_beginBlock 114 = .ok (.iload_n 1, 1) := by decide +kernel
theorem dX12_beginBlock_115 : decode cX12_beginBlock 115 = .ok (.aload_n 0, 1) := by decide +kernel
theorem dX12_beginBlock_116 : decode cX12_beginBlock 116 = .ok (.getfield 148, 3) := by decide +kernel
theorem dX12_beginBlock_119 : decode cX12_beginBlock 119 = .ok (.iastore, 1) := by decide +kernel
theorem dX12_beginBlock_120 : decode cX12_beginBlock 120 = .ok (.aload_n 0, 1) := by decide +kernel
theorem dX12_beginBlock_121 : decode cX12_beginBlock 121 = .ok (.getfield 223, 3) := by decide +kernel
theorem dX12_beginBlock_124 : decode cX12_beginBlock 124 = .ok (.iload_n 1, 1) := by decide +kernel
theorem dX12_beginBlock_125 : decode cX12_beginBlock 125 = .ok (.aload_n 0, 1) := by decide +kernel
theorem dX12_beginBlock_126 : decode cX12_beginBlock 126 = .ok (.getfield 344, 3) := by decide +kernel
theorem dX12_beginBlock_129 : decode cX12_beginBlock 129 = .ok (.iastore, 1) := by decide +kernel
theorem dX12_beginBlock_130 : decode cX12_beginBlock 130 = .ok (.aload_n 0, 1) := by decide +kernel
theorem dX12_beginBlock_131 : decode cX12_beginBlock 131 = .ok (.dup, 1) := by decide +kernel
theorem dX12_beginBlock_132 : decode cX12_beginBlock 132 = .ok (.getfield 344, 3) := by decide +kernel
theorem dX12_beginBlock_135 : decode cX12_beginBlock 135 = .ok (.iconst 1, 1) := by decide +kernel
theorem dX12_beginBlock_136 : decode cX12_beginBlock 136 = .ok (.iadd, 1) := by decide +kernel
theorem dX12_beginBlock_137 : decode cX12_beginBlock 137 = .ok (.putfield 344, 3) := by decide +kernel
theorem dX12_beginBlock_140 : decode cX12_beginBlock 140 = .ok (.aload_n 0, 1) := by decide +kernel
theorem dX12_beginBlock_141 : decode cX12_beginBlock 141 = .ok (.getfield 226, 3) := by decide +kernel
theorem dX12_beginBlock_144 : decode cX12_beginBlock 144 = .ok (.iload_n 1, 1) := by decide +kernel
theorem dX12_beginBlock_145 : decode cX12_beginBlock 145 = .ok (.aload_n 0, 1) := by decide +kernel
theorem dX12_beginBlock_146 : decode cX12_beginBlock 146 = .ok (.getfield 341, 3) := by decide +kernel
theorem dX12_beginBlock_149 : decode cX12_beginBlock 149 = .ok (.iastore, 1) := by decide +kernel
theorem dX12_beginBlock_150 : decode cX12_beginBlock 150 = .ok (.iconst 0, 1) := by decide +kernel
theorem dX12_beginBlock_151 : decode cX12_beginBlock 151 = .ok (.ireturn, 1) := by decide +kernel
theorem dX12_beginBlock_152 : decode cX12_beginBlock 152 = .ok (.aload_n 0, 1) := by decide +kernel
theorem dX12_beginBlock_153 : decode cX12_beginBlock 153 = .ok (.getfield 190, 3) := by decide +kernel
theorem dX12_beginBlock_156 : decode cX12_beginBlock 156 = .ok (.iload_n 1, 1) := by decide +kernel
theorem dX12_beginBlock_157 : decode cX12_beginBlock 157 = .ok (.dup2, 1) := by decide +kernel
theorem dX12_beginBlock_158 : decode cX12_beginBlock 158 = .ok (.iaload, 1) := by decide +kernel
theorem dX12_beginBlock_159 : decode cX12_beginBlock 159 = .ok (.iconst 1, 1) := by decide +kernel
theorem dX12_beginBlock_160 : decode cX12_beginBlock 160 = .ok (.iadd, 1) := by decide +kernel
theorem dX12_beginBlock_161 : decode cX12_beginBlock 161 = .ok (.iastore, 1) := by decide +kernel
theorem dX12_beginBlock_162 : decode cX12_beginBlock 162 = .ok (.iload 4, 2) := by decide +kernel
theorem dX12_beginBlock_164 : decode cX12_beginBlock 164 = .ok (.ifCond .eq 8, 3) := by decide +kernel
theorem dX12_beginBlock_167 : decode cX12_beginBlock 167 = .ok (.iload 5, 2) := by decide +kernel
theorem dX12_beginBlock_169 : decode cX12_beginBlock 169 = .ok (.ifCond .lt 7, 3) := by decide +kernel
theorem dX12_beginBlock_172 : decode cX12_beginBlock 172 = .ok (.iconst 1, 1) := by decide +kernel
theorem dX12_beginBlock_173 : decode cX12_beginBlock 173 = .ok (.goto 4, 3) := by decide +kernel
theorem dX12_beginBlock_176 : decode cX12_beginBlock 176 = .ok (.iconst 0, 1) := by decide +kernel
theorem dX12_beginBlock_177 : decode cX12_beginBlock 177 = .ok (.istore 6, 2) := by decide +kernel
theorem dX12_beginBlock_179 : decode cX12_beginBlock 179 = .ok (.aload_n 0, 1) := by decide +kernel
theorem dX12_beginBlock_180 : decode cX12_beginBlock 180 = .ok (.getfield 229, 3) := by decide +kernel
theorem dX12_beginBlock_183 : decode cX12_beginBlock 183 = .ok (.aload_n 0, 1) := by decide +kernel
theorem dX12_beginBlock_184 : decode cX12_beginBlock 184 = .ok (.iload_n 1, 1) := by decide +kernel
theorem dX12_beginBlock_185 : decode cX12_beginBlock 185 = .ok (.aload_n 0, 1) := by decide +kernel
theorem dX12_beginBlock_186 : decode cX12_beginBlock 186 = .ok (.getfield 205, 3) := by decide +kernel
theorem dX12_beginBlock_189 : decode cX12_beginBlock 189 = .ok (.iload_n 1, 1) := by decide +kernel
theorem dX12_beginBlock_190 : decode cX12_beginBlock 190 = .ok (.iaload, 1) := by decide +kernel
theorem dX12_beginBlock_191 : decode cX12_beginBlock 191 = .ok (.invokevirtual 360, 3) := by decide +kernel
theorem dX12_beginBlock_194 : decode cX12_beginBlock 194 = .ok (.iload 6, 2) := by decide +kernel
theorem dX12_beginBlock_196 : decode cX12_beginBlock 196 = .ok (.ifCond .eq 12, 3) := by decide +kernel
theorem dX12_beginBlock_199 : decode cX12_beginBlock 199 = .ok (.aload_n 0, 1) := by decide +kernel
theorem dX12_beginBlock_200 : decode cX12_beginBlock 200 = .ok (.getfield 202, 3) := by decide +kernel
theorem dX12_beginBlock_203 : decode cX12_beginBlock 203 = .ok (.iload_n 1, 1) := by decide +kernel
theorem dX12_beginBlock_204 : decode cX12_beginBlock 204 = .ok (.iaload, 1) := by decide +kernel
theorem dX12_beginBlock_205 : decode cX12_beginBlock 205 = .ok (.goto 4, 3) := by decide +kernel
theorem dX12_beginBlock_208 : decode cX12_beginBlock 208 = .ok (.iconst (-1), 1) := by decide +kernel
theorem dX12_beginBlock_209 : decode cX12_beginBlock 209 = .ok (.iastore, 1) := by decide +kernel
theorem dX12_beginBlock_210 : decode cX12_beginBlock 210 = .ok (.aload_n 0, 1) := by decide +kernel
theorem dX12_beginBlock_211 : decode cX12_beginBlock 211 = .ok (.getfield 205, 3) := by decide +kernel
theorem dX12_beginBlock_214 : decode cX12_beginBlock 214 = .ok (.iload_n 1, 1) := by decide +kernel
theorem dX12_beginBlock_215 : decode cX12_beginBlock 215 = .ok (.dup2, 1) := by decide +kernel
theorem dX12_beginBlock_216 : decode cX12_beginBlock 216 = .ok (.iaload, 1) := by decide +kernel
theorem dX12_beginBlock_217 : decode cX12_beginBlock 217 = .ok (.iconst 1, 1) := by decide +kernel
theorem dX12_beginBlock_218 : decode cX12_beginBlock 218 = .ok (.iadd, 1) := by decide +kernel
theorem dX12_beginBlock_219 : decode cX12_beginBlock 219 = .ok (.iastore, 1) := by decide +kernel
theorem dX12_beginBlock_220 : decode cX12_beginBlock 220 = .ok (.iload 6, 2) := by decide +kernel
theorem dX12_beginBlock_222 : decode cX12_beginBlock 222 = .ok (.ifCond .eq 11, 3) := by decide +kernel
theorem dX12_beginBlock_225 : decode cX12_beginBlock 225 = .ok (.aload_n 0, 1) := by decide +kernel
theorem dX12_beginBlock_226 : decode cX12_beginBlock 226 = .ok (.iload_n 1, 1) := by decide +kernel
theorem dX12_beginBlock_227 : decode cX12_beginBlock 227 = .ok (.iload 5, 2) := by decide +kernel
theorem dX12_beginBlock_229 : decode cX12_beginBlock 229 = .ok (.iload_n 3, 1) := by decide +kernel
theorem dX12_beginBlock_230 : decode cX12_beginBlock 230 = .ok (.invokevirtual 434, 3) := by decide +kernel
theorem dX12_beginBlock_233 : decode cX12_beginBlock 233 = .ok (.iconst (-1), 1) := by decide +kernel
theorem dX12_beginBlock_234 : decode cX12_beginBlock 234 = .ok (.ireturn, 1) := by decide +kernel
theorem dX12_hold_0 : decode cX12_hold 0 = .ok (.aload_n 0, 1) := by decide +kernel
theorem dX12_hold_1 : decode cX12_hold 1 = .ok (.getfield 287, 3) := by decide +kernel
theorem dX12_hold_4 : decode cX12_hold 4 = .ok (.iload_n 1, 1) := by decide +kernel
theorem dX12_hold_5 : decode cX12_hold 5 = .ok (.iaload, 1) := by decide +kernel
theorem dX12_hold_6 : decode cX12_hold 6 = .ok (.sipush 200, 3) := by decide +kernel
theorem dX12_hold_9 : decode cX12_hold 9 = .ok (.if_icmp .ne 4, 3) := by decide +kernel
theorem dX12_hold_12 : decode cX12_hold 12 = .ok (.return_, 1) := by decide +kernel
theorem dX12_hold_13 : decode cX12_hold 13 = .ok (.aload_n 0, 1) := by decide +kernel
theorem dX12_hold_14 : decode cX12_hold 14 = .ok (.getfield 284, 3) := by decide +kernel
theorem dX12_hold_17 : decode cX12_hold 17 = .ok (.iload_n 1, 1) := by decide +kernel
theorem dX12_hold_18 : decode cX12_hold 18 = .ok (.sipush 200, 3) := by decide +kernel
theorem dX12_hold_21 : decode cX12_hold 21 = .ok (.imul, 1) := by decide +kernel
theorem dX12_hold_22 : decode cX12_hold 22 = .ok (.aload_n 0, 1) := by decide +kernel
theorem dX12_hold_23 : decode cX12_hold 23 = .ok (.getfield 287, 3) := by decide +kernel
theorem dX12_hold_26 : decode cX12_hold 26 = .ok (.iload_n 1, 1) := by decide +kernel
theorem dX12_hold_27 : decode cX12_hold 27 = .ok (.iaload, 1) := by decide +kernel
theorem dX12_hold_28 : decode cX12_hold 28 = .ok (.iadd, 1) := by decide +kernel
theorem dX12_hold_29 : decode cX12_hold 29 = .ok (.iload_n 2, 1) := by decide +kernel
theorem dX12_hold_30 : decode cX12_hold 30 = .ok (.iastore, 1) := by decide +kernel
theorem dX12_hold_31 : decode cX12_hold 31 = .ok (.aload_n 0, 1) := by decide +kernel
theorem dX12_hold_32 : decode cX12_hold 32 = .ok (.getfield 287, 3) := by decide +kernel
theorem dX12_hold_35 : decode cX12_hold 35 = .ok (.iload_n 1, 1) := by decide +kernel
theorem dX12_hold_36 : decode cX12_hold 36 = .ok (.dup2, 1) := by decide +kernel
theorem dX12_hold_37 : decode cX12_hold 37 = .ok (.iaload, 1) := by decide +kernel
theorem dX12_hold_38 : decode cX12_hold 38 = .ok (.iconst 1, 1) := by decide +kernel
theorem dX12_hold_39 : decode cX12_hold 39 = .ok (.iadd, 1) := by decide +kernel
theorem dX12_hold_40 : decode cX12_hold 40 = .ok (.iastore, 1) := by decide +kernel
theorem dX12_hold_41 : decode cX12_hold 41 = .ok (.return_, 1) := by decide +kernel
theorem dX12_wakes_0 : decode cX12_wakes 0 = .ok (.iconst 0, 1) := by decide +kernel
theorem dX12_wakes_1 : decode cX12_wakes 1 = .ok (.istore_n 2, 1) := by decide +kernel
theorem dX12_wakes_2 : decode cX12_wakes 2 = .ok (.iload_n 2, 1) := by decide +kernel
theorem dX12_wakes_3 : decode cX12_wakes 3 = .ok (.bipush 26, 2) := by decide +kernel
theorem dX12_wakes_5 : decode cX12_wakes 5 = .ok (.if_icmp .ge 59, 3) := by decide +kernel
theorem dX12_wakes_8 : decode cX12_wakes 8 = .ok (.aload_n 0, 1) := by decide +kernel
theorem dX12_wakes_9 : decode cX12_wakes 9 = .ok (.iload_n 1, 1) := by decide +kernel
theorem dX12_wakes_10 : decode cX12_wakes 10 = .ok (.iconst 0, 1) := by decide +kernel
theorem dX12_wakes_11 : decode cX12_wakes 11 = .ok (.iload_n 2, 1) := by decide +kernel
theorem dX12_wakes_12 : decode cX12_wakes 12 = .ok (.invokevirtual 357, 3) := by decide +kernel
theorem dX12_wakes_15 : decode cX12_wakes 15 = .ok (.istore_n 3, 1) := by decide +kernel
theorem dX12_wakes_16 : decode cX12_wakes 16 = .ok (.aload_n 0, 1) := by decide +kernel
theorem dX12_wakes_17 : decode cX12_wakes 17 = .ok (.getfield 266, 3) := by decide +kernel
theorem dX12_wakes_20 : decode cX12_wakes 20 = .ok (.iload_n 3, 1) := by decide +kernel
theorem dX12_wakes_21 : decode cX12_wakes 21 = .ok (.baload, 1) := by decide +kernel
theorem dX12_wakes_22 : decode cX12_wakes 22 = .ok (.ifCond .eq 36, 3) := by decide +kernel
theorem dX12_wakes_25 : decode cX12_wakes 25 = .ok (.aload_n 0, 1) := by decide +kernel
theorem dX12_wakes_26 : decode cX12_wakes 26 = .ok (.getfield 151, 3) := by decide +kernel
theorem dX12_wakes_29 : decode cX12_wakes 29 = .ok (.iload_n 2, 1) := by decide +kernel
theorem dX12_wakes_30 : decode cX12_wakes 30 = .ok (.iaload, 1) := by decide +kernel
theorem dX12_wakes_31 : decode cX12_wakes 31 = .ok (.aload_n 0, 1) := by decide +kernel
theorem dX12_wakes_32 : decode cX12_wakes 32 = .ok (.getfield 272, 3) := by decide +kernel
theorem dX12_wakes_35 : decode cX12_wakes 35 = .ok (.iload_n 3, 1) := by decide +kernel
theorem dX12_wakes_36 : decode cX12_wakes 36 = .ok (.iaload, 1) := by decide +kernel
theorem dX12_wakes_37 : decode cX12_wakes 37 = .ok (.if_icmp .eq 21, 3) := by decide +kernel
theorem dX12_wakes_40 : decode cX12_wakes 40 = .ok (.aload_n 0, 1) := by decide +kernel
theorem dX12_wakes_41 : decode cX12_wakes 41 = .ok (.invokevirtual 369, 3) := by decide +kernel
theorem dX12_wakes_44 : decode cX12_wakes 44 = .ok (.ifCond .eq 12, 3) := by decide +kernel
theorem dX12_wakes_47 : decode cX12_wakes 47 = .ok (.aload_n 0, 1) := by decide +kernel
theorem dX12_wakes_48 : decode cX12_wakes 48 = .ok (.getfield 177, 3) := by decide +kernel
theorem dX12_wakes_51 : decode cX12_wakes 51 = .ok (.iload_n 2, 1) := by decide +kernel
theorem dX12_wakes_52 : decode cX12_wakes 52 = .ok (.iaload, 1) := by decide +kernel
theorem dX12_wakes_53 : decode cX12_wakes 53 = .ok (.ifCond .ge 5, 3) := by decide +kernel
theorem dX12_wakes_56 : decode cX12_wakes 56 = .ok (.iconst 1, 1) := by decide +kernel
theorem dX12_wakes_57 : decode cX12_wakes 57 = .ok (.ireturn, 1) := by decide +kernel
theorem dX12_wakes_58 : decode cX12_wakes 58 = .ok (.iinc 2 1, 3) := by decide +kernel
theorem dX12_wakes_61 : decode cX12_wakes 61 = .ok (.goto (-59), 3) := by decide +kernel
theorem dX12_wakes_64 : decode cX12_wakes 64 = .ok (.iconst 0, 1) := by decide +kernel
theorem dX12_wakes_65 : decode cX12_wakes 65 = .ok (.ireturn, 1) := by decide +kernel
theorem dX12_four_0 : decode cX12_four 0 = .ok (.bipush 24, 2) := by decide +kernel
theorem dX12_four_2 : decode cX12_four 2 = .ok (.istore_n 2, 1) := by decide +kernel
theorem dX12_four_3 : decode cX12_four 3 = .ok (.iload_n 2, 1) := by decide +kernel
theorem dX12_four_4 : decode cX12_four 4 = .ok (.ifCond .lt 32, 3) := by decide +kernel
theorem dX12_four_7 : decode cX12_four 7 = .ok (.aload_n 0, 1) := by decide +kernel
theorem dX12_four_8 : decode cX12_four 8 = .ok (.getfield 174, 3) := by decide +kernel
theorem dX12_four_11 : decode cX12_four 11 = .ok (.aload_n 0, 1) := by decide +kernel
theorem dX12_four_12 : decode cX12_four 12 = .ok (.getfield 494, 3) := by decide +kernel
theorem dX12_four_15 : decode cX12_four 15 = .ok (.iload_n 1, 1) := by decide +kernel
theorem dX12_four_16 : decode cX12_four 16 = .ok (.iload_n 2, 1) := by decide +kernel
theorem dX12_four_17 : decode cX12_four 17 = .ok (.ishr, 1) := by decide +kernel
theorem dX12_four_18 : decode cX12_four 18 = .ok (.i2b, 1) := by decide +kernel
theorem dX12_four_19 : decode cX12_four 19 = .ok (.bastore, 1) := by decide +kernel
theorem dX12_four_20 : decode cX12_four 20 = .ok (.aload_n 0, 1) := by decide +kernel
theorem dX12_four_21 : decode cX12_four 21 = .ok (.dup, 1) := by decide +kernel
theorem dX12_four_22 : decode cX12_four 22 = .ok (.getfield 494, 3) := by decide +kernel
theorem dX12_four_25 : decode cX12_four 25 = .ok (.iconst 1, 1) := by decide +kernel
theorem dX12_four_26 : decode cX12_four 26 = .ok (.iadd, 1) := by decide +kernel
theorem dX12_four_27 : decode cX12_four 27 = .ok (.putfield 494, 3) := by decide +kernel
theorem dX12_four_30 : decode cX12_four 30 = .ok (.iinc 2 (-8), 3) := by decide +kernel
theorem dX12_four_33 : decode cX12_four 33 = .ok (.goto (-30), 3) := by decide +kernel
theorem dX12_four_36 : decode cX12_four 36 = .ok (.return_, 1) := by decide +kernel
theorem dX12_end_0 : decode cX12_end 0 = .ok (.aload_n 0, 1) := by decide +kernel
theorem dX12_end_1 : decode cX12_end 1 = .ok (.iload_n 1, 1) := by decide +kernel
theorem dX12_end_2 : decode cX12_end 2 = .ok (.ifCond .lt 11, 3) := by decide +kernel
theorem dX12_end_5 : decode cX12_end 5 = .ok (.iload_n 1, 1) := by decide +kernel
theorem dX12_end_6 : decode cX12_end 6 = .ok (.aload_n 0, 1) := by decide +kernel
theorem dX12_end_7 : decode cX12_end 7 = .ok (.getfield 494, 3) := by decide +kernel
theorem dX12_end_10 : decode cX12_end 10 = .ok (.if_icmp .le 7, 3) := by decide +kernel
theorem dX12_end_13 : decode cX12_end 13 = .ok (.iconst 1, 1) := by decide +kernel
theorem dX12_end_14 : decode cX12_end 14 = .ok (.goto 4, 3) := by decide +kernel
theorem dX12_end_17 : decode cX12_end 17 = .ok (.iconst 0, 1) := by decide +kernel
theorem dX12_end_18 : decode cX12_end 18 = .ok (.invokevirtual 497, 3) := by decide +kernel
theorem dX12_end_21 : decode cX12_end 21 = .ok (.ifCond .eq 5, 3) := by decide +kernel
theorem dX12_end_24 : decode cX12_end 24 = .ok (.iconst 0, 1) := by decide +kernel
theorem dX12_end_25 : decode cX12_end 25 = .ok (.ireturn, 1) := by decide +kernel
theorem dX12_end_26 : decode cX12_end 26 = .ok (.aload_n 0, 1) := by decide +kernel
theorem dX12_end_27 : decode cX12_end 27 = .ok (.iload_n 1, 1) := by decide +kernel
theorem dX12_end_28 : decode cX12_end 28 = .ok (.putfield 494, 3) := by decide +kernel
theorem dX12_end_31 : decode cX12_end 31 = .ok (.iload_n 1, 1) := by decide +kernel
theorem dX12_end_32 : decode cX12_end 32 = .ok (.ireturn, 1) := by decide +kernel
theorem dX12_isThread_0 : decode cX12_isThread 0 = .ok (.iload_n 0, 1) := by decide +kernel
theorem dX12_isThread_1 : decode cX12_isThread 1 = .ok (.ifCond .lt 13, 3) := by decide +kernel
theorem dX12_isThread_4 : decode cX12_isThread 4 = .ok (.iload_n 0, 1) := by decide +kernel
theorem dX12_isThread_5 : decode cX12_isThread 5 = .ok (.bipush 6, 2) := by decide +kernel
theorem dX12_isThread_7 : decode cX12_isThread 7 = .ok (.if_icmp .ge 7, 3) := by decide +kernel
theorem dX12_isThread_10 : decode cX12_isThread 10 = .ok (.iconst 1, 1) := by decide +kernel
theorem dX12_isThread_11 : decode cX12_isThread 11 = .ok (.goto 4, 3) := by decide +kernel
theorem dX12_isThread_14 : decode cX12_isThread 14 = .ok (.iconst 0, 1) := by decide +kernel
theorem dX12_isThread_15 : decode cX12_isThread 15 = .ok (.ireturn, 1) := by decide +kernel
theorem dX12_isPlace_0 : decode cX12_isPlace 0 = .ok (.iload_n 0, 1) := by decide +kernel
theorem dX12_isPlace_1 : decode cX12_isPlace 1 = .ok (.ifCond .lt 13, 3) := by decide +kernel
theorem dX12_isPlace_4 : decode cX12_isPlace 4 = .ok (.iload_n 0, 1) := by decide +kernel
theorem dX12_isPlace_5 : decode cX12_isPlace 5 = .ok (.bipush 26, 2) := by decide +kernel
theorem dX12_isPlace_7 : decode cX12_isPlace 7 = .ok (.if_icmp .ge 7, 3) := by decide +kernel
theorem dX12_isPlace_10 : decode cX12_isPlace 10 = .ok (.iconst 1, 1) := by decide +kernel
theorem dX12_isPlace_11 : decode cX12_isPlace 11 = .ok (.goto 4, 3) := by decide +kernel
theorem dX12_isPlace_14 : decode cX12_isPlace 14 = .ok (.iconst 0, 1) := by decide +kernel
theorem dX12_isPlace_15 : decode cX12_isPlace 15 = .ok (.ireturn, 1) := by decide +kernel
theorem dX12_place_0 : decode cX12_place 0 = .ok (.aload_n 0, 1) := by decide +kernel
theorem dX12_place_1 : decode cX12_place 1 = .ok (.iconst 0, 1) := by decide +kernel
theorem dX12_place_2 : decode cX12_place 2 = .ok (.putfield 1, 3) := by decide +kernel
theorem dX12_place_5 : decode cX12_place 5 = .ok (.aload_n 0, 1) := by decide +kernel
theorem dX12_place_6 : decode cX12_place 6 = .ok (.getfield 171, 3) := by decide +kernel
theorem dX12_place_9 : decode cX12_place 9 = .ok (.ireturn, 1) := by decide +kernel
theorem dX12_isLive_0 : decode cX12_isLive 0 = .ok (.aload_n 0, 1) := by decide +kernel
theorem dX12_isLive_1 : decode cX12_isLive 1 = .ok (.getfield 187, 3) := by decide +kernel
theorem dX12_isLive_4 : decode cX12_isLive 4 = .ok (.iload_n 1, 1) := by decide +kernel
theorem dX12_isLive_5 : decode cX12_isLive 5 = .ok (.iaload, 1) := by decide +kernel
theorem dX12_isLive_6 : decode cX12_isLive 6 = .ok (.iconst 1, 1) := by decide +kernel
theorem dX12_isLive_7 : decode cX12_isLive 7 = .ok (.if_icmp .eq 23, 3) := by decide +kernel
theorem dX12_isLive_10 : decode cX12_isLive 10 = .ok (.aload_n 0, 1) := by decide +kernel
theorem dX12_isLive_11 : decode cX12_isLive 11 = .ok (.getfield 187, 3) := by decide +kernel
theorem dX12_isLive_14 : decode cX12_isLive 14 = .ok (.iload_n 1, 1) := by decide +kernel
theorem dX12_isLive_15 : decode cX12_isLive 15 = .ok (.iaload, 1) := by decide +kernel
theorem dX12_isLive_16 : decode cX12_isLive 16 = .ok (.iconst 2, 1) := by decide +kernel
theorem dX12_isLive_17 : decode cX12_isLive 17 = .ok (.if_icmp .eq 13, 3) := by decide +kernel
theorem dX12_isLive_20 : decode cX12_isLive 20 = .ok (.aload_n 0, 1) := by decide +kernel
theorem dX12_isLive_21 : decode cX12_isLive 21 = .ok (.getfield 187, 3) := by decide +kernel
theorem dX12_isLive_24 : decode cX12_isLive 24 = .ok (.iload_n 1, 1) := by decide +kernel
theorem dX12_isLive_25 : decode cX12_isLive 25 = .ok (.iaload, 1) := by decide +kernel
theorem dX12_isLive_26 : decode cX12_isLive 26 = .ok (.iconst 3, 1) := by decide +kernel
theorem dX12_isLive_27 : decode cX12_isLive 27 = .ok (.if_icmp .ne 7, 3) := by decide +kernel
theorem dX12_isLive_30 : decode cX12_isLive 30 = .ok (.iconst 1, 1) := by decide +kernel
theorem dX12_isLive_31 : decode cX12_isLive 31 = .ok (.goto 4, 3) := by decide +kernel
theorem dX12_isLive_34 : decode cX12_isLive 34 = .ok (.iconst 0, 1) := by decide +kernel
theorem dX12_isLive_35 : decode cX12_isLive 35 = .ok (.ireturn, 1) := by decide +kernel
theorem dX12_has_0 : decode cX12_has 0 = .ok (.aload_n 0, 1) := by decide +kernel
theorem dX12_has_1 : decode cX12_has 1 = .ok (.iload_n 1, 1) := by decide +kernel
theorem dX12_has_2 : decode cX12_has 2 = .ok (.invokestatic 509, 3) := by decide +kernel
theorem dX12_has_5 : decode cX12_has 5 = .ok (.ifCond .ne 7, 3) := by decide +kernel
theorem dX12_has_8 : decode cX12_has 8 = .ok (.iconst 1, 1) := by decide +kernel
theorem dX12_has_9 : decode cX12_has 9 = .ok (.goto 4, 3) := by decide +kernel
theorem dX12_has_12 : decode cX12_has 12 = .ok (.iconst 0, 1) := by decide +kernel
theorem dX12_has_13 : decode cX12_has 13 = .ok (.invokevirtual 497, 3) := by decide +kernel
theorem dX12_has_16 : decode cX12_has 16 = .ok (.ifCond .eq 5, 3) := by decide +kernel
theorem dX12_has_19 : decode cX12_has 19 = .ok (.iconst 0, 1) := by decide +kernel
theorem dX12_has_20 : decode cX12_has 20 = .ok (.ireturn, 1) := by decide +kernel
theorem dX12_has_21 : decode cX12_has 21 = .ok (.aload_n 0, 1) := by decide +kernel
theorem dX12_has_22 : decode cX12_has 22 = .ok (.getfield 151, 3) := by decide +kernel
theorem dX12_has_25 : decode cX12_has 25 = .ok (.iload_n 1, 1) := by decide +kernel
theorem dX12_has_26 : decode cX12_has 26 = .ok (.iaload, 1) := by decide +kernel
theorem dX12_has_27 : decode cX12_has 27 = .ok (.ireturn, 1) := by decide +kernel
theorem dX12_had_0 : decode cX12_had 0 = .ok (.aload_n 0, 1) := by decide +kernel
theorem dX12_had_1 : decode cX12_had 1 = .ok (.iload_n 1, 1) := by decide +kernel
theorem dX12_had_2 : decode cX12_had 2 = .ok (.invokestatic 509, 3) := by decide +kernel
theorem dX12_had_5 : decode cX12_had 5 = .ok (.ifCond .eq 15, 3) := by decide +kernel
theorem dX12_had_8 : decode cX12_had 8 = .ok (.iload_n 2, 1) := by decide +kernel
theorem dX12_had_9 : decode cX12_had 9 = .ok (.ifCond .lt 11, 3) := by decide +kernel
theorem dX12_had_12 : decode cX12_had 12 = .ok (.iload_n 2, 1) := by decide +kernel
theorem dX12_had_13 : decode cX12_had 13 = .ok (.aload_n 0, 1) := by decide +kernel
theorem dX12_had_14 : decode cX12_had 14 = .ok (.getfield 148, 3) := by decide +kernel
theorem dX12_had_17 : decode cX12_had 17 = .ok (.if_icmp .le 7, 3) := by decide +kernel
theorem dX12_had_20 : decode cX12_had 20 = .ok (.iconst 1, 1) := by decide +kernel
theorem dX12_had_21 : decode cX12_had 21 = .ok (.goto 4, 3) := by decide +kernel
theorem dX12_had_24 : decode cX12_had 24 = .ok (.iconst 0, 1) := by decide +kernel
theorem dX12_had_25 : decode cX12_had 25 = .ok (.invokevirtual 497, 3) := by decide +kernel
theorem dX12_had_28 : decode cX12_had 28 = .ok (.ifCond .eq 5, 3) := by decide +kernel
theorem dX12_had_31 : decode cX12_had 31 = .ok (.iconst 0, 1) := by decide +kernel
theorem dX12_had_32 : decode cX12_had 32 = .ok (.ireturn, 1) := by decide +kernel
theorem dX12_had_33 : decode cX12_had 33 = .ok (.aload_n 0, 1) := by decide +kernel
theorem dX12_had_34 : decode cX12_had 34 = .ok (.iload_n 1, 1) := by decide +kernel
theorem dX12_had_35 : decode cX12_had 35 = .ok (.iload_n 2, 1) := by decide +kernel
theorem dX12_had_36 : decode cX12_had 36 = .ok (.invokevirtual 415, 3) := by decide +kernel
theorem dX12_had_39 : decode cX12_had 39 = .ok (.ireturn, 1) := by decide +kernel
theorem dX12_register_0 : decode cX12_register 0 = .ok (.aload_n 0, 1) := by decide +kernel
theorem dX12_register_1 : decode cX12_register 1 = .ok (.iload_n 1, 1) := by decide +kernel
theorem dX12_register_2 : decode cX12_register 2 = .ok (.invokestatic 503, 3) := by decide +kernel
theorem dX12_register_5 : decode cX12_register 5 = .ok (.ifCond .eq 10, 3) := by decide +kernel
theorem dX12_register_8 : decode cX12_register 8 = .ok (.iload_n 2, 1) := by decide +kernel
theorem dX12_register_9 : decode cX12_register 9 = .ok (.invokestatic 509, 3) := by decide +kernel
theorem dX12_register_12 : decode cX12_register 12 = .ok (.ifCond .ne 7, 3) := by decide +kernel
theorem dX12_register_15 : decode cX12_register 15 = .ok (.iconst 1, 1) := by decide +kernel
theorem dX12_register_16 : decode cX12_register 16 = .ok (.goto 4, 3) := by decide +kernel
theorem dX12_register_19 : decode cX12_register 19 = .ok (.iconst 0, 1) := by decide +kernel
theorem dX12_register_20 : decode cX12_register 20 = .ok (.invokevirtual 497, 3) := by decide +kernel
theorem dX12_register_23 : decode cX12_register 23 = .ok (.ifCond .eq 5, 3) := by decide +kernel
theorem dX12_register_26 : decode cX12_register 26 = .ok (.iconst 0, 1) := by decide +kernel
theorem dX12_register_27 : decode cX12_register 27 = .ok (.ireturn, 1) := by decide +kernel
theorem dX12_register_28 : decode cX12_register 28 = .ok (.aload_n 0, 1) := by decide +kernel
theorem dX12_register_29 : decode cX12_register 29 = .ok (.getfield 193, 3) := by decide +kernel
theorem dX12_register_32 : decode cX12_register 32 = .ok (.iload_n 1, 1) := by decide +kernel
theorem dX12_register_33 : decode cX12_register 33 = .ok (.bipush 26, 2) := by decide +kernel
theorem dX12_register_35 : decode cX12_register 35 = .ok (.imul, 1) := by decide +kernel
theorem dX12_register_36 : decode cX12_register 36 = .ok (.iload_n 2, 1) := by decide +kernel
theorem dX12_register_37 : decode cX12_register 37 = .ok (.iadd, 1) := by decide +kernel
theorem dX12_register_38 : decode cX12_register 38 = .ok (.iaload, 1) := by decide +kernel
theorem dX12_register_39 : decode cX12_register 39 = .ok (.ireturn, 1) := by decide +kernel
theorem dX12_said_0 : decode cX12_said 0 = .ok (.aload_n 0, 1) := by decide +kernel
theorem dX12_said_1 : decode cX12_said 1 = .ok (.iload_n 1, 1) := by decide +kernel
theorem dX12_said_2 : decode cX12_said 2 = .ok (.ifCond .lt 11, 3) := by decide +kernel
theorem dX12_said_5 : decode cX12_said 5 = .ok (.iload_n 1, 1) := by decide +kernel
theorem dX12_said_6 : decode cX12_said 6 = .ok (.aload_n 0, 1) := by decide +kernel
theorem dX12_said_7 : decode cX12_said 7 = .ok (.getfield 335, 3) := by decide +kernel
theorem dX12_said_10 : decode cX12_said 10 = .ok (.if_icmp .lt 7, 3) := by decide +kernel
theorem dX12_said_13 : decode cX12_said 13 = .ok (.iconst 1, 1) := by decide +kernel
theorem dX12_said_14 : decode cX12_said 14 = .ok (.goto 4, 3) := by decide +kernel
theorem dX12_said_17 : decode cX12_said 17 = .ok (.iconst 0, 1) := by decide +kernel
theorem dX12_said_18 : decode cX12_said 18 = .ok (.invokevirtual 497, 3) := by decide +kernel
theorem dX12_said_21 : decode cX12_said 21 = .ok (.ifCond .eq 5, 3) := by decide +kernel
theorem dX12_said_24 : decode cX12_said 24 = .ok (.iconst 0, 1) := by decide +kernel
theorem dX12_said_25 : decode cX12_said 25 = .ok (.ireturn, 1) := by decide +kernel
theorem dX12_said_26 : decode cX12_said 26 = .ok (.iload_n 2, 1) := by decide +kernel
theorem dX12_said_27 : decode cX12_said 27 = .ok (.ifCond .eq 12, 3) := by decide +kernel
theorem dX12_said_30 : decode cX12_said 30 = .ok (.aload_n 0, 1) := by decide +kernel
theorem dX12_said_31 : decode cX12_said 31 = .ok (.getfield 293, 3) := by decide +kernel
theorem dX12_said_34 : decode cX12_said 34 = .ok (.iload_n 1, 1) := by decide +kernel
theorem dX12_said_35 : decode cX12_said 35 = .ok (.iaload, 1) := by decide +kernel
theorem dX12_said_36 : decode cX12_said 36 = .ok (.goto 9, 3) := by decide +kernel
theorem dX12_said_39 : decode cX12_said 39 = .ok (.aload_n 0, 1) := by decide +kernel
theorem dX12_said_40 : decode cX12_said 40 = .ok (.getfield 290, 3) := by decide +kernel
theorem dX12_said_43 : decode cX12_said 43 = .ok (.iload_n 1, 1) := by decide +kernel
theorem dX12_said_44 : decode cX12_said 44 = .ok (.iaload, 1) := by decide +kernel
theorem dX12_said_45 : decode cX12_said 45 = .ok (.ireturn, 1) := by decide +kernel
theorem dX12_readsOf_0 : decode cX12_readsOf 0 = .ok (.iconst 0, 1) := by decide +kernel
theorem dX12_readsOf_1 : decode cX12_readsOf 1 = .ok (.istore_n 2, 1) := by decide +kernel
theorem dX12_readsOf_2 : decode cX12_readsOf 2 = .ok (.aload_n 0, 1) := by decide +kernel
theorem dX12_readsOf_3 : decode cX12_readsOf 3 = .ok (.getfield 187, 3) := by decide +kernel
theorem dX12_readsOf_6 : decode cX12_readsOf 6 = .ok (.iload_n 1, 1) := by decide +kernel
theorem dX12_readsOf_7 : decode cX12_readsOf 7 = .ok (.iaload, 1) := by decide +kernel
theorem dX12_readsOf_8 : decode cX12_readsOf 8 = .ok (.iconst 3, 1) := by decide +kernel
theorem dX12_readsOf_9 : decode cX12_readsOf 9 = .ok (.if_icmp .ne 7, 3) := by decide +kernel
theorem dX12_readsOf_12 : decode cX12_readsOf 12 = .ok (.iconst 1, 1) := by decide +kernel
theorem dX12_readsOf_13 : decode cX12_readsOf 13 = .ok (.goto 9, 3) := by decide +kernel
theorem dX12_readsOf_16 : decode cX12_readsOf 16 = .ok (.aload_n 0, 1) := by decide +kernel
theorem dX12_readsOf_17 : decode cX12_readsOf 17 = .ok (.getfield 202, 3) := by decide +kernel
theorem dX12_readsOf_20 : decode cX12_readsOf 20 = .ok (.iload_n 1, 1) := by decide +kernel
theorem dX12_readsOf_21 : decode cX12_readsOf 21 = .ok (.iaload, 1) := by decide +kernel
theorem dX12_readsOf_22 : decode cX12_readsOf 22 = .ok (.istore_n 3, 1) := by decide +kernel
theorem dX12_readsOf_23 : decode cX12_readsOf 23 = .ok (.iconst 0, 1) := by decide +kernel
theorem dX12_readsOf_24 : decode cX12_readsOf 24 = .ok (.istore 4, 2) := by decide +kernel
theorem dX12_readsOf_26 : decode cX12_readsOf 26 = .ok (.iload 4, 2) := by decide +kernel
theorem dX12_readsOf_28 : decode cX12_readsOf 28 = .ok (.iload_n 3, 1) := by decide +kernel
theorem dX12_readsOf_29 : decode cX12_readsOf 29 = .ok (.if_icmp .ge 45, 3) := by decide +kernel
theorem dX12_readsOf_32 : decode cX12_readsOf 32 = .ok (.iconst 0, 1) := by decide +kernel
theorem dX12_readsOf_33 : decode cX12_readsOf 33 = .ok (.istore 5, 2) := by decide +kernel
theorem dX12_readsOf_35 : decode cX12_readsOf 35 = .ok (.iload 5, 2) := by decide +kernel
theorem dX12_readsOf_37 : decode cX12_readsOf 37 = .ok (.bipush 26, 2) := by decide +kernel
theorem dX12_readsOf_39 : decode cX12_readsOf 39 = .ok (.if_icmp .ge 29, 3) := by decide +kernel
theorem dX12_readsOf_42 : decode cX12_readsOf 42 = .ok (.aload_n 0, 1) := by decide +kernel
theorem dX12_readsOf_43 : decode cX12_readsOf 43 = .ok (.getfield 266, 3) := by decide +kernel
theorem dX12_readsOf_46 : decode cX12_readsOf 46 = .ok (.aload_n 0, 1) := by decide +kernel
theorem dX12_readsOf_47 : decode cX12_readsOf 47 = .ok (.iload_n 1, 1) := by decide +kernel
theorem dX12_readsOf_48 : decode cX12_readsOf 48 = .ok (.iload 4, 2) := by decide +kernel
theorem dX12_readsOf_50 : decode cX12_readsOf 50 = .ok (.iload 5, 2) := by decide +kernel
theorem dX12_readsOf_52 : decode cX12_readsOf 52 = .ok (.invokevirtual 357, 3) := by decide +kernel
theorem dX12_readsOf_55 : decode cX12_readsOf 55 = .ok (.baload, 1) := by decide +kernel
theorem dX12_readsOf_56 : decode cX12_readsOf 56 = .ok (.ifCond .eq 6, 3) := by decide +kernel
theorem dX12_readsOf_59 : decode cX12_readsOf 59 = .ok (.iinc 2 1, 3) := by decide +kernel
theorem dX12_readsOf_62 : decode cX12_readsOf 62 = .ok (.iinc 5 1, 3) := by decide +kernel
theorem dX12_readsOf_65 : decode cX12_readsOf 65 = .ok (.goto (-30), 3) := by decide +kernel
theorem dX12_readsOf_68 : decode cX12_readsOf 68 = .ok (.iinc 4 1, 3) := by decide +kernel
theorem dX12_readsOf_71 : decode cX12_readsOf 71 = .ok (.goto (-45), 3) := by decide +kernel
theorem dX12_readsOf_74 : decode cX12_readsOf 74 = .ok (.iload_n 2, 1) := by decide +kernel
theorem dX12_readsOf_75 : decode cX12_readsOf 75 = .ok (.ireturn, 1) := by decide +kernel
theorem dX12_writesOf_0 : decode cX12_writesOf 0 = .ok (.iconst 0, 1) := by decide +kernel
theorem dX12_writesOf_1 : decode cX12_writesOf 1 = .ok (.istore_n 2, 1) := by decide +kernel
theorem dX12_writesOf_2 : decode cX12_writesOf 2 = .ok (.iconst 0, 1) := by decide +kernel
theorem dX12_writesOf_3 : decode cX12_writesOf 3 = .ok (.istore_n 3, 1) := by decide +kernel
theorem dX12_writesOf_4 : decode cX12_writesOf 4 = .ok (.iload_n 3, 1) := by decide +kernel
theorem dX12_writesOf_5 : decode cX12_writesOf 5 = .ok (.bipush 26, 2) := by decide +kernel
theorem dX12_writesOf_7 : decode cX12_writesOf 7 = .ok (.if_icmp .ge 21, 3) := by decide +kernel
theorem dX12_writesOf_10 : decode cX12_writesOf 10 = .ok (.aload_n 0, 1) := by decide +kernel
theorem dX12_writesOf_11 : decode cX12_writesOf 11 = .ok (.iload_n 1, 1) := by decide +kernel
theorem dX12_writesOf_12 : decode cX12_writesOf 12 = .ok (.iload_n 3, 1) := by decide +kernel
theorem dX12_writesOf_13 : decode cX12_writesOf 13 = .ok (.invokevirtual 402, 3) := by decide +kernel
theorem dX12_writesOf_16 : decode cX12_writesOf 16 = .ok (.ifCond .lt 6, 3) := by decide +kernel
theorem dX12_writesOf_19 : decode cX12_writesOf 19 = .ok (.iinc 2 1, 3) := by decide +kernel
theorem dX12_writesOf_22 : decode cX12_writesOf 22 = .ok (.iinc 3 1, 3) := by decide +kernel
theorem dX12_writesOf_25 : decode cX12_writesOf 25 = .ok (.goto (-21), 3) := by decide +kernel
theorem dX12_writesOf_28 : decode cX12_writesOf 28 = .ok (.iload_n 2, 1) := by decide +kernel
theorem dX12_writesOf_29 : decode cX12_writesOf 29 = .ok (.ireturn, 1) := by decide +kernel
theorem dX12_look_0 : decode cX12_look 0 = .ok (.aload_n 0, 1) := by decide +kernel
theorem dX12_look_1 : decode cX12_look 1 = .ok (.iload_n 1, 1) := by decide +kernel
theorem dX12_look_2 : decode cX12_look 2 = .ok (.invokestatic 503, 3) := by decide +kernel
theorem dX12_look_5 : decode cX12_look 5 = .ok (.ifCond .eq 13, 3) := by decide +kernel
theorem dX12_look_8 : decode cX12_look 8 = .ok (.iload_n 2, 1) := by decide +kernel
theorem dX12_look_9 : decode cX12_look 9 = .ok (.ifCond .lt 9, 3) := by decide +kernel
theorem dX12_look_12 : decode cX12_look 12 = .ok (.iload_n 2, 1) := by decide +kernel
theorem dX12_look_13 : decode cX12_look 13 = .ok (.bipush 7, 2) := by decide +kernel
theorem dX12_look_15 : decode cX12_look 15 = .ok (.if_icmp .le 7, 3) := by decide +kernel
theorem dX12_look_18 : decode cX12_look 18 = .ok (.iconst 1, 1) := by decide +kernel
theorem dX12_look_19 : decode cX12_look 19 = .ok (.goto 4, 3) := by decide +kernel
theorem dX12_look_22 : decode cX12_look 22 = .ok (.iconst 0, 1) := by decide +kernel
theorem dX12_look_23 : decode cX12_look 23 = .ok (.invokevirtual 497, 3) := by decide +kernel
theorem dX12_look_26 : decode cX12_look 26 = .ok (.ifCond .eq 5, 3) := by decide +kernel
theorem dX12_look_29 : decode cX12_look 29 = .ok (.iconst 0, 1) := by decide +kernel
theorem dX12_look_30 : decode cX12_look 30 = .ok (.ireturn, 1) := by decide +kernel
theorem dX12_look_31 : decode cX12_look 31 = .ok (.iload_n 2, 1) := by decide +kernel
theorem dX12_look_32 : decode cX12_look 32 = .ok (.tableswitch 105 0 6 #[44, 51, 58, 64, 70, 77, 98], 44) := by decide +kernel
theorem dX12_look_76 : decode cX12_look 76 = .ok (.aload_n 0, 1) := by decide +kernel
theorem dX12_look_77 : decode cX12_look 77 = .ok (.getfield 187, 3) := by decide +kernel
theorem dX12_look_80 : decode cX12_look 80 = .ok (.iload_n 1, 1) := by decide +kernel
theorem dX12_look_81 : decode cX12_look 81 = .ok (.iaload, 1) := by decide +kernel
theorem dX12_look_82 : decode cX12_look 82 = .ok (.ireturn, 1) := by decide +kernel
theorem dX12_look_83 : decode cX12_look 83 = .ok (.aload_n 0, 1) := by decide +kernel
theorem dX12_look_84 : decode cX12_look 84 = .ok (.getfield 202, 3) := by decide +kernel
theorem dX12_look_87 : decode cX12_look 87 = .ok (.iload_n 1, 1) := by decide +kernel
theorem dX12_look_88 : decode cX12_look 88 = .ok (.iaload, 1) := by decide +kernel
theorem dX12_look_89 : decode cX12_look 89 = .ok (.ireturn, 1) := by decide +kernel
theorem dX12_look_90 : decode cX12_look 90 = .ok (.aload_n 0, 1) := by decide +kernel
theorem dX12_look_91 : decode cX12_look 91 = .ok (.iload_n 1, 1) := by decide +kernel
theorem dX12_look_92 : decode cX12_look 92 = .ok (.invokevirtual 518, 3) := by decide +kernel
theorem dX12_look_95 : decode cX12_look 95 = .ok (.ireturn, 1) := by decide +kernel
theorem dX12_look_96 : decode cX12_look 96 = .ok (.aload_n 0, 1) := by decide +kernel
theorem dX12_look_97 : decode cX12_look 97 = .ok (.iload_n 1, 1) := by decide +kernel
theorem dX12_look_98 : decode cX12_look 98 = .ok (.invokevirtual 521, 3) := by decide +kernel
theorem dX12_look_101 : decode cX12_look 101 = .ok (.ireturn, 1) := by decide +kernel
theorem dX12_look_102 : decode cX12_look 102 = .ok (.aload_n 0, 1) := by decide +kernel
theorem dX12_look_103 : decode cX12_look 103 = .ok (.getfield 211, 3) := by decide +kernel
theorem dX12_look_106 : decode cX12_look 106 = .ok (.iload_n 1, 1) := by decide +kernel
theorem dX12_look_107 : decode cX12_look 107 = .ok (.iaload, 1) := by decide +kernel
theorem dX12_look_108 : decode cX12_look 108 = .ok (.ireturn, 1) := by decide +kernel
theorem dX12_look_109 : decode cX12_look 109 = .ok (.aload_n 0, 1) := by decide +kernel
theorem dX12_look_110 : decode cX12_look 110 = .ok (.getfield 187, 3) := by decide +kernel
theorem dX12_look_113 : decode cX12_look 113 = .ok (.iload_n 1, 1) := by decide +kernel
theorem dX12_look_114 : decode cX12_look 114 = .ok (.iaload, 1) := by decide +kernel
theorem dX12_look_115 : decode cX12_look 115 = .ok (.iconst 2, 1) := by decide +kernel
theorem dX12_look_116 : decode cX12_look 116 = .ok (.if_icmp .ne 12, 3) := by decide +kernel
theorem dX12_look_119 : decode cX12_look 119 = .ok (.aload_n 0, 1) := by decide +kernel
theorem dX12_look_120 : decode cX12_look 120 = .ok (.getfield 214, 3) := by decide +kernel
theorem dX12_look_123 : decode cX12_look 123 = .ok (.iload_n 1, 1) := by decide +kernel
theorem dX12_look_124 : decode cX12_look 124 = .ok (.iaload, 1) := by decide +kernel
theorem dX12_look_125 : decode cX12_look 125 = .ok (.goto 4, 3) := by decide +kernel
theorem dX12_look_128 : decode cX12_look 128 = .ok (.iconst 0, 1) := by decide +kernel
theorem dX12_look_129 : decode cX12_look 129 = .ok (.ireturn, 1) := by decide +kernel
theorem dX12_look_130 : decode cX12_look 130 = .ok (.aload_n 0, 1) := by decide +kernel
theorem dX12_look_131 : decode cX12_look 131 = .ok (.getfield 217, 3) := by decide +kernel
theorem dX12_look_134 : decode cX12_look 134 = .ok (.iload_n 1, 1) := by decide +kernel
theorem dX12_look_135 : decode cX12_look 135 = .ok (.iaload, 1) := by decide +kernel
theorem dX12_look_136 : decode cX12_look 136 = .ok (.ireturn, 1) := by decide +kernel
theorem dX12_look_137 : decode cX12_look 137 = .ok (.aload_n 0, 1) := by decide +kernel
theorem dX12_look_138 : decode cX12_look 138 = .ok (.getfield 220, 3) := by decide +kernel
theorem dX12_look_141 : decode cX12_look 141 = .ok (.iload_n 1, 1) := by decide +kernel
theorem dX12_look_142 : decode cX12_look 142 = .ok (.iaload, 1) := by decide +kernel
theorem dX12_look_143 : decode cX12_look 143 = .ok (.ireturn, 1) := by decide +kernel
theorem dX12_mayCome_0 : decode cX12_mayCome 0 = .ok (.aload_n 0, 1) := by decide +kernel
theorem dX12_mayCome_1 : decode cX12_mayCome 1 = .ok (.getfield 326, 3) := by decide +kernel
theorem dX12_mayCome_4 : decode cX12_mayCome 4 = .ok (.iload_n 1, 1) := by decide +kernel
theorem dX12_mayCome_5 : decode cX12_mayCome 5 = .ok (.baload, 1) := by decide +kernel
theorem dX12_mayCome_6 : decode cX12_mayCome 6 = .ok (.ifCond .eq 5, 3) := by decide +kernel
theorem dX12_mayCome_9 : decode cX12_mayCome 9 = .ok (.iconst 0, 1) := by decide +kernel
theorem dX12_mayCome_10 : decode cX12_mayCome 10 = .ok (.ireturn, 1) := by decide +kernel
theorem dX12_mayCome_11 : decode cX12_mayCome 11 = .ok (.iconst 0, 1) := by decide +kernel
theorem dX12_mayCome_12 : decode cX12_mayCome 12 = .ok (.istore_n 3, 1) := by decide +kernel
theorem dX12_mayCome_13 : decode cX12_mayCome 13 = .ok (.iload_n 3, 1) := by decide +kernel
theorem dX12_mayCome_14 : decode cX12_mayCome 14 = .ok (.aload_n 0, 1) := by decide +kernel
theorem dX12_mayCome_15 : decode cX12_mayCome 15 = .ok (.getfield 338, 3) := by decide +kernel
theorem dX12_mayCome_18 : decode cX12_mayCome 18 = .ok (.if_icmp .ge 40, 3) := by decide +kernel
theorem dX12_mayCome_21 : decode cX12_mayCome 21 = .ok (.aload_n 0, 1) := by decide +kernel
theorem dX12_mayCome_22 : decode cX12_mayCome 22 = .ok (.getfield 326, 3) := by decide +kernel
theorem dX12_mayCome_25 : decode cX12_mayCome 25 = .ok (.iload_n 3, 1) := by decide +kernel
theorem dX12_mayCome_26 : decode cX12_mayCome 26 = .ok (.baload, 1) := by decide +kernel
theorem dX12_mayCome_27 : decode cX12_mayCome 27 = .ok (.ifCond .ne 25, 3) := by decide +kernel
theorem dX12_mayCome_30 : decode cX12_mayCome 30 = .ok (.iload_n 3, 1) := by decide +kernel
theorem dX12_mayCome_31 : decode cX12_mayCome 31 = .ok (.iload_n 1, 1) := by decide +kernel
theorem dX12_mayCome_32 : decode cX12_mayCome 32 = .ok (.if_icmp .eq 20, 3) := by decide +kernel
theorem dX12_mayCome_35 : decode cX12_mayCome 35 = .ok (.aload_n 0, 1) := by decide +kernel
theorem dX12_mayCome_36 : decode cX12_mayCome 36 = .ok (.getfield 302, 3) := by decide +kernel
theorem dX12_mayCome_39 : decode cX12_mayCome 39 = .ok (.iload_n 3, 1) := by decide +kernel
theorem dX12_mayCome_40 : decode cX12_mayCome 40 = .ok (.iaload, 1) := by decide +kernel
theorem dX12_mayCome_41 : decode cX12_mayCome 41 = .ok (.aload_n 0, 1) := by decide +kernel
theorem dX12_mayCome_42 : decode cX12_mayCome 42 = .ok (.getfield 299, 3) := by decide +kernel
theorem dX12_mayCome_45 : decode cX12_mayCome 45 = .ok (.iload_n 1, 1) := by decide +kernel
theorem dX12_mayCome_46 : decode cX12_mayCome 46 = .ok (.iaload, 1) := by decide +kernel
theorem dX12_mayCome_47 : decode cX12_mayCome 47 = .ok (.if_icmp .ge 5, 3) := by decide +kernel
theorem dX12_mayCome_50 : decode cX12_mayCome 50 = .ok (.iconst 0, 1) := by decide +kernel
theorem dX12_mayCome_51 : decode cX12_mayCome 51 = .ok (.ireturn, 1) := by decide +kernel
theorem dX12_mayCome_52 : decode cX12_mayCome 52 = .ok (.iinc 3 1, 3) := by decide +kernel
theorem dX12_mayCome_55 : decode cX12_mayCome 55 = .ok (.goto (-42), 3) := by decide +kernel
theorem dX12_mayCome_58 : decode cX12_mayCome 58 = .ok (.iconst 0, 1) := by decide +kernel
theorem dX12_mayCome_59 : decode cX12_mayCome 59 = .ok (.istore_n 3, 1) := by decide +kernel
theorem dX12_mayCome_60 : decode cX12_mayCome 60 = .ok (.iload_n 3, 1) := by decide +kernel
theorem dX12_mayCome_61 : decode cX12_mayCome 61 = .ok (.bipush 26, 2) := by decide +kernel
theorem dX12_mayCome_63 : decode cX12_mayCome 63 = .ok (.if_icmp .ge 50, 3) := by decide +kernel
theorem dX12_mayCome_66 : decode cX12_mayCome 66 = .ok (.aload_n 0, 1) := by decide +kernel
theorem dX12_mayCome_67 : decode cX12_mayCome 67 = .ok (.getfield 311, 3) := by decide +kernel
theorem dX12_mayCome_70 : decode cX12_mayCome 70 = .ok (.iload_n 1, 1) := by decide +kernel
theorem dX12_mayCome_71 : decode cX12_mayCome 71 = .ok (.bipush 26, 2) := by decide +kernel
theorem dX12_mayCome_73 : decode cX12_mayCome 73 = .ok (.imul, 1) := by decide +kernel
theorem dX12_mayCome_74 : decode cX12_mayCome 74 = .ok (.iload_n 3, 1) := by decide +kernel
theorem dX12_mayCome_75 : decode cX12_mayCome 75 = .ok (.iadd, 1) := by decide +kernel
theorem dX12_mayCome_76 : decode cX12_mayCome 76 = .ok (.baload, 1) := by decide +kernel
theorem dX12_mayCome_77 : decode cX12_mayCome 77 = .ok (.ifCond .eq 30, 3) := by decide +kernel
theorem dX12_mayCome_80 : decode cX12_mayCome 80 = .ok (.aload_n 0, 1) := by decide +kernel
theorem dX12_mayCome_81 : decode cX12_mayCome 81 = .ok (.getfield 305, 3) := by decide +kernel
theorem dX12_mayCome_84 : decode cX12_mayCome 84 = .ok (.iload_n 1, 1) := by decide +kernel
theorem dX12_mayCome_85 : decode cX12_mayCome 85 = .ok (.bipush 26, 2) := by decide +kernel
theorem dX12_mayCome_87 : decode cX12_mayCome 87 = .ok (.imul, 1) := by decide +kernel
theorem dX12_mayCome_88 : decode cX12_mayCome 88 = .ok (.iload_n 3, 1) := by decide +kernel
theorem dX12_mayCome_89 : decode cX12_mayCome 89 = .ok (.iadd, 1) := by decide +kernel
theorem dX12_mayCome_90 : decode cX12_mayCome 90 = .ok (.iaload, 1) := by decide +kernel
theorem dX12_mayCome_91 : decode cX12_mayCome 91 = .ok (.aload_n 0, 1) := by decide +kernel
theorem dX12_mayCome_92 : decode cX12_mayCome 92 = .ok (.getfield 323, 3) := by decide +kernel
theorem dX12_mayCome_95 : decode cX12_mayCome 95 = .ok (.iload_n 2, 1) := by decide +kernel
theorem dX12_mayCome_96 : decode cX12_mayCome 96 = .ok (.bipush 26, 2) := by decide +kernel
theorem dX12_mayCome_98 : decode cX12_mayCome 98 = .ok (.imul, 1) := by decide +kernel
theorem dX12_mayCome_99 : decode cX12_mayCome 99 = .ok (.iload_n 3, 1) := by decide +kernel
theorem dX12_mayCome_100 : decode cX12_mayCome 100 = .ok (.iadd, 1) := by decide +kernel
theorem dX12_mayCome_101 : decode cX12_mayCome 101 = .ok (.iaload, 1) := by decide +kernel
theorem dX12_mayCome_102 : decode cX12_mayCome 102 = .ok (.if_icmp .eq 5, 3) := by decide +kernel
theorem dX12_mayCome_105 : decode cX12_mayCome 105 = .ok (.iconst 0, 1) := by decide +kernel
theorem dX12_mayCome_106 : decode cX12_mayCome 106 = .ok (.ireturn, 1) := by decide +kernel
theorem dX12_mayCome_107 : decode cX12_mayCome 107 = .ok (.iinc 3 1, 3) := by decide +kernel
theorem dX12_mayCome_110 : decode cX12_mayCome 110 = .ok (.goto (-50), 3) := by decide +kernel
theorem dX12_mayCome_113 : decode cX12_mayCome 113 = .ok (.iconst 1, 1) := by decide +kernel
theorem dX12_mayCome_114 : decode cX12_mayCome 114 = .ok (.ireturn, 1) := by decide +kernel
theorem dX12_isAsIs_0 : decode cX12_isAsIs 0 = .ok (.iconst 0, 1) := by decide +kernel
theorem dX12_isAsIs_1 : decode cX12_isAsIs 1 = .ok (.istore_n 2, 1) := by decide +kernel
theorem dX12_isAsIs_2 : decode cX12_isAsIs 2 = .ok (.iload_n 2, 1) := by decide +kernel
theorem dX12_isAsIs_3 : decode cX12_isAsIs 3 = .ok (.bipush 26, 2) := by decide +kernel
theorem dX12_isAsIs_5 : decode cX12_isAsIs 5 = .ok (.if_icmp .ge 40, 3) := by decide +kernel
theorem dX12_isAsIs_8 : decode cX12_isAsIs 8 = .ok (.aload_n 0, 1) := by decide +kernel
theorem dX12_isAsIs_9 : decode cX12_isAsIs 9 = .ok (.getfield 177, 3) := by decide +kernel
theorem dX12_isAsIs_12 : decode cX12_isAsIs 12 = .ok (.iload_n 2, 1) := by decide +kernel
theorem dX12_isAsIs_13 : decode cX12_isAsIs 13 = .ok (.iaload, 1) := by decide +kernel
theorem dX12_isAsIs_14 : decode cX12_isAsIs 14 = .ok (.ifCond .ge 25, 3) := by decide +kernel
theorem dX12_isAsIs_17 : decode cX12_isAsIs 17 = .ok (.aload_n 0, 1) := by decide +kernel
theorem dX12_isAsIs_18 : decode cX12_isAsIs 18 = .ok (.getfield 323, 3) := by decide +kernel
theorem dX12_isAsIs_21 : decode cX12_isAsIs 21 = .ok (.iload_n 1, 1) := by decide +kernel
theorem dX12_isAsIs_22 : decode cX12_isAsIs 22 = .ok (.bipush 26, 2) := by decide +kernel
theorem dX12_isAsIs_24 : decode cX12_isAsIs 24 = .ok (.imul, 1) := by decide +kernel
theorem dX12_isAsIs_25 : decode cX12_isAsIs 25 = .ok (.iload_n 2, 1) := by decide +kernel
theorem dX12_isAsIs_26 : decode cX12_isAsIs 26 = .ok (.iadd, 1) := by decide +kernel
theorem dX12_isAsIs_27 : decode cX12_isAsIs 27 = .ok (.iaload, 1) := by decide +kernel
theorem dX12_isAsIs_28 : decode cX12_isAsIs 28 = .ok (.aload_n 0, 1) := by decide +kernel
theorem dX12_isAsIs_29 : decode cX12_isAsIs 29 = .ok (.getfield 151, 3) := by decide +kernel
theorem dX12_isAsIs_32 : decode cX12_isAsIs 32 = .ok (.iload_n 2, 1) := by decide +kernel
theorem dX12_isAsIs_33 : decode cX12_isAsIs 33 = .ok (.iaload, 1) := by decide +kernel
theorem dX12_isAsIs_34 : decode cX12_isAsIs 34 = .ok (.if_icmp .eq 5, 3) := by decide +kernel
theorem dX12_isAsIs_37 : decode cX12_isAsIs 37 = .ok (.iconst 0, 1) := by decide +kernel
theorem dX12_isAsIs_38 : decode cX12_isAsIs 38 = .ok (.ireturn, 1) := by decide +kernel
theorem dX12_isAsIs_39 : decode cX12_isAsIs 39 = .ok (.iinc 2 1, 3) := by decide +kernel
theorem dX12_isAsIs_42 : decode cX12_isAsIs 42 = .ok (.goto (-40), 3) := by decide +kernel
theorem dX12_isAsIs_45 : decode cX12_isAsIs 45 = .ok (.iconst 1, 1) := by decide +kernel
theorem dX12_isAsIs_46 : decode cX12_isAsIs 46 = .ok (.ireturn, 1) := by decide +kernel
theorem dX12_judge_0 : decode cX12_judge 0 = .ok (.aload_n 0, 1) := by decide +kernel
theorem dX12_judge_1 : decode cX12_judge 1 = .ok (.iconst 0, 1) := by decide +kernel
theorem dX12_judge_2 : decode cX12_judge 2 = .ok (.putfield 1, 3) := by decide +kernel
theorem dX12_judge_5 : decode cX12_judge 5 = .ok (.aload_n 0, 1) := by decide +kernel
theorem dX12_judge_6 : decode cX12_judge 6 = .ok (.iconst 0, 1) := by decide +kernel
theorem dX12_judge_7 : decode cX12_judge 7 = .ok (.putfield 347, 3) := by decide +kernel
theorem dX12_judge_10 : decode cX12_judge 10 = .ok (.aload_n 0, 1) := by decide +kernel
theorem dX12_judge_11 : decode cX12_judge 11 = .ok (.getfield 338, 3) := by decide +kernel
theorem dX12_judge_14 : decode cX12_judge 14 = .ok (.bipush 14, 2) := by decide +kernel
theorem dX12_judge_16 : decode cX12_judge 16 = .ok (.if_icmp .le 5, 3) := by decide +kernel
theorem dX12_judge_19 : decode cX12_judge 19 = .ok (.iconst (-1), 1) := by decide +kernel
theorem dX12_judge_20 : decode cX12_judge 20 = .ok (.ireturn, 1) := by decide +kernel
theorem dX12_judge_21 : decode cX12_judge 21 = .ok (.iconst 0, 1) := by decide +kernel
theorem dX12_judge_22 : decode cX12_judge 22 = .ok (.istore_n 1, 1) := by decide +kernel
theorem dX12_judge_23 : decode cX12_judge 23 = .ok (.iload_n 1, 1) := by decide +kernel
theorem dX12_judge_24 : decode cX12_judge 24 = .ok (.bipush 26, 2) := by decide +kernel
theorem dX12_judge_26 : decode cX12_judge 26 = .ok (.if_icmp .ge 21, 3) := by decide +kernel
theorem dX12_judge_29 : decode cX12_judge 29 = .ok (.aload_n 0, 1) := by decide +kernel
theorem dX12_judge_30 : decode cX12_judge 30 = .ok (.getfield 323, 3) := by decide +kernel
theorem dX12_judge_33 : decode cX12_judge 33 = .ok (.iload_n 1, 1) := by decide +kernel
theorem dX12_judge_34 : decode cX12_judge 34 = .ok (.aload_n 0, 1) := by decide +kernel
theorem dX12_judge_35 : decode cX12_judge 35 = .ok (.getfield 180, 3) := by decide +kernel
theorem dX12_judge_38 : decode cX12_judge 38 = .ok (.iload_n 1, 1) := by decide +kernel
theorem dX12_judge_39 : decode cX12_judge 39 = .ok (.iaload, 1) := by decide +kernel
theorem dX12_judge_40 : decode cX12_judge 40 = .ok (.iastore, 1) := by decide +kernel
theorem dX12_judge_41 : decode cX12_judge 41 = .ok (.iinc 1 1, 3) := by decide +kernel
theorem dX12_judge_44 : decode cX12_judge 44 = .ok (.goto (-21), 3) := by decide +kernel
theorem dX12_judge_47 : decode cX12_judge 47 = .ok (.iconst 0, 1) := by decide +kernel
theorem dX12_judge_48 : decode cX12_judge 48 = .ok (.istore_n 1, 1) := by decide +kernel
theorem dX12_judge_49 : decode cX12_judge 49 = .ok (.iload_n 1, 1) := by decide +kernel
theorem dX12_judge_50 : decode cX12_judge 50 = .ok (.aload_n 0, 1) := by decide +kernel
theorem dX12_judge_51 : decode cX12_judge 51 = .ok (.getfield 338, 3) := by decide +kernel
theorem dX12_judge_54 : decode cX12_judge 54 = .ok (.if_icmp .ge 16, 3) := by decide +kernel
theorem dX12_judge_57 : decode cX12_judge 57 = .ok (.aload_n 0, 1) := by decide +kernel
theorem dX12_judge_58 : decode cX12_judge 58 = .ok (.getfield 326, 3) := by decide +kernel
theorem dX12_judge_61 : decode cX12_judge 61 = .ok (.iload_n 1, 1) := by decide +kernel
theorem dX12_judge_62 : decode cX12_judge 62 = .ok (.iconst 0, 1) := by decide +kernel
theorem dX12_judge_63 : decode cX12_judge 63 = .ok (.bastore, 1) := by decide +kernel
theorem dX12_judge_64 : decode cX12_judge 64 = .ok (.iinc 1 1, 3) := by decide +kernel
theorem dX12_judge_67 : decode cX12_judge 67 = .ok (.goto (-18), 3) := by decide +kernel
theorem dX12_judge_70 : decode cX12_judge 70 = .ok (.iconst 1, 1) := by decide +kernel
theorem dX12_judge_71 : decode cX12_judge 71 = .ok (.istore_n 1, 1) := by decide +kernel
theorem dX12_judge_72 : decode cX12_judge 72 = .ok (.iconst 0, 1) := by decide +kernel
theorem dX12_judge_73 : decode cX12_judge 73 = .ok (.istore_n 2, 1) := by decide +kernel
theorem dX12_judge_74 : decode cX12_judge 74 = .ok (.aload_n 0, 1) := by decide +kernel
theorem dX12_judge_75 : decode cX12_judge 75 = .ok (.getfield 320, 3) := by decide +kernel
theorem dX12_judge_78 : decode cX12_judge 78 = .ok (.iconst 0, 1) := by decide +kernel
theorem dX12_judge_79 : decode cX12_judge 79 = .ok (.iconst 0, 1) := by decide +kernel
theorem dX12_judge_80 : decode cX12_judge 80 = .ok (.iastore, 1) := by decide +kernel
theorem dX12_judge_81 : decode cX12_judge 81 = .ok (.iload_n 2, 1) := by decide +kernel
theorem dX12_judge_82 : decode cX12_judge 82 = .ok (.ifCond .lt 214, 3) := by decide +kernel
theorem dX12_judge_85 : decode cX12_judge 85 = .ok (.iload_n 2, 1) := by decide +kernel
theorem dX12_judge_86 : decode cX12_judge 86 = .ok (.aload_n 0, 1) := by decide +kernel
theorem dX12_judge_87 : decode cX12_judge 87 = .ok (.getfield 338, 3) := by decide +kernel
theorem dX12_judge_90 : decode cX12_judge 90 = .ok (.if_icmp .ne 18, 3) := by decide +kernel
theorem dX12_judge_93 : decode cX12_judge 93 = .ok (.aload_n 0, 1) := by decide +kernel
theorem dX12_judge_94 : decode cX12_judge 94 = .ok (.iload_n 2, 1) := by decide +kernel
theorem dX12_judge_95 : decode cX12_judge 95 = .ok (.invokevirtual 524, 3) := by decide +kernel
theorem dX12_judge_98 : decode cX12_judge 98 = .ok (.ifCond .eq 10, 3) := by decide +kernel
theorem dX12_judge_101 : decode cX12_judge 101 = .ok (.aload_n 0, 1) := by decide +kernel
theorem dX12_judge_102 : decode cX12_judge 102 = .ok (.iload_n 2, 1) := by decide +kernel
theorem dX12_judge_103 : decode cX12_judge 103 = .ok (.putfield 347, 3) := by decide +kernel
theorem dX12_judge_106 : decode cX12_judge 106 = .ok (.iconst 1, 1) := by decide +kernel
theorem dX12_judge_107 : decode cX12_judge 107 = .ok (.ireturn, 1) := by decide +kernel
theorem dX12_judge_108 : decode cX12_judge 108 = .ok (.aload_n 0, 1) := by decide +kernel
theorem dX12_judge_109 : decode cX12_judge 109 = .ok (.getfield 320, 3) := by decide +kernel
theorem dX12_judge_112 : decode cX12_judge 112 = .ok (.iload_n 2, 1) := by decide +kernel
theorem dX12_judge_113 : decode cX12_judge 113 = .ok (.iaload, 1) := by decide +kernel
theorem dX12_judge_114 : decode cX12_judge 114 = .ok (.istore_n 3, 1) := by decide +kernel
theorem dX12_judge_115 : decode cX12_judge 115 = .ok (.iload_n 3, 1) := by decide +kernel
theorem dX12_judge_116 : decode cX12_judge 116 = .ok (.aload_n 0, 1) := by decide +kernel
theorem dX12_judge_117 : decode cX12_judge 117 = .ok (.getfield 338, 3) := by decide +kernel
theorem dX12_judge_120 : decode cX12_judge 120 = .ok (.if_icmp .ge 18, 3) := by decide +kernel
theorem dX12_judge_123 : decode cX12_judge 123 = .ok (.aload_n 0, 1) := by decide +kernel
theorem dX12_judge_124 : decode cX12_judge 124 = .ok (.iload_n 3, 1) := by decide +kernel
theorem dX12_judge_125 : decode cX12_judge 125 = .ok (.iload_n 2, 1) := by decide +kernel
theorem dX12_judge_126 : decode cX12_judge 126 = .ok (.invokevirtual 527, 3) := by decide +kernel
theorem dX12_judge_129 : decode cX12_judge 129 = .ok (.ifCond .ne 9, 3) := by decide +kernel
theorem dX12_judge_132 : decode cX12_judge 132 = .ok (.iinc 3 1, 3) := by decide +kernel
theorem dX12_judge_135 : decode cX12_judge 135 = .ok (.goto (-20), 3) := by decide +kernel
theorem dX12_judge_138 : decode cX12_judge 138 = .ok (.iload_n 2, 1) := by decide +kernel
theorem dX12_judge_139 : decode cX12_judge 139 = .ok (.aload_n 0, 1) := by decide +kernel
theorem dX12_judge_140 : decode cX12_judge 140 = .ok (.getfield 338, 3) := by decide +kernel
theorem dX12_judge_143 : decode cX12_judge 143 = .ok (.if_icmp .eq 11, 3) := by decide +kernel
theorem dX12_judge_146 : decode cX12_judge 146 = .ok (.iload_n 3, 1) := by decide +kernel
theorem dX12_judge_147 : decode cX12_judge 147 = .ok (.aload_n 0, 1) := by decide +kernel
theorem dX12_judge_148 : decode cX12_judge 148 = .ok (.getfield 338, 3) := by decide +kernel
theorem dX12_judge_151 : decode cX12_judge 151 = .ok (.if_icmp .ne 25, 3) := by decide +kernel
theorem dX12_judge_154 : decode cX12_judge 154 = .ok (.iinc 2 (-1), 3) := by decide +kernel
theorem dX12_judge_157 : decode cX12_judge 157 = .ok (.iload_n 2, 1) := by decide +kernel
theorem dX12_judge_158 : decode cX12_judge 158 = .ok (.ifCond .lt (-77), 3) := by decide +kernel
theorem dX12_judge_161 : decode cX12_judge 161 = .ok (.aload_n 0, 1) := by decide +kernel
theorem dX12_judge_162 : decode cX12_judge 162 = .ok (.getfield 326, 3) := by decide +kernel
theorem dX12_judge_165 : decode cX12_judge 165 = .ok (.aload_n 0, 1) := by decide +kernel
theorem dX12_judge_166 : decode cX12_judge 166 = .ok (.getfield 317, 3) := by decide +kernel
theorem dX12_judge_169 : decode cX12_judge 169 = .ok (.iload_n 2, 1) := by decide +kernel
theorem dX12_judge_170 : decode cX12_judge 170 = .ok (.iaload, 1) := by decide +kernel
theorem dX12_judge_171 : decode cX12_judge 171 = .ok (.iconst 0, 1) := by decide +kernel
theorem dX12_judge_172 : decode cX12_judge 172 = .ok (.bastore, 1) := by decide +kernel
theorem dX12_judge_173 : decode cX12_judge 173 = .ok (.goto (-92), 3) := by decide +kernel
theorem dX12_judge_176 : decode cX12_judge 176 = .ok (.iinc 1 1, 3) := by decide +kernel
theorem dX12_judge_179 : decode cX12_judge 179 = .ok (.iload_n 1, 1) := by decide +kernel
theorem dX12_judge_180 : decode cX12_judge 180 = .ok (.sipush 20000, 3) := by decide +kernel
theorem dX12_judge_183 : decode cX12_judge 183 = .ok (.if_icmp .le 5, 3) := by decide +kernel
theorem dX12_judge_186 : decode cX12_judge 186 = .ok (.iconst (-1), 1) := by decide +kernel
theorem dX12_judge_187 : decode cX12_judge 187 = .ok (.ireturn, 1) := by decide +kernel
theorem dX12_judge_188 : decode cX12_judge 188 = .ok (.aload_n 0, 1) := by decide +kernel
theorem dX12_judge_189 : decode cX12_judge 189 = .ok (.getfield 320, 3) := by decide +kernel
theorem dX12_judge_192 : decode cX12_judge 192 = .ok (.iload_n 2, 1) := by decide +kernel
theorem dX12_judge_193 : decode cX12_judge 193 = .ok (.iload_n 3, 1) := by decide +kernel
theorem dX12_judge_194 : decode cX12_judge 194 = .ok (.iconst 1, 1) := by decide +kernel
theorem dX12_judge_195 : decode cX12_judge 195 = .ok (.iadd, 1) := by decide +kernel
theorem dX12_judge_196 : decode cX12_judge 196 = .ok (.iastore, 1) := by decide +kernel
theorem dX12_judge_197 : decode cX12_judge 197 = .ok (.aload_n 0, 1) := by decide +kernel
theorem dX12_judge_198 : decode cX12_judge 198 = .ok (.getfield 317, 3) := by decide +kernel
theorem dX12_judge_201 : decode cX12_judge 201 = .ok (.iload_n 2, 1) := by decide +kernel
theorem dX12_judge_202 : decode cX12_judge 202 = .ok (.iload_n 3, 1) := by decide +kernel
theorem dX12_judge_203 : decode cX12_judge 203 = .ok (.iastore, 1) := by decide +kernel
theorem dX12_judge_204 : decode cX12_judge 204 = .ok (.aload_n 0, 1) := by decide +kernel
theorem dX12_judge_205 : decode cX12_judge 205 = .ok (.getfield 326, 3) := by decide +kernel
theorem dX12_judge_208 : decode cX12_judge 208 = .ok (.iload_n 3, 1) := by decide +kernel
theorem dX12_judge_209 : decode cX12_judge 209 = .ok (.iconst 1, 1) := by decide +kernel
theorem dX12_judge_210 : decode cX12_judge 210 = .ok (.bastore, 1) := by decide +kernel
theorem dX12_judge_211 : decode cX12_judge 211 = .ok (.iconst 0, 1) := by decide +kernel
theorem dX12_judge_212 : decode cX12_judge 212 = .ok (.istore 4, 2) := by decide +kernel
theorem dX12_judge_214 : decode cX12_judge 214 = .ok (.iload 4, 2) := by decide +kernel
theorem dX12_judge_216 : decode cX12_judge 216 = .ok (.bipush 26, 2) := by decide +kernel
theorem dX12_judge_218 : decode cX12_judge 218 = .ok (.if_icmp .ge 65, 3) := by decide +kernel
theorem dX12_judge_221 : decode cX12_judge 221 = .ok (.aload_n 0, 1) := by decide +kernel
theorem dX12_judge_222 : decode cX12_judge 222 = .ok (.getfield 323, 3) := by decide +kernel
theorem dX12_judge_225 : decode cX12_judge 225 = .ok (.iload_n 2, 1) := by decide +kernel
theorem dX12_judge_226 : decode cX12_judge 226 = .ok (.iconst 1, 1) := by decide +kernel
theorem dX12_judge_227 : decode cX12_judge 227 = .ok (.iadd, 1) := by decide +kernel
theorem dX12_judge_228 : decode cX12_judge 228 = .ok (.bipush 26, 2) := by decide +kernel
theorem dX12_judge_230 : decode cX12_judge 230 = .ok (.imul, 1) := by decide +kernel
theorem dX12_judge_231 : decode cX12_judge 231 = .ok (.iload 4, 2) := by decide +kernel
theorem dX12_judge_233 : decode cX12_judge 233 = .ok (.iadd, 1) := by decide +kernel
theorem dX12_judge_234 : decode cX12_judge 234 = .ok (.aload_n 0, 1) := by decide +kernel
theorem dX12_judge_235 : decode cX12_judge 235 = .ok (.getfield 314, 3) := by decide +kernel
theorem dX12_judge_238 : decode cX12_judge 238 = .ok (.iload_n 3, 1) := by decide +kernel
theorem dX12_judge_239 : decode cX12_judge 239 = .ok (.bipush 26, 2) := by decide +kernel
theorem dX12_judge_241 : decode cX12_judge 241 = .ok (.imul, 1) := by decide +kernel
theorem dX12_judge_242 : decode cX12_judge 242 = .ok (.iload 4, 2) := by decide +kernel
theorem dX12_judge_244 : decode cX12_judge 244 = .ok (.iadd, 1) := by decide +kernel
theorem dX12_judge_245 : decode cX12_judge 245 = .ok (.baload, 1) := by decide +kernel
theorem dX12_judge_246 : decode cX12_judge 246 = .ok (.ifCond .eq 18, 3) := by decide +kernel
theorem dX12_judge_249 : decode cX12_judge 249 = .ok (.aload_n 0, 1) := by decide +kernel
theorem dX12_judge_250 : decode cX12_judge 250 = .ok (.getfield 308, 3) := by decide +kernel
theorem dX12_judge_253 : decode cX12_judge 253 = .ok (.iload_n 3, 1) := by decide +kernel
theorem dX12_judge_254 : decode cX12_judge 254 = .ok (.bipush 26, 2) := by decide +kernel
theorem dX12_judge_256 : decode cX12_judge 256 = .ok (.imul, 1) := by decide +kernel
theorem dX12_judge_257 : decode cX12_judge 257 = .ok (.iload 4, 2) := by decide +kernel
theorem dX12_judge_259 : decode cX12_judge 259 = .ok (.iadd, 1) := by decide +kernel
theorem dX12_judge_260 : decode cX12_judge 260 = .ok (.iaload, 1) := by decide +kernel
theorem dX12_judge_261 : decode cX12_judge 261 = .ok (.goto 15, 3) := by decide +kernel
theorem dX12_judge_264 : decode cX12_judge 264 = .ok (.aload_n 0, 1) := by decide +kernel
theorem dX12_judge_265 : decode cX12_judge 265 = .ok (.getfield 323, 3) := by decide +kernel
theorem dX12_judge_268 : decode cX12_judge 268 = .ok (.iload_n 2, 1) := by decide +kernel
theorem dX12_judge_269 : decode cX12_judge 269 = .ok (.bipush 26, 2) := by decide +kernel
theorem dX12_judge_271 : decode cX12_judge 271 = .ok (.imul, 1) := by decide +kernel
theorem dX12_judge_272 : decode cX12_judge 272 = .ok (.iload 4, 2) := by decide +kernel
theorem dX12_judge_274 : decode cX12_judge 274 = .ok (.iadd, 1) := by decide +kernel
theorem dX12_judge_275 : decode cX12_judge 275 = .ok (.iaload, 1) := by decide +kernel
theorem dX12_judge_276 : decode cX12_judge 276 = .ok (.iastore, 1) := by decide +kernel
theorem dX12_judge_277 : decode cX12_judge 277 = .ok (.iinc 4 1, 3) := by decide +kernel
theorem dX12_judge_280 : decode cX12_judge 280 = .ok (.goto (-66), 3) := by decide +kernel
theorem dX12_judge_283 : decode cX12_judge 283 = .ok (.iinc 2 1, 3) := by decide +kernel
theorem dX12_judge_286 : decode cX12_judge 286 = .ok (.aload_n 0, 1) := by decide +kernel
theorem dX12_judge_287 : decode cX12_judge 287 = .ok (.getfield 320, 3) := by decide +kernel
theorem dX12_judge_290 : decode cX12_judge 290 = .ok (.iload_n 2, 1) := by decide +kernel
theorem dX12_judge_291 : decode cX12_judge 291 = .ok (.iconst 0, 1) := by decide +kernel
theorem dX12_judge_292 : decode cX12_judge 292 = .ok (.iastore, 1) := by decide +kernel
theorem dX12_judge_293 : decode cX12_judge 293 = .ok (.goto (-212), 3) := by decide +kernel
theorem dX12_judge_296 : decode cX12_judge 296 = .ok (.iconst 0, 1) := by decide +kernel
theorem dX12_judge_297 : decode cX12_judge 297 = .ok (.ireturn, 1) := by decide +kernel
theorem dX12_order_0 : decode cX12_order 0 = .ok (.aload_n 0, 1) := by decide +kernel
theorem dX12_order_1 : decode cX12_order 1 = .ok (.iload_n 1, 1) := by decide +kernel
theorem dX12_order_2 : decode cX12_order 2 = .ok (.ifCond .lt 11, 3) := by decide +kernel
theorem dX12_order_5 : decode cX12_order 5 = .ok (.iload_n 1, 1) := by decide +kernel
theorem dX12_order_6 : decode cX12_order 6 = .ok (.aload_n 0, 1) := by decide +kernel
theorem dX12_order_7 : decode cX12_order 7 = .ok (.getfield 347, 3) := by decide +kernel
theorem dX12_order_10 : decode cX12_order 10 = .ok (.if_icmp .lt 7, 3) := by decide +kernel
theorem dX12_order_13 : decode cX12_order 13 = .ok (.iconst 1, 1) := by decide +kernel
theorem dX12_order_14 : decode cX12_order 14 = .ok (.goto 4, 3) := by decide +kernel
theorem dX12_order_17 : decode cX12_order 17 = .ok (.iconst 0, 1) := by decide +kernel
theorem dX12_order_18 : decode cX12_order 18 = .ok (.invokevirtual 497, 3) := by decide +kernel
theorem dX12_order_21 : decode cX12_order 21 = .ok (.ifCond .eq 5, 3) := by decide +kernel
theorem dX12_order_24 : decode cX12_order 24 = .ok (.iconst 0, 1) := by decide +kernel
theorem dX12_order_25 : decode cX12_order 25 = .ok (.ireturn, 1) := by decide +kernel
theorem dX12_order_26 : decode cX12_order 26 = .ok (.aload_n 0, 1) := by decide +kernel
theorem dX12_order_27 : decode cX12_order 27 = .ok (.getfield 317, 3) := by decide +kernel
theorem dX12_order_30 : decode cX12_order 30 = .ok (.iload_n 1, 1) := by decide +kernel
theorem dX12_order_31 : decode cX12_order 31 = .ok (.iaload, 1) := by decide +kernel
theorem dX12_order_32 : decode cX12_order 32 = .ok (.ireturn, 1) := by decide +kernel
theorem dX12_record_0 : decode cX12_record 0 = .ok (.aload_n 0, 1) := by decide +kernel
theorem dX12_record_1 : decode cX12_record 1 = .ok (.iload_n 2, 1) := by decide +kernel
theorem dX12_record_2 : decode cX12_record 2 = .ok (.ifCond .lt 8, 3) := by decide +kernel
theorem dX12_record_5 : decode cX12_record 5 = .ok (.iload_n 2, 1) := by decide +kernel
theorem dX12_record_6 : decode cX12_record 6 = .ok (.iconst 4, 1) := by decide +kernel
theorem dX12_record_7 : decode cX12_record 7 = .ok (.if_icmp .le 7, 3) := by decide +kernel
theorem dX12_record_10 : decode cX12_record 10 = .ok (.iconst 1, 1) := by decide +kernel
theorem dX12_record_11 : decode cX12_record 11 = .ok (.goto 20, 3) := by decide +kernel
theorem dX12_record_14 : decode cX12_record 14 = .ok (.iload_n 1, 1) := by decide +kernel
theorem dX12_record_15 : decode cX12_record 15 = .ok (.ifCond .lt 11, 3) := by decide +kernel
theorem dX12_record_18 : decode cX12_record 18 = .ok (.iload_n 1, 1) := by decide +kernel
theorem dX12_record_19 : decode cX12_record 19 = .ok (.aload_n 0, 1) := by decide +kernel
theorem dX12_record_20 : decode cX12_record 20 = .ok (.getfield 338, 3) := by decide +kernel
theorem dX12_record_23 : decode cX12_record 23 = .ok (.if_icmp .lt 7, 3) := by decide +kernel
theorem dX12_record_26 : decode cX12_record 26 = .ok (.iconst 2, 1) := by decide +kernel
theorem dX12_record_27 : decode cX12_record 27 = .ok (.goto 4, 3) := by decide +kernel
theorem dX12_record_30 : decode cX12_record 30 = .ok (.iconst 0, 1) := by decide +kernel
theorem dX12_record_31 : decode cX12_record 31 = .ok (.invokevirtual 497, 3) := by decide +kernel
theorem dX12_record_34 : decode cX12_record 34 = .ok (.ifCond .eq 5, 3) := by decide +kernel
theorem dX12_record_37 : decode cX12_record 37 = .ok (.iconst 0, 1) := by decide +kernel
theorem dX12_record_38 : decode cX12_record 38 = .ok (.ireturn, 1) := by decide +kernel
theorem dX12_record_39 : decode cX12_record 39 = .ok (.iconst 0, 1) := by decide +kernel
theorem dX12_record_40 : decode cX12_record 40 = .ok (.istore_n 3, 1) := by decide +kernel
theorem dX12_record_41 : decode cX12_record 41 = .ok (.iload_n 1, 1) := by decide +kernel
theorem dX12_record_42 : decode cX12_record 42 = .ok (.bipush 26, 2) := by decide +kernel
theorem dX12_record_44 : decode cX12_record 44 = .ok (.imul, 1) := by decide +kernel
theorem dX12_record_45 : decode cX12_record 45 = .ok (.istore 4, 2) := by decide +kernel
theorem dX12_record_47 : decode cX12_record 47 = .ok (.iload 4, 2) := by decide +kernel
theorem dX12_record_49 : decode cX12_record 49 = .ok (.iload_n 1, 1) := by decide +kernel
theorem dX12_record_50 : decode cX12_record 50 = .ok (.bipush 26, 2) := by decide +kernel
theorem dX12_record_52 : decode cX12_record 52 = .ok (.imul, 1) := by decide +kernel
theorem dX12_record_53 : decode cX12_record 53 = .ok (.bipush 26, 2) := by decide +kernel
theorem dX12_record_55 : decode cX12_record 55 = .ok (.iadd, 1) := by decide +kernel
theorem dX12_record_56 : decode cX12_record 56 = .ok (.if_icmp .ge 40, 3) := by decide +kernel
theorem dX12_record_59 : decode cX12_record 59 = .ok (.iload_n 2, 1) := by decide +kernel
theorem dX12_record_60 : decode cX12_record 60 = .ok (.iconst 1, 1) := by decide +kernel
theorem dX12_record_61 : decode cX12_record 61 = .ok (.if_icmp .ne 16, 3) := by decide +kernel
theorem dX12_record_64 : decode cX12_record 64 = .ok (.aload_n 0, 1) := by decide +kernel
theorem dX12_record_65 : decode cX12_record 65 = .ok (.getfield 311, 3) := by decide +kernel
theorem dX12_record_68 : decode cX12_record 68 = .ok (.iload 4, 2) := by decide +kernel
theorem dX12_record_70 : decode cX12_record 70 = .ok (.baload, 1) := by decide +kernel
theorem dX12_record_71 : decode cX12_record 71 = .ok (.ifCond .eq 19, 3) := by decide +kernel
theorem dX12_record_74 : decode cX12_record 74 = .ok (.goto 13, 3) := by decide +kernel
theorem dX12_record_77 : decode cX12_record 77 = .ok (.aload_n 0, 1) := by decide +kernel
theorem dX12_record_78 : decode cX12_record 78 = .ok (.getfield 314, 3) := by decide +kernel
theorem dX12_record_81 : decode cX12_record 81 = .ok (.iload 4, 2) := by decide +kernel
theorem dX12_record_83 : decode cX12_record 83 = .ok (.baload, 1) := by decide +kernel
theorem dX12_record_84 : decode cX12_record 84 = .ok (.ifCond .eq 6, 3) := by decide +kernel
theorem dX12_record_87 : decode cX12_record 87 = .ok (.iinc 3 1, 3) := by decide +kernel
theorem dX12_record_90 : decode cX12_record 90 = .ok (.iinc 4 1, 3) := by decide +kernel
theorem dX12_record_93 : decode cX12_record 93 = .ok (.goto (-46), 3) := by decide +kernel
theorem dX12_record_96 : decode cX12_record 96 = .ok (.iload_n 2, 1) := by decide +kernel
theorem dX12_record_97 : decode cX12_record 97 = .ok (.ifCond .ne 12, 3) := by decide +kernel
theorem dX12_record_100 : decode cX12_record 100 = .ok (.aload_n 0, 1) := by decide +kernel
theorem dX12_record_101 : decode cX12_record 101 = .ok (.getfield 296, 3) := by decide +kernel
theorem dX12_record_104 : decode cX12_record 104 = .ok (.iload_n 1, 1) := by decide +kernel
theorem dX12_record_105 : decode cX12_record 105 = .ok (.iaload, 1) := by decide +kernel
theorem dX12_record_106 : decode cX12_record 106 = .ok (.goto 32, 3) := by decide +kernel
theorem dX12_record_109 : decode cX12_record 109 = .ok (.iload_n 2, 1) := by decide +kernel
theorem dX12_record_110 : decode cX12_record 110 = .ok (.iconst 3, 1) := by decide +kernel
theorem dX12_record_111 : decode cX12_record 111 = .ok (.if_icmp .ne 12, 3) := by decide +kernel
theorem dX12_record_114 : decode cX12_record 114 = .ok (.aload_n 0, 1) := by decide +kernel
theorem dX12_record_115 : decode cX12_record 115 = .ok (.getfield 299, 3) := by decide +kernel
theorem dX12_record_118 : decode cX12_record 118 = .ok (.iload_n 1, 1) := by decide +kernel
theorem dX12_record_119 : decode cX12_record 119 = .ok (.iaload, 1) := by decide +kernel
theorem dX12_record_120 : decode cX12_record 120 = .ok (.goto 18, 3) := by decide +kernel
theorem dX12_record_123 : decode cX12_record 123 = .ok (.iload_n 2, 1) := by decide +kernel
theorem dX12_record_124 : decode cX12_record 124 = .ok (.iconst 4, 1) := by decide +kernel
theorem dX12_record_125 : decode cX12_record 125 = .ok (.if_icmp .ne 12, 3) := by decide +kernel
theorem dX12_record_128 : decode cX12_record 128 = .ok (.aload_n 0, 1) := by decide +kernel
theorem dX12_record_129 : decode cX12_record 129 = .ok (.getfield 302, 3) := by decide +kernel
theorem dX12_record_132 : decode cX12_record 132 = .ok (.iload_n 1, 1) := by decide +kernel
theorem dX12_record_133 : decode cX12_record 133 = .ok (.iaload, 1) := by decide +kernel
theorem dX12_record_134 : decode cX12_record 134 = .ok (.goto 4, 3) := by decide +kernel
theorem dX12_record_137 : decode cX12_record 137 = .ok (.iload_n 3, 1) := by decide +kernel
theorem dX12_record_138 : decode cX12_record 138 = .ok (.ireturn, 1) := by decide +kernel
theorem dX12_count_0 : decode cX12_count 0 = .ok (.aload_n 0, 1) := by decide +kernel
theorem dX12_count_1 : decode cX12_count 1 = .ok (.iload_n 1, 1) := by decide +kernel
theorem dX12_count_2 : decode cX12_count 2 = .ok (.ifCond .lt 9, 3) := by decide +kernel
theorem dX12_count_5 : decode cX12_count 5 = .ok (.iload_n 1, 1) := by decide +kernel
theorem dX12_count_6 : decode cX12_count 6 = .ok (.bipush 8, 2) := by decide +kernel
theorem dX12_count_8 : decode cX12_count 8 = .ok (.if_icmp .le 7, 3) := by decide +kernel
theorem dX12_count_11 : decode cX12_count 11 = .ok (.iconst 1, 1) := by decide +kernel
theorem dX12_count_12 : decode cX12_count 12 = .ok (.goto 4, 3) := by decide +kernel
theorem dX12_count_15 : decode cX12_count 15 = .ok (.iconst 0, 1) := by decide +kernel
theorem dX12_count_16 : decode cX12_count 16 = .ok (.invokevirtual 497, 3) := by decide +kernel
theorem dX12_count_19 : decode cX12_count 19 = .ok (.ifCond .eq 5, 3) := by decide +kernel
theorem dX12_count_22 : decode cX12_count 22 = .ok (.iconst 0, 1) := by decide +kernel
theorem dX12_count_23 : decode cX12_count 23 = .ok (.ireturn, 1) := by decide +kernel
theorem dX12_count_24 : decode cX12_count 24 = .ok (.iconst 0, 1) := by decide +kernel
theorem dX12_count_25 : decode cX12_count 25 = .ok (.istore_n 2, 1) := by decide +kernel
theorem dX12_count_26 : decode cX12_count 26 = .ok (.iload_n 1, 1) := by decide +kernel
theorem dX12_count_27 : decode cX12_count 27 = .ok (.tableswitch 114 0 7 #[45, 50, 55, 60, 65, 70, 75, 75], 45) := by decide +kernel
theorem dX12_count_72 : decode cX12_count 72 = .ok (.aload_n 0, 1) := by decide +kernel
theorem dX12_count_73 : decode cX12_count 73 = .ok (.getfield 494, 3) := by decide +kernel
theorem dX12_count_76 : decode cX12_count 76 = .ok (.ireturn, 1) := by decide +kernel
theorem dX12_count_77 : decode cX12_count 77 = .ok (.aload_n 0, 1) := by decide +kernel
theorem dX12_count_78 : decode cX12_count 78 = .ok (.getfield 332, 3) := by decide +kernel
theorem dX12_count_81 : decode cX12_count 81 = .ok (.ireturn, 1) := by decide +kernel
theorem dX12_count_82 : decode cX12_count 82 = .ok (.aload_n 0, 1) := by decide +kernel
theorem dX12_count_83 : decode cX12_count 83 = .ok (.getfield 148, 3) := by decide +kernel
theorem dX12_count_86 : decode cX12_count 86 = .ok (.ireturn, 1) := by decide +kernel
theorem dX12_count_87 : decode cX12_count 87 = .ok (.aload_n 0, 1) := by decide +kernel
theorem dX12_count_88 : decode cX12_count 88 = .ok (.getfield 341, 3) := by decide +kernel
theorem dX12_count_91 : decode cX12_count 91 = .ok (.ireturn, 1) := by decide +kernel
theorem dX12_count_92 : decode cX12_count 92 = .ok (.aload_n 0, 1) := by decide +kernel
theorem dX12_count_93 : decode cX12_count 93 = .ok (.getfield 335, 3) := by decide +kernel
theorem dX12_count_96 : decode cX12_count 96 = .ok (.ireturn, 1) := by decide +kernel
theorem dX12_count_97 : decode cX12_count 97 = .ok (.aload_n 0, 1) := by decide +kernel
theorem dX12_count_98 : decode cX12_count 98 = .ok (.getfield 338, 3) := by decide +kernel
theorem dX12_count_101 : decode cX12_count 101 = .ok (.ireturn, 1) := by decide +kernel
theorem dX12_count_102 : decode cX12_count 102 = .ok (.iconst 0, 1) := by decide +kernel
theorem dX12_count_103 : decode cX12_count 103 = .ok (.istore_n 3, 1) := by decide +kernel
theorem dX12_count_104 : decode cX12_count 104 = .ok (.iload_n 3, 1) := by decide +kernel
theorem dX12_count_105 : decode cX12_count 105 = .ok (.bipush 6, 2) := by decide +kernel
theorem dX12_count_107 : decode cX12_count 107 = .ok (.if_icmp .ge 32, 3) := by decide +kernel
theorem dX12_count_110 : decode cX12_count 110 = .ok (.aload_n 0, 1) := by decide +kernel
theorem dX12_count_111 : decode cX12_count 111 = .ok (.getfield 187, 3) := by decide +kernel
theorem dX12_count_114 : decode cX12_count 114 = .ok (.iload_n 3, 1) := by decide +kernel
theorem dX12_count_115 : decode cX12_count 115 = .ok (.iaload, 1) := by decide +kernel
theorem dX12_count_116 : decode cX12_count 116 = .ok (.iload_n 1, 1) := by decide +kernel
theorem dX12_count_117 : decode cX12_count 117 = .ok (.bipush 6, 2) := by decide +kernel
theorem dX12_count_119 : decode cX12_count 119 = .ok (.if_icmp .ne 7, 3) := by decide +kernel
theorem dX12_count_122 : decode cX12_count 122 = .ok (.iconst 2, 1) := by decide +kernel
theorem dX12_count_123 : decode cX12_count 123 = .ok (.goto 4, 3) := by decide +kernel
theorem dX12_count_126 : decode cX12_count 126 = .ok (.iconst 3, 1) := by decide +kernel
theorem dX12_count_127 : decode cX12_count 127 = .ok (.if_icmp .ne 6, 3) := by decide +kernel
theorem dX12_count_130 : decode cX12_count 130 = .ok (.iinc 2 1, 3) := by decide +kernel
theorem dX12_count_133 : decode cX12_count 133 = .ok (.iinc 3 1, 3) := by decide +kernel
theorem dX12_count_136 : decode cX12_count 136 = .ok (.goto (-32), 3) := by decide +kernel
theorem dX12_count_139 : decode cX12_count 139 = .ok (.iload_n 2, 1) := by decide +kernel
theorem dX12_count_140 : decode cX12_count 140 = .ok (.ireturn, 1) := by decide +kernel
theorem dX12_count_141 : decode cX12_count 141 = .ok (.iconst 0, 1) := by decide +kernel
theorem dX12_count_142 : decode cX12_count 142 = .ok (.istore_n 3, 1) := by decide +kernel
theorem dX12_count_143 : decode cX12_count 143 = .ok (.iload_n 3, 1) := by decide +kernel
theorem dX12_count_144 : decode cX12_count 144 = .ok (.bipush 26, 2) := by decide +kernel
theorem dX12_count_146 : decode cX12_count 146 = .ok (.if_icmp .ge 21, 3) := by decide +kernel
theorem dX12_count_149 : decode cX12_count 149 = .ok (.aload_n 0, 1) := by decide +kernel
theorem dX12_count_150 : decode cX12_count 150 = .ok (.getfield 177, 3) := by decide +kernel
theorem dX12_count_153 : decode cX12_count 153 = .ok (.iload_n 3, 1) := by decide +kernel
theorem dX12_count_154 : decode cX12_count 154 = .ok (.iaload, 1) := by decide +kernel
theorem dX12_count_155 : decode cX12_count 155 = .ok (.ifCond .lt 6, 3) := by decide +kernel
theorem dX12_count_158 : decode cX12_count 158 = .ok (.iinc 2 1, 3) := by decide +kernel
theorem dX12_count_161 : decode cX12_count 161 = .ok (.iinc 3 1, 3) := by decide +kernel
theorem dX12_count_164 : decode cX12_count 164 = .ok (.goto (-21), 3) := by decide +kernel
theorem dX12_count_167 : decode cX12_count 167 = .ok (.iload_n 2, 1) := by decide +kernel
theorem dX12_count_168 : decode cX12_count 168 = .ok (.ireturn, 1) := by decide +kernel
theorem dX12_reset_0 : decode cX12_reset 0 = .ok (.aload_n 0, 1) := by decide +kernel
theorem dX12_reset_1 : decode cX12_reset 1 = .ok (.getfield 187, 3) := by decide +kernel
theorem dX12_reset_4 : decode cX12_reset 4 = .ok (.iload_n 1, 1) := by decide +kernel
theorem dX12_reset_5 : decode cX12_reset 5 = .ok (.iaload, 1) := by decide +kernel
theorem dX12_reset_6 : decode cX12_reset 6 = .ok (.ifCond .eq 10, 3) := by decide +kernel
theorem dX12_reset_9 : decode cX12_reset 9 = .ok (.aload_n 0, 1) := by decide +kernel
theorem dX12_reset_10 : decode cX12_reset 10 = .ok (.getfield 187, 3) := by decide +kernel
theorem dX12_reset_13 : decode cX12_reset 13 = .ok (.iload_n 1, 1) := by decide +kernel
theorem dX12_reset_14 : decode cX12_reset 14 = .ok (.iconst 1, 1) := by decide +kernel
theorem dX12_reset_15 : decode cX12_reset 15 = .ok (.iastore, 1) := by decide +kernel
theorem dX12_reset_16 : decode cX12_reset 16 = .ok (.aload_n 0, 1) := by decide +kernel
theorem dX12_reset_17 : decode cX12_reset 17 = .ok (.getfield 190, 3) := by decide +kernel
theorem dX12_reset_20 : decode cX12_reset 20 = .ok (.iload_n 1, 1) := by decide +kernel
theorem dX12_reset_21 : decode cX12_reset 21 = .ok (.iconst 0, 1) := by decide +kernel
theorem dX12_reset_22 : decode cX12_reset 22 = .ok (.iastore, 1) := by decide +kernel
theorem dX12_reset_23 : decode cX12_reset 23 = .ok (.aload_n 0, 1) := by decide +kernel
theorem dX12_reset_24 : decode cX12_reset 24 = .ok (.getfield 199, 3) := by decide +kernel
theorem dX12_reset_27 : decode cX12_reset 27 = .ok (.iload_n 1, 1) := by decide +kernel
theorem dX12_reset_28 : decode cX12_reset 28 = .ok (.iconst 0, 1) := by decide +kernel
theorem dX12_reset_29 : decode cX12_reset 29 = .ok (.iastore, 1) := by decide +kernel
theorem dX12_reset_30 : decode cX12_reset 30 = .ok (.aload_n 0, 1) := by decide +kernel
theorem dX12_reset_31 : decode cX12_reset 31 = .ok (.getfield 202, 3) := by decide +kernel
theorem dX12_reset_34 : decode cX12_reset 34 = .ok (.iload_n 1, 1) := by decide +kernel
theorem dX12_reset_35 : decode cX12_reset 35 = .ok (.iconst 0, 1) := by decide +kernel
theorem dX12_reset_36 : decode cX12_reset 36 = .ok (.iastore, 1) := by decide +kernel
theorem dX12_reset_37 : decode cX12_reset 37 = .ok (.aload_n 0, 1) := by decide +kernel
theorem dX12_reset_38 : decode cX12_reset 38 = .ok (.getfield 205, 3) := by decide +kernel
theorem dX12_reset_41 : decode cX12_reset 41 = .ok (.iload_n 1, 1) := by decide +kernel
theorem dX12_reset_42 : decode cX12_reset 42 = .ok (.iconst 0, 1) := by decide +kernel
theorem dX12_reset_43 : decode cX12_reset 43 = .ok (.iastore, 1) := by decide +kernel
theorem dX12_reset_44 : decode cX12_reset 44 = .ok (.aload_n 0, 1) := by decide +kernel
theorem dX12_reset_45 : decode cX12_reset 45 = .ok (.getfield 208, 3) := by decide +kernel
theorem dX12_reset_48 : decode cX12_reset 48 = .ok (.iload_n 1, 1) := by decide +kernel
theorem dX12_reset_49 : decode cX12_reset 49 = .ok (.iconst 0, 1) := by decide +kernel
theorem dX12_reset_50 : decode cX12_reset 50 = .ok (.iastore, 1) := by decide +kernel
theorem dX12_reset_51 : decode cX12_reset 51 = .ok (.aload_n 0, 1) := by decide +kernel
theorem dX12_reset_52 : decode cX12_reset 52 = .ok (.getfield 211, 3) := by decide +kernel
theorem dX12_reset_55 : decode cX12_reset 55 = .ok (.iload_n 1, 1) := by decide +kernel
theorem dX12_reset_56 : decode cX12_reset 56 = .ok (.iconst 0, 1) := by decide +kernel
theorem dX12_reset_57 : decode cX12_reset 57 = .ok (.iastore, 1) := by decide +kernel
theorem dX12_reset_58 : decode cX12_reset 58 = .ok (.aload_n 0, 1) := by decide +kernel
theorem dX12_reset_59 : decode cX12_reset 59 = .ok (.getfield 217, 3) := by decide +kernel
theorem dX12_reset_62 : decode cX12_reset 62 = .ok (.iload_n 1, 1) := by decide +kernel
theorem dX12_reset_63 : decode cX12_reset 63 = .ok (.iconst 0, 1) := by decide +kernel
theorem dX12_reset_64 : decode cX12_reset 64 = .ok (.iastore, 1) := by decide +kernel
theorem dX12_reset_65 : decode cX12_reset 65 = .ok (.aload_n 0, 1) := by decide +kernel
theorem dX12_reset_66 : decode cX12_reset 66 = .ok (.getfield 220, 3) := by decide +kernel
theorem dX12_reset_69 : decode cX12_reset 69 = .ok (.iload_n 1, 1) := by decide +kernel
theorem dX12_reset_70 : decode cX12_reset 70 = .ok (.iconst 0, 1) := by decide +kernel
theorem dX12_reset_71 : decode cX12_reset 71 = .ok (.iastore, 1) := by decide +kernel
theorem dX12_reset_72 : decode cX12_reset 72 = .ok (.iconst 0, 1) := by decide +kernel
theorem dX12_reset_73 : decode cX12_reset 73 = .ok (.istore_n 2, 1) := by decide +kernel
theorem dX12_reset_74 : decode cX12_reset 74 = .ok (.iload_n 2, 1) := by decide +kernel
theorem dX12_reset_75 : decode cX12_reset 75 = .ok (.bipush 26, 2) := by decide +kernel
theorem dX12_reset_77 : decode cX12_reset 77 = .ok (.if_icmp .ge 21, 3) := by decide +kernel
theorem dX12_reset_80 : decode cX12_reset 80 = .ok (.aload_n 0, 1) := by decide +kernel
theorem dX12_reset_81 : decode cX12_reset 81 = .ok (.getfield 193, 3) := by decide +kernel
theorem dX12_reset_84 : decode cX12_reset 84 = .ok (.iload_n 1, 1) := by decide +kernel
theorem dX12_reset_85 : decode cX12_reset 85 = .ok (.bipush 26, 2) := by decide +kernel
theorem dX12_reset_87 : decode cX12_reset 87 = .ok (.imul, 1) := by decide +kernel
theorem dX12_reset_88 : decode cX12_reset 88 = .ok (.iload_n 2, 1) := by decide +kernel
theorem dX12_reset_89 : decode cX12_reset 89 = .ok (.iadd, 1) := by decide +kernel
theorem dX12_reset_90 : decode cX12_reset 90 = .ok (.iconst 0, 1) := by decide +kernel
theorem dX12_reset_91 : decode cX12_reset 91 = .ok (.iastore, 1) := by decide +kernel
theorem dX12_reset_92 : decode cX12_reset 92 = .ok (.iinc 2 1, 3) := by decide +kernel
theorem dX12_reset_95 : decode cX12_reset 95 = .ok (.goto (-21), 3) := by decide +kernel
theorem dX12_reset_98 : decode cX12_reset 98 = .ok (.aload_n 0, 1) := by decide +kernel
theorem dX12_reset_99 : decode cX12_reset 99 = .ok (.iload_n 1, 1) := by decide +kernel
theorem dX12_reset_100 : decode cX12_reset 100 = .ok (.iconst 0, 1) := by decide +kernel
theorem dX12_reset_101 : decode cX12_reset 101 = .ok (.invokevirtual 353, 3) := by decide +kernel
theorem dX12_reset_104 : decode cX12_reset 104 = .ok (.return_, 1) := by decide +kernel
theorem dX12_feed_0 : decode cX12_feed 0 = .ok (.aload_n 0, 1) := by decide +kernel
theorem dX12_feed_1 : decode cX12_feed 1 = .ok (.aload_n 0, 1) := by decide +kernel
theorem dX12_feed_2 : decode cX12_feed 2 = .ok (.getfield 494, 3) := by decide +kernel
theorem dX12_feed_5 : decode cX12_feed 5 = .ok (.bipush 20, 2) := by decide +kernel
theorem dX12_feed_7 : decode cX12_feed 7 = .ok (.iadd, 1) := by decide +kernel
theorem dX12_feed_8 : decode cX12_feed 8 = .ok (.sipush 1000, 3) := by decide +kernel
theorem dX12_feed_11 : decode cX12_feed 11 = .ok (.if_icmp .le 7, 3) := by decide +kernel
theorem dX12_feed_14 : decode cX12_feed 14 = .ok (.iconst 1, 1) := by decide +kernel
theorem dX12_feed_15 : decode cX12_feed 15 = .ok (.goto 4, 3) := by decide +kernel
theorem dX12_feed_18 : decode cX12_feed 18 = .ok (.iconst 0, 1) := by decide +kernel
theorem dX12_feed_19 : decode cX12_feed 19 = .ok (.invokevirtual 497, 3) := by decide +kernel
theorem dX12_feed_22 : decode cX12_feed 22 = .ok (.ifCond .eq 5, 3) := by decide +kernel
theorem dX12_feed_25 : decode cX12_feed 25 = .ok (.iconst 0, 1) := by decide +kernel
theorem dX12_feed_26 : decode cX12_feed 26 = .ok (.ireturn, 1) := by decide +kernel
theorem dX12_feed_27 : decode cX12_feed 27 = .ok (.aload_n 0, 1) := by decide +kernel
theorem dX12_feed_28 : decode cX12_feed 28 = .ok (.iload_n 1, 1) := by decide +kernel
theorem dX12_feed_29 : decode cX12_feed 29 = .ok (.invokevirtual 500, 3) := by decide +kernel
theorem dX12_feed_32 : decode cX12_feed 32 = .ok (.aload_n 0, 1) := by decide +kernel
theorem dX12_feed_33 : decode cX12_feed 33 = .ok (.iload_n 2, 1) := by decide +kernel
theorem dX12_feed_34 : decode cX12_feed 34 = .ok (.invokevirtual 500, 3) := by decide +kernel
theorem dX12_feed_37 : decode cX12_feed 37 = .ok (.aload_n 0, 1) := by decide +kernel
theorem dX12_feed_38 : decode cX12_feed 38 = .ok (.iload_n 3, 1) := by decide +kernel
theorem dX12_feed_39 : decode cX12_feed 39 = .ok (.invokevirtual 500, 3) := by decide +kernel
theorem dX12_feed_42 : decode cX12_feed 42 = .ok (.aload_n 0, 1) := by decide +kernel
theorem dX12_feed_43 : decode cX12_feed 43 = .ok (.iload 4, 2) := by decide +kernel
theorem dX12_feed_45 : decode cX12_feed 45 = .ok (.invokevirtual 500, 3) := by decide +kernel
theorem dX12_feed_48 : decode cX12_feed 48 = .ok (.aload_n 0, 1) := by decide +kernel
theorem dX12_feed_49 : decode cX12_feed 49 = .ok (.iload 5, 2) := by decide +kernel
theorem dX12_feed_51 : decode cX12_feed 51 = .ok (.invokevirtual 500, 3) := by decide +kernel
theorem dX12_feed_54 : decode cX12_feed 54 = .ok (.aload_n 0, 1) := by decide +kernel
theorem dX12_feed_55 : decode cX12_feed 55 = .ok (.getfield 494, 3) := by decide +kernel
theorem dX12_feed_58 : decode cX12_feed 58 = .ok (.ireturn, 1) := by decide +kernel
theorem dX12_begin_0 : decode cX12_begin 0 = .ok (.aload_n 0, 1) := by decide +kernel
theorem dX12_begin_1 : decode cX12_begin 1 = .ok (.iload_n 1, 1) := by decide +kernel
theorem dX12_begin_2 : decode cX12_begin 2 = .ok (.putfield 332, 3) := by decide +kernel
theorem dX12_begin_5 : decode cX12_begin 5 = .ok (.aload_n 0, 1) := by decide +kernel
theorem dX12_begin_6 : decode cX12_begin 6 = .ok (.iconst 0, 1) := by decide +kernel
theorem dX12_begin_7 : decode cX12_begin 7 = .ok (.putfield 148, 3) := by decide +kernel
theorem dX12_begin_10 : decode cX12_begin 10 = .ok (.aload_n 0, 1) := by decide +kernel
theorem dX12_begin_11 : decode cX12_begin 11 = .ok (.iconst 0, 1) := by decide +kernel
theorem dX12_begin_12 : decode cX12_begin 12 = .ok (.putfield 132, 3) := by decide +kernel
theorem dX12_begin_15 : decode cX12_begin 15 = .ok (.aload_n 0, 1) := by decide +kernel
theorem dX12_begin_16 : decode cX12_begin 16 = .ok (.iconst 0, 1) := by decide +kernel
theorem dX12_begin_17 : decode cX12_begin 17 = .ok (.putfield 335, 3) := by decide +kernel
theorem dX12_begin_20 : decode cX12_begin 20 = .ok (.aload_n 0, 1) := by decide +kernel
theorem dX12_begin_21 : decode cX12_begin 21 = .ok (.iconst 0, 1) := by decide +kernel
theorem dX12_begin_22 : decode cX12_begin 22 = .ok (.putfield 338, 3) := by decide +kernel
theorem dX12_begin_25 : decode cX12_begin 25 = .ok (.aload_n 0, 1) := by decide +kernel
theorem dX12_begin_26 : decode cX12_begin 26 = .ok (.iconst 0, 1) := by decide +kernel
theorem dX12_begin_27 : decode cX12_begin 27 = .ok (.putfield 341, 3) := by decide +kernel
theorem dX12_begin_30 : decode cX12_begin 30 = .ok (.aload_n 0, 1) := by decide +kernel
theorem dX12_begin_31 : decode cX12_begin 31 = .ok (.iconst 0, 1) := by decide +kernel
theorem dX12_begin_32 : decode cX12_begin 32 = .ok (.putfield 344, 3) := by decide +kernel
theorem dX12_begin_35 : decode cX12_begin 35 = .ok (.aload_n 0, 1) := by decide +kernel
theorem dX12_begin_36 : decode cX12_begin 36 = .ok (.iconst 0, 1) := by decide +kernel
theorem dX12_begin_37 : decode cX12_begin 37 = .ok (.putfield 347, 3) := by decide +kernel
theorem dX12_begin_40 : decode cX12_begin 40 = .ok (.aload_n 0, 1) := by decide +kernel
theorem dX12_begin_41 : decode cX12_begin 41 = .ok (.iconst (-1), 1) := by decide +kernel
theorem dX12_begin_42 : decode cX12_begin 42 = .ok (.putfield 171, 3) := by decide +kernel
theorem dX12_begin_45 : decode cX12_begin 45 = .ok (.iconst 0, 1) := by decide +kernel
theorem dX12_begin_46 : decode cX12_begin 46 = .ok (.istore_n 2, 1) := by decide +kernel
theorem dX12_begin_47 : decode cX12_begin 47 = .ok (.iload_n 2, 1) := by decide +kernel
theorem dX12_begin_48 : decode cX12_begin 48 = .ok (.bipush 26, 2) := by decide +kernel
theorem dX12_begin_50 : decode cX12_begin 50 = .ok (.if_icmp .ge 44, 3) := by decide +kernel
theorem dX12_begin_53 : decode cX12_begin 53 = .ok (.aload_n 0, 1) := by decide +kernel
theorem dX12_begin_54 : decode cX12_begin 54 = .ok (.getfield 151, 3) := by decide +kernel
theorem dX12_begin_57 : decode cX12_begin 57 = .ok (.iload_n 2, 1) := by decide +kernel
theorem dX12_begin_58 : decode cX12_begin 58 = .ok (.iconst 0, 1) := by decide +kernel
theorem dX12_begin_59 : decode cX12_begin 59 = .ok (.iastore, 1) := by decide +kernel
theorem dX12_begin_60 : decode cX12_begin 60 = .ok (.aload_n 0, 1) := by decide +kernel
theorem dX12_begin_61 : decode cX12_begin 61 = .ok (.getfield 157, 3) := by decide +kernel
theorem dX12_begin_64 : decode cX12_begin 64 = .ok (.iload_n 2, 1) := by decide +kernel
theorem dX12_begin_65 : decode cX12_begin 65 = .ok (.iconst 0, 1) := by decide +kernel
theorem dX12_begin_66 : decode cX12_begin 66 = .ok (.iastore, 1) := by decide +kernel
theorem dX12_begin_67 : decode cX12_begin 67 = .ok (.aload_n 0, 1) := by decide +kernel
theorem dX12_begin_68 : decode cX12_begin 68 = .ok (.getfield 177, 3) := by decide +kernel
theorem dX12_begin_71 : decode cX12_begin 71 = .ok (.iload_n 2, 1) := by decide +kernel
theorem dX12_begin_72 : decode cX12_begin 72 = .ok (.iconst (-1), 1) := by decide +kernel
theorem dX12_begin_73 : decode cX12_begin 73 = .ok (.iastore, 1) := by decide +kernel
theorem dX12_begin_74 : decode cX12_begin 74 = .ok (.aload_n 0, 1) := by decide +kernel
theorem dX12_begin_75 : decode cX12_begin 75 = .ok (.getfield 180, 3) := by decide +kernel
theorem dX12_begin_78 : decode cX12_begin 78 = .ok (.iload_n 2, 1) := by decide +kernel
theorem dX12_begin_79 : decode cX12_begin 79 = .ok (.iconst 0, 1) := by decide +kernel
theorem dX12_begin_80 : decode cX12_begin 80 = .ok (.iastore, 1) := by decide +kernel
theorem dX12_begin_81 : decode cX12_begin 81 = .ok (.aload_n 0, 1) := by decide +kernel
theorem dX12_begin_82 : decode cX12_begin 82 = .ok (.getfield 154, 3) := by decide +kernel
theorem dX12_begin_85 : decode cX12_begin 85 = .ok (.iload_n 2, 1) := by decide +kernel
theorem dX12_begin_86 : decode cX12_begin 86 = .ok (.iconst (-1), 1) := by decide +kernel
theorem dX12_begin_87 : decode cX12_begin 87 = .ok (.iastore, 1) := by decide +kernel
theorem dX12_begin_88 : decode cX12_begin 88 = .ok (.iinc 2 1, 3) := by decide +kernel
theorem dX12_begin_91 : decode cX12_begin 91 = .ok (.goto (-44), 3) := by decide +kernel
theorem dX12_begin_94 : decode cX12_begin 94 = .ok (.iconst 0, 1) := by decide +kernel
theorem dX12_begin_95 : decode cX12_begin 95 = .ok (.istore_n 2, 1) := by decide +kernel
theorem dX12_begin_96 : decode cX12_begin 96 = .ok (.iload_n 2, 1) := by decide +kernel
theorem dX12_begin_97 : decode cX12_begin 97 = .ok (.bipush 6, 2) := by decide +kernel
theorem dX12_begin_99 : decode cX12_begin 99 = .ok (.if_icmp .ge 14, 3) := by decide +kernel
theorem dX12_begin_102 : decode cX12_begin 102 = .ok (.aload_n 0, 1) := by decide +kernel
theorem dX12_begin_103 : decode cX12_begin 103 = .ok (.iload_n 2, 1) := by decide +kernel
theorem dX12_begin_104 : decode cX12_begin 104 = .ok (.invokevirtual 350, 3) := by decide +kernel
theorem dX12_begin_107 : decode cX12_begin 107 = .ok (.iinc 2 1, 3) := by decide +kernel
theorem dX12_begin_110 : decode cX12_begin 110 = .ok (.goto (-14), 3) := by decide +kernel
theorem dX12_begin_113 : decode cX12_begin 113 = .ok (.return_, 1) := by decide +kernel
theorem dX12_start_0 : decode cX12_start 0 = .ok (.aload_n 0, 1) := by decide +kernel
theorem dX12_start_1 : decode cX12_start 1 = .ok (.iload_n 1, 1) := by decide +kernel
theorem dX12_start_2 : decode cX12_start 2 = .ok (.ifCond .lt 8, 3) := by decide +kernel
theorem dX12_start_5 : decode cX12_start 5 = .ok (.iload_n 1, 1) := by decide +kernel
theorem dX12_start_6 : decode cX12_start 6 = .ok (.iconst 4, 1) := by decide +kernel
theorem dX12_start_7 : decode cX12_start 7 = .ok (.if_icmp .le 7, 3) := by decide +kernel
theorem dX12_start_10 : decode cX12_start 10 = .ok (.iconst 1, 1) := by decide +kernel
theorem dX12_start_11 : decode cX12_start 11 = .ok (.goto 4, 3) := by decide +kernel
theorem dX12_start_14 : decode cX12_start 14 = .ok (.iconst 0, 1) := by decide +kernel
theorem dX12_start_15 : decode cX12_start 15 = .ok (.invokevirtual 497, 3) := by decide +kernel
theorem dX12_start_18 : decode cX12_start 18 = .ok (.ifCond .eq 4, 3) := by decide +kernel
theorem dX12_start_21 : decode cX12_start 21 = .ok (.return_, 1) := by decide +kernel
theorem dX12_start_22 : decode cX12_start 22 = .ok (.aload_n 0, 1) := by decide +kernel
theorem dX12_start_23 : decode cX12_start 23 = .ok (.iload_n 1, 1) := by decide +kernel
theorem dX12_start_24 : decode cX12_start 24 = .ok (.invokevirtual 329, 3) := by decide +kernel
theorem dX12_start_27 : decode cX12_start 27 = .ok (.return_, 1) := by decide +kernel
