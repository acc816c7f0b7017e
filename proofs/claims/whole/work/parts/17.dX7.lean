theorem dX7_enterLevel_0 : decode cX7_enterLevel 0 = .ok (.aload_n 0, 1) := by decide +kernel
theorem dX7_enterLevel_1 : decode cX7_enterLevel 1 = .ok (.getfield 62, 3) := by decide +kernel
theorem dX7_enterLevel_4 : decode cX7_enterLevel 4 = .ok (.ifCond .lt 12, 3) := by decide +kernel
theorem dX7_enterLevel_7 : decode cX7_enterLevel 7 = .ok (.aload_n 0, 1) := by decide +kernel
theorem dX7_enterLevel_8 : decode cX7_enterLevel 8 = .ok (.getfield 62, 3) := by decide +kernel
theorem dX7_enterLevel_11 : decode cX7_enterLevel 11 = .ok (.bipush 10, 2) := by decide +kernel
theorem dX7_enterLevel_13 : decode cX7_enterLevel 13 = .ok (.if_icmp .lt 4, 3) := by decide +kernel
theorem dX7_enterLevel_16 : decode cX7_enterLevel 16 = .ok (.return_, 1) := by decide +kernel
theorem dX7_enterLevel_17 : decode cX7_enterLevel 17 = .ok (.aload_n 0, 1) := by decide +kernel
theorem dX7_enterLevel_18 : decode cX7_enterLevel 18 = .ok (.aload_n 0, 1) := by decide +kernel
theorem dX7_enterLevel_19 : decode cX7_enterLevel 19 = .ok (.getfield 62, 3) := by decide +kernel
theorem dX7_enterLevel_22 : decode cX7_enterLevel 22 = .ok (.invokevirtual 89, 3) := by decide +kernel
theorem dX7_enterLevel_25 : decode cX7_enterLevel 25 = .ok (.astore_n 2, 1) := by decide +kernel
theorem dX7_enterLevel_26 : decode cX7_enterLevel 26 = .ok (.aload_n 2, 1) := by decide +kernel
theorem dX7_enterLevel_27 : decode cX7_enterLevel 27 = .ok (.invokevirtual 93, 3) := by decide +kernel
theorem dX7_enterLevel_30 : decode cX7_enterLevel 30 = .ok (.aload_n 2, 1) := by decide +kernel
theorem dX7_enterLevel_31 : decode cX7_enterLevel 31 = .ok (.invokevirtual 96, 3) := by decide +kernel
theorem dX7_enterLevel_34 : decode cX7_enterLevel 34 = .ok (.aload_n 2, 1) := by decide +kernel
theorem dX7_enterLevel_35 : decode cX7_enterLevel 35 = .ok (.iload_n 1, 1) := by decide +kernel
theorem dX7_enterLevel_36 : decode cX7_enterLevel 36 = .ok (.putfield 99, 3) := by decide +kernel
theorem dX7_enterLevel_39 : decode cX7_enterLevel 39 = .ok (.aload_n 2, 1) := by decide +kernel
theorem dX7_enterLevel_40 : decode cX7_enterLevel 40 = .ok (.iconst 0, 1) := by decide +kernel
theorem dX7_enterLevel_41 : decode cX7_enterLevel 41 = .ok (.putfield 102, 3) := by decide +kernel
theorem dX7_enterLevel_44 : decode cX7_enterLevel 44 = .ok (.aload_n 2, 1) := by decide +kernel
theorem dX7_enterLevel_45 : decode cX7_enterLevel 45 = .ok (.aload_n 0, 1) := by decide +kernel
theorem dX7_enterLevel_46 : decode cX7_enterLevel 46 = .ok (.getfield 68, 3) := by decide +kernel
theorem dX7_enterLevel_49 : decode cX7_enterLevel 49 = .ok (.putfield 106, 3) := by decide +kernel
theorem dX7_enterLevel_52 : decode cX7_enterLevel 52 = .ok (.aload_n 2, 1) := by decide +kernel
theorem dX7_enterLevel_53 : decode cX7_enterLevel 53 = .ok (.aload_n 0, 1) := by decide +kernel
theorem dX7_enterLevel_54 : decode cX7_enterLevel 54 = .ok (.getfield 65, 3) := by decide +kernel
theorem dX7_enterLevel_57 : decode cX7_enterLevel 57 = .ok (.putfield 109, 3) := by decide +kernel
theorem dX7_enterLevel_60 : decode cX7_enterLevel 60 = .ok (.aload_n 0, 1) := by decide +kernel
theorem dX7_enterLevel_61 : decode cX7_enterLevel 61 = .ok (.getfield 31, 3) := by decide +kernel
theorem dX7_enterLevel_64 : decode cX7_enterLevel 64 = .ok (.iconst 0, 1) := by decide +kernel
theorem dX7_enterLevel_65 : decode cX7_enterLevel 65 = .ok (.aload_n 2, 1) := by decide +kernel
theorem dX7_enterLevel_66 : decode cX7_enterLevel 66 = .ok (.getfield 112, 3) := by decide +kernel
theorem dX7_enterLevel_69 : decode cX7_enterLevel 69 = .ok (.iconst 0, 1) := by decide +kernel
theorem dX7_enterLevel_70 : decode cX7_enterLevel 70 = .ok (.bipush 26, 2) := by decide +kernel
theorem dX7_enterLevel_72 : decode cX7_enterLevel 72 = .ok (.invokestatic 113, 3) := by decide +kernel
theorem dX7_enterLevel_75 : decode cX7_enterLevel 75 = .ok (.aload_n 0, 1) := by decide +kernel
theorem dX7_enterLevel_76 : decode cX7_enterLevel 76 = .ok (.dup, 1) := by decide +kernel
theorem dX7_enterLevel_77 : decode cX7_enterLevel 77 = .ok (.getfield 62, 3) := by decide +kernel
theorem dX7_enterLevel_80 : decode cX7_enterLevel 80 = .ok (.iconst 1, 1) := by decide +kernel
theorem dX7_enterLevel_81 : decode cX7_enterLevel 81 = .ok (.iadd, 1) := by decide +kernel
theorem dX7_enterLevel_82 : decode cX7_enterLevel 82 = .ok (.putfield 62, 3) := by decide +kernel
theorem dX7_enterLevel_85 : decode cX7_enterLevel 85 = .ok (.return_, 1) := by decide +kernel
theorem dX7_enterTry_0 : decode cX7_enterTry 0 = .ok (.aload_n 0, 1) := by decide +kernel
theorem dX7_enterTry_1 : decode cX7_enterTry 1 = .ok (.getfield 65, 3) := by decide +kernel
theorem dX7_enterTry_4 : decode cX7_enterTry 4 = .ok (.ifCond .lt 45, 3) := by decide +kernel
theorem dX7_enterTry_7 : decode cX7_enterTry 7 = .ok (.aload_n 0, 1) := by decide +kernel
theorem dX7_enterTry_8 : decode cX7_enterTry 8 = .ok (.getfield 65, 3) := by decide +kernel
theorem dX7_enterTry_11 : decode cX7_enterTry 11 = .ok (.bipush 10, 2) := by decide +kernel
theorem dX7_enterTry_13 : decode cX7_enterTry 13 = .ok (.if_icmp .ge 36, 3) := by decide +kernel
theorem dX7_enterTry_16 : decode cX7_enterTry 16 = .ok (.aload_n 0, 1) := by decide +kernel
theorem dX7_enterTry_17 : decode cX7_enterTry 17 = .ok (.getfield 41, 3) := by decide +kernel
theorem dX7_enterTry_20 : decode cX7_enterTry 20 = .ok (.aload_n 0, 1) := by decide +kernel
theorem dX7_enterTry_21 : decode cX7_enterTry 21 = .ok (.getfield 65, 3) := by decide +kernel
theorem dX7_enterTry_24 : decode cX7_enterTry 24 = .ok (.iload_n 1, 1) := by decide +kernel
theorem dX7_enterTry_25 : decode cX7_enterTry 25 = .ok (.iastore, 1) := by decide +kernel
theorem dX7_enterTry_26 : decode cX7_enterTry 26 = .ok (.aload_n 0, 1) := by decide +kernel
theorem dX7_enterTry_27 : decode cX7_enterTry 27 = .ok (.getfield 44, 3) := by decide +kernel
theorem dX7_enterTry_30 : decode cX7_enterTry 30 = .ok (.aload_n 0, 1) := by decide +kernel
theorem dX7_enterTry_31 : decode cX7_enterTry 31 = .ok (.getfield 65, 3) := by decide +kernel
theorem dX7_enterTry_34 : decode cX7_enterTry 34 = .ok (.aload_n 0, 1) := by decide +kernel
theorem dX7_enterTry_35 : decode cX7_enterTry 35 = .ok (.getfield 62, 3) := by decide +kernel
theorem dX7_enterTry_38 : decode cX7_enterTry 38 = .ok (.iastore, 1) := by decide +kernel
theorem dX7_enterTry_39 : decode cX7_enterTry 39 = .ok (.aload_n 0, 1) := by decide +kernel
theorem dX7_enterTry_40 : decode cX7_enterTry 40 = .ok (.dup, 1) := by decide +kernel
theorem dX7_enterTry_41 : decode cX7_enterTry 41 = .ok (.getfield 65, 3) := by decide +kernel
theorem dX7_enterTry_44 : decode cX7_enterTry 44 = .ok (.iconst 1, 1) := by decide +kernel
theorem dX7_enterTry_45 : decode cX7_enterTry 45 = .ok (.iadd, 1) := by decide +kernel
theorem dX7_enterTry_46 : decode cX7_enterTry 46 = .ok (.putfield 65, 3) := by decide +kernel
theorem dX7_enterTry_49 : decode cX7_enterTry 49 = .ok (.return_, 1) := by decide +kernel
theorem dX7_hold_0 : decode cX7_hold 0 = .ok (.aload_n 0, 1) := by decide +kernel
theorem dX7_hold_1 : decode cX7_hold 1 = .ok (.getfield 68, 3) := by decide +kernel
theorem dX7_hold_4 : decode cX7_hold 4 = .ok (.ifCond .lt 33, 3) := by decide +kernel
theorem dX7_hold_7 : decode cX7_hold 7 = .ok (.aload_n 0, 1) := by decide +kernel
theorem dX7_hold_8 : decode cX7_hold 8 = .ok (.getfield 68, 3) := by decide +kernel
theorem dX7_hold_11 : decode cX7_hold 11 = .ok (.sipush 200, 3) := by decide +kernel
theorem dX7_hold_14 : decode cX7_hold 14 = .ok (.if_icmp .ge 23, 3) := by decide +kernel
theorem dX7_hold_17 : decode cX7_hold 17 = .ok (.aload_n 0, 1) := by decide +kernel
theorem dX7_hold_18 : decode cX7_hold 18 = .ok (.getfield 47, 3) := by decide +kernel
theorem dX7_hold_21 : decode cX7_hold 21 = .ok (.aload_n 0, 1) := by decide +kernel
theorem dX7_hold_22 : decode cX7_hold 22 = .ok (.getfield 68, 3) := by decide +kernel
theorem dX7_hold_25 : decode cX7_hold 25 = .ok (.iload_n 1, 1) := by decide +kernel
theorem dX7_hold_26 : decode cX7_hold 26 = .ok (.iastore, 1) := by decide +kernel
theorem dX7_hold_27 : decode cX7_hold 27 = .ok (.aload_n 0, 1) := by decide +kernel
theorem dX7_hold_28 : decode cX7_hold 28 = .ok (.dup, 1) := by decide +kernel
theorem dX7_hold_29 : decode cX7_hold 29 = .ok (.getfield 68, 3) := by decide +kernel
theorem dX7_hold_32 : decode cX7_hold 32 = .ok (.iconst 1, 1) := by decide +kernel
theorem dX7_hold_33 : decode cX7_hold 33 = .ok (.iadd, 1) := by decide +kernel
theorem dX7_hold_34 : decode cX7_hold 34 = .ok (.putfield 68, 3) := by decide +kernel
theorem dX7_hold_37 : decode cX7_hold 37 = .ok (.return_, 1) := by decide +kernel
theorem dX7_init_0 : decode cX7_init 0 = .ok (.aload_n 0, 1) := by decide +kernel
theorem dX7_init_1 : decode cX7_init 1 = .ok (.invokespecial 3, 3) := by decide +kernel
theorem dX7_init_4 : decode cX7_init 4 = .ok (.aload_n 0, 1) := by decide +kernel
theorem dX7_init_5 : decode cX7_init 5 = .ok (.iload_n 1, 1) := by decide +kernel
theorem dX7_init_6 : decode cX7_init 6 = .ok (.putfield 9, 3) := by decide +kernel
theorem dX7_init_9 : decode cX7_init 9 = .ok (.aload_n 0, 1) := by decide +kernel
theorem dX7_init_10 : decode cX7_init 10 = .ok (.new 15, 3) := by decide +kernel
theorem dX7_init_13 : decode cX7_init 13 = .ok (.dup, 1) := by decide +kernel
theorem dX7_init_14 : decode cX7_init 14 = .ok (.iconst 0, 1) := by decide +kernel
theorem dX7_init_15 : decode cX7_init 15 = .ok (.invokespecial 17, 3) := by decide +kernel
theorem dX7_init_18 : decode cX7_init 18 = .ok (.putfield 20, 3) := by decide +kernel
theorem dX7_init_21 : decode cX7_init 21 = .ok (.aload_n 0, 1) := by decide +kernel
theorem dX7_init_22 : decode cX7_init 22 = .ok (.iconst 0, 1) := by decide +kernel
theorem dX7_init_23 : decode cX7_init 23 = .ok (.putfield 24, 3) := by decide +kernel
theorem dX7_init_26 : decode cX7_init 26 = .ok (.aload_n 0, 1) := by decide +kernel
theorem dX7_init_27 : decode cX7_init 27 = .ok (.bipush 64, 2) := by decide +kernel
theorem dX7_init_29 : decode cX7_init 29 = .ok (.newarray .int, 2) := by decide +kernel
theorem dX7_init_31 : decode cX7_init 31 = .ok (.putfield 27, 3) := by decide +kernel
theorem dX7_init_34 : decode cX7_init 34 = .ok (.aload_n 0, 1) := by decide +kernel
theorem dX7_init_35 : decode cX7_init 35 = .ok (.bipush 26, 2) := by decide +kernel
theorem dX7_init_37 : decode cX7_init 37 = .ok (.newarray .int, 2) := by decide +kernel
theorem dX7_init_39 : decode cX7_init 39 = .ok (.putfield 31, 3) := by decide +kernel
theorem dX7_init_42 : decode cX7_init 42 = .ok (.aload_n 0, 1) := by decide +kernel
theorem dX7_init_43 : decode cX7_init 43 = .ok (.bipush 10, 2) := by decide +kernel
theorem dX7_init_45 : decode cX7_init 45 = .ok (.anewarray 34, 3) := by decide +kernel
theorem dX7_init_48 : decode cX7_init 48 = .ok (.putfield 36, 3) := by decide +kernel
theorem dX7_init_51 : decode cX7_init 51 = .ok (.iconst 0, 1) := by decide +kernel
theorem dX7_init_52 : decode cX7_init 52 = .ok (.istore_n 2, 1) := by decide +kernel
theorem dX7_init_53 : decode cX7_init 53 = .ok (.iload_n 2, 1) := by decide +kernel
theorem dX7_init_54 : decode cX7_init 54 = .ok (.bipush 10, 2) := by decide +kernel
theorem dX7_init_56 : decode cX7_init 56 = .ok (.if_icmp .ge 22, 3) := by decide +kernel
theorem dX7_init_59 : decode cX7_init 59 = .ok (.aload_n 0, 1) := by decide +kernel
theorem dX7_init_60 : decode cX7_init 60 = .ok (.getfield 36, 3) := by decide +kernel
theorem dX7_init_63 : decode cX7_init 63 = .ok (.iload_n 2, 1) := by decide +kernel
theorem dX7_init_64 : decode cX7_init 64 = .ok (.new 34, 3) := by decide +kernel
theorem dX7_init_67 : decode cX7_init 67 = .ok (.dup, 1) := by decide +kernel
theorem dX7_init_68 : decode cX7_init 68 = .ok (.invokespecial 40, 3) := by decide +kernel
theorem dX7_init_71 : decode cX7_init 71 = .ok (.aastore, 1) := by decide +kernel
theorem dX7_init_72 : decode cX7_init 72 = .ok (.iinc 2 1, 3) := by decide +kernel
theorem dX7_init_75 : decode cX7_init 75 = .ok (.goto (-22), 3) := by decide +kernel
theorem dX7_init_78 : decode cX7_init 78 = .ok (.aload_n 0, 1) := by decide +kernel
theorem dX7_init_79 : decode cX7_init 79 = .ok (.bipush 10, 2) := by decide +kernel
theorem dX7_init_81 : decode cX7_init 81 = .ok (.newarray .int, 2) := by decide +kernel
theorem dX7_init_83 : decode cX7_init 83 = .ok (.putfield 41, 3) := by decide +kernel
theorem dX7_init_86 : decode cX7_init 86 = .ok (.aload_n 0, 1) := by decide +kernel
theorem dX7_init_87 : decode cX7_init 87 = .ok (.bipush 10, 2) := by decide +kernel
theorem dX7_init_89 : decode cX7_init 89 = .ok (.newarray .int, 2) := by decide +kernel
theorem dX7_init_91 : decode cX7_init 91 = .ok (.putfield 44, 3) := by decide +kernel
theorem dX7_init_94 : decode cX7_init 94 = .ok (.aload_n 0, 1) := by decide +kernel
theorem dX7_init_95 : decode cX7_init 95 = .ok (.sipush 200, 3) := by decide +kernel
theorem dX7_init_98 : decode cX7_init 98 = .ok (.newarray .int, 2) := by decide +kernel
theorem dX7_init_100 : decode cX7_init 100 = .ok (.putfield 47, 3) := by decide +kernel
theorem dX7_init_103 : decode cX7_init 103 = .ok (.return_, 1) := by decide +kernel
theorem dX7_innermost_0 : decode cX7_innermost 0 = .ok (.aload_n 0, 1) := by decide +kernel
theorem dX7_innermost_1 : decode cX7_innermost 1 = .ok (.aload_n 0, 1) := by decide +kernel
theorem dX7_innermost_2 : decode cX7_innermost 2 = .ok (.getfield 62, 3) := by decide +kernel
theorem dX7_innermost_5 : decode cX7_innermost 5 = .ok (.iconst 1, 1) := by decide +kernel
theorem dX7_innermost_6 : decode cX7_innermost 6 = .ok (.isub, 1) := by decide +kernel
theorem dX7_innermost_7 : decode cX7_innermost 7 = .ok (.invokevirtual 89, 3) := by decide +kernel
theorem dX7_innermost_10 : decode cX7_innermost 10 = .ok (.areturn, 1) := by decide +kernel
theorem dX7_isLeft_0 : decode cX7_isLeft 0 = .ok (.aload_n 0, 1) := by decide +kernel
theorem dX7_isLeft_1 : decode cX7_isLeft 1 = .ok (.getfield 24, 3) := by decide +kernel
theorem dX7_isLeft_4 : decode cX7_isLeft 4 = .ok (.iconst 1, 1) := by decide +kernel
theorem dX7_isLeft_5 : decode cX7_isLeft 5 = .ok (.if_icmp .eq 19, 3) := by decide +kernel
theorem dX7_isLeft_8 : decode cX7_isLeft 8 = .ok (.aload_n 0, 1) := by decide +kernel
theorem dX7_isLeft_9 : decode cX7_isLeft 9 = .ok (.getfield 24, 3) := by decide +kernel
theorem dX7_isLeft_12 : decode cX7_isLeft 12 = .ok (.iconst 2, 1) := by decide +kernel
theorem dX7_isLeft_13 : decode cX7_isLeft 13 = .ok (.if_icmp .eq 11, 3) := by decide +kernel
theorem dX7_isLeft_16 : decode cX7_isLeft 16 = .ok (.aload_n 0, 1) := by decide +kernel
theorem dX7_isLeft_17 : decode cX7_isLeft 17 = .ok (.getfield 24, 3) := by decide +kernel
theorem dX7_isLeft_20 : decode cX7_isLeft 20 = .ok (.iconst 3, 1) := by decide +kernel
theorem dX7_isLeft_21 : decode cX7_isLeft 21 = .ok (.if_icmp .ne 7, 3) := by decide +kernel
theorem dX7_isLeft_24 : decode cX7_isLeft 24 = .ok (.iconst 1, 1) := by decide +kernel
theorem dX7_isLeft_25 : decode cX7_isLeft 25 = .ok (.goto 4, 3) := by decide +kernel
theorem dX7_isLeft_28 : decode cX7_isLeft 28 = .ok (.iconst 0, 1) := by decide +kernel
theorem dX7_isLeft_29 : decode cX7_isLeft 29 = .ok (.ireturn, 1) := by decide +kernel
theorem dX7_leaveTry_0 : decode cX7_leaveTry 0 = .ok (.aload_n 0, 1) := by decide +kernel
theorem dX7_leaveTry_1 : decode cX7_leaveTry 1 = .ok (.getfield 65, 3) := by decide +kernel
theorem dX7_leaveTry_4 : decode cX7_leaveTry 4 = .ok (.ifCond .le 13, 3) := by decide +kernel
theorem dX7_leaveTry_7 : decode cX7_leaveTry 7 = .ok (.aload_n 0, 1) := by decide +kernel
theorem dX7_leaveTry_8 : decode cX7_leaveTry 8 = .ok (.dup, 1) := by decide +kernel
theorem dX7_leaveTry_9 : decode cX7_leaveTry 9 = .ok (.getfield 65, 3) := by decide +kernel
theorem dX7_leaveTry_12 : decode cX7_leaveTry 12 = .ok (.iconst 1, 1) := by decide +kernel
theorem dX7_leaveTry_13 : decode cX7_leaveTry 13 = .ok (.isub, 1) := by decide +kernel
theorem dX7_leaveTry_14 : decode cX7_leaveTry 14 = .ok (.putfield 65, 3) := by decide +kernel
theorem dX7_leaveTry_17 : decode cX7_leaveTry 17 = .ok (.return_, 1) := by decide +kernel
theorem dX7_level_0 : decode cX7_level 0 = .ok (.aload_n 0, 1) := by decide +kernel
theorem dX7_level_1 : decode cX7_level 1 = .ok (.getfield 36, 3) := by decide +kernel
theorem dX7_level_4 : decode cX7_level 4 = .ok (.iload_n 1, 1) := by decide +kernel
theorem dX7_level_5 : decode cX7_level 5 = .ok (.ifCond .ge 7, 3) := by decide +kernel
theorem dX7_level_8 : decode cX7_level 8 = .ok (.iconst 0, 1) := by decide +kernel
theorem dX7_level_9 : decode cX7_level 9 = .ok (.goto 15, 3) := by decide +kernel
theorem dX7_level_12 : decode cX7_level 12 = .ok (.iload_n 1, 1) := by decide +kernel
theorem dX7_level_13 : decode cX7_level 13 = .ok (.bipush 10, 2) := by decide +kernel
theorem dX7_level_15 : decode cX7_level 15 = .ok (.if_icmp .lt 8, 3) := by decide +kernel
theorem dX7_level_18 : decode cX7_level 18 = .ok (.bipush 9, 2) := by decide +kernel
theorem dX7_level_20 : decode cX7_level 20 = .ok (.goto 4, 3) := by decide +kernel
theorem dX7_level_23 : decode cX7_level 23 = .ok (.iload_n 1, 1) := by decide +kernel
theorem dX7_level_24 : decode cX7_level 24 = .ok (.aaload, 1) := by decide +kernel
theorem dX7_level_25 : decode cX7_level 25 = .ok (.areturn, 1) := by decide +kernel
theorem dX7_levelWithOr_0 : decode cX7_levelWithOr 0 = .ok (.aload_n 0, 1) := by decide +kernel
theorem dX7_levelWithOr_1 : decode cX7_levelWithOr 1 = .ok (.getfield 62, 3) := by decide +kernel
theorem dX7_levelWithOr_4 : decode cX7_levelWithOr 4 = .ok (.iconst 1, 1) := by decide +kernel
theorem dX7_levelWithOr_5 : decode cX7_levelWithOr 5 = .ok (.isub, 1) := by decide +kernel
theorem dX7_levelWithOr_6 : decode cX7_levelWithOr 6 = .ok (.istore_n 1, 1) := by decide +kernel
theorem dX7_levelWithOr_7 : decode cX7_levelWithOr 7 = .ok (.iload_n 1, 1) := by decide +kernel
theorem dX7_levelWithOr_8 : decode cX7_levelWithOr 8 = .ok (.ifCond .lt 40, 3) := by decide +kernel
theorem dX7_levelWithOr_11 : decode cX7_levelWithOr 11 = .ok (.aload_n 0, 1) := by decide +kernel
theorem dX7_levelWithOr_12 : decode cX7_levelWithOr 12 = .ok (.iload_n 1, 1) := by decide +kernel
theorem dX7_levelWithOr_13 : decode cX7_levelWithOr 13 = .ok (.invokevirtual 89, 3) := by decide +kernel
theorem dX7_levelWithOr_16 : decode cX7_levelWithOr 16 = .ok (.getfield 102, 3) := by decide +kernel
theorem dX7_levelWithOr_19 : decode cX7_levelWithOr 19 = .ok (.ifCond .ne 23, 3) := by decide +kernel
theorem dX7_levelWithOr_22 : decode cX7_levelWithOr 22 = .ok (.aload_n 0, 1) := by decide +kernel
theorem dX7_levelWithOr_23 : decode cX7_levelWithOr 23 = .ok (.getfield 20, 3) := by decide +kernel
theorem dX7_levelWithOr_26 : decode cX7_levelWithOr 26 = .ok (.aload_n 0, 1) := by decide +kernel
theorem dX7_levelWithOr_27 : decode cX7_levelWithOr 27 = .ok (.iload_n 1, 1) := by decide +kernel
theorem dX7_levelWithOr_28 : decode cX7_levelWithOr 28 = .ok (.invokevirtual 89, 3) := by decide +kernel
theorem dX7_levelWithOr_31 : decode cX7_levelWithOr 31 = .ok (.getfield 99, 3) := by decide +kernel
theorem dX7_levelWithOr_34 : decode cX7_levelWithOr 34 = .ok (.invokevirtual 119, 3) := by decide +kernel
theorem dX7_levelWithOr_37 : decode cX7_levelWithOr 37 = .ok (.ifCond .lt 5, 3) := by decide +kernel
theorem dX7_levelWithOr_40 : decode cX7_levelWithOr 40 = .ok (.iload_n 1, 1) := by decide +kernel
theorem dX7_levelWithOr_41 : decode cX7_levelWithOr 41 = .ok (.ireturn, 1) := by decide +kernel
theorem dX7_levelWithOr_42 : decode cX7_levelWithOr 42 = .ok (.iinc 1 (-1), 3) := by decide +kernel
theorem dX7_levelWithOr_45 : decode cX7_levelWithOr 45 = .ok (.goto (-38), 3) := by decide +kernel
theorem dX7_levelWithOr_48 : decode cX7_levelWithOr 48 = .ok (.iconst (-1), 1) := by decide +kernel
theorem dX7_levelWithOr_49 : decode cX7_levelWithOr 49 = .ok (.ireturn, 1) := by decide +kernel
theorem dX7_pop_0 : decode cX7_pop 0 = .ok (.aload_n 0, 1) := by decide +kernel
theorem dX7_pop_1 : decode cX7_pop 1 = .ok (.getfield 53, 3) := by decide +kernel
theorem dX7_pop_4 : decode cX7_pop 4 = .ok (.ifCond .le 12, 3) := by decide +kernel
theorem dX7_pop_7 : decode cX7_pop 7 = .ok (.aload_n 0, 1) := by decide +kernel
theorem dX7_pop_8 : decode cX7_pop 8 = .ok (.getfield 53, 3) := by decide +kernel
theorem dX7_pop_11 : decode cX7_pop 11 = .ok (.bipush 64, 2) := by decide +kernel
theorem dX7_pop_13 : decode cX7_pop 13 = .ok (.if_icmp .le 5, 3) := by decide +kernel
theorem dX7_pop_16 : decode cX7_pop 16 = .ok (.iconst 0, 1) := by decide +kernel
theorem dX7_pop_17 : decode cX7_pop 17 = .ok (.ireturn, 1) := by decide +kernel
theorem dX7_pop_18 : decode cX7_pop 18 = .ok (.aload_n 0, 1) := by decide +kernel
theorem dX7_pop_19 : decode cX7_pop 19 = .ok (.dup, 1) := by decide +kernel
theorem dX7_pop_20 : decode cX7_pop 20 = .ok (.getfield 53, 3) := by decide +kernel
theorem dX7_pop_23 : decode cX7_pop 23 = .ok (.iconst 1, 1) := by decide +kernel
theorem dX7_pop_24 : decode cX7_pop 24 = .ok (.isub, 1) := by decide +kernel
theorem dX7_pop_25 : decode cX7_pop 25 = .ok (.putfield 53, 3) := by decide +kernel
theorem dX7_pop_28 : decode cX7_pop 28 = .ok (.aload_n 0, 1) := by decide +kernel
theorem dX7_pop_29 : decode cX7_pop 29 = .ok (.getfield 27, 3) := by decide +kernel
theorem dX7_pop_32 : decode cX7_pop 32 = .ok (.aload_n 0, 1) := by decide +kernel
theorem dX7_pop_33 : decode cX7_pop 33 = .ok (.getfield 53, 3) := by decide +kernel
theorem dX7_pop_36 : decode cX7_pop 36 = .ok (.iaload, 1) := by decide +kernel
theorem dX7_pop_37 : decode cX7_pop 37 = .ok (.ireturn, 1) := by decide +kernel
theorem dX7_push_0 : decode cX7_push 0 = .ok (.aload_n 0, 1) := by decide +kernel
theorem dX7_push_1 : decode cX7_push 1 = .ok (.getfield 53, 3) := by decide +kernel
theorem dX7_push_4 : decode cX7_push 4 = .ok (.ifCond .lt 32, 3) := by decide +kernel
theorem dX7_push_7 : decode cX7_push 7 = .ok (.aload_n 0, 1) := by decide +kernel
theorem dX7_push_8 : decode cX7_push 8 = .ok (.getfield 53, 3) := by decide +kernel
theorem dX7_push_11 : decode cX7_push 11 = .ok (.bipush 64, 2) := by decide +kernel
theorem dX7_push_13 : decode cX7_push 13 = .ok (.if_icmp .ge 23, 3) := by decide +kernel
theorem dX7_push_16 : decode cX7_push 16 = .ok (.aload_n 0, 1) := by decide +kernel
theorem dX7_push_17 : decode cX7_push 17 = .ok (.getfield 27, 3) := by decide +kernel
theorem dX7_push_20 : decode cX7_push 20 = .ok (.aload_n 0, 1) := by decide +kernel
theorem dX7_push_21 : decode cX7_push 21 = .ok (.getfield 53, 3) := by decide +kernel
theorem dX7_push_24 : decode cX7_push 24 = .ok (.iload_n 1, 1) := by decide +kernel
theorem dX7_push_25 : decode cX7_push 25 = .ok (.iastore, 1) := by decide +kernel
theorem dX7_push_26 : decode cX7_push 26 = .ok (.aload_n 0, 1) := by decide +kernel
theorem dX7_push_27 : decode cX7_push 27 = .ok (.dup, 1) := by decide +kernel
theorem dX7_push_28 : decode cX7_push 28 = .ok (.getfield 53, 3) := by decide +kernel
theorem dX7_push_31 : decode cX7_push 31 = .ok (.iconst 1, 1) := by decide +kernel
theorem dX7_push_32 : decode cX7_push 32 = .ok (.iadd, 1) := by decide +kernel
theorem dX7_push_33 : decode cX7_push 33 = .ok (.putfield 53, 3) := by decide +kernel
theorem dX7_push_36 : decode cX7_push 36 = .ok (.return_, 1) := by decide +kernel
theorem dX7_readsOfAll_0 : decode cX7_readsOfAll 0 = .ok (.iconst 0, 1) := by decide +kernel
theorem dX7_readsOfAll_1 : decode cX7_readsOfAll 1 = .ok (.istore_n 1, 1) := by decide +kernel
theorem dX7_readsOfAll_2 : decode cX7_readsOfAll 2 = .ok (.iconst 0, 1) := by decide +kernel
theorem dX7_readsOfAll_3 : decode cX7_readsOfAll 3 = .ok (.istore_n 2, 1) := by decide +kernel
theorem dX7_readsOfAll_4 : decode cX7_readsOfAll 4 = .ok (.iload_n 2, 1) := by decide +kernel
theorem dX7_readsOfAll_5 : decode cX7_readsOfAll 5 = .ok (.aload_n 0, 1) := by decide +kernel
theorem dX7_readsOfAll_6 : decode cX7_readsOfAll 6 = .ok (.getfield 62, 3) := by decide +kernel
theorem dX7_readsOfAll_9 : decode cX7_readsOfAll 9 = .ok (.if_icmp .ge 20, 3) := by decide +kernel
theorem dX7_readsOfAll_12 : decode cX7_readsOfAll 12 = .ok (.iload_n 1, 1) := by decide +kernel
theorem dX7_readsOfAll_13 : decode cX7_readsOfAll 13 = .ok (.aload_n 0, 1) := by decide +kernel
theorem dX7_readsOfAll_14 : decode cX7_readsOfAll 14 = .ok (.iload_n 2, 1) := by decide +kernel
theorem dX7_readsOfAll_15 : decode cX7_readsOfAll 15 = .ok (.invokevirtual 89, 3) := by decide +kernel
theorem dX7_readsOfAll_18 : decode cX7_readsOfAll 18 = .ok (.getfield 135, 3) := by decide +kernel
theorem dX7_readsOfAll_21 : decode cX7_readsOfAll 21 = .ok (.iadd, 1) := by decide +kernel
theorem dX7_readsOfAll_22 : decode cX7_readsOfAll 22 = .ok (.istore_n 1, 1) := by decide +kernel
theorem dX7_readsOfAll_23 : decode cX7_readsOfAll 23 = .ok (.iinc 2 1, 3) := by decide +kernel
theorem dX7_readsOfAll_26 : decode cX7_readsOfAll 26 = .ok (.goto (-22), 3) := by decide +kernel
theorem dX7_readsOfAll_29 : decode cX7_readsOfAll 29 = .ok (.iload_n 1, 1) := by decide +kernel
theorem dX7_readsOfAll_30 : decode cX7_readsOfAll 30 = .ok (.ireturn, 1) := by decide +kernel
theorem dX7_renew_0 : decode cX7_renew 0 = .ok (.aload_n 0, 1) := by decide +kernel
theorem dX7_renew_1 : decode cX7_renew 1 = .ok (.iconst 1, 1) := by decide +kernel
theorem dX7_renew_2 : decode cX7_renew 2 = .ok (.putfield 24, 3) := by decide +kernel
theorem dX7_renew_5 : decode cX7_renew 5 = .ok (.aload_n 0, 1) := by decide +kernel
theorem dX7_renew_6 : decode cX7_renew 6 = .ok (.iconst 0, 1) := by decide +kernel
theorem dX7_renew_7 : decode cX7_renew 7 = .ok (.putfield 50, 3) := by decide +kernel
theorem dX7_renew_10 : decode cX7_renew 10 = .ok (.aload_n 0, 1) := by decide +kernel
theorem dX7_renew_11 : decode cX7_renew 11 = .ok (.iconst 0, 1) := by decide +kernel
theorem dX7_renew_12 : decode cX7_renew 12 = .ok (.putfield 53, 3) := by decide +kernel
theorem dX7_renew_15 : decode cX7_renew 15 = .ok (.aload_n 0, 1) := by decide +kernel
theorem dX7_renew_16 : decode cX7_renew 16 = .ok (.getfield 31, 3) := by decide +kernel
theorem dX7_renew_19 : decode cX7_renew 19 = .ok (.iconst 0, 1) := by decide +kernel
theorem dX7_renew_20 : decode cX7_renew 20 = .ok (.invokestatic 56, 3) := by decide +kernel
theorem dX7_renew_23 : decode cX7_renew 23 = .ok (.aload_n 0, 1) := by decide +kernel
theorem dX7_renew_24 : decode cX7_renew 24 = .ok (.iconst 0, 1) := by decide +kernel
theorem dX7_renew_25 : decode cX7_renew 25 = .ok (.putfield 62, 3) := by decide +kernel
theorem dX7_renew_28 : decode cX7_renew 28 = .ok (.aload_n 0, 1) := by decide +kernel
theorem dX7_renew_29 : decode cX7_renew 29 = .ok (.iconst 0, 1) := by decide +kernel
theorem dX7_renew_30 : decode cX7_renew 30 = .ok (.putfield 65, 3) := by decide +kernel
theorem dX7_renew_33 : decode cX7_renew 33 = .ok (.aload_n 0, 1) := by decide +kernel
theorem dX7_renew_34 : decode cX7_renew 34 = .ok (.iconst 0, 1) := by decide +kernel
theorem dX7_renew_35 : decode cX7_renew 35 = .ok (.putfield 68, 3) := by decide +kernel
theorem dX7_renew_38 : decode cX7_renew 38 = .ok (.aload_n 0, 1) := by decide +kernel
theorem dX7_renew_39 : decode cX7_renew 39 = .ok (.iconst 0, 1) := by decide +kernel
theorem dX7_renew_40 : decode cX7_renew 40 = .ok (.putfield 71, 3) := by decide +kernel
theorem dX7_renew_43 : decode cX7_renew 43 = .ok (.aload_n 0, 1) := by decide +kernel
theorem dX7_renew_44 : decode cX7_renew 44 = .ok (.iconst 0, 1) := by decide +kernel
theorem dX7_renew_45 : decode cX7_renew 45 = .ok (.putfield 74, 3) := by decide +kernel
theorem dX7_renew_48 : decode cX7_renew 48 = .ok (.aload_n 0, 1) := by decide +kernel
theorem dX7_renew_49 : decode cX7_renew 49 = .ok (.iconst 0, 1) := by decide +kernel
theorem dX7_renew_50 : decode cX7_renew 50 = .ok (.putfield 77, 3) := by decide +kernel
theorem dX7_renew_53 : decode cX7_renew 53 = .ok (.aload_n 0, 1) := by decide +kernel
theorem dX7_renew_54 : decode cX7_renew 54 = .ok (.iconst 0, 1) := by decide +kernel
theorem dX7_renew_55 : decode cX7_renew 55 = .ok (.putfield 80, 3) := by decide +kernel
theorem dX7_renew_58 : decode cX7_renew 58 = .ok (.aload_n 0, 1) := by decide +kernel
theorem dX7_renew_59 : decode cX7_renew 59 = .ok (.iconst 0, 1) := by decide +kernel
theorem dX7_renew_60 : decode cX7_renew 60 = .ok (.putfield 83, 3) := by decide +kernel
theorem dX7_renew_63 : decode cX7_renew 63 = .ok (.aload_n 0, 1) := by decide +kernel
theorem dX7_renew_64 : decode cX7_renew 64 = .ok (.iconst 0, 1) := by decide +kernel
theorem dX7_renew_65 : decode cX7_renew 65 = .ok (.putfield 86, 3) := by decide +kernel
theorem dX7_renew_68 : decode cX7_renew 68 = .ok (.return_, 1) := by decide +kernel
theorem dX7_setBackTo_0 : decode cX7_setBackTo 0 = .ok (.aload_n 1, 1) := by decide +kernel
theorem dX7_setBackTo_1 : decode cX7_setBackTo 1 = .ok (.getfield 112, 3) := by decide +kernel
theorem dX7_setBackTo_4 : decode cX7_setBackTo 4 = .ok (.iconst 0, 1) := by decide +kernel
theorem dX7_setBackTo_5 : decode cX7_setBackTo 5 = .ok (.aload_n 0, 1) := by decide +kernel
theorem dX7_setBackTo_6 : decode cX7_setBackTo 6 = .ok (.getfield 31, 3) := by decide +kernel
theorem dX7_setBackTo_9 : decode cX7_setBackTo 9 = .ok (.iconst 0, 1) := by decide +kernel
theorem dX7_setBackTo_10 : decode cX7_setBackTo 10 = .ok (.bipush 26, 2) := by decide +kernel
theorem dX7_setBackTo_12 : decode cX7_setBackTo 12 = .ok (.invokestatic 113, 3) := by decide +kernel
theorem dX7_setBackTo_15 : decode cX7_setBackTo 15 = .ok (.aload_n 0, 1) := by decide +kernel
theorem dX7_setBackTo_16 : decode cX7_setBackTo 16 = .ok (.aload_n 1, 1) := by decide +kernel
theorem dX7_setBackTo_17 : decode cX7_setBackTo 17 = .ok (.getfield 106, 3) := by decide +kernel
theorem dX7_setBackTo_20 : decode cX7_setBackTo 20 = .ok (.putfield 68, 3) := by decide +kernel
theorem dX7_setBackTo_23 : decode cX7_setBackTo 23 = .ok (.aload_n 0, 1) := by decide +kernel
theorem dX7_setBackTo_24 : decode cX7_setBackTo 24 = .ok (.aload_n 1, 1) := by decide +kernel
theorem dX7_setBackTo_25 : decode cX7_setBackTo 25 = .ok (.getfield 109, 3) := by decide +kernel
theorem dX7_setBackTo_28 : decode cX7_setBackTo 28 = .ok (.putfield 65, 3) := by decide +kernel
theorem dX7_setBackTo_31 : decode cX7_setBackTo 31 = .ok (.aload_n 0, 1) := by decide +kernel
theorem dX7_setBackTo_32 : decode cX7_setBackTo 32 = .ok (.iconst 0, 1) := by decide +kernel
theorem dX7_setBackTo_33 : decode cX7_setBackTo 33 = .ok (.putfield 53, 3) := by decide +kernel
theorem dX7_setBackTo_36 : decode cX7_setBackTo 36 = .ok (.return_, 1) := by decide +kernel
theorem dX7_tellOf_0 : decode cX7_tellOf 0 = .ok (.iload_n 1, 1) := by decide +kernel
theorem dX7_tellOf_1 : decode cX7_tellOf 1 = .ok (.tableswitch 117 0 6 #[43, 48, 65, 70, 90, 95, 112], 43) := by decide +kernel
theorem dX7_tellOf_44 : decode cX7_tellOf 44 = .ok (.aload_n 0, 1) := by decide +kernel
theorem dX7_tellOf_45 : decode cX7_tellOf 45 = .ok (.getfield 24, 3) := by decide +kernel
theorem dX7_tellOf_48 : decode cX7_tellOf 48 = .ok (.ireturn, 1) := by decide +kernel
theorem dX7_tellOf_49 : decode cX7_tellOf 49 = .ok (.aload_n 0, 1) := by decide +kernel
theorem dX7_tellOf_50 : decode cX7_tellOf 50 = .ok (.getfield 24, 3) := by decide +kernel
theorem dX7_tellOf_53 : decode cX7_tellOf 53 = .ok (.iconst 2, 1) := by decide +kernel
theorem dX7_tellOf_54 : decode cX7_tellOf 54 = .ok (.if_icmp .ne 10, 3) := by decide +kernel
theorem dX7_tellOf_57 : decode cX7_tellOf 57 = .ok (.aload_n 0, 1) := by decide +kernel
theorem dX7_tellOf_58 : decode cX7_tellOf 58 = .ok (.getfield 62, 3) := by decide +kernel
theorem dX7_tellOf_61 : decode cX7_tellOf 61 = .ok (.goto 4, 3) := by decide +kernel
theorem dX7_tellOf_64 : decode cX7_tellOf 64 = .ok (.iconst 0, 1) := by decide +kernel
theorem dX7_tellOf_65 : decode cX7_tellOf 65 = .ok (.ireturn, 1) := by decide +kernel
theorem dX7_tellOf_66 : decode cX7_tellOf 66 = .ok (.aload_n 0, 1) := by decide +kernel
theorem dX7_tellOf_67 : decode cX7_tellOf 67 = .ok (.invokevirtual 123, 3) := by decide +kernel
theorem dX7_tellOf_70 : decode cX7_tellOf 70 = .ok (.ireturn, 1) := by decide +kernel
theorem dX7_tellOf_71 : decode cX7_tellOf 71 = .ok (.aload_n 0, 1) := by decide +kernel
theorem dX7_tellOf_72 : decode cX7_tellOf 72 = .ok (.getfield 24, 3) := by decide +kernel
theorem dX7_tellOf_75 : decode cX7_tellOf 75 = .ok (.iconst 2, 1) := by decide +kernel
theorem dX7_tellOf_76 : decode cX7_tellOf 76 = .ok (.if_icmp .ne 13, 3) := by decide +kernel
theorem dX7_tellOf_79 : decode cX7_tellOf 79 = .ok (.aload_n 0, 1) := by decide +kernel
theorem dX7_tellOf_80 : decode cX7_tellOf 80 = .ok (.invokevirtual 127, 3) := by decide +kernel
theorem dX7_tellOf_83 : decode cX7_tellOf 83 = .ok (.invokestatic 130, 3) := by decide +kernel
theorem dX7_tellOf_86 : decode cX7_tellOf 86 = .ok (.goto 4, 3) := by decide +kernel
theorem dX7_tellOf_89 : decode cX7_tellOf 89 = .ok (.iconst 0, 1) := by decide +kernel
theorem dX7_tellOf_90 : decode cX7_tellOf 90 = .ok (.ireturn, 1) := by decide +kernel
theorem dX7_tellOf_91 : decode cX7_tellOf 91 = .ok (.aload_n 0, 1) := by decide +kernel
theorem dX7_tellOf_92 : decode cX7_tellOf 92 = .ok (.getfield 80, 3) := by decide +kernel
theorem dX7_tellOf_95 : decode cX7_tellOf 95 = .ok (.ireturn, 1) := by decide +kernel
theorem dX7_tellOf_96 : decode cX7_tellOf 96 = .ok (.aload_n 0, 1) := by decide +kernel
theorem dX7_tellOf_97 : decode cX7_tellOf 97 = .ok (.getfield 24, 3) := by decide +kernel
theorem dX7_tellOf_100 : decode cX7_tellOf 100 = .ok (.iconst 2, 1) := by decide +kernel
theorem dX7_tellOf_101 : decode cX7_tellOf 101 = .ok (.if_icmp .ne 10, 3) := by decide +kernel
theorem dX7_tellOf_104 : decode cX7_tellOf 104 = .ok (.aload_n 0, 1) := by decide +kernel
theorem dX7_tellOf_105 : decode cX7_tellOf 105 = .ok (.getfield 71, 3) := by decide +kernel
theorem dX7_tellOf_108 : decode cX7_tellOf 108 = .ok (.goto 4, 3) := by decide +kernel
theorem dX7_tellOf_111 : decode cX7_tellOf 111 = .ok (.iconst 0, 1) := by decide +kernel
theorem dX7_tellOf_112 : decode cX7_tellOf 112 = .ok (.ireturn, 1) := by decide +kernel
theorem dX7_tellOf_113 : decode cX7_tellOf 113 = .ok (.aload_n 0, 1) := by decide +kernel
theorem dX7_tellOf_114 : decode cX7_tellOf 114 = .ok (.getfield 86, 3) := by decide +kernel
theorem dX7_tellOf_117 : decode cX7_tellOf 117 = .ok (.ireturn, 1) := by decide +kernel
theorem dX7_tellOf_118 : decode cX7_tellOf 118 = .ok (.aload_n 0, 1) := by decide +kernel
theorem dX7_tellOf_119 : decode cX7_tellOf 119 = .ok (.getfield 83, 3) := by decide +kernel
theorem dX7_tellOf_122 : decode cX7_tellOf 122 = .ok (.ireturn, 1) := by decide +kernel
theorem dX7_tryAtOf_0 : decode cX7_tryAtOf 0 = .ok (.iload_n 1, 1) := by decide +kernel
theorem dX7_tryAtOf_1 : decode cX7_tryAtOf 1 = .ok (.ifCond .lt 18, 3) := by decide +kernel
theorem dX7_tryAtOf_4 : decode cX7_tryAtOf 4 = .ok (.iload_n 1, 1) := by decide +kernel
theorem dX7_tryAtOf_5 : decode cX7_tryAtOf 5 = .ok (.bipush 10, 2) := by decide +kernel
theorem dX7_tryAtOf_7 : decode cX7_tryAtOf 7 = .ok (.if_icmp .ge 12, 3) := by decide +kernel
theorem dX7_tryAtOf_10 : decode cX7_tryAtOf 10 = .ok (.aload_n 0, 1) := by decide +kernel
theorem dX7_tryAtOf_11 : decode cX7_tryAtOf 11 = .ok (.getfield 41, 3) := by decide +kernel
theorem dX7_tryAtOf_14 : decode cX7_tryAtOf 14 = .ok (.iload_n 1, 1) := by decide +kernel
theorem dX7_tryAtOf_15 : decode cX7_tryAtOf 15 = .ok (.iaload, 1) := by decide +kernel
theorem dX7_tryAtOf_16 : decode cX7_tryAtOf 16 = .ok (.goto 4, 3) := by decide +kernel
theorem dX7_tryAtOf_19 : decode cX7_tryAtOf 19 = .ok (.iconst 0, 1) := by decide +kernel
theorem dX7_tryAtOf_20 : decode cX7_tryAtOf 20 = .ok (.ireturn, 1) := by decide +kernel
theorem dX7_tryDepthOf_0 : decode cX7_tryDepthOf 0 = .ok (.iload_n 1, 1) := by decide +kernel
theorem dX7_tryDepthOf_1 : decode cX7_tryDepthOf 1 = .ok (.ifCond .lt 18, 3) := by decide +kernel
theorem dX7_tryDepthOf_4 : decode cX7_tryDepthOf 4 = .ok (.iload_n 1, 1) := by decide +kernel
theorem dX7_tryDepthOf_5 : decode cX7_tryDepthOf 5 = .ok (.bipush 10, 2) := by decide +kernel
theorem dX7_tryDepthOf_7 : decode cX7_tryDepthOf 7 = .ok (.if_icmp .ge 12, 3) := by decide +kernel
theorem dX7_tryDepthOf_10 : decode cX7_tryDepthOf 10 = .ok (.aload_n 0, 1) := by decide +kernel
theorem dX7_tryDepthOf_11 : decode cX7_tryDepthOf 11 = .ok (.getfield 44, 3) := by decide +kernel
theorem dX7_tryDepthOf_14 : decode cX7_tryDepthOf 14 = .ok (.iload_n 1, 1) := by decide +kernel
theorem dX7_tryDepthOf_15 : decode cX7_tryDepthOf 15 = .ok (.iaload, 1) := by decide +kernel
theorem dX7_tryDepthOf_16 : decode cX7_tryDepthOf 16 = .ok (.goto 4, 3) := by decide +kernel
theorem dX7_tryDepthOf_19 : decode cX7_tryDepthOf 19 = .ok (.iconst 0, 1) := by decide +kernel
theorem dX7_tryDepthOf_20 : decode cX7_tryDepthOf 20 = .ok (.ireturn, 1) := by decide +kernel
theorem dX7_writesOfAll_0 : decode cX7_writesOfAll 0 = .ok (.iconst 0, 1) := by decide +kernel
theorem dX7_writesOfAll_1 : decode cX7_writesOfAll 1 = .ok (.istore_n 1, 1) := by decide +kernel
theorem dX7_writesOfAll_2 : decode cX7_writesOfAll 2 = .ok (.iconst 0, 1) := by decide +kernel
theorem dX7_writesOfAll_3 : decode cX7_writesOfAll 3 = .ok (.istore_n 2, 1) := by decide +kernel
theorem dX7_writesOfAll_4 : decode cX7_writesOfAll 4 = .ok (.iload_n 2, 1) := by decide +kernel
theorem dX7_writesOfAll_5 : decode cX7_writesOfAll 5 = .ok (.aload_n 0, 1) := by decide +kernel
theorem dX7_writesOfAll_6 : decode cX7_writesOfAll 6 = .ok (.getfield 62, 3) := by decide +kernel
theorem dX7_writesOfAll_9 : decode cX7_writesOfAll 9 = .ok (.if_icmp .ge 20, 3) := by decide +kernel
theorem dX7_writesOfAll_12 : decode cX7_writesOfAll 12 = .ok (.iload_n 1, 1) := by decide +kernel
theorem dX7_writesOfAll_13 : decode cX7_writesOfAll 13 = .ok (.aload_n 0, 1) := by decide +kernel
theorem dX7_writesOfAll_14 : decode cX7_writesOfAll 14 = .ok (.iload_n 2, 1) := by decide +kernel
theorem dX7_writesOfAll_15 : decode cX7_writesOfAll 15 = .ok (.invokevirtual 89, 3) := by decide +kernel
theorem dX7_writesOfAll_18 : decode cX7_writesOfAll 18 = .ok (.getfield 138, 3) := by decide +kernel
theorem dX7_writesOfAll_21 : decode cX7_writesOfAll 21 = .ok (.ior, 1) := by decide +kernel
theorem dX7_writesOfAll_22 : decode cX7_writesOfAll 22 = .ok (.istore_n 1, 1) := by decide +kernel
theorem dX7_writesOfAll_23 : decode cX7_writesOfAll 23 = .ok (.iinc 2 1, 3) := by decide +kernel
theorem dX7_writesOfAll_26 : decode cX7_writesOfAll 26 = .ok (.goto (-22), 3) := by decide +kernel
theorem dX7_writesOfAll_29 : decode cX7_writesOfAll 29 = .ok (.iload_n 1, 1) := by decide +kernel
theorem dX7_writesOfAll_30 : decode cX7_writesOfAll 30 = .ok (.ireturn, 1) := by decide +kernel
