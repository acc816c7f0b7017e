theorem dX1_add_0 : decode cX1_add 0 = .ok (.aload_n 0, 1) := by decide +kernel
theorem dX1_add_1 : decode cX1_add 1 = .ok (.getfield 23, 3) := by decide +kernel
theorem dX1_add_4 : decode cX1_add 4 = .ok (.istore_n 3, 1) := by decide +kernel
theorem dX1_add_5 : decode cX1_add 5 = .ok (.iload_n 3, 1) := by decide +kernel
theorem dX1_add_6 : decode cX1_add 6 = .ok (.ifCond .lt 39, 3) := by decide +kernel
theorem dX1_add_9 : decode cX1_add 9 = .ok (.iload_n 3, 1) := by decide +kernel
theorem dX1_add_10 : decode cX1_add 10 = .ok (.aload_n 0, 1) := by decide +kernel
theorem dX1_add_11 : decode cX1_add 11 = .ok (.getfield 7, 3) := by decide +kernel
theorem dX1_add_14 : decode cX1_add 14 = .ok (.if_icmp .ge 31, 3) := by decide +kernel
theorem dX1_add_17 : decode cX1_add 17 = .ok (.aload_n 0, 1) := by decide +kernel
theorem dX1_add_18 : decode cX1_add 18 = .ok (.getfield 13, 3) := by decide +kernel
theorem dX1_add_21 : decode cX1_add 21 = .ok (.iload_n 3, 1) := by decide +kernel
theorem dX1_add_22 : decode cX1_add 22 = .ok (.iload_n 1, 1) := by decide +kernel
theorem dX1_add_23 : decode cX1_add 23 = .ok (.iastore, 1) := by decide +kernel
theorem dX1_add_24 : decode cX1_add 24 = .ok (.aload_n 0, 1) := by decide +kernel
theorem dX1_add_25 : decode cX1_add 25 = .ok (.getfield 17, 3) := by decide +kernel
theorem dX1_add_28 : decode cX1_add 28 = .ok (.iload_n 3, 1) := by decide +kernel
theorem dX1_add_29 : decode cX1_add 29 = .ok (.iload_n 2, 1) := by decide +kernel
theorem dX1_add_30 : decode cX1_add 30 = .ok (.iastore, 1) := by decide +kernel
theorem dX1_add_31 : decode cX1_add 31 = .ok (.aload_n 0, 1) := by decide +kernel
theorem dX1_add_32 : decode cX1_add 32 = .ok (.getfield 20, 3) := by decide +kernel
theorem dX1_add_35 : decode cX1_add 35 = .ok (.iload_n 3, 1) := by decide +kernel
theorem dX1_add_36 : decode cX1_add 36 = .ok (.iconst 0, 1) := by decide +kernel
theorem dX1_add_37 : decode cX1_add 37 = .ok (.iastore, 1) := by decide +kernel
theorem dX1_add_38 : decode cX1_add 38 = .ok (.aload_n 0, 1) := by decide +kernel
theorem dX1_add_39 : decode cX1_add 39 = .ok (.iload_n 3, 1) := by decide +kernel
theorem dX1_add_40 : decode cX1_add 40 = .ok (.iconst 1, 1) := by decide +kernel
theorem dX1_add_41 : decode cX1_add 41 = .ok (.iadd, 1) := by decide +kernel
theorem dX1_add_42 : decode cX1_add 42 = .ok (.putfield 23, 3) := by decide +kernel
theorem dX1_add_45 : decode cX1_add 45 = .ok (.iload_n 3, 1) := by decide +kernel
theorem dX1_add_46 : decode cX1_add 46 = .ok (.ireturn, 1) := by decide +kernel
theorem dX1_clear_0 : decode cX1_clear 0 = .ok (.aload_n 0, 1) := by decide +kernel
theorem dX1_clear_1 : decode cX1_clear 1 = .ok (.iconst 0, 1) := by decide +kernel
theorem dX1_clear_2 : decode cX1_clear 2 = .ok (.putfield 23, 3) := by decide +kernel
theorem dX1_clear_5 : decode cX1_clear 5 = .ok (.aload_n 0, 1) := by decide +kernel
theorem dX1_clear_6 : decode cX1_clear 6 = .ok (.iconst 0, 1) := by decide +kernel
theorem dX1_clear_7 : decode cX1_clear 7 = .ok (.putfield 26, 3) := by decide +kernel
theorem dX1_clear_10 : decode cX1_clear 10 = .ok (.return_, 1) := by decide +kernel
theorem dX1_copy_0 : decode cX1_copy 0 = .ok (.new 8, 3) := by decide +kernel
theorem dX1_copy_3 : decode cX1_copy 3 = .ok (.dup, 1) := by decide +kernel
theorem dX1_copy_4 : decode cX1_copy 4 = .ok (.aload_n 0, 1) := by decide +kernel
theorem dX1_copy_5 : decode cX1_copy 5 = .ok (.getfield 23, 3) := by decide +kernel
theorem dX1_copy_8 : decode cX1_copy 8 = .ok (.invokespecial 29, 3) := by decide +kernel
theorem dX1_copy_11 : decode cX1_copy 11 = .ok (.astore_n 1, 1) := by decide +kernel
theorem dX1_copy_12 : decode cX1_copy 12 = .ok (.iconst 0, 1) := by decide +kernel
theorem dX1_copy_13 : decode cX1_copy 13 = .ok (.istore_n 2, 1) := by decide +kernel
theorem dX1_copy_14 : decode cX1_copy 14 = .ok (.iload_n 2, 1) := by decide +kernel
theorem dX1_copy_15 : decode cX1_copy 15 = .ok (.aload_n 0, 1) := by decide +kernel
theorem dX1_copy_16 : decode cX1_copy 16 = .ok (.getfield 23, 3) := by decide +kernel
theorem dX1_copy_19 : decode cX1_copy 19 = .ok (.if_icmp .ge 61, 3) := by decide +kernel
theorem dX1_copy_22 : decode cX1_copy 22 = .ok (.iload_n 2, 1) := by decide +kernel
theorem dX1_copy_23 : decode cX1_copy 23 = .ok (.aload_n 0, 1) := by decide +kernel
theorem dX1_copy_24 : decode cX1_copy 24 = .ok (.getfield 7, 3) := by decide +kernel
theorem dX1_copy_27 : decode cX1_copy 27 = .ok (.if_icmp .ge 53, 3) := by decide +kernel
theorem dX1_copy_30 : decode cX1_copy 30 = .ok (.iload_n 2, 1) := by decide +kernel
theorem dX1_copy_31 : decode cX1_copy 31 = .ok (.aload_n 1, 1) := by decide +kernel
theorem dX1_copy_32 : decode cX1_copy 32 = .ok (.getfield 7, 3) := by decide +kernel
theorem dX1_copy_35 : decode cX1_copy 35 = .ok (.if_icmp .ge 45, 3) := by decide +kernel
theorem dX1_copy_38 : decode cX1_copy 38 = .ok (.aload_n 1, 1) := by decide +kernel
theorem dX1_copy_39 : decode cX1_copy 39 = .ok (.getfield 13, 3) := by decide +kernel
theorem dX1_copy_42 : decode cX1_copy 42 = .ok (.iload_n 2, 1) := by decide +kernel
theorem dX1_copy_43 : decode cX1_copy 43 = .ok (.aload_n 0, 1) := by decide +kernel
theorem dX1_copy_44 : decode cX1_copy 44 = .ok (.getfield 13, 3) := by decide +kernel
theorem dX1_copy_47 : decode cX1_copy 47 = .ok (.iload_n 2, 1) := by decide +kernel
theorem dX1_copy_48 : decode cX1_copy 48 = .ok (.iaload, 1) := by decide +kernel
theorem dX1_copy_49 : decode cX1_copy 49 = .ok (.iastore, 1) := by decide +kernel
theorem dX1_copy_50 : decode cX1_copy 50 = .ok (.aload_n 1, 1) := by decide +kernel
theorem dX1_copy_51 : decode cX1_copy 51 = .ok (.getfield 17, 3) := by decide +kernel
theorem dX1_copy_54 : decode cX1_copy 54 = .ok (.iload_n 2, 1) := by decide +kernel
theorem dX1_copy_55 : decode cX1_copy 55 = .ok (.aload_n 0, 1) := by decide +kernel
theorem dX1_copy_56 : decode cX1_copy 56 = .ok (.getfield 17, 3) := by decide +kernel
theorem dX1_copy_59 : decode cX1_copy 59 = .ok (.iload_n 2, 1) := by decide +kernel
theorem dX1_copy_60 : decode cX1_copy 60 = .ok (.iaload, 1) := by decide +kernel
theorem dX1_copy_61 : decode cX1_copy 61 = .ok (.iastore, 1) := by decide +kernel
theorem dX1_copy_62 : decode cX1_copy 62 = .ok (.aload_n 1, 1) := by decide +kernel
theorem dX1_copy_63 : decode cX1_copy 63 = .ok (.getfield 20, 3) := by decide +kernel
theorem dX1_copy_66 : decode cX1_copy 66 = .ok (.iload_n 2, 1) := by decide +kernel
theorem dX1_copy_67 : decode cX1_copy 67 = .ok (.aload_n 0, 1) := by decide +kernel
theorem dX1_copy_68 : decode cX1_copy 68 = .ok (.getfield 20, 3) := by decide +kernel
theorem dX1_copy_71 : decode cX1_copy 71 = .ok (.iload_n 2, 1) := by decide +kernel
theorem dX1_copy_72 : decode cX1_copy 72 = .ok (.iaload, 1) := by decide +kernel
theorem dX1_copy_73 : decode cX1_copy 73 = .ok (.iastore, 1) := by decide +kernel
theorem dX1_copy_74 : decode cX1_copy 74 = .ok (.iinc 2 1, 3) := by decide +kernel
theorem dX1_copy_77 : decode cX1_copy 77 = .ok (.goto (-63), 3) := by decide +kernel
theorem dX1_copy_80 : decode cX1_copy 80 = .ok (.aload_n 1, 1) := by decide +kernel
theorem dX1_copy_81 : decode cX1_copy 81 = .ok (.aload_n 1, 1) := by decide +kernel
theorem dX1_copy_82 : decode cX1_copy 82 = .ok (.getfield 7, 3) := by decide +kernel
theorem dX1_copy_85 : decode cX1_copy 85 = .ok (.putfield 23, 3) := by decide +kernel
theorem dX1_copy_88 : decode cX1_copy 88 = .ok (.aload_n 1, 1) := by decide +kernel
theorem dX1_copy_89 : decode cX1_copy 89 = .ok (.aload_n 0, 1) := by decide +kernel
theorem dX1_copy_90 : decode cX1_copy 90 = .ok (.getfield 26, 3) := by decide +kernel
theorem dX1_copy_93 : decode cX1_copy 93 = .ok (.putfield 26, 3) := by decide +kernel
theorem dX1_copy_96 : decode cX1_copy 96 = .ok (.aload_n 1, 1) := by decide +kernel
theorem dX1_copy_97 : decode cX1_copy 97 = .ok (.areturn, 1) := by decide +kernel
theorem dX1_firstAt_0 : decode cX1_firstAt 0 = .ok (.iload_n 1, 1) := by decide +kernel
theorem dX1_firstAt_1 : decode cX1_firstAt 1 = .ok (.ifCond .lt 20, 3) := by decide +kernel
theorem dX1_firstAt_4 : decode cX1_firstAt 4 = .ok (.iload_n 1, 1) := by decide +kernel
theorem dX1_firstAt_5 : decode cX1_firstAt 5 = .ok (.aload_n 0, 1) := by decide +kernel
theorem dX1_firstAt_6 : decode cX1_firstAt 6 = .ok (.getfield 7, 3) := by decide +kernel
theorem dX1_firstAt_9 : decode cX1_firstAt 9 = .ok (.if_icmp .ge 12, 3) := by decide +kernel
theorem dX1_firstAt_12 : decode cX1_firstAt 12 = .ok (.aload_n 0, 1) := by decide +kernel
theorem dX1_firstAt_13 : decode cX1_firstAt 13 = .ok (.getfield 17, 3) := by decide +kernel
theorem dX1_firstAt_16 : decode cX1_firstAt 16 = .ok (.iload_n 1, 1) := by decide +kernel
theorem dX1_firstAt_17 : decode cX1_firstAt 17 = .ok (.iaload, 1) := by decide +kernel
theorem dX1_firstAt_18 : decode cX1_firstAt 18 = .ok (.goto 4, 3) := by decide +kernel
theorem dX1_firstAt_21 : decode cX1_firstAt 21 = .ok (.iconst (-1), 1) := by decide +kernel
theorem dX1_firstAt_22 : decode cX1_firstAt 22 = .ok (.ireturn, 1) := by decide +kernel
theorem dX1_init_0 : decode cX1_init 0 = .ok (.aload_n 0, 1) := by decide +kernel
theorem dX1_init_1 : decode cX1_init 1 = .ok (.invokespecial 1, 3) := by decide +kernel
theorem dX1_init_4 : decode cX1_init 4 = .ok (.aload_n 0, 1) := by decide +kernel
theorem dX1_init_5 : decode cX1_init 5 = .ok (.iload_n 1, 1) := by decide +kernel
theorem dX1_init_6 : decode cX1_init 6 = .ok (.ifCond .ge 7, 3) := by decide +kernel
theorem dX1_init_9 : decode cX1_init 9 = .ok (.iconst 0, 1) := by decide +kernel
theorem dX1_init_10 : decode cX1_init 10 = .ok (.goto 4, 3) := by decide +kernel
theorem dX1_init_13 : decode cX1_init 13 = .ok (.iload_n 1, 1) := by decide +kernel
theorem dX1_init_14 : decode cX1_init 14 = .ok (.putfield 7, 3) := by decide +kernel
theorem dX1_init_17 : decode cX1_init 17 = .ok (.aload_n 0, 1) := by decide +kernel
theorem dX1_init_18 : decode cX1_init 18 = .ok (.aload_n 0, 1) := by decide +kernel
theorem dX1_init_19 : decode cX1_init 19 = .ok (.getfield 7, 3) := by decide +kernel
theorem dX1_init_22 : decode cX1_init 22 = .ok (.newarray .int, 2) := by decide +kernel
theorem dX1_init_24 : decode cX1_init 24 = .ok (.putfield 13, 3) := by decide +kernel
theorem dX1_init_27 : decode cX1_init 27 = .ok (.aload_n 0, 1) := by decide +kernel
theorem dX1_init_28 : decode cX1_init 28 = .ok (.aload_n 0, 1) := by decide +kernel
theorem dX1_init_29 : decode cX1_init 29 = .ok (.getfield 7, 3) := by decide +kernel
theorem dX1_init_32 : decode cX1_init 32 = .ok (.newarray .int, 2) := by decide +kernel
theorem dX1_init_34 : decode cX1_init 34 = .ok (.putfield 17, 3) := by decide +kernel
theorem dX1_init_37 : decode cX1_init 37 = .ok (.aload_n 0, 1) := by decide +kernel
theorem dX1_init_38 : decode cX1_init 38 = .ok (.aload_n 0, 1) := by decide +kernel
theorem dX1_init_39 : decode cX1_init 39 = .ok (.getfield 7, 3) := by decide +kernel
theorem dX1_init_42 : decode cX1_init 42 = .ok (.newarray .int, 2) := by decide +kernel
theorem dX1_init_44 : decode cX1_init 44 = .ok (.putfield 20, 3) := by decide +kernel
theorem dX1_init_47 : decode cX1_init 47 = .ok (.aload_n 0, 1) := by decide +kernel
theorem dX1_init_48 : decode cX1_init 48 = .ok (.iconst 0, 1) := by decide +kernel
theorem dX1_init_49 : decode cX1_init 49 = .ok (.putfield 23, 3) := by decide +kernel
theorem dX1_init_52 : decode cX1_init 52 = .ok (.aload_n 0, 1) := by decide +kernel
theorem dX1_init_53 : decode cX1_init 53 = .ok (.iconst 0, 1) := by decide +kernel
theorem dX1_init_54 : decode cX1_init 54 = .ok (.putfield 26, 3) := by decide +kernel
theorem dX1_init_57 : decode cX1_init 57 = .ok (.return_, 1) := by decide +kernel
theorem dX1_secondAt_0 : decode cX1_secondAt 0 = .ok (.iload_n 1, 1) := by decide +kernel
theorem dX1_secondAt_1 : decode cX1_secondAt 1 = .ok (.ifCond .lt 20, 3) := by decide +kernel
theorem dX1_secondAt_4 : decode cX1_secondAt 4 = .ok (.iload_n 1, 1) := by decide +kernel
theorem dX1_secondAt_5 : decode cX1_secondAt 5 = .ok (.aload_n 0, 1) := by decide +kernel
theorem dX1_secondAt_6 : decode cX1_secondAt 6 = .ok (.getfield 7, 3) := by decide +kernel
theorem dX1_secondAt_9 : decode cX1_secondAt 9 = .ok (.if_icmp .ge 12, 3) := by decide +kernel
theorem dX1_secondAt_12 : decode cX1_secondAt 12 = .ok (.aload_n 0, 1) := by decide +kernel
theorem dX1_secondAt_13 : decode cX1_secondAt 13 = .ok (.getfield 20, 3) := by decide +kernel
theorem dX1_secondAt_16 : decode cX1_secondAt 16 = .ok (.iload_n 1, 1) := by decide +kernel
theorem dX1_secondAt_17 : decode cX1_secondAt 17 = .ok (.iaload, 1) := by decide +kernel
theorem dX1_secondAt_18 : decode cX1_secondAt 18 = .ok (.goto 4, 3) := by decide +kernel
theorem dX1_secondAt_21 : decode cX1_secondAt 21 = .ok (.iconst (-1), 1) := by decide +kernel
theorem dX1_secondAt_22 : decode cX1_secondAt 22 = .ok (.ireturn, 1) := by decide +kernel
theorem dX1_setFirst_0 : decode cX1_setFirst 0 = .ok (.iload_n 1, 1) := by decide +kernel
theorem dX1_setFirst_1 : decode cX1_setFirst 1 = .ok (.ifCond .lt 18, 3) := by decide +kernel
theorem dX1_setFirst_4 : decode cX1_setFirst 4 = .ok (.iload_n 1, 1) := by decide +kernel
theorem dX1_setFirst_5 : decode cX1_setFirst 5 = .ok (.aload_n 0, 1) := by decide +kernel
theorem dX1_setFirst_6 : decode cX1_setFirst 6 = .ok (.getfield 7, 3) := by decide +kernel
theorem dX1_setFirst_9 : decode cX1_setFirst 9 = .ok (.if_icmp .ge 10, 3) := by decide +kernel
theorem dX1_setFirst_12 : decode cX1_setFirst 12 = .ok (.aload_n 0, 1) := by decide +kernel
theorem dX1_setFirst_13 : decode cX1_setFirst 13 = .ok (.getfield 17, 3) := by decide +kernel
theorem dX1_setFirst_16 : decode cX1_setFirst 16 = .ok (.iload_n 1, 1) := by decide +kernel
theorem dX1_setFirst_17 : decode cX1_setFirst 17 = .ok (.iload_n 2, 1) := by decide +kernel
theorem dX1_setFirst_18 : decode cX1_setFirst 18 = .ok (.iastore, 1) := by decide +kernel
theorem dX1_setFirst_19 : decode cX1_setFirst 19 = .ok (.return_, 1) := by decide +kernel
theorem dX1_setOp_0 : decode cX1_setOp 0 = .ok (.iload_n 1, 1) := by decide +kernel
theorem dX1_setOp_1 : decode cX1_setOp 1 = .ok (.ifCond .lt 18, 3) := by decide +kernel
theorem dX1_setOp_4 : decode cX1_setOp 4 = .ok (.iload_n 1, 1) := by decide +kernel
theorem dX1_setOp_5 : decode cX1_setOp 5 = .ok (.aload_n 0, 1) := by decide +kernel
theorem dX1_setOp_6 : decode cX1_setOp 6 = .ok (.getfield 7, 3) := by decide +kernel
theorem dX1_setOp_9 : decode cX1_setOp 9 = .ok (.if_icmp .ge 10, 3) := by decide +kernel
theorem dX1_setOp_12 : decode cX1_setOp 12 = .ok (.aload_n 0, 1) := by decide +kernel
theorem dX1_setOp_13 : decode cX1_setOp 13 = .ok (.getfield 13, 3) := by decide +kernel
theorem dX1_setOp_16 : decode cX1_setOp 16 = .ok (.iload_n 1, 1) := by decide +kernel
theorem dX1_setOp_17 : decode cX1_setOp 17 = .ok (.iload_n 2, 1) := by decide +kernel
theorem dX1_setOp_18 : decode cX1_setOp 18 = .ok (.iastore, 1) := by decide +kernel
theorem dX1_setOp_19 : decode cX1_setOp 19 = .ok (.return_, 1) := by decide +kernel
theorem dX1_setSecond_0 : decode cX1_setSecond 0 = .ok (.iload_n 1, 1) := by decide +kernel
theorem dX1_setSecond_1 : decode cX1_setSecond 1 = .ok (.ifCond .lt 18, 3) := by decide +kernel
theorem dX1_setSecond_4 : decode cX1_setSecond 4 = .ok (.iload_n 1, 1) := by decide +kernel
theorem dX1_setSecond_5 : decode cX1_setSecond 5 = .ok (.aload_n 0, 1) := by decide +kernel
theorem dX1_setSecond_6 : decode cX1_setSecond 6 = .ok (.getfield 7, 3) := by decide +kernel
theorem dX1_setSecond_9 : decode cX1_setSecond 9 = .ok (.if_icmp .ge 10, 3) := by decide +kernel
theorem dX1_setSecond_12 : decode cX1_setSecond 12 = .ok (.aload_n 0, 1) := by decide +kernel
theorem dX1_setSecond_13 : decode cX1_setSecond 13 = .ok (.getfield 20, 3) := by decide +kernel
theorem dX1_setSecond_16 : decode cX1_setSecond 16 = .ok (.iload_n 1, 1) := by decide +kernel
theorem dX1_setSecond_17 : decode cX1_setSecond 17 = .ok (.iload_n 2, 1) := by decide +kernel
theorem dX1_setSecond_18 : decode cX1_setSecond 18 = .ok (.iastore, 1) := by decide +kernel
theorem dX1_setSecond_19 : decode cX1_setSecond 19 = .ok (.return_, 1) := by decide +kernel
