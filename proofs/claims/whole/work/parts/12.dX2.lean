theorem dX2_howManyAre_0 : decode cX2_howManyAre 0 = .ok (.iconst 0, 1) := by decide +kernel
theorem dX2_howManyAre_1 : decode cX2_howManyAre 1 = .ok (.istore_n 2, 1) := by decide +kernel
theorem dX2_howManyAre_2 : decode cX2_howManyAre 2 = .ok (.iconst 0, 1) := by decide +kernel
theorem dX2_howManyAre_3 : decode cX2_howManyAre 3 = .ok (.istore_n 3, 1) := by decide +kernel
theorem dX2_howManyAre_4 : decode cX2_howManyAre 4 = .ok (.iload_n 3, 1) := by decide +kernel
theorem dX2_howManyAre_5 : decode cX2_howManyAre 5 = .ok (.bipush 6, 2) := by decide +kernel
theorem dX2_howManyAre_7 : decode cX2_howManyAre 7 = .ok (.if_icmp .ge 25, 3) := by decide +kernel
theorem dX2_howManyAre_10 : decode cX2_howManyAre 10 = .ok (.aload_n 0, 1) := by decide +kernel
theorem dX2_howManyAre_11 : decode cX2_howManyAre 11 = .ok (.getfield 34, 3) := by decide +kernel
theorem dX2_howManyAre_14 : decode cX2_howManyAre 14 = .ok (.iload_n 3, 1) := by decide +kernel
theorem dX2_howManyAre_15 : decode cX2_howManyAre 15 = .ok (.aaload, 1) := by decide +kernel
theorem dX2_howManyAre_16 : decode cX2_howManyAre 16 = .ok (.getfield 55, 3) := by decide +kernel
theorem dX2_howManyAre_19 : decode cX2_howManyAre 19 = .ok (.iload_n 1, 1) := by decide +kernel
theorem dX2_howManyAre_20 : decode cX2_howManyAre 20 = .ok (.if_icmp .ne 6, 3) := by decide +kernel
theorem dX2_howManyAre_23 : decode cX2_howManyAre 23 = .ok (.iinc 2 1, 3) := by decide +kernel
theorem dX2_howManyAre_26 : decode cX2_howManyAre 26 = .ok (.iinc 3 1, 3) := by decide +kernel
theorem dX2_howManyAre_29 : decode cX2_howManyAre 29 = .ok (.goto (-25), 3) := by decide +kernel
theorem dX2_howManyAre_32 : decode cX2_howManyAre 32 = .ok (.iload_n 2, 1) := by decide +kernel
theorem dX2_howManyAre_33 : decode cX2_howManyAre 33 = .ok (.ireturn, 1) := by decide +kernel
theorem dX2_compute_0 : decode cX2_compute 0 = .ok (.iload_n 0, 1) := by decide +kernel
theorem dX2_compute_1 : decode cX2_compute 1 = .ok (.tableswitch 54 4 7 #[31, 35, 39, 43], 31) := by decide +kernel
theorem dX2_compute_32 : decode cX2_compute 32 = .ok (.iload_n 1, 1) := by decide +kernel
theorem dX2_compute_33 : decode cX2_compute 33 = .ok (.iload_n 2, 1) := by decide +kernel
theorem dX2_compute_34 : decode cX2_compute 34 = .ok (.iadd, 1) := by decide +kernel
theorem dX2_compute_35 : decode cX2_compute 35 = .ok (.ireturn, 1) := by decide +kernel
theorem dX2_compute_36 : decode cX2_compute 36 = .ok (.iload_n 1, 1) := by decide +kernel
theorem dX2_compute_37 : decode cX2_compute 37 = .ok (.iload_n 2, 1) := by decide +kernel
theorem dX2_compute_38 : decode cX2_compute 38 = .ok (.isub, 1) := by decide +kernel
theorem dX2_compute_39 : decode cX2_compute 39 = .ok (.ireturn, 1) := by decide +kernel
theorem dX2_compute_40 : decode cX2_compute 40 = .ok (.iload_n 1, 1) := by decide +kernel
theorem dX2_compute_41 : decode cX2_compute 41 = .ok (.iload_n 2, 1) := by decide +kernel
theorem dX2_compute_42 : decode cX2_compute 42 = .ok (.imul, 1) := by decide +kernel
theorem dX2_compute_43 : decode cX2_compute 43 = .ok (.ireturn, 1) := by decide +kernel
theorem dX2_compute_44 : decode cX2_compute 44 = .ok (.iload_n 1, 1) := by decide +kernel
theorem dX2_compute_45 : decode cX2_compute 45 = .ok (.iload_n 2, 1) := by decide +kernel
theorem dX2_compute_46 : decode cX2_compute 46 = .ok (.if_icmp .ne 7, 3) := by decide +kernel
theorem dX2_compute_49 : decode cX2_compute 49 = .ok (.iconst 1, 1) := by decide +kernel
theorem dX2_compute_50 : decode cX2_compute 50 = .ok (.goto 4, 3) := by decide +kernel
theorem dX2_compute_53 : decode cX2_compute 53 = .ok (.iconst 0, 1) := by decide +kernel
theorem dX2_compute_54 : decode cX2_compute 54 = .ok (.ireturn, 1) := by decide +kernel
theorem dX2_compute_55 : decode cX2_compute 55 = .ok (.iload_n 1, 1) := by decide +kernel
theorem dX2_compute_56 : decode cX2_compute 56 = .ok (.iload_n 2, 1) := by decide +kernel
theorem dX2_compute_57 : decode cX2_compute 57 = .ok (.if_icmp .ge 7, 3) := by decide +kernel
theorem dX2_compute_60 : decode cX2_compute 60 = .ok (.iconst 1, 1) := by decide +kernel
theorem dX2_compute_61 : decode cX2_compute 61 = .ok (.goto 4, 3) := by decide +kernel
theorem dX2_compute_64 : decode cX2_compute 64 = .ok (.iconst 0, 1) := by decide +kernel
theorem dX2_compute_65 : decode cX2_compute 65 = .ok (.ireturn, 1) := by decide +kernel
theorem dX2_setRegister_0 : decode cX2_setRegister 0 = .ok (.iload_n 1, 1) := by decide +kernel
theorem dX2_setRegister_1 : decode cX2_setRegister 1 = .ok (.ifCond .lt 16, 3) := by decide +kernel
theorem dX2_setRegister_4 : decode cX2_setRegister 4 = .ok (.iload_n 1, 1) := by decide +kernel
theorem dX2_setRegister_5 : decode cX2_setRegister 5 = .ok (.bipush 26, 2) := by decide +kernel
theorem dX2_setRegister_7 : decode cX2_setRegister 7 = .ok (.if_icmp .ge 10, 3) := by decide +kernel
theorem dX2_setRegister_10 : decode cX2_setRegister 10 = .ok (.aload_n 0, 1) := by decide +kernel
theorem dX2_setRegister_11 : decode cX2_setRegister 11 = .ok (.getfield 155, 3) := by decide +kernel
theorem dX2_setRegister_14 : decode cX2_setRegister 14 = .ok (.iload_n 1, 1) := by decide +kernel
theorem dX2_setRegister_15 : decode cX2_setRegister 15 = .ok (.iload_n 2, 1) := by decide +kernel
theorem dX2_setRegister_16 : decode cX2_setRegister 16 = .ok (.iastore, 1) := by decide +kernel
theorem dX2_setRegister_17 : decode cX2_setRegister 17 = .ok (.return_, 1) := by decide +kernel
theorem dX2_writesAtOnce_0 : decode cX2_writesAtOnce 0 = .ok (.aload_n 0, 1) := by decide +kernel
theorem dX2_writesAtOnce_1 : decode cX2_writesAtOnce 1 = .ok (.getfield 41, 3) := by decide +kernel
theorem dX2_writesAtOnce_4 : decode cX2_writesAtOnce 4 = .ok (.iconst 3, 1) := by decide +kernel
theorem dX2_writesAtOnce_5 : decode cX2_writesAtOnce 5 = .ok (.if_icmp .eq 11, 3) := by decide +kernel
theorem dX2_writesAtOnce_8 : decode cX2_writesAtOnce 8 = .ok (.aload_n 0, 1) := by decide +kernel
theorem dX2_writesAtOnce_9 : decode cX2_writesAtOnce 9 = .ok (.getfield 41, 3) := by decide +kernel
theorem dX2_writesAtOnce_12 : decode cX2_writesAtOnce 12 = .ok (.iconst 4, 1) := by decide +kernel
theorem dX2_writesAtOnce_13 : decode cX2_writesAtOnce 13 = .ok (.if_icmp .ne 7, 3) := by decide +kernel
theorem dX2_writesAtOnce_16 : decode cX2_writesAtOnce 16 = .ok (.iconst 1, 1) := by decide +kernel
theorem dX2_writesAtOnce_17 : decode cX2_writesAtOnce 17 = .ok (.goto 4, 3) := by decide +kernel
theorem dX2_writesAtOnce_20 : decode cX2_writesAtOnce 20 = .ok (.iconst 0, 1) := by decide +kernel
theorem dX2_writesAtOnce_21 : decode cX2_writesAtOnce 21 = .ok (.ireturn, 1) := by decide +kernel
theorem dX2_giveBack_0 : decode cX2_giveBack 0 = .ok (.iconst 0, 1) := by decide +kernel
theorem dX2_giveBack_1 : decode cX2_giveBack 1 = .ok (.istore_n 2, 1) := by decide +kernel
theorem dX2_giveBack_2 : decode cX2_giveBack 2 = .ok (.iload_n 2, 1) := by decide +kernel
theorem dX2_giveBack_3 : decode cX2_giveBack 3 = .ok (.bipush 26, 2) := by decide +kernel
theorem dX2_giveBack_5 : decode cX2_giveBack 5 = .ok (.if_icmp .ge 35, 3) := by decide +kernel
theorem dX2_giveBack_8 : decode cX2_giveBack 8 = .ok (.aload_n 1, 1) := by decide +kernel
theorem dX2_giveBack_9 : decode cX2_giveBack 9 = .ok (.getfield 304, 3) := by decide +kernel
theorem dX2_giveBack_12 : decode cX2_giveBack 12 = .ok (.iload_n 2, 1) := by decide +kernel
theorem dX2_giveBack_13 : decode cX2_giveBack 13 = .ok (.ishr, 1) := by decide +kernel
theorem dX2_giveBack_14 : decode cX2_giveBack 14 = .ok (.iconst 1, 1) := by decide +kernel
theorem dX2_giveBack_15 : decode cX2_giveBack 15 = .ok (.iand, 1) := by decide +kernel
theorem dX2_giveBack_16 : decode cX2_giveBack 16 = .ok (.ifCond .eq 18, 3) := by decide +kernel
theorem dX2_giveBack_19 : decode cX2_giveBack 19 = .ok (.aload_n 0, 1) := by decide +kernel
theorem dX2_giveBack_20 : decode cX2_giveBack 20 = .ok (.getfield 12, 3) := by decide +kernel
theorem dX2_giveBack_23 : decode cX2_giveBack 23 = .ok (.getfield 188, 3) := by decide +kernel
theorem dX2_giveBack_26 : decode cX2_giveBack 26 = .ok (.iload_n 2, 1) := by decide +kernel
theorem dX2_giveBack_27 : decode cX2_giveBack 27 = .ok (.aload_n 1, 1) := by decide +kernel
theorem dX2_giveBack_28 : decode cX2_giveBack 28 = .ok (.getfield 221, 3) := by decide +kernel
theorem dX2_giveBack_31 : decode cX2_giveBack 31 = .ok (.iload_n 2, 1) := by decide +kernel
theorem dX2_giveBack_32 : decode cX2_giveBack 32 = .ok (.iaload, 1) := by decide +kernel
theorem dX2_giveBack_33 : decode cX2_giveBack 33 = .ok (.iastore, 1) := by decide +kernel
theorem dX2_giveBack_34 : decode cX2_giveBack 34 = .ok (.iinc 2 1, 3) := by decide +kernel
theorem dX2_giveBack_37 : decode cX2_giveBack 37 = .ok (.goto (-35), 3) := by decide +kernel
theorem dX2_giveBack_40 : decode cX2_giveBack 40 = .ok (.return_, 1) := by decide +kernel
theorem dX2_isBusy_0 : decode cX2_isBusy 0 = .ok (.aload_n 0, 1) := by decide +kernel
theorem dX2_isBusy_1 : decode cX2_isBusy 1 = .ok (.getfield 41, 3) := by decide +kernel
theorem dX2_isBusy_4 : decode cX2_isBusy 4 = .ok (.iconst 4, 1) := by decide +kernel
theorem dX2_isBusy_5 : decode cX2_isBusy 5 = .ok (.if_icmp .ne 28, 3) := by decide +kernel
theorem dX2_isBusy_8 : decode cX2_isBusy 8 = .ok (.aload_n 0, 1) := by decide +kernel
theorem dX2_isBusy_9 : decode cX2_isBusy 9 = .ok (.iconst 2, 1) := by decide +kernel
theorem dX2_isBusy_10 : decode cX2_isBusy 10 = .ok (.invokevirtual 65, 3) := by decide +kernel
theorem dX2_isBusy_13 : decode cX2_isBusy 13 = .ok (.aload_n 1, 1) := by decide +kernel
theorem dX2_isBusy_14 : decode cX2_isBusy 14 = .ok (.getfield 55, 3) := by decide +kernel
theorem dX2_isBusy_17 : decode cX2_isBusy 17 = .ok (.iconst 2, 1) := by decide +kernel
theorem dX2_isBusy_18 : decode cX2_isBusy 18 = .ok (.if_icmp .ne 7, 3) := by decide +kernel
theorem dX2_isBusy_21 : decode cX2_isBusy 21 = .ok (.iconst 1, 1) := by decide +kernel
theorem dX2_isBusy_22 : decode cX2_isBusy 22 = .ok (.goto 4, 3) := by decide +kernel
theorem dX2_isBusy_25 : decode cX2_isBusy 25 = .ok (.iconst 0, 1) := by decide +kernel
theorem dX2_isBusy_26 : decode cX2_isBusy 26 = .ok (.if_icmp .le 7, 3) := by decide +kernel
theorem dX2_isBusy_29 : decode cX2_isBusy 29 = .ok (.iconst 1, 1) := by decide +kernel
theorem dX2_isBusy_30 : decode cX2_isBusy 30 = .ok (.goto 4, 3) := by decide +kernel
theorem dX2_isBusy_33 : decode cX2_isBusy 33 = .ok (.iconst 0, 1) := by decide +kernel
theorem dX2_isBusy_34 : decode cX2_isBusy 34 = .ok (.ireturn, 1) := by decide +kernel
theorem dX2_tellOf_0 : decode cX2_tellOf 0 = .ok (.iload_n 1, 1) := by decide +kernel
theorem dX2_tellOf_1 : decode cX2_tellOf 1 = .ok (.tableswitch 89 1 7 #[43, 48, 56, 61, 69, 77, 83], 43) := by decide +kernel
theorem dX2_tellOf_44 : decode cX2_tellOf 44 = .ok (.aload_n 0, 1) := by decide +kernel
theorem dX2_tellOf_45 : decode cX2_tellOf 45 = .ok (.getfield 41, 3) := by decide +kernel
theorem dX2_tellOf_48 : decode cX2_tellOf 48 = .ok (.ireturn, 1) := by decide +kernel
theorem dX2_tellOf_49 : decode cX2_tellOf 49 = .ok (.aload_n 0, 1) := by decide +kernel
theorem dX2_tellOf_50 : decode cX2_tellOf 50 = .ok (.getfield 12, 3) := by decide +kernel
theorem dX2_tellOf_53 : decode cX2_tellOf 53 = .ok (.getfield 61, 3) := by decide +kernel
theorem dX2_tellOf_56 : decode cX2_tellOf 56 = .ok (.ireturn, 1) := by decide +kernel
theorem dX2_tellOf_57 : decode cX2_tellOf 57 = .ok (.aload_n 0, 1) := by decide +kernel
theorem dX2_tellOf_58 : decode cX2_tellOf 58 = .ok (.getfield 45, 3) := by decide +kernel
theorem dX2_tellOf_61 : decode cX2_tellOf 61 = .ok (.ireturn, 1) := by decide +kernel
theorem dX2_tellOf_62 : decode cX2_tellOf 62 = .ok (.aload_n 0, 1) := by decide +kernel
theorem dX2_tellOf_63 : decode cX2_tellOf 63 = .ok (.getfield 21, 3) := by decide +kernel
theorem dX2_tellOf_66 : decode cX2_tellOf 66 = .ok (.getfield 51, 3) := by decide +kernel
theorem dX2_tellOf_69 : decode cX2_tellOf 69 = .ok (.ireturn, 1) := by decide +kernel
theorem dX2_tellOf_70 : decode cX2_tellOf 70 = .ok (.aload_n 0, 1) := by decide +kernel
theorem dX2_tellOf_71 : decode cX2_tellOf 71 = .ok (.getfield 28, 3) := by decide +kernel
theorem dX2_tellOf_74 : decode cX2_tellOf 74 = .ok (.getfield 64, 3) := by decide +kernel
theorem dX2_tellOf_77 : decode cX2_tellOf 77 = .ok (.ireturn, 1) := by decide +kernel
theorem dX2_tellOf_78 : decode cX2_tellOf 78 = .ok (.aload_n 0, 1) := by decide +kernel
theorem dX2_tellOf_79 : decode cX2_tellOf 79 = .ok (.iconst 2, 1) := by decide +kernel
theorem dX2_tellOf_80 : decode cX2_tellOf 80 = .ok (.invokevirtual 65, 3) := by decide +kernel
theorem dX2_tellOf_83 : decode cX2_tellOf 83 = .ok (.ireturn, 1) := by decide +kernel
theorem dX2_tellOf_84 : decode cX2_tellOf 84 = .ok (.aload_n 0, 1) := by decide +kernel
theorem dX2_tellOf_85 : decode cX2_tellOf 85 = .ok (.iconst 3, 1) := by decide +kernel
theorem dX2_tellOf_86 : decode cX2_tellOf 86 = .ok (.invokevirtual 65, 3) := by decide +kernel
theorem dX2_tellOf_89 : decode cX2_tellOf 89 = .ok (.ireturn, 1) := by decide +kernel
theorem dX2_tellOf_90 : decode cX2_tellOf 90 = .ok (.aload_n 0, 1) := by decide +kernel
theorem dX2_tellOf_91 : decode cX2_tellOf 91 = .ok (.getfield 12, 3) := by decide +kernel
theorem dX2_tellOf_94 : decode cX2_tellOf 94 = .ok (.invokevirtual 69, 3) := by decide +kernel
theorem dX2_tellOf_97 : decode cX2_tellOf 97 = .ok (.ireturn, 1) := by decide +kernel
theorem dX2_howManyAreLeft_0 : decode cX2_howManyAreLeft 0 = .ok (.iconst 0, 1) := by decide +kernel
theorem dX2_howManyAreLeft_1 : decode cX2_howManyAreLeft 1 = .ok (.istore_n 1, 1) := by decide +kernel
theorem dX2_howManyAreLeft_2 : decode cX2_howManyAreLeft 2 = .ok (.iconst 0, 1) := by decide +kernel
theorem dX2_howManyAreLeft_3 : decode cX2_howManyAreLeft 3 = .ok (.istore_n 2, 1) := by decide +kernel
theorem dX2_howManyAreLeft_4 : decode cX2_howManyAreLeft 4 = .ok (.iload_n 2, 1) := by decide +kernel
theorem dX2_howManyAreLeft_5 : decode cX2_howManyAreLeft 5 = .ok (.bipush 6, 2) := by decide +kernel
theorem dX2_howManyAreLeft_7 : decode cX2_howManyAreLeft 7 = .ok (.if_icmp .ge 24, 3) := by decide +kernel
theorem dX2_howManyAreLeft_10 : decode cX2_howManyAreLeft 10 = .ok (.aload_n 0, 1) := by decide +kernel
theorem dX2_howManyAreLeft_11 : decode cX2_howManyAreLeft 11 = .ok (.getfield 34, 3) := by decide +kernel
theorem dX2_howManyAreLeft_14 : decode cX2_howManyAreLeft 14 = .ok (.iload_n 2, 1) := by decide +kernel
theorem dX2_howManyAreLeft_15 : decode cX2_howManyAreLeft 15 = .ok (.aaload, 1) := by decide +kernel
theorem dX2_howManyAreLeft_16 : decode cX2_howManyAreLeft 16 = .ok (.invokevirtual 73, 3) := by decide +kernel
theorem dX2_howManyAreLeft_19 : decode cX2_howManyAreLeft 19 = .ok (.ifCond .eq 6, 3) := by decide +kernel
theorem dX2_howManyAreLeft_22 : decode cX2_howManyAreLeft 22 = .ok (.iinc 1 1, 3) := by decide +kernel
theorem dX2_howManyAreLeft_25 : decode cX2_howManyAreLeft 25 = .ok (.iinc 2 1, 3) := by decide +kernel
theorem dX2_howManyAreLeft_28 : decode cX2_howManyAreLeft 28 = .ok (.goto (-24), 3) := by decide +kernel
theorem dX2_howManyAreLeft_31 : decode cX2_howManyAreLeft 31 = .ok (.iload_n 1, 1) := by decide +kernel
theorem dX2_howManyAreLeft_32 : decode cX2_howManyAreLeft 32 = .ok (.ireturn, 1) := by decide +kernel
theorem dX2_onTheWay_0 : decode cX2_onTheWay 0 = .ok (.iload_n 1, 1) := by decide +kernel
theorem dX2_onTheWay_1 : decode cX2_onTheWay 1 = .ok (.tableswitch 156 0 13 #[153, 71, 79, 156, 156, 156, 156, 156, 156, 118, 106, 156, 130, 138], 71) := by decide +kernel
theorem dX2_onTheWay_72 : decode cX2_onTheWay 72 = .ok (.aload_n 0, 1) := by decide +kernel
theorem dX2_onTheWay_73 : decode cX2_onTheWay 73 = .ok (.iload_n 2, 1) := by decide +kernel
theorem dX2_onTheWay_74 : decode cX2_onTheWay 74 = .ok (.invokevirtual 152, 3) := by decide +kernel
theorem dX2_onTheWay_77 : decode cX2_onTheWay 77 = .ok (.goto 98, 3) := by decide +kernel
theorem dX2_onTheWay_80 : decode cX2_onTheWay 80 = .ok (.aload_n 0, 1) := by decide +kernel
theorem dX2_onTheWay_81 : decode cX2_onTheWay 81 = .ok (.iload_n 2, 1) := by decide +kernel
theorem dX2_onTheWay_82 : decode cX2_onTheWay 82 = .ok (.ifCond .lt 18, 3) := by decide +kernel
theorem dX2_onTheWay_85 : decode cX2_onTheWay 85 = .ok (.iload_n 2, 1) := by decide +kernel
theorem dX2_onTheWay_86 : decode cX2_onTheWay 86 = .ok (.bipush 26, 2) := by decide +kernel
theorem dX2_onTheWay_88 : decode cX2_onTheWay 88 = .ok (.if_icmp .ge 12, 3) := by decide +kernel
theorem dX2_onTheWay_91 : decode cX2_onTheWay 91 = .ok (.aload_n 0, 1) := by decide +kernel
theorem dX2_onTheWay_92 : decode cX2_onTheWay 92 = .ok (.getfield 155, 3) := by decide +kernel
theorem dX2_onTheWay_95 : decode cX2_onTheWay 95 = .ok (.iload_n 2, 1) := by decide +kernel
theorem dX2_onTheWay_96 : decode cX2_onTheWay 96 = .ok (.iaload, 1) := by decide +kernel
theorem dX2_onTheWay_97 : decode cX2_onTheWay 97 = .ok (.goto 4, 3) := by decide +kernel
theorem dX2_onTheWay_100 : decode cX2_onTheWay 100 = .ok (.iconst 0, 1) := by decide +kernel
theorem dX2_onTheWay_101 : decode cX2_onTheWay 101 = .ok (.invokevirtual 152, 3) := by decide +kernel
theorem dX2_onTheWay_104 : decode cX2_onTheWay 104 = .ok (.goto 71, 3) := by decide +kernel
theorem dX2_onTheWay_107 : decode cX2_onTheWay 107 = .ok (.aload_n 0, 1) := by decide +kernel
theorem dX2_onTheWay_108 : decode cX2_onTheWay 108 = .ok (.iload_n 2, 1) := by decide +kernel
theorem dX2_onTheWay_109 : decode cX2_onTheWay 109 = .ok (.aload_n 0, 1) := by decide +kernel
theorem dX2_onTheWay_110 : decode cX2_onTheWay 110 = .ok (.invokevirtual 114, 3) := by decide +kernel
theorem dX2_onTheWay_113 : decode cX2_onTheWay 113 = .ok (.invokestatic 158, 3) := by decide +kernel
theorem dX2_onTheWay_116 : decode cX2_onTheWay 116 = .ok (.goto 59, 3) := by decide +kernel
theorem dX2_onTheWay_119 : decode cX2_onTheWay 119 = .ok (.aload_n 0, 1) := by decide +kernel
theorem dX2_onTheWay_120 : decode cX2_onTheWay 120 = .ok (.aload_n 0, 1) := by decide +kernel
theorem dX2_onTheWay_121 : decode cX2_onTheWay 121 = .ok (.invokevirtual 114, 3) := by decide +kernel
theorem dX2_onTheWay_124 : decode cX2_onTheWay 124 = .ok (.ineg, 1) := by decide +kernel
theorem dX2_onTheWay_125 : decode cX2_onTheWay 125 = .ok (.invokevirtual 152, 3) := by decide +kernel
theorem dX2_onTheWay_128 : decode cX2_onTheWay 128 = .ok (.goto 47, 3) := by decide +kernel
theorem dX2_onTheWay_131 : decode cX2_onTheWay 131 = .ok (.aload_n 0, 1) := by decide +kernel
theorem dX2_onTheWay_132 : decode cX2_onTheWay 132 = .ok (.iload_n 2, 1) := by decide +kernel
theorem dX2_onTheWay_133 : decode cX2_onTheWay 133 = .ok (.putfield 92, 3) := by decide +kernel
theorem dX2_onTheWay_136 : decode cX2_onTheWay 136 = .ok (.goto 39, 3) := by decide +kernel
theorem dX2_onTheWay_139 : decode cX2_onTheWay 139 = .ok (.aload_n 0, 1) := by decide +kernel
theorem dX2_onTheWay_140 : decode cX2_onTheWay 140 = .ok (.invokevirtual 114, 3) := by decide +kernel
theorem dX2_onTheWay_143 : decode cX2_onTheWay 143 = .ok (.ifCond .ne 32, 3) := by decide +kernel
theorem dX2_onTheWay_146 : decode cX2_onTheWay 146 = .ok (.aload_n 0, 1) := by decide +kernel
theorem dX2_onTheWay_147 : decode cX2_onTheWay 147 = .ok (.iload_n 2, 1) := by decide +kernel
theorem dX2_onTheWay_148 : decode cX2_onTheWay 148 = .ok (.putfield 92, 3) := by decide +kernel
theorem dX2_onTheWay_151 : decode cX2_onTheWay 151 = .ok (.goto 24, 3) := by decide +kernel
theorem dX2_onTheWay_154 : decode cX2_onTheWay 154 = .ok (.goto 21, 3) := by decide +kernel
theorem dX2_onTheWay_157 : decode cX2_onTheWay 157 = .ok (.aload_n 0, 1) := by decide +kernel
theorem dX2_onTheWay_158 : decode cX2_onTheWay 158 = .ok (.invokevirtual 114, 3) := by decide +kernel
theorem dX2_onTheWay_161 : decode cX2_onTheWay 161 = .ok (.istore_n 3, 1) := by decide +kernel
theorem dX2_onTheWay_162 : decode cX2_onTheWay 162 = .ok (.aload_n 0, 1) := by decide +kernel
theorem dX2_onTheWay_163 : decode cX2_onTheWay 163 = .ok (.iload_n 1, 1) := by decide +kernel
theorem dX2_onTheWay_164 : decode cX2_onTheWay 164 = .ok (.aload_n 0, 1) := by decide +kernel
theorem dX2_onTheWay_165 : decode cX2_onTheWay 165 = .ok (.invokevirtual 114, 3) := by decide +kernel
theorem dX2_onTheWay_168 : decode cX2_onTheWay 168 = .ok (.iload_n 3, 1) := by decide +kernel
theorem dX2_onTheWay_169 : decode cX2_onTheWay 169 = .ok (.invokestatic 161, 3) := by decide +kernel
theorem dX2_onTheWay_172 : decode cX2_onTheWay 172 = .ok (.invokevirtual 152, 3) := by decide +kernel
theorem dX2_onTheWay_175 : decode cX2_onTheWay 175 = .ok (.return_, 1) := by decide +kernel
theorem dX2_again_0 : decode cX2_again 0 = .ok (.aload_n 0, 1) := by decide +kernel
theorem dX2_again_1 : decode cX2_again 1 = .ok (.invokevirtual 114, 3) := by decide +kernel
theorem dX2_again_4 : decode cX2_again 4 = .ok (.ifCond .eq 5, 3) := by decide +kernel
theorem dX2_again_7 : decode cX2_again 7 = .ok (.iconst 0, 1) := by decide +kernel
theorem dX2_again_8 : decode cX2_again 8 = .ok (.ireturn, 1) := by decide +kernel
theorem dX2_again_9 : decode cX2_again 9 = .ok (.aload_n 0, 1) := by decide +kernel
theorem dX2_again_10 : decode cX2_again 10 = .ok (.iload_n 1, 1) := by decide +kernel
theorem dX2_again_11 : decode cX2_again 11 = .ok (.putfield 92, 3) := by decide +kernel
theorem dX2_again_14 : decode cX2_again 14 = .ok (.iconst (-1), 1) := by decide +kernel
theorem dX2_again_15 : decode cX2_again 15 = .ok (.ireturn, 1) := by decide +kernel
theorem dX2_say_0 : decode cX2_say 0 = .ok (.aload_n 1, 1) := by decide +kernel
theorem dX2_say_1 : decode cX2_say 1 = .ok (.getfield 165, 3) := by decide +kernel
theorem dX2_say_4 : decode cX2_say 4 = .ok (.ifCond .le 11, 3) := by decide +kernel
theorem dX2_say_7 : decode cX2_say 7 = .ok (.aload_n 1, 1) := by decide +kernel
theorem dX2_say_8 : decode cX2_say 8 = .ok (.iload_n 2, 1) := by decide +kernel
theorem dX2_say_9 : decode cX2_say 9 = .ok (.invokevirtual 168, 3) := by decide +kernel
theorem dX2_say_12 : decode cX2_say 12 = .ok (.goto 15, 3) := by decide +kernel
theorem dX2_say_15 : decode cX2_say 15 = .ok (.aload_n 0, 1) := by decide +kernel
theorem dX2_say_16 : decode cX2_say 16 = .ok (.getfield 21, 3) := by decide +kernel
theorem dX2_say_19 : decode cX2_say 19 = .ok (.aload_n 1, 1) := by decide +kernel
theorem dX2_say_20 : decode cX2_say 20 = .ok (.getfield 171, 3) := by decide +kernel
theorem dX2_say_23 : decode cX2_say 23 = .ok (.iload_n 2, 1) := by decide +kernel
theorem dX2_say_24 : decode cX2_say 24 = .ok (.invokevirtual 174, 3) := by decide +kernel
theorem dX2_say_27 : decode cX2_say 27 = .ok (.iconst 0, 1) := by decide +kernel
theorem dX2_say_28 : decode cX2_say 28 = .ok (.ireturn, 1) := by decide +kernel
theorem dX2_loserAbout_0 : decode cX2_loserAbout 0 = .ok (.aload_n 0, 1) := by decide +kernel
theorem dX2_loserAbout_1 : decode cX2_loserAbout 1 = .ok (.getfield 12, 3) := by decide +kernel
theorem dX2_loserAbout_4 : decode cX2_loserAbout 4 = .ok (.iload_n 2, 1) := by decide +kernel
theorem dX2_loserAbout_5 : decode cX2_loserAbout 5 = .ok (.aload_n 1, 1) := by decide +kernel
theorem dX2_loserAbout_6 : decode cX2_loserAbout 6 = .ok (.getfield 171, 3) := by decide +kernel
theorem dX2_loserAbout_9 : decode cX2_loserAbout 9 = .ok (.invokevirtual 251, 3) := by decide +kernel
theorem dX2_loserAbout_12 : decode cX2_loserAbout 12 = .ok (.ifCond .ne 5, 3) := by decide +kernel
theorem dX2_loserAbout_15 : decode cX2_loserAbout 15 = .ok (.iconst (-1), 1) := by decide +kernel
theorem dX2_loserAbout_16 : decode cX2_loserAbout 16 = .ok (.ireturn, 1) := by decide +kernel
theorem dX2_loserAbout_17 : decode cX2_loserAbout 17 = .ok (.aload_n 0, 1) := by decide +kernel
theorem dX2_loserAbout_18 : decode cX2_loserAbout 18 = .ok (.getfield 12, 3) := by decide +kernel
theorem dX2_loserAbout_21 : decode cX2_loserAbout 21 = .ok (.getfield 245, 3) := by decide +kernel
theorem dX2_loserAbout_24 : decode cX2_loserAbout 24 = .ok (.iload_n 2, 1) := by decide +kernel
theorem dX2_loserAbout_25 : decode cX2_loserAbout 25 = .ok (.iaload, 1) := by decide +kernel
theorem dX2_loserAbout_26 : decode cX2_loserAbout 26 = .ok (.istore_n 3, 1) := by decide +kernel
theorem dX2_loserAbout_27 : decode cX2_loserAbout 27 = .ok (.iload_n 3, 1) := by decide +kernel
theorem dX2_loserAbout_28 : decode cX2_loserAbout 28 = .ok (.ifCond .lt 9, 3) := by decide +kernel
theorem dX2_loserAbout_31 : decode cX2_loserAbout 31 = .ok (.iload_n 3, 1) := by decide +kernel
theorem dX2_loserAbout_32 : decode cX2_loserAbout 32 = .ok (.bipush 6, 2) := by decide +kernel
theorem dX2_loserAbout_34 : decode cX2_loserAbout 34 = .ok (.if_icmp .lt 5, 3) := by decide +kernel
theorem dX2_loserAbout_37 : decode cX2_loserAbout 37 = .ok (.iconst (-1), 1) := by decide +kernel
theorem dX2_loserAbout_38 : decode cX2_loserAbout 38 = .ok (.ireturn, 1) := by decide +kernel
theorem dX2_loserAbout_39 : decode cX2_loserAbout 39 = .ok (.aload_n 0, 1) := by decide +kernel
theorem dX2_loserAbout_40 : decode cX2_loserAbout 40 = .ok (.getfield 34, 3) := by decide +kernel
theorem dX2_loserAbout_43 : decode cX2_loserAbout 43 = .ok (.iload_n 3, 1) := by decide +kernel
theorem dX2_loserAbout_44 : decode cX2_loserAbout 44 = .ok (.aaload, 1) := by decide +kernel
theorem dX2_loserAbout_45 : decode cX2_loserAbout 45 = .ok (.getfield 254, 3) := by decide +kernel
theorem dX2_loserAbout_48 : decode cX2_loserAbout 48 = .ok (.aload_n 1, 1) := by decide +kernel
theorem dX2_loserAbout_49 : decode cX2_loserAbout 49 = .ok (.getfield 254, 3) := by decide +kernel
theorem dX2_loserAbout_52 : decode cX2_loserAbout 52 = .ok (.if_icmp .le 7, 3) := by decide +kernel
theorem dX2_loserAbout_55 : decode cX2_loserAbout 55 = .ok (.iload_n 3, 1) := by decide +kernel
theorem dX2_loserAbout_56 : decode cX2_loserAbout 56 = .ok (.goto 7, 3) := by decide +kernel
theorem dX2_loserAbout_59 : decode cX2_loserAbout 59 = .ok (.aload_n 1, 1) := by decide +kernel
theorem dX2_loserAbout_60 : decode cX2_loserAbout 60 = .ok (.getfield 171, 3) := by decide +kernel
theorem dX2_loserAbout_63 : decode cX2_loserAbout 63 = .ok (.ireturn, 1) := by decide +kernel
theorem dX2_isWrong_0 : decode cX2_isWrong 0 = .ok (.iload_n 3, 1) := by decide +kernel
theorem dX2_isWrong_1 : decode cX2_isWrong 1 = .ok (.ifCond .lt 9, 3) := by decide +kernel
theorem dX2_isWrong_4 : decode cX2_isWrong 4 = .ok (.iload_n 3, 1) := by decide +kernel
theorem dX2_isWrong_5 : decode cX2_isWrong 5 = .ok (.bipush 26, 2) := by decide +kernel
theorem dX2_isWrong_7 : decode cX2_isWrong 7 = .ok (.if_icmp .lt 5, 3) := by decide +kernel
theorem dX2_isWrong_10 : decode cX2_isWrong 10 = .ok (.iconst 0, 1) := by decide +kernel
theorem dX2_isWrong_11 : decode cX2_isWrong 11 = .ok (.ireturn, 1) := by decide +kernel
theorem dX2_isWrong_12 : decode cX2_isWrong 12 = .ok (.aload_n 2, 1) := by decide +kernel
theorem dX2_isWrong_13 : decode cX2_isWrong 13 = .ok (.getfield 264, 3) := by decide +kernel
theorem dX2_isWrong_16 : decode cX2_isWrong 16 = .ok (.iload_n 3, 1) := by decide +kernel
theorem dX2_isWrong_17 : decode cX2_isWrong 17 = .ok (.iaload, 1) := by decide +kernel
theorem dX2_isWrong_18 : decode cX2_isWrong 18 = .ok (.istore 4, 2) := by decide +kernel
theorem dX2_isWrong_20 : decode cX2_isWrong 20 = .ok (.iload 4, 2) := by decide +kernel
theorem dX2_isWrong_22 : decode cX2_isWrong 22 = .ok (.ifCond .lt 10, 3) := by decide +kernel
theorem dX2_isWrong_25 : decode cX2_isWrong 25 = .ok (.iload 4, 2) := by decide +kernel
theorem dX2_isWrong_27 : decode cX2_isWrong 27 = .ok (.bipush 26, 2) := by decide +kernel
theorem dX2_isWrong_29 : decode cX2_isWrong 29 = .ok (.if_icmp .lt 5, 3) := by decide +kernel
theorem dX2_isWrong_32 : decode cX2_isWrong 32 = .ok (.iconst 0, 1) := by decide +kernel
theorem dX2_isWrong_33 : decode cX2_isWrong 33 = .ok (.ireturn, 1) := by decide +kernel
theorem dX2_isWrong_34 : decode cX2_isWrong 34 = .ok (.aload_n 0, 1) := by decide +kernel
theorem dX2_isWrong_35 : decode cX2_isWrong 35 = .ok (.getfield 41, 3) := by decide +kernel
theorem dX2_isWrong_38 : decode cX2_isWrong 38 = .ok (.tableswitch 119 0 3 #[30, 53, 30, 78], 30) := by decide +kernel
theorem dX2_isWrong_68 : decode cX2_isWrong 68 = .ok (.aload_n 0, 1) := by decide +kernel
theorem dX2_isWrong_69 : decode cX2_isWrong 69 = .ok (.getfield 12, 3) := by decide +kernel
theorem dX2_isWrong_72 : decode cX2_isWrong 72 = .ok (.getfield 206, 3) := by decide +kernel
theorem dX2_isWrong_75 : decode cX2_isWrong 75 = .ok (.iload 4, 2) := by decide +kernel
theorem dX2_isWrong_77 : decode cX2_isWrong 77 = .ok (.iaload, 1) := by decide +kernel
theorem dX2_isWrong_78 : decode cX2_isWrong 78 = .ok (.aload_n 1, 1) := by decide +kernel
theorem dX2_isWrong_79 : decode cX2_isWrong 79 = .ok (.getfield 224, 3) := by decide +kernel
theorem dX2_isWrong_82 : decode cX2_isWrong 82 = .ok (.if_icmp .le 7, 3) := by decide +kernel
theorem dX2_isWrong_85 : decode cX2_isWrong 85 = .ok (.iconst 1, 1) := by decide +kernel
theorem dX2_isWrong_86 : decode cX2_isWrong 86 = .ok (.goto 4, 3) := by decide +kernel
theorem dX2_isWrong_89 : decode cX2_isWrong 89 = .ok (.iconst 0, 1) := by decide +kernel
theorem dX2_isWrong_90 : decode cX2_isWrong 90 = .ok (.ireturn, 1) := by decide +kernel
theorem dX2_isWrong_91 : decode cX2_isWrong 91 = .ok (.aload_n 0, 1) := by decide +kernel
theorem dX2_isWrong_92 : decode cX2_isWrong 92 = .ok (.getfield 12, 3) := by decide +kernel
theorem dX2_isWrong_95 : decode cX2_isWrong 95 = .ok (.getfield 188, 3) := by decide +kernel
theorem dX2_isWrong_98 : decode cX2_isWrong 98 = .ok (.iload 4, 2) := by decide +kernel
theorem dX2_isWrong_100 : decode cX2_isWrong 100 = .ok (.iaload, 1) := by decide +kernel
theorem dX2_isWrong_101 : decode cX2_isWrong 101 = .ok (.aload_n 2, 1) := by decide +kernel
theorem dX2_isWrong_102 : decode cX2_isWrong 102 = .ok (.getfield 267, 3) := by decide +kernel
theorem dX2_isWrong_105 : decode cX2_isWrong 105 = .ok (.iload_n 3, 1) := by decide +kernel
theorem dX2_isWrong_106 : decode cX2_isWrong 106 = .ok (.iaload, 1) := by decide +kernel
theorem dX2_isWrong_107 : decode cX2_isWrong 107 = .ok (.if_icmp .eq 7, 3) := by decide +kernel
theorem dX2_isWrong_110 : decode cX2_isWrong 110 = .ok (.iconst 1, 1) := by decide +kernel
theorem dX2_isWrong_111 : decode cX2_isWrong 111 = .ok (.goto 4, 3) := by decide +kernel
theorem dX2_isWrong_114 : decode cX2_isWrong 114 = .ok (.iconst 0, 1) := by decide +kernel
theorem dX2_isWrong_115 : decode cX2_isWrong 115 = .ok (.ireturn, 1) := by decide +kernel
theorem dX2_isWrong_116 : decode cX2_isWrong 116 = .ok (.aload_n 0, 1) := by decide +kernel
theorem dX2_isWrong_117 : decode cX2_isWrong 117 = .ok (.getfield 12, 3) := by decide +kernel
theorem dX2_isWrong_120 : decode cX2_isWrong 120 = .ok (.iload 4, 2) := by decide +kernel
theorem dX2_isWrong_122 : decode cX2_isWrong 122 = .ok (.aload_n 1, 1) := by decide +kernel
theorem dX2_isWrong_123 : decode cX2_isWrong 123 = .ok (.getfield 171, 3) := by decide +kernel
theorem dX2_isWrong_126 : decode cX2_isWrong 126 = .ok (.invokevirtual 251, 3) := by decide +kernel
theorem dX2_isWrong_129 : decode cX2_isWrong 129 = .ok (.ifCond .ne 22, 3) := by decide +kernel
theorem dX2_isWrong_132 : decode cX2_isWrong 132 = .ok (.aload_n 0, 1) := by decide +kernel
theorem dX2_isWrong_133 : decode cX2_isWrong 133 = .ok (.getfield 12, 3) := by decide +kernel
theorem dX2_isWrong_136 : decode cX2_isWrong 136 = .ok (.getfield 206, 3) := by decide +kernel
theorem dX2_isWrong_139 : decode cX2_isWrong 139 = .ok (.iload 4, 2) := by decide +kernel
theorem dX2_isWrong_141 : decode cX2_isWrong 141 = .ok (.iaload, 1) := by decide +kernel
theorem dX2_isWrong_142 : decode cX2_isWrong 142 = .ok (.aload_n 2, 1) := by decide +kernel
theorem dX2_isWrong_143 : decode cX2_isWrong 143 = .ok (.getfield 270, 3) := by decide +kernel
theorem dX2_isWrong_146 : decode cX2_isWrong 146 = .ok (.iload_n 3, 1) := by decide +kernel
theorem dX2_isWrong_147 : decode cX2_isWrong 147 = .ok (.iaload, 1) := by decide +kernel
theorem dX2_isWrong_148 : decode cX2_isWrong 148 = .ok (.if_icmp .eq 7, 3) := by decide +kernel
theorem dX2_isWrong_151 : decode cX2_isWrong 151 = .ok (.iconst 1, 1) := by decide +kernel
theorem dX2_isWrong_152 : decode cX2_isWrong 152 = .ok (.goto 4, 3) := by decide +kernel
theorem dX2_isWrong_155 : decode cX2_isWrong 155 = .ok (.iconst 0, 1) := by decide +kernel
theorem dX2_isWrong_156 : decode cX2_isWrong 156 = .ok (.ireturn, 1) := by decide +kernel
theorem dX2_isWrong_157 : decode cX2_isWrong 157 = .ok (.iconst 0, 1) := by decide +kernel
theorem dX2_isWrong_158 : decode cX2_isWrong 158 = .ok (.ireturn, 1) := by decide +kernel
theorem dX2_foldReads_0 : decode cX2_foldReads 0 = .ok (.aload_n 0, 1) := by decide +kernel
theorem dX2_foldReads_1 : decode cX2_foldReads 1 = .ok (.getfield 165, 3) := by decide +kernel
theorem dX2_foldReads_4 : decode cX2_foldReads 4 = .ok (.iconst 1, 1) := by decide +kernel
theorem dX2_foldReads_5 : decode cX2_foldReads 5 = .ok (.isub, 1) := by decide +kernel
theorem dX2_foldReads_6 : decode cX2_foldReads 6 = .ok (.istore_n 2, 1) := by decide +kernel
theorem dX2_foldReads_7 : decode cX2_foldReads 7 = .ok (.iload_n 2, 1) := by decide +kernel
theorem dX2_foldReads_8 : decode cX2_foldReads 8 = .ok (.iload_n 1, 1) := by decide +kernel
theorem dX2_foldReads_9 : decode cX2_foldReads 9 = .ok (.if_icmp .le 28, 3) := by decide +kernel
theorem dX2_foldReads_12 : decode cX2_foldReads 12 = .ok (.iload_n 2, 1) := by decide +kernel
theorem dX2_foldReads_13 : decode cX2_foldReads 13 = .ok (.ifCond .le 24, 3) := by decide +kernel
theorem dX2_foldReads_16 : decode cX2_foldReads 16 = .ok (.aload_n 0, 1) := by decide +kernel
theorem dX2_foldReads_17 : decode cX2_foldReads 17 = .ok (.iload_n 2, 1) := by decide +kernel
theorem dX2_foldReads_18 : decode cX2_foldReads 18 = .ok (.iconst 1, 1) := by decide +kernel
theorem dX2_foldReads_19 : decode cX2_foldReads 19 = .ok (.isub, 1) := by decide +kernel
theorem dX2_foldReads_20 : decode cX2_foldReads 20 = .ok (.invokevirtual 213, 3) := by decide +kernel
theorem dX2_foldReads_23 : decode cX2_foldReads 23 = .ok (.aload_n 0, 1) := by decide +kernel
theorem dX2_foldReads_24 : decode cX2_foldReads 24 = .ok (.iload_n 2, 1) := by decide +kernel
theorem dX2_foldReads_25 : decode cX2_foldReads 25 = .ok (.invokevirtual 213, 3) := by decide +kernel
theorem dX2_foldReads_28 : decode cX2_foldReads 28 = .ok (.invokevirtual 307, 3) := by decide +kernel
theorem dX2_foldReads_31 : decode cX2_foldReads 31 = .ok (.iinc 2 (-1), 3) := by decide +kernel
theorem dX2_foldReads_34 : decode cX2_foldReads 34 = .ok (.goto (-27), 3) := by decide +kernel
theorem dX2_foldReads_37 : decode cX2_foldReads 37 = .ok (.return_, 1) := by decide +kernel
theorem dX2_joinAround_0 : decode cX2_joinAround 0 = .ok (.aload_n 1, 1) := by decide +kernel
theorem dX2_joinAround_1 : decode cX2_joinAround 1 = .ok (.aload_n 1, 1) := by decide +kernel
theorem dX2_joinAround_2 : decode cX2_joinAround 2 = .ok (.getfield 165, 3) := by decide +kernel
theorem dX2_joinAround_5 : decode cX2_joinAround 5 = .ok (.iconst 1, 1) := by decide +kernel
theorem dX2_joinAround_6 : decode cX2_joinAround 6 = .ok (.isub, 1) := by decide +kernel
theorem dX2_joinAround_7 : decode cX2_joinAround 7 = .ok (.invokevirtual 213, 3) := by decide +kernel
theorem dX2_joinAround_10 : decode cX2_joinAround 10 = .ok (.astore_n 2, 1) := by decide +kernel
theorem dX2_joinAround_11 : decode cX2_joinAround 11 = .ok (.aload_n 1, 1) := by decide +kernel
theorem dX2_joinAround_12 : decode cX2_joinAround 12 = .ok (.aload_n 1, 1) := by decide +kernel
theorem dX2_joinAround_13 : decode cX2_joinAround 13 = .ok (.getfield 165, 3) := by decide +kernel
theorem dX2_joinAround_16 : decode cX2_joinAround 16 = .ok (.iconst 2, 1) := by decide +kernel
theorem dX2_joinAround_17 : decode cX2_joinAround 17 = .ok (.isub, 1) := by decide +kernel
theorem dX2_joinAround_18 : decode cX2_joinAround 18 = .ok (.invokevirtual 213, 3) := by decide +kernel
theorem dX2_joinAround_21 : decode cX2_joinAround 21 = .ok (.astore_n 3, 1) := by decide +kernel
theorem dX2_joinAround_22 : decode cX2_joinAround 22 = .ok (.aload_n 3, 1) := by decide +kernel
theorem dX2_joinAround_23 : decode cX2_joinAround 23 = .ok (.aload_n 2, 1) := by decide +kernel
theorem dX2_joinAround_24 : decode cX2_joinAround 24 = .ok (.invokevirtual 307, 3) := by decide +kernel
theorem dX2_joinAround_27 : decode cX2_joinAround 27 = .ok (.iconst 0, 1) := by decide +kernel
theorem dX2_joinAround_28 : decode cX2_joinAround 28 = .ok (.istore 4, 2) := by decide +kernel
theorem dX2_joinAround_30 : decode cX2_joinAround 30 = .ok (.iload 4, 2) := by decide +kernel
theorem dX2_joinAround_32 : decode cX2_joinAround 32 = .ok (.bipush 26, 2) := by decide +kernel
theorem dX2_joinAround_34 : decode cX2_joinAround 34 = .ok (.if_icmp .ge 47, 3) := by decide +kernel
theorem dX2_joinAround_37 : decode cX2_joinAround 37 = .ok (.aload_n 2, 1) := by decide +kernel
theorem dX2_joinAround_38 : decode cX2_joinAround 38 = .ok (.iload 4, 2) := by decide +kernel
theorem dX2_joinAround_40 : decode cX2_joinAround 40 = .ok (.invokevirtual 217, 3) := by decide +kernel
theorem dX2_joinAround_43 : decode cX2_joinAround 43 = .ok (.ifCond .eq 32, 3) := by decide +kernel
theorem dX2_joinAround_46 : decode cX2_joinAround 46 = .ok (.aload_n 0, 1) := by decide +kernel
theorem dX2_joinAround_47 : decode cX2_joinAround 47 = .ok (.invokevirtual 178, 3) := by decide +kernel
theorem dX2_joinAround_50 : decode cX2_joinAround 50 = .ok (.ifCond .eq 12, 3) := by decide +kernel
theorem dX2_joinAround_53 : decode cX2_joinAround 53 = .ok (.aload_n 3, 1) := by decide +kernel
theorem dX2_joinAround_54 : decode cX2_joinAround 54 = .ok (.iload 4, 2) := by decide +kernel
theorem dX2_joinAround_56 : decode cX2_joinAround 56 = .ok (.invokevirtual 217, 3) := by decide +kernel
theorem dX2_joinAround_59 : decode cX2_joinAround 59 = .ok (.ifCond .ne 16, 3) := by decide +kernel
theorem dX2_joinAround_62 : decode cX2_joinAround 62 = .ok (.aload_n 3, 1) := by decide +kernel
theorem dX2_joinAround_63 : decode cX2_joinAround 63 = .ok (.iload 4, 2) := by decide +kernel
theorem dX2_joinAround_65 : decode cX2_joinAround 65 = .ok (.aload_n 2, 1) := by decide +kernel
theorem dX2_joinAround_66 : decode cX2_joinAround 66 = .ok (.getfield 221, 3) := by decide +kernel
theorem dX2_joinAround_69 : decode cX2_joinAround 69 = .ok (.iload 4, 2) := by decide +kernel
theorem dX2_joinAround_71 : decode cX2_joinAround 71 = .ok (.iaload, 1) := by decide +kernel
theorem dX2_joinAround_72 : decode cX2_joinAround 72 = .ok (.invokevirtual 244, 3) := by decide +kernel
theorem dX2_joinAround_75 : decode cX2_joinAround 75 = .ok (.iinc 4 1, 3) := by decide +kernel
theorem dX2_joinAround_78 : decode cX2_joinAround 78 = .ok (.goto (-48), 3) := by decide +kernel
theorem dX2_joinAround_81 : decode cX2_joinAround 81 = .ok (.aload_n 2, 1) := by decide +kernel
theorem dX2_joinAround_82 : decode cX2_joinAround 82 = .ok (.invokevirtual 298, 3) := by decide +kernel
theorem dX2_joinAround_85 : decode cX2_joinAround 85 = .ok (.aload_n 1, 1) := by decide +kernel
theorem dX2_joinAround_86 : decode cX2_joinAround 86 = .ok (.dup, 1) := by decide +kernel
theorem dX2_joinAround_87 : decode cX2_joinAround 87 = .ok (.getfield 165, 3) := by decide +kernel
theorem dX2_joinAround_90 : decode cX2_joinAround 90 = .ok (.iconst 1, 1) := by decide +kernel
theorem dX2_joinAround_91 : decode cX2_joinAround 91 = .ok (.isub, 1) := by decide +kernel
theorem dX2_joinAround_92 : decode cX2_joinAround 92 = .ok (.putfield 165, 3) := by decide +kernel
theorem dX2_joinAround_95 : decode cX2_joinAround 95 = .ok (.return_, 1) := by decide +kernel
theorem dX2_hasNews_0 : decode cX2_hasNews 0 = .ok (.aload_n 1, 1) := by decide +kernel
theorem dX2_hasNews_1 : decode cX2_hasNews 1 = .ok (.iconst 0, 1) := by decide +kernel
theorem dX2_hasNews_2 : decode cX2_hasNews 2 = .ok (.invokevirtual 213, 3) := by decide +kernel
theorem dX2_hasNews_5 : decode cX2_hasNews 5 = .ok (.astore_n 2, 1) := by decide +kernel
theorem dX2_hasNews_6 : decode cX2_hasNews 6 = .ok (.iconst 0, 1) := by decide +kernel
theorem dX2_hasNews_7 : decode cX2_hasNews 7 = .ok (.istore_n 3, 1) := by decide +kernel
theorem dX2_hasNews_8 : decode cX2_hasNews 8 = .ok (.iload_n 3, 1) := by decide +kernel
theorem dX2_hasNews_9 : decode cX2_hasNews 9 = .ok (.aload_n 2, 1) := by decide +kernel
theorem dX2_hasNews_10 : decode cX2_hasNews 10 = .ok (.getfield 257, 3) := by decide +kernel
theorem dX2_hasNews_13 : decode cX2_hasNews 13 = .ok (.if_icmp .ge 72, 3) := by decide +kernel
theorem dX2_hasNews_16 : decode cX2_hasNews 16 = .ok (.iload_n 3, 1) := by decide +kernel
theorem dX2_hasNews_17 : decode cX2_hasNews 17 = .ok (.bipush 26, 2) := by decide +kernel
theorem dX2_hasNews_19 : decode cX2_hasNews 19 = .ok (.if_icmp .ge 66, 3) := by decide +kernel
theorem dX2_hasNews_22 : decode cX2_hasNews 22 = .ok (.aload_n 2, 1) := by decide +kernel
theorem dX2_hasNews_23 : decode cX2_hasNews 23 = .ok (.getfield 264, 3) := by decide +kernel
theorem dX2_hasNews_26 : decode cX2_hasNews 26 = .ok (.iload_n 3, 1) := by decide +kernel
theorem dX2_hasNews_27 : decode cX2_hasNews 27 = .ok (.iaload, 1) := by decide +kernel
theorem dX2_hasNews_28 : decode cX2_hasNews 28 = .ok (.istore 4, 2) := by decide +kernel
theorem dX2_hasNews_30 : decode cX2_hasNews 30 = .ok (.iload 4, 2) := by decide +kernel
theorem dX2_hasNews_32 : decode cX2_hasNews 32 = .ok (.ifCond .lt 47, 3) := by decide +kernel
theorem dX2_hasNews_35 : decode cX2_hasNews 35 = .ok (.iload 4, 2) := by decide +kernel
theorem dX2_hasNews_37 : decode cX2_hasNews 37 = .ok (.bipush 26, 2) := by decide +kernel
theorem dX2_hasNews_39 : decode cX2_hasNews 39 = .ok (.if_icmp .ge 40, 3) := by decide +kernel
theorem dX2_hasNews_42 : decode cX2_hasNews 42 = .ok (.aload_n 0, 1) := by decide +kernel
theorem dX2_hasNews_43 : decode cX2_hasNews 43 = .ok (.getfield 12, 3) := by decide +kernel
theorem dX2_hasNews_46 : decode cX2_hasNews 46 = .ok (.iload 4, 2) := by decide +kernel
theorem dX2_hasNews_48 : decode cX2_hasNews 48 = .ok (.aload_n 1, 1) := by decide +kernel
theorem dX2_hasNews_49 : decode cX2_hasNews 49 = .ok (.getfield 171, 3) := by decide +kernel
theorem dX2_hasNews_52 : decode cX2_hasNews 52 = .ok (.invokevirtual 251, 3) := by decide +kernel
theorem dX2_hasNews_55 : decode cX2_hasNews 55 = .ok (.ifCond .ne 24, 3) := by decide +kernel
theorem dX2_hasNews_58 : decode cX2_hasNews 58 = .ok (.aload_n 0, 1) := by decide +kernel
theorem dX2_hasNews_59 : decode cX2_hasNews 59 = .ok (.getfield 12, 3) := by decide +kernel
theorem dX2_hasNews_62 : decode cX2_hasNews 62 = .ok (.getfield 188, 3) := by decide +kernel
theorem dX2_hasNews_65 : decode cX2_hasNews 65 = .ok (.iload 4, 2) := by decide +kernel
theorem dX2_hasNews_67 : decode cX2_hasNews 67 = .ok (.iaload, 1) := by decide +kernel
theorem dX2_hasNews_68 : decode cX2_hasNews 68 = .ok (.aload_n 2, 1) := by decide +kernel
theorem dX2_hasNews_69 : decode cX2_hasNews 69 = .ok (.getfield 267, 3) := by decide +kernel
theorem dX2_hasNews_72 : decode cX2_hasNews 72 = .ok (.iload_n 3, 1) := by decide +kernel
theorem dX2_hasNews_73 : decode cX2_hasNews 73 = .ok (.iaload, 1) := by decide +kernel
theorem dX2_hasNews_74 : decode cX2_hasNews 74 = .ok (.if_icmp .eq 5, 3) := by decide +kernel
theorem dX2_hasNews_77 : decode cX2_hasNews 77 = .ok (.iconst 1, 1) := by decide +kernel
theorem dX2_hasNews_78 : decode cX2_hasNews 78 = .ok (.ireturn, 1) := by decide +kernel
theorem dX2_hasNews_79 : decode cX2_hasNews 79 = .ok (.iinc 3 1, 3) := by decide +kernel
theorem dX2_hasNews_82 : decode cX2_hasNews 82 = .ok (.goto (-74), 3) := by decide +kernel
theorem dX2_hasNews_85 : decode cX2_hasNews 85 = .ok (.iconst 0, 1) := by decide +kernel
theorem dX2_hasNews_86 : decode cX2_hasNews 86 = .ok (.ireturn, 1) := by decide +kernel
theorem dX2_outermostWrong_0 : decode cX2_outermostWrong 0 = .ok (.aload_n 0, 1) := by decide +kernel
theorem dX2_outermostWrong_1 : decode cX2_outermostWrong 1 = .ok (.getfield 41, 3) := by decide +kernel
theorem dX2_outermostWrong_4 : decode cX2_outermostWrong 4 = .ok (.iconst 1, 1) := by decide +kernel
theorem dX2_outermostWrong_5 : decode cX2_outermostWrong 5 = .ok (.if_icmp .ne 19, 3) := by decide +kernel
theorem dX2_outermostWrong_8 : decode cX2_outermostWrong 8 = .ok (.aload_n 0, 1) := by decide +kernel
theorem dX2_outermostWrong_9 : decode cX2_outermostWrong 9 = .ok (.getfield 12, 3) := by decide +kernel
theorem dX2_outermostWrong_12 : decode cX2_outermostWrong 12 = .ok (.getfield 61, 3) := by decide +kernel
theorem dX2_outermostWrong_15 : decode cX2_outermostWrong 15 = .ok (.aload_n 1, 1) := by decide +kernel
theorem dX2_outermostWrong_16 : decode cX2_outermostWrong 16 = .ok (.getfield 224, 3) := by decide +kernel
theorem dX2_outermostWrong_19 : decode cX2_outermostWrong 19 = .ok (.if_icmp .ne 5, 3) := by decide +kernel
theorem dX2_outermostWrong_22 : decode cX2_outermostWrong 22 = .ok (.iconst (-1), 1) := by decide +kernel
theorem dX2_outermostWrong_23 : decode cX2_outermostWrong 23 = .ok (.ireturn, 1) := by decide +kernel
theorem dX2_outermostWrong_24 : decode cX2_outermostWrong 24 = .ok (.iconst 0, 1) := by decide +kernel
theorem dX2_outermostWrong_25 : decode cX2_outermostWrong 25 = .ok (.istore_n 2, 1) := by decide +kernel
theorem dX2_outermostWrong_26 : decode cX2_outermostWrong 26 = .ok (.iload_n 2, 1) := by decide +kernel
theorem dX2_outermostWrong_27 : decode cX2_outermostWrong 27 = .ok (.aload_n 1, 1) := by decide +kernel
theorem dX2_outermostWrong_28 : decode cX2_outermostWrong 28 = .ok (.getfield 165, 3) := by decide +kernel
theorem dX2_outermostWrong_31 : decode cX2_outermostWrong 31 = .ok (.if_icmp .ge 53, 3) := by decide +kernel
theorem dX2_outermostWrong_34 : decode cX2_outermostWrong 34 = .ok (.aload_n 1, 1) := by decide +kernel
theorem dX2_outermostWrong_35 : decode cX2_outermostWrong 35 = .ok (.iload_n 2, 1) := by decide +kernel
theorem dX2_outermostWrong_36 : decode cX2_outermostWrong 36 = .ok (.invokevirtual 213, 3) := by decide +kernel
theorem dX2_outermostWrong_39 : decode cX2_outermostWrong 39 = .ok (.astore_n 3, 1) := by decide +kernel
theorem dX2_outermostWrong_40 : decode cX2_outermostWrong 40 = .ok (.iconst 0, 1) := by decide +kernel
theorem dX2_outermostWrong_41 : decode cX2_outermostWrong 41 = .ok (.istore 4, 2) := by decide +kernel
theorem dX2_outermostWrong_43 : decode cX2_outermostWrong 43 = .ok (.iload 4, 2) := by decide +kernel
theorem dX2_outermostWrong_45 : decode cX2_outermostWrong 45 = .ok (.aload_n 3, 1) := by decide +kernel
theorem dX2_outermostWrong_46 : decode cX2_outermostWrong 46 = .ok (.getfield 257, 3) := by decide +kernel
theorem dX2_outermostWrong_49 : decode cX2_outermostWrong 49 = .ok (.if_icmp .ge 29, 3) := by decide +kernel
theorem dX2_outermostWrong_52 : decode cX2_outermostWrong 52 = .ok (.iload 4, 2) := by decide +kernel
theorem dX2_outermostWrong_54 : decode cX2_outermostWrong 54 = .ok (.bipush 26, 2) := by decide +kernel
theorem dX2_outermostWrong_56 : decode cX2_outermostWrong 56 = .ok (.if_icmp .ge 22, 3) := by decide +kernel
theorem dX2_outermostWrong_59 : decode cX2_outermostWrong 59 = .ok (.aload_n 0, 1) := by decide +kernel
theorem dX2_outermostWrong_60 : decode cX2_outermostWrong 60 = .ok (.aload_n 1, 1) := by decide +kernel
theorem dX2_outermostWrong_61 : decode cX2_outermostWrong 61 = .ok (.aload_n 3, 1) := by decide +kernel
theorem dX2_outermostWrong_62 : decode cX2_outermostWrong 62 = .ok (.iload 4, 2) := by decide +kernel
theorem dX2_outermostWrong_64 : decode cX2_outermostWrong 64 = .ok (.invokevirtual 260, 3) := by decide +kernel
theorem dX2_outermostWrong_67 : decode cX2_outermostWrong 67 = .ok (.ifCond .eq 5, 3) := by decide +kernel
theorem dX2_outermostWrong_70 : decode cX2_outermostWrong 70 = .ok (.iload_n 2, 1) := by decide +kernel
theorem dX2_outermostWrong_71 : decode cX2_outermostWrong 71 = .ok (.ireturn, 1) := by decide +kernel
theorem dX2_outermostWrong_72 : decode cX2_outermostWrong 72 = .ok (.iinc 4 1, 3) := by decide +kernel
theorem dX2_outermostWrong_75 : decode cX2_outermostWrong 75 = .ok (.goto (-32), 3) := by decide +kernel
theorem dX2_outermostWrong_78 : decode cX2_outermostWrong 78 = .ok (.iinc 2 1, 3) := by decide +kernel
theorem dX2_outermostWrong_81 : decode cX2_outermostWrong 81 = .ok (.goto (-55), 3) := by decide +kernel
theorem dX2_outermostWrong_84 : decode cX2_outermostWrong 84 = .ok (.iconst (-1), 1) := by decide +kernel
theorem dX2_outermostWrong_85 : decode cX2_outermostWrong 85 = .ok (.ireturn, 1) := by decide +kernel
theorem dX2_writeRecord_0 : decode cX2_writeRecord 0 = .ok (.aload_n 0, 1) := by decide +kernel
theorem dX2_writeRecord_1 : decode cX2_writeRecord 1 = .ok (.getfield 28, 3) := by decide +kernel
theorem dX2_writeRecord_4 : decode cX2_writeRecord 4 = .ok (.aload_n 1, 1) := by decide +kernel
theorem dX2_writeRecord_5 : decode cX2_writeRecord 5 = .ok (.getfield 171, 3) := by decide +kernel
theorem dX2_writeRecord_8 : decode cX2_writeRecord 8 = .ok (.aload_n 1, 1) := by decide +kernel
theorem dX2_writeRecord_9 : decode cX2_writeRecord 9 = .ok (.getfield 286, 3) := by decide +kernel
theorem dX2_writeRecord_12 : decode cX2_writeRecord 12 = .ok (.aload_n 0, 1) := by decide +kernel
theorem dX2_writeRecord_13 : decode cX2_writeRecord 13 = .ok (.getfield 77, 3) := by decide +kernel
theorem dX2_writeRecord_16 : decode cX2_writeRecord 16 = .ok (.invokevirtual 184, 3) := by decide +kernel
theorem dX2_writeRecord_19 : decode cX2_writeRecord 19 = .ok (.iconst 0, 1) := by decide +kernel
theorem dX2_writeRecord_20 : decode cX2_writeRecord 20 = .ok (.istore_n 3, 1) := by decide +kernel
theorem dX2_writeRecord_21 : decode cX2_writeRecord 21 = .ok (.iload_n 3, 1) := by decide +kernel
theorem dX2_writeRecord_22 : decode cX2_writeRecord 22 = .ok (.aload_n 2, 1) := by decide +kernel
theorem dX2_writeRecord_23 : decode cX2_writeRecord 23 = .ok (.getfield 257, 3) := by decide +kernel
theorem dX2_writeRecord_26 : decode cX2_writeRecord 26 = .ok (.if_icmp .ge 34, 3) := by decide +kernel
theorem dX2_writeRecord_29 : decode cX2_writeRecord 29 = .ok (.iload_n 3, 1) := by decide +kernel
theorem dX2_writeRecord_30 : decode cX2_writeRecord 30 = .ok (.bipush 26, 2) := by decide +kernel
theorem dX2_writeRecord_32 : decode cX2_writeRecord 32 = .ok (.if_icmp .ge 28, 3) := by decide +kernel
theorem dX2_writeRecord_35 : decode cX2_writeRecord 35 = .ok (.aload_n 0, 1) := by decide +kernel
theorem dX2_writeRecord_36 : decode cX2_writeRecord 36 = .ok (.getfield 28, 3) := by decide +kernel
theorem dX2_writeRecord_39 : decode cX2_writeRecord 39 = .ok (.aload_n 2, 1) := by decide +kernel
theorem dX2_writeRecord_40 : decode cX2_writeRecord 40 = .ok (.getfield 264, 3) := by decide +kernel
theorem dX2_writeRecord_43 : decode cX2_writeRecord 43 = .ok (.iload_n 3, 1) := by decide +kernel
theorem dX2_writeRecord_44 : decode cX2_writeRecord 44 = .ok (.iaload, 1) := by decide +kernel
theorem dX2_writeRecord_45 : decode cX2_writeRecord 45 = .ok (.aload_n 2, 1) := by decide +kernel
theorem dX2_writeRecord_46 : decode cX2_writeRecord 46 = .ok (.getfield 267, 3) := by decide +kernel
theorem dX2_writeRecord_49 : decode cX2_writeRecord 49 = .ok (.iload_n 3, 1) := by decide +kernel
theorem dX2_writeRecord_50 : decode cX2_writeRecord 50 = .ok (.iaload, 1) := by decide +kernel
theorem dX2_writeRecord_51 : decode cX2_writeRecord 51 = .ok (.invokevirtual 191, 3) := by decide +kernel
theorem dX2_writeRecord_54 : decode cX2_writeRecord 54 = .ok (.iinc 3 1, 3) := by decide +kernel
theorem dX2_writeRecord_57 : decode cX2_writeRecord 57 = .ok (.goto (-36), 3) := by decide +kernel
theorem dX2_writeRecord_60 : decode cX2_writeRecord 60 = .ok (.iconst 0, 1) := by decide +kernel
theorem dX2_writeRecord_61 : decode cX2_writeRecord 61 = .ok (.istore_n 3, 1) := by decide +kernel
theorem dX2_writeRecord_62 : decode cX2_writeRecord 62 = .ok (.iload_n 3, 1) := by decide +kernel
theorem dX2_writeRecord_63 : decode cX2_writeRecord 63 = .ok (.bipush 26, 2) := by decide +kernel
theorem dX2_writeRecord_65 : decode cX2_writeRecord 65 = .ok (.if_icmp .ge 34, 3) := by decide +kernel
theorem dX2_writeRecord_68 : decode cX2_writeRecord 68 = .ok (.aload_n 2, 1) := by decide +kernel
theorem dX2_writeRecord_69 : decode cX2_writeRecord 69 = .ok (.iload_n 3, 1) := by decide +kernel
theorem dX2_writeRecord_70 : decode cX2_writeRecord 70 = .ok (.invokevirtual 217, 3) := by decide +kernel
theorem dX2_writeRecord_73 : decode cX2_writeRecord 73 = .ok (.ifCond .eq 20, 3) := by decide +kernel
theorem dX2_writeRecord_76 : decode cX2_writeRecord 76 = .ok (.aload_n 0, 1) := by decide +kernel
theorem dX2_writeRecord_77 : decode cX2_writeRecord 77 = .ok (.getfield 28, 3) := by decide +kernel
theorem dX2_writeRecord_80 : decode cX2_writeRecord 80 = .ok (.iload_n 3, 1) := by decide +kernel
theorem dX2_writeRecord_81 : decode cX2_writeRecord 81 = .ok (.aload_n 0, 1) := by decide +kernel
theorem dX2_writeRecord_82 : decode cX2_writeRecord 82 = .ok (.getfield 12, 3) := by decide +kernel
theorem dX2_writeRecord_85 : decode cX2_writeRecord 85 = .ok (.getfield 188, 3) := by decide +kernel
theorem dX2_writeRecord_88 : decode cX2_writeRecord 88 = .ok (.iload_n 3, 1) := by decide +kernel
theorem dX2_writeRecord_89 : decode cX2_writeRecord 89 = .ok (.iaload, 1) := by decide +kernel
theorem dX2_writeRecord_90 : decode cX2_writeRecord 90 = .ok (.invokevirtual 241, 3) := by decide +kernel
theorem dX2_writeRecord_93 : decode cX2_writeRecord 93 = .ok (.iinc 3 1, 3) := by decide +kernel
theorem dX2_writeRecord_96 : decode cX2_writeRecord 96 = .ok (.goto (-34), 3) := by decide +kernel
theorem dX2_writeRecord_99 : decode cX2_writeRecord 99 = .ok (.return_, 1) := by decide +kernel
