theorem dX0_decide_0 : decode cX0_decide 0 = .ok (.aload_n 0, 1) := by decide +kernel
theorem dX0_decide_1 : decode cX0_decide 1 = .ok (.iconst 0, 1) := by decide +kernel
theorem dX0_decide_2 : decode cX0_decide 2 = .ok (.putfield 23, 3) := by decide +kernel
theorem dX0_decide_5 : decode cX0_decide 5 = .ok (.aload_n 1, 1) := by decide +kernel
theorem dX0_decide_6 : decode cX0_decide 6 = .ok (.getfield 27, 3) := by decide +kernel
theorem dX0_decide_9 : decode cX0_decide 9 = .ok (.istore_n 3, 1) := by decide +kernel
theorem dX0_decide_10 : decode cX0_decide 10 = .ok (.iload_n 3, 1) := by decide +kernel
theorem dX0_decide_11 : decode cX0_decide 11 = .ok (.bipush 14, 2) := by decide +kernel
theorem dX0_decide_13 : decode cX0_decide 13 = .ok (.if_icmp .le 5, 3) := by decide +kernel
theorem dX0_decide_16 : decode cX0_decide 16 = .ok (.iconst (-1), 1) := by decide +kernel
theorem dX0_decide_17 : decode cX0_decide 17 = .ok (.ireturn, 1) := by decide +kernel
theorem dX0_decide_18 : decode cX0_decide 18 = .ok (.iconst 0, 1) := by decide +kernel
theorem dX0_decide_19 : decode cX0_decide 19 = .ok (.istore 4, 2) := by decide +kernel
theorem dX0_decide_21 : decode cX0_decide 21 = .ok (.iload 4, 2) := by decide +kernel
theorem dX0_decide_23 : decode cX0_decide 23 = .ok (.iload_n 3, 1) := by decide +kernel
theorem dX0_decide_24 : decode cX0_decide 24 = .ok (.if_icmp .ge 30, 3) := by decide +kernel
theorem dX0_decide_27 : decode cX0_decide 27 = .ok (.iload 4, 2) := by decide +kernel
theorem dX0_decide_29 : decode cX0_decide 29 = .ok (.bipush 14, 2) := by decide +kernel
theorem dX0_decide_31 : decode cX0_decide 31 = .ok (.if_icmp .ge 23, 3) := by decide +kernel
theorem dX0_decide_34 : decode cX0_decide 34 = .ok (.aload_n 0, 1) := by decide +kernel
theorem dX0_decide_35 : decode cX0_decide 35 = .ok (.getfield 20, 3) := by decide +kernel
theorem dX0_decide_38 : decode cX0_decide 38 = .ok (.iload 4, 2) := by decide +kernel
theorem dX0_decide_40 : decode cX0_decide 40 = .ok (.aload_n 1, 1) := by decide +kernel
theorem dX0_decide_41 : decode cX0_decide 41 = .ok (.iload_n 3, 1) := by decide +kernel
theorem dX0_decide_42 : decode cX0_decide 42 = .ok (.iload 4, 2) := by decide +kernel
theorem dX0_decide_44 : decode cX0_decide 44 = .ok (.invokestatic 32, 3) := by decide +kernel
theorem dX0_decide_47 : decode cX0_decide 47 = .ok (.iastore, 1) := by decide +kernel
theorem dX0_decide_48 : decode cX0_decide 48 = .ok (.iinc 4 1, 3) := by decide +kernel
theorem dX0_decide_51 : decode cX0_decide 51 = .ok (.goto (-30), 3) := by decide +kernel
theorem dX0_decide_54 : decode cX0_decide 54 = .ok (.aload_n 2, 1) := by decide +kernel
theorem dX0_decide_55 : decode cX0_decide 55 = .ok (.getfield 36, 3) := by decide +kernel
theorem dX0_decide_58 : decode cX0_decide 58 = .ok (.iconst 0, 1) := by decide +kernel
theorem dX0_decide_59 : decode cX0_decide 59 = .ok (.aload_n 0, 1) := by decide +kernel
theorem dX0_decide_60 : decode cX0_decide 60 = .ok (.getfield 17, 3) := by decide +kernel
theorem dX0_decide_63 : decode cX0_decide 63 = .ok (.iconst 0, 1) := by decide +kernel
theorem dX0_decide_64 : decode cX0_decide 64 = .ok (.aaload, 1) := by decide +kernel
theorem dX0_decide_65 : decode cX0_decide 65 = .ok (.iconst 0, 1) := by decide +kernel
theorem dX0_decide_66 : decode cX0_decide 66 = .ok (.bipush 26, 2) := by decide +kernel
theorem dX0_decide_68 : decode cX0_decide 68 = .ok (.invokestatic 41, 3) := by decide +kernel
theorem dX0_decide_71 : decode cX0_decide 71 = .ok (.aload_n 0, 1) := by decide +kernel
theorem dX0_decide_72 : decode cX0_decide 72 = .ok (.iconst 0, 1) := by decide +kernel
theorem dX0_decide_73 : decode cX0_decide 73 = .ok (.putfield 47, 3) := by decide +kernel
theorem dX0_decide_76 : decode cX0_decide 76 = .ok (.aload_n 0, 1) := by decide +kernel
theorem dX0_decide_77 : decode cX0_decide 77 = .ok (.aload_n 1, 1) := by decide +kernel
theorem dX0_decide_78 : decode cX0_decide 78 = .ok (.aload_n 2, 1) := by decide +kernel
theorem dX0_decide_79 : decode cX0_decide 79 = .ok (.iconst 0, 1) := by decide +kernel
theorem dX0_decide_80 : decode cX0_decide 80 = .ok (.iconst 0, 1) := by decide +kernel
theorem dX0_decide_81 : decode cX0_decide 81 = .ok (.invokevirtual 50, 3) := by decide +kernel
theorem dX0_decide_84 : decode cX0_decide 84 = .ok (.istore 4, 2) := by decide +kernel
theorem dX0_decide_86 : decode cX0_decide 86 = .ok (.iload 4, 2) := by decide +kernel
theorem dX0_decide_88 : decode cX0_decide 88 = .ok (.iconst 1, 1) := by decide +kernel
theorem dX0_decide_89 : decode cX0_decide 89 = .ok (.if_icmp .ne 8, 3) := by decide +kernel
theorem dX0_decide_92 : decode cX0_decide 92 = .ok (.aload_n 0, 1) := by decide +kernel
theorem dX0_decide_93 : decode cX0_decide 93 = .ok (.iload_n 3, 1) := by decide +kernel
theorem dX0_decide_94 : decode cX0_decide 94 = .ok (.putfield 23, 3) := by decide +kernel
theorem dX0_decide_97 : decode cX0_decide 97 = .ok (.iload 4, 2) := by decide +kernel
theorem dX0_decide_99 : decode cX0_decide 99 = .ok (.ireturn, 1) := by decide +kernel
theorem dX0_forget_0 : decode cX0_forget 0 = .ok (.aload_n 0, 1) := by decide +kernel
theorem dX0_forget_1 : decode cX0_forget 1 = .ok (.iconst 0, 1) := by decide +kernel
theorem dX0_forget_2 : decode cX0_forget 2 = .ok (.putfield 23, 3) := by decide +kernel
theorem dX0_forget_5 : decode cX0_forget 5 = .ok (.return_, 1) := by decide +kernel
theorem dX0_init_0 : decode cX0_init 0 = .ok (.aload_n 0, 1) := by decide +kernel
theorem dX0_init_1 : decode cX0_init 1 = .ok (.invokespecial 3, 3) := by decide +kernel
theorem dX0_init_4 : decode cX0_init 4 = .ok (.aload_n 0, 1) := by decide +kernel
theorem dX0_init_5 : decode cX0_init 5 = .ok (.bipush 14, 2) := by decide +kernel
theorem dX0_init_7 : decode cX0_init 7 = .ok (.newarray .int, 2) := by decide +kernel
theorem dX0_init_9 : decode cX0_init 9 = .ok (.putfield 9, 3) := by decide +kernel
theorem dX0_init_12 : decode cX0_init 12 = .ok (.aload_n 0, 1) := by decide +kernel
theorem dX0_init_13 : decode cX0_init 13 = .ok (.bipush 15, 2) := by decide +kernel
theorem dX0_init_15 : decode cX0_init 15 = .ok (.bipush 26, 2) := by decide +kernel
theorem dX0_init_17 : decode cX0_init 17 = .ok (.multianewarray 15 2, 4) := by decide +kernel
theorem dX0_init_21 : decode cX0_init 21 = .ok (.putfield 17, 3) := by decide +kernel
theorem dX0_init_24 : decode cX0_init 24 = .ok (.aload_n 0, 1) := by decide +kernel
theorem dX0_init_25 : decode cX0_init 25 = .ok (.bipush 14, 2) := by decide +kernel
theorem dX0_init_27 : decode cX0_init 27 = .ok (.newarray .int, 2) := by decide +kernel
theorem dX0_init_29 : decode cX0_init 29 = .ok (.putfield 20, 3) := by decide +kernel
theorem dX0_init_32 : decode cX0_init 32 = .ok (.return_, 1) := by decide +kernel
theorem dX0_isAsItIs_0 : decode cX0_isAsItIs 0 = .ok (.iload_n 2, 1) := by decide +kernel
theorem dX0_isAsItIs_1 : decode cX0_isAsItIs 1 = .ok (.ifCond .lt 9, 3) := by decide +kernel
theorem dX0_isAsItIs_4 : decode cX0_isAsItIs 4 = .ok (.iload_n 2, 1) := by decide +kernel
theorem dX0_isAsItIs_5 : decode cX0_isAsItIs 5 = .ok (.bipush 14, 2) := by decide +kernel
theorem dX0_isAsItIs_7 : decode cX0_isAsItIs 7 = .ok (.if_icmp .le 5, 3) := by decide +kernel
theorem dX0_isAsItIs_10 : decode cX0_isAsItIs 10 = .ok (.iconst 0, 1) := by decide +kernel
theorem dX0_isAsItIs_11 : decode cX0_isAsItIs 11 = .ok (.ireturn, 1) := by decide +kernel
theorem dX0_isAsItIs_12 : decode cX0_isAsItIs 12 = .ok (.iconst 0, 1) := by decide +kernel
theorem dX0_isAsItIs_13 : decode cX0_isAsItIs 13 = .ok (.istore_n 3, 1) := by decide +kernel
theorem dX0_isAsItIs_14 : decode cX0_isAsItIs 14 = .ok (.iload_n 3, 1) := by decide +kernel
theorem dX0_isAsItIs_15 : decode cX0_isAsItIs 15 = .ok (.bipush 26, 2) := by decide +kernel
theorem dX0_isAsItIs_17 : decode cX0_isAsItIs 17 = .ok (.if_icmp .ge 38, 3) := by decide +kernel
theorem dX0_isAsItIs_20 : decode cX0_isAsItIs 20 = .ok (.aload_n 1, 1) := by decide +kernel
theorem dX0_isAsItIs_21 : decode cX0_isAsItIs 21 = .ok (.getfield 70, 3) := by decide +kernel
theorem dX0_isAsItIs_24 : decode cX0_isAsItIs 24 = .ok (.iload_n 3, 1) := by decide +kernel
theorem dX0_isAsItIs_25 : decode cX0_isAsItIs 25 = .ok (.iaload, 1) := by decide +kernel
theorem dX0_isAsItIs_26 : decode cX0_isAsItIs 26 = .ok (.iconst (-1), 1) := by decide +kernel
theorem dX0_isAsItIs_27 : decode cX0_isAsItIs 27 = .ok (.if_icmp .ne 22, 3) := by decide +kernel
theorem dX0_isAsItIs_30 : decode cX0_isAsItIs 30 = .ok (.aload_n 1, 1) := by decide +kernel
theorem dX0_isAsItIs_31 : decode cX0_isAsItIs 31 = .ok (.getfield 73, 3) := by decide +kernel
theorem dX0_isAsItIs_34 : decode cX0_isAsItIs 34 = .ok (.iload_n 3, 1) := by decide +kernel
theorem dX0_isAsItIs_35 : decode cX0_isAsItIs 35 = .ok (.iaload, 1) := by decide +kernel
theorem dX0_isAsItIs_36 : decode cX0_isAsItIs 36 = .ok (.aload_n 0, 1) := by decide +kernel
theorem dX0_isAsItIs_37 : decode cX0_isAsItIs 37 = .ok (.getfield 17, 3) := by decide +kernel
theorem dX0_isAsItIs_40 : decode cX0_isAsItIs 40 = .ok (.iload_n 2, 1) := by decide +kernel
theorem dX0_isAsItIs_41 : decode cX0_isAsItIs 41 = .ok (.aaload, 1) := by decide +kernel
theorem dX0_isAsItIs_42 : decode cX0_isAsItIs 42 = .ok (.iload_n 3, 1) := by decide +kernel
theorem dX0_isAsItIs_43 : decode cX0_isAsItIs 43 = .ok (.iaload, 1) := by decide +kernel
theorem dX0_isAsItIs_44 : decode cX0_isAsItIs 44 = .ok (.if_icmp .eq 5, 3) := by decide +kernel
theorem dX0_isAsItIs_47 : decode cX0_isAsItIs 47 = .ok (.iconst 0, 1) := by decide +kernel
theorem dX0_isAsItIs_48 : decode cX0_isAsItIs 48 = .ok (.ireturn, 1) := by decide +kernel
theorem dX0_isAsItIs_49 : decode cX0_isAsItIs 49 = .ok (.iinc 3 1, 3) := by decide +kernel
theorem dX0_isAsItIs_52 : decode cX0_isAsItIs 52 = .ok (.goto (-38), 3) := by decide +kernel
theorem dX0_isAsItIs_55 : decode cX0_isAsItIs 55 = .ok (.iconst 1, 1) := by decide +kernel
theorem dX0_isAsItIs_56 : decode cX0_isAsItIs 56 = .ok (.ireturn, 1) := by decide +kernel
theorem dX0_maskAhead_0 : decode cX0_maskAhead 0 = .ok (.iconst 0, 1) := by decide +kernel
theorem dX0_maskAhead_1 : decode cX0_maskAhead 1 = .ok (.istore_n 3, 1) := by decide +kernel
theorem dX0_maskAhead_2 : decode cX0_maskAhead 2 = .ok (.iconst 0, 1) := by decide +kernel
theorem dX0_maskAhead_3 : decode cX0_maskAhead 3 = .ok (.istore 4, 2) := by decide +kernel
theorem dX0_maskAhead_5 : decode cX0_maskAhead 5 = .ok (.iload 4, 2) := by decide +kernel
theorem dX0_maskAhead_7 : decode cX0_maskAhead 7 = .ok (.iload_n 1, 1) := by decide +kernel
theorem dX0_maskAhead_8 : decode cX0_maskAhead 8 = .ok (.if_icmp .ge 33, 3) := by decide +kernel
theorem dX0_maskAhead_11 : decode cX0_maskAhead 11 = .ok (.iload 4, 2) := by decide +kernel
theorem dX0_maskAhead_13 : decode cX0_maskAhead 13 = .ok (.bipush 14, 2) := by decide +kernel
theorem dX0_maskAhead_15 : decode cX0_maskAhead 15 = .ok (.if_icmp .ge 26, 3) := by decide +kernel
theorem dX0_maskAhead_18 : decode cX0_maskAhead 18 = .ok (.aload_n 0, 1) := by decide +kernel
theorem dX0_maskAhead_19 : decode cX0_maskAhead 19 = .ok (.iload 4, 2) := by decide +kernel
theorem dX0_maskAhead_21 : decode cX0_maskAhead 21 = .ok (.iload_n 2, 1) := by decide +kernel
theorem dX0_maskAhead_22 : decode cX0_maskAhead 22 = .ok (.invokevirtual 54, 3) := by decide +kernel
theorem dX0_maskAhead_25 : decode cX0_maskAhead 25 = .ok (.ifCond .eq 10, 3) := by decide +kernel
theorem dX0_maskAhead_28 : decode cX0_maskAhead 28 = .ok (.iload_n 3, 1) := by decide +kernel
theorem dX0_maskAhead_29 : decode cX0_maskAhead 29 = .ok (.iconst 1, 1) := by decide +kernel
theorem dX0_maskAhead_30 : decode cX0_maskAhead 30 = .ok (.iload 4, 2) := by decide +kernel
theorem dX0_maskAhead_32 : decode cX0_maskAhead 32 = .ok (.ishl, 1) := by decide +kernel
theorem dX0_maskAhead_33 : decode cX0_maskAhead 33 = .ok (.ior, 1) := by decide +kernel
theorem dX0_maskAhead_34 : decode cX0_maskAhead 34 = .ok (.istore_n 3, 1) := by decide +kernel
theorem dX0_maskAhead_35 : decode cX0_maskAhead 35 = .ok (.iinc 4 1, 3) := by decide +kernel
theorem dX0_maskAhead_38 : decode cX0_maskAhead 38 = .ok (.goto (-33), 3) := by decide +kernel
theorem dX0_maskAhead_41 : decode cX0_maskAhead 41 = .ok (.iload_n 3, 1) := by decide +kernel
theorem dX0_maskAhead_42 : decode cX0_maskAhead 42 = .ok (.ireturn, 1) := by decide +kernel
theorem dX0_tryFrom_0 : decode cX0_tryFrom 0 = .ok (.aload_n 0, 1) := by decide +kernel
theorem dX0_tryFrom_1 : decode cX0_tryFrom 1 = .ok (.getfield 47, 3) := by decide +kernel
theorem dX0_tryFrom_4 : decode cX0_tryFrom 4 = .ok (.sipush 20000, 3) := by decide +kernel
theorem dX0_tryFrom_7 : decode cX0_tryFrom 7 = .ok (.if_icmp .lt 5, 3) := by decide +kernel
theorem dX0_tryFrom_10 : decode cX0_tryFrom 10 = .ok (.iconst (-1), 1) := by decide +kernel
theorem dX0_tryFrom_11 : decode cX0_tryFrom 11 = .ok (.ireturn, 1) := by decide +kernel
theorem dX0_tryFrom_12 : decode cX0_tryFrom 12 = .ok (.aload_n 0, 1) := by decide +kernel
theorem dX0_tryFrom_13 : decode cX0_tryFrom 13 = .ok (.dup, 1) := by decide +kernel
theorem dX0_tryFrom_14 : decode cX0_tryFrom 14 = .ok (.getfield 47, 3) := by decide +kernel
theorem dX0_tryFrom_17 : decode cX0_tryFrom 17 = .ok (.iconst 1, 1) := by decide +kernel
theorem dX0_tryFrom_18 : decode cX0_tryFrom 18 = .ok (.iadd, 1) := by decide +kernel
theorem dX0_tryFrom_19 : decode cX0_tryFrom 19 = .ok (.putfield 47, 3) := by decide +kernel
theorem dX0_tryFrom_22 : decode cX0_tryFrom 22 = .ok (.iload_n 3, 1) := by decide +kernel
theorem dX0_tryFrom_23 : decode cX0_tryFrom 23 = .ok (.ifCond .lt 17, 3) := by decide +kernel
theorem dX0_tryFrom_26 : decode cX0_tryFrom 26 = .ok (.iload_n 3, 1) := by decide +kernel
theorem dX0_tryFrom_27 : decode cX0_tryFrom 27 = .ok (.aload_n 1, 1) := by decide +kernel
theorem dX0_tryFrom_28 : decode cX0_tryFrom 28 = .ok (.getfield 27, 3) := by decide +kernel
theorem dX0_tryFrom_31 : decode cX0_tryFrom 31 = .ok (.if_icmp .ge 9, 3) := by decide +kernel
theorem dX0_tryFrom_34 : decode cX0_tryFrom 34 = .ok (.iload_n 3, 1) := by decide +kernel
theorem dX0_tryFrom_35 : decode cX0_tryFrom 35 = .ok (.bipush 14, 2) := by decide +kernel
theorem dX0_tryFrom_37 : decode cX0_tryFrom 37 = .ok (.if_icmp .lt 18, 3) := by decide +kernel
theorem dX0_tryFrom_40 : decode cX0_tryFrom 40 = .ok (.aload_n 0, 1) := by decide +kernel
theorem dX0_tryFrom_41 : decode cX0_tryFrom 41 = .ok (.aload_n 2, 1) := by decide +kernel
theorem dX0_tryFrom_42 : decode cX0_tryFrom 42 = .ok (.iload_n 3, 1) := by decide +kernel
theorem dX0_tryFrom_43 : decode cX0_tryFrom 43 = .ok (.invokevirtual 58, 3) := by decide +kernel
theorem dX0_tryFrom_46 : decode cX0_tryFrom 46 = .ok (.ifCond .eq 7, 3) := by decide +kernel
theorem dX0_tryFrom_49 : decode cX0_tryFrom 49 = .ok (.iconst 1, 1) := by decide +kernel
theorem dX0_tryFrom_50 : decode cX0_tryFrom 50 = .ok (.goto 4, 3) := by decide +kernel
theorem dX0_tryFrom_53 : decode cX0_tryFrom 53 = .ok (.iconst 0, 1) := by decide +kernel
theorem dX0_tryFrom_54 : decode cX0_tryFrom 54 = .ok (.ireturn, 1) := by decide +kernel
theorem dX0_tryFrom_55 : decode cX0_tryFrom 55 = .ok (.iconst 0, 1) := by decide +kernel
theorem dX0_tryFrom_56 : decode cX0_tryFrom 56 = .ok (.istore 5, 2) := by decide +kernel
theorem dX0_tryFrom_58 : decode cX0_tryFrom 58 = .ok (.iload 5, 2) := by decide +kernel
theorem dX0_tryFrom_60 : decode cX0_tryFrom 60 = .ok (.aload_n 1, 1) := by decide +kernel
theorem dX0_tryFrom_61 : decode cX0_tryFrom 61 = .ok (.getfield 27, 3) := by decide +kernel
theorem dX0_tryFrom_64 : decode cX0_tryFrom 64 = .ok (.if_icmp .ge 137, 3) := by decide +kernel
theorem dX0_tryFrom_67 : decode cX0_tryFrom 67 = .ok (.iload 5, 2) := by decide +kernel
theorem dX0_tryFrom_69 : decode cX0_tryFrom 69 = .ok (.bipush 14, 2) := by decide +kernel
theorem dX0_tryFrom_71 : decode cX0_tryFrom 71 = .ok (.if_icmp .ge 130, 3) := by decide +kernel
theorem dX0_tryFrom_74 : decode cX0_tryFrom 74 = .ok (.iload 4, 2) := by decide +kernel
theorem dX0_tryFrom_76 : decode cX0_tryFrom 76 = .ok (.iload 5, 2) := by decide +kernel
theorem dX0_tryFrom_78 : decode cX0_tryFrom 78 = .ok (.ishr, 1) := by decide +kernel
theorem dX0_tryFrom_79 : decode cX0_tryFrom 79 = .ok (.iconst 1, 1) := by decide +kernel
theorem dX0_tryFrom_80 : decode cX0_tryFrom 80 = .ok (.iand, 1) := by decide +kernel
theorem dX0_tryFrom_81 : decode cX0_tryFrom 81 = .ok (.ifCond .ne 22, 3) := by decide +kernel
theorem dX0_tryFrom_84 : decode cX0_tryFrom 84 = .ok (.aload_n 0, 1) := by decide +kernel
theorem dX0_tryFrom_85 : decode cX0_tryFrom 85 = .ok (.getfield 20, 3) := by decide +kernel
theorem dX0_tryFrom_88 : decode cX0_tryFrom 88 = .ok (.iload 5, 2) := by decide +kernel
theorem dX0_tryFrom_90 : decode cX0_tryFrom 90 = .ok (.iaload, 1) := by decide +kernel
theorem dX0_tryFrom_91 : decode cX0_tryFrom 91 = .ok (.iload 4, 2) := by decide +kernel
theorem dX0_tryFrom_93 : decode cX0_tryFrom 93 = .ok (.iconst (-1), 1) := by decide +kernel
theorem dX0_tryFrom_94 : decode cX0_tryFrom 94 = .ok (.ixor, 1) := by decide +kernel
theorem dX0_tryFrom_95 : decode cX0_tryFrom 95 = .ok (.iand, 1) := by decide +kernel
theorem dX0_tryFrom_96 : decode cX0_tryFrom 96 = .ok (.ifCond .ne 7, 3) := by decide +kernel
theorem dX0_tryFrom_99 : decode cX0_tryFrom 99 = .ok (.iconst 1, 1) := by decide +kernel
theorem dX0_tryFrom_100 : decode cX0_tryFrom 100 = .ok (.goto 4, 3) := by decide +kernel
theorem dX0_tryFrom_103 : decode cX0_tryFrom 103 = .ok (.iconst 0, 1) := by decide +kernel
theorem dX0_tryFrom_104 : decode cX0_tryFrom 104 = .ok (.istore 6, 2) := by decide +kernel
theorem dX0_tryFrom_106 : decode cX0_tryFrom 106 = .ok (.iload 6, 2) := by decide +kernel
theorem dX0_tryFrom_108 : decode cX0_tryFrom 108 = .ok (.ifCond .eq 87, 3) := by decide +kernel
theorem dX0_tryFrom_111 : decode cX0_tryFrom 111 = .ok (.aload_n 1, 1) := by decide +kernel
theorem dX0_tryFrom_112 : decode cX0_tryFrom 112 = .ok (.iload 5, 2) := by decide +kernel
theorem dX0_tryFrom_114 : decode cX0_tryFrom 114 = .ok (.aload_n 0, 1) := by decide +kernel
theorem dX0_tryFrom_115 : decode cX0_tryFrom 115 = .ok (.getfield 17, 3) := by decide +kernel
theorem dX0_tryFrom_118 : decode cX0_tryFrom 118 = .ok (.iload_n 3, 1) := by decide +kernel
theorem dX0_tryFrom_119 : decode cX0_tryFrom 119 = .ok (.aaload, 1) := by decide +kernel
theorem dX0_tryFrom_120 : decode cX0_tryFrom 120 = .ok (.invokevirtual 62, 3) := by decide +kernel
theorem dX0_tryFrom_123 : decode cX0_tryFrom 123 = .ok (.ifCond .eq 72, 3) := by decide +kernel
theorem dX0_tryFrom_126 : decode cX0_tryFrom 126 = .ok (.aload_n 0, 1) := by decide +kernel
theorem dX0_tryFrom_127 : decode cX0_tryFrom 127 = .ok (.getfield 9, 3) := by decide +kernel
theorem dX0_tryFrom_130 : decode cX0_tryFrom 130 = .ok (.iload_n 3, 1) := by decide +kernel
theorem dX0_tryFrom_131 : decode cX0_tryFrom 131 = .ok (.iload 5, 2) := by decide +kernel
theorem dX0_tryFrom_133 : decode cX0_tryFrom 133 = .ok (.iastore, 1) := by decide +kernel
theorem dX0_tryFrom_134 : decode cX0_tryFrom 134 = .ok (.aload_n 0, 1) := by decide +kernel
theorem dX0_tryFrom_135 : decode cX0_tryFrom 135 = .ok (.getfield 17, 3) := by decide +kernel
theorem dX0_tryFrom_138 : decode cX0_tryFrom 138 = .ok (.iload_n 3, 1) := by decide +kernel
theorem dX0_tryFrom_139 : decode cX0_tryFrom 139 = .ok (.aaload, 1) := by decide +kernel
theorem dX0_tryFrom_140 : decode cX0_tryFrom 140 = .ok (.iconst 0, 1) := by decide +kernel
theorem dX0_tryFrom_141 : decode cX0_tryFrom 141 = .ok (.aload_n 0, 1) := by decide +kernel
theorem dX0_tryFrom_142 : decode cX0_tryFrom 142 = .ok (.getfield 17, 3) := by decide +kernel
theorem dX0_tryFrom_145 : decode cX0_tryFrom 145 = .ok (.iload_n 3, 1) := by decide +kernel
theorem dX0_tryFrom_146 : decode cX0_tryFrom 146 = .ok (.iconst 1, 1) := by decide +kernel
theorem dX0_tryFrom_147 : decode cX0_tryFrom 147 = .ok (.iadd, 1) := by decide +kernel
theorem dX0_tryFrom_148 : decode cX0_tryFrom 148 = .ok (.aaload, 1) := by decide +kernel
theorem dX0_tryFrom_149 : decode cX0_tryFrom 149 = .ok (.iconst 0, 1) := by decide +kernel
theorem dX0_tryFrom_150 : decode cX0_tryFrom 150 = .ok (.bipush 26, 2) := by decide +kernel
theorem dX0_tryFrom_152 : decode cX0_tryFrom 152 = .ok (.invokestatic 41, 3) := by decide +kernel
theorem dX0_tryFrom_155 : decode cX0_tryFrom 155 = .ok (.aload_n 1, 1) := by decide +kernel
theorem dX0_tryFrom_156 : decode cX0_tryFrom 156 = .ok (.iload 5, 2) := by decide +kernel
theorem dX0_tryFrom_158 : decode cX0_tryFrom 158 = .ok (.aload_n 0, 1) := by decide +kernel
theorem dX0_tryFrom_159 : decode cX0_tryFrom 159 = .ok (.getfield 17, 3) := by decide +kernel
theorem dX0_tryFrom_162 : decode cX0_tryFrom 162 = .ok (.iload_n 3, 1) := by decide +kernel
theorem dX0_tryFrom_163 : decode cX0_tryFrom 163 = .ok (.iconst 1, 1) := by decide +kernel
theorem dX0_tryFrom_164 : decode cX0_tryFrom 164 = .ok (.iadd, 1) := by decide +kernel
theorem dX0_tryFrom_165 : decode cX0_tryFrom 165 = .ok (.aaload, 1) := by decide +kernel
theorem dX0_tryFrom_166 : decode cX0_tryFrom 166 = .ok (.invokevirtual 66, 3) := by decide +kernel
theorem dX0_tryFrom_169 : decode cX0_tryFrom 169 = .ok (.aload_n 0, 1) := by decide +kernel
theorem dX0_tryFrom_170 : decode cX0_tryFrom 170 = .ok (.aload_n 1, 1) := by decide +kernel
theorem dX0_tryFrom_171 : decode cX0_tryFrom 171 = .ok (.aload_n 2, 1) := by decide +kernel
theorem dX0_tryFrom_172 : decode cX0_tryFrom 172 = .ok (.iload_n 3, 1) := by decide +kernel
theorem dX0_tryFrom_173 : decode cX0_tryFrom 173 = .ok (.iconst 1, 1) := by decide +kernel
theorem dX0_tryFrom_174 : decode cX0_tryFrom 174 = .ok (.iadd, 1) := by decide +kernel
theorem dX0_tryFrom_175 : decode cX0_tryFrom 175 = .ok (.iload 4, 2) := by decide +kernel
theorem dX0_tryFrom_177 : decode cX0_tryFrom 177 = .ok (.iconst 1, 1) := by decide +kernel
theorem dX0_tryFrom_178 : decode cX0_tryFrom 178 = .ok (.iload 5, 2) := by decide +kernel
theorem dX0_tryFrom_180 : decode cX0_tryFrom 180 = .ok (.ishl, 1) := by decide +kernel
theorem dX0_tryFrom_181 : decode cX0_tryFrom 181 = .ok (.ior, 1) := by decide +kernel
theorem dX0_tryFrom_182 : decode cX0_tryFrom 182 = .ok (.invokevirtual 50, 3) := by decide +kernel
theorem dX0_tryFrom_185 : decode cX0_tryFrom 185 = .ok (.istore 7, 2) := by decide +kernel
theorem dX0_tryFrom_187 : decode cX0_tryFrom 187 = .ok (.iload 7, 2) := by decide +kernel
theorem dX0_tryFrom_189 : decode cX0_tryFrom 189 = .ok (.ifCond .eq 6, 3) := by decide +kernel
theorem dX0_tryFrom_192 : decode cX0_tryFrom 192 = .ok (.iload 7, 2) := by decide +kernel
theorem dX0_tryFrom_194 : decode cX0_tryFrom 194 = .ok (.ireturn, 1) := by decide +kernel
theorem dX0_tryFrom_195 : decode cX0_tryFrom 195 = .ok (.iinc 5 1, 3) := by decide +kernel
theorem dX0_tryFrom_198 : decode cX0_tryFrom 198 = .ok (.goto (-140), 3) := by decide +kernel
theorem dX0_tryFrom_201 : decode cX0_tryFrom 201 = .ok (.iconst 0, 1) := by decide +kernel
theorem dX0_tryFrom_202 : decode cX0_tryFrom 202 = .ok (.ireturn, 1) := by decide +kernel
