theorem dX5_change_0 : decode cX5_change 0 = .ok (.iload_n 1, 1) := by decide +kernel
theorem dX5_change_1 : decode cX5_change 1 = .ok (.ifCond .lt 9, 3) := by decide +kernel
theorem dX5_change_4 : decode cX5_change 4 = .ok (.iload_n 1, 1) := by decide +kernel
theorem dX5_change_5 : decode cX5_change 5 = .ok (.bipush 26, 2) := by decide +kernel
theorem dX5_change_7 : decode cX5_change 7 = .ok (.if_icmp .lt 4, 3) := by decide +kernel
theorem dX5_change_10 : decode cX5_change 10 = .ok (.return_, 1) := by decide +kernel
theorem dX5_change_11 : decode cX5_change 11 = .ok (.aload_n 0, 1) := by decide +kernel
theorem dX5_change_12 : decode cX5_change 12 = .ok (.getfield 9, 3) := by decide +kernel
theorem dX5_change_15 : decode cX5_change 15 = .ok (.iload_n 1, 1) := by decide +kernel
theorem dX5_change_16 : decode cX5_change 16 = .ok (.iload_n 2, 1) := by decide +kernel
theorem dX5_change_17 : decode cX5_change 17 = .ok (.iastore, 1) := by decide +kernel
theorem dX5_change_18 : decode cX5_change 18 = .ok (.aload_n 0, 1) := by decide +kernel
theorem dX5_change_19 : decode cX5_change 19 = .ok (.getfield 15, 3) := by decide +kernel
theorem dX5_change_22 : decode cX5_change 22 = .ok (.iload_n 1, 1) := by decide +kernel
theorem dX5_change_23 : decode cX5_change 23 = .ok (.aload_n 0, 1) := by decide +kernel
theorem dX5_change_24 : decode cX5_change 24 = .ok (.getfield 46, 3) := by decide +kernel
theorem dX5_change_27 : decode cX5_change 27 = .ok (.iastore, 1) := by decide +kernel
theorem dX5_change_28 : decode cX5_change 28 = .ok (.aload_n 0, 1) := by decide +kernel
theorem dX5_change_29 : decode cX5_change 29 = .ok (.getfield 49, 3) := by decide +kernel
theorem dX5_change_32 : decode cX5_change 32 = .ok (.aload_n 0, 1) := by decide +kernel
theorem dX5_change_33 : decode cX5_change 33 = .ok (.getfield 27, 3) := by decide +kernel
theorem dX5_change_36 : decode cX5_change 36 = .ok (.if_icmp .lt 67, 3) := by decide +kernel
theorem dX5_change_39 : decode cX5_change 39 = .ok (.aload_n 0, 1) := by decide +kernel
theorem dX5_change_40 : decode cX5_change 40 = .ok (.getfield 27, 3) := by decide +kernel
theorem dX5_change_43 : decode cX5_change 43 = .ok (.ldc 52, 2) := by decide +kernel
theorem dX5_change_45 : decode cX5_change 45 = .ok (.if_icmp .ge 58, 3) := by decide +kernel
theorem dX5_change_48 : decode cX5_change 48 = .ok (.aload_n 0, 1) := by decide +kernel
theorem dX5_change_49 : decode cX5_change 49 = .ok (.aload_n 0, 1) := by decide +kernel
theorem dX5_change_50 : decode cX5_change 50 = .ok (.getfield 27, 3) := by decide +kernel
theorem dX5_change_53 : decode cX5_change 53 = .ok (.iconst 2, 1) := by decide +kernel
theorem dX5_change_54 : decode cX5_change 54 = .ok (.imul, 1) := by decide +kernel
theorem dX5_change_55 : decode cX5_change 55 = .ok (.putfield 27, 3) := by decide +kernel
theorem dX5_change_58 : decode cX5_change 58 = .ok (.aload_n 0, 1) := by decide +kernel
theorem dX5_change_59 : decode cX5_change 59 = .ok (.aload_n 0, 1) := by decide +kernel
theorem dX5_change_60 : decode cX5_change 60 = .ok (.getfield 31, 3) := by decide +kernel
theorem dX5_change_63 : decode cX5_change 63 = .ok (.aload_n 0, 1) := by decide +kernel
theorem dX5_change_64 : decode cX5_change 64 = .ok (.getfield 27, 3) := by decide +kernel
theorem dX5_change_67 : decode cX5_change 67 = .ok (.invokestatic 53, 3) := by decide +kernel
theorem dX5_change_70 : decode cX5_change 70 = .ok (.putfield 31, 3) := by decide +kernel
theorem dX5_change_73 : decode cX5_change 73 = .ok (.aload_n 0, 1) := by decide +kernel
theorem dX5_change_74 : decode cX5_change 74 = .ok (.aload_n 0, 1) := by decide +kernel
theorem dX5_change_75 : decode cX5_change 75 = .ok (.getfield 34, 3) := by decide +kernel
theorem dX5_change_78 : decode cX5_change 78 = .ok (.aload_n 0, 1) := by decide +kernel
theorem dX5_change_79 : decode cX5_change 79 = .ok (.getfield 27, 3) := by decide +kernel
theorem dX5_change_82 : decode cX5_change 82 = .ok (.invokestatic 53, 3) := by decide +kernel
theorem dX5_change_85 : decode cX5_change 85 = .ok (.putfield 34, 3) := by decide +kernel
theorem dX5_change_88 : decode cX5_change 88 = .ok (.aload_n 0, 1) := by decide +kernel
theorem dX5_change_89 : decode cX5_change 89 = .ok (.aload_n 0, 1) := by decide +kernel
theorem dX5_change_90 : decode cX5_change 90 = .ok (.getfield 37, 3) := by decide +kernel
theorem dX5_change_93 : decode cX5_change 93 = .ok (.aload_n 0, 1) := by decide +kernel
theorem dX5_change_94 : decode cX5_change 94 = .ok (.getfield 27, 3) := by decide +kernel
theorem dX5_change_97 : decode cX5_change 97 = .ok (.invokestatic 53, 3) := by decide +kernel
theorem dX5_change_100 : decode cX5_change 100 = .ok (.putfield 37, 3) := by decide +kernel
theorem dX5_change_103 : decode cX5_change 103 = .ok (.aload_n 0, 1) := by decide +kernel
theorem dX5_change_104 : decode cX5_change 104 = .ok (.getfield 49, 3) := by decide +kernel
theorem dX5_change_107 : decode cX5_change 107 = .ok (.ifCond .lt 72, 3) := by decide +kernel
theorem dX5_change_110 : decode cX5_change 110 = .ok (.aload_n 0, 1) := by decide +kernel
theorem dX5_change_111 : decode cX5_change 111 = .ok (.getfield 49, 3) := by decide +kernel
theorem dX5_change_114 : decode cX5_change 114 = .ok (.aload_n 0, 1) := by decide +kernel
theorem dX5_change_115 : decode cX5_change 115 = .ok (.getfield 27, 3) := by decide +kernel
theorem dX5_change_118 : decode cX5_change 118 = .ok (.if_icmp .ge 61, 3) := by decide +kernel
theorem dX5_change_121 : decode cX5_change 121 = .ok (.aload_n 0, 1) := by decide +kernel
theorem dX5_change_122 : decode cX5_change 122 = .ok (.getfield 31, 3) := by decide +kernel
theorem dX5_change_125 : decode cX5_change 125 = .ok (.aload_n 0, 1) := by decide +kernel
theorem dX5_change_126 : decode cX5_change 126 = .ok (.getfield 49, 3) := by decide +kernel
theorem dX5_change_129 : decode cX5_change 129 = .ok (.aload_n 0, 1) := by decide +kernel
theorem dX5_change_130 : decode cX5_change 130 = .ok (.getfield 46, 3) := by decide +kernel
theorem dX5_change_133 : decode cX5_change 133 = .ok (.iastore, 1) := by decide +kernel
theorem dX5_change_134 : decode cX5_change 134 = .ok (.aload_n 0, 1) := by decide +kernel
theorem dX5_change_135 : decode cX5_change 135 = .ok (.getfield 34, 3) := by decide +kernel
theorem dX5_change_138 : decode cX5_change 138 = .ok (.aload_n 0, 1) := by decide +kernel
theorem dX5_change_139 : decode cX5_change 139 = .ok (.getfield 49, 3) := by decide +kernel
theorem dX5_change_142 : decode cX5_change 142 = .ok (.iload_n 2, 1) := by decide +kernel
theorem dX5_change_143 : decode cX5_change 143 = .ok (.iastore, 1) := by decide +kernel
theorem dX5_change_144 : decode cX5_change 144 = .ok (.aload_n 0, 1) := by decide +kernel
theorem dX5_change_145 : decode cX5_change 145 = .ok (.getfield 37, 3) := by decide +kernel
theorem dX5_change_148 : decode cX5_change 148 = .ok (.aload_n 0, 1) := by decide +kernel
theorem dX5_change_149 : decode cX5_change 149 = .ok (.getfield 49, 3) := by decide +kernel
theorem dX5_change_152 : decode cX5_change 152 = .ok (.aload_n 0, 1) := by decide +kernel
theorem dX5_change_153 : decode cX5_change 153 = .ok (.getfield 24, 3) := by decide +kernel
theorem dX5_change_156 : decode cX5_change 156 = .ok (.iload_n 1, 1) := by decide +kernel
theorem dX5_change_157 : decode cX5_change 157 = .ok (.iaload, 1) := by decide +kernel
theorem dX5_change_158 : decode cX5_change 158 = .ok (.iastore, 1) := by decide +kernel
theorem dX5_change_159 : decode cX5_change 159 = .ok (.aload_n 0, 1) := by decide +kernel
theorem dX5_change_160 : decode cX5_change 160 = .ok (.getfield 24, 3) := by decide +kernel
theorem dX5_change_163 : decode cX5_change 163 = .ok (.iload_n 1, 1) := by decide +kernel
theorem dX5_change_164 : decode cX5_change 164 = .ok (.aload_n 0, 1) := by decide +kernel
theorem dX5_change_165 : decode cX5_change 165 = .ok (.getfield 49, 3) := by decide +kernel
theorem dX5_change_168 : decode cX5_change 168 = .ok (.iastore, 1) := by decide +kernel
theorem dX5_change_169 : decode cX5_change 169 = .ok (.aload_n 0, 1) := by decide +kernel
theorem dX5_change_170 : decode cX5_change 170 = .ok (.dup, 1) := by decide +kernel
theorem dX5_change_171 : decode cX5_change 171 = .ok (.getfield 49, 3) := by decide +kernel
theorem dX5_change_174 : decode cX5_change 174 = .ok (.iconst 1, 1) := by decide +kernel
theorem dX5_change_175 : decode cX5_change 175 = .ok (.iadd, 1) := by decide +kernel
theorem dX5_change_176 : decode cX5_change 176 = .ok (.putfield 49, 3) := by decide +kernel
theorem dX5_change_179 : decode cX5_change 179 = .ok (.return_, 1) := by decide +kernel
theorem dX5_clear_0 : decode cX5_clear 0 = .ok (.aload_n 0, 1) := by decide +kernel
theorem dX5_clear_1 : decode cX5_clear 1 = .ok (.getfield 9, 3) := by decide +kernel
theorem dX5_clear_4 : decode cX5_clear 4 = .ok (.iconst 0, 1) := by decide +kernel
theorem dX5_clear_5 : decode cX5_clear 5 = .ok (.invokestatic 40, 3) := by decide +kernel
theorem dX5_clear_8 : decode cX5_clear 8 = .ok (.aload_n 0, 1) := by decide +kernel
theorem dX5_clear_9 : decode cX5_clear 9 = .ok (.getfield 15, 3) := by decide +kernel
theorem dX5_clear_12 : decode cX5_clear 12 = .ok (.iconst 0, 1) := by decide +kernel
theorem dX5_clear_13 : decode cX5_clear 13 = .ok (.invokestatic 40, 3) := by decide +kernel
theorem dX5_clear_16 : decode cX5_clear 16 = .ok (.aload_n 0, 1) := by decide +kernel
theorem dX5_clear_17 : decode cX5_clear 17 = .ok (.getfield 18, 3) := by decide +kernel
theorem dX5_clear_20 : decode cX5_clear 20 = .ok (.iconst (-1), 1) := by decide +kernel
theorem dX5_clear_21 : decode cX5_clear 21 = .ok (.invokestatic 40, 3) := by decide +kernel
theorem dX5_clear_24 : decode cX5_clear 24 = .ok (.aload_n 0, 1) := by decide +kernel
theorem dX5_clear_25 : decode cX5_clear 25 = .ok (.getfield 21, 3) := by decide +kernel
theorem dX5_clear_28 : decode cX5_clear 28 = .ok (.iconst 0, 1) := by decide +kernel
theorem dX5_clear_29 : decode cX5_clear 29 = .ok (.invokestatic 40, 3) := by decide +kernel
theorem dX5_clear_32 : decode cX5_clear 32 = .ok (.aload_n 0, 1) := by decide +kernel
theorem dX5_clear_33 : decode cX5_clear 33 = .ok (.getfield 24, 3) := by decide +kernel
theorem dX5_clear_36 : decode cX5_clear 36 = .ok (.iconst (-1), 1) := by decide +kernel
theorem dX5_clear_37 : decode cX5_clear 37 = .ok (.invokestatic 40, 3) := by decide +kernel
theorem dX5_clear_40 : decode cX5_clear 40 = .ok (.aload_n 0, 1) := by decide +kernel
theorem dX5_clear_41 : decode cX5_clear 41 = .ok (.iconst 0, 1) := by decide +kernel
theorem dX5_clear_42 : decode cX5_clear 42 = .ok (.putfield 46, 3) := by decide +kernel
theorem dX5_clear_45 : decode cX5_clear 45 = .ok (.aload_n 0, 1) := by decide +kernel
theorem dX5_clear_46 : decode cX5_clear 46 = .ok (.iconst 0, 1) := by decide +kernel
theorem dX5_clear_47 : decode cX5_clear 47 = .ok (.putfield 49, 3) := by decide +kernel
theorem dX5_clear_50 : decode cX5_clear 50 = .ok (.return_, 1) := by decide +kernel
theorem dX5_howManyTaken_0 : decode cX5_howManyTaken 0 = .ok (.iconst 0, 1) := by decide +kernel
theorem dX5_howManyTaken_1 : decode cX5_howManyTaken 1 = .ok (.istore_n 1, 1) := by decide +kernel
theorem dX5_howManyTaken_2 : decode cX5_howManyTaken 2 = .ok (.iconst 0, 1) := by decide +kernel
theorem dX5_howManyTaken_3 : decode cX5_howManyTaken 3 = .ok (.istore_n 2, 1) := by decide +kernel
theorem dX5_howManyTaken_4 : decode cX5_howManyTaken 4 = .ok (.iload_n 2, 1) := by decide +kernel
theorem dX5_howManyTaken_5 : decode cX5_howManyTaken 5 = .ok (.bipush 26, 2) := by decide +kernel
theorem dX5_howManyTaken_7 : decode cX5_howManyTaken 7 = .ok (.if_icmp .ge 22, 3) := by decide +kernel
theorem dX5_howManyTaken_10 : decode cX5_howManyTaken 10 = .ok (.aload_n 0, 1) := by decide +kernel
theorem dX5_howManyTaken_11 : decode cX5_howManyTaken 11 = .ok (.getfield 18, 3) := by decide +kernel
theorem dX5_howManyTaken_14 : decode cX5_howManyTaken 14 = .ok (.iload_n 2, 1) := by decide +kernel
theorem dX5_howManyTaken_15 : decode cX5_howManyTaken 15 = .ok (.iaload, 1) := by decide +kernel
theorem dX5_howManyTaken_16 : decode cX5_howManyTaken 16 = .ok (.iconst (-1), 1) := by decide +kernel
theorem dX5_howManyTaken_17 : decode cX5_howManyTaken 17 = .ok (.if_icmp .eq 6, 3) := by decide +kernel
theorem dX5_howManyTaken_20 : decode cX5_howManyTaken 20 = .ok (.iinc 1 1, 3) := by decide +kernel
theorem dX5_howManyTaken_23 : decode cX5_howManyTaken 23 = .ok (.iinc 2 1, 3) := by decide +kernel
theorem dX5_howManyTaken_26 : decode cX5_howManyTaken 26 = .ok (.goto (-22), 3) := by decide +kernel
theorem dX5_howManyTaken_29 : decode cX5_howManyTaken 29 = .ok (.iload_n 1, 1) := by decide +kernel
theorem dX5_howManyTaken_30 : decode cX5_howManyTaken 30 = .ok (.ireturn, 1) := by decide +kernel
theorem dX5_init_0 : decode cX5_init 0 = .ok (.aload_n 0, 1) := by decide +kernel
theorem dX5_init_1 : decode cX5_init 1 = .ok (.invokespecial 3, 3) := by decide +kernel
theorem dX5_init_4 : decode cX5_init 4 = .ok (.aload_n 0, 1) := by decide +kernel
theorem dX5_init_5 : decode cX5_init 5 = .ok (.bipush 26, 2) := by decide +kernel
theorem dX5_init_7 : decode cX5_init 7 = .ok (.newarray .int, 2) := by decide +kernel
theorem dX5_init_9 : decode cX5_init 9 = .ok (.putfield 9, 3) := by decide +kernel
theorem dX5_init_12 : decode cX5_init 12 = .ok (.aload_n 0, 1) := by decide +kernel
theorem dX5_init_13 : decode cX5_init 13 = .ok (.bipush 26, 2) := by decide +kernel
theorem dX5_init_15 : decode cX5_init 15 = .ok (.newarray .int, 2) := by decide +kernel
theorem dX5_init_17 : decode cX5_init 17 = .ok (.putfield 15, 3) := by decide +kernel
theorem dX5_init_20 : decode cX5_init 20 = .ok (.aload_n 0, 1) := by decide +kernel
theorem dX5_init_21 : decode cX5_init 21 = .ok (.bipush 26, 2) := by decide +kernel
theorem dX5_init_23 : decode cX5_init 23 = .ok (.newarray .int, 2) := by decide +kernel
theorem dX5_init_25 : decode cX5_init 25 = .ok (.putfield 18, 3) := by decide +kernel
theorem dX5_init_28 : decode cX5_init 28 = .ok (.aload_n 0, 1) := by decide +kernel
theorem dX5_init_29 : decode cX5_init 29 = .ok (.bipush 26, 2) := by decide +kernel
theorem dX5_init_31 : decode cX5_init 31 = .ok (.newarray .int, 2) := by decide +kernel
theorem dX5_init_33 : decode cX5_init 33 = .ok (.putfield 21, 3) := by decide +kernel
theorem dX5_init_36 : decode cX5_init 36 = .ok (.aload_n 0, 1) := by decide +kernel
theorem dX5_init_37 : decode cX5_init 37 = .ok (.bipush 26, 2) := by decide +kernel
theorem dX5_init_39 : decode cX5_init 39 = .ok (.newarray .int, 2) := by decide +kernel
theorem dX5_init_41 : decode cX5_init 41 = .ok (.putfield 24, 3) := by decide +kernel
theorem dX5_init_44 : decode cX5_init 44 = .ok (.aload_n 0, 1) := by decide +kernel
theorem dX5_init_45 : decode cX5_init 45 = .ok (.bipush 64, 2) := by decide +kernel
theorem dX5_init_47 : decode cX5_init 47 = .ok (.putfield 27, 3) := by decide +kernel
theorem dX5_init_50 : decode cX5_init 50 = .ok (.aload_n 0, 1) := by decide +kernel
theorem dX5_init_51 : decode cX5_init 51 = .ok (.bipush 64, 2) := by decide +kernel
theorem dX5_init_53 : decode cX5_init 53 = .ok (.newarray .int, 2) := by decide +kernel
theorem dX5_init_55 : decode cX5_init 55 = .ok (.putfield 31, 3) := by decide +kernel
theorem dX5_init_58 : decode cX5_init 58 = .ok (.aload_n 0, 1) := by decide +kernel
theorem dX5_init_59 : decode cX5_init 59 = .ok (.bipush 64, 2) := by decide +kernel
theorem dX5_init_61 : decode cX5_init 61 = .ok (.newarray .int, 2) := by decide +kernel
theorem dX5_init_63 : decode cX5_init 63 = .ok (.putfield 34, 3) := by decide +kernel
theorem dX5_init_66 : decode cX5_init 66 = .ok (.aload_n 0, 1) := by decide +kernel
theorem dX5_init_67 : decode cX5_init 67 = .ok (.bipush 64, 2) := by decide +kernel
theorem dX5_init_69 : decode cX5_init 69 = .ok (.newarray .int, 2) := by decide +kernel
theorem dX5_init_71 : decode cX5_init 71 = .ok (.putfield 37, 3) := by decide +kernel
theorem dX5_init_74 : decode cX5_init 74 = .ok (.aload_n 0, 1) := by decide +kernel
theorem dX5_init_75 : decode cX5_init 75 = .ok (.getfield 18, 3) := by decide +kernel
theorem dX5_init_78 : decode cX5_init 78 = .ok (.iconst (-1), 1) := by decide +kernel
theorem dX5_init_79 : decode cX5_init 79 = .ok (.invokestatic 40, 3) := by decide +kernel
theorem dX5_init_82 : decode cX5_init 82 = .ok (.aload_n 0, 1) := by decide +kernel
theorem dX5_init_83 : decode cX5_init 83 = .ok (.getfield 24, 3) := by decide +kernel
theorem dX5_init_86 : decode cX5_init 86 = .ok (.iconst (-1), 1) := by decide +kernel
theorem dX5_init_87 : decode cX5_init 87 = .ok (.invokestatic 40, 3) := by decide +kernel
theorem dX5_init_90 : decode cX5_init 90 = .ok (.return_, 1) := by decide +kernel
theorem dX5_isTakenBy_0 : decode cX5_isTakenBy 0 = .ok (.iload_n 1, 1) := by decide +kernel
theorem dX5_isTakenBy_1 : decode cX5_isTakenBy 1 = .ok (.ifCond .lt 23, 3) := by decide +kernel
theorem dX5_isTakenBy_4 : decode cX5_isTakenBy 4 = .ok (.iload_n 1, 1) := by decide +kernel
theorem dX5_isTakenBy_5 : decode cX5_isTakenBy 5 = .ok (.bipush 26, 2) := by decide +kernel
theorem dX5_isTakenBy_7 : decode cX5_isTakenBy 7 = .ok (.if_icmp .ge 17, 3) := by decide +kernel
theorem dX5_isTakenBy_10 : decode cX5_isTakenBy 10 = .ok (.aload_n 0, 1) := by decide +kernel
theorem dX5_isTakenBy_11 : decode cX5_isTakenBy 11 = .ok (.getfield 18, 3) := by decide +kernel
theorem dX5_isTakenBy_14 : decode cX5_isTakenBy 14 = .ok (.iload_n 1, 1) := by decide +kernel
theorem dX5_isTakenBy_15 : decode cX5_isTakenBy 15 = .ok (.iaload, 1) := by decide +kernel
theorem dX5_isTakenBy_16 : decode cX5_isTakenBy 16 = .ok (.iload_n 2, 1) := by decide +kernel
theorem dX5_isTakenBy_17 : decode cX5_isTakenBy 17 = .ok (.if_icmp .ne 7, 3) := by decide +kernel
theorem dX5_isTakenBy_20 : decode cX5_isTakenBy 20 = .ok (.iconst 1, 1) := by decide +kernel
theorem dX5_isTakenBy_21 : decode cX5_isTakenBy 21 = .ok (.goto 4, 3) := by decide +kernel
theorem dX5_isTakenBy_24 : decode cX5_isTakenBy 24 = .ok (.iconst 0, 1) := by decide +kernel
theorem dX5_isTakenBy_25 : decode cX5_isTakenBy 25 = .ok (.ireturn, 1) := by decide +kernel
theorem dX5_isTakenByOther_0 : decode cX5_isTakenByOther 0 = .ok (.iload_n 1, 1) := by decide +kernel
theorem dX5_isTakenByOther_1 : decode cX5_isTakenByOther 1 = .ok (.ifCond .lt 33, 3) := by decide +kernel
theorem dX5_isTakenByOther_4 : decode cX5_isTakenByOther 4 = .ok (.iload_n 1, 1) := by decide +kernel
theorem dX5_isTakenByOther_5 : decode cX5_isTakenByOther 5 = .ok (.bipush 26, 2) := by decide +kernel
theorem dX5_isTakenByOther_7 : decode cX5_isTakenByOther 7 = .ok (.if_icmp .ge 27, 3) := by decide +kernel
theorem dX5_isTakenByOther_10 : decode cX5_isTakenByOther 10 = .ok (.aload_n 0, 1) := by decide +kernel
theorem dX5_isTakenByOther_11 : decode cX5_isTakenByOther 11 = .ok (.getfield 18, 3) := by decide +kernel
theorem dX5_isTakenByOther_14 : decode cX5_isTakenByOther 14 = .ok (.iload_n 1, 1) := by decide +kernel
theorem dX5_isTakenByOther_15 : decode cX5_isTakenByOther 15 = .ok (.iaload, 1) := by decide +kernel
theorem dX5_isTakenByOther_16 : decode cX5_isTakenByOther 16 = .ok (.iconst (-1), 1) := by decide +kernel
theorem dX5_isTakenByOther_17 : decode cX5_isTakenByOther 17 = .ok (.if_icmp .eq 17, 3) := by decide +kernel
theorem dX5_isTakenByOther_20 : decode cX5_isTakenByOther 20 = .ok (.aload_n 0, 1) := by decide +kernel
theorem dX5_isTakenByOther_21 : decode cX5_isTakenByOther 21 = .ok (.getfield 18, 3) := by decide +kernel
theorem dX5_isTakenByOther_24 : decode cX5_isTakenByOther 24 = .ok (.iload_n 1, 1) := by decide +kernel
theorem dX5_isTakenByOther_25 : decode cX5_isTakenByOther 25 = .ok (.iaload, 1) := by decide +kernel
theorem dX5_isTakenByOther_26 : decode cX5_isTakenByOther 26 = .ok (.iload_n 2, 1) := by decide +kernel
theorem dX5_isTakenByOther_27 : decode cX5_isTakenByOther 27 = .ok (.if_icmp .eq 7, 3) := by decide +kernel
theorem dX5_isTakenByOther_30 : decode cX5_isTakenByOther 30 = .ok (.iconst 1, 1) := by decide +kernel
theorem dX5_isTakenByOther_31 : decode cX5_isTakenByOther 31 = .ok (.goto 4, 3) := by decide +kernel
theorem dX5_isTakenByOther_34 : decode cX5_isTakenByOther 34 = .ok (.iconst 0, 1) := by decide +kernel
theorem dX5_isTakenByOther_35 : decode cX5_isTakenByOther 35 = .ok (.ireturn, 1) := by decide +kernel
theorem dX5_release_0 : decode cX5_release 0 = .ok (.iconst 0, 1) := by decide +kernel
theorem dX5_release_1 : decode cX5_release 1 = .ok (.istore_n 2, 1) := by decide +kernel
theorem dX5_release_2 : decode cX5_release 2 = .ok (.iconst 0, 1) := by decide +kernel
theorem dX5_release_3 : decode cX5_release 3 = .ok (.istore_n 3, 1) := by decide +kernel
theorem dX5_release_4 : decode cX5_release 4 = .ok (.iload_n 3, 1) := by decide +kernel
theorem dX5_release_5 : decode cX5_release 5 = .ok (.bipush 26, 2) := by decide +kernel
theorem dX5_release_7 : decode cX5_release 7 = .ok (.if_icmp .ge 53, 3) := by decide +kernel
theorem dX5_release_10 : decode cX5_release 10 = .ok (.aload_n 0, 1) := by decide +kernel
theorem dX5_release_11 : decode cX5_release 11 = .ok (.getfield 18, 3) := by decide +kernel
theorem dX5_release_14 : decode cX5_release 14 = .ok (.iload_n 3, 1) := by decide +kernel
theorem dX5_release_15 : decode cX5_release 15 = .ok (.iaload, 1) := by decide +kernel
theorem dX5_release_16 : decode cX5_release 16 = .ok (.iload_n 1, 1) := by decide +kernel
theorem dX5_release_17 : decode cX5_release 17 = .ok (.if_icmp .ne 37, 3) := by decide +kernel
theorem dX5_release_20 : decode cX5_release 20 = .ok (.iload_n 2, 1) := by decide +kernel
theorem dX5_release_21 : decode cX5_release 21 = .ok (.ifCond .ne 15, 3) := by decide +kernel
theorem dX5_release_24 : decode cX5_release 24 = .ok (.aload_n 0, 1) := by decide +kernel
theorem dX5_release_25 : decode cX5_release 25 = .ok (.dup, 1) := by decide +kernel
theorem dX5_release_26 : decode cX5_release 26 = .ok (.getfield 46, 3) := by decide +kernel
theorem dX5_release_29 : decode cX5_release 29 = .ok (.iconst 1, 1) := by decide +kernel
theorem dX5_release_30 : decode cX5_release 30 = .ok (.iadd, 1) := by decide +kernel
theorem dX5_release_31 : decode cX5_release 31 = .ok (.putfield 46, 3) := by decide +kernel
theorem dX5_release_34 : decode cX5_release 34 = .ok (.iconst 1, 1) := by decide +kernel
theorem dX5_release_35 : decode cX5_release 35 = .ok (.istore_n 2, 1) := by decide +kernel
theorem dX5_release_36 : decode cX5_release 36 = .ok (.aload_n 0, 1) := by decide +kernel
theorem dX5_release_37 : decode cX5_release 37 = .ok (.getfield 18, 3) := by decide +kernel
theorem dX5_release_40 : decode cX5_release 40 = .ok (.iload_n 3, 1) := by decide +kernel
theorem dX5_release_41 : decode cX5_release 41 = .ok (.iconst (-1), 1) := by decide +kernel
theorem dX5_release_42 : decode cX5_release 42 = .ok (.iastore, 1) := by decide +kernel
theorem dX5_release_43 : decode cX5_release 43 = .ok (.aload_n 0, 1) := by decide +kernel
theorem dX5_release_44 : decode cX5_release 44 = .ok (.iload_n 3, 1) := by decide +kernel
theorem dX5_release_45 : decode cX5_release 45 = .ok (.aload_n 0, 1) := by decide +kernel
theorem dX5_release_46 : decode cX5_release 46 = .ok (.getfield 9, 3) := by decide +kernel
theorem dX5_release_49 : decode cX5_release 49 = .ok (.iload_n 3, 1) := by decide +kernel
theorem dX5_release_50 : decode cX5_release 50 = .ok (.iaload, 1) := by decide +kernel
theorem dX5_release_51 : decode cX5_release 51 = .ok (.invokevirtual 57, 3) := by decide +kernel
theorem dX5_release_54 : decode cX5_release 54 = .ok (.iinc 3 1, 3) := by decide +kernel
theorem dX5_release_57 : decode cX5_release 57 = .ok (.goto (-53), 3) := by decide +kernel
theorem dX5_release_60 : decode cX5_release 60 = .ok (.return_, 1) := by decide +kernel
theorem dX5_valueAt_0 : decode cX5_valueAt 0 = .ok (.iload_n 1, 1) := by decide +kernel
theorem dX5_valueAt_1 : decode cX5_valueAt 1 = .ok (.ifCond .lt 9, 3) := by decide +kernel
theorem dX5_valueAt_4 : decode cX5_valueAt 4 = .ok (.iload_n 1, 1) := by decide +kernel
theorem dX5_valueAt_5 : decode cX5_valueAt 5 = .ok (.bipush 26, 2) := by decide +kernel
theorem dX5_valueAt_7 : decode cX5_valueAt 7 = .ok (.if_icmp .lt 5, 3) := by decide +kernel
theorem dX5_valueAt_10 : decode cX5_valueAt 10 = .ok (.iconst 0, 1) := by decide +kernel
theorem dX5_valueAt_11 : decode cX5_valueAt 11 = .ok (.ireturn, 1) := by decide +kernel
theorem dX5_valueAt_12 : decode cX5_valueAt 12 = .ok (.aload_n 0, 1) := by decide +kernel
theorem dX5_valueAt_13 : decode cX5_valueAt 13 = .ok (.getfield 24, 3) := by decide +kernel
theorem dX5_valueAt_16 : decode cX5_valueAt 16 = .ok (.iload_n 1, 1) := by decide +kernel
theorem dX5_valueAt_17 : decode cX5_valueAt 17 = .ok (.iaload, 1) := by decide +kernel
theorem dX5_valueAt_18 : decode cX5_valueAt 18 = .ok (.istore_n 3, 1) := by decide +kernel
theorem dX5_valueAt_19 : decode cX5_valueAt 19 = .ok (.iconst 0, 1) := by decide +kernel
theorem dX5_valueAt_20 : decode cX5_valueAt 20 = .ok (.istore 4, 2) := by decide +kernel
theorem dX5_valueAt_22 : decode cX5_valueAt 22 = .ok (.iload 4, 2) := by decide +kernel
theorem dX5_valueAt_24 : decode cX5_valueAt 24 = .ok (.aload_n 0, 1) := by decide +kernel
theorem dX5_valueAt_25 : decode cX5_valueAt 25 = .ok (.getfield 49, 3) := by decide +kernel
theorem dX5_valueAt_28 : decode cX5_valueAt 28 = .ok (.if_icmp .gt 45, 3) := by decide +kernel
theorem dX5_valueAt_31 : decode cX5_valueAt 31 = .ok (.iload_n 3, 1) := by decide +kernel
theorem dX5_valueAt_32 : decode cX5_valueAt 32 = .ok (.ifCond .lt 41, 3) := by decide +kernel
theorem dX5_valueAt_35 : decode cX5_valueAt 35 = .ok (.iload_n 3, 1) := by decide +kernel
theorem dX5_valueAt_36 : decode cX5_valueAt 36 = .ok (.aload_n 0, 1) := by decide +kernel
theorem dX5_valueAt_37 : decode cX5_valueAt 37 = .ok (.getfield 27, 3) := by decide +kernel
theorem dX5_valueAt_40 : decode cX5_valueAt 40 = .ok (.if_icmp .ge 33, 3) := by decide +kernel
theorem dX5_valueAt_43 : decode cX5_valueAt 43 = .ok (.aload_n 0, 1) := by decide +kernel
theorem dX5_valueAt_44 : decode cX5_valueAt 44 = .ok (.getfield 31, 3) := by decide +kernel
theorem dX5_valueAt_47 : decode cX5_valueAt 47 = .ok (.iload_n 3, 1) := by decide +kernel
theorem dX5_valueAt_48 : decode cX5_valueAt 48 = .ok (.iaload, 1) := by decide +kernel
theorem dX5_valueAt_49 : decode cX5_valueAt 49 = .ok (.iload_n 2, 1) := by decide +kernel
theorem dX5_valueAt_50 : decode cX5_valueAt 50 = .ok (.if_icmp .gt 10, 3) := by decide +kernel
theorem dX5_valueAt_53 : decode cX5_valueAt 53 = .ok (.aload_n 0, 1) := by decide +kernel
theorem dX5_valueAt_54 : decode cX5_valueAt 54 = .ok (.getfield 34, 3) := by decide +kernel
theorem dX5_valueAt_57 : decode cX5_valueAt 57 = .ok (.iload_n 3, 1) := by decide +kernel
theorem dX5_valueAt_58 : decode cX5_valueAt 58 = .ok (.iaload, 1) := by decide +kernel
theorem dX5_valueAt_59 : decode cX5_valueAt 59 = .ok (.ireturn, 1) := by decide +kernel
theorem dX5_valueAt_60 : decode cX5_valueAt 60 = .ok (.aload_n 0, 1) := by decide +kernel
theorem dX5_valueAt_61 : decode cX5_valueAt 61 = .ok (.getfield 37, 3) := by decide +kernel
theorem dX5_valueAt_64 : decode cX5_valueAt 64 = .ok (.iload_n 3, 1) := by decide +kernel
theorem dX5_valueAt_65 : decode cX5_valueAt 65 = .ok (.iaload, 1) := by decide +kernel
theorem dX5_valueAt_66 : decode cX5_valueAt 66 = .ok (.istore_n 3, 1) := by decide +kernel
theorem dX5_valueAt_67 : decode cX5_valueAt 67 = .ok (.iinc 4 1, 3) := by decide +kernel
theorem dX5_valueAt_70 : decode cX5_valueAt 70 = .ok (.goto (-48), 3) := by decide +kernel
theorem dX5_valueAt_73 : decode cX5_valueAt 73 = .ok (.iconst 0, 1) := by decide +kernel
theorem dX5_valueAt_74 : decode cX5_valueAt 74 = .ok (.ireturn, 1) := by decide +kernel
