theorem dX5_valueAt_0 : decode cX5_valueAt 0 = .ok (.iload_n 1, 1) := by decide +kernel
theorem dX5_valueAt_1 : decode cX5_valueAt 1 = .ok (.ifCond .lt 9, 3) := by decide +kernel
theorem dX5_valueAt_4 : decode cX5_valueAt 4 = .ok (.iload_n 1, 1) := by decide +kernel
theorem dX5_valueAt_5 : decode cX5_valueAt 5 = .ok (.bipush 26, 2) := by decide +kernel
theorem dX5_valueAt_7 : decode cX5_valueAt 7 = .ok (.if_icmp .lt 5, 3) := by decide +kernel
theorem dX5_valueAt_10 : decode cX5_valueAt 10 = .ok (.iconst 0, 1) := by decide +kernel
theorem dX5_valueAt_11 : decode cX5_valueAt 11 = .ok (.ireturn, 1) := by decide +kernel
theorem dX5_valueAt_12 : decode cX5_valueAt 12 = .ok (.aload_n 0, 1) := by decide +kernel
theorem dX5_valueAt_13 : decode cX5_valueAt 13 = .ok (.getfield 24, 3) := by decide +kernel
theorem dX5_valueAt_16 : decode cX5_valueAt 16 = .ok (.iload_n 1, 1) := by decide +kernel
theorem dX5_valueAt_17 : decode cX5_valueAt 17 = .ok (.iaload, 1) := by decide +kernel
theorem dX5_valueAt_18 : decode cX5_valueAt 18 = .ok (.istore_n 3, 1) := by decide +kernel
theorem dX5_valueAt_19 : decode cX5_valueAt 19 = .ok (.iconst 0, 1) := by decide +kernel
theorem dX5_valueAt_20 : decode cX5_valueAt 20 = .ok (.istore 4, 2) := by decide +kernel
theorem dX5_valueAt_22 : decode cX5_valueAt 22 = .ok (.iload 4, 2) := by decide +kernel
theorem dX5_valueAt_24 : decode cX5_valueAt 24 = .ok (.aload_n 0, 1) := by decide +kernel
theorem dX5_valueAt_25 : decode cX5_valueAt 25 = .ok (.getfield 49, 3) := by decide +kernel
theorem dX5_valueAt_28 : decode cX5_valueAt 28 = .ok (.if_icmp .gt 45, 3) := by decide +kernel
theorem dX5_valueAt_31 : decode cX5_valueAt 31 = .ok (.iload_n 3, 1) := by decide +kernel
theorem dX5_valueAt_32 : decode cX5_valueAt 32 = .ok (.ifCond .lt 41, 3) := by decide +kernel
theorem dX5_valueAt_35 : decode cX5_valueAt 35 = .ok (.iload_n 3, 1) := by decide +kernel
theorem dX5_valueAt_36 : decode cX5_valueAt 36 = .ok (.aload_n 0, 1) := by decide +kernel
theorem dX5_valueAt_37 : decode cX5_valueAt 37 = .ok (.getfield 27, 3) := by decide +kernel
theorem dX5_valueAt_40 : decode cX5_valueAt 40 = .ok (.if_icmp .ge 33, 3) := by decide +kernel
theorem dX5_valueAt_43 : decode cX5_valueAt 43 = .ok (.aload_n 0, 1) := by decide +kernel
theorem dX5_valueAt_44 : decode cX5_valueAt 44 = .ok (.getfield 31, 3) := by decide +kernel
theorem dX5_valueAt_47 : decode cX5_valueAt 47 = .ok (.iload_n 3, 1) := by decide +kernel
theorem dX5_valueAt_48 : decode cX5_valueAt 48 = .ok (.iaload, 1) := by decide +kernel
theorem dX5_valueAt_49 : decode cX5_valueAt 49 = .ok (.iload_n 2, 1) := by decide +kernel
theorem dX5_valueAt_50 : decode cX5_valueAt 50 = .ok (.if_icmp .gt 10, 3) := by decide +kernel
theorem dX5_valueAt_53 : decode cX5_valueAt 53 = .ok (.aload_n 0, 1) := by decide +kernel
theorem dX5_valueAt_54 : decode cX5_valueAt 54 = .ok (.getfield 34, 3) := by decide +kernel
theorem dX5_valueAt_57 : decode cX5_valueAt 57 = .ok (.iload_n 3, 1) := by decide +kernel
theorem dX5_valueAt_58 : decode cX5_valueAt 58 = .ok (.iaload, 1) := by decide +kernel
theorem dX5_valueAt_59 : decode cX5_valueAt 59 = .ok (.ireturn, 1) := by decide +kernel
theorem dX5_valueAt_60 : decode cX5_valueAt 60 = .ok (.aload_n 0, 1) := by decide +kernel
theorem dX5_valueAt_61 : decode cX5_valueAt 61 = .ok (.getfield 37, 3) := by decide +kernel
theorem dX5_valueAt_64 : decode cX5_valueAt 64 = .ok (.iload_n 3, 1) := by decide +kernel
theorem dX5_valueAt_65 : decode cX5_valueAt 65 = .ok (.iaload, 1) := by decide +kernel
theorem dX5_valueAt_66 : decode cX5_valueAt 66 = .ok (.istore_n 3, 1) := by decide +kernel
theorem dX5_valueAt_67 : decode cX5_valueAt 67 = .ok (.iinc 4 1, 3) := by decide +kernel
theorem dX5_valueAt_70 : decode cX5_valueAt 70 = .ok (.goto (-48), 3) := by decide +kernel
theorem dX5_valueAt_73 : decode cX5_valueAt 73 = .ok (.iconst 0, 1) := by decide +kernel
theorem dX5_valueAt_74 : decode cX5_valueAt 74 = .ok (.ireturn, 1) := by decide +kernel
theorem dX5_isTakenByOther_0 : decode cX5_isTakenByOther 0 = .ok (.iload_n 1, 1) := by decide +kernel
theorem dX5_isTakenByOther_1 : decode cX5_isTakenByOther 1 = .ok (.ifCond .lt 33, 3) := by decide +kernel
theorem dX5_isTakenByOther_4 : decode cX5_isTakenByOther 4 = .ok (.iload_n 1, 1) := by decide +kernel
theorem dX5_isTakenByOther_5 : decode cX5_isTakenByOther 5 = .ok (.bipush 26, 2) := by decide +kernel
theorem dX5_isTakenByOther_7 : decode cX5_isTakenByOther 7 = .ok (.if_icmp .ge 27, 3) := by decide +kernel
theorem dX5_isTakenByOther_10 : decode cX5_isTakenByOther 10 = .ok (.aload_n 0, 1) := by decide +kernel
theorem dX5_isTakenByOther_11 : decode cX5_isTakenByOther 11 = .ok (.getfield 18, 3) := by decide +kernel
theorem dX5_isTakenByOther_14 : decode cX5_isTakenByOther 14 = .ok (.iload_n 1, 1) := by decide +kernel
theorem dX5_isTakenByOther_15 : decode cX5_isTakenByOther 15 = .ok (.iaload, 1) := by decide +kernel
theorem dX5_isTakenByOther_16 : decode cX5_isTakenByOther 16 = .ok (.iconst (-1), 1) := by decide +kernel
theorem dX5_isTakenByOther_17 : decode cX5_isTakenByOther 17 = .ok (.if_icmp .eq 17, 3) := by decide +kernel
theorem dX5_isTakenByOther_20 : decode cX5_isTakenByOther 20 = .ok (.aload_n 0, 1) := by decide +kernel
theorem dX5_isTakenByOther_21 : decode cX5_isTakenByOther 21 = .ok (.getfield 18, 3) := by decide +kernel
theorem dX5_isTakenByOther_24 : decode cX5_isTakenByOther 24 = .ok (.iload_n 1, 1) := by decide +kernel
theorem dX5_isTakenByOther_25 : decode cX5_isTakenByOther 25 = .ok (.iaload, 1) := by decide +kernel
theorem dX5_isTakenByOther_26 : decode cX5_isTakenByOther 26 = .ok (.iload_n 2, 1) := by decide +kernel
theorem dX5_isTakenByOther_27 : decode cX5_isTakenByOther 27 = .ok (.if_icmp .eq 7, 3) := by decide +kernel
theorem dX5_isTakenByOther_30 : decode cX5_isTakenByOther 30 = .ok (.iconst 1, 1) := by decide +kernel
theorem dX5_isTakenByOther_31 : decode cX5_isTakenByOther 31 = .ok (.goto 4, 3) := by decide +kernel
theorem dX5_isTakenByOther_34 : decode cX5_isTakenByOther 34 = .ok (.iconst 0, 1) := by decide +kernel
theorem dX5_isTakenByOther_35 : decode cX5_isTakenByOther 35 = .ok (.ireturn, 1) := by decide +kernel
theorem dX5_isTakenBy_0 : decode cX5_isTakenBy 0 = .ok (.iload_n 1, 1) := by decide +kernel
theorem dX5_isTakenBy_1 : decode cX5_isTakenBy 1 = .ok (.ifCond .lt 23, 3) := by decide +kernel
theorem dX5_isTakenBy_4 : decode cX5_isTakenBy 4 = .ok (.iload_n 1, 1) := by decide +kernel
theorem dX5_isTakenBy_5 : decode cX5_isTakenBy 5 = .ok (.bipush 26, 2) := by decide +kernel
theorem dX5_isTakenBy_7 : decode cX5_isTakenBy 7 = .ok (.if_icmp .ge 17, 3) := by decide +kernel
theorem dX5_isTakenBy_10 : decode cX5_isTakenBy 10 = .ok (.aload_n 0, 1) := by decide +kernel
theorem dX5_isTakenBy_11 : decode cX5_isTakenBy 11 = .ok (.getfield 18, 3) := by decide +kernel
theorem dX5_isTakenBy_14 : decode cX5_isTakenBy 14 = .ok (.iload_n 1, 1) := by decide +kernel
theorem dX5_isTakenBy_15 : decode cX5_isTakenBy 15 = .ok (.iaload, 1) := by decide +kernel
theorem dX5_isTakenBy_16 : decode cX5_isTakenBy 16 = .ok (.iload_n 2, 1) := by decide +kernel
theorem dX5_isTakenBy_17 : decode cX5_isTakenBy 17 = .ok (.if_icmp .ne 7, 3) := by decide +kernel
theorem dX5_isTakenBy_20 : decode cX5_isTakenBy 20 = .ok (.iconst 1, 1) := by decide +kernel
theorem dX5_isTakenBy_21 : decode cX5_isTakenBy 21 = .ok (.goto 4, 3) := by decide +kernel
theorem dX5_isTakenBy_24 : decode cX5_isTakenBy 24 = .ok (.iconst 0, 1) := by decide +kernel
theorem dX5_isTakenBy_25 : decode cX5_isTakenBy 25 = .ok (.ireturn, 1) := by decide +kernel
theorem dX5_howManyTaken_0 : decode cX5_howManyTaken 0 = .ok (.iconst 0, 1) := by decide +kernel
theorem dX5_howManyTaken_1 : decode cX5_howManyTaken 1 = .ok (.istore_n 1, 1) := by decide +kernel
theorem dX5_howManyTaken_2 : decode cX5_howManyTaken 2 = .ok (.iconst 0, 1) := by decide +kernel
theorem dX5_howManyTaken_3 : decode cX5_howManyTaken 3 = .ok (.istore_n 2, 1) := by decide +kernel
theorem dX5_howManyTaken_4 : decode cX5_howManyTaken 4 = .ok (.iload_n 2, 1) := by decide +kernel
theorem dX5_howManyTaken_5 : decode cX5_howManyTaken 5 = .ok (.bipush 26, 2) := by decide +kernel
theorem dX5_howManyTaken_7 : decode cX5_howManyTaken 7 = .ok (.if_icmp .ge 22, 3) := by decide +kernel
theorem dX5_howManyTaken_10 : decode cX5_howManyTaken 10 = .ok (.aload_n 0, 1) := by decide +kernel
theorem dX5_howManyTaken_11 : decode cX5_howManyTaken 11 = .ok (.getfield 18, 3) := by decide +kernel
theorem dX5_howManyTaken_14 : decode cX5_howManyTaken 14 = .ok (.iload_n 2, 1) := by decide +kernel
theorem dX5_howManyTaken_15 : decode cX5_howManyTaken 15 = .ok (.iaload, 1) := by decide +kernel
theorem dX5_howManyTaken_16 : decode cX5_howManyTaken 16 = .ok (.iconst (-1), 1) := by decide +kernel
theorem dX5_howManyTaken_17 : decode cX5_howManyTaken 17 = .ok (.if_icmp .eq 6, 3) := by decide +kernel
theorem dX5_howManyTaken_20 : decode cX5_howManyTaken 20 = .ok (.iinc 1 1, 3) := by decide +kernel
theorem dX5_howManyTaken_23 : decode cX5_howManyTaken 23 = .ok (.iinc 2 1, 3) := by decide +kernel
theorem dX5_howManyTaken_26 : decode cX5_howManyTaken 26 = .ok (.goto (-22), 3) := by decide +kernel
theorem dX5_howManyTaken_29 : decode cX5_howManyTaken 29 = .ok (.iload_n 1, 1) := by decide +kernel
theorem dX5_howManyTaken_30 : decode cX5_howManyTaken 30 = .ok (.ireturn, 1) := by decide +kernel
