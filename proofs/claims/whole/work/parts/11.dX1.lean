theorem dX1_clear_0 : decode cX1_clear 0 = .ok (.aload_n 0, 1) := by decide +kernel
theorem dX1_clear_1 : decode cX1_clear 1 = .ok (.iconst 0, 1) := by decide +kernel
theorem dX1_clear_2 : decode cX1_clear 2 = .ok (.putfield 23, 3) := by decide +kernel
theorem dX1_clear_5 : decode cX1_clear 5 = .ok (.aload_n 0, 1) := by decide +kernel
theorem dX1_clear_6 : decode cX1_clear 6 = .ok (.iconst 0, 1) := by decide +kernel
theorem dX1_clear_7 : decode cX1_clear 7 = .ok (.putfield 26, 3) := by decide +kernel
theorem dX1_clear_10 : decode cX1_clear 10 = .ok (.return_, 1) := by decide +kernel
theorem dX1_add_0 : decode cX1_add 0 = .ok (.aload_n 0, 1) := by decide +kernel
theorem dX1_add_1 : decode cX1_add 1 = .ok (.getfield 23, 3) := by decide +kernel
theorem dX1_add_4 : decode cX1_add 4 = .ok (.istore_n 3, 1) := by decide +kernel
theorem dX1_add_5 : decode cX1_add 5 = .ok (.iload_n 3, 1) := by decide +kernel
theorem dX1_add_6 : decode cX1_add 6 = .ok (.ifCond .lt 39, 3) := by decide +kernel
theorem dX1_add_9 : decode cX1_add 9 = .ok (.iload_n 3, 1) := by decide +kernel
theorem dX1_add_10 : decode cX1_add 10 = .ok (.aload_n 0, 1) := by decide +kernel
theorem dX1_add_11 : decode cX1_add 11 = .ok (.getfield 7, 3) := by decide +kernel
theorem dX1_add_14 : decode cX1_add 14 = .ok (.if_icmp .ge 31, 3) := by decide +kernel
theorem dX1_add_17 : decode cX1_add 17 = .ok (.aload_n 0, 1) := by decide +kernel
theorem dX1_add_18 : decode cX1_add 18 = .ok (.getfield 13, 3) := by decide +kernel
theorem dX1_add_21 : decode cX1_add 21 = .ok (.iload_n 3, 1) := by decide +kernel
theorem dX1_add_22 : decode cX1_add 22 = .ok (.iload_n 1, 1) := by decide +kernel
theorem dX1_add_23 : decode cX1_add 23 = .ok (.iastore, 1) := by decide +kernel
theorem dX1_add_24 : decode cX1_add 24 = .ok (.aload_n 0, 1) := by decide +kernel
theorem dX1_add_25 : decode cX1_add 25 = .ok (.getfield 17, 3) := by decide +kernel
theorem dX1_add_28 : decode cX1_add 28 = .ok (.iload_n 3, 1) := by decide +kernel
theorem dX1_add_29 : decode cX1_add 29 = .ok (.iload_n 2, 1) := by decide +kernel
theorem dX1_add_30 : decode cX1_add 30 = .ok (.iastore, 1) := by decide +kernel
theorem dX1_add_31 : decode cX1_add 31 = .ok (.aload_n 0, 1) := by decide +kernel
theorem dX1_add_32 : decode cX1_add 32 = .ok (.getfield 20, 3) := by decide +kernel
theorem dX1_add_35 : decode cX1_add 35 = .ok (.iload_n 3, 1) := by decide +kernel
theorem dX1_add_36 : decode cX1_add 36 = .ok (.iconst 0, 1) := by decide +kernel
theorem dX1_add_37 : decode cX1_add 37 = .ok (.iastore, 1) := by decide +kernel
theorem dX1_add_38 : decode cX1_add 38 = .ok (.aload_n 0, 1) := by decide +kernel
theorem dX1_add_39 : decode cX1_add 39 = .ok (.iload_n 3, 1) := by decide +kernel
theorem dX1_add_40 : decode cX1_add 40 = .ok (.iconst 1, 1) := by decide +kernel
theorem dX1_add_41 : decode cX1_add 41 = .ok (.iadd, 1) := by decide +kernel
theorem dX1_add_42 : decode cX1_add 42 = .ok (.putfield 23, 3) := by decide +kernel
theorem dX1_add_45 : decode cX1_add 45 = .ok (.iload_n 3, 1) := by decide +kernel
theorem dX1_add_46 : decode cX1_add 46 = .ok (.ireturn, 1) := by decide +kernel
theorem dX1_setOp_0 : decode cX1_setOp 0 = .ok (.iload_n 1, 1) := by decide +kernel
theorem dX1_setOp_1 : decode cX1_setOp 1 = .ok (.ifCond .lt 18, 3) := by decide +kernel
theorem dX1_setOp_4 : decode cX1_setOp 4 = .ok (.iload_n 1, 1) := by decide +kernel
theorem dX1_setOp_5 : decode cX1_setOp 5 = .ok (.aload_n 0, 1) := by decide +kernel
theorem dX1_setOp_6 : decode cX1_setOp 6 = .ok (.getfield 7, 3) := by decide +kernel
theorem dX1_setOp_9 : decode cX1_setOp 9 = .ok (.if_icmp .ge 10, 3) := by decide +kernel
theorem dX1_setOp_12 : decode cX1_setOp 12 = .ok (.aload_n 0, 1) := by decide +kernel
theorem dX1_setOp_13 : decode cX1_setOp 13 = .ok (.getfield 13, 3) := by decide +kernel
theorem dX1_setOp_16 : decode cX1_setOp 16 = .ok (.iload_n 1, 1) := by decide +kernel
theorem dX1_setOp_17 : decode cX1_setOp 17 = .ok (.iload_n 2, 1) := by decide +kernel
theorem dX1_setOp_18 : decode cX1_setOp 18 = .ok (.iastore, 1) := by decide +kernel
theorem dX1_setOp_19 : decode cX1_setOp 19 = .ok (.return_, 1) := by decide +kernel
theorem dX1_setFirst_0 : decode cX1_setFirst 0 = .ok (.iload_n 1, 1) := by decide +kernel
theorem dX1_setFirst_1 : decode cX1_setFirst 1 = .ok (.ifCond .lt 18, 3) := by decide +kernel
theorem dX1_setFirst_4 : decode cX1_setFirst 4 = .ok (.iload_n 1, 1) := by decide +kernel
theorem dX1_setFirst_5 : decode cX1_setFirst 5 = .ok (.aload_n 0, 1) := by decide +kernel
theorem dX1_setFirst_6 : decode cX1_setFirst 6 = .ok (.getfield 7, 3) := by decide +kernel
theorem dX1_setFirst_9 : decode cX1_setFirst 9 = .ok (.if_icmp .ge 10, 3) := by decide +kernel
theorem dX1_setFirst_12 : decode cX1_setFirst 12 = .ok (.aload_n 0, 1) := by decide +kernel
theorem dX1_setFirst_13 : decode cX1_setFirst 13 = .ok (.getfield 17, 3) := by decide +kernel
theorem dX1_setFirst_16 : decode cX1_setFirst 16 = .ok (.iload_n 1, 1) := by decide +kernel
theorem dX1_setFirst_17 : decode cX1_setFirst 17 = .ok (.iload_n 2, 1) := by decide +kernel
theorem dX1_setFirst_18 : decode cX1_setFirst 18 = .ok (.iastore, 1) := by decide +kernel
theorem dX1_setFirst_19 : decode cX1_setFirst 19 = .ok (.return_, 1) := by decide +kernel
theorem dX1_setSecond_0 : decode cX1_setSecond 0 = .ok (.iload_n 1, 1) := by decide +kernel
theorem dX1_setSecond_1 : decode cX1_setSecond 1 = .ok (.ifCond .lt 18, 3) := by decide +kernel
theorem dX1_setSecond_4 : decode cX1_setSecond 4 = .ok (.iload_n 1, 1) := by decide +kernel
theorem dX1_setSecond_5 : decode cX1_setSecond 5 = .ok (.aload_n 0, 1) := by decide +kernel
theorem dX1_setSecond_6 : decode cX1_setSecond 6 = .ok (.getfield 7, 3) := by decide +kernel
theorem dX1_setSecond_9 : decode cX1_setSecond 9 = .ok (.if_icmp .ge 10, 3) := by decide +kernel
theorem dX1_setSecond_12 : decode cX1_setSecond 12 = .ok (.aload_n 0, 1) := by decide +kernel
theorem dX1_setSecond_13 : decode cX1_setSecond 13 = .ok (.getfield 20, 3) := by decide +kernel
theorem dX1_setSecond_16 : decode cX1_setSecond 16 = .ok (.iload_n 1, 1) := by decide +kernel
theorem dX1_setSecond_17 : decode cX1_setSecond 17 = .ok (.iload_n 2, 1) := by decide +kernel
theorem dX1_setSecond_18 : decode cX1_setSecond 18 = .ok (.iastore, 1) := by decide +kernel
theorem dX1_setSecond_19 : decode cX1_setSecond 19 = .ok (.return_, 1) := by decide +kernel
theorem dX1_firstAt_0 : decode cX1_firstAt 0 = .ok (.iload_n 1, 1) := by decide +kernel
theorem dX1_firstAt_1 : decode cX1_firstAt 1 = .ok (.ifCond .lt 20, 3) := by decide +kernel
theorem dX1_firstAt_4 : decode cX1_firstAt 4 = .ok (.iload_n 1, 1) := by decide +kernel
theorem dX1_firstAt_5 : decode cX1_firstAt 5 = .ok (.aload_n 0, 1) := by decide +kernel
theorem dX1_firstAt_6 : decode cX1_firstAt 6 = .ok (.getfield 7, 3) := by decide +kernel
theorem dX1_firstAt_9 : decode cX1_firstAt 9 = .ok (.if_icmp .ge 12, 3) := by decide +kernel
theorem dX1_firstAt_12 : decode cX1_firstAt 12 = .ok (.aload_n 0, 1) := by decide +kernel
theorem dX1_firstAt_13 : decode cX1_firstAt 13 = .ok (.getfield 17, 3) := by decide +kernel
theorem dX1_firstAt_16 : decode cX1_firstAt 16 = .ok (.iload_n 1, 1) := by decide +kernel
theorem dX1_firstAt_17 : decode cX1_firstAt 17 = .ok (.iaload, 1) := by decide +kernel
theorem dX1_firstAt_18 : decode cX1_firstAt 18 = .ok (.goto 4, 3) := by decide +kernel
theorem dX1_firstAt_21 : decode cX1_firstAt 21 = .ok (.iconst (-1), 1) := by decide +kernel
theorem dX1_firstAt_22 : decode cX1_firstAt 22 = .ok (.ireturn, 1) := by decide +kernel
theorem dX1_secondAt_0 : decode cX1_secondAt 0 = .ok (.iload_n 1, 1) := by decide +kernel
theorem dX1_secondAt_1 : decode cX1_secondAt 1 = .ok (.ifCond .lt 20, 3) := by decide +kernel
theorem dX1_secondAt_4 : decode cX1_secondAt 4 = .ok (.iload_n 1, 1) := by decide +kernel
theorem dX1_secondAt_5 : decode cX1_secondAt 5 = .ok (.aload_n 0, 1) := by decide +kernel
theorem dX1_secondAt_6 : decode cX1_secondAt 6 = .ok (.getfield 7, 3) := by decide +kernel
theorem dX1_secondAt_9 : decode cX1_secondAt 9 = .ok (.if_icmp .ge 12, 3) := by decide +kernel
theorem dX1_secondAt_12 : decode cX1_secondAt 12 = .ok (.aload_n 0, 1) := by decide +kernel
theorem dX1_secondAt_13 : decode cX1_secondAt 13 = .ok (.getfield 20, 3) := by decide +kernel
theorem dX1_secondAt_16 : decode cX1_secondAt 16 = .ok (.iload_n 1, 1) := by decide +kernel
theorem dX1_secondAt_17 : decode cX1_secondAt 17 = .ok (.iaload, 1) := by decide +kernel
theorem dX1_secondAt_18 : decode cX1_secondAt 18 = .ok (.goto 4, 3) := by decide +kernel
theorem dX1_secondAt_21 : decode cX1_secondAt 21 = .ok (.iconst (-1), 1) := by decide +kernel
theorem dX1_secondAt_22 : decode cX1_secondAt 22 = .ok (.ireturn, 1) := by decide +kernel
