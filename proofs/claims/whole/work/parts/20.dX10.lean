theorem dX10_addToTape_0 : decode cX10_addToTape 0 = .ok (.bipush 24, 2) := by decide +kernel
theorem dX10_addToTape_2 : decode cX10_addToTape 2 = .ok (.istore_n 2, 1) := by decide +kernel
theorem dX10_addToTape_3 : decode cX10_addToTape 3 = .ok (.iload_n 2, 1) := by decide +kernel
theorem dX10_addToTape_4 : decode cX10_addToTape 4 = .ok (.ifCond .lt 49, 3) := by decide +kernel
theorem dX10_addToTape_7 : decode cX10_addToTape 7 = .ok (.aload_n 0, 1) := by decide +kernel
theorem dX10_addToTape_8 : decode cX10_addToTape 8 = .ok (.getfield 34, 3) := by decide +kernel
theorem dX10_addToTape_11 : decode cX10_addToTape 11 = .ok (.ifCond .lt 36, 3) := by decide +kernel
theorem dX10_addToTape_14 : decode cX10_addToTape 14 = .ok (.aload_n 0, 1) := by decide +kernel
theorem dX10_addToTape_15 : decode cX10_addToTape 15 = .ok (.getfield 34, 3) := by decide +kernel
theorem dX10_addToTape_18 : decode cX10_addToTape 18 = .ok (.sipush 1000, 3) := by decide +kernel
theorem dX10_addToTape_21 : decode cX10_addToTape 21 = .ok (.if_icmp .ge 26, 3) := by decide +kernel
theorem dX10_addToTape_24 : decode cX10_addToTape 24 = .ok (.aload_n 0, 1) := by decide +kernel
theorem dX10_addToTape_25 : decode cX10_addToTape 25 = .ok (.getfield 9, 3) := by decide +kernel
theorem dX10_addToTape_28 : decode cX10_addToTape 28 = .ok (.aload_n 0, 1) := by decide +kernel
theorem dX10_addToTape_29 : decode cX10_addToTape 29 = .ok (.getfield 34, 3) := by decide +kernel
theorem dX10_addToTape_32 : decode cX10_addToTape 32 = .ok (.iload_n 1, 1) := by decide +kernel
theorem dX10_addToTape_33 : decode cX10_addToTape 33 = .ok (.iload_n 2, 1) := by decide +kernel
theorem dX10_addToTape_34 : decode cX10_addToTape 34 = .ok (.ishr, 1) := by decide +kernel
theorem dX10_addToTape_35 : decode cX10_addToTape 35 = .ok (.i2b, 1) := by decide +kernel
theorem dX10_addToTape_36 : decode cX10_addToTape 36 = .ok (.bastore, 1) := by decide +kernel
theorem dX10_addToTape_37 : decode cX10_addToTape 37 = .ok (.aload_n 0, 1) := by decide +kernel
theorem dX10_addToTape_38 : decode cX10_addToTape 38 = .ok (.dup, 1) := by decide +kernel
theorem dX10_addToTape_39 : decode cX10_addToTape 39 = .ok (.getfield 34, 3) := by decide +kernel
theorem dX10_addToTape_42 : decode cX10_addToTape 42 = .ok (.iconst 1, 1) := by decide +kernel
theorem dX10_addToTape_43 : decode cX10_addToTape 43 = .ok (.iadd, 1) := by decide +kernel
theorem dX10_addToTape_44 : decode cX10_addToTape 44 = .ok (.putfield 34, 3) := by decide +kernel
theorem dX10_addToTape_47 : decode cX10_addToTape 47 = .ok (.iinc 2 (-8), 3) := by decide +kernel
theorem dX10_addToTape_50 : decode cX10_addToTape 50 = .ok (.goto (-47), 3) := by decide +kernel
theorem dX10_addToTape_53 : decode cX10_addToTape 53 = .ok (.return_, 1) := by decide +kernel
theorem dX10_count_0 : decode cX10_count 0 = .ok (.iload_n 1, 1) := by decide +kernel
theorem dX10_count_1 : decode cX10_count 1 = .ok (.ifCond .lt 9, 3) := by decide +kernel
theorem dX10_count_4 : decode cX10_count 4 = .ok (.iload_n 1, 1) := by decide +kernel
theorem dX10_count_5 : decode cX10_count 5 = .ok (.bipush 8, 2) := by decide +kernel
theorem dX10_count_7 : decode cX10_count 7 = .ok (.if_icmp .le 13, 3) := by decide +kernel
theorem dX10_count_10 : decode cX10_count 10 = .ok (.new 52, 3) := by decide +kernel
theorem dX10_count_13 : decode cX10_count 13 = .ok (.dup, 1) := by decide +kernel
theorem dX10_count_14 : decode cX10_count 14 = .ok (.ldc 211, 2) := by decide +kernel
theorem dX10_count_16 : decode cX10_count 16 = .ok (.invokespecial 56, 3) := by decide +kernel
theorem dX10_count_19 : decode cX10_count 19 = .ok (.athrow, 1) := by decide +kernel
theorem dX10_count_20 : decode cX10_count 20 = .ok (.iload_n 1, 1) := by decide +kernel
theorem dX10_count_21 : decode cX10_count 21 = .ok (.ifCond .ne 10, 3) := by decide +kernel
theorem dX10_count_24 : decode cX10_count 24 = .ok (.aload_n 0, 1) := by decide +kernel
theorem dX10_count_25 : decode cX10_count 25 = .ok (.getfield 34, 3) := by decide +kernel
theorem dX10_count_28 : decode cX10_count 28 = .ok (.goto 11, 3) := by decide +kernel
theorem dX10_count_31 : decode cX10_count 31 = .ok (.aload_n 0, 1) := by decide +kernel
theorem dX10_count_32 : decode cX10_count 32 = .ok (.getfield 23, 3) := by decide +kernel
theorem dX10_count_35 : decode cX10_count 35 = .ok (.iload_n 1, 1) := by decide +kernel
theorem dX10_count_36 : decode cX10_count 36 = .ok (.invokevirtual 213, 3) := by decide +kernel
theorem dX10_count_39 : decode cX10_count 39 = .ok (.ireturn, 1) := by decide +kernel
theorem dX10_end_0 : decode cX10_end 0 = .ok (.iload_n 1, 1) := by decide +kernel
theorem dX10_end_1 : decode cX10_end 1 = .ok (.ifCond .lt 11, 3) := by decide +kernel
theorem dX10_end_4 : decode cX10_end 4 = .ok (.iload_n 1, 1) := by decide +kernel
theorem dX10_end_5 : decode cX10_end 5 = .ok (.aload_n 0, 1) := by decide +kernel
theorem dX10_end_6 : decode cX10_end 6 = .ok (.getfield 34, 3) := by decide +kernel
theorem dX10_end_9 : decode cX10_end 9 = .ok (.if_icmp .le 13, 3) := by decide +kernel
theorem dX10_end_12 : decode cX10_end 12 = .ok (.new 52, 3) := by decide +kernel
theorem dX10_end_15 : decode cX10_end 15 = .ok (.dup, 1) := by decide +kernel
theorem dX10_end_16 : decode cX10_end 16 = .ok (.ldc 54, 2) := by decide +kernel
theorem dX10_end_18 : decode cX10_end 18 = .ok (.invokespecial 56, 3) := by decide +kernel
theorem dX10_end_21 : decode cX10_end 21 = .ok (.athrow, 1) := by decide +kernel
theorem dX10_end_22 : decode cX10_end 22 = .ok (.aload_n 0, 1) := by decide +kernel
theorem dX10_end_23 : decode cX10_end 23 = .ok (.iload_n 1, 1) := by decide +kernel
theorem dX10_end_24 : decode cX10_end 24 = .ok (.putfield 34, 3) := by decide +kernel
theorem dX10_end_27 : decode cX10_end 27 = .ok (.iload_n 1, 1) := by decide +kernel
theorem dX10_end_28 : decode cX10_end 28 = .ok (.ireturn, 1) := by decide +kernel
theorem dX10_feed_0 : decode cX10_feed 0 = .ok (.aload_n 0, 1) := by decide +kernel
theorem dX10_feed_1 : decode cX10_feed 1 = .ok (.getfield 34, 3) := by decide +kernel
theorem dX10_feed_4 : decode cX10_feed 4 = .ok (.sipush 980, 3) := by decide +kernel
theorem dX10_feed_7 : decode cX10_feed 7 = .ok (.if_icmp .le 13, 3) := by decide +kernel
theorem dX10_feed_10 : decode cX10_feed 10 = .ok (.new 41, 3) := by decide +kernel
theorem dX10_feed_13 : decode cX10_feed 13 = .ok (.dup, 1) := by decide +kernel
theorem dX10_feed_14 : decode cX10_feed 14 = .ok (.ldc 43, 2) := by decide +kernel
theorem dX10_feed_16 : decode cX10_feed 16 = .ok (.invokespecial 45, 3) := by decide +kernel
theorem dX10_feed_19 : decode cX10_feed 19 = .ok (.athrow, 1) := by decide +kernel
theorem dX10_feed_20 : decode cX10_feed 20 = .ok (.aload_n 0, 1) := by decide +kernel
theorem dX10_feed_21 : decode cX10_feed 21 = .ok (.iload_n 1, 1) := by decide +kernel
theorem dX10_feed_22 : decode cX10_feed 22 = .ok (.invokevirtual 48, 3) := by decide +kernel
theorem dX10_feed_25 : decode cX10_feed 25 = .ok (.aload_n 0, 1) := by decide +kernel
theorem dX10_feed_26 : decode cX10_feed 26 = .ok (.iload_n 2, 1) := by decide +kernel
theorem dX10_feed_27 : decode cX10_feed 27 = .ok (.invokevirtual 48, 3) := by decide +kernel
theorem dX10_feed_30 : decode cX10_feed 30 = .ok (.aload_n 0, 1) := by decide +kernel
theorem dX10_feed_31 : decode cX10_feed 31 = .ok (.iload_n 3, 1) := by decide +kernel
theorem dX10_feed_32 : decode cX10_feed 32 = .ok (.invokevirtual 48, 3) := by decide +kernel
theorem dX10_feed_35 : decode cX10_feed 35 = .ok (.aload_n 0, 1) := by decide +kernel
theorem dX10_feed_36 : decode cX10_feed 36 = .ok (.iload 4, 2) := by decide +kernel
theorem dX10_feed_38 : decode cX10_feed 38 = .ok (.invokevirtual 48, 3) := by decide +kernel
theorem dX10_feed_41 : decode cX10_feed 41 = .ok (.aload_n 0, 1) := by decide +kernel
theorem dX10_feed_42 : decode cX10_feed 42 = .ok (.iload 5, 2) := by decide +kernel
theorem dX10_feed_44 : decode cX10_feed 44 = .ok (.invokevirtual 48, 3) := by decide +kernel
theorem dX10_feed_47 : decode cX10_feed 47 = .ok (.aload_n 0, 1) := by decide +kernel
theorem dX10_feed_48 : decode cX10_feed 48 = .ok (.getfield 34, 3) := by decide +kernel
theorem dX10_feed_51 : decode cX10_feed 51 = .ok (.ireturn, 1) := by decide +kernel
theorem dX10_had_0 : decode cX10_had 0 = .ok (.iload_n 1, 1) := by decide +kernel
theorem dX10_had_1 : decode cX10_had 1 = .ok (.ifCond .lt 27, 3) := by decide +kernel
theorem dX10_had_4 : decode cX10_had 4 = .ok (.iload_n 1, 1) := by decide +kernel
theorem dX10_had_5 : decode cX10_had 5 = .ok (.bipush 26, 2) := by decide +kernel
theorem dX10_had_7 : decode cX10_had 7 = .ok (.if_icmp .ge 21, 3) := by decide +kernel
theorem dX10_had_10 : decode cX10_had 10 = .ok (.iload_n 2, 1) := by decide +kernel
theorem dX10_had_11 : decode cX10_had 11 = .ok (.ifCond .lt 17, 3) := by decide +kernel
theorem dX10_had_14 : decode cX10_had 14 = .ok (.iload_n 2, 1) := by decide +kernel
theorem dX10_had_15 : decode cX10_had 15 = .ok (.aload_n 0, 1) := by decide +kernel
theorem dX10_had_16 : decode cX10_had 16 = .ok (.getfield 23, 3) := by decide +kernel
theorem dX10_had_19 : decode cX10_had 19 = .ok (.getfield 110, 3) := by decide +kernel
theorem dX10_had_22 : decode cX10_had 22 = .ok (.getfield 122, 3) := by decide +kernel
theorem dX10_had_25 : decode cX10_had 25 = .ok (.if_icmp .le 13, 3) := by decide +kernel
theorem dX10_had_28 : decode cX10_had 28 = .ok (.new 52, 3) := by decide +kernel
theorem dX10_had_31 : decode cX10_had 31 = .ok (.dup, 1) := by decide +kernel
theorem dX10_had_32 : decode cX10_had 32 = .ok (.ldc 154, 2) := by decide +kernel
theorem dX10_had_34 : decode cX10_had 34 = .ok (.invokespecial 56, 3) := by decide +kernel
theorem dX10_had_37 : decode cX10_had 37 = .ok (.athrow, 1) := by decide +kernel
theorem dX10_had_38 : decode cX10_had 38 = .ok (.aload_n 0, 1) := by decide +kernel
theorem dX10_had_39 : decode cX10_had 39 = .ok (.getfield 23, 3) := by decide +kernel
theorem dX10_had_42 : decode cX10_had 42 = .ok (.getfield 110, 3) := by decide +kernel
theorem dX10_had_45 : decode cX10_had 45 = .ok (.iload_n 1, 1) := by decide +kernel
theorem dX10_had_46 : decode cX10_had 46 = .ok (.iload_n 2, 1) := by decide +kernel
theorem dX10_had_47 : decode cX10_had 47 = .ok (.invokevirtual 156, 3) := by decide +kernel
theorem dX10_had_50 : decode cX10_had 50 = .ok (.ireturn, 1) := by decide +kernel
theorem dX10_has_0 : decode cX10_has 0 = .ok (.iload_n 1, 1) := by decide +kernel
theorem dX10_has_1 : decode cX10_has 1 = .ok (.ifCond .lt 9, 3) := by decide +kernel
theorem dX10_has_4 : decode cX10_has 4 = .ok (.iload_n 1, 1) := by decide +kernel
theorem dX10_has_5 : decode cX10_has 5 = .ok (.bipush 26, 2) := by decide +kernel
theorem dX10_has_7 : decode cX10_has 7 = .ok (.if_icmp .lt 13, 3) := by decide +kernel
theorem dX10_has_10 : decode cX10_has 10 = .ok (.new 52, 3) := by decide +kernel
theorem dX10_has_13 : decode cX10_has 13 = .ok (.dup, 1) := by decide +kernel
theorem dX10_has_14 : decode cX10_has 14 = .ok (.ldc 108, 2) := by decide +kernel
theorem dX10_has_16 : decode cX10_has 16 = .ok (.invokespecial 56, 3) := by decide +kernel
theorem dX10_has_19 : decode cX10_has 19 = .ok (.athrow, 1) := by decide +kernel
theorem dX10_has_20 : decode cX10_has 20 = .ok (.aload_n 0, 1) := by decide +kernel
theorem dX10_has_21 : decode cX10_has 21 = .ok (.getfield 23, 3) := by decide +kernel
theorem dX10_has_24 : decode cX10_has 24 = .ok (.getfield 110, 3) := by decide +kernel
theorem dX10_has_27 : decode cX10_has 27 = .ok (.getfield 151, 3) := by decide +kernel
theorem dX10_has_30 : decode cX10_has 30 = .ok (.iload_n 1, 1) := by decide +kernel
theorem dX10_has_31 : decode cX10_has 31 = .ok (.iaload, 1) := by decide +kernel
theorem dX10_has_32 : decode cX10_has 32 = .ok (.ireturn, 1) := by decide +kernel
theorem dX10_init_0 : decode cX10_init 0 = .ok (.aload_n 0, 1) := by decide +kernel
theorem dX10_init_1 : decode cX10_init 1 = .ok (.invokespecial 1, 3) := by decide +kernel
theorem dX10_init_4 : decode cX10_init 4 = .ok (.aload_n 0, 1) := by decide +kernel
theorem dX10_init_5 : decode cX10_init 5 = .ok (.sipush 1000, 3) := by decide +kernel
theorem dX10_init_8 : decode cX10_init 8 = .ok (.newarray .byte, 2) := by decide +kernel
theorem dX10_init_10 : decode cX10_init 10 = .ok (.putfield 9, 3) := by decide +kernel
theorem dX10_init_13 : decode cX10_init 13 = .ok (.aload_n 0, 1) := by decide +kernel
theorem dX10_init_14 : decode cX10_init 14 = .ok (.new 13, 3) := by decide +kernel
theorem dX10_init_17 : decode cX10_init 17 = .ok (.dup, 1) := by decide +kernel
theorem dX10_init_18 : decode cX10_init 18 = .ok (.invokespecial 15, 3) := by decide +kernel
theorem dX10_init_21 : decode cX10_init 21 = .ok (.putfield 16, 3) := by decide +kernel
theorem dX10_init_24 : decode cX10_init 24 = .ok (.aload_n 0, 1) := by decide +kernel
theorem dX10_init_25 : decode cX10_init 25 = .ok (.new 20, 3) := by decide +kernel
theorem dX10_init_28 : decode cX10_init 28 = .ok (.dup, 1) := by decide +kernel
theorem dX10_init_29 : decode cX10_init 29 = .ok (.invokespecial 22, 3) := by decide +kernel
theorem dX10_init_32 : decode cX10_init 32 = .ok (.putfield 23, 3) := by decide +kernel
theorem dX10_init_35 : decode cX10_init 35 = .ok (.aload_n 0, 1) := by decide +kernel
theorem dX10_init_36 : decode cX10_init 36 = .ok (.new 27, 3) := by decide +kernel
theorem dX10_init_39 : decode cX10_init 39 = .ok (.dup, 1) := by decide +kernel
theorem dX10_init_40 : decode cX10_init 40 = .ok (.invokespecial 29, 3) := by decide +kernel
theorem dX10_init_43 : decode cX10_init 43 = .ok (.putfield 30, 3) := by decide +kernel
theorem dX10_init_46 : decode cX10_init 46 = .ok (.aload_n 0, 1) := by decide +kernel
theorem dX10_init_47 : decode cX10_init 47 = .ok (.iconst 0, 1) := by decide +kernel
theorem dX10_init_48 : decode cX10_init 48 = .ok (.putfield 34, 3) := by decide +kernel
theorem dX10_init_51 : decode cX10_init 51 = .ok (.aload_n 0, 1) := by decide +kernel
theorem dX10_init_52 : decode cX10_init 52 = .ok (.iconst (-1), 1) := by decide +kernel
theorem dX10_init_53 : decode cX10_init 53 = .ok (.putfield 38, 3) := by decide +kernel
theorem dX10_init_56 : decode cX10_init 56 = .ok (.return_, 1) := by decide +kernel
theorem dX10_judge_0 : decode cX10_judge 0 = .ok (.aload_n 0, 1) := by decide +kernel
theorem dX10_judge_1 : decode cX10_judge 1 = .ok (.getfield 30, 3) := by decide +kernel
theorem dX10_judge_4 : decode cX10_judge 4 = .ok (.aload_n 0, 1) := by decide +kernel
theorem dX10_judge_5 : decode cX10_judge 5 = .ok (.getfield 23, 3) := by decide +kernel
theorem dX10_judge_8 : decode cX10_judge 8 = .ok (.getfield 186, 3) := by decide +kernel
theorem dX10_judge_11 : decode cX10_judge 11 = .ok (.aload_n 0, 1) := by decide +kernel
theorem dX10_judge_12 : decode cX10_judge 12 = .ok (.getfield 23, 3) := by decide +kernel
theorem dX10_judge_15 : decode cX10_judge 15 = .ok (.getfield 110, 3) := by decide +kernel
theorem dX10_judge_18 : decode cX10_judge 18 = .ok (.invokevirtual 190, 3) := by decide +kernel
theorem dX10_judge_21 : decode cX10_judge 21 = .ok (.ireturn, 1) := by decide +kernel
theorem dX10_look_0 : decode cX10_look 0 = .ok (.iload_n 1, 1) := by decide +kernel
theorem dX10_look_1 : decode cX10_look 1 = .ok (.ifCond .lt 19, 3) := by decide +kernel
theorem dX10_look_4 : decode cX10_look 4 = .ok (.iload_n 1, 1) := by decide +kernel
theorem dX10_look_5 : decode cX10_look 5 = .ok (.bipush 6, 2) := by decide +kernel
theorem dX10_look_7 : decode cX10_look 7 = .ok (.if_icmp .ge 13, 3) := by decide +kernel
theorem dX10_look_10 : decode cX10_look 10 = .ok (.iload_n 2, 1) := by decide +kernel
theorem dX10_look_11 : decode cX10_look 11 = .ok (.ifCond .lt 9, 3) := by decide +kernel
theorem dX10_look_14 : decode cX10_look 14 = .ok (.iload_n 2, 1) := by decide +kernel
theorem dX10_look_15 : decode cX10_look 15 = .ok (.bipush 7, 2) := by decide +kernel
theorem dX10_look_17 : decode cX10_look 17 = .ok (.if_icmp .le 13, 3) := by decide +kernel
theorem dX10_look_20 : decode cX10_look 20 = .ok (.new 52, 3) := by decide +kernel
theorem dX10_look_23 : decode cX10_look 23 = .ok (.dup, 1) := by decide +kernel
theorem dX10_look_24 : decode cX10_look 24 = .ok (.ldc 180, 2) := by decide +kernel
theorem dX10_look_26 : decode cX10_look 26 = .ok (.invokespecial 56, 3) := by decide +kernel
theorem dX10_look_29 : decode cX10_look 29 = .ok (.athrow, 1) := by decide +kernel
theorem dX10_look_30 : decode cX10_look 30 = .ok (.aload_n 0, 1) := by decide +kernel
theorem dX10_look_31 : decode cX10_look 31 = .ok (.getfield 23, 3) := by decide +kernel
theorem dX10_look_34 : decode cX10_look 34 = .ok (.getfield 67, 3) := by decide +kernel
theorem dX10_look_37 : decode cX10_look 37 = .ok (.iload_n 1, 1) := by decide +kernel
theorem dX10_look_38 : decode cX10_look 38 = .ok (.aaload, 1) := by decide +kernel
theorem dX10_look_39 : decode cX10_look 39 = .ok (.iload_n 2, 1) := by decide +kernel
theorem dX10_look_40 : decode cX10_look 40 = .ok (.invokevirtual 182, 3) := by decide +kernel
theorem dX10_look_43 : decode cX10_look 43 = .ok (.ireturn, 1) := by decide +kernel
theorem dX10_order_0 : decode cX10_order 0 = .ok (.iload_n 1, 1) := by decide +kernel
theorem dX10_order_1 : decode cX10_order 1 = .ok (.ifCond .lt 20, 3) := by decide +kernel
theorem dX10_order_4 : decode cX10_order 4 = .ok (.iload_n 1, 1) := by decide +kernel
theorem dX10_order_5 : decode cX10_order 5 = .ok (.aload_n 0, 1) := by decide +kernel
theorem dX10_order_6 : decode cX10_order 6 = .ok (.getfield 30, 3) := by decide +kernel
theorem dX10_order_9 : decode cX10_order 9 = .ok (.getfield 194, 3) := by decide +kernel
theorem dX10_order_12 : decode cX10_order 12 = .ok (.if_icmp .ge 9, 3) := by decide +kernel
theorem dX10_order_15 : decode cX10_order 15 = .ok (.iload_n 1, 1) := by decide +kernel
theorem dX10_order_16 : decode cX10_order 16 = .ok (.bipush 14, 2) := by decide +kernel
theorem dX10_order_18 : decode cX10_order 18 = .ok (.if_icmp .lt 13, 3) := by decide +kernel
theorem dX10_order_21 : decode cX10_order 21 = .ok (.new 41, 3) := by decide +kernel
theorem dX10_order_24 : decode cX10_order 24 = .ok (.dup, 1) := by decide +kernel
theorem dX10_order_25 : decode cX10_order 25 = .ok (.ldc 197, 2) := by decide +kernel
theorem dX10_order_27 : decode cX10_order 27 = .ok (.invokespecial 45, 3) := by decide +kernel
theorem dX10_order_30 : decode cX10_order 30 = .ok (.athrow, 1) := by decide +kernel
theorem dX10_order_31 : decode cX10_order 31 = .ok (.aload_n 0, 1) := by decide +kernel
theorem dX10_order_32 : decode cX10_order 32 = .ok (.getfield 30, 3) := by decide +kernel
theorem dX10_order_35 : decode cX10_order 35 = .ok (.getfield 199, 3) := by decide +kernel
theorem dX10_order_38 : decode cX10_order 38 = .ok (.iload_n 1, 1) := by decide +kernel
theorem dX10_order_39 : decode cX10_order 39 = .ok (.iaload, 1) := by decide +kernel
theorem dX10_order_40 : decode cX10_order 40 = .ok (.ireturn, 1) := by decide +kernel
theorem dX10_place_0 : decode cX10_place 0 = .ok (.aload_n 0, 1) := by decide +kernel
theorem dX10_place_1 : decode cX10_place 1 = .ok (.getfield 38, 3) := by decide +kernel
theorem dX10_place_4 : decode cX10_place 4 = .ok (.ireturn, 1) := by decide +kernel
theorem dX10_program_0 : decode cX10_program 0 = .ok (.aload_n 0, 1) := by decide +kernel
theorem dX10_program_1 : decode cX10_program 1 = .ok (.getfield 34, 3) := by decide +kernel
theorem dX10_program_4 : decode cX10_program 4 = .ok (.istore_n 2, 1) := by decide +kernel
theorem dX10_program_5 : decode cX10_program 5 = .ok (.aload_n 0, 1) := by decide +kernel
theorem dX10_program_6 : decode cX10_program 6 = .ok (.iconst 0, 1) := by decide +kernel
theorem dX10_program_7 : decode cX10_program 7 = .ok (.putfield 34, 3) := by decide +kernel
theorem dX10_program_10 : decode cX10_program 10 = .ok (.iload_n 1, 1) := by decide +kernel
theorem dX10_program_11 : decode cX10_program 11 = .ok (.ifCond .lt 9, 3) := by decide +kernel
theorem dX10_program_14 : decode cX10_program 14 = .ok (.iload_n 1, 1) := by decide +kernel
theorem dX10_program_15 : decode cX10_program 15 = .ok (.bipush 6, 2) := by decide +kernel
theorem dX10_program_17 : decode cX10_program 17 = .ok (.if_icmp .lt 13, 3) := by decide +kernel
theorem dX10_program_20 : decode cX10_program 20 = .ok (.new 52, 3) := by decide +kernel
theorem dX10_program_23 : decode cX10_program 23 = .ok (.dup, 1) := by decide +kernel
theorem dX10_program_24 : decode cX10_program 24 = .ok (.ldc 65, 2) := by decide +kernel
theorem dX10_program_26 : decode cX10_program 26 = .ok (.invokespecial 56, 3) := by decide +kernel
theorem dX10_program_29 : decode cX10_program 29 = .ok (.athrow, 1) := by decide +kernel
theorem dX10_program_30 : decode cX10_program 30 = .ok (.aload_n 0, 1) := by decide +kernel
theorem dX10_program_31 : decode cX10_program 31 = .ok (.getfield 23, 3) := by decide +kernel
theorem dX10_program_34 : decode cX10_program 34 = .ok (.getfield 67, 3) := by decide +kernel
theorem dX10_program_37 : decode cX10_program 37 = .ok (.iload_n 1, 1) := by decide +kernel
theorem dX10_program_38 : decode cX10_program 38 = .ok (.aaload, 1) := by decide +kernel
theorem dX10_program_39 : decode cX10_program 39 = .ok (.astore_n 3, 1) := by decide +kernel
theorem dX10_program_40 : decode cX10_program 40 = .ok (.aload_n 3, 1) := by decide +kernel
theorem dX10_program_41 : decode cX10_program 41 = .ok (.getfield 71, 3) := by decide +kernel
theorem dX10_program_44 : decode cX10_program 44 = .ok (.iconst 2, 1) := by decide +kernel
theorem dX10_program_45 : decode cX10_program 45 = .ok (.if_icmp .ne 13, 3) := by decide +kernel
theorem dX10_program_48 : decode cX10_program 48 = .ok (.new 76, 3) := by decide +kernel
theorem dX10_program_51 : decode cX10_program 51 = .ok (.dup, 1) := by decide +kernel
theorem dX10_program_52 : decode cX10_program 52 = .ok (.ldc 78, 2) := by decide +kernel
theorem dX10_program_54 : decode cX10_program 54 = .ok (.invokespecial 80, 3) := by decide +kernel
theorem dX10_program_57 : decode cX10_program 57 = .ok (.athrow, 1) := by decide +kernel
theorem dX10_program_58 : decode cX10_program 58 = .ok (.aload_n 0, 1) := by decide +kernel
theorem dX10_program_59 : decode cX10_program 59 = .ok (.getfield 16, 3) := by decide +kernel
theorem dX10_program_62 : decode cX10_program 62 = .ok (.aload_n 0, 1) := by decide +kernel
theorem dX10_program_63 : decode cX10_program 63 = .ok (.getfield 9, 3) := by decide +kernel
theorem dX10_program_66 : decode cX10_program 66 = .ok (.iload_n 2, 1) := by decide +kernel
theorem dX10_program_67 : decode cX10_program 67 = .ok (.invokevirtual 81, 3) := by decide +kernel
theorem dX10_program_70 : decode cX10_program 70 = .ok (.ifCond .ne 24, 3) := by decide +kernel
theorem dX10_program_73 : decode cX10_program 73 = .ok (.aload_n 0, 1) := by decide +kernel
theorem dX10_program_74 : decode cX10_program 74 = .ok (.aload_n 0, 1) := by decide +kernel
theorem dX10_program_75 : decode cX10_program 75 = .ok (.getfield 16, 3) := by decide +kernel
theorem dX10_program_78 : decode cX10_program 78 = .ok (.getfield 85, 3) := by decide +kernel
theorem dX10_program_81 : decode cX10_program 81 = .ok (.putfield 38, 3) := by decide +kernel
theorem dX10_program_84 : decode cX10_program 84 = .ok (.new 86, 3) := by decide +kernel
theorem dX10_program_87 : decode cX10_program 87 = .ok (.dup, 1) := by decide +kernel
theorem dX10_program_88 : decode cX10_program 88 = .ok (.ldc 88, 2) := by decide +kernel
theorem dX10_program_90 : decode cX10_program 90 = .ok (.invokespecial 90, 3) := by decide +kernel
theorem dX10_program_93 : decode cX10_program 93 = .ok (.athrow, 1) := by decide +kernel
theorem dX10_program_94 : decode cX10_program 94 = .ok (.aload_n 0, 1) := by decide +kernel
theorem dX10_program_95 : decode cX10_program 95 = .ok (.iconst (-1), 1) := by decide +kernel
theorem dX10_program_96 : decode cX10_program 96 = .ok (.putfield 38, 3) := by decide +kernel
theorem dX10_program_99 : decode cX10_program 99 = .ok (.aload_n 3, 1) := by decide +kernel
theorem dX10_program_100 : decode cX10_program 100 = .ok (.aload_n 0, 1) := by decide +kernel
theorem dX10_program_101 : decode cX10_program 101 = .ok (.getfield 16, 3) := by decide +kernel
theorem dX10_program_104 : decode cX10_program 104 = .ok (.getfield 91, 3) := by decide +kernel
theorem dX10_program_107 : decode cX10_program 107 = .ok (.invokevirtual 95, 3) := by decide +kernel
theorem dX10_program_110 : decode cX10_program 110 = .ok (.putfield 101, 3) := by decide +kernel
theorem dX10_program_113 : decode cX10_program 113 = .ok (.aload_n 3, 1) := by decide +kernel
theorem dX10_program_114 : decode cX10_program 114 = .ok (.invokevirtual 102, 3) := by decide +kernel
theorem dX10_program_117 : decode cX10_program 117 = .ok (.aload_n 3, 1) := by decide +kernel
theorem dX10_program_118 : decode cX10_program 118 = .ok (.getfield 101, 3) := by decide +kernel
theorem dX10_program_121 : decode cX10_program 121 = .ok (.getfield 105, 3) := by decide +kernel
theorem dX10_program_124 : decode cX10_program 124 = .ok (.ireturn, 1) := by decide +kernel
theorem dX10_put_0 : decode cX10_put 0 = .ok (.iload_n 1, 1) := by decide +kernel
theorem dX10_put_1 : decode cX10_put 1 = .ok (.ifCond .lt 9, 3) := by decide +kernel
theorem dX10_put_4 : decode cX10_put 4 = .ok (.iload_n 1, 1) := by decide +kernel
theorem dX10_put_5 : decode cX10_put 5 = .ok (.bipush 26, 2) := by decide +kernel
theorem dX10_put_7 : decode cX10_put 7 = .ok (.if_icmp .lt 13, 3) := by decide +kernel
theorem dX10_put_10 : decode cX10_put 10 = .ok (.new 52, 3) := by decide +kernel
theorem dX10_put_13 : decode cX10_put 13 = .ok (.dup, 1) := by decide +kernel
theorem dX10_put_14 : decode cX10_put 14 = .ok (.ldc 108, 2) := by decide +kernel
theorem dX10_put_16 : decode cX10_put 16 = .ok (.invokespecial 56, 3) := by decide +kernel
theorem dX10_put_19 : decode cX10_put 19 = .ok (.athrow, 1) := by decide +kernel
theorem dX10_put_20 : decode cX10_put 20 = .ok (.aload_n 0, 1) := by decide +kernel
theorem dX10_put_21 : decode cX10_put 21 = .ok (.getfield 23, 3) := by decide +kernel
theorem dX10_put_24 : decode cX10_put 24 = .ok (.getfield 110, 3) := by decide +kernel
theorem dX10_put_27 : decode cX10_put 27 = .ok (.astore_n 3, 1) := by decide +kernel
theorem dX10_put_28 : decode cX10_put 28 = .ok (.aload_n 3, 1) := by decide +kernel
theorem dX10_put_29 : decode cX10_put 29 = .ok (.getfield 114, 3) := by decide +kernel
theorem dX10_put_32 : decode cX10_put 32 = .ok (.iload_n 1, 1) := by decide +kernel
theorem dX10_put_33 : decode cX10_put 33 = .ok (.iaload, 1) := by decide +kernel
theorem dX10_put_34 : decode cX10_put 34 = .ok (.iconst (-1), 1) := by decide +kernel
theorem dX10_put_35 : decode cX10_put 35 = .ok (.if_icmp .eq 13, 3) := by decide +kernel
theorem dX10_put_38 : decode cX10_put 38 = .ok (.new 76, 3) := by decide +kernel
theorem dX10_put_41 : decode cX10_put 41 = .ok (.dup, 1) := by decide +kernel
theorem dX10_put_42 : decode cX10_put 42 = .ok (.ldc 120, 2) := by decide +kernel
theorem dX10_put_44 : decode cX10_put 44 = .ok (.invokespecial 80, 3) := by decide +kernel
theorem dX10_put_47 : decode cX10_put 47 = .ok (.athrow, 1) := by decide +kernel
theorem dX10_put_48 : decode cX10_put 48 = .ok (.aload_n 3, 1) := by decide +kernel
theorem dX10_put_49 : decode cX10_put 49 = .ok (.dup, 1) := by decide +kernel
theorem dX10_put_50 : decode cX10_put 50 = .ok (.getfield 122, 3) := by decide +kernel
theorem dX10_put_53 : decode cX10_put 53 = .ok (.iconst 1, 1) := by decide +kernel
theorem dX10_put_54 : decode cX10_put 54 = .ok (.iadd, 1) := by decide +kernel
theorem dX10_put_55 : decode cX10_put 55 = .ok (.putfield 122, 3) := by decide +kernel
theorem dX10_put_58 : decode cX10_put 58 = .ok (.aload_n 3, 1) := by decide +kernel
theorem dX10_put_59 : decode cX10_put 59 = .ok (.iload_n 1, 1) := by decide +kernel
theorem dX10_put_60 : decode cX10_put 60 = .ok (.iload_n 2, 1) := by decide +kernel
theorem dX10_put_61 : decode cX10_put 61 = .ok (.invokevirtual 125, 3) := by decide +kernel
theorem dX10_put_64 : decode cX10_put 64 = .ok (.aload_n 3, 1) := by decide +kernel
theorem dX10_put_65 : decode cX10_put 65 = .ok (.getfield 129, 3) := by decide +kernel
theorem dX10_put_68 : decode cX10_put 68 = .ok (.iload_n 1, 1) := by decide +kernel
theorem dX10_put_69 : decode cX10_put 69 = .ok (.iload_n 2, 1) := by decide +kernel
theorem dX10_put_70 : decode cX10_put 70 = .ok (.iastore, 1) := by decide +kernel
theorem dX10_put_71 : decode cX10_put 71 = .ok (.aload_n 3, 1) := by decide +kernel
theorem dX10_put_72 : decode cX10_put 72 = .ok (.getfield 122, 3) := by decide +kernel
theorem dX10_put_75 : decode cX10_put 75 = .ok (.ireturn, 1) := by decide +kernel
theorem dX10_record_0 : decode cX10_record 0 = .ok (.iload_n 2, 1) := by decide +kernel
theorem dX10_record_1 : decode cX10_record 1 = .ok (.ifCond .lt 8, 3) := by decide +kernel
theorem dX10_record_4 : decode cX10_record 4 = .ok (.iload_n 2, 1) := by decide +kernel
theorem dX10_record_5 : decode cX10_record 5 = .ok (.iconst 4, 1) := by decide +kernel
theorem dX10_record_6 : decode cX10_record 6 = .ok (.if_icmp .le 13, 3) := by decide +kernel
theorem dX10_record_9 : decode cX10_record 9 = .ok (.new 52, 3) := by decide +kernel
theorem dX10_record_12 : decode cX10_record 12 = .ok (.dup, 1) := by decide +kernel
theorem dX10_record_13 : decode cX10_record 13 = .ok (.ldc 202, 2) := by decide +kernel
theorem dX10_record_15 : decode cX10_record 15 = .ok (.invokespecial 56, 3) := by decide +kernel
theorem dX10_record_18 : decode cX10_record 18 = .ok (.athrow, 1) := by decide +kernel
theorem dX10_record_19 : decode cX10_record 19 = .ok (.iload_n 1, 1) := by decide +kernel
theorem dX10_record_20 : decode cX10_record 20 = .ok (.ifCond .lt 24, 3) := by decide +kernel
theorem dX10_record_23 : decode cX10_record 23 = .ok (.iload_n 1, 1) := by decide +kernel
theorem dX10_record_24 : decode cX10_record 24 = .ok (.aload_n 0, 1) := by decide +kernel
theorem dX10_record_25 : decode cX10_record 25 = .ok (.getfield 23, 3) := by decide +kernel
theorem dX10_record_28 : decode cX10_record 28 = .ok (.getfield 186, 3) := by decide +kernel
theorem dX10_record_31 : decode cX10_record 31 = .ok (.getfield 204, 3) := by decide +kernel
theorem dX10_record_34 : decode cX10_record 34 = .ok (.if_icmp .ge 10, 3) := by decide +kernel
theorem dX10_record_37 : decode cX10_record 37 = .ok (.iload_n 1, 1) := by decide +kernel
theorem dX10_record_38 : decode cX10_record 38 = .ok (.sipush 300, 3) := by decide +kernel
theorem dX10_record_41 : decode cX10_record 41 = .ok (.if_icmp .lt 13, 3) := by decide +kernel
theorem dX10_record_44 : decode cX10_record 44 = .ok (.new 41, 3) := by decide +kernel
theorem dX10_record_47 : decode cX10_record 47 = .ok (.dup, 1) := by decide +kernel
theorem dX10_record_48 : decode cX10_record 48 = .ok (.ldc 207, 2) := by decide +kernel
theorem dX10_record_50 : decode cX10_record 50 = .ok (.invokespecial 45, 3) := by decide +kernel
theorem dX10_record_53 : decode cX10_record 53 = .ok (.athrow, 1) := by decide +kernel
theorem dX10_record_54 : decode cX10_record 54 = .ok (.aload_n 0, 1) := by decide +kernel
theorem dX10_record_55 : decode cX10_record 55 = .ok (.getfield 23, 3) := by decide +kernel
theorem dX10_record_58 : decode cX10_record 58 = .ok (.getfield 186, 3) := by decide +kernel
theorem dX10_record_61 : decode cX10_record 61 = .ok (.iload_n 1, 1) := by decide +kernel
theorem dX10_record_62 : decode cX10_record 62 = .ok (.iload_n 2, 1) := by decide +kernel
theorem dX10_record_63 : decode cX10_record 63 = .ok (.invokevirtual 209, 3) := by decide +kernel
theorem dX10_record_66 : decode cX10_record 66 = .ok (.ireturn, 1) := by decide +kernel
theorem dX10_register_0 : decode cX10_register 0 = .ok (.iload_n 1, 1) := by decide +kernel
theorem dX10_register_1 : decode cX10_register 1 = .ok (.ifCond .lt 19, 3) := by decide +kernel
theorem dX10_register_4 : decode cX10_register 4 = .ok (.iload_n 1, 1) := by decide +kernel
theorem dX10_register_5 : decode cX10_register 5 = .ok (.bipush 6, 2) := by decide +kernel
theorem dX10_register_7 : decode cX10_register 7 = .ok (.if_icmp .ge 13, 3) := by decide +kernel
theorem dX10_register_10 : decode cX10_register 10 = .ok (.iload_n 2, 1) := by decide +kernel
theorem dX10_register_11 : decode cX10_register 11 = .ok (.ifCond .lt 9, 3) := by decide +kernel
theorem dX10_register_14 : decode cX10_register 14 = .ok (.iload_n 2, 1) := by decide +kernel
theorem dX10_register_15 : decode cX10_register 15 = .ok (.bipush 26, 2) := by decide +kernel
theorem dX10_register_17 : decode cX10_register 17 = .ok (.if_icmp .lt 13, 3) := by decide +kernel
theorem dX10_register_20 : decode cX10_register 20 = .ok (.new 52, 3) := by decide +kernel
theorem dX10_register_23 : decode cX10_register 23 = .ok (.dup, 1) := by decide +kernel
theorem dX10_register_24 : decode cX10_register 24 = .ok (.ldc 160, 2) := by decide +kernel
theorem dX10_register_26 : decode cX10_register 26 = .ok (.invokespecial 56, 3) := by decide +kernel
theorem dX10_register_29 : decode cX10_register 29 = .ok (.athrow, 1) := by decide +kernel
theorem dX10_register_30 : decode cX10_register 30 = .ok (.aload_n 0, 1) := by decide +kernel
theorem dX10_register_31 : decode cX10_register 31 = .ok (.getfield 23, 3) := by decide +kernel
theorem dX10_register_34 : decode cX10_register 34 = .ok (.getfield 67, 3) := by decide +kernel
theorem dX10_register_37 : decode cX10_register 37 = .ok (.iload_n 1, 1) := by decide +kernel
theorem dX10_register_38 : decode cX10_register 38 = .ok (.aaload, 1) := by decide +kernel
theorem dX10_register_39 : decode cX10_register 39 = .ok (.getfield 162, 3) := by decide +kernel
theorem dX10_register_42 : decode cX10_register 42 = .ok (.iload_n 2, 1) := by decide +kernel
theorem dX10_register_43 : decode cX10_register 43 = .ok (.iaload, 1) := by decide +kernel
theorem dX10_register_44 : decode cX10_register 44 = .ok (.ireturn, 1) := by decide +kernel
theorem dX10_round_0 : decode cX10_round 0 = .ok (.iload_n 1, 1) := by decide +kernel
theorem dX10_round_1 : decode cX10_round 1 = .ok (.ifCond .lt 10, 3) := by decide +kernel
theorem dX10_round_4 : decode cX10_round 4 = .ok (.iload_n 1, 1) := by decide +kernel
theorem dX10_round_5 : decode cX10_round 5 = .ok (.sipush 2000, 3) := by decide +kernel
theorem dX10_round_8 : decode cX10_round 8 = .ok (.if_icmp .le 13, 3) := by decide +kernel
theorem dX10_round_11 : decode cX10_round 11 = .ok (.new 52, 3) := by decide +kernel
theorem dX10_round_14 : decode cX10_round 14 = .ok (.dup, 1) := by decide +kernel
theorem dX10_round_15 : decode cX10_round 15 = .ok (.ldc 141, 2) := by decide +kernel
theorem dX10_round_17 : decode cX10_round 17 = .ok (.invokespecial 56, 3) := by decide +kernel
theorem dX10_round_20 : decode cX10_round 20 = .ok (.athrow, 1) := by decide +kernel
theorem dX10_round_21 : decode cX10_round 21 = .ok (.iconst 0, 1) := by decide +kernel
theorem dX10_round_22 : decode cX10_round 22 = .ok (.istore_n 2, 1) := by decide +kernel
theorem dX10_round_23 : decode cX10_round 23 = .ok (.iconst 0, 1) := by decide +kernel
theorem dX10_round_24 : decode cX10_round 24 = .ok (.istore_n 3, 1) := by decide +kernel
theorem dX10_round_25 : decode cX10_round 25 = .ok (.iconst 0, 1) := by decide +kernel
theorem dX10_round_26 : decode cX10_round 26 = .ok (.istore 4, 2) := by decide +kernel
theorem dX10_round_28 : decode cX10_round 28 = .ok (.iload 4, 2) := by decide +kernel
theorem dX10_round_30 : decode cX10_round 30 = .ok (.bipush 6, 2) := by decide +kernel
theorem dX10_round_32 : decode cX10_round 32 = .ok (.iload_n 1, 1) := by decide +kernel
theorem dX10_round_33 : decode cX10_round 33 = .ok (.iconst 1, 1) := by decide +kernel
theorem dX10_round_34 : decode cX10_round 34 = .ok (.iadd, 1) := by decide +kernel
theorem dX10_round_35 : decode cX10_round 35 = .ok (.imul, 1) := by decide +kernel
theorem dX10_round_36 : decode cX10_round 36 = .ok (.if_icmp .ge 97, 3) := by decide +kernel
theorem dX10_round_39 : decode cX10_round 39 = .ok (.iload_n 2, 1) := by decide +kernel
theorem dX10_round_40 : decode cX10_round 40 = .ok (.iload_n 1, 1) := by decide +kernel
theorem dX10_round_41 : decode cX10_round 41 = .ok (.if_icmp .ge 92, 3) := by decide +kernel
theorem dX10_round_44 : decode cX10_round 44 = .ok (.aload_n 0, 1) := by decide +kernel
theorem dX10_round_45 : decode cX10_round 45 = .ok (.getfield 23, 3) := by decide +kernel
theorem dX10_round_48 : decode cX10_round 48 = .ok (.getfield 132, 3) := by decide +kernel
theorem dX10_round_51 : decode cX10_round 51 = .ok (.sipush 20000, 3) := by decide +kernel
theorem dX10_round_54 : decode cX10_round 54 = .ok (.if_icmp .ge 14, 3) := by decide +kernel
theorem dX10_round_57 : decode cX10_round 57 = .ok (.iload_n 3, 1) := by decide +kernel
theorem dX10_round_58 : decode cX10_round 58 = .ok (.aload_n 0, 1) := by decide +kernel
theorem dX10_round_59 : decode cX10_round 59 = .ok (.getfield 23, 3) := by decide +kernel
theorem dX10_round_62 : decode cX10_round 62 = .ok (.invokevirtual 143, 3) := by decide +kernel
theorem dX10_round_65 : decode cX10_round 65 = .ok (.if_icmp .lt 5, 3) := by decide +kernel
theorem dX10_round_68 : decode cX10_round 68 = .ok (.iload_n 2, 1) := by decide +kernel
theorem dX10_round_69 : decode cX10_round 69 = .ok (.ireturn, 1) := by decide +kernel
theorem dX10_round_70 : decode cX10_round 70 = .ok (.aload_n 0, 1) := by decide +kernel
theorem dX10_round_71 : decode cX10_round 71 = .ok (.getfield 23, 3) := by decide +kernel
theorem dX10_round_74 : decode cX10_round 74 = .ok (.getfield 67, 3) := by decide +kernel
theorem dX10_round_77 : decode cX10_round 77 = .ok (.iload 4, 2) := by decide +kernel
theorem dX10_round_79 : decode cX10_round 79 = .ok (.bipush 6, 2) := by decide +kernel
theorem dX10_round_81 : decode cX10_round 81 = .ok (.irem, 1) := by decide +kernel
theorem dX10_round_82 : decode cX10_round 82 = .ok (.aaload, 1) := by decide +kernel
theorem dX10_round_83 : decode cX10_round 83 = .ok (.astore 5, 2) := by decide +kernel
theorem dX10_round_85 : decode cX10_round 85 = .ok (.aload 5, 2) := by decide +kernel
theorem dX10_round_87 : decode cX10_round 87 = .ok (.invokevirtual 147, 3) := by decide +kernel
theorem dX10_round_90 : decode cX10_round 90 = .ok (.ifCond .eq 37, 3) := by decide +kernel
theorem dX10_round_93 : decode cX10_round 93 = .ok (.aload_n 0, 1) := by decide +kernel
theorem dX10_round_94 : decode cX10_round 94 = .ok (.getfield 23, 3) := by decide +kernel
theorem dX10_round_97 : decode cX10_round 97 = .ok (.aload 5, 2) := by decide +kernel
theorem dX10_round_99 : decode cX10_round 99 = .ok (.invokevirtual 137, 3) := by decide +kernel
theorem dX10_round_102 : decode cX10_round 102 = .ok (.istore 6, 2) := by decide +kernel
theorem dX10_round_104 : decode cX10_round 104 = .ok (.iinc 2 1, 3) := by decide +kernel
theorem dX10_round_107 : decode cX10_round 107 = .ok (.iload 6, 2) := by decide +kernel
theorem dX10_round_109 : decode cX10_round 109 = .ok (.iconst 3, 1) := by decide +kernel
theorem dX10_round_110 : decode cX10_round 110 = .ok (.if_icmp .eq 9, 3) := by decide +kernel
theorem dX10_round_113 : decode cX10_round 113 = .ok (.iload 6, 2) := by decide +kernel
theorem dX10_round_115 : decode cX10_round 115 = .ok (.iconst 4, 1) := by decide +kernel
theorem dX10_round_116 : decode cX10_round 116 = .ok (.if_icmp .ne 9, 3) := by decide +kernel
theorem dX10_round_119 : decode cX10_round 119 = .ok (.iload_n 3, 1) := by decide +kernel
theorem dX10_round_120 : decode cX10_round 120 = .ok (.iconst 1, 1) := by decide +kernel
theorem dX10_round_121 : decode cX10_round 121 = .ok (.iadd, 1) := by decide +kernel
theorem dX10_round_122 : decode cX10_round 122 = .ok (.goto 4, 3) := by decide +kernel
theorem dX10_round_125 : decode cX10_round 125 = .ok (.iconst 0, 1) := by decide +kernel
theorem dX10_round_126 : decode cX10_round 126 = .ok (.istore_n 3, 1) := by decide +kernel
theorem dX10_round_127 : decode cX10_round 127 = .ok (.iinc 4 1, 3) := by decide +kernel
theorem dX10_round_130 : decode cX10_round 130 = .ok (.goto (-102), 3) := by decide +kernel
theorem dX10_round_133 : decode cX10_round 133 = .ok (.iload_n 2, 1) := by decide +kernel
theorem dX10_round_134 : decode cX10_round 134 = .ok (.ireturn, 1) := by decide +kernel
theorem dX10_said_0 : decode cX10_said 0 = .ok (.aload_n 0, 1) := by decide +kernel
theorem dX10_said_1 : decode cX10_said 1 = .ok (.getfield 23, 3) := by decide +kernel
theorem dX10_said_4 : decode cX10_said 4 = .ok (.getfield 165, 3) := by decide +kernel
theorem dX10_said_7 : decode cX10_said 7 = .ok (.astore_n 3, 1) := by decide +kernel
theorem dX10_said_8 : decode cX10_said 8 = .ok (.iload_n 1, 1) := by decide +kernel
theorem dX10_said_9 : decode cX10_said 9 = .ok (.ifCond .lt 18, 3) := by decide +kernel
theorem dX10_said_12 : decode cX10_said 12 = .ok (.iload_n 1, 1) := by decide +kernel
theorem dX10_said_13 : decode cX10_said 13 = .ok (.aload_n 3, 1) := by decide +kernel
theorem dX10_said_14 : decode cX10_said 14 = .ok (.getfield 169, 3) := by decide +kernel
theorem dX10_said_17 : decode cX10_said 17 = .ok (.if_icmp .ge 10, 3) := by decide +kernel
theorem dX10_said_20 : decode cX10_said 20 = .ok (.iload_n 1, 1) := by decide +kernel
theorem dX10_said_21 : decode cX10_said 21 = .ok (.sipush 200, 3) := by decide +kernel
theorem dX10_said_24 : decode cX10_said 24 = .ok (.if_icmp .lt 13, 3) := by decide +kernel
theorem dX10_said_27 : decode cX10_said 27 = .ok (.new 41, 3) := by decide +kernel
theorem dX10_said_30 : decode cX10_said 30 = .ok (.dup, 1) := by decide +kernel
theorem dX10_said_31 : decode cX10_said 31 = .ok (.ldc 174, 2) := by decide +kernel
theorem dX10_said_33 : decode cX10_said 33 = .ok (.invokespecial 45, 3) := by decide +kernel
theorem dX10_said_36 : decode cX10_said 36 = .ok (.athrow, 1) := by decide +kernel
theorem dX10_said_37 : decode cX10_said 37 = .ok (.iload_n 2, 1) := by decide +kernel
theorem dX10_said_38 : decode cX10_said 38 = .ok (.ifCond .eq 12, 3) := by decide +kernel
theorem dX10_said_41 : decode cX10_said 41 = .ok (.aload_n 3, 1) := by decide +kernel
theorem dX10_said_42 : decode cX10_said 42 = .ok (.getfield 176, 3) := by decide +kernel
theorem dX10_said_45 : decode cX10_said 45 = .ok (.iload_n 1, 1) := by decide +kernel
theorem dX10_said_46 : decode cX10_said 46 = .ok (.iaload, 1) := by decide +kernel
theorem dX10_said_47 : decode cX10_said 47 = .ok (.goto 9, 3) := by decide +kernel
theorem dX10_said_50 : decode cX10_said 50 = .ok (.aload_n 3, 1) := by decide +kernel
theorem dX10_said_51 : decode cX10_said 51 = .ok (.getfield 179, 3) := by decide +kernel
theorem dX10_said_54 : decode cX10_said 54 = .ok (.iload_n 1, 1) := by decide +kernel
theorem dX10_said_55 : decode cX10_said 55 = .ok (.iaload, 1) := by decide +kernel
theorem dX10_said_56 : decode cX10_said 56 = .ok (.ireturn, 1) := by decide +kernel
theorem dX10_start_0 : decode cX10_start 0 = .ok (.iload_n 1, 1) := by decide +kernel
theorem dX10_start_1 : decode cX10_start 1 = .ok (.ifCond .lt 8, 3) := by decide +kernel
theorem dX10_start_4 : decode cX10_start 4 = .ok (.iload_n 1, 1) := by decide +kernel
theorem dX10_start_5 : decode cX10_start 5 = .ok (.iconst 4, 1) := by decide +kernel
theorem dX10_start_6 : decode cX10_start 6 = .ok (.if_icmp .le 13, 3) := by decide +kernel
theorem dX10_start_9 : decode cX10_start 9 = .ok (.new 52, 3) := by decide +kernel
theorem dX10_start_12 : decode cX10_start 12 = .ok (.dup, 1) := by decide +kernel
theorem dX10_start_13 : decode cX10_start 13 = .ok (.ldc 57, 2) := by decide +kernel
theorem dX10_start_15 : decode cX10_start 15 = .ok (.invokespecial 56, 3) := by decide +kernel
theorem dX10_start_18 : decode cX10_start 18 = .ok (.athrow, 1) := by decide +kernel
theorem dX10_start_19 : decode cX10_start 19 = .ok (.aload_n 0, 1) := by decide +kernel
theorem dX10_start_20 : decode cX10_start 20 = .ok (.getfield 23, 3) := by decide +kernel
theorem dX10_start_23 : decode cX10_start 23 = .ok (.iload_n 1, 1) := by decide +kernel
theorem dX10_start_24 : decode cX10_start 24 = .ok (.invokevirtual 59, 3) := by decide +kernel
theorem dX10_start_27 : decode cX10_start 27 = .ok (.aload_n 0, 1) := by decide +kernel
theorem dX10_start_28 : decode cX10_start 28 = .ok (.getfield 30, 3) := by decide +kernel
theorem dX10_start_31 : decode cX10_start 31 = .ok (.invokevirtual 62, 3) := by decide +kernel
theorem dX10_start_34 : decode cX10_start 34 = .ok (.aload_n 0, 1) := by decide +kernel
theorem dX10_start_35 : decode cX10_start 35 = .ok (.iconst (-1), 1) := by decide +kernel
theorem dX10_start_36 : decode cX10_start 36 = .ok (.putfield 38, 3) := by decide +kernel
theorem dX10_start_39 : decode cX10_start 39 = .ok (.return_, 1) := by decide +kernel
theorem dX10_turn_0 : decode cX10_turn 0 = .ok (.iload_n 1, 1) := by decide +kernel
theorem dX10_turn_1 : decode cX10_turn 1 = .ok (.ifCond .lt 9, 3) := by decide +kernel
theorem dX10_turn_4 : decode cX10_turn 4 = .ok (.iload_n 1, 1) := by decide +kernel
theorem dX10_turn_5 : decode cX10_turn 5 = .ok (.bipush 6, 2) := by decide +kernel
theorem dX10_turn_7 : decode cX10_turn 7 = .ok (.if_icmp .lt 13, 3) := by decide +kernel
theorem dX10_turn_10 : decode cX10_turn 10 = .ok (.new 52, 3) := by decide +kernel
theorem dX10_turn_13 : decode cX10_turn 13 = .ok (.dup, 1) := by decide +kernel
theorem dX10_turn_14 : decode cX10_turn 14 = .ok (.ldc 65, 2) := by decide +kernel
theorem dX10_turn_16 : decode cX10_turn 16 = .ok (.invokespecial 56, 3) := by decide +kernel
theorem dX10_turn_19 : decode cX10_turn 19 = .ok (.athrow, 1) := by decide +kernel
theorem dX10_turn_20 : decode cX10_turn 20 = .ok (.aload_n 0, 1) := by decide +kernel
theorem dX10_turn_21 : decode cX10_turn 21 = .ok (.getfield 23, 3) := by decide +kernel
theorem dX10_turn_24 : decode cX10_turn 24 = .ok (.getfield 132, 3) := by decide +kernel
theorem dX10_turn_27 : decode cX10_turn 27 = .ok (.sipush 20000, 3) := by decide +kernel
theorem dX10_turn_30 : decode cX10_turn 30 = .ok (.if_icmp .lt 13, 3) := by decide +kernel
theorem dX10_turn_33 : decode cX10_turn 33 = .ok (.new 76, 3) := by decide +kernel
theorem dX10_turn_36 : decode cX10_turn 36 = .ok (.dup, 1) := by decide +kernel
theorem dX10_turn_37 : decode cX10_turn 37 = .ok (.ldc 135, 2) := by decide +kernel
theorem dX10_turn_39 : decode cX10_turn 39 = .ok (.invokespecial 80, 3) := by decide +kernel
theorem dX10_turn_42 : decode cX10_turn 42 = .ok (.athrow, 1) := by decide +kernel
theorem dX10_turn_43 : decode cX10_turn 43 = .ok (.aload_n 0, 1) := by decide +kernel
theorem dX10_turn_44 : decode cX10_turn 44 = .ok (.getfield 23, 3) := by decide +kernel
theorem dX10_turn_47 : decode cX10_turn 47 = .ok (.aload_n 0, 1) := by decide +kernel
theorem dX10_turn_48 : decode cX10_turn 48 = .ok (.getfield 23, 3) := by decide +kernel
theorem dX10_turn_51 : decode cX10_turn 51 = .ok (.getfield 67, 3) := by decide +kernel
theorem dX10_turn_54 : decode cX10_turn 54 = .ok (.iload_n 1, 1) := by decide +kernel
theorem dX10_turn_55 : decode cX10_turn 55 = .ok (.aaload, 1) := by decide +kernel
theorem dX10_turn_56 : decode cX10_turn 56 = .ok (.invokevirtual 137, 3) := by decide +kernel
theorem dX10_turn_59 : decode cX10_turn 59 = .ok (.ireturn, 1) := by decide +kernel
