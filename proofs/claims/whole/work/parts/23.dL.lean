theorem dL_count_0 : decode cL_count 0 = .ok (.aload_n 2, 1) := by decide +kernel
theorem dL_count_1 : decode cL_count 1 = .ok (.iconst 0, 1) := by decide +kernel
theorem dL_count_2 : decode cL_count 2 = .ok (.aload_n 0, 1) := by decide +kernel
theorem dL_count_3 : decode cL_count 3 = .ok (.iload_n 1, 1) := by decide +kernel
theorem dL_count_4 : decode cL_count 4 = .ok (.invokevirtual 64, 3) := by decide +kernel
theorem dL_count_7 : decode cL_count 7 = .ok (.i2l, 1) := by decide +kernel
theorem dL_count_8 : decode cL_count 8 = .ok (.lastore, 1) := by decide +kernel
theorem dL_count_9 : decode cL_count 9 = .ok (.goto 6, 3) := by decide +kernel
theorem dL_count_12 : decode cL_count 12 = .ok (.astore_n 3, 1) := by decide +kernel
theorem dL_count_13 : decode cL_count 13 = .ok (.iconst 1, 1) := by decide +kernel
theorem dL_count_14 : decode cL_count 14 = .ok (.ireturn, 1) := by decide +kernel
theorem dL_count_15 : decode cL_count 15 = .ok (.iconst 0, 1) := by decide +kernel
theorem dL_count_16 : decode cL_count 16 = .ok (.ireturn, 1) := by decide +kernel
theorem dL_end_0 : decode cL_end 0 = .ok (.aload_n 2, 1) := by decide +kernel
theorem dL_end_1 : decode cL_end 1 = .ok (.iconst 0, 1) := by decide +kernel
theorem dL_end_2 : decode cL_end 2 = .ok (.aload_n 0, 1) := by decide +kernel
theorem dL_end_3 : decode cL_end 3 = .ok (.iload_n 1, 1) := by decide +kernel
theorem dL_end_4 : decode cL_end 4 = .ok (.invokevirtual 15, 3) := by decide +kernel
theorem dL_end_7 : decode cL_end 7 = .ok (.i2l, 1) := by decide +kernel
theorem dL_end_8 : decode cL_end 8 = .ok (.lastore, 1) := by decide +kernel
theorem dL_end_9 : decode cL_end 9 = .ok (.goto 6, 3) := by decide +kernel
theorem dL_end_12 : decode cL_end 12 = .ok (.astore_n 3, 1) := by decide +kernel
theorem dL_end_13 : decode cL_end 13 = .ok (.iconst 1, 1) := by decide +kernel
theorem dL_end_14 : decode cL_end 14 = .ok (.ireturn, 1) := by decide +kernel
theorem dL_end_15 : decode cL_end 15 = .ok (.iconst 0, 1) := by decide +kernel
theorem dL_end_16 : decode cL_end 16 = .ok (.ireturn, 1) := by decide +kernel
theorem dL_feed_0 : decode cL_feed 0 = .ok (.aload 6, 2) := by decide +kernel
theorem dL_feed_2 : decode cL_feed 2 = .ok (.iconst 0, 1) := by decide +kernel
theorem dL_feed_3 : decode cL_feed 3 = .ok (.aload_n 0, 1) := by decide +kernel
theorem dL_feed_4 : decode cL_feed 4 = .ok (.iload_n 1, 1) := by decide +kernel
theorem dL_feed_5 : decode cL_feed 5 = .ok (.iload_n 2, 1) := by decide +kernel
theorem dL_feed_6 : decode cL_feed 6 = .ok (.iload_n 3, 1) := by decide +kernel
theorem dL_feed_7 : decode cL_feed 7 = .ok (.iload 4, 2) := by decide +kernel
theorem dL_feed_9 : decode cL_feed 9 = .ok (.iload 5, 2) := by decide +kernel
theorem dL_feed_11 : decode cL_feed 11 = .ok (.invokevirtual 7, 3) := by decide +kernel
theorem dL_feed_14 : decode cL_feed 14 = .ok (.i2l, 1) := by decide +kernel
theorem dL_feed_15 : decode cL_feed 15 = .ok (.lastore, 1) := by decide +kernel
theorem dL_feed_16 : decode cL_feed 16 = .ok (.goto 7, 3) := by decide +kernel
theorem dL_feed_19 : decode cL_feed 19 = .ok (.astore 7, 2) := by decide +kernel
theorem dL_feed_21 : decode cL_feed 21 = .ok (.iconst 1, 1) := by decide +kernel
theorem dL_feed_22 : decode cL_feed 22 = .ok (.ireturn, 1) := by decide +kernel
theorem dL_feed_23 : decode cL_feed 23 = .ok (.iconst 0, 1) := by decide +kernel
theorem dL_feed_24 : decode cL_feed 24 = .ok (.ireturn, 1) := by decide +kernel
theorem dL_had_0 : decode cL_had 0 = .ok (.aload_n 3, 1) := by decide +kernel
theorem dL_had_1 : decode cL_had 1 = .ok (.iconst 0, 1) := by decide +kernel
theorem dL_had_2 : decode cL_had 2 = .ok (.aload_n 0, 1) := by decide +kernel
theorem dL_had_3 : decode cL_had 3 = .ok (.iload_n 1, 1) := by decide +kernel
theorem dL_had_4 : decode cL_had 4 = .ok (.iload_n 2, 1) := by decide +kernel
theorem dL_had_5 : decode cL_had 5 = .ok (.invokevirtual 45, 3) := by decide +kernel
theorem dL_had_8 : decode cL_had 8 = .ok (.i2l, 1) := by decide +kernel
theorem dL_had_9 : decode cL_had 9 = .ok (.lastore, 1) := by decide +kernel
theorem dL_had_10 : decode cL_had 10 = .ok (.goto 7, 3) := by decide +kernel
theorem dL_had_13 : decode cL_had 13 = .ok (.astore 4, 2) := by decide +kernel
theorem dL_had_15 : decode cL_had 15 = .ok (.iconst 1, 1) := by decide +kernel
theorem dL_had_16 : decode cL_had 16 = .ok (.ireturn, 1) := by decide +kernel
theorem dL_had_17 : decode cL_had 17 = .ok (.iconst 0, 1) := by decide +kernel
theorem dL_had_18 : decode cL_had 18 = .ok (.ireturn, 1) := by decide +kernel
theorem dL_has_0 : decode cL_has 0 = .ok (.aload_n 2, 1) := by decide +kernel
theorem dL_has_1 : decode cL_has 1 = .ok (.iconst 0, 1) := by decide +kernel
theorem dL_has_2 : decode cL_has 2 = .ok (.aload_n 0, 1) := by decide +kernel
theorem dL_has_3 : decode cL_has 3 = .ok (.iload_n 1, 1) := by decide +kernel
theorem dL_has_4 : decode cL_has 4 = .ok (.invokevirtual 42, 3) := by decide +kernel
theorem dL_has_7 : decode cL_has 7 = .ok (.i2l, 1) := by decide +kernel
theorem dL_has_8 : decode cL_has 8 = .ok (.lastore, 1) := by decide +kernel
theorem dL_has_9 : decode cL_has 9 = .ok (.goto 6, 3) := by decide +kernel
theorem dL_has_12 : decode cL_has 12 = .ok (.astore_n 3, 1) := by decide +kernel
theorem dL_has_13 : decode cL_has 13 = .ok (.iconst 1, 1) := by decide +kernel
theorem dL_has_14 : decode cL_has 14 = .ok (.ireturn, 1) := by decide +kernel
theorem dL_has_15 : decode cL_has 15 = .ok (.iconst 0, 1) := by decide +kernel
theorem dL_has_16 : decode cL_has 16 = .ok (.ireturn, 1) := by decide +kernel
theorem dL_look_0 : decode cL_look 0 = .ok (.aload_n 3, 1) := by decide +kernel
theorem dL_look_1 : decode cL_look 1 = .ok (.iconst 0, 1) := by decide +kernel
theorem dL_look_2 : decode cL_look 2 = .ok (.aload_n 0, 1) := by decide +kernel
theorem dL_look_3 : decode cL_look 3 = .ok (.iload_n 1, 1) := by decide +kernel
theorem dL_look_4 : decode cL_look 4 = .ok (.iload_n 2, 1) := by decide +kernel
theorem dL_look_5 : decode cL_look 5 = .ok (.invokevirtual 55, 3) := by decide +kernel
theorem dL_look_8 : decode cL_look 8 = .ok (.i2l, 1) := by decide +kernel
theorem dL_look_9 : decode cL_look 9 = .ok (.lastore, 1) := by decide +kernel
theorem dL_look_10 : decode cL_look 10 = .ok (.goto 7, 3) := by decide +kernel
theorem dL_look_13 : decode cL_look 13 = .ok (.astore 4, 2) := by decide +kernel
theorem dL_look_15 : decode cL_look 15 = .ok (.iconst 1, 1) := by decide +kernel
theorem dL_look_16 : decode cL_look 16 = .ok (.ireturn, 1) := by decide +kernel
theorem dL_look_17 : decode cL_look 17 = .ok (.iconst 0, 1) := by decide +kernel
theorem dL_look_18 : decode cL_look 18 = .ok (.ireturn, 1) := by decide +kernel
theorem dL_order_0 : decode cL_order 0 = .ok (.aload_n 2, 1) := by decide +kernel
theorem dL_order_1 : decode cL_order 1 = .ok (.iconst 0, 1) := by decide +kernel
theorem dL_order_2 : decode cL_order 2 = .ok (.aload_n 0, 1) := by decide +kernel
theorem dL_order_3 : decode cL_order 3 = .ok (.iload_n 1, 1) := by decide +kernel
theorem dL_order_4 : decode cL_order 4 = .ok (.invokevirtual 58, 3) := by decide +kernel
theorem dL_order_7 : decode cL_order 7 = .ok (.i2l, 1) := by decide +kernel
theorem dL_order_8 : decode cL_order 8 = .ok (.lastore, 1) := by decide +kernel
theorem dL_order_9 : decode cL_order 9 = .ok (.goto 6, 3) := by decide +kernel
theorem dL_order_12 : decode cL_order 12 = .ok (.astore_n 3, 1) := by decide +kernel
theorem dL_order_13 : decode cL_order 13 = .ok (.iconst 1, 1) := by decide +kernel
theorem dL_order_14 : decode cL_order 14 = .ok (.ireturn, 1) := by decide +kernel
theorem dL_order_15 : decode cL_order 15 = .ok (.iconst 0, 1) := by decide +kernel
theorem dL_order_16 : decode cL_order 16 = .ok (.ireturn, 1) := by decide +kernel
theorem dL_program_0 : decode cL_program 0 = .ok (.aload_n 2, 1) := by decide +kernel
theorem dL_program_1 : decode cL_program 1 = .ok (.iconst 0, 1) := by decide +kernel
theorem dL_program_2 : decode cL_program 2 = .ok (.aload_n 0, 1) := by decide +kernel
theorem dL_program_3 : decode cL_program 3 = .ok (.iload_n 1, 1) := by decide +kernel
theorem dL_program_4 : decode cL_program 4 = .ok (.invokevirtual 25, 3) := by decide +kernel
theorem dL_program_7 : decode cL_program 7 = .ok (.i2l, 1) := by decide +kernel
theorem dL_program_8 : decode cL_program 8 = .ok (.lastore, 1) := by decide +kernel
theorem dL_program_9 : decode cL_program 9 = .ok (.goto 12, 3) := by decide +kernel
theorem dL_program_12 : decode cL_program 12 = .ok (.astore_n 3, 1) := by decide +kernel
theorem dL_program_13 : decode cL_program 13 = .ok (.iconst 1, 1) := by decide +kernel
theorem dL_program_14 : decode cL_program 14 = .ok (.ireturn, 1) := by decide +kernel
theorem dL_program_15 : decode cL_program 15 = .ok (.astore_n 3, 1) := by decide +kernel
theorem dL_program_16 : decode cL_program 16 = .ok (.iconst 2, 1) := by decide +kernel
theorem dL_program_17 : decode cL_program 17 = .ok (.ireturn, 1) := by decide +kernel
theorem dL_program_18 : decode cL_program 18 = .ok (.astore_n 3, 1) := by decide +kernel
theorem dL_program_19 : decode cL_program 19 = .ok (.iconst 3, 1) := by decide +kernel
theorem dL_program_20 : decode cL_program 20 = .ok (.ireturn, 1) := by decide +kernel
theorem dL_program_21 : decode cL_program 21 = .ok (.iconst 0, 1) := by decide +kernel
theorem dL_program_22 : decode cL_program 22 = .ok (.ireturn, 1) := by decide +kernel
theorem dL_put_0 : decode cL_put 0 = .ok (.aload_n 3, 1) := by decide +kernel
theorem dL_put_1 : decode cL_put 1 = .ok (.iconst 0, 1) := by decide +kernel
theorem dL_put_2 : decode cL_put 2 = .ok (.aload_n 0, 1) := by decide +kernel
theorem dL_put_3 : decode cL_put 3 = .ok (.iload_n 1, 1) := by decide +kernel
theorem dL_put_4 : decode cL_put 4 = .ok (.iload_n 2, 1) := by decide +kernel
theorem dL_put_5 : decode cL_put 5 = .ok (.invokevirtual 32, 3) := by decide +kernel
theorem dL_put_8 : decode cL_put 8 = .ok (.i2l, 1) := by decide +kernel
theorem dL_put_9 : decode cL_put 9 = .ok (.lastore, 1) := by decide +kernel
theorem dL_put_10 : decode cL_put 10 = .ok (.goto 11, 3) := by decide +kernel
theorem dL_put_13 : decode cL_put 13 = .ok (.astore 4, 2) := by decide +kernel
theorem dL_put_15 : decode cL_put 15 = .ok (.iconst 1, 1) := by decide +kernel
theorem dL_put_16 : decode cL_put 16 = .ok (.ireturn, 1) := by decide +kernel
theorem dL_put_17 : decode cL_put 17 = .ok (.astore 4, 2) := by decide +kernel
theorem dL_put_19 : decode cL_put 19 = .ok (.iconst 2, 1) := by decide +kernel
theorem dL_put_20 : decode cL_put 20 = .ok (.ireturn, 1) := by decide +kernel
theorem dL_put_21 : decode cL_put 21 = .ok (.iconst 0, 1) := by decide +kernel
theorem dL_put_22 : decode cL_put 22 = .ok (.ireturn, 1) := by decide +kernel
theorem dL_record_0 : decode cL_record 0 = .ok (.aload_n 3, 1) := by decide +kernel
theorem dL_record_1 : decode cL_record 1 = .ok (.iconst 0, 1) := by decide +kernel
theorem dL_record_2 : decode cL_record 2 = .ok (.aload_n 0, 1) := by decide +kernel
theorem dL_record_3 : decode cL_record 3 = .ok (.iload_n 1, 1) := by decide +kernel
theorem dL_record_4 : decode cL_record 4 = .ok (.iload_n 2, 1) := by decide +kernel
theorem dL_record_5 : decode cL_record 5 = .ok (.invokevirtual 61, 3) := by decide +kernel
theorem dL_record_8 : decode cL_record 8 = .ok (.i2l, 1) := by decide +kernel
theorem dL_record_9 : decode cL_record 9 = .ok (.lastore, 1) := by decide +kernel
theorem dL_record_10 : decode cL_record 10 = .ok (.goto 11, 3) := by decide +kernel
theorem dL_record_13 : decode cL_record 13 = .ok (.astore 4, 2) := by decide +kernel
theorem dL_record_15 : decode cL_record 15 = .ok (.iconst 1, 1) := by decide +kernel
theorem dL_record_16 : decode cL_record 16 = .ok (.ireturn, 1) := by decide +kernel
theorem dL_record_17 : decode cL_record 17 = .ok (.astore 4, 2) := by decide +kernel
theorem dL_record_19 : decode cL_record 19 = .ok (.iconst 2, 1) := by decide +kernel
theorem dL_record_20 : decode cL_record 20 = .ok (.ireturn, 1) := by decide +kernel
theorem dL_record_21 : decode cL_record 21 = .ok (.iconst 0, 1) := by decide +kernel
theorem dL_record_22 : decode cL_record 22 = .ok (.ireturn, 1) := by decide +kernel
theorem dL_register_0 : decode cL_register 0 = .ok (.aload_n 3, 1) := by decide +kernel
theorem dL_register_1 : decode cL_register 1 = .ok (.iconst 0, 1) := by decide +kernel
theorem dL_register_2 : decode cL_register 2 = .ok (.aload_n 0, 1) := by decide +kernel
theorem dL_register_3 : decode cL_register 3 = .ok (.iload_n 1, 1) := by decide +kernel
theorem dL_register_4 : decode cL_register 4 = .ok (.iload_n 2, 1) := by decide +kernel
theorem dL_register_5 : decode cL_register 5 = .ok (.invokevirtual 48, 3) := by decide +kernel
theorem dL_register_8 : decode cL_register 8 = .ok (.i2l, 1) := by decide +kernel
theorem dL_register_9 : decode cL_register 9 = .ok (.lastore, 1) := by decide +kernel
theorem dL_register_10 : decode cL_register 10 = .ok (.goto 7, 3) := by decide +kernel
theorem dL_register_13 : decode cL_register 13 = .ok (.astore 4, 2) := by decide +kernel
theorem dL_register_15 : decode cL_register 15 = .ok (.iconst 1, 1) := by decide +kernel
theorem dL_register_16 : decode cL_register 16 = .ok (.ireturn, 1) := by decide +kernel
theorem dL_register_17 : decode cL_register 17 = .ok (.iconst 0, 1) := by decide +kernel
theorem dL_register_18 : decode cL_register 18 = .ok (.ireturn, 1) := by decide +kernel
theorem dL_round_0 : decode cL_round 0 = .ok (.aload_n 2, 1) := by decide +kernel
theorem dL_round_1 : decode cL_round 1 = .ok (.iconst 0, 1) := by decide +kernel
theorem dL_round_2 : decode cL_round 2 = .ok (.aload_n 0, 1) := by decide +kernel
theorem dL_round_3 : decode cL_round 3 = .ok (.iload_n 1, 1) := by decide +kernel
theorem dL_round_4 : decode cL_round 4 = .ok (.invokevirtual 39, 3) := by decide +kernel
theorem dL_round_7 : decode cL_round 7 = .ok (.i2l, 1) := by decide +kernel
theorem dL_round_8 : decode cL_round 8 = .ok (.lastore, 1) := by decide +kernel
theorem dL_round_9 : decode cL_round 9 = .ok (.goto 6, 3) := by decide +kernel
theorem dL_round_12 : decode cL_round 12 = .ok (.astore_n 3, 1) := by decide +kernel
theorem dL_round_13 : decode cL_round 13 = .ok (.iconst 1, 1) := by decide +kernel
theorem dL_round_14 : decode cL_round 14 = .ok (.ireturn, 1) := by decide +kernel
theorem dL_round_15 : decode cL_round 15 = .ok (.iconst 0, 1) := by decide +kernel
theorem dL_round_16 : decode cL_round 16 = .ok (.ireturn, 1) := by decide +kernel
theorem dL_said_0 : decode cL_said 0 = .ok (.aload_n 3, 1) := by decide +kernel
theorem dL_said_1 : decode cL_said 1 = .ok (.iconst 0, 1) := by decide +kernel
theorem dL_said_2 : decode cL_said 2 = .ok (.aload_n 0, 1) := by decide +kernel
theorem dL_said_3 : decode cL_said 3 = .ok (.iload_n 1, 1) := by decide +kernel
theorem dL_said_4 : decode cL_said 4 = .ok (.iload_n 2, 1) := by decide +kernel
theorem dL_said_5 : decode cL_said 5 = .ok (.invokevirtual 51, 3) := by decide +kernel
theorem dL_said_8 : decode cL_said 8 = .ok (.i2l, 1) := by decide +kernel
theorem dL_said_9 : decode cL_said 9 = .ok (.lastore, 1) := by decide +kernel
theorem dL_said_10 : decode cL_said 10 = .ok (.goto 7, 3) := by decide +kernel
theorem dL_said_13 : decode cL_said 13 = .ok (.astore 4, 2) := by decide +kernel
theorem dL_said_15 : decode cL_said 15 = .ok (.iconst 1, 1) := by decide +kernel
theorem dL_said_16 : decode cL_said 16 = .ok (.ireturn, 1) := by decide +kernel
theorem dL_said_17 : decode cL_said 17 = .ok (.iconst 0, 1) := by decide +kernel
theorem dL_said_18 : decode cL_said 18 = .ok (.ireturn, 1) := by decide +kernel
theorem dL_start_0 : decode cL_start 0 = .ok (.aload_n 0, 1) := by decide +kernel
theorem dL_start_1 : decode cL_start 1 = .ok (.iload_n 1, 1) := by decide +kernel
theorem dL_start_2 : decode cL_start 2 = .ok (.invokevirtual 21, 3) := by decide +kernel
theorem dL_start_5 : decode cL_start 5 = .ok (.goto 6, 3) := by decide +kernel
theorem dL_start_8 : decode cL_start 8 = .ok (.astore_n 2, 1) := by decide +kernel
theorem dL_start_9 : decode cL_start 9 = .ok (.iconst 1, 1) := by decide +kernel
theorem dL_start_10 : decode cL_start 10 = .ok (.ireturn, 1) := by decide +kernel
theorem dL_start_11 : decode cL_start 11 = .ok (.iconst 0, 1) := by decide +kernel
theorem dL_start_12 : decode cL_start 12 = .ok (.ireturn, 1) := by decide +kernel
theorem dL_turn_0 : decode cL_turn 0 = .ok (.aload_n 2, 1) := by decide +kernel
theorem dL_turn_1 : decode cL_turn 1 = .ok (.iconst 0, 1) := by decide +kernel
theorem dL_turn_2 : decode cL_turn 2 = .ok (.aload_n 0, 1) := by decide +kernel
theorem dL_turn_3 : decode cL_turn 3 = .ok (.iload_n 1, 1) := by decide +kernel
theorem dL_turn_4 : decode cL_turn 4 = .ok (.invokevirtual 36, 3) := by decide +kernel
theorem dL_turn_7 : decode cL_turn 7 = .ok (.i2l, 1) := by decide +kernel
theorem dL_turn_8 : decode cL_turn 8 = .ok (.lastore, 1) := by decide +kernel
theorem dL_turn_9 : decode cL_turn 9 = .ok (.goto 9, 3) := by decide +kernel
theorem dL_turn_12 : decode cL_turn 12 = .ok (.astore_n 3, 1) := by decide +kernel
theorem dL_turn_13 : decode cL_turn 13 = .ok (.iconst 1, 1) := by decide +kernel
theorem dL_turn_14 : decode cL_turn 14 = .ok (.ireturn, 1) := by decide +kernel
theorem dL_turn_15 : decode cL_turn 15 = .ok (.astore_n 3, 1) := by decide +kernel
theorem dL_turn_16 : decode cL_turn 16 = .ok (.iconst 2, 1) := by decide +kernel
theorem dL_turn_17 : decode cL_turn 17 = .ok (.ireturn, 1) := by decide +kernel
theorem dL_turn_18 : decode cL_turn 18 = .ok (.iconst 0, 1) := by decide +kernel
theorem dL_turn_19 : decode cL_turn 19 = .ok (.ireturn, 1) := by decide +kernel
