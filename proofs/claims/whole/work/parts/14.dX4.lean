theorem dX4_assignment_0 : decode cX4_assignment 0 = .ok (.aload_n 0, 1) := by decide +kernel
theorem dX4_assignment_1 : decode cX4_assignment 1 = .ok (.getfield 12, 3) := by decide +kernel
theorem dX4_assignment_4 : decode cX4_assignment 4 = .ok (.getfield 90, 3) := by decide +kernel
theorem dX4_assignment_7 : decode cX4_assignment 7 = .ok (.istore_n 3, 1) := by decide +kernel
theorem dX4_assignment_8 : decode cX4_assignment 8 = .ok (.aload_n 0, 1) := by decide +kernel
theorem dX4_assignment_9 : decode cX4_assignment 9 = .ok (.getfield 12, 3) := by decide +kernel
theorem dX4_assignment_12 : decode cX4_assignment 12 = .ok (.invokevirtual 52, 3) := by decide +kernel
theorem dX4_assignment_15 : decode cX4_assignment 15 = .ok (.aload_n 0, 1) := by decide +kernel
theorem dX4_assignment_16 : decode cX4_assignment 16 = .ok (.bipush 22, 2) := by decide +kernel
theorem dX4_assignment_18 : decode cX4_assignment 18 = .ok (.invokevirtual 55, 3) := by decide +kernel
theorem dX4_assignment_21 : decode cX4_assignment 21 = .ok (.ifCond .eq 11, 3) := by decide +kernel
theorem dX4_assignment_24 : decode cX4_assignment 24 = .ok (.aload_n 0, 1) := by decide +kernel
theorem dX4_assignment_25 : decode cX4_assignment 25 = .ok (.iload_n 2, 1) := by decide +kernel
theorem dX4_assignment_26 : decode cX4_assignment 26 = .ok (.invokevirtual 93, 3) := by decide +kernel
theorem dX4_assignment_29 : decode cX4_assignment 29 = .ok (.ifCond .ne 5, 3) := by decide +kernel
theorem dX4_assignment_32 : decode cX4_assignment 32 = .ok (.iconst 0, 1) := by decide +kernel
theorem dX4_assignment_33 : decode cX4_assignment 33 = .ok (.ireturn, 1) := by decide +kernel
theorem dX4_assignment_34 : decode cX4_assignment 34 = .ok (.aload_n 0, 1) := by decide +kernel
theorem dX4_assignment_35 : decode cX4_assignment 35 = .ok (.getfield 23, 3) := by decide +kernel
theorem dX4_assignment_38 : decode cX4_assignment 38 = .ok (.iload_n 1, 1) := by decide +kernel
theorem dX4_assignment_39 : decode cX4_assignment 39 = .ok (.iload_n 3, 1) := by decide +kernel
theorem dX4_assignment_40 : decode cX4_assignment 40 = .ok (.invokevirtual 96, 3) := by decide +kernel
theorem dX4_assignment_43 : decode cX4_assignment 43 = .ok (.pop, 1) := by decide +kernel
theorem dX4_assignment_44 : decode cX4_assignment 44 = .ok (.aload_n 0, 1) := by decide +kernel
theorem dX4_assignment_45 : decode cX4_assignment 45 = .ok (.bipush 21, 2) := by decide +kernel
theorem dX4_assignment_47 : decode cX4_assignment 47 = .ok (.invokevirtual 55, 3) := by decide +kernel
theorem dX4_assignment_50 : decode cX4_assignment 50 = .ok (.ireturn, 1) := by decide +kernel
theorem dX4_bareStatement_0 : decode cX4_bareStatement 0 = .ok (.iload_n 2, 1) := by decide +kernel
theorem dX4_bareStatement_1 : decode cX4_bareStatement 1 = .ok (.ifCond .ne 8, 3) := by decide +kernel
theorem dX4_bareStatement_4 : decode cX4_bareStatement 4 = .ok (.aload_n 0, 1) := by decide +kernel
theorem dX4_bareStatement_5 : decode cX4_bareStatement 5 = .ok (.invokevirtual 45, 3) := by decide +kernel
theorem dX4_bareStatement_8 : decode cX4_bareStatement 8 = .ok (.ireturn, 1) := by decide +kernel
theorem dX4_bareStatement_9 : decode cX4_bareStatement 9 = .ok (.aload_n 0, 1) := by decide +kernel
theorem dX4_bareStatement_10 : decode cX4_bareStatement 10 = .ok (.getfield 12, 3) := by decide +kernel
theorem dX4_bareStatement_13 : decode cX4_bareStatement 13 = .ok (.invokevirtual 52, 3) := by decide +kernel
theorem dX4_bareStatement_16 : decode cX4_bareStatement 16 = .ok (.aload_n 0, 1) := by decide +kernel
theorem dX4_bareStatement_17 : decode cX4_bareStatement 17 = .ok (.getfield 23, 3) := by decide +kernel
theorem dX4_bareStatement_20 : decode cX4_bareStatement 20 = .ok (.iload_n 1, 1) := by decide +kernel
theorem dX4_bareStatement_21 : decode cX4_bareStatement 21 = .ok (.iconst 0, 1) := by decide +kernel
theorem dX4_bareStatement_22 : decode cX4_bareStatement 22 = .ok (.invokevirtual 96, 3) := by decide +kernel
theorem dX4_bareStatement_25 : decode cX4_bareStatement 25 = .ok (.pop, 1) := by decide +kernel
theorem dX4_bareStatement_26 : decode cX4_bareStatement 26 = .ok (.aload_n 0, 1) := by decide +kernel
theorem dX4_bareStatement_27 : decode cX4_bareStatement 27 = .ok (.bipush 21, 2) := by decide +kernel
theorem dX4_bareStatement_29 : decode cX4_bareStatement 29 = .ok (.invokevirtual 55, 3) := by decide +kernel
theorem dX4_bareStatement_32 : decode cX4_bareStatement 32 = .ok (.ireturn, 1) := by decide +kernel
theorem dX4_block_0 : decode cX4_block 0 = .ok (.aload_n 0, 1) := by decide +kernel
theorem dX4_block_1 : decode cX4_block 1 = .ok (.bipush 17, 2) := by decide +kernel
theorem dX4_block_3 : decode cX4_block 3 = .ok (.iload_n 2, 1) := by decide +kernel
theorem dX4_block_4 : decode cX4_block 4 = .ok (.invokevirtual 62, 3) := by decide +kernel
theorem dX4_block_7 : decode cX4_block 7 = .ok (.ifCond .eq 27, 3) := by decide +kernel
theorem dX4_block_10 : decode cX4_block 10 = .ok (.aload_n 0, 1) := by decide +kernel
theorem dX4_block_11 : decode cX4_block 11 = .ok (.iload_n 1, 1) := by decide +kernel
theorem dX4_block_12 : decode cX4_block 12 = .ok (.iload_n 2, 1) := by decide +kernel
theorem dX4_block_13 : decode cX4_block 13 = .ok (.iconst 1, 1) := by decide +kernel
theorem dX4_block_14 : decode cX4_block 14 = .ok (.iadd, 1) := by decide +kernel
theorem dX4_block_15 : decode cX4_block 15 = .ok (.invokevirtual 38, 3) := by decide +kernel
theorem dX4_block_18 : decode cX4_block 18 = .ok (.ifCond .eq 16, 3) := by decide +kernel
theorem dX4_block_21 : decode cX4_block 21 = .ok (.aload_n 0, 1) := by decide +kernel
theorem dX4_block_22 : decode cX4_block 22 = .ok (.bipush 18, 2) := by decide +kernel
theorem dX4_block_24 : decode cX4_block 24 = .ok (.invokevirtual 55, 3) := by decide +kernel
theorem dX4_block_27 : decode cX4_block 27 = .ok (.ifCond .eq 7, 3) := by decide +kernel
theorem dX4_block_30 : decode cX4_block 30 = .ok (.iconst 1, 1) := by decide +kernel
theorem dX4_block_31 : decode cX4_block 31 = .ok (.goto 4, 3) := by decide +kernel
theorem dX4_block_34 : decode cX4_block 34 = .ok (.iconst 0, 1) := by decide +kernel
theorem dX4_block_35 : decode cX4_block 35 = .ok (.ireturn, 1) := by decide +kernel
theorem dX4_broken_0 : decode cX4_broken 0 = .ok (.aload_n 0, 1) := by decide +kernel
theorem dX4_broken_1 : decode cX4_broken 1 = .ok (.aload_n 0, 1) := by decide +kernel
theorem dX4_broken_2 : decode cX4_broken 2 = .ok (.getfield 12, 3) := by decide +kernel
theorem dX4_broken_5 : decode cX4_broken 5 = .ok (.getfield 49, 3) := by decide +kernel
theorem dX4_broken_8 : decode cX4_broken 8 = .ok (.putfield 27, 3) := by decide +kernel
theorem dX4_broken_11 : decode cX4_broken 11 = .ok (.iconst 0, 1) := by decide +kernel
theorem dX4_broken_12 : decode cX4_broken 12 = .ok (.ireturn, 1) := by decide +kernel
theorem dX4_condition_0 : decode cX4_condition 0 = .ok (.aload_n 0, 1) := by decide +kernel
theorem dX4_condition_1 : decode cX4_condition 1 = .ok (.getfield 12, 3) := by decide +kernel
theorem dX4_condition_4 : decode cX4_condition 4 = .ok (.invokevirtual 52, 3) := by decide +kernel
theorem dX4_condition_7 : decode cX4_condition 7 = .ok (.aload_n 0, 1) := by decide +kernel
theorem dX4_condition_8 : decode cX4_condition 8 = .ok (.bipush 19, 2) := by decide +kernel
theorem dX4_condition_10 : decode cX4_condition 10 = .ok (.iload_n 1, 1) := by decide +kernel
theorem dX4_condition_11 : decode cX4_condition 11 = .ok (.invokevirtual 62, 3) := by decide +kernel
theorem dX4_condition_14 : decode cX4_condition 14 = .ok (.ifCond .eq 26, 3) := by decide +kernel
theorem dX4_condition_17 : decode cX4_condition 17 = .ok (.aload_n 0, 1) := by decide +kernel
theorem dX4_condition_18 : decode cX4_condition 18 = .ok (.iload_n 1, 1) := by decide +kernel
theorem dX4_condition_19 : decode cX4_condition 19 = .ok (.iconst 1, 1) := by decide +kernel
theorem dX4_condition_20 : decode cX4_condition 20 = .ok (.iadd, 1) := by decide +kernel
theorem dX4_condition_21 : decode cX4_condition 21 = .ok (.invokevirtual 93, 3) := by decide +kernel
theorem dX4_condition_24 : decode cX4_condition 24 = .ok (.ifCond .eq 16, 3) := by decide +kernel
theorem dX4_condition_27 : decode cX4_condition 27 = .ok (.aload_n 0, 1) := by decide +kernel
theorem dX4_condition_28 : decode cX4_condition 28 = .ok (.bipush 20, 2) := by decide +kernel
theorem dX4_condition_30 : decode cX4_condition 30 = .ok (.invokevirtual 55, 3) := by decide +kernel
theorem dX4_condition_33 : decode cX4_condition 33 = .ok (.ifCond .eq 7, 3) := by decide +kernel
theorem dX4_condition_36 : decode cX4_condition 36 = .ok (.iconst 1, 1) := by decide +kernel
theorem dX4_condition_37 : decode cX4_condition 37 = .ok (.goto 4, 3) := by decide +kernel
theorem dX4_condition_40 : decode cX4_condition 40 = .ok (.iconst 0, 1) := by decide +kernel
theorem dX4_condition_41 : decode cX4_condition 41 = .ok (.ireturn, 1) := by decide +kernel
theorem dX4_expect_0 : decode cX4_expect 0 = .ok (.aload_n 0, 1) := by decide +kernel
theorem dX4_expect_1 : decode cX4_expect 1 = .ok (.getfield 12, 3) := by decide +kernel
theorem dX4_expect_4 : decode cX4_expect 4 = .ok (.getfield 42, 3) := by decide +kernel
theorem dX4_expect_7 : decode cX4_expect 7 = .ok (.iload_n 1, 1) := by decide +kernel
theorem dX4_expect_8 : decode cX4_expect 8 = .ok (.if_icmp .eq 8, 3) := by decide +kernel
theorem dX4_expect_11 : decode cX4_expect 11 = .ok (.aload_n 0, 1) := by decide +kernel
theorem dX4_expect_12 : decode cX4_expect 12 = .ok (.invokevirtual 45, 3) := by decide +kernel
theorem dX4_expect_15 : decode cX4_expect 15 = .ok (.ireturn, 1) := by decide +kernel
theorem dX4_expect_16 : decode cX4_expect 16 = .ok (.aload_n 0, 1) := by decide +kernel
theorem dX4_expect_17 : decode cX4_expect 17 = .ok (.getfield 12, 3) := by decide +kernel
theorem dX4_expect_20 : decode cX4_expect 20 = .ok (.invokevirtual 52, 3) := by decide +kernel
theorem dX4_expect_23 : decode cX4_expect 23 = .ok (.iconst 1, 1) := by decide +kernel
theorem dX4_expect_24 : decode cX4_expect 24 = .ok (.ireturn, 1) := by decide +kernel
theorem dX4_expectNested_0 : decode cX4_expectNested 0 = .ok (.iload_n 2, 1) := by decide +kernel
theorem dX4_expectNested_1 : decode cX4_expectNested 1 = .ok (.bipush 10, 2) := by decide +kernel
theorem dX4_expectNested_3 : decode cX4_expectNested 3 = .ok (.if_icmp .ge 11, 3) := by decide +kernel
theorem dX4_expectNested_6 : decode cX4_expectNested 6 = .ok (.aload_n 0, 1) := by decide +kernel
theorem dX4_expectNested_7 : decode cX4_expectNested 7 = .ok (.iload_n 1, 1) := by decide +kernel
theorem dX4_expectNested_8 : decode cX4_expectNested 8 = .ok (.invokevirtual 55, 3) := by decide +kernel
theorem dX4_expectNested_11 : decode cX4_expectNested 11 = .ok (.goto 7, 3) := by decide +kernel
theorem dX4_expectNested_14 : decode cX4_expectNested 14 = .ok (.aload_n 0, 1) := by decide +kernel
theorem dX4_expectNested_15 : decode cX4_expectNested 15 = .ok (.invokevirtual 45, 3) := by decide +kernel
theorem dX4_expectNested_18 : decode cX4_expectNested 18 = .ok (.ireturn, 1) := by decide +kernel
theorem dX4_expression_0 : decode cX4_expression 0 = .ok (.aload_n 0, 1) := by decide +kernel
theorem dX4_expression_1 : decode cX4_expression 1 = .ok (.iload_n 1, 1) := by decide +kernel
theorem dX4_expression_2 : decode cX4_expression 2 = .ok (.invokevirtual 119, 3) := by decide +kernel
theorem dX4_expression_5 : decode cX4_expression 5 = .ok (.ifCond .ne 5, 3) := by decide +kernel
theorem dX4_expression_8 : decode cX4_expression 8 = .ok (.iconst 0, 1) := by decide +kernel
theorem dX4_expression_9 : decode cX4_expression 9 = .ok (.ireturn, 1) := by decide +kernel
theorem dX4_expression_10 : decode cX4_expression 10 = .ok (.aload_n 0, 1) := by decide +kernel
theorem dX4_expression_11 : decode cX4_expression 11 = .ok (.getfield 12, 3) := by decide +kernel
theorem dX4_expression_14 : decode cX4_expression 14 = .ok (.getfield 42, 3) := by decide +kernel
theorem dX4_expression_17 : decode cX4_expression 17 = .ok (.istore_n 2, 1) := by decide +kernel
theorem dX4_expression_18 : decode cX4_expression 18 = .ok (.iload_n 2, 1) := by decide +kernel
theorem dX4_expression_19 : decode cX4_expression 19 = .ok (.bipush 23, 2) := by decide +kernel
theorem dX4_expression_21 : decode cX4_expression 21 = .ok (.if_icmp .eq 11, 3) := by decide +kernel
theorem dX4_expression_24 : decode cX4_expression 24 = .ok (.iload_n 2, 1) := by decide +kernel
theorem dX4_expression_25 : decode cX4_expression 25 = .ok (.bipush 24, 2) := by decide +kernel
theorem dX4_expression_27 : decode cX4_expression 27 = .ok (.if_icmp .eq 5, 3) := by decide +kernel
theorem dX4_expression_30 : decode cX4_expression 30 = .ok (.iconst 1, 1) := by decide +kernel
theorem dX4_expression_31 : decode cX4_expression 31 = .ok (.ireturn, 1) := by decide +kernel
theorem dX4_expression_32 : decode cX4_expression 32 = .ok (.aload_n 0, 1) := by decide +kernel
theorem dX4_expression_33 : decode cX4_expression 33 = .ok (.getfield 12, 3) := by decide +kernel
theorem dX4_expression_36 : decode cX4_expression 36 = .ok (.invokevirtual 52, 3) := by decide +kernel
theorem dX4_expression_39 : decode cX4_expression 39 = .ok (.aload_n 0, 1) := by decide +kernel
theorem dX4_expression_40 : decode cX4_expression 40 = .ok (.iload_n 1, 1) := by decide +kernel
theorem dX4_expression_41 : decode cX4_expression 41 = .ok (.invokevirtual 119, 3) := by decide +kernel
theorem dX4_expression_44 : decode cX4_expression 44 = .ok (.ifCond .ne 5, 3) := by decide +kernel
theorem dX4_expression_47 : decode cX4_expression 47 = .ok (.iconst 0, 1) := by decide +kernel
theorem dX4_expression_48 : decode cX4_expression 48 = .ok (.ireturn, 1) := by decide +kernel
theorem dX4_expression_49 : decode cX4_expression 49 = .ok (.aload_n 0, 1) := by decide +kernel
theorem dX4_expression_50 : decode cX4_expression 50 = .ok (.getfield 23, 3) := by decide +kernel
theorem dX4_expression_53 : decode cX4_expression 53 = .ok (.iload_n 2, 1) := by decide +kernel
theorem dX4_expression_54 : decode cX4_expression 54 = .ok (.bipush 23, 2) := by decide +kernel
theorem dX4_expression_56 : decode cX4_expression 56 = .ok (.if_icmp .ne 8, 3) := by decide +kernel
theorem dX4_expression_59 : decode cX4_expression 59 = .ok (.bipush 7, 2) := by decide +kernel
theorem dX4_expression_61 : decode cX4_expression 61 = .ok (.goto 5, 3) := by decide +kernel
theorem dX4_expression_64 : decode cX4_expression 64 = .ok (.bipush 8, 2) := by decide +kernel
theorem dX4_expression_66 : decode cX4_expression 66 = .ok (.iconst 0, 1) := by decide +kernel
theorem dX4_expression_67 : decode cX4_expression 67 = .ok (.invokevirtual 96, 3) := by decide +kernel
theorem dX4_expression_70 : decode cX4_expression 70 = .ok (.pop, 1) := by decide +kernel
theorem dX4_expression_71 : decode cX4_expression 71 = .ok (.iconst 1, 1) := by decide +kernel
theorem dX4_expression_72 : decode cX4_expression 72 = .ok (.ireturn, 1) := by decide +kernel
theorem dX4_ifStatement_0 : decode cX4_ifStatement 0 = .ok (.aload_n 0, 1) := by decide +kernel
theorem dX4_ifStatement_1 : decode cX4_ifStatement 1 = .ok (.iload_n 2, 1) := by decide +kernel
theorem dX4_ifStatement_2 : decode cX4_ifStatement 2 = .ok (.invokevirtual 100, 3) := by decide +kernel
theorem dX4_ifStatement_5 : decode cX4_ifStatement 5 = .ok (.ifCond .ne 5, 3) := by decide +kernel
theorem dX4_ifStatement_8 : decode cX4_ifStatement 8 = .ok (.iconst 0, 1) := by decide +kernel
theorem dX4_ifStatement_9 : decode cX4_ifStatement 9 = .ok (.ireturn, 1) := by decide +kernel
theorem dX4_ifStatement_10 : decode cX4_ifStatement 10 = .ok (.aload_n 0, 1) := by decide +kernel
theorem dX4_ifStatement_11 : decode cX4_ifStatement 11 = .ok (.getfield 23, 3) := by decide +kernel
theorem dX4_ifStatement_14 : decode cX4_ifStatement 14 = .ok (.bipush 13, 2) := by decide +kernel
theorem dX4_ifStatement_16 : decode cX4_ifStatement 16 = .ok (.iconst 0, 1) := by decide +kernel
theorem dX4_ifStatement_17 : decode cX4_ifStatement 17 = .ok (.invokevirtual 96, 3) := by decide +kernel
theorem dX4_ifStatement_20 : decode cX4_ifStatement 20 = .ok (.istore_n 3, 1) := by decide +kernel
theorem dX4_ifStatement_21 : decode cX4_ifStatement 21 = .ok (.aload_n 0, 1) := by decide +kernel
theorem dX4_ifStatement_22 : decode cX4_ifStatement 22 = .ok (.iload_n 1, 1) := by decide +kernel
theorem dX4_ifStatement_23 : decode cX4_ifStatement 23 = .ok (.iload_n 2, 1) := by decide +kernel
theorem dX4_ifStatement_24 : decode cX4_ifStatement 24 = .ok (.invokevirtual 103, 3) := by decide +kernel
theorem dX4_ifStatement_27 : decode cX4_ifStatement 27 = .ok (.ifCond .ne 5, 3) := by decide +kernel
theorem dX4_ifStatement_30 : decode cX4_ifStatement 30 = .ok (.iconst 0, 1) := by decide +kernel
theorem dX4_ifStatement_31 : decode cX4_ifStatement 31 = .ok (.ireturn, 1) := by decide +kernel
theorem dX4_ifStatement_32 : decode cX4_ifStatement 32 = .ok (.aload_n 0, 1) := by decide +kernel
theorem dX4_ifStatement_33 : decode cX4_ifStatement 33 = .ok (.getfield 12, 3) := by decide +kernel
theorem dX4_ifStatement_36 : decode cX4_ifStatement 36 = .ok (.getfield 42, 3) := by decide +kernel
theorem dX4_ifStatement_39 : decode cX4_ifStatement 39 = .ok (.bipush 6, 2) := by decide +kernel
theorem dX4_ifStatement_41 : decode cX4_ifStatement 41 = .ok (.if_icmp .eq 20, 3) := by decide +kernel
theorem dX4_ifStatement_44 : decode cX4_ifStatement 44 = .ok (.aload_n 0, 1) := by decide +kernel
theorem dX4_ifStatement_45 : decode cX4_ifStatement 45 = .ok (.getfield 23, 3) := by decide +kernel
theorem dX4_ifStatement_48 : decode cX4_ifStatement 48 = .ok (.iload_n 3, 1) := by decide +kernel
theorem dX4_ifStatement_49 : decode cX4_ifStatement 49 = .ok (.aload_n 0, 1) := by decide +kernel
theorem dX4_ifStatement_50 : decode cX4_ifStatement 50 = .ok (.getfield 23, 3) := by decide +kernel
theorem dX4_ifStatement_53 : decode cX4_ifStatement 53 = .ok (.getfield 106, 3) := by decide +kernel
theorem dX4_ifStatement_56 : decode cX4_ifStatement 56 = .ok (.invokevirtual 109, 3) := by decide +kernel
theorem dX4_ifStatement_59 : decode cX4_ifStatement 59 = .ok (.iconst 1, 1) := by decide +kernel
theorem dX4_ifStatement_60 : decode cX4_ifStatement 60 = .ok (.ireturn, 1) := by decide +kernel
theorem dX4_ifStatement_61 : decode cX4_ifStatement 61 = .ok (.aload_n 0, 1) := by decide +kernel
theorem dX4_ifStatement_62 : decode cX4_ifStatement 62 = .ok (.getfield 12, 3) := by decide +kernel
theorem dX4_ifStatement_65 : decode cX4_ifStatement 65 = .ok (.invokevirtual 52, 3) := by decide +kernel
theorem dX4_ifStatement_68 : decode cX4_ifStatement 68 = .ok (.aload_n 0, 1) := by decide +kernel
theorem dX4_ifStatement_69 : decode cX4_ifStatement 69 = .ok (.getfield 23, 3) := by decide +kernel
theorem dX4_ifStatement_72 : decode cX4_ifStatement 72 = .ok (.bipush 12, 2) := by decide +kernel
theorem dX4_ifStatement_74 : decode cX4_ifStatement 74 = .ok (.iconst 0, 1) := by decide +kernel
theorem dX4_ifStatement_75 : decode cX4_ifStatement 75 = .ok (.invokevirtual 96, 3) := by decide +kernel
theorem dX4_ifStatement_78 : decode cX4_ifStatement 78 = .ok (.istore 4, 2) := by decide +kernel
theorem dX4_ifStatement_80 : decode cX4_ifStatement 80 = .ok (.aload_n 0, 1) := by decide +kernel
theorem dX4_ifStatement_81 : decode cX4_ifStatement 81 = .ok (.getfield 23, 3) := by decide +kernel
theorem dX4_ifStatement_84 : decode cX4_ifStatement 84 = .ok (.iload_n 3, 1) := by decide +kernel
theorem dX4_ifStatement_85 : decode cX4_ifStatement 85 = .ok (.aload_n 0, 1) := by decide +kernel
theorem dX4_ifStatement_86 : decode cX4_ifStatement 86 = .ok (.getfield 23, 3) := by decide +kernel
theorem dX4_ifStatement_89 : decode cX4_ifStatement 89 = .ok (.getfield 106, 3) := by decide +kernel
theorem dX4_ifStatement_92 : decode cX4_ifStatement 92 = .ok (.invokevirtual 109, 3) := by decide +kernel
theorem dX4_ifStatement_95 : decode cX4_ifStatement 95 = .ok (.aload_n 0, 1) := by decide +kernel
theorem dX4_ifStatement_96 : decode cX4_ifStatement 96 = .ok (.iload_n 1, 1) := by decide +kernel
theorem dX4_ifStatement_97 : decode cX4_ifStatement 97 = .ok (.iload_n 2, 1) := by decide +kernel
theorem dX4_ifStatement_98 : decode cX4_ifStatement 98 = .ok (.invokevirtual 103, 3) := by decide +kernel
theorem dX4_ifStatement_101 : decode cX4_ifStatement 101 = .ok (.ifCond .ne 5, 3) := by decide +kernel
theorem dX4_ifStatement_104 : decode cX4_ifStatement 104 = .ok (.iconst 0, 1) := by decide +kernel
theorem dX4_ifStatement_105 : decode cX4_ifStatement 105 = .ok (.ireturn, 1) := by decide +kernel
theorem dX4_ifStatement_106 : decode cX4_ifStatement 106 = .ok (.aload_n 0, 1) := by decide +kernel
theorem dX4_ifStatement_107 : decode cX4_ifStatement 107 = .ok (.getfield 23, 3) := by decide +kernel
theorem dX4_ifStatement_110 : decode cX4_ifStatement 110 = .ok (.iload 4, 2) := by decide +kernel
theorem dX4_ifStatement_112 : decode cX4_ifStatement 112 = .ok (.aload_n 0, 1) := by decide +kernel
theorem dX4_ifStatement_113 : decode cX4_ifStatement 113 = .ok (.getfield 23, 3) := by decide +kernel
theorem dX4_ifStatement_116 : decode cX4_ifStatement 116 = .ok (.getfield 106, 3) := by decide +kernel
theorem dX4_ifStatement_119 : decode cX4_ifStatement 119 = .ok (.invokevirtual 109, 3) := by decide +kernel
theorem dX4_ifStatement_122 : decode cX4_ifStatement 122 = .ok (.iconst 1, 1) := by decide +kernel
theorem dX4_ifStatement_123 : decode cX4_ifStatement 123 = .ok (.ireturn, 1) := by decide +kernel
theorem dX4_init_0 : decode cX4_init 0 = .ok (.aload_n 0, 1) := by decide +kernel
theorem dX4_init_1 : decode cX4_init 1 = .ok (.invokespecial 3, 3) := by decide +kernel
theorem dX4_init_4 : decode cX4_init 4 = .ok (.aload_n 0, 1) := by decide +kernel
theorem dX4_init_5 : decode cX4_init 5 = .ok (.new 9, 3) := by decide +kernel
theorem dX4_init_8 : decode cX4_init 8 = .ok (.dup, 1) := by decide +kernel
theorem dX4_init_9 : decode cX4_init 9 = .ok (.invokespecial 11, 3) := by decide +kernel
theorem dX4_init_12 : decode cX4_init 12 = .ok (.putfield 12, 3) := by decide +kernel
theorem dX4_init_15 : decode cX4_init 15 = .ok (.aload_n 0, 1) := by decide +kernel
theorem dX4_init_16 : decode cX4_init 16 = .ok (.new 18, 3) := by decide +kernel
theorem dX4_init_19 : decode cX4_init 19 = .ok (.dup, 1) := by decide +kernel
theorem dX4_init_20 : decode cX4_init 20 = .ok (.sipush 1000, 3) := by decide +kernel
theorem dX4_init_23 : decode cX4_init 23 = .ok (.invokespecial 20, 3) := by decide +kernel
theorem dX4_init_26 : decode cX4_init 26 = .ok (.putfield 23, 3) := by decide +kernel
theorem dX4_init_29 : decode cX4_init 29 = .ok (.aload_n 0, 1) := by decide +kernel
theorem dX4_init_30 : decode cX4_init 30 = .ok (.iconst (-1), 1) := by decide +kernel
theorem dX4_init_31 : decode cX4_init 31 = .ok (.putfield 27, 3) := by decide +kernel
theorem dX4_init_34 : decode cX4_init 34 = .ok (.return_, 1) := by decide +kernel
theorem dX4_leaf_0 : decode cX4_leaf 0 = .ok (.aload_n 0, 1) := by decide +kernel
theorem dX4_leaf_1 : decode cX4_leaf 1 = .ok (.getfield 23, 3) := by decide +kernel
theorem dX4_leaf_4 : decode cX4_leaf 4 = .ok (.iload_n 1, 1) := by decide +kernel
theorem dX4_leaf_5 : decode cX4_leaf 5 = .ok (.aload_n 0, 1) := by decide +kernel
theorem dX4_leaf_6 : decode cX4_leaf 6 = .ok (.getfield 12, 3) := by decide +kernel
theorem dX4_leaf_9 : decode cX4_leaf 9 = .ok (.getfield 90, 3) := by decide +kernel
theorem dX4_leaf_12 : decode cX4_leaf 12 = .ok (.invokevirtual 96, 3) := by decide +kernel
theorem dX4_leaf_15 : decode cX4_leaf 15 = .ok (.pop, 1) := by decide +kernel
theorem dX4_leaf_16 : decode cX4_leaf 16 = .ok (.aload_n 0, 1) := by decide +kernel
theorem dX4_leaf_17 : decode cX4_leaf 17 = .ok (.getfield 12, 3) := by decide +kernel
theorem dX4_leaf_20 : decode cX4_leaf 20 = .ok (.invokevirtual 52, 3) := by decide +kernel
theorem dX4_leaf_23 : decode cX4_leaf 23 = .ok (.iconst 1, 1) := by decide +kernel
theorem dX4_leaf_24 : decode cX4_leaf 24 = .ok (.ireturn, 1) := by decide +kernel
theorem dX4_levelStatement_0 : decode cX4_levelStatement 0 = .ok (.aload_n 0, 1) := by decide +kernel
theorem dX4_levelStatement_1 : decode cX4_levelStatement 1 = .ok (.getfield 12, 3) := by decide +kernel
theorem dX4_levelStatement_4 : decode cX4_levelStatement 4 = .ok (.invokevirtual 52, 3) := by decide +kernel
theorem dX4_levelStatement_7 : decode cX4_levelStatement 7 = .ok (.aload_n 0, 1) := by decide +kernel
theorem dX4_levelStatement_8 : decode cX4_levelStatement 8 = .ok (.getfield 23, 3) := by decide +kernel
theorem dX4_levelStatement_11 : decode cX4_levelStatement 11 = .ok (.bipush 16, 2) := by decide +kernel
theorem dX4_levelStatement_13 : decode cX4_levelStatement 13 = .ok (.iconst (-1), 1) := by decide +kernel
theorem dX4_levelStatement_14 : decode cX4_levelStatement 14 = .ok (.invokevirtual 96, 3) := by decide +kernel
theorem dX4_levelStatement_17 : decode cX4_levelStatement 17 = .ok (.istore_n 3, 1) := by decide +kernel
theorem dX4_levelStatement_18 : decode cX4_levelStatement 18 = .ok (.aload_n 0, 1) := by decide +kernel
theorem dX4_levelStatement_19 : decode cX4_levelStatement 19 = .ok (.iconst 1, 1) := by decide +kernel
theorem dX4_levelStatement_20 : decode cX4_levelStatement 20 = .ok (.iload_n 2, 1) := by decide +kernel
theorem dX4_levelStatement_21 : decode cX4_levelStatement 21 = .ok (.invokevirtual 103, 3) := by decide +kernel
theorem dX4_levelStatement_24 : decode cX4_levelStatement 24 = .ok (.ifCond .ne 5, 3) := by decide +kernel
theorem dX4_levelStatement_27 : decode cX4_levelStatement 27 = .ok (.iconst 0, 1) := by decide +kernel
theorem dX4_levelStatement_28 : decode cX4_levelStatement 28 = .ok (.ireturn, 1) := by decide +kernel
theorem dX4_levelStatement_29 : decode cX4_levelStatement 29 = .ok (.aload_n 0, 1) := by decide +kernel
theorem dX4_levelStatement_30 : decode cX4_levelStatement 30 = .ok (.getfield 23, 3) := by decide +kernel
theorem dX4_levelStatement_33 : decode cX4_levelStatement 33 = .ok (.bipush 17, 2) := by decide +kernel
theorem dX4_levelStatement_35 : decode cX4_levelStatement 35 = .ok (.iconst 0, 1) := by decide +kernel
theorem dX4_levelStatement_36 : decode cX4_levelStatement 36 = .ok (.invokevirtual 96, 3) := by decide +kernel
theorem dX4_levelStatement_39 : decode cX4_levelStatement 39 = .ok (.istore 4, 2) := by decide +kernel
theorem dX4_levelStatement_41 : decode cX4_levelStatement 41 = .ok (.aload_n 0, 1) := by decide +kernel
theorem dX4_levelStatement_42 : decode cX4_levelStatement 42 = .ok (.getfield 12, 3) := by decide +kernel
theorem dX4_levelStatement_45 : decode cX4_levelStatement 45 = .ok (.getfield 42, 3) := by decide +kernel
theorem dX4_levelStatement_48 : decode cX4_levelStatement 48 = .ok (.bipush 11, 2) := by decide +kernel
theorem dX4_levelStatement_50 : decode cX4_levelStatement 50 = .ok (.if_icmp .ne 50, 3) := by decide +kernel
theorem dX4_levelStatement_53 : decode cX4_levelStatement 53 = .ok (.aload_n 0, 1) := by decide +kernel
theorem dX4_levelStatement_54 : decode cX4_levelStatement 54 = .ok (.getfield 12, 3) := by decide +kernel
theorem dX4_levelStatement_57 : decode cX4_levelStatement 57 = .ok (.invokevirtual 52, 3) := by decide +kernel
theorem dX4_levelStatement_60 : decode cX4_levelStatement 60 = .ok (.aload_n 0, 1) := by decide +kernel
theorem dX4_levelStatement_61 : decode cX4_levelStatement 61 = .ok (.getfield 23, 3) := by decide +kernel
theorem dX4_levelStatement_64 : decode cX4_levelStatement 64 = .ok (.iload_n 3, 1) := by decide +kernel
theorem dX4_levelStatement_65 : decode cX4_levelStatement 65 = .ok (.aload_n 0, 1) := by decide +kernel
theorem dX4_levelStatement_66 : decode cX4_levelStatement 66 = .ok (.getfield 23, 3) := by decide +kernel
theorem dX4_levelStatement_69 : decode cX4_levelStatement 69 = .ok (.getfield 106, 3) := by decide +kernel
theorem dX4_levelStatement_72 : decode cX4_levelStatement 72 = .ok (.invokevirtual 109, 3) := by decide +kernel
theorem dX4_levelStatement_75 : decode cX4_levelStatement 75 = .ok (.aload_n 0, 1) := by decide +kernel
theorem dX4_levelStatement_76 : decode cX4_levelStatement 76 = .ok (.iconst 1, 1) := by decide +kernel
theorem dX4_levelStatement_77 : decode cX4_levelStatement 77 = .ok (.iload_n 2, 1) := by decide +kernel
theorem dX4_levelStatement_78 : decode cX4_levelStatement 78 = .ok (.invokevirtual 103, 3) := by decide +kernel
theorem dX4_levelStatement_81 : decode cX4_levelStatement 81 = .ok (.ifCond .ne 5, 3) := by decide +kernel
theorem dX4_levelStatement_84 : decode cX4_levelStatement 84 = .ok (.iconst 0, 1) := by decide +kernel
theorem dX4_levelStatement_85 : decode cX4_levelStatement 85 = .ok (.ireturn, 1) := by decide +kernel
theorem dX4_levelStatement_86 : decode cX4_levelStatement 86 = .ok (.aload_n 0, 1) := by decide +kernel
theorem dX4_levelStatement_87 : decode cX4_levelStatement 87 = .ok (.getfield 23, 3) := by decide +kernel
theorem dX4_levelStatement_90 : decode cX4_levelStatement 90 = .ok (.bipush 17, 2) := by decide +kernel
theorem dX4_levelStatement_92 : decode cX4_levelStatement 92 = .ok (.iconst 0, 1) := by decide +kernel
theorem dX4_levelStatement_93 : decode cX4_levelStatement 93 = .ok (.invokevirtual 96, 3) := by decide +kernel
theorem dX4_levelStatement_96 : decode cX4_levelStatement 96 = .ok (.pop, 1) := by decide +kernel
theorem dX4_levelStatement_97 : decode cX4_levelStatement 97 = .ok (.goto 26, 3) := by decide +kernel
theorem dX4_levelStatement_100 : decode cX4_levelStatement 100 = .ok (.iload_n 1, 1) := by decide +kernel
theorem dX4_levelStatement_101 : decode cX4_levelStatement 101 = .ok (.ifCond .eq 22, 3) := by decide +kernel
theorem dX4_levelStatement_104 : decode cX4_levelStatement 104 = .ok (.aload_n 0, 1) := by decide +kernel
theorem dX4_levelStatement_105 : decode cX4_levelStatement 105 = .ok (.getfield 23, 3) := by decide +kernel
theorem dX4_levelStatement_108 : decode cX4_levelStatement 108 = .ok (.iload_n 3, 1) := by decide +kernel
theorem dX4_levelStatement_109 : decode cX4_levelStatement 109 = .ok (.iconst 0, 1) := by decide +kernel
theorem dX4_levelStatement_110 : decode cX4_levelStatement 110 = .ok (.invokevirtual 113, 3) := by decide +kernel
theorem dX4_levelStatement_113 : decode cX4_levelStatement 113 = .ok (.aload_n 0, 1) := by decide +kernel
theorem dX4_levelStatement_114 : decode cX4_levelStatement 114 = .ok (.getfield 23, 3) := by decide +kernel
theorem dX4_levelStatement_117 : decode cX4_levelStatement 117 = .ok (.iload 4, 2) := by decide +kernel
theorem dX4_levelStatement_119 : decode cX4_levelStatement 119 = .ok (.iconst 0, 1) := by decide +kernel
theorem dX4_levelStatement_120 : decode cX4_levelStatement 120 = .ok (.invokevirtual 113, 3) := by decide +kernel
theorem dX4_levelStatement_123 : decode cX4_levelStatement 123 = .ok (.aload_n 0, 1) := by decide +kernel
theorem dX4_levelStatement_124 : decode cX4_levelStatement 124 = .ok (.getfield 23, 3) := by decide +kernel
theorem dX4_levelStatement_127 : decode cX4_levelStatement 127 = .ok (.iload_n 3, 1) := by decide +kernel
theorem dX4_levelStatement_128 : decode cX4_levelStatement 128 = .ok (.aload_n 0, 1) := by decide +kernel
theorem dX4_levelStatement_129 : decode cX4_levelStatement 129 = .ok (.getfield 23, 3) := by decide +kernel
theorem dX4_levelStatement_132 : decode cX4_levelStatement 132 = .ok (.getfield 106, 3) := by decide +kernel
theorem dX4_levelStatement_135 : decode cX4_levelStatement 135 = .ok (.invokevirtual 116, 3) := by decide +kernel
theorem dX4_levelStatement_138 : decode cX4_levelStatement 138 = .ok (.iconst 1, 1) := by decide +kernel
theorem dX4_levelStatement_139 : decode cX4_levelStatement 139 = .ok (.ireturn, 1) := by decide +kernel
theorem dX4_parse_0 : decode cX4_parse 0 = .ok (.aload_n 0, 1) := by decide +kernel
theorem dX4_parse_1 : decode cX4_parse 1 = .ok (.getfield 23, 3) := by decide +kernel
theorem dX4_parse_4 : decode cX4_parse 4 = .ok (.invokevirtual 31, 3) := by decide +kernel
theorem dX4_parse_7 : decode cX4_parse 7 = .ok (.aload_n 0, 1) := by decide +kernel
theorem dX4_parse_8 : decode cX4_parse 8 = .ok (.iconst (-1), 1) := by decide +kernel
theorem dX4_parse_9 : decode cX4_parse 9 = .ok (.putfield 27, 3) := by decide +kernel
theorem dX4_parse_12 : decode cX4_parse 12 = .ok (.aload_n 0, 1) := by decide +kernel
theorem dX4_parse_13 : decode cX4_parse 13 = .ok (.getfield 12, 3) := by decide +kernel
theorem dX4_parse_16 : decode cX4_parse 16 = .ok (.aload_n 1, 1) := by decide +kernel
theorem dX4_parse_17 : decode cX4_parse 17 = .ok (.iload_n 2, 1) := by decide +kernel
theorem dX4_parse_18 : decode cX4_parse 18 = .ok (.invokevirtual 34, 3) := by decide +kernel
theorem dX4_parse_21 : decode cX4_parse 21 = .ok (.aload_n 0, 1) := by decide +kernel
theorem dX4_parse_22 : decode cX4_parse 22 = .ok (.iconst 0, 1) := by decide +kernel
theorem dX4_parse_23 : decode cX4_parse 23 = .ok (.iconst 0, 1) := by decide +kernel
theorem dX4_parse_24 : decode cX4_parse 24 = .ok (.invokevirtual 38, 3) := by decide +kernel
theorem dX4_parse_27 : decode cX4_parse 27 = .ok (.ifCond .eq 24, 3) := by decide +kernel
theorem dX4_parse_30 : decode cX4_parse 30 = .ok (.aload_n 0, 1) := by decide +kernel
theorem dX4_parse_31 : decode cX4_parse 31 = .ok (.getfield 12, 3) := by decide +kernel
theorem dX4_parse_34 : decode cX4_parse 34 = .ok (.getfield 42, 3) := by decide +kernel
theorem dX4_parse_37 : decode cX4_parse 37 = .ok (.ifCond .eq 10, 3) := by decide +kernel
theorem dX4_parse_40 : decode cX4_parse 40 = .ok (.aload_n 0, 1) := by decide +kernel
theorem dX4_parse_41 : decode cX4_parse 41 = .ok (.invokevirtual 45, 3) := by decide +kernel
theorem dX4_parse_44 : decode cX4_parse 44 = .ok (.ifCond .eq 7, 3) := by decide +kernel
theorem dX4_parse_47 : decode cX4_parse 47 = .ok (.iconst 1, 1) := by decide +kernel
theorem dX4_parse_48 : decode cX4_parse 48 = .ok (.goto 4, 3) := by decide +kernel
theorem dX4_parse_51 : decode cX4_parse 51 = .ok (.iconst 0, 1) := by decide +kernel
theorem dX4_parse_52 : decode cX4_parse 52 = .ok (.ireturn, 1) := by decide +kernel
theorem dX4_product_0 : decode cX4_product 0 = .ok (.aload_n 0, 1) := by decide +kernel
theorem dX4_product_1 : decode cX4_product 1 = .ok (.iload_n 1, 1) := by decide +kernel
theorem dX4_product_2 : decode cX4_product 2 = .ok (.invokevirtual 125, 3) := by decide +kernel
theorem dX4_product_5 : decode cX4_product 5 = .ok (.ifCond .ne 5, 3) := by decide +kernel
theorem dX4_product_8 : decode cX4_product 8 = .ok (.iconst 0, 1) := by decide +kernel
theorem dX4_product_9 : decode cX4_product 9 = .ok (.ireturn, 1) := by decide +kernel
theorem dX4_product_10 : decode cX4_product 10 = .ok (.iconst 0, 1) := by decide +kernel
theorem dX4_product_11 : decode cX4_product 11 = .ok (.istore_n 2, 1) := by decide +kernel
theorem dX4_product_12 : decode cX4_product 12 = .ok (.iload_n 2, 1) := by decide +kernel
theorem dX4_product_13 : decode cX4_product 13 = .ok (.sipush 1000, 3) := by decide +kernel
theorem dX4_product_16 : decode cX4_product 16 = .ok (.if_icmp .gt 51, 3) := by decide +kernel
theorem dX4_product_19 : decode cX4_product 19 = .ok (.aload_n 0, 1) := by decide +kernel
theorem dX4_product_20 : decode cX4_product 20 = .ok (.getfield 12, 3) := by decide +kernel
theorem dX4_product_23 : decode cX4_product 23 = .ok (.getfield 42, 3) := by decide +kernel
theorem dX4_product_26 : decode cX4_product 26 = .ok (.bipush 27, 2) := by decide +kernel
theorem dX4_product_28 : decode cX4_product 28 = .ok (.if_icmp .eq 5, 3) := by decide +kernel
theorem dX4_product_31 : decode cX4_product 31 = .ok (.iconst 1, 1) := by decide +kernel
theorem dX4_product_32 : decode cX4_product 32 = .ok (.ireturn, 1) := by decide +kernel
theorem dX4_product_33 : decode cX4_product 33 = .ok (.aload_n 0, 1) := by decide +kernel
theorem dX4_product_34 : decode cX4_product 34 = .ok (.getfield 12, 3) := by decide +kernel
theorem dX4_product_37 : decode cX4_product 37 = .ok (.invokevirtual 52, 3) := by decide +kernel
theorem dX4_product_40 : decode cX4_product 40 = .ok (.aload_n 0, 1) := by decide +kernel
theorem dX4_product_41 : decode cX4_product 41 = .ok (.iload_n 1, 1) := by decide +kernel
theorem dX4_product_42 : decode cX4_product 42 = .ok (.invokevirtual 125, 3) := by decide +kernel
theorem dX4_product_45 : decode cX4_product 45 = .ok (.ifCond .ne 5, 3) := by decide +kernel
theorem dX4_product_48 : decode cX4_product 48 = .ok (.iconst 0, 1) := by decide +kernel
theorem dX4_product_49 : decode cX4_product 49 = .ok (.ireturn, 1) := by decide +kernel
theorem dX4_product_50 : decode cX4_product 50 = .ok (.aload_n 0, 1) := by decide +kernel
theorem dX4_product_51 : decode cX4_product 51 = .ok (.getfield 23, 3) := by decide +kernel
theorem dX4_product_54 : decode cX4_product 54 = .ok (.bipush 6, 2) := by decide +kernel
theorem dX4_product_56 : decode cX4_product 56 = .ok (.iconst 0, 1) := by decide +kernel
theorem dX4_product_57 : decode cX4_product 57 = .ok (.invokevirtual 96, 3) := by decide +kernel
theorem dX4_product_60 : decode cX4_product 60 = .ok (.pop, 1) := by decide +kernel
theorem dX4_product_61 : decode cX4_product 61 = .ok (.iinc 2 1, 3) := by decide +kernel
theorem dX4_product_64 : decode cX4_product 64 = .ok (.goto (-52), 3) := by decide +kernel
theorem dX4_product_67 : decode cX4_product 67 = .ok (.aload_n 0, 1) := by decide +kernel
theorem dX4_product_68 : decode cX4_product 68 = .ok (.invokevirtual 45, 3) := by decide +kernel
theorem dX4_product_71 : decode cX4_product 71 = .ok (.ireturn, 1) := by decide +kernel
theorem dX4_simple_0 : decode cX4_simple 0 = .ok (.aload_n 0, 1) := by decide +kernel
theorem dX4_simple_1 : decode cX4_simple 1 = .ok (.getfield 12, 3) := by decide +kernel
theorem dX4_simple_4 : decode cX4_simple 4 = .ok (.getfield 42, 3) := by decide +kernel
theorem dX4_simple_7 : decode cX4_simple 7 = .ok (.lookupswitch 94 #[(2, 47), (3, 53), (4, 41), (26, 59)], 41) := by decide +kernel
theorem dX4_simple_48 : decode cX4_simple 48 = .ok (.aload_n 0, 1) := by decide +kernel
theorem dX4_simple_49 : decode cX4_simple 49 = .ok (.iconst 1, 1) := by decide +kernel
theorem dX4_simple_50 : decode cX4_simple 50 = .ok (.invokevirtual 128, 3) := by decide +kernel
theorem dX4_simple_53 : decode cX4_simple 53 = .ok (.ireturn, 1) := by decide +kernel
theorem dX4_simple_54 : decode cX4_simple 54 = .ok (.aload_n 0, 1) := by decide +kernel
theorem dX4_simple_55 : decode cX4_simple 55 = .ok (.iconst 3, 1) := by decide +kernel
theorem dX4_simple_56 : decode cX4_simple 56 = .ok (.invokevirtual 128, 3) := by decide +kernel
theorem dX4_simple_59 : decode cX4_simple 59 = .ok (.ireturn, 1) := by decide +kernel
theorem dX4_simple_60 : decode cX4_simple 60 = .ok (.aload_n 0, 1) := by decide +kernel
theorem dX4_simple_61 : decode cX4_simple 61 = .ok (.iconst 2, 1) := by decide +kernel
theorem dX4_simple_62 : decode cX4_simple 62 = .ok (.invokevirtual 128, 3) := by decide +kernel
theorem dX4_simple_65 : decode cX4_simple 65 = .ok (.ireturn, 1) := by decide +kernel
theorem dX4_simple_66 : decode cX4_simple 66 = .ok (.aload_n 0, 1) := by decide +kernel
theorem dX4_simple_67 : decode cX4_simple 67 = .ok (.bipush 26, 2) := by decide +kernel
theorem dX4_simple_69 : decode cX4_simple 69 = .ok (.iload_n 1, 1) := by decide +kernel
theorem dX4_simple_70 : decode cX4_simple 70 = .ok (.invokevirtual 62, 3) := by decide +kernel
theorem dX4_simple_73 : decode cX4_simple 73 = .ok (.ifCond .eq 13, 3) := by decide +kernel
theorem dX4_simple_76 : decode cX4_simple 76 = .ok (.aload_n 0, 1) := by decide +kernel
theorem dX4_simple_77 : decode cX4_simple 77 = .ok (.iload_n 1, 1) := by decide +kernel
theorem dX4_simple_78 : decode cX4_simple 78 = .ok (.iconst 1, 1) := by decide +kernel
theorem dX4_simple_79 : decode cX4_simple 79 = .ok (.iadd, 1) := by decide +kernel
theorem dX4_simple_80 : decode cX4_simple 80 = .ok (.invokevirtual 125, 3) := by decide +kernel
theorem dX4_simple_83 : decode cX4_simple 83 = .ok (.ifCond .ne 5, 3) := by decide +kernel
theorem dX4_simple_86 : decode cX4_simple 86 = .ok (.iconst 0, 1) := by decide +kernel
theorem dX4_simple_87 : decode cX4_simple 87 = .ok (.ireturn, 1) := by decide +kernel
theorem dX4_simple_88 : decode cX4_simple 88 = .ok (.aload_n 0, 1) := by decide +kernel
theorem dX4_simple_89 : decode cX4_simple 89 = .ok (.getfield 23, 3) := by decide +kernel
theorem dX4_simple_92 : decode cX4_simple 92 = .ok (.bipush 9, 2) := by decide +kernel
theorem dX4_simple_94 : decode cX4_simple 94 = .ok (.iconst 0, 1) := by decide +kernel
theorem dX4_simple_95 : decode cX4_simple 95 = .ok (.invokevirtual 96, 3) := by decide +kernel
theorem dX4_simple_98 : decode cX4_simple 98 = .ok (.pop, 1) := by decide +kernel
theorem dX4_simple_99 : decode cX4_simple 99 = .ok (.iconst 1, 1) := by decide +kernel
theorem dX4_simple_100 : decode cX4_simple 100 = .ok (.ireturn, 1) := by decide +kernel
theorem dX4_simple_101 : decode cX4_simple 101 = .ok (.aload_n 0, 1) := by decide +kernel
theorem dX4_simple_102 : decode cX4_simple 102 = .ok (.bipush 19, 2) := by decide +kernel
theorem dX4_simple_104 : decode cX4_simple 104 = .ok (.iload_n 1, 1) := by decide +kernel
theorem dX4_simple_105 : decode cX4_simple 105 = .ok (.invokevirtual 62, 3) := by decide +kernel
theorem dX4_simple_108 : decode cX4_simple 108 = .ok (.ifCond .eq 26, 3) := by decide +kernel
theorem dX4_simple_111 : decode cX4_simple 111 = .ok (.aload_n 0, 1) := by decide +kernel
theorem dX4_simple_112 : decode cX4_simple 112 = .ok (.iload_n 1, 1) := by decide +kernel
theorem dX4_simple_113 : decode cX4_simple 113 = .ok (.iconst 1, 1) := by decide +kernel
theorem dX4_simple_114 : decode cX4_simple 114 = .ok (.iadd, 1) := by decide +kernel
theorem dX4_simple_115 : decode cX4_simple 115 = .ok (.invokevirtual 93, 3) := by decide +kernel
theorem dX4_simple_118 : decode cX4_simple 118 = .ok (.ifCond .eq 16, 3) := by decide +kernel
theorem dX4_simple_121 : decode cX4_simple 121 = .ok (.aload_n 0, 1) := by decide +kernel
theorem dX4_simple_122 : decode cX4_simple 122 = .ok (.bipush 20, 2) := by decide +kernel
theorem dX4_simple_124 : decode cX4_simple 124 = .ok (.invokevirtual 55, 3) := by decide +kernel
theorem dX4_simple_127 : decode cX4_simple 127 = .ok (.ifCond .eq 7, 3) := by decide +kernel
theorem dX4_simple_130 : decode cX4_simple 130 = .ok (.iconst 1, 1) := by decide +kernel
theorem dX4_simple_131 : decode cX4_simple 131 = .ok (.goto 4, 3) := by decide +kernel
theorem dX4_simple_134 : decode cX4_simple 134 = .ok (.iconst 0, 1) := by decide +kernel
theorem dX4_simple_135 : decode cX4_simple 135 = .ok (.ireturn, 1) := by decide +kernel
theorem dX4_statement_0 : decode cX4_statement 0 = .ok (.aload_n 0, 1) := by decide +kernel
theorem dX4_statement_1 : decode cX4_statement 1 = .ok (.getfield 23, 3) := by decide +kernel
theorem dX4_statement_4 : decode cX4_statement 4 = .ok (.getfield 66, 3) := by decide +kernel
theorem dX4_statement_7 : decode cX4_statement 7 = .ok (.sipush 300, 3) := by decide +kernel
theorem dX4_statement_10 : decode cX4_statement 10 = .ok (.if_icmp .lt 8, 3) := by decide +kernel
theorem dX4_statement_13 : decode cX4_statement 13 = .ok (.aload_n 0, 1) := by decide +kernel
theorem dX4_statement_14 : decode cX4_statement 14 = .ok (.invokevirtual 45, 3) := by decide +kernel
theorem dX4_statement_17 : decode cX4_statement 17 = .ok (.ireturn, 1) := by decide +kernel
theorem dX4_statement_18 : decode cX4_statement 18 = .ok (.aload_n 0, 1) := by decide +kernel
theorem dX4_statement_19 : decode cX4_statement 19 = .ok (.getfield 23, 3) := by decide +kernel
theorem dX4_statement_22 : decode cX4_statement 22 = .ok (.dup, 1) := by decide +kernel
theorem dX4_statement_23 : decode cX4_statement 23 = .ok (.getfield 66, 3) := by decide +kernel
theorem dX4_statement_26 : decode cX4_statement 26 = .ok (.iconst 1, 1) := by decide +kernel
theorem dX4_statement_27 : decode cX4_statement 27 = .ok (.iadd, 1) := by decide +kernel
theorem dX4_statement_28 : decode cX4_statement 28 = .ok (.putfield 66, 3) := by decide +kernel
theorem dX4_statement_31 : decode cX4_statement 31 = .ok (.aload_n 0, 1) := by decide +kernel
theorem dX4_statement_32 : decode cX4_statement 32 = .ok (.getfield 12, 3) := by decide +kernel
theorem dX4_statement_35 : decode cX4_statement 35 = .ok (.getfield 42, 3) := by decide +kernel
theorem dX4_statement_38 : decode cX4_statement 38 = .ok (.tableswitch 153 2 15 #[70, 78, 153, 86, 153, 93, 100, 116, 123, 153, 130, 138, 108, 146], 70) := by decide +kernel
theorem dX4_statement_108 : decode cX4_statement 108 = .ok (.aload_n 0, 1) := by decide +kernel
theorem dX4_statement_109 : decode cX4_statement 109 = .ok (.bipush 11, 2) := by decide +kernel
theorem dX4_statement_111 : decode cX4_statement 111 = .ok (.iload_n 2, 1) := by decide +kernel
theorem dX4_statement_112 : decode cX4_statement 112 = .ok (.invokevirtual 68, 3) := by decide +kernel
theorem dX4_statement_115 : decode cX4_statement 115 = .ok (.ireturn, 1) := by decide +kernel
theorem dX4_statement_116 : decode cX4_statement 116 = .ok (.aload_n 0, 1) := by decide +kernel
theorem dX4_statement_117 : decode cX4_statement 117 = .ok (.bipush 10, 2) := by decide +kernel
theorem dX4_statement_119 : decode cX4_statement 119 = .ok (.iload_n 2, 1) := by decide +kernel
theorem dX4_statement_120 : decode cX4_statement 120 = .ok (.invokevirtual 68, 3) := by decide +kernel
theorem dX4_statement_123 : decode cX4_statement 123 = .ok (.ireturn, 1) := by decide +kernel
theorem dX4_statement_124 : decode cX4_statement 124 = .ok (.aload_n 0, 1) := by decide +kernel
theorem dX4_statement_125 : decode cX4_statement 125 = .ok (.iload_n 1, 1) := by decide +kernel
theorem dX4_statement_126 : decode cX4_statement 126 = .ok (.iload_n 2, 1) := by decide +kernel
theorem dX4_statement_127 : decode cX4_statement 127 = .ok (.invokevirtual 71, 3) := by decide +kernel
theorem dX4_statement_130 : decode cX4_statement 130 = .ok (.ireturn, 1) := by decide +kernel
theorem dX4_statement_131 : decode cX4_statement 131 = .ok (.aload_n 0, 1) := by decide +kernel
theorem dX4_statement_132 : decode cX4_statement 132 = .ok (.iload_n 1, 1) := by decide +kernel
theorem dX4_statement_133 : decode cX4_statement 133 = .ok (.iload_n 2, 1) := by decide +kernel
theorem dX4_statement_134 : decode cX4_statement 134 = .ok (.invokevirtual 74, 3) := by decide +kernel
theorem dX4_statement_137 : decode cX4_statement 137 = .ok (.ireturn, 1) := by decide +kernel
theorem dX4_statement_138 : decode cX4_statement 138 = .ok (.aload_n 0, 1) := by decide +kernel
theorem dX4_statement_139 : decode cX4_statement 139 = .ok (.bipush 15, 2) := by decide +kernel
theorem dX4_statement_141 : decode cX4_statement 141 = .ok (.iload_n 2, 1) := by decide +kernel
theorem dX4_statement_142 : decode cX4_statement 142 = .ok (.invokevirtual 77, 3) := by decide +kernel
theorem dX4_statement_145 : decode cX4_statement 145 = .ok (.ireturn, 1) := by decide +kernel
theorem dX4_statement_146 : decode cX4_statement 146 = .ok (.aload_n 0, 1) := by decide +kernel
theorem dX4_statement_147 : decode cX4_statement 147 = .ok (.bipush 20, 2) := by decide +kernel
theorem dX4_statement_149 : decode cX4_statement 149 = .ok (.iload_n 2, 1) := by decide +kernel
theorem dX4_statement_150 : decode cX4_statement 150 = .ok (.invokevirtual 77, 3) := by decide +kernel
theorem dX4_statement_153 : decode cX4_statement 153 = .ok (.ireturn, 1) := by decide +kernel
theorem dX4_statement_154 : decode cX4_statement 154 = .ok (.aload_n 0, 1) := by decide +kernel
theorem dX4_statement_155 : decode cX4_statement 155 = .ok (.iload_n 1, 1) := by decide +kernel
theorem dX4_statement_156 : decode cX4_statement 156 = .ok (.iload_n 2, 1) := by decide +kernel
theorem dX4_statement_157 : decode cX4_statement 157 = .ok (.invokevirtual 80, 3) := by decide +kernel
theorem dX4_statement_160 : decode cX4_statement 160 = .ok (.ireturn, 1) := by decide +kernel
theorem dX4_statement_161 : decode cX4_statement 161 = .ok (.aload_n 0, 1) := by decide +kernel
theorem dX4_statement_162 : decode cX4_statement 162 = .ok (.iconst 0, 1) := by decide +kernel
theorem dX4_statement_163 : decode cX4_statement 163 = .ok (.iload_n 2, 1) := by decide +kernel
theorem dX4_statement_164 : decode cX4_statement 164 = .ok (.invokevirtual 80, 3) := by decide +kernel
theorem dX4_statement_167 : decode cX4_statement 167 = .ok (.ireturn, 1) := by decide +kernel
theorem dX4_statement_168 : decode cX4_statement 168 = .ok (.aload_n 0, 1) := by decide +kernel
theorem dX4_statement_169 : decode cX4_statement 169 = .ok (.bipush 18, 2) := by decide +kernel
theorem dX4_statement_171 : decode cX4_statement 171 = .ok (.iload_n 1, 1) := by decide +kernel
theorem dX4_statement_172 : decode cX4_statement 172 = .ok (.invokevirtual 83, 3) := by decide +kernel
theorem dX4_statement_175 : decode cX4_statement 175 = .ok (.ireturn, 1) := by decide +kernel
theorem dX4_statement_176 : decode cX4_statement 176 = .ok (.aload_n 0, 1) := by decide +kernel
theorem dX4_statement_177 : decode cX4_statement 177 = .ok (.bipush 19, 2) := by decide +kernel
theorem dX4_statement_179 : decode cX4_statement 179 = .ok (.iload_n 1, 1) := by decide +kernel
theorem dX4_statement_180 : decode cX4_statement 180 = .ok (.invokevirtual 83, 3) := by decide +kernel
theorem dX4_statement_183 : decode cX4_statement 183 = .ok (.ireturn, 1) := by decide +kernel
theorem dX4_statement_184 : decode cX4_statement 184 = .ok (.aload_n 0, 1) := by decide +kernel
theorem dX4_statement_185 : decode cX4_statement 185 = .ok (.iload_n 1, 1) := by decide +kernel
theorem dX4_statement_186 : decode cX4_statement 186 = .ok (.iload_n 2, 1) := by decide +kernel
theorem dX4_statement_187 : decode cX4_statement 187 = .ok (.invokevirtual 87, 3) := by decide +kernel
theorem dX4_statement_190 : decode cX4_statement 190 = .ok (.ireturn, 1) := by decide +kernel
theorem dX4_statement_191 : decode cX4_statement 191 = .ok (.aload_n 0, 1) := by decide +kernel
theorem dX4_statement_192 : decode cX4_statement 192 = .ok (.invokevirtual 45, 3) := by decide +kernel
theorem dX4_statement_195 : decode cX4_statement 195 = .ok (.ireturn, 1) := by decide +kernel
theorem dX4_statements_0 : decode cX4_statements 0 = .ok (.iconst 0, 1) := by decide +kernel
theorem dX4_statements_1 : decode cX4_statements 1 = .ok (.istore_n 3, 1) := by decide +kernel
theorem dX4_statements_2 : decode cX4_statements 2 = .ok (.iload_n 3, 1) := by decide +kernel
theorem dX4_statements_3 : decode cX4_statements 3 = .ok (.sipush 1000, 3) := by decide +kernel
theorem dX4_statements_6 : decode cX4_statements 6 = .ok (.if_icmp .gt 44, 3) := by decide +kernel
theorem dX4_statements_9 : decode cX4_statements 9 = .ok (.aload_n 0, 1) := by decide +kernel
theorem dX4_statements_10 : decode cX4_statements 10 = .ok (.getfield 12, 3) := by decide +kernel
theorem dX4_statements_13 : decode cX4_statements 13 = .ok (.getfield 42, 3) := by decide +kernel
theorem dX4_statements_16 : decode cX4_statements 16 = .ok (.ifCond .eq 15, 3) := by decide +kernel
theorem dX4_statements_19 : decode cX4_statements 19 = .ok (.aload_n 0, 1) := by decide +kernel
theorem dX4_statements_20 : decode cX4_statements 20 = .ok (.getfield 12, 3) := by decide +kernel
theorem dX4_statements_23 : decode cX4_statements 23 = .ok (.getfield 42, 3) := by decide +kernel
theorem dX4_statements_26 : decode cX4_statements 26 = .ok (.bipush 18, 2) := by decide +kernel
theorem dX4_statements_28 : decode cX4_statements 28 = .ok (.if_icmp .ne 5, 3) := by decide +kernel
theorem dX4_statements_31 : decode cX4_statements 31 = .ok (.iconst 1, 1) := by decide +kernel
theorem dX4_statements_32 : decode cX4_statements 32 = .ok (.ireturn, 1) := by decide +kernel
theorem dX4_statements_33 : decode cX4_statements 33 = .ok (.aload_n 0, 1) := by decide +kernel
theorem dX4_statements_34 : decode cX4_statements 34 = .ok (.iload_n 1, 1) := by decide +kernel
theorem dX4_statements_35 : decode cX4_statements 35 = .ok (.iload_n 2, 1) := by decide +kernel
theorem dX4_statements_36 : decode cX4_statements 36 = .ok (.invokevirtual 59, 3) := by decide +kernel
theorem dX4_statements_39 : decode cX4_statements 39 = .ok (.ifCond .ne 5, 3) := by decide +kernel
theorem dX4_statements_42 : decode cX4_statements 42 = .ok (.iconst 0, 1) := by decide +kernel
theorem dX4_statements_43 : decode cX4_statements 43 = .ok (.ireturn, 1) := by decide +kernel
theorem dX4_statements_44 : decode cX4_statements 44 = .ok (.iinc 3 1, 3) := by decide +kernel
theorem dX4_statements_47 : decode cX4_statements 47 = .ok (.goto (-45), 3) := by decide +kernel
theorem dX4_statements_50 : decode cX4_statements 50 = .ok (.aload_n 0, 1) := by decide +kernel
theorem dX4_statements_51 : decode cX4_statements 51 = .ok (.invokevirtual 45, 3) := by decide +kernel
theorem dX4_statements_54 : decode cX4_statements 54 = .ok (.ireturn, 1) := by decide +kernel
theorem dX4_sum_0 : decode cX4_sum 0 = .ok (.aload_n 0, 1) := by decide +kernel
theorem dX4_sum_1 : decode cX4_sum 1 = .ok (.iload_n 1, 1) := by decide +kernel
theorem dX4_sum_2 : decode cX4_sum 2 = .ok (.invokevirtual 122, 3) := by decide +kernel
theorem dX4_sum_5 : decode cX4_sum 5 = .ok (.ifCond .ne 5, 3) := by decide +kernel
theorem dX4_sum_8 : decode cX4_sum 8 = .ok (.iconst 0, 1) := by decide +kernel
theorem dX4_sum_9 : decode cX4_sum 9 = .ok (.ireturn, 1) := by decide +kernel
theorem dX4_sum_10 : decode cX4_sum 10 = .ok (.iconst 0, 1) := by decide +kernel
theorem dX4_sum_11 : decode cX4_sum 11 = .ok (.istore_n 2, 1) := by decide +kernel
theorem dX4_sum_12 : decode cX4_sum 12 = .ok (.iload_n 2, 1) := by decide +kernel
theorem dX4_sum_13 : decode cX4_sum 13 = .ok (.sipush 1000, 3) := by decide +kernel
theorem dX4_sum_16 : decode cX4_sum 16 = .ok (.if_icmp .gt 68, 3) := by decide +kernel
theorem dX4_sum_19 : decode cX4_sum 19 = .ok (.aload_n 0, 1) := by decide +kernel
theorem dX4_sum_20 : decode cX4_sum 20 = .ok (.getfield 12, 3) := by decide +kernel
theorem dX4_sum_23 : decode cX4_sum 23 = .ok (.getfield 42, 3) := by decide +kernel
theorem dX4_sum_26 : decode cX4_sum 26 = .ok (.istore_n 3, 1) := by decide +kernel
theorem dX4_sum_27 : decode cX4_sum 27 = .ok (.iload_n 3, 1) := by decide +kernel
theorem dX4_sum_28 : decode cX4_sum 28 = .ok (.bipush 25, 2) := by decide +kernel
theorem dX4_sum_30 : decode cX4_sum 30 = .ok (.if_icmp .eq 11, 3) := by decide +kernel
theorem dX4_sum_33 : decode cX4_sum 33 = .ok (.iload_n 3, 1) := by decide +kernel
theorem dX4_sum_34 : decode cX4_sum 34 = .ok (.bipush 26, 2) := by decide +kernel
theorem dX4_sum_36 : decode cX4_sum 36 = .ok (.if_icmp .eq 5, 3) := by decide +kernel
theorem dX4_sum_39 : decode cX4_sum 39 = .ok (.iconst 1, 1) := by decide +kernel
theorem dX4_sum_40 : decode cX4_sum 40 = .ok (.ireturn, 1) := by decide +kernel
theorem dX4_sum_41 : decode cX4_sum 41 = .ok (.aload_n 0, 1) := by decide +kernel
theorem dX4_sum_42 : decode cX4_sum 42 = .ok (.getfield 12, 3) := by decide +kernel
theorem dX4_sum_45 : decode cX4_sum 45 = .ok (.invokevirtual 52, 3) := by decide +kernel
theorem dX4_sum_48 : decode cX4_sum 48 = .ok (.aload_n 0, 1) := by decide +kernel
theorem dX4_sum_49 : decode cX4_sum 49 = .ok (.iload_n 1, 1) := by decide +kernel
theorem dX4_sum_50 : decode cX4_sum 50 = .ok (.invokevirtual 122, 3) := by decide +kernel
theorem dX4_sum_53 : decode cX4_sum 53 = .ok (.ifCond .ne 5, 3) := by decide +kernel
theorem dX4_sum_56 : decode cX4_sum 56 = .ok (.iconst 0, 1) := by decide +kernel
theorem dX4_sum_57 : decode cX4_sum 57 = .ok (.ireturn, 1) := by decide +kernel
theorem dX4_sum_58 : decode cX4_sum 58 = .ok (.aload_n 0, 1) := by decide +kernel
theorem dX4_sum_59 : decode cX4_sum 59 = .ok (.getfield 23, 3) := by decide +kernel
theorem dX4_sum_62 : decode cX4_sum 62 = .ok (.iload_n 3, 1) := by decide +kernel
theorem dX4_sum_63 : decode cX4_sum 63 = .ok (.bipush 25, 2) := by decide +kernel
theorem dX4_sum_65 : decode cX4_sum 65 = .ok (.if_icmp .ne 7, 3) := by decide +kernel
theorem dX4_sum_68 : decode cX4_sum 68 = .ok (.iconst 4, 1) := by decide +kernel
theorem dX4_sum_69 : decode cX4_sum 69 = .ok (.goto 4, 3) := by decide +kernel
theorem dX4_sum_72 : decode cX4_sum 72 = .ok (.iconst 5, 1) := by decide +kernel
theorem dX4_sum_73 : decode cX4_sum 73 = .ok (.iconst 0, 1) := by decide +kernel
theorem dX4_sum_74 : decode cX4_sum 74 = .ok (.invokevirtual 96, 3) := by decide +kernel
theorem dX4_sum_77 : decode cX4_sum 77 = .ok (.pop, 1) := by decide +kernel
theorem dX4_sum_78 : decode cX4_sum 78 = .ok (.iinc 2 1, 3) := by decide +kernel
theorem dX4_sum_81 : decode cX4_sum 81 = .ok (.goto (-69), 3) := by decide +kernel
theorem dX4_sum_84 : decode cX4_sum 84 = .ok (.aload_n 0, 1) := by decide +kernel
theorem dX4_sum_85 : decode cX4_sum 85 = .ok (.invokevirtual 45, 3) := by decide +kernel
theorem dX4_sum_88 : decode cX4_sum 88 = .ok (.ireturn, 1) := by decide +kernel
theorem dX4_tryStatement_0 : decode cX4_tryStatement 0 = .ok (.aload_n 0, 1) := by decide +kernel
theorem dX4_tryStatement_1 : decode cX4_tryStatement 1 = .ok (.getfield 12, 3) := by decide +kernel
theorem dX4_tryStatement_4 : decode cX4_tryStatement 4 = .ok (.invokevirtual 52, 3) := by decide +kernel
theorem dX4_tryStatement_7 : decode cX4_tryStatement 7 = .ok (.aload_n 0, 1) := by decide +kernel
theorem dX4_tryStatement_8 : decode cX4_tryStatement 8 = .ok (.getfield 23, 3) := by decide +kernel
theorem dX4_tryStatement_11 : decode cX4_tryStatement 11 = .ok (.bipush 21, 2) := by decide +kernel
theorem dX4_tryStatement_13 : decode cX4_tryStatement 13 = .ok (.iconst 0, 1) := by decide +kernel
theorem dX4_tryStatement_14 : decode cX4_tryStatement 14 = .ok (.invokevirtual 96, 3) := by decide +kernel
theorem dX4_tryStatement_17 : decode cX4_tryStatement 17 = .ok (.istore_n 3, 1) := by decide +kernel
theorem dX4_tryStatement_18 : decode cX4_tryStatement 18 = .ok (.aload_n 0, 1) := by decide +kernel
theorem dX4_tryStatement_19 : decode cX4_tryStatement 19 = .ok (.iload_n 1, 1) := by decide +kernel
theorem dX4_tryStatement_20 : decode cX4_tryStatement 20 = .ok (.iload_n 2, 1) := by decide +kernel
theorem dX4_tryStatement_21 : decode cX4_tryStatement 21 = .ok (.invokevirtual 103, 3) := by decide +kernel
theorem dX4_tryStatement_24 : decode cX4_tryStatement 24 = .ok (.ifCond .ne 5, 3) := by decide +kernel
theorem dX4_tryStatement_27 : decode cX4_tryStatement 27 = .ok (.iconst 0, 1) := by decide +kernel
theorem dX4_tryStatement_28 : decode cX4_tryStatement 28 = .ok (.ireturn, 1) := by decide +kernel
theorem dX4_tryStatement_29 : decode cX4_tryStatement 29 = .ok (.aload_n 0, 1) := by decide +kernel
theorem dX4_tryStatement_30 : decode cX4_tryStatement 30 = .ok (.getfield 23, 3) := by decide +kernel
theorem dX4_tryStatement_33 : decode cX4_tryStatement 33 = .ok (.bipush 22, 2) := by decide +kernel
theorem dX4_tryStatement_35 : decode cX4_tryStatement 35 = .ok (.iconst 0, 1) := by decide +kernel
theorem dX4_tryStatement_36 : decode cX4_tryStatement 36 = .ok (.invokevirtual 96, 3) := by decide +kernel
theorem dX4_tryStatement_39 : decode cX4_tryStatement 39 = .ok (.istore 4, 2) := by decide +kernel
theorem dX4_tryStatement_41 : decode cX4_tryStatement 41 = .ok (.aload_n 0, 1) := by decide +kernel
theorem dX4_tryStatement_42 : decode cX4_tryStatement 42 = .ok (.bipush 16, 2) := by decide +kernel
theorem dX4_tryStatement_44 : decode cX4_tryStatement 44 = .ok (.invokevirtual 55, 3) := by decide +kernel
theorem dX4_tryStatement_47 : decode cX4_tryStatement 47 = .ok (.ifCond .ne 5, 3) := by decide +kernel
theorem dX4_tryStatement_50 : decode cX4_tryStatement 50 = .ok (.iconst 0, 1) := by decide +kernel
theorem dX4_tryStatement_51 : decode cX4_tryStatement 51 = .ok (.ireturn, 1) := by decide +kernel
theorem dX4_tryStatement_52 : decode cX4_tryStatement 52 = .ok (.aload_n 0, 1) := by decide +kernel
theorem dX4_tryStatement_53 : decode cX4_tryStatement 53 = .ok (.getfield 23, 3) := by decide +kernel
theorem dX4_tryStatement_56 : decode cX4_tryStatement 56 = .ok (.iload_n 3, 1) := by decide +kernel
theorem dX4_tryStatement_57 : decode cX4_tryStatement 57 = .ok (.aload_n 0, 1) := by decide +kernel
theorem dX4_tryStatement_58 : decode cX4_tryStatement 58 = .ok (.getfield 23, 3) := by decide +kernel
theorem dX4_tryStatement_61 : decode cX4_tryStatement 61 = .ok (.getfield 106, 3) := by decide +kernel
theorem dX4_tryStatement_64 : decode cX4_tryStatement 64 = .ok (.invokevirtual 109, 3) := by decide +kernel
theorem dX4_tryStatement_67 : decode cX4_tryStatement 67 = .ok (.aload_n 0, 1) := by decide +kernel
theorem dX4_tryStatement_68 : decode cX4_tryStatement 68 = .ok (.getfield 23, 3) := by decide +kernel
theorem dX4_tryStatement_71 : decode cX4_tryStatement 71 = .ok (.iload_n 3, 1) := by decide +kernel
theorem dX4_tryStatement_72 : decode cX4_tryStatement 72 = .ok (.aload_n 0, 1) := by decide +kernel
theorem dX4_tryStatement_73 : decode cX4_tryStatement 73 = .ok (.getfield 12, 3) := by decide +kernel
theorem dX4_tryStatement_76 : decode cX4_tryStatement 76 = .ok (.getfield 90, 3) := by decide +kernel
theorem dX4_tryStatement_79 : decode cX4_tryStatement 79 = .ok (.invokevirtual 116, 3) := by decide +kernel
theorem dX4_tryStatement_82 : decode cX4_tryStatement 82 = .ok (.aload_n 0, 1) := by decide +kernel
theorem dX4_tryStatement_83 : decode cX4_tryStatement 83 = .ok (.iconst 3, 1) := by decide +kernel
theorem dX4_tryStatement_84 : decode cX4_tryStatement 84 = .ok (.invokevirtual 55, 3) := by decide +kernel
theorem dX4_tryStatement_87 : decode cX4_tryStatement 87 = .ok (.ifCond .eq 12, 3) := by decide +kernel
theorem dX4_tryStatement_90 : decode cX4_tryStatement 90 = .ok (.aload_n 0, 1) := by decide +kernel
theorem dX4_tryStatement_91 : decode cX4_tryStatement 91 = .ok (.iload_n 1, 1) := by decide +kernel
theorem dX4_tryStatement_92 : decode cX4_tryStatement 92 = .ok (.iload_n 2, 1) := by decide +kernel
theorem dX4_tryStatement_93 : decode cX4_tryStatement 93 = .ok (.invokevirtual 103, 3) := by decide +kernel
theorem dX4_tryStatement_96 : decode cX4_tryStatement 96 = .ok (.ifCond .ne 5, 3) := by decide +kernel
theorem dX4_tryStatement_99 : decode cX4_tryStatement 99 = .ok (.iconst 0, 1) := by decide +kernel
theorem dX4_tryStatement_100 : decode cX4_tryStatement 100 = .ok (.ireturn, 1) := by decide +kernel
theorem dX4_tryStatement_101 : decode cX4_tryStatement 101 = .ok (.aload_n 0, 1) := by decide +kernel
theorem dX4_tryStatement_102 : decode cX4_tryStatement 102 = .ok (.getfield 23, 3) := by decide +kernel
theorem dX4_tryStatement_105 : decode cX4_tryStatement 105 = .ok (.iload 4, 2) := by decide +kernel
theorem dX4_tryStatement_107 : decode cX4_tryStatement 107 = .ok (.aload_n 0, 1) := by decide +kernel
theorem dX4_tryStatement_108 : decode cX4_tryStatement 108 = .ok (.getfield 23, 3) := by decide +kernel
theorem dX4_tryStatement_111 : decode cX4_tryStatement 111 = .ok (.getfield 106, 3) := by decide +kernel
theorem dX4_tryStatement_114 : decode cX4_tryStatement 114 = .ok (.invokevirtual 109, 3) := by decide +kernel
theorem dX4_tryStatement_117 : decode cX4_tryStatement 117 = .ok (.iconst 1, 1) := by decide +kernel
theorem dX4_tryStatement_118 : decode cX4_tryStatement 118 = .ok (.ireturn, 1) := by decide +kernel
theorem dX4_valueStatement_0 : decode cX4_valueStatement 0 = .ok (.aload_n 0, 1) := by decide +kernel
theorem dX4_valueStatement_1 : decode cX4_valueStatement 1 = .ok (.getfield 12, 3) := by decide +kernel
theorem dX4_valueStatement_4 : decode cX4_valueStatement 4 = .ok (.invokevirtual 52, 3) := by decide +kernel
theorem dX4_valueStatement_7 : decode cX4_valueStatement 7 = .ok (.aload_n 0, 1) := by decide +kernel
theorem dX4_valueStatement_8 : decode cX4_valueStatement 8 = .ok (.iload_n 2, 1) := by decide +kernel
theorem dX4_valueStatement_9 : decode cX4_valueStatement 9 = .ok (.invokevirtual 93, 3) := by decide +kernel
theorem dX4_valueStatement_12 : decode cX4_valueStatement 12 = .ok (.ifCond .ne 5, 3) := by decide +kernel
theorem dX4_valueStatement_15 : decode cX4_valueStatement 15 = .ok (.iconst 0, 1) := by decide +kernel
theorem dX4_valueStatement_16 : decode cX4_valueStatement 16 = .ok (.ireturn, 1) := by decide +kernel
theorem dX4_valueStatement_17 : decode cX4_valueStatement 17 = .ok (.aload_n 0, 1) := by decide +kernel
theorem dX4_valueStatement_18 : decode cX4_valueStatement 18 = .ok (.getfield 23, 3) := by decide +kernel
theorem dX4_valueStatement_21 : decode cX4_valueStatement 21 = .ok (.iload_n 1, 1) := by decide +kernel
theorem dX4_valueStatement_22 : decode cX4_valueStatement 22 = .ok (.iconst 0, 1) := by decide +kernel
theorem dX4_valueStatement_23 : decode cX4_valueStatement 23 = .ok (.invokevirtual 96, 3) := by decide +kernel
theorem dX4_valueStatement_26 : decode cX4_valueStatement 26 = .ok (.pop, 1) := by decide +kernel
theorem dX4_valueStatement_27 : decode cX4_valueStatement 27 = .ok (.aload_n 0, 1) := by decide +kernel
theorem dX4_valueStatement_28 : decode cX4_valueStatement 28 = .ok (.bipush 21, 2) := by decide +kernel
theorem dX4_valueStatement_30 : decode cX4_valueStatement 30 = .ok (.invokevirtual 55, 3) := by decide +kernel
theorem dX4_valueStatement_33 : decode cX4_valueStatement 33 = .ok (.ireturn, 1) := by decide +kernel
theorem dX4_whileStatement_0 : decode cX4_whileStatement 0 = .ok (.aload_n 0, 1) := by decide +kernel
theorem dX4_whileStatement_1 : decode cX4_whileStatement 1 = .ok (.getfield 23, 3) := by decide +kernel
theorem dX4_whileStatement_4 : decode cX4_whileStatement 4 = .ok (.getfield 106, 3) := by decide +kernel
theorem dX4_whileStatement_7 : decode cX4_whileStatement 7 = .ok (.istore_n 3, 1) := by decide +kernel
theorem dX4_whileStatement_8 : decode cX4_whileStatement 8 = .ok (.aload_n 0, 1) := by decide +kernel
theorem dX4_whileStatement_9 : decode cX4_whileStatement 9 = .ok (.iload_n 2, 1) := by decide +kernel
theorem dX4_whileStatement_10 : decode cX4_whileStatement 10 = .ok (.invokevirtual 100, 3) := by decide +kernel
theorem dX4_whileStatement_13 : decode cX4_whileStatement 13 = .ok (.ifCond .ne 5, 3) := by decide +kernel
theorem dX4_whileStatement_16 : decode cX4_whileStatement 16 = .ok (.iconst 0, 1) := by decide +kernel
theorem dX4_whileStatement_17 : decode cX4_whileStatement 17 = .ok (.ireturn, 1) := by decide +kernel
theorem dX4_whileStatement_18 : decode cX4_whileStatement 18 = .ok (.aload_n 0, 1) := by decide +kernel
theorem dX4_whileStatement_19 : decode cX4_whileStatement 19 = .ok (.getfield 23, 3) := by decide +kernel
theorem dX4_whileStatement_22 : decode cX4_whileStatement 22 = .ok (.bipush 14, 2) := by decide +kernel
theorem dX4_whileStatement_24 : decode cX4_whileStatement 24 = .ok (.iconst 0, 1) := by decide +kernel
theorem dX4_whileStatement_25 : decode cX4_whileStatement 25 = .ok (.invokevirtual 96, 3) := by decide +kernel
theorem dX4_whileStatement_28 : decode cX4_whileStatement 28 = .ok (.istore 4, 2) := by decide +kernel
theorem dX4_whileStatement_30 : decode cX4_whileStatement 30 = .ok (.aload_n 0, 1) := by decide +kernel
theorem dX4_whileStatement_31 : decode cX4_whileStatement 31 = .ok (.iload_n 1, 1) := by decide +kernel
theorem dX4_whileStatement_32 : decode cX4_whileStatement 32 = .ok (.iload_n 2, 1) := by decide +kernel
theorem dX4_whileStatement_33 : decode cX4_whileStatement 33 = .ok (.invokevirtual 103, 3) := by decide +kernel
theorem dX4_whileStatement_36 : decode cX4_whileStatement 36 = .ok (.ifCond .ne 5, 3) := by decide +kernel
theorem dX4_whileStatement_39 : decode cX4_whileStatement 39 = .ok (.iconst 0, 1) := by decide +kernel
theorem dX4_whileStatement_40 : decode cX4_whileStatement 40 = .ok (.ireturn, 1) := by decide +kernel
theorem dX4_whileStatement_41 : decode cX4_whileStatement 41 = .ok (.aload_n 0, 1) := by decide +kernel
theorem dX4_whileStatement_42 : decode cX4_whileStatement 42 = .ok (.getfield 23, 3) := by decide +kernel
theorem dX4_whileStatement_45 : decode cX4_whileStatement 45 = .ok (.bipush 12, 2) := by decide +kernel
theorem dX4_whileStatement_47 : decode cX4_whileStatement 47 = .ok (.iload_n 3, 1) := by decide +kernel
theorem dX4_whileStatement_48 : decode cX4_whileStatement 48 = .ok (.invokevirtual 96, 3) := by decide +kernel
theorem dX4_whileStatement_51 : decode cX4_whileStatement 51 = .ok (.pop, 1) := by decide +kernel
theorem dX4_whileStatement_52 : decode cX4_whileStatement 52 = .ok (.aload_n 0, 1) := by decide +kernel
theorem dX4_whileStatement_53 : decode cX4_whileStatement 53 = .ok (.getfield 23, 3) := by decide +kernel
theorem dX4_whileStatement_56 : decode cX4_whileStatement 56 = .ok (.iload 4, 2) := by decide +kernel
theorem dX4_whileStatement_58 : decode cX4_whileStatement 58 = .ok (.aload_n 0, 1) := by decide +kernel
theorem dX4_whileStatement_59 : decode cX4_whileStatement 59 = .ok (.getfield 23, 3) := by decide +kernel
theorem dX4_whileStatement_62 : decode cX4_whileStatement 62 = .ok (.getfield 106, 3) := by decide +kernel
theorem dX4_whileStatement_65 : decode cX4_whileStatement 65 = .ok (.invokevirtual 109, 3) := by decide +kernel
theorem dX4_whileStatement_68 : decode cX4_whileStatement 68 = .ok (.iconst 1, 1) := by decide +kernel
theorem dX4_whileStatement_69 : decode cX4_whileStatement 69 = .ok (.ireturn, 1) := by decide +kernel
