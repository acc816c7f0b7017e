theorem dX4_broken_0 : decode cX4_broken 0 = .ok (.aload_n 0, 1) := by decide +kernel
theorem dX4_broken_1 : decode cX4_broken 1 = .ok (.aload_n 0, 1) := by decide +kernel
theorem dX4_broken_2 : decode cX4_broken 2 = .ok (.getfield 12, 3) := by decide +kernel
theorem dX4_broken_5 : decode cX4_broken 5 = .ok (.getfield 49, 3) := by decide +kernel
theorem dX4_broken_8 : decode cX4_broken 8 = .ok (.putfield 27, 3) := by decide +kernel
theorem dX4_broken_11 : decode cX4_broken 11 = .ok (.iconst 0, 1) := by decide +kernel
theorem dX4_broken_12 : decode cX4_broken 12 = .ok (.ireturn, 1) := by decide +kernel
theorem dX4_expect_0 : decode cX4_expect 0 = .ok (.aload_n 0, 1) := by decide +kernel
theorem dX4_expect_1 : decode cX4_expect 1 = .ok (.getfield 12, 3) := by decide +kernel
theorem dX4_expect_4 : decode cX4_expect 4 = .ok (.getfield 42, 3) := by decide +kernel
theorem dX4_expect_7 : decode cX4_expect 7 = .ok (.iload_n 1, 1) := by decide +kernel
theorem dX4_expect_8 : decode cX4_expect 8 = .ok (.if_icmp .eq 8, 3) := by decide +kernel
theorem dX4_expect_11 : decode cX4_expect 11 = .ok (.aload_n 0, 1) := by decide +kernel
theorem dX4_expect_12 : decode cX4_expect 12 = .ok (.invokevirtual 45, 3) := by decide +kernel
theorem dX4_expect_15 : decode cX4_expect 15 = .ok (.ireturn, 1) := by decide +kernel
theorem dX4_expect_16 : decode cX4_expect 16 = .ok (.aload_n 0, 1) := by decide +kernel
theorem dX4_expect_17 : decode cX4_expect 17 = .ok (.getfield 12, 3) := by decide +kernel
theorem dX4_expect_20 : decode cX4_expect 20 = .ok (.invokevirtual 52, 3) := by decide +kernel
theorem dX4_expect_23 : decode cX4_expect 23 = .ok (.iconst 1, 1) := by decide +kernel
theorem dX4_expect_24 : decode cX4_expect 24 = .ok (.ireturn, 1) := by decide +kernel
theorem dX4_expectNested_0 : decode cX4_expectNested 0 = .ok (.iload_n 2, 1) := by decide +kernel
theorem dX4_expectNested_1 : decode cX4_expectNested 1 = .ok (.bipush 10, 2) := by decide +kernel
theorem dX4_expectNested_3 : decode cX4_expectNested 3 = .ok (.if_icmp .ge 11, 3) := by decide +kernel
theorem dX4_expectNested_6 : decode cX4_expectNested 6 = .ok (.aload_n 0, 1) := by decide +kernel
theorem dX4_expectNested_7 : decode cX4_expectNested 7 = .ok (.iload_n 1, 1) := by decide +kernel
theorem dX4_expectNested_8 : decode cX4_expectNested 8 = .ok (.invokevirtual 55, 3) := by decide +kernel
theorem dX4_expectNested_11 : decode cX4_expectNested 11 = .ok (.goto 7, 3) := by decide +kernel
theorem dX4_expectNested_14 : decode cX4_expectNested 14 = .ok (.aload_n 0, 1) := by decide +kernel
theorem dX4_expectNested_15 : decode cX4_expectNested 15 = .ok (.invokevirtual 45, 3) := by decide +kernel
theorem dX4_expectNested_18 : decode cX4_expectNested 18 = .ok (.ireturn, 1) := by decide +kernel
theorem dX4_bareStatement_0 : decode cX4_bareStatement 0 = .ok (.iload_n 2, 1) := by decide +kernel
theorem dX4_bareStatement_1 : decode cX4_bareStatement 1 = .ok (.ifCond .ne 8, 3) := by decide +kernel
theorem dX4_bareStatement_4 : decode cX4_bareStatement 4 = .ok (.aload_n 0, 1) := by decide +kernel
theorem dX4_bareStatement_5 : decode cX4_bareStatement 5 = .ok (.invokevirtual 45, 3) := by decide +kernel
theorem dX4_bareStatement_8 : decode cX4_bareStatement 8 = .ok (.ireturn, 1) := by decide +kernel
theorem dX4_bareStatement_9 : decode cX4_bareStatement 9 = .ok (.aload_n 0, 1) := by decide +kernel
theorem dX4_bareStatement_10 : decode cX4_bareStatement 10 = .ok (.getfield 12, 3) := by decide +kernel
theorem dX4_bareStatement_13 : decode cX4_bareStatement 13 = .ok (.invokevirtual 52, 3) := by decide +kernel
theorem dX4_bareStatement_16 : decode cX4_bareStatement 16 = .ok (.aload_n 0, 1) := by decide +kernel
theorem dX4_bareStatement_17 : decode cX4_bareStatement 17 = .ok (.getfield 23, 3) := by decide +kernel
theorem dX4_bareStatement_20 : decode cX4_bareStatement 20 = .ok (.iload_n 1, 1) := by decide +kernel
theorem dX4_bareStatement_21 : decode cX4_bareStatement 21 = .ok (.iconst 0, 1) := by decide +kernel
theorem dX4_bareStatement_22 : decode cX4_bareStatement 22 = .ok (.invokevirtual 97, 3) := by decide +kernel
theorem dX4_bareStatement_25 : decode cX4_bareStatement 25 = .ok (.pop, 1) := by decide +kernel
theorem dX4_bareStatement_26 : decode cX4_bareStatement 26 = .ok (.aload_n 0, 1) := by decide +kernel
theorem dX4_bareStatement_27 : decode cX4_bareStatement 27 = .ok (.bipush 21, 2) := by decide +kernel
theorem dX4_bareStatement_29 : decode cX4_bareStatement 29 = .ok (.invokevirtual 55, 3) := by decide +kernel
theorem dX4_bareStatement_32 : decode cX4_bareStatement 32 = .ok (.ireturn, 1) := by decide +kernel
theorem dX4_leaf_0 : decode cX4_leaf 0 = .ok (.aload_n 0, 1) := by decide +kernel
theorem dX4_leaf_1 : decode cX4_leaf 1 = .ok (.getfield 23, 3) := by decide +kernel
theorem dX4_leaf_4 : decode cX4_leaf 4 = .ok (.iload_n 1, 1) := by decide +kernel
theorem dX4_leaf_5 : decode cX4_leaf 5 = .ok (.aload_n 0, 1) := by decide +kernel
theorem dX4_leaf_6 : decode cX4_leaf 6 = .ok (.getfield 12, 3) := by decide +kernel
theorem dX4_leaf_9 : decode cX4_leaf 9 = .ok (.getfield 91, 3) := by decide +kernel
theorem dX4_leaf_12 : decode cX4_leaf 12 = .ok (.invokevirtual 97, 3) := by decide +kernel
theorem dX4_leaf_15 : decode cX4_leaf 15 = .ok (.pop, 1) := by decide +kernel
theorem dX4_leaf_16 : decode cX4_leaf 16 = .ok (.aload_n 0, 1) := by decide +kernel
theorem dX4_leaf_17 : decode cX4_leaf 17 = .ok (.getfield 12, 3) := by decide +kernel
theorem dX4_leaf_20 : decode cX4_leaf 20 = .ok (.invokevirtual 52, 3) := by decide +kernel
theorem dX4_leaf_23 : decode cX4_leaf 23 = .ok (.iconst 1, 1) := by decide +kernel
theorem dX4_leaf_24 : decode cX4_leaf 24 = .ok (.ireturn, 1) := by decide +kernel
