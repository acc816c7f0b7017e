theorem dX10_place_0 : decode cX10_place 0 = .ok (.aload_n 0, 1) := by decide +kernel
theorem dX10_place_1 : decode cX10_place 1 = .ok (.getfield 38, 3) := by decide +kernel
theorem dX10_place_4 : decode cX10_place 4 = .ok (.ireturn, 1) := by decide +kernel
theorem dX10_addToTape_0 : decode cX10_addToTape 0 = .ok (.bipush 24, 2) := by decide +kernel
theorem dX10_addToTape_2 : decode cX10_addToTape 2 = .ok (.istore_n 2, 1) := by decide +kernel
theorem dX10_addToTape_3 : decode cX10_addToTape 3 = .ok (.iload_n 2, 1) := by decide +kernel
theorem dX10_addToTape_4 : decode cX10_addToTape 4 = .ok (.ifCond .lt 49, 3) := by decide +kernel
theorem dX10_addToTape_7 : decode cX10_addToTape 7 = .ok (.aload_n 0, 1) := by decide +kernel
theorem dX10_addToTape_8 : decode cX10_addToTape 8 = .ok (.getfield 34, 3) := by decide +kernel
theorem dX10_addToTape_11 : decode cX10_addToTape 11 = .ok (.ifCond .lt 36, 3) := by decide +kernel
theorem dX10_addToTape_14 : decode cX10_addToTape 14 = .ok (.aload_n 0, 1) := by decide +kernel
theorem dX10_addToTape_15 : decode cX10_addToTape 15 = .ok (.getfield 34, 3) := by decide +kernel
theorem dX10_addToTape_18 : decode cX10_addToTape 18 = .ok (.sipush 1000, 3) := by decide +kernel
theorem dX10_addToTape_21 : decode cX10_addToTape 21 = .ok (.if_icmp .ge 26, 3) := by decide +kernel
theorem dX10_addToTape_24 : decode cX10_addToTape 24 = .ok (.aload_n 0, 1) := by decide +kernel
theorem dX10_addToTape_25 : decode cX10_addToTape 25 = .ok (.getfield 9, 3) := by decide +kernel
theorem dX10_addToTape_28 : decode cX10_addToTape 28 = .ok (.aload_n 0, 1) := by decide +kernel
theorem dX10_addToTape_29 : decode cX10_addToTape 29 = .ok (.getfield 34, 3) := by decide +kernel
theorem dX10_addToTape_32 : decode cX10_addToTape 32 = .ok (.iload_n 1, 1) := by decide +kernel
theorem dX10_addToTape_33 : decode cX10_addToTape 33 = .ok (.iload_n 2, 1) := by decide +kernel
theorem dX10_addToTape_34 : decode cX10_addToTape 34 = .ok (.ishr, 1) := by decide +kernel
theorem dX10_addToTape_35 : decode cX10_addToTape 35 = .ok (.i2b, 1) := by decide +kernel
theorem dX10_addToTape_36 : decode cX10_addToTape 36 = .ok (.bastore, 1) := by decide +kernel
theorem dX10_addToTape_37 : decode cX10_addToTape 37 = .ok (.aload_n 0, 1) := by decide +kernel
theorem dX10_addToTape_38 : decode cX10_addToTape 38 = .ok (.dup, 1) := by decide +kernel
theorem dX10_addToTape_39 : decode cX10_addToTape 39 = .ok (.getfield 34, 3) := by decide +kernel
theorem dX10_addToTape_42 : decode cX10_addToTape 42 = .ok (.iconst 1, 1) := by decide +kernel
theorem dX10_addToTape_43 : decode cX10_addToTape 43 = .ok (.iadd, 1) := by decide +kernel
theorem dX10_addToTape_44 : decode cX10_addToTape 44 = .ok (.putfield 34, 3) := by decide +kernel
theorem dX10_addToTape_47 : decode cX10_addToTape 47 = .ok (.iinc 2 (-8), 3) := by decide +kernel
theorem dX10_addToTape_50 : decode cX10_addToTape 50 = .ok (.goto (-47), 3) := by decide +kernel
theorem dX10_addToTape_53 : decode cX10_addToTape 53 = .ok (.return_, 1) := by decide +kernel
