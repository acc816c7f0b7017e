theorem dX2_again_0 : decode cX2_again 0 = .ok (.aload_n 0, 1) := by decide +kernel
theorem dX2_again_1 : decode cX2_again 1 = .ok (.invokevirtual 114, 3) := by decide +kernel
theorem dX2_again_4 : decode cX2_again 4 = .ok (.ifCond .eq 5, 3) := by decide +kernel
theorem dX2_again_7 : decode cX2_again 7 = .ok (.iconst 0, 1) := by decide +kernel
theorem dX2_again_8 : decode cX2_again 8 = .ok (.ireturn, 1) := by decide +kernel
theorem dX2_again_9 : decode cX2_again 9 = .ok (.aload_n 0, 1) := by decide +kernel
theorem dX2_again_10 : decode cX2_again 10 = .ok (.iload_n 1, 1) := by decide +kernel
theorem dX2_again_11 : decode cX2_again 11 = .ok (.putfield 92, 3) := by decide +kernel
theorem dX2_again_14 : decode cX2_again 14 = .ok (.iconst (-1), 1) := by decide +kernel
theorem dX2_again_15 : decode cX2_again 15 = .ok (.ireturn, 1) := by decide +kernel
theorem dX2_beginLevel_0 : decode cX2_beginLevel 0 = .ok (.aload_n 1, 1) := by decide +kernel
theorem dX2_beginLevel_1 : decode cX2_beginLevel 1 = .ok (.getfield 165, 3) := by decide +kernel
theorem dX2_beginLevel_4 : decode cX2_beginLevel 4 = .ok (.ifCond .le 10, 3) := by decide +kernel
theorem dX2_beginLevel_7 : decode cX2_beginLevel 7 = .ok (.aload_n 1, 1) := by decide +kernel
theorem dX2_beginLevel_8 : decode cX2_beginLevel 8 = .ok (.iload_n 2, 1) := by decide +kernel
theorem dX2_beginLevel_9 : decode cX2_beginLevel 9 = .ok (.invokevirtual 313, 3) := by decide +kernel
theorem dX2_beginLevel_12 : decode cX2_beginLevel 12 = .ok (.iconst (-1), 1) := by decide +kernel
theorem dX2_beginLevel_13 : decode cX2_beginLevel 13 = .ok (.ireturn, 1) := by decide +kernel
theorem dX2_beginLevel_14 : decode cX2_beginLevel 14 = .ok (.aload_n 0, 1) := by decide +kernel
theorem dX2_beginLevel_15 : decode cX2_beginLevel 15 = .ok (.aload_n 1, 1) := by decide +kernel
theorem dX2_beginLevel_16 : decode cX2_beginLevel 16 = .ok (.invokevirtual 316, 3) := by decide +kernel
theorem dX2_beginLevel_19 : decode cX2_beginLevel 19 = .ok (.ifCond .eq 10, 3) := by decide +kernel
theorem dX2_beginLevel_22 : decode cX2_beginLevel 22 = .ok (.aload_n 1, 1) := by decide +kernel
theorem dX2_beginLevel_23 : decode cX2_beginLevel 23 = .ok (.iload_n 2, 1) := by decide +kernel
theorem dX2_beginLevel_24 : decode cX2_beginLevel 24 = .ok (.putfield 92, 3) := by decide +kernel
theorem dX2_beginLevel_27 : decode cX2_beginLevel 27 = .ok (.iconst 4, 1) := by decide +kernel
theorem dX2_beginLevel_28 : decode cX2_beginLevel 28 = .ok (.ireturn, 1) := by decide +kernel
theorem dX2_beginLevel_29 : decode cX2_beginLevel 29 = .ok (.aload_n 1, 1) := by decide +kernel
theorem dX2_beginLevel_30 : decode cX2_beginLevel 30 = .ok (.iconst 0, 1) := by decide +kernel
theorem dX2_beginLevel_31 : decode cX2_beginLevel 31 = .ok (.putfield 320, 3) := by decide +kernel
theorem dX2_beginLevel_34 : decode cX2_beginLevel 34 = .ok (.aload_n 1, 1) := by decide +kernel
theorem dX2_beginLevel_35 : decode cX2_beginLevel 35 = .ok (.iload_n 2, 1) := by decide +kernel
theorem dX2_beginLevel_36 : decode cX2_beginLevel 36 = .ok (.invokevirtual 313, 3) := by decide +kernel
theorem dX2_beginLevel_39 : decode cX2_beginLevel 39 = .ok (.aload_n 1, 1) := by decide +kernel
theorem dX2_beginLevel_40 : decode cX2_beginLevel 40 = .ok (.iconst 2, 1) := by decide +kernel
theorem dX2_beginLevel_41 : decode cX2_beginLevel 41 = .ok (.putfield 55, 3) := by decide +kernel
theorem dX2_beginLevel_44 : decode cX2_beginLevel 44 = .ok (.aload_n 1, 1) := by decide +kernel
theorem dX2_beginLevel_45 : decode cX2_beginLevel 45 = .ok (.aload_n 0, 1) := by decide +kernel
theorem dX2_beginLevel_46 : decode cX2_beginLevel 46 = .ok (.getfield 12, 3) := by decide +kernel
theorem dX2_beginLevel_49 : decode cX2_beginLevel 49 = .ok (.getfield 61, 3) := by decide +kernel
theorem dX2_beginLevel_52 : decode cX2_beginLevel 52 = .ok (.putfield 224, 3) := by decide +kernel
theorem dX2_beginLevel_55 : decode cX2_beginLevel 55 = .ok (.aload_n 1, 1) := by decide +kernel
theorem dX2_beginLevel_56 : decode cX2_beginLevel 56 = .ok (.aload_n 0, 1) := by decide +kernel
theorem dX2_beginLevel_57 : decode cX2_beginLevel 57 = .ok (.getfield 77, 3) := by decide +kernel
theorem dX2_beginLevel_60 : decode cX2_beginLevel 60 = .ok (.putfield 254, 3) := by decide +kernel
theorem dX2_beginLevel_63 : decode cX2_beginLevel 63 = .ok (.aload_n 1, 1) := by decide +kernel
theorem dX2_beginLevel_64 : decode cX2_beginLevel 64 = .ok (.aload_n 0, 1) := by decide +kernel
theorem dX2_beginLevel_65 : decode cX2_beginLevel 65 = .ok (.getfield 77, 3) := by decide +kernel
theorem dX2_beginLevel_68 : decode cX2_beginLevel 68 = .ok (.putfield 286, 3) := by decide +kernel
theorem dX2_beginLevel_71 : decode cX2_beginLevel 71 = .ok (.iconst 0, 1) := by decide +kernel
theorem dX2_beginLevel_72 : decode cX2_beginLevel 72 = .ok (.ireturn, 1) := by decide +kernel
theorem dX2_closeLevel_0 : decode cX2_closeLevel 0 = .ok (.aload_n 1, 1) := by decide +kernel
theorem dX2_closeLevel_1 : decode cX2_closeLevel 1 = .ok (.getfield 165, 3) := by decide +kernel
theorem dX2_closeLevel_4 : decode cX2_closeLevel 4 = .ok (.ifCond .gt 5, 3) := by decide +kernel
theorem dX2_closeLevel_7 : decode cX2_closeLevel 7 = .ok (.iconst (-1), 1) := by decide +kernel
theorem dX2_closeLevel_8 : decode cX2_closeLevel 8 = .ok (.ireturn, 1) := by decide +kernel
theorem dX2_closeLevel_9 : decode cX2_closeLevel 9 = .ok (.aload_n 1, 1) := by decide +kernel
theorem dX2_closeLevel_10 : decode cX2_closeLevel 10 = .ok (.getfield 88, 3) := by decide +kernel
theorem dX2_closeLevel_13 : decode cX2_closeLevel 13 = .ok (.aload_n 1, 1) := by decide +kernel
theorem dX2_closeLevel_14 : decode cX2_closeLevel 14 = .ok (.invokevirtual 202, 3) := by decide +kernel
theorem dX2_closeLevel_17 : decode cX2_closeLevel 17 = .ok (.getfield 292, 3) := by decide +kernel
theorem dX2_closeLevel_20 : decode cX2_closeLevel 20 = .ok (.invokevirtual 323, 3) := by decide +kernel
theorem dX2_closeLevel_23 : decode cX2_closeLevel 23 = .ok (.istore_n 2, 1) := by decide +kernel
theorem dX2_closeLevel_24 : decode cX2_closeLevel 24 = .ok (.aload_n 1, 1) := by decide +kernel
theorem dX2_closeLevel_25 : decode cX2_closeLevel 25 = .ok (.getfield 165, 3) := by decide +kernel
theorem dX2_closeLevel_28 : decode cX2_closeLevel 28 = .ok (.iconst 1, 1) := by decide +kernel
theorem dX2_closeLevel_29 : decode cX2_closeLevel 29 = .ok (.if_icmp .le 15, 3) := by decide +kernel
theorem dX2_closeLevel_32 : decode cX2_closeLevel 32 = .ok (.aload_n 0, 1) := by decide +kernel
theorem dX2_closeLevel_33 : decode cX2_closeLevel 33 = .ok (.aload_n 1, 1) := by decide +kernel
theorem dX2_closeLevel_34 : decode cX2_closeLevel 34 = .ok (.invokevirtual 326, 3) := by decide +kernel
theorem dX2_closeLevel_37 : decode cX2_closeLevel 37 = .ok (.aload_n 1, 1) := by decide +kernel
theorem dX2_closeLevel_38 : decode cX2_closeLevel 38 = .ok (.iload_n 2, 1) := by decide +kernel
theorem dX2_closeLevel_39 : decode cX2_closeLevel 39 = .ok (.putfield 92, 3) := by decide +kernel
theorem dX2_closeLevel_42 : decode cX2_closeLevel 42 = .ok (.iconst (-1), 1) := by decide +kernel
theorem dX2_closeLevel_43 : decode cX2_closeLevel 43 = .ok (.ireturn, 1) := by decide +kernel
theorem dX2_closeLevel_44 : decode cX2_closeLevel 44 = .ok (.aload_n 0, 1) := by decide +kernel
theorem dX2_closeLevel_45 : decode cX2_closeLevel 45 = .ok (.aload_n 1, 1) := by decide +kernel
theorem dX2_closeLevel_46 : decode cX2_closeLevel 46 = .ok (.invokevirtual 330, 3) := by decide +kernel
theorem dX2_closeLevel_49 : decode cX2_closeLevel 49 = .ok (.ifCond .ne 5, 3) := by decide +kernel
theorem dX2_closeLevel_52 : decode cX2_closeLevel 52 = .ok (.iconst 1, 1) := by decide +kernel
theorem dX2_closeLevel_53 : decode cX2_closeLevel 53 = .ok (.ireturn, 1) := by decide +kernel
theorem dX2_closeLevel_54 : decode cX2_closeLevel 54 = .ok (.aload_n 0, 1) := by decide +kernel
theorem dX2_closeLevel_55 : decode cX2_closeLevel 55 = .ok (.aload_n 1, 1) := by decide +kernel
theorem dX2_closeLevel_56 : decode cX2_closeLevel 56 = .ok (.invokevirtual 333, 3) := by decide +kernel
theorem dX2_closeLevel_59 : decode cX2_closeLevel 59 = .ok (.aload_n 1, 1) := by decide +kernel
theorem dX2_closeLevel_60 : decode cX2_closeLevel 60 = .ok (.iload_n 2, 1) := by decide +kernel
theorem dX2_closeLevel_61 : decode cX2_closeLevel 61 = .ok (.putfield 92, 3) := by decide +kernel
theorem dX2_closeLevel_64 : decode cX2_closeLevel 64 = .ok (.iconst 0, 1) := by decide +kernel
theorem dX2_closeLevel_65 : decode cX2_closeLevel 65 = .ok (.ireturn, 1) := by decide +kernel
theorem dX2_compute_0 : decode cX2_compute 0 = .ok (.iload_n 0, 1) := by decide +kernel
theorem dX2_compute_1 : decode cX2_compute 1 = .ok (.tableswitch 54 4 7 #[31, 35, 39, 43], 31) := by decide +kernel
theorem dX2_compute_32 : decode cX2_compute 32 = .ok (.iload_n 1, 1) := by decide +kernel
theorem dX2_compute_33 : decode cX2_compute 33 = .ok (.iload_n 2, 1) := by decide +kernel
theorem dX2_compute_34 : decode cX2_compute 34 = .ok (.iadd, 1) := by decide +kernel
theorem dX2_compute_35 : decode cX2_compute 35 = .ok (.ireturn, 1) := by decide +kernel
theorem dX2_compute_36 : decode cX2_compute 36 = .ok (.iload_n 1, 1) := by decide +kernel
theorem dX2_compute_37 : decode cX2_compute 37 = .ok (.iload_n 2, 1) := by decide +kernel
theorem dX2_compute_38 : decode cX2_compute 38 = .ok (.isub, 1) := by decide +kernel
theorem dX2_compute_39 : decode cX2_compute 39 = .ok (.ireturn, 1) := by decide +kernel
theorem dX2_compute_40 : decode cX2_compute 40 = .ok (.iload_n 1, 1) := by decide +kernel
theorem dX2_compute_41 : decode cX2_compute 41 = .ok (.iload_n 2, 1) := by decide +kernel
theorem dX2_compute_42 : decode cX2_compute 42 = .ok (.imul, 1) := by decide +kernel
theorem dX2_compute_43 : decode cX2_compute 43 = .ok (.ireturn, 1) := by decide +kernel
theorem dX2_compute_44 : decode cX2_compute 44 = .ok (.iload_n 1, 1) := by decide +kernel
theorem dX2_compute_45 : decode cX2_compute 45 = .ok (.iload_n 2, 1) := by decide +kernel
theorem dX2_compute_46 : decode cX2_compute 46 = .ok (.if_icmp .ne 7, 3) := by decide +kernel
theorem dX2_compute_49 : decode cX2_compute 49 = .ok (.iconst 1, 1) := by decide +kernel
theorem dX2_compute_50 : decode cX2_compute 50 = .ok (.goto 4, 3) := by decide +kernel
theorem dX2_compute_53 : decode cX2_compute 53 = .ok (.iconst 0, 1) := by decide +kernel
theorem dX2_compute_54 : decode cX2_compute 54 = .ok (.ireturn, 1) := by decide +kernel
theorem dX2_compute_55 : decode cX2_compute 55 = .ok (.iload_n 1, 1) := by decide +kernel
theorem dX2_compute_56 : decode cX2_compute 56 = .ok (.iload_n 2, 1) := by decide +kernel
theorem dX2_compute_57 : decode cX2_compute 57 = .ok (.if_icmp .ge 7, 3) := by decide +kernel
theorem dX2_compute_60 : decode cX2_compute 60 = .ok (.iconst 1, 1) := by decide +kernel
theorem dX2_compute_61 : decode cX2_compute 61 = .ok (.goto 4, 3) := by decide +kernel
theorem dX2_compute_64 : decode cX2_compute 64 = .ok (.iconst 0, 1) := by decide +kernel
theorem dX2_compute_65 : decode cX2_compute 65 = .ok (.ireturn, 1) := by decide +kernel
theorem dX2_fail_0 : decode cX2_fail 0 = .ok (.aload_n 1, 1) := by decide +kernel
theorem dX2_fail_1 : decode cX2_fail 1 = .ok (.getfield 361, 3) := by decide +kernel
theorem dX2_fail_4 : decode cX2_fail 4 = .ok (.iconst 1, 1) := by decide +kernel
theorem dX2_fail_5 : decode cX2_fail 5 = .ok (.isub, 1) := by decide +kernel
theorem dX2_fail_6 : decode cX2_fail 6 = .ok (.istore_n 3, 1) := by decide +kernel
theorem dX2_fail_7 : decode cX2_fail 7 = .ok (.iload_n 3, 1) := by decide +kernel
theorem dX2_fail_8 : decode cX2_fail 8 = .ok (.ifCond .ge 21, 3) := by decide +kernel
theorem dX2_fail_11 : decode cX2_fail 11 = .ok (.aload_n 0, 1) := by decide +kernel
theorem dX2_fail_12 : decode cX2_fail 12 = .ok (.aload_n 1, 1) := by decide +kernel
theorem dX2_fail_13 : decode cX2_fail 13 = .ok (.iconst 0, 1) := by decide +kernel
theorem dX2_fail_14 : decode cX2_fail 14 = .ok (.invokevirtual 358, 3) := by decide +kernel
theorem dX2_fail_17 : decode cX2_fail 17 = .ok (.aload_n 1, 1) := by decide +kernel
theorem dX2_fail_18 : decode cX2_fail 18 = .ok (.iconst 5, 1) := by decide +kernel
theorem dX2_fail_19 : decode cX2_fail 19 = .ok (.putfield 55, 3) := by decide +kernel
theorem dX2_fail_22 : decode cX2_fail 22 = .ok (.aload_n 1, 1) := by decide +kernel
theorem dX2_fail_23 : decode cX2_fail 23 = .ok (.iload_n 2, 1) := by decide +kernel
theorem dX2_fail_24 : decode cX2_fail 24 = .ok (.putfield 364, 3) := by decide +kernel
theorem dX2_fail_27 : decode cX2_fail 27 = .ok (.iconst 5, 1) := by decide +kernel
theorem dX2_fail_28 : decode cX2_fail 28 = .ok (.ireturn, 1) := by decide +kernel
theorem dX2_fail_29 : decode cX2_fail 29 = .ok (.aload_n 1, 1) := by decide +kernel
theorem dX2_fail_30 : decode cX2_fail 30 = .ok (.iload_n 3, 1) := by decide +kernel
theorem dX2_fail_31 : decode cX2_fail 31 = .ok (.invokevirtual 367, 3) := by decide +kernel
theorem dX2_fail_34 : decode cX2_fail 34 = .ok (.istore 4, 2) := by decide +kernel
theorem dX2_fail_36 : decode cX2_fail 36 = .ok (.aload_n 0, 1) := by decide +kernel
theorem dX2_fail_37 : decode cX2_fail 37 = .ok (.aload_n 1, 1) := by decide +kernel
theorem dX2_fail_38 : decode cX2_fail 38 = .ok (.aload_n 1, 1) := by decide +kernel
theorem dX2_fail_39 : decode cX2_fail 39 = .ok (.iload_n 3, 1) := by decide +kernel
theorem dX2_fail_40 : decode cX2_fail 40 = .ok (.invokevirtual 370, 3) := by decide +kernel
theorem dX2_fail_43 : decode cX2_fail 43 = .ok (.invokevirtual 358, 3) := by decide +kernel
theorem dX2_fail_46 : decode cX2_fail 46 = .ok (.aload_n 1, 1) := by decide +kernel
theorem dX2_fail_47 : decode cX2_fail 47 = .ok (.iload_n 3, 1) := by decide +kernel
theorem dX2_fail_48 : decode cX2_fail 48 = .ok (.putfield 361, 3) := by decide +kernel
theorem dX2_fail_51 : decode cX2_fail 51 = .ok (.aload_n 1, 1) := by decide +kernel
theorem dX2_fail_52 : decode cX2_fail 52 = .ok (.aload_n 1, 1) := by decide +kernel
theorem dX2_fail_53 : decode cX2_fail 53 = .ok (.getfield 88, 3) := by decide +kernel
theorem dX2_fail_56 : decode cX2_fail 56 = .ok (.iload 4, 2) := by decide +kernel
theorem dX2_fail_58 : decode cX2_fail 58 = .ok (.invokevirtual 323, 3) := by decide +kernel
theorem dX2_fail_61 : decode cX2_fail 61 = .ok (.iload_n 2, 1) := by decide +kernel
theorem dX2_fail_62 : decode cX2_fail 62 = .ok (.invokestatic 158, 3) := by decide +kernel
theorem dX2_fail_65 : decode cX2_fail 65 = .ok (.aload_n 1, 1) := by decide +kernel
theorem dX2_fail_66 : decode cX2_fail 66 = .ok (.aload_n 1, 1) := by decide +kernel
theorem dX2_fail_67 : decode cX2_fail 67 = .ok (.getfield 88, 3) := by decide +kernel
theorem dX2_fail_70 : decode cX2_fail 70 = .ok (.iload 4, 2) := by decide +kernel
theorem dX2_fail_72 : decode cX2_fail 72 = .ok (.invokevirtual 352, 3) := by decide +kernel
theorem dX2_fail_75 : decode cX2_fail 75 = .ok (.putfield 92, 3) := by decide +kernel
theorem dX2_fail_78 : decode cX2_fail 78 = .ok (.iconst (-1), 1) := by decide +kernel
theorem dX2_fail_79 : decode cX2_fail 79 = .ok (.ireturn, 1) := by decide +kernel
theorem dX2_fallAsleep_0 : decode cX2_fallAsleep 0 = .ok (.aload_n 1, 1) := by decide +kernel
theorem dX2_fallAsleep_1 : decode cX2_fallAsleep 1 = .ok (.iconst 0, 1) := by decide +kernel
theorem dX2_fallAsleep_2 : decode cX2_fallAsleep 2 = .ok (.invokestatic 310, 3) := by decide +kernel
theorem dX2_fallAsleep_5 : decode cX2_fallAsleep 5 = .ok (.aload_n 0, 1) := by decide +kernel
theorem dX2_fallAsleep_6 : decode cX2_fallAsleep 6 = .ok (.aload_n 1, 1) := by decide +kernel
theorem dX2_fallAsleep_7 : decode cX2_fallAsleep 7 = .ok (.iconst 0, 1) := by decide +kernel
theorem dX2_fallAsleep_8 : decode cX2_fallAsleep 8 = .ok (.invokevirtual 273, 3) := by decide +kernel
theorem dX2_fallAsleep_11 : decode cX2_fallAsleep 11 = .ok (.aload_n 1, 1) := by decide +kernel
theorem dX2_fallAsleep_12 : decode cX2_fallAsleep 12 = .ok (.iconst 1, 1) := by decide +kernel
theorem dX2_fallAsleep_13 : decode cX2_fallAsleep 13 = .ok (.putfield 165, 3) := by decide +kernel
theorem dX2_fallAsleep_16 : decode cX2_fallAsleep 16 = .ok (.aload_n 0, 1) := by decide +kernel
theorem dX2_fallAsleep_17 : decode cX2_fallAsleep 17 = .ok (.getfield 12, 3) := by decide +kernel
theorem dX2_fallAsleep_20 : decode cX2_fallAsleep 20 = .ok (.aload_n 1, 1) := by decide +kernel
theorem dX2_fallAsleep_21 : decode cX2_fallAsleep 21 = .ok (.getfield 171, 3) := by decide +kernel
theorem dX2_fallAsleep_24 : decode cX2_fallAsleep 24 = .ok (.invokevirtual 283, 3) := by decide +kernel
theorem dX2_fallAsleep_27 : decode cX2_fallAsleep 27 = .ok (.aload_n 1, 1) := by decide +kernel
theorem dX2_fallAsleep_28 : decode cX2_fallAsleep 28 = .ok (.iconst 3, 1) := by decide +kernel
theorem dX2_fallAsleep_29 : decode cX2_fallAsleep 29 = .ok (.putfield 55, 3) := by decide +kernel
theorem dX2_fallAsleep_32 : decode cX2_fallAsleep 32 = .ok (.iconst 3, 1) := by decide +kernel
theorem dX2_fallAsleep_33 : decode cX2_fallAsleep 33 = .ok (.ireturn, 1) := by decide +kernel
theorem dX2_finish_0 : decode cX2_finish 0 = .ok (.aload_n 1, 1) := by decide +kernel
theorem dX2_finish_1 : decode cX2_finish 1 = .ok (.iconst 0, 1) := by decide +kernel
theorem dX2_finish_2 : decode cX2_finish 2 = .ok (.invokevirtual 213, 3) := by decide +kernel
theorem dX2_finish_5 : decode cX2_finish 5 = .ok (.astore_n 2, 1) := by decide +kernel
theorem dX2_finish_6 : decode cX2_finish 6 = .ok (.aload_n 0, 1) := by decide +kernel
theorem dX2_finish_7 : decode cX2_finish 7 = .ok (.invokevirtual 178, 3) := by decide +kernel
theorem dX2_finish_10 : decode cX2_finish 10 = .ok (.ifCond .eq 17, 3) := by decide +kernel
theorem dX2_finish_13 : decode cX2_finish 13 = .ok (.aload_n 0, 1) := by decide +kernel
theorem dX2_finish_14 : decode cX2_finish 14 = .ok (.getfield 12, 3) := by decide +kernel
theorem dX2_finish_17 : decode cX2_finish 17 = .ok (.aload_n 1, 1) := by decide +kernel
theorem dX2_finish_18 : decode cX2_finish 18 = .ok (.getfield 171, 3) := by decide +kernel
theorem dX2_finish_21 : decode cX2_finish 21 = .ok (.invokevirtual 283, 3) := by decide +kernel
theorem dX2_finish_24 : decode cX2_finish 24 = .ok (.goto 59, 3) := by decide +kernel
theorem dX2_finish_27 : decode cX2_finish 27 = .ok (.aload_n 2, 1) := by decide +kernel
theorem dX2_finish_28 : decode cX2_finish 28 = .ok (.getfield 304, 3) := by decide +kernel
theorem dX2_finish_31 : decode cX2_finish 31 = .ok (.ifCond .eq 52, 3) := by decide +kernel
theorem dX2_finish_34 : decode cX2_finish 34 = .ok (.aload_n 0, 1) := by decide +kernel
theorem dX2_finish_35 : decode cX2_finish 35 = .ok (.getfield 12, 3) := by decide +kernel
theorem dX2_finish_38 : decode cX2_finish 38 = .ok (.dup, 1) := by decide +kernel
theorem dX2_finish_39 : decode cX2_finish 39 = .ok (.getfield 61, 3) := by decide +kernel
theorem dX2_finish_42 : decode cX2_finish 42 = .ok (.iconst 1, 1) := by decide +kernel
theorem dX2_finish_43 : decode cX2_finish 43 = .ok (.iadd, 1) := by decide +kernel
theorem dX2_finish_44 : decode cX2_finish 44 = .ok (.putfield 61, 3) := by decide +kernel
theorem dX2_finish_47 : decode cX2_finish 47 = .ok (.iconst 0, 1) := by decide +kernel
theorem dX2_finish_48 : decode cX2_finish 48 = .ok (.istore_n 3, 1) := by decide +kernel
theorem dX2_finish_49 : decode cX2_finish 49 = .ok (.iload_n 3, 1) := by decide +kernel
theorem dX2_finish_50 : decode cX2_finish 50 = .ok (.bipush 26, 2) := by decide +kernel
theorem dX2_finish_52 : decode cX2_finish 52 = .ok (.if_icmp .ge 31, 3) := by decide +kernel
theorem dX2_finish_55 : decode cX2_finish 55 = .ok (.aload_n 2, 1) := by decide +kernel
theorem dX2_finish_56 : decode cX2_finish 56 = .ok (.iload_n 3, 1) := by decide +kernel
theorem dX2_finish_57 : decode cX2_finish 57 = .ok (.invokevirtual 217, 3) := by decide +kernel
theorem dX2_finish_60 : decode cX2_finish 60 = .ok (.ifCond .eq 17, 3) := by decide +kernel
theorem dX2_finish_63 : decode cX2_finish 63 = .ok (.aload_n 0, 1) := by decide +kernel
theorem dX2_finish_64 : decode cX2_finish 64 = .ok (.getfield 12, 3) := by decide +kernel
theorem dX2_finish_67 : decode cX2_finish 67 = .ok (.iload_n 3, 1) := by decide +kernel
theorem dX2_finish_68 : decode cX2_finish 68 = .ok (.aload_n 2, 1) := by decide +kernel
theorem dX2_finish_69 : decode cX2_finish 69 = .ok (.getfield 221, 3) := by decide +kernel
theorem dX2_finish_72 : decode cX2_finish 72 = .ok (.iload_n 3, 1) := by decide +kernel
theorem dX2_finish_73 : decode cX2_finish 73 = .ok (.iaload, 1) := by decide +kernel
theorem dX2_finish_74 : decode cX2_finish 74 = .ok (.invokevirtual 238, 3) := by decide +kernel
theorem dX2_finish_77 : decode cX2_finish 77 = .ok (.iinc 3 1, 3) := by decide +kernel
theorem dX2_finish_80 : decode cX2_finish 80 = .ok (.goto (-31), 3) := by decide +kernel
theorem dX2_finish_83 : decode cX2_finish 83 = .ok (.aload_n 0, 1) := by decide +kernel
theorem dX2_finish_84 : decode cX2_finish 84 = .ok (.aload_n 1, 1) := by decide +kernel
theorem dX2_finish_85 : decode cX2_finish 85 = .ok (.aload_n 2, 1) := by decide +kernel
theorem dX2_finish_86 : decode cX2_finish 86 = .ok (.invokevirtual 336, 3) := by decide +kernel
theorem dX2_finish_89 : decode cX2_finish 89 = .ok (.iconst 0, 1) := by decide +kernel
theorem dX2_finish_90 : decode cX2_finish 90 = .ok (.istore_n 3, 1) := by decide +kernel
theorem dX2_finish_91 : decode cX2_finish 91 = .ok (.iload_n 3, 1) := by decide +kernel
theorem dX2_finish_92 : decode cX2_finish 92 = .ok (.aload_n 1, 1) := by decide +kernel
theorem dX2_finish_93 : decode cX2_finish 93 = .ok (.getfield 320, 3) := by decide +kernel
theorem dX2_finish_96 : decode cX2_finish 96 = .ok (.if_icmp .ge 33, 3) := by decide +kernel
theorem dX2_finish_99 : decode cX2_finish 99 = .ok (.iload_n 3, 1) := by decide +kernel
theorem dX2_finish_100 : decode cX2_finish 100 = .ok (.sipush 200, 3) := by decide +kernel
theorem dX2_finish_103 : decode cX2_finish 103 = .ok (.if_icmp .ge 26, 3) := by decide +kernel
theorem dX2_finish_106 : decode cX2_finish 106 = .ok (.aload_n 0, 1) := by decide +kernel
theorem dX2_finish_107 : decode cX2_finish 107 = .ok (.getfield 21, 3) := by decide +kernel
theorem dX2_finish_110 : decode cX2_finish 110 = .ok (.aload_n 1, 1) := by decide +kernel
theorem dX2_finish_111 : decode cX2_finish 111 = .ok (.getfield 171, 3) := by decide +kernel
theorem dX2_finish_114 : decode cX2_finish 114 = .ok (.aload_n 1, 1) := by decide +kernel
theorem dX2_finish_115 : decode cX2_finish 115 = .ok (.getfield 340, 3) := by decide +kernel
theorem dX2_finish_118 : decode cX2_finish 118 = .ok (.iload_n 3, 1) := by decide +kernel
theorem dX2_finish_119 : decode cX2_finish 119 = .ok (.iaload, 1) := by decide +kernel
theorem dX2_finish_120 : decode cX2_finish 120 = .ok (.invokevirtual 174, 3) := by decide +kernel
theorem dX2_finish_123 : decode cX2_finish 123 = .ok (.iinc 3 1, 3) := by decide +kernel
theorem dX2_finish_126 : decode cX2_finish 126 = .ok (.goto (-35), 3) := by decide +kernel
theorem dX2_finish_129 : decode cX2_finish 129 = .ok (.aload_n 1, 1) := by decide +kernel
theorem dX2_finish_130 : decode cX2_finish 130 = .ok (.iconst 0, 1) := by decide +kernel
theorem dX2_finish_131 : decode cX2_finish 131 = .ok (.putfield 320, 3) := by decide +kernel
theorem dX2_finish_134 : decode cX2_finish 134 = .ok (.aload_n 1, 1) := by decide +kernel
theorem dX2_finish_135 : decode cX2_finish 135 = .ok (.dup, 1) := by decide +kernel
theorem dX2_finish_136 : decode cX2_finish 136 = .ok (.getfield 343, 3) := by decide +kernel
theorem dX2_finish_139 : decode cX2_finish 139 = .ok (.iconst 1, 1) := by decide +kernel
theorem dX2_finish_140 : decode cX2_finish 140 = .ok (.iadd, 1) := by decide +kernel
theorem dX2_finish_141 : decode cX2_finish 141 = .ok (.putfield 343, 3) := by decide +kernel
theorem dX2_finish_144 : decode cX2_finish 144 = .ok (.aload_n 1, 1) := by decide +kernel
theorem dX2_finish_145 : decode cX2_finish 145 = .ok (.iconst 0, 1) := by decide +kernel
theorem dX2_finish_146 : decode cX2_finish 146 = .ok (.putfield 165, 3) := by decide +kernel
theorem dX2_finish_149 : decode cX2_finish 149 = .ok (.aload_n 1, 1) := by decide +kernel
theorem dX2_finish_150 : decode cX2_finish 150 = .ok (.iconst 1, 1) := by decide +kernel
theorem dX2_finish_151 : decode cX2_finish 151 = .ok (.putfield 55, 3) := by decide +kernel
theorem dX2_finish_154 : decode cX2_finish 154 = .ok (.return_, 1) := by decide +kernel
theorem dX2_foldReads_0 : decode cX2_foldReads 0 = .ok (.aload_n 0, 1) := by decide +kernel
theorem dX2_foldReads_1 : decode cX2_foldReads 1 = .ok (.getfield 165, 3) := by decide +kernel
theorem dX2_foldReads_4 : decode cX2_foldReads 4 = .ok (.iconst 1, 1) := by decide +kernel
theorem dX2_foldReads_5 : decode cX2_foldReads 5 = .ok (.isub, 1) := by decide +kernel
theorem dX2_foldReads_6 : decode cX2_foldReads 6 = .ok (.istore_n 2, 1) := by decide +kernel
theorem dX2_foldReads_7 : decode cX2_foldReads 7 = .ok (.iload_n 2, 1) := by decide +kernel
theorem dX2_foldReads_8 : decode cX2_foldReads 8 = .ok (.iload_n 1, 1) := by decide +kernel
theorem dX2_foldReads_9 : decode cX2_foldReads 9 = .ok (.if_icmp .le 28, 3) := by decide +kernel
theorem dX2_foldReads_12 : decode cX2_foldReads 12 = .ok (.iload_n 2, 1) := by decide +kernel
theorem dX2_foldReads_13 : decode cX2_foldReads 13 = .ok (.ifCond .le 24, 3) := by decide +kernel
theorem dX2_foldReads_16 : decode cX2_foldReads 16 = .ok (.aload_n 0, 1) := by decide +kernel
theorem dX2_foldReads_17 : decode cX2_foldReads 17 = .ok (.iload_n 2, 1) := by decide +kernel
theorem dX2_foldReads_18 : decode cX2_foldReads 18 = .ok (.iconst 1, 1) := by decide +kernel
theorem dX2_foldReads_19 : decode cX2_foldReads 19 = .ok (.isub, 1) := by decide +kernel
theorem dX2_foldReads_20 : decode cX2_foldReads 20 = .ok (.invokevirtual 213, 3) := by decide +kernel
theorem dX2_foldReads_23 : decode cX2_foldReads 23 = .ok (.aload_n 0, 1) := by decide +kernel
theorem dX2_foldReads_24 : decode cX2_foldReads 24 = .ok (.iload_n 2, 1) := by decide +kernel
theorem dX2_foldReads_25 : decode cX2_foldReads 25 = .ok (.invokevirtual 213, 3) := by decide +kernel
theorem dX2_foldReads_28 : decode cX2_foldReads 28 = .ok (.invokevirtual 307, 3) := by decide +kernel
theorem dX2_foldReads_31 : decode cX2_foldReads 31 = .ok (.iinc 2 (-1), 3) := by decide +kernel
theorem dX2_foldReads_34 : decode cX2_foldReads 34 = .ok (.goto (-27), 3) := by decide +kernel
theorem dX2_foldReads_37 : decode cX2_foldReads 37 = .ok (.return_, 1) := by decide +kernel
theorem dX2_giveBack_0 : decode cX2_giveBack 0 = .ok (.iconst 0, 1) := by decide +kernel
theorem dX2_giveBack_1 : decode cX2_giveBack 1 = .ok (.istore_n 2, 1) := by decide +kernel
theorem dX2_giveBack_2 : decode cX2_giveBack 2 = .ok (.iload_n 2, 1) := by decide +kernel
theorem dX2_giveBack_3 : decode cX2_giveBack 3 = .ok (.bipush 26, 2) := by decide +kernel
theorem dX2_giveBack_5 : decode cX2_giveBack 5 = .ok (.if_icmp .ge 35, 3) := by decide +kernel
theorem dX2_giveBack_8 : decode cX2_giveBack 8 = .ok (.aload_n 1, 1) := by decide +kernel
theorem dX2_giveBack_9 : decode cX2_giveBack 9 = .ok (.getfield 304, 3) := by decide +kernel
theorem dX2_giveBack_12 : decode cX2_giveBack 12 = .ok (.iload_n 2, 1) := by decide +kernel
theorem dX2_giveBack_13 : decode cX2_giveBack 13 = .ok (.ishr, 1) := by decide +kernel
theorem dX2_giveBack_14 : decode cX2_giveBack 14 = .ok (.iconst 1, 1) := by decide +kernel
theorem dX2_giveBack_15 : decode cX2_giveBack 15 = .ok (.iand, 1) := by decide +kernel
theorem dX2_giveBack_16 : decode cX2_giveBack 16 = .ok (.ifCond .eq 18, 3) := by decide +kernel
theorem dX2_giveBack_19 : decode cX2_giveBack 19 = .ok (.aload_n 0, 1) := by decide +kernel
theorem dX2_giveBack_20 : decode cX2_giveBack 20 = .ok (.getfield 12, 3) := by decide +kernel
theorem dX2_giveBack_23 : decode cX2_giveBack 23 = .ok (.getfield 188, 3) := by decide +kernel
theorem dX2_giveBack_26 : decode cX2_giveBack 26 = .ok (.iload_n 2, 1) := by decide +kernel
theorem dX2_giveBack_27 : decode cX2_giveBack 27 = .ok (.aload_n 1, 1) := by decide +kernel
theorem dX2_giveBack_28 : decode cX2_giveBack 28 = .ok (.getfield 221, 3) := by decide +kernel
theorem dX2_giveBack_31 : decode cX2_giveBack 31 = .ok (.iload_n 2, 1) := by decide +kernel
theorem dX2_giveBack_32 : decode cX2_giveBack 32 = .ok (.iaload, 1) := by decide +kernel
theorem dX2_giveBack_33 : decode cX2_giveBack 33 = .ok (.iastore, 1) := by decide +kernel
theorem dX2_giveBack_34 : decode cX2_giveBack 34 = .ok (.iinc 2 1, 3) := by decide +kernel
theorem dX2_giveBack_37 : decode cX2_giveBack 37 = .ok (.goto (-35), 3) := by decide +kernel
theorem dX2_giveBack_40 : decode cX2_giveBack 40 = .ok (.return_, 1) := by decide +kernel
theorem dX2_hasNews_0 : decode cX2_hasNews 0 = .ok (.aload_n 1, 1) := by decide +kernel
theorem dX2_hasNews_1 : decode cX2_hasNews 1 = .ok (.iconst 0, 1) := by decide +kernel
theorem dX2_hasNews_2 : decode cX2_hasNews 2 = .ok (.invokevirtual 213, 3) := by decide +kernel
theorem dX2_hasNews_5 : decode cX2_hasNews 5 = .ok (.astore_n 2, 1) := by decide +kernel
theorem dX2_hasNews_6 : decode cX2_hasNews 6 = .ok (.iconst 0, 1) := by decide +kernel
theorem dX2_hasNews_7 : decode cX2_hasNews 7 = .ok (.istore_n 3, 1) := by decide +kernel
theorem dX2_hasNews_8 : decode cX2_hasNews 8 = .ok (.iload_n 3, 1) := by decide +kernel
theorem dX2_hasNews_9 : decode cX2_hasNews 9 = .ok (.aload_n 2, 1) := by decide +kernel
theorem dX2_hasNews_10 : decode cX2_hasNews 10 = .ok (.getfield 257, 3) := by decide +kernel
theorem dX2_hasNews_13 : decode cX2_hasNews 13 = .ok (.if_icmp .ge 72, 3) := by decide +kernel
theorem dX2_hasNews_16 : decode cX2_hasNews 16 = .ok (.iload_n 3, 1) := by decide +kernel
theorem dX2_hasNews_17 : decode cX2_hasNews 17 = .ok (.bipush 26, 2) := by decide +kernel
theorem dX2_hasNews_19 : decode cX2_hasNews 19 = .ok (.if_icmp .ge 66, 3) := by decide +kernel
theorem dX2_hasNews_22 : decode cX2_hasNews 22 = .ok (.aload_n 2, 1) := by decide +kernel
theorem dX2_hasNews_23 : decode cX2_hasNews 23 = .ok (.getfield 264, 3) := by decide +kernel
theorem dX2_hasNews_26 : decode cX2_hasNews 26 = .ok (.iload_n 3, 1) := by decide +kernel
theorem dX2_hasNews_27 : decode cX2_hasNews 27 = .ok (.iaload, 1) := by decide +kernel
theorem dX2_hasNews_28 : decode cX2_hasNews 28 = .ok (.istore 4, 2) := by decide +kernel
theorem dX2_hasNews_30 : decode cX2_hasNews 30 = .ok (.iload 4, 2) := by decide +kernel
theorem dX2_hasNews_32 : decode cX2_hasNews 32 = .ok (.ifCond .lt 47, 3) := by decide +kernel
theorem dX2_hasNews_35 : decode cX2_hasNews 35 = .ok (.iload 4, 2) := by decide +kernel
theorem dX2_hasNews_37 : decode cX2_hasNews 37 = .ok (.bipush 26, 2) := by decide +kernel
theorem dX2_hasNews_39 : decode cX2_hasNews 39 = .ok (.if_icmp .ge 40, 3) := by decide +kernel
theorem dX2_hasNews_42 : decode cX2_hasNews 42 = .ok (.aload_n 0, 1) := by decide +kernel
theorem dX2_hasNews_43 : decode cX2_hasNews 43 = .ok (.getfield 12, 3) := by decide +kernel
theorem dX2_hasNews_46 : decode cX2_hasNews 46 = .ok (.iload 4, 2) := by decide +kernel
theorem dX2_hasNews_48 : decode cX2_hasNews 48 = .ok (.aload_n 1, 1) := by decide +kernel
theorem dX2_hasNews_49 : decode cX2_hasNews 49 = .ok (.getfield 171, 3) := by decide +kernel
theorem dX2_hasNews_52 : decode cX2_hasNews 52 = .ok (.invokevirtual 251, 3) := by decide +kernel
theorem dX2_hasNews_55 : decode cX2_hasNews 55 = .ok (.ifCond .ne 24, 3) := by decide +kernel
theorem dX2_hasNews_58 : decode cX2_hasNews 58 = .ok (.aload_n 0, 1) := by decide +kernel
theorem dX2_hasNews_59 : decode cX2_hasNews 59 = .ok (.getfield 12, 3) := by decide +kernel
theorem dX2_hasNews_62 : decode cX2_hasNews 62 = .ok (.getfield 188, 3) := by decide +kernel
theorem dX2_hasNews_65 : decode cX2_hasNews 65 = .ok (.iload 4, 2) := by decide +kernel
theorem dX2_hasNews_67 : decode cX2_hasNews 67 = .ok (.iaload, 1) := by decide +kernel
theorem dX2_hasNews_68 : decode cX2_hasNews 68 = .ok (.aload_n 2, 1) := by decide +kernel
theorem dX2_hasNews_69 : decode cX2_hasNews 69 = .ok (.getfield 267, 3) := by decide +kernel
theorem dX2_hasNews_72 : decode cX2_hasNews 72 = .ok (.iload_n 3, 1) := by decide +kernel
theorem dX2_hasNews_73 : decode cX2_hasNews 73 = .ok (.iaload, 1) := by decide +kernel
theorem dX2_hasNews_74 : decode cX2_hasNews 74 = .ok (.if_icmp .eq 5, 3) := by decide +kernel
theorem dX2_hasNews_77 : decode cX2_hasNews 77 = .ok (.iconst 1, 1) := by decide +kernel
theorem dX2_hasNews_78 : decode cX2_hasNews 78 = .ok (.ireturn, 1) := by decide +kernel
theorem dX2_hasNews_79 : decode cX2_hasNews 79 = .ok (.iinc 3 1, 3) := by decide +kernel
theorem dX2_hasNews_82 : decode cX2_hasNews 82 = .ok (.goto (-74), 3) := by decide +kernel
theorem dX2_hasNews_85 : decode cX2_hasNews 85 = .ok (.iconst 0, 1) := by decide +kernel
theorem dX2_hasNews_86 : decode cX2_hasNews 86 = .ok (.ireturn, 1) := by decide +kernel
theorem dX2_howManyAre_0 : decode cX2_howManyAre 0 = .ok (.iconst 0, 1) := by decide +kernel
theorem dX2_howManyAre_1 : decode cX2_howManyAre 1 = .ok (.istore_n 2, 1) := by decide +kernel
theorem dX2_howManyAre_2 : decode cX2_howManyAre 2 = .ok (.iconst 0, 1) := by decide +kernel
theorem dX2_howManyAre_3 : decode cX2_howManyAre 3 = .ok (.istore_n 3, 1) := by decide +kernel
theorem dX2_howManyAre_4 : decode cX2_howManyAre 4 = .ok (.iload_n 3, 1) := by decide +kernel
theorem dX2_howManyAre_5 : decode cX2_howManyAre 5 = .ok (.bipush 6, 2) := by decide +kernel
theorem dX2_howManyAre_7 : decode cX2_howManyAre 7 = .ok (.if_icmp .ge 25, 3) := by decide +kernel
theorem dX2_howManyAre_10 : decode cX2_howManyAre 10 = .ok (.aload_n 0, 1) := by decide +kernel
theorem dX2_howManyAre_11 : decode cX2_howManyAre 11 = .ok (.getfield 34, 3) := by decide +kernel
theorem dX2_howManyAre_14 : decode cX2_howManyAre 14 = .ok (.iload_n 3, 1) := by decide +kernel
theorem dX2_howManyAre_15 : decode cX2_howManyAre 15 = .ok (.aaload, 1) := by decide +kernel
theorem dX2_howManyAre_16 : decode cX2_howManyAre 16 = .ok (.getfield 55, 3) := by decide +kernel
theorem dX2_howManyAre_19 : decode cX2_howManyAre 19 = .ok (.iload_n 1, 1) := by decide +kernel
theorem dX2_howManyAre_20 : decode cX2_howManyAre 20 = .ok (.if_icmp .ne 6, 3) := by decide +kernel
theorem dX2_howManyAre_23 : decode cX2_howManyAre 23 = .ok (.iinc 2 1, 3) := by decide +kernel
theorem dX2_howManyAre_26 : decode cX2_howManyAre 26 = .ok (.iinc 3 1, 3) := by decide +kernel
theorem dX2_howManyAre_29 : decode cX2_howManyAre 29 = .ok (.goto (-25), 3) := by decide +kernel
theorem dX2_howManyAre_32 : decode cX2_howManyAre 32 = .ok (.iload_n 2, 1) := by decide +kernel
theorem dX2_howManyAre_33 : decode cX2_howManyAre 33 = .ok (.ireturn, 1) := by decide +kernel
theorem dX2_howManyAreLeft_0 : decode cX2_howManyAreLeft 0 = .ok (.iconst 0, 1) := by decide +kernel
theorem dX2_howManyAreLeft_1 : decode cX2_howManyAreLeft 1 = .ok (.istore_n 1, 1) := by decide +kernel
theorem dX2_howManyAreLeft_2 : decode cX2_howManyAreLeft 2 = .ok (.iconst 0, 1) := by decide +kernel
theorem dX2_howManyAreLeft_3 : decode cX2_howManyAreLeft 3 = .ok (.istore_n 2, 1) := by decide +kernel
theorem dX2_howManyAreLeft_4 : decode cX2_howManyAreLeft 4 = .ok (.iload_n 2, 1) := by decide +kernel
theorem dX2_howManyAreLeft_5 : decode cX2_howManyAreLeft 5 = .ok (.bipush 6, 2) := by decide +kernel
theorem dX2_howManyAreLeft_7 : decode cX2_howManyAreLeft 7 = .ok (.if_icmp .ge 24, 3) := by decide +kernel
theorem dX2_howManyAreLeft_10 : decode cX2_howManyAreLeft 10 = .ok (.aload_n 0, 1) := by decide +kernel
theorem dX2_howManyAreLeft_11 : decode cX2_howManyAreLeft 11 = .ok (.getfield 34, 3) := by decide +kernel
theorem dX2_howManyAreLeft_14 : decode cX2_howManyAreLeft 14 = .ok (.iload_n 2, 1) := by decide +kernel
theorem dX2_howManyAreLeft_15 : decode cX2_howManyAreLeft 15 = .ok (.aaload, 1) := by decide +kernel
theorem dX2_howManyAreLeft_16 : decode cX2_howManyAreLeft 16 = .ok (.invokevirtual 73, 3) := by decide +kernel
theorem dX2_howManyAreLeft_19 : decode cX2_howManyAreLeft 19 = .ok (.ifCond .eq 6, 3) := by decide +kernel
theorem dX2_howManyAreLeft_22 : decode cX2_howManyAreLeft 22 = .ok (.iinc 1 1, 3) := by decide +kernel
theorem dX2_howManyAreLeft_25 : decode cX2_howManyAreLeft 25 = .ok (.iinc 2 1, 3) := by decide +kernel
theorem dX2_howManyAreLeft_28 : decode cX2_howManyAreLeft 28 = .ok (.goto (-24), 3) := by decide +kernel
theorem dX2_howManyAreLeft_31 : decode cX2_howManyAreLeft 31 = .ok (.iload_n 1, 1) := by decide +kernel
theorem dX2_howManyAreLeft_32 : decode cX2_howManyAreLeft 32 = .ok (.ireturn, 1) := by decide +kernel
theorem dX2_init_0 : decode cX2_init 0 = .ok (.aload_n 0, 1) := by decide +kernel
theorem dX2_init_1 : decode cX2_init 1 = .ok (.invokespecial 3, 3) := by decide +kernel
theorem dX2_init_4 : decode cX2_init 4 = .ok (.aload_n 0, 1) := by decide +kernel
theorem dX2_init_5 : decode cX2_init 5 = .ok (.new 9, 3) := by decide +kernel
theorem dX2_init_8 : decode cX2_init 8 = .ok (.dup, 1) := by decide +kernel
theorem dX2_init_9 : decode cX2_init 9 = .ok (.invokespecial 11, 3) := by decide +kernel
theorem dX2_init_12 : decode cX2_init 12 = .ok (.putfield 12, 3) := by decide +kernel
theorem dX2_init_15 : decode cX2_init 15 = .ok (.aload_n 0, 1) := by decide +kernel
theorem dX2_init_16 : decode cX2_init 16 = .ok (.new 18, 3) := by decide +kernel
theorem dX2_init_19 : decode cX2_init 19 = .ok (.dup, 1) := by decide +kernel
theorem dX2_init_20 : decode cX2_init 20 = .ok (.invokespecial 20, 3) := by decide +kernel
theorem dX2_init_23 : decode cX2_init 23 = .ok (.putfield 21, 3) := by decide +kernel
theorem dX2_init_26 : decode cX2_init 26 = .ok (.aload_n 0, 1) := by decide +kernel
theorem dX2_init_27 : decode cX2_init 27 = .ok (.new 25, 3) := by decide +kernel
theorem dX2_init_30 : decode cX2_init 30 = .ok (.dup, 1) := by decide +kernel
theorem dX2_init_31 : decode cX2_init 31 = .ok (.invokespecial 27, 3) := by decide +kernel
theorem dX2_init_34 : decode cX2_init 34 = .ok (.putfield 28, 3) := by decide +kernel
theorem dX2_init_37 : decode cX2_init 37 = .ok (.aload_n 0, 1) := by decide +kernel
theorem dX2_init_38 : decode cX2_init 38 = .ok (.bipush 6, 2) := by decide +kernel
theorem dX2_init_40 : decode cX2_init 40 = .ok (.anewarray 32, 3) := by decide +kernel
theorem dX2_init_43 : decode cX2_init 43 = .ok (.putfield 34, 3) := by decide +kernel
theorem dX2_init_46 : decode cX2_init 46 = .ok (.iconst 0, 1) := by decide +kernel
theorem dX2_init_47 : decode cX2_init 47 = .ok (.istore_n 1, 1) := by decide +kernel
theorem dX2_init_48 : decode cX2_init 48 = .ok (.iload_n 1, 1) := by decide +kernel
theorem dX2_init_49 : decode cX2_init 49 = .ok (.bipush 6, 2) := by decide +kernel
theorem dX2_init_51 : decode cX2_init 51 = .ok (.if_icmp .ge 23, 3) := by decide +kernel
theorem dX2_init_54 : decode cX2_init 54 = .ok (.aload_n 0, 1) := by decide +kernel
theorem dX2_init_55 : decode cX2_init 55 = .ok (.getfield 34, 3) := by decide +kernel
theorem dX2_init_58 : decode cX2_init 58 = .ok (.iload_n 1, 1) := by decide +kernel
theorem dX2_init_59 : decode cX2_init 59 = .ok (.new 32, 3) := by decide +kernel
theorem dX2_init_62 : decode cX2_init 62 = .ok (.dup, 1) := by decide +kernel
theorem dX2_init_63 : decode cX2_init 63 = .ok (.iload_n 1, 1) := by decide +kernel
theorem dX2_init_64 : decode cX2_init 64 = .ok (.invokespecial 38, 3) := by decide +kernel
theorem dX2_init_67 : decode cX2_init 67 = .ok (.aastore, 1) := by decide +kernel
theorem dX2_init_68 : decode cX2_init 68 = .ok (.iinc 1 1, 3) := by decide +kernel
theorem dX2_init_71 : decode cX2_init 71 = .ok (.goto (-23), 3) := by decide +kernel
theorem dX2_init_74 : decode cX2_init 74 = .ok (.aload_n 0, 1) := by decide +kernel
theorem dX2_init_75 : decode cX2_init 75 = .ok (.iconst 0, 1) := by decide +kernel
theorem dX2_init_76 : decode cX2_init 76 = .ok (.putfield 41, 3) := by decide +kernel
theorem dX2_init_79 : decode cX2_init 79 = .ok (.return_, 1) := by decide +kernel
theorem dX2_isBusy_0 : decode cX2_isBusy 0 = .ok (.aload_n 0, 1) := by decide +kernel
theorem dX2_isBusy_1 : decode cX2_isBusy 1 = .ok (.getfield 41, 3) := by decide +kernel
theorem dX2_isBusy_4 : decode cX2_isBusy 4 = .ok (.iconst 4, 1) := by decide +kernel
theorem dX2_isBusy_5 : decode cX2_isBusy 5 = .ok (.if_icmp .ne 28, 3) := by decide +kernel
theorem dX2_isBusy_8 : decode cX2_isBusy 8 = .ok (.aload_n 0, 1) := by decide +kernel
theorem dX2_isBusy_9 : decode cX2_isBusy 9 = .ok (.iconst 2, 1) := by decide +kernel
theorem dX2_isBusy_10 : decode cX2_isBusy 10 = .ok (.invokevirtual 65, 3) := by decide +kernel
theorem dX2_isBusy_13 : decode cX2_isBusy 13 = .ok (.aload_n 1, 1) := by decide +kernel
theorem dX2_isBusy_14 : decode cX2_isBusy 14 = .ok (.getfield 55, 3) := by decide +kernel
theorem dX2_isBusy_17 : decode cX2_isBusy 17 = .ok (.iconst 2, 1) := by decide +kernel
theorem dX2_isBusy_18 : decode cX2_isBusy 18 = .ok (.if_icmp .ne 7, 3) := by decide +kernel
theorem dX2_isBusy_21 : decode cX2_isBusy 21 = .ok (.iconst 1, 1) := by decide +kernel
theorem dX2_isBusy_22 : decode cX2_isBusy 22 = .ok (.goto 4, 3) := by decide +kernel
theorem dX2_isBusy_25 : decode cX2_isBusy 25 = .ok (.iconst 0, 1) := by decide +kernel
theorem dX2_isBusy_26 : decode cX2_isBusy 26 = .ok (.if_icmp .le 7, 3) := by decide +kernel
theorem dX2_isBusy_29 : decode cX2_isBusy 29 = .ok (.iconst 1, 1) := by decide +kernel
theorem dX2_isBusy_30 : decode cX2_isBusy 30 = .ok (.goto 4, 3) := by decide +kernel
theorem dX2_isBusy_33 : decode cX2_isBusy 33 = .ok (.iconst 0, 1) := by decide +kernel
theorem dX2_isBusy_34 : decode cX2_isBusy 34 = .ok (.ireturn, 1) := by decide +kernel
theorem dX2_isWrong_0 : decode cX2_isWrong 0 = .ok (.iload_n 3, 1) := by decide +kernel
theorem dX2_isWrong_1 : decode cX2_isWrong 1 = .ok (.ifCond .lt 9, 3) := by decide +kernel
theorem dX2_isWrong_4 : decode cX2_isWrong 4 = .ok (.iload_n 3, 1) := by decide +kernel
theorem dX2_isWrong_5 : decode cX2_isWrong 5 = .ok (.bipush 26, 2) := by decide +kernel
theorem dX2_isWrong_7 : decode cX2_isWrong 7 = .ok (.if_icmp .lt 5, 3) := by decide +kernel
theorem dX2_isWrong_10 : decode cX2_isWrong 10 = .ok (.iconst 0, 1) := by decide +kernel
theorem dX2_isWrong_11 : decode cX2_isWrong 11 = .ok (.ireturn, 1) := by decide +kernel
theorem dX2_isWrong_12 : decode cX2_isWrong 12 = .ok (.aload_n 2, 1) := by decide +kernel
theorem dX2_isWrong_13 : decode cX2_isWrong 13 = .ok (.getfield 264, 3) := by decide +kernel
theorem dX2_isWrong_16 : decode cX2_isWrong 16 = .ok (.iload_n 3, 1) := by decide +kernel
theorem dX2_isWrong_17 : decode cX2_isWrong 17 = .ok (.iaload, 1) := by decide +kernel
theorem dX2_isWrong_18 : decode cX2_isWrong 18 = .ok (.istore 4, 2) := by decide +kernel
theorem dX2_isWrong_20 : decode cX2_isWrong 20 = .ok (.iload 4, 2) := by decide +kernel
theorem dX2_isWrong_22 : decode cX2_isWrong 22 = .ok (.ifCond .lt 10, 3) := by decide +kernel
theorem dX2_isWrong_25 : decode cX2_isWrong 25 = .ok (.iload 4, 2) := by decide +kernel
theorem dX2_isWrong_27 : decode cX2_isWrong 27 = .ok (.bipush 26, 2) := by decide +kernel
theorem dX2_isWrong_29 : decode cX2_isWrong 29 = .ok (.if_icmp .lt 5, 3) := by decide +kernel
theorem dX2_isWrong_32 : decode cX2_isWrong 32 = .ok (.iconst 0, 1) := by decide +kernel
theorem dX2_isWrong_33 : decode cX2_isWrong 33 = .ok (.ireturn, 1) := by decide +kernel
theorem dX2_isWrong_34 : decode cX2_isWrong 34 = .ok (.aload_n 0, 1) := by decide +kernel
theorem dX2_isWrong_35 : decode cX2_isWrong 35 = .ok (.getfield 41, 3) := by decide +kernel
theorem dX2_isWrong_38 : decode cX2_isWrong 38 = .ok (.tableswitch 119 0 3 #[30, 53, 30, 78], 30) := by decide +kernel
theorem dX2_isWrong_68 : decode cX2_isWrong 68 = .ok (.aload_n 0, 1) := by decide +kernel
theorem dX2_isWrong_69 : decode cX2_isWrong 69 = .ok (.getfield 12, 3) := by decide +kernel
theorem dX2_isWrong_72 : decode cX2_isWrong 72 = .ok (.getfield 206, 3) := by decide +kernel
theorem dX2_isWrong_75 : decode cX2_isWrong 75 = .ok (.iload 4, 2) := by decide +kernel
theorem dX2_isWrong_77 : decode cX2_isWrong 77 = .ok (.iaload, 1) := by decide +kernel
theorem dX2_isWrong_78 : decode cX2_isWrong 78 = .ok (.aload_n 1, 1) := by decide +kernel
theorem dX2_isWrong_79 : decode cX2_isWrong 79 = .ok (.getfield 224, 3) := by decide +kernel
theorem dX2_isWrong_82 : decode cX2_isWrong 82 = .ok (.if_icmp .le 7, 3) := by decide +kernel
theorem dX2_isWrong_85 : decode cX2_isWrong 85 = .ok (.iconst 1, 1) := by decide +kernel
theorem dX2_isWrong_86 : decode cX2_isWrong 86 = .ok (.goto 4, 3) := by decide +kernel
theorem dX2_isWrong_89 : decode cX2_isWrong 89 = .ok (.iconst 0, 1) := by decide +kernel
theorem dX2_isWrong_90 : decode cX2_isWrong 90 = .ok (.ireturn, 1) := by decide +kernel
theorem dX2_isWrong_91 : decode cX2_isWrong 91 = .ok (.aload_n 0, 1) := by decide +kernel
theorem dX2_isWrong_92 : decode cX2_isWrong 92 = .ok (.getfield 12, 3) := by decide +kernel
theorem dX2_isWrong_95 : decode cX2_isWrong 95 = .ok (.getfield 188, 3) := by decide +kernel
theorem dX2_isWrong_98 : decode cX2_isWrong 98 = .ok (.iload 4, 2) := by decide +kernel
theorem dX2_isWrong_100 : decode cX2_isWrong 100 = .ok (.iaload, 1) := by decide +kernel
theorem dX2_isWrong_101 : decode cX2_isWrong 101 = .ok (.aload_n 2, 1) := by decide +kernel
theorem dX2_isWrong_102 : decode cX2_isWrong 102 = .ok (.getfield 267, 3) := by decide +kernel
theorem dX2_isWrong_105 : decode cX2_isWrong 105 = .ok (.iload_n 3, 1) := by decide +kernel
theorem dX2_isWrong_106 : decode cX2_isWrong 106 = .ok (.iaload, 1) := by decide +kernel
theorem dX2_isWrong_107 : decode cX2_isWrong 107 = .ok (.if_icmp .eq 7, 3) := by decide +kernel
theorem dX2_isWrong_110 : decode cX2_isWrong 110 = .ok (.iconst 1, 1) := by decide +kernel
theorem dX2_isWrong_111 : decode cX2_isWrong 111 = .ok (.goto 4, 3) := by decide +kernel
theorem dX2_isWrong_114 : decode cX2_isWrong 114 = .ok (.iconst 0, 1) := by decide +kernel
theorem dX2_isWrong_115 : decode cX2_isWrong 115 = .ok (.ireturn, 1) := by decide +kernel
theorem dX2_isWrong_116 : decode cX2_isWrong 116 = .ok (.aload_n 0, 1) := by decide +kernel
theorem dX2_isWrong_117 : decode cX2_isWrong 117 = .ok (.getfield 12, 3) := by decide +kernel
theorem dX2_isWrong_120 : decode cX2_isWrong 120 = .ok (.iload 4, 2) := by decide +kernel
theorem dX2_isWrong_122 : decode cX2_isWrong 122 = .ok (.aload_n 1, 1) := by decide +kernel
theorem dX2_isWrong_123 : decode cX2_isWrong 123 = .ok (.getfield 171, 3) := by decide +kernel
theorem dX2_isWrong_126 : decode cX2_isWrong 126 = .ok (.invokevirtual 251, 3) := by decide +kernel
theorem dX2_isWrong_129 : decode cX2_isWrong 129 = .ok (.ifCond .ne 22, 3) := by decide +kernel
theorem dX2_isWrong_132 : decode cX2_isWrong 132 = .ok (.aload_n 0, 1) := by decide +kernel
theorem dX2_isWrong_133 : decode cX2_isWrong 133 = .ok (.getfield 12, 3) := by decide +kernel
theorem dX2_isWrong_136 : decode cX2_isWrong 136 = .ok (.getfield 206, 3) := by decide +kernel
theorem dX2_isWrong_139 : decode cX2_isWrong 139 = .ok (.iload 4, 2) := by decide +kernel
theorem dX2_isWrong_141 : decode cX2_isWrong 141 = .ok (.iaload, 1) := by decide +kernel
theorem dX2_isWrong_142 : decode cX2_isWrong 142 = .ok (.aload_n 2, 1) := by decide +kernel
theorem dX2_isWrong_143 : decode cX2_isWrong 143 = .ok (.getfield 270, 3) := by decide +kernel
theorem dX2_isWrong_146 : decode cX2_isWrong 146 = .ok (.iload_n 3, 1) := by decide +kernel
theorem dX2_isWrong_147 : decode cX2_isWrong 147 = .ok (.iaload, 1) := by decide +kernel
theorem dX2_isWrong_148 : decode cX2_isWrong 148 = .ok (.if_icmp .eq 7, 3) := by decide +kernel
theorem dX2_isWrong_151 : decode cX2_isWrong 151 = .ok (.iconst 1, 1) := by decide +kernel
theorem dX2_isWrong_152 : decode cX2_isWrong 152 = .ok (.goto 4, 3) := by decide +kernel
theorem dX2_isWrong_155 : decode cX2_isWrong 155 = .ok (.iconst 0, 1) := by decide +kernel
theorem dX2_isWrong_156 : decode cX2_isWrong 156 = .ok (.ireturn, 1) := by decide +kernel
theorem dX2_isWrong_157 : decode cX2_isWrong 157 = .ok (.iconst 0, 1) := by decide +kernel
theorem dX2_isWrong_158 : decode cX2_isWrong 158 = .ok (.ireturn, 1) := by decide +kernel
theorem dX2_joinAround_0 : decode cX2_joinAround 0 = .ok (.aload_n 1, 1) := by decide +kernel
theorem dX2_joinAround_1 : decode cX2_joinAround 1 = .ok (.aload_n 1, 1) := by decide +kernel
theorem dX2_joinAround_2 : decode cX2_joinAround 2 = .ok (.getfield 165, 3) := by decide +kernel
theorem dX2_joinAround_5 : decode cX2_joinAround 5 = .ok (.iconst 1, 1) := by decide +kernel
theorem dX2_joinAround_6 : decode cX2_joinAround 6 = .ok (.isub, 1) := by decide +kernel
theorem dX2_joinAround_7 : decode cX2_joinAround 7 = .ok (.invokevirtual 213, 3) := by decide +kernel
theorem dX2_joinAround_10 : decode cX2_joinAround 10 = .ok (.astore_n 2, 1) := by decide +kernel
theorem dX2_joinAround_11 : decode cX2_joinAround 11 = .ok (.aload_n 1, 1) := by decide +kernel
theorem dX2_joinAround_12 : decode cX2_joinAround 12 = .ok (.aload_n 1, 1) := by decide +kernel
theorem dX2_joinAround_13 : decode cX2_joinAround 13 = .ok (.getfield 165, 3) := by decide +kernel
theorem dX2_joinAround_16 : decode cX2_joinAround 16 = .ok (.iconst 2, 1) := by decide +kernel
theorem dX2_joinAround_17 : decode cX2_joinAround 17 = .ok (.isub, 1) := by decide +kernel
theorem dX2_joinAround_18 : decode cX2_joinAround 18 = .ok (.invokevirtual 213, 3) := by decide +kernel
theorem dX2_joinAround_21 : decode cX2_joinAround 21 = .ok (.astore_n 3, 1) := by decide +kernel
theorem dX2_joinAround_22 : decode cX2_joinAround 22 = .ok (.aload_n 3, 1) := by decide +kernel
theorem dX2_joinAround_23 : decode cX2_joinAround 23 = .ok (.aload_n 2, 1) := by decide +kernel
theorem dX2_joinAround_24 : decode cX2_joinAround 24 = .ok (.invokevirtual 307, 3) := by decide +kernel
theorem dX2_joinAround_27 : decode cX2_joinAround 27 = .ok (.iconst 0, 1) := by decide +kernel
theorem dX2_joinAround_28 : decode cX2_joinAround 28 = .ok (.istore 4, 2) := by decide +kernel
theorem dX2_joinAround_30 : decode cX2_joinAround 30 = .ok (.iload 4, 2) := by decide +kernel
theorem dX2_joinAround_32 : decode cX2_joinAround 32 = .ok (.bipush 26, 2) := by decide +kernel
theorem dX2_joinAround_34 : decode cX2_joinAround 34 = .ok (.if_icmp .ge 47, 3) := by decide +kernel
theorem dX2_joinAround_37 : decode cX2_joinAround 37 = .ok (.aload_n 2, 1) := by decide +kernel
theorem dX2_joinAround_38 : decode cX2_joinAround 38 = .ok (.iload 4, 2) := by decide +kernel
theorem dX2_joinAround_40 : decode cX2_joinAround 40 = .ok (.invokevirtual 217, 3) := by decide +kernel
theorem dX2_joinAround_43 : decode cX2_joinAround 43 = .ok (.ifCond .eq 32, 3) := by decide +kernel
theorem dX2_joinAround_46 : decode cX2_joinAround 46 = .ok (.aload_n 0, 1) := by decide +kernel
theorem dX2_joinAround_47 : decode cX2_joinAround 47 = .ok (.invokevirtual 178, 3) := by decide +kernel
theorem dX2_joinAround_50 : decode cX2_joinAround 50 = .ok (.ifCond .eq 12, 3) := by decide +kernel
theorem dX2_joinAround_53 : decode cX2_joinAround 53 = .ok (.aload_n 3, 1) := by decide +kernel
theorem dX2_joinAround_54 : decode cX2_joinAround 54 = .ok (.iload 4, 2) := by decide +kernel
theorem dX2_joinAround_56 : decode cX2_joinAround 56 = .ok (.invokevirtual 217, 3) := by decide +kernel
theorem dX2_joinAround_59 : decode cX2_joinAround 59 = .ok (.ifCond .ne 16, 3) := by decide +kernel
theorem dX2_joinAround_62 : decode cX2_joinAround 62 = .ok (.aload_n 3, 1) := by decide +kernel
theorem dX2_joinAround_63 : decode cX2_joinAround 63 = .ok (.iload 4, 2) := by decide +kernel
theorem dX2_joinAround_65 : decode cX2_joinAround 65 = .ok (.aload_n 2, 1) := by decide +kernel
theorem dX2_joinAround_66 : decode cX2_joinAround 66 = .ok (.getfield 221, 3) := by decide +kernel
theorem dX2_joinAround_69 : decode cX2_joinAround 69 = .ok (.iload 4, 2) := by decide +kernel
theorem dX2_joinAround_71 : decode cX2_joinAround 71 = .ok (.iaload, 1) := by decide +kernel
theorem dX2_joinAround_72 : decode cX2_joinAround 72 = .ok (.invokevirtual 244, 3) := by decide +kernel
theorem dX2_joinAround_75 : decode cX2_joinAround 75 = .ok (.iinc 4 1, 3) := by decide +kernel
theorem dX2_joinAround_78 : decode cX2_joinAround 78 = .ok (.goto (-48), 3) := by decide +kernel
theorem dX2_joinAround_81 : decode cX2_joinAround 81 = .ok (.aload_n 2, 1) := by decide +kernel
theorem dX2_joinAround_82 : decode cX2_joinAround 82 = .ok (.invokevirtual 298, 3) := by decide +kernel
theorem dX2_joinAround_85 : decode cX2_joinAround 85 = .ok (.aload_n 1, 1) := by decide +kernel
theorem dX2_joinAround_86 : decode cX2_joinAround 86 = .ok (.dup, 1) := by decide +kernel
theorem dX2_joinAround_87 : decode cX2_joinAround 87 = .ok (.getfield 165, 3) := by decide +kernel
theorem dX2_joinAround_90 : decode cX2_joinAround 90 = .ok (.iconst 1, 1) := by decide +kernel
theorem dX2_joinAround_91 : decode cX2_joinAround 91 = .ok (.isub, 1) := by decide +kernel
theorem dX2_joinAround_92 : decode cX2_joinAround 92 = .ok (.putfield 165, 3) := by decide +kernel
theorem dX2_joinAround_95 : decode cX2_joinAround 95 = .ok (.return_, 1) := by decide +kernel
theorem dX2_leaveFrom_0 : decode cX2_leaveFrom 0 = .ok (.iload_n 2, 1) := by decide +kernel
theorem dX2_leaveFrom_1 : decode cX2_leaveFrom 1 = .ok (.ifCond .lt 11, 3) := by decide +kernel
theorem dX2_leaveFrom_4 : decode cX2_leaveFrom 4 = .ok (.iload_n 2, 1) := by decide +kernel
theorem dX2_leaveFrom_5 : decode cX2_leaveFrom 5 = .ok (.aload_n 1, 1) := by decide +kernel
theorem dX2_leaveFrom_6 : decode cX2_leaveFrom 6 = .ok (.getfield 165, 3) := by decide +kernel
theorem dX2_leaveFrom_9 : decode cX2_leaveFrom 9 = .ok (.if_icmp .lt 4, 3) := by decide +kernel
theorem dX2_leaveFrom_12 : decode cX2_leaveFrom 12 = .ok (.return_, 1) := by decide +kernel
theorem dX2_leaveFrom_13 : decode cX2_leaveFrom 13 = .ok (.aload_n 1, 1) := by decide +kernel
theorem dX2_leaveFrom_14 : decode cX2_leaveFrom 14 = .ok (.iload_n 2, 1) := by decide +kernel
theorem dX2_leaveFrom_15 : decode cX2_leaveFrom 15 = .ok (.iconst 1, 1) := by decide +kernel
theorem dX2_leaveFrom_16 : decode cX2_leaveFrom 16 = .ok (.isub, 1) := by decide +kernel
theorem dX2_leaveFrom_17 : decode cX2_leaveFrom 17 = .ok (.invokestatic 310, 3) := by decide +kernel
theorem dX2_leaveFrom_20 : decode cX2_leaveFrom 20 = .ok (.aload_n 0, 1) := by decide +kernel
theorem dX2_leaveFrom_21 : decode cX2_leaveFrom 21 = .ok (.aload_n 1, 1) := by decide +kernel
theorem dX2_leaveFrom_22 : decode cX2_leaveFrom 22 = .ok (.iload_n 2, 1) := by decide +kernel
theorem dX2_leaveFrom_23 : decode cX2_leaveFrom 23 = .ok (.invokevirtual 273, 3) := by decide +kernel
theorem dX2_leaveFrom_26 : decode cX2_leaveFrom 26 = .ok (.aload_n 1, 1) := by decide +kernel
theorem dX2_leaveFrom_27 : decode cX2_leaveFrom 27 = .ok (.iload_n 2, 1) := by decide +kernel
theorem dX2_leaveFrom_28 : decode cX2_leaveFrom 28 = .ok (.putfield 165, 3) := by decide +kernel
theorem dX2_leaveFrom_31 : decode cX2_leaveFrom 31 = .ok (.iload_n 2, 1) := by decide +kernel
theorem dX2_leaveFrom_32 : decode cX2_leaveFrom 32 = .ok (.ifCond .ne 19, 3) := by decide +kernel
theorem dX2_leaveFrom_35 : decode cX2_leaveFrom 35 = .ok (.aload_n 0, 1) := by decide +kernel
theorem dX2_leaveFrom_36 : decode cX2_leaveFrom 36 = .ok (.getfield 12, 3) := by decide +kernel
theorem dX2_leaveFrom_39 : decode cX2_leaveFrom 39 = .ok (.aload_n 1, 1) := by decide +kernel
theorem dX2_leaveFrom_40 : decode cX2_leaveFrom 40 = .ok (.getfield 171, 3) := by decide +kernel
theorem dX2_leaveFrom_43 : decode cX2_leaveFrom 43 = .ok (.invokevirtual 283, 3) := by decide +kernel
theorem dX2_leaveFrom_46 : decode cX2_leaveFrom 46 = .ok (.aload_n 1, 1) := by decide +kernel
theorem dX2_leaveFrom_47 : decode cX2_leaveFrom 47 = .ok (.iconst 1, 1) := by decide +kernel
theorem dX2_leaveFrom_48 : decode cX2_leaveFrom 48 = .ok (.putfield 55, 3) := by decide +kernel
theorem dX2_leaveFrom_51 : decode cX2_leaveFrom 51 = .ok (.return_, 1) := by decide +kernel
theorem dX2_loserAbout_0 : decode cX2_loserAbout 0 = .ok (.aload_n 0, 1) := by decide +kernel
theorem dX2_loserAbout_1 : decode cX2_loserAbout 1 = .ok (.getfield 12, 3) := by decide +kernel
theorem dX2_loserAbout_4 : decode cX2_loserAbout 4 = .ok (.iload_n 2, 1) := by decide +kernel
theorem dX2_loserAbout_5 : decode cX2_loserAbout 5 = .ok (.aload_n 1, 1) := by decide +kernel
theorem dX2_loserAbout_6 : decode cX2_loserAbout 6 = .ok (.getfield 171, 3) := by decide +kernel
theorem dX2_loserAbout_9 : decode cX2_loserAbout 9 = .ok (.invokevirtual 251, 3) := by decide +kernel
theorem dX2_loserAbout_12 : decode cX2_loserAbout 12 = .ok (.ifCond .ne 5, 3) := by decide +kernel
theorem dX2_loserAbout_15 : decode cX2_loserAbout 15 = .ok (.iconst (-1), 1) := by decide +kernel
theorem dX2_loserAbout_16 : decode cX2_loserAbout 16 = .ok (.ireturn, 1) := by decide +kernel
theorem dX2_loserAbout_17 : decode cX2_loserAbout 17 = .ok (.aload_n 0, 1) := by decide +kernel
theorem dX2_loserAbout_18 : decode cX2_loserAbout 18 = .ok (.getfield 12, 3) := by decide +kernel
theorem dX2_loserAbout_21 : decode cX2_loserAbout 21 = .ok (.getfield 245, 3) := by decide +kernel
theorem dX2_loserAbout_24 : decode cX2_loserAbout 24 = .ok (.iload_n 2, 1) := by decide +kernel
theorem dX2_loserAbout_25 : decode cX2_loserAbout 25 = .ok (.iaload, 1) := by decide +kernel
theorem dX2_loserAbout_26 : decode cX2_loserAbout 26 = .ok (.istore_n 3, 1) := by decide +kernel
theorem dX2_loserAbout_27 : decode cX2_loserAbout 27 = .ok (.iload_n 3, 1) := by decide +kernel
theorem dX2_loserAbout_28 : decode cX2_loserAbout 28 = .ok (.ifCond .lt 9, 3) := by decide +kernel
theorem dX2_loserAbout_31 : decode cX2_loserAbout 31 = .ok (.iload_n 3, 1) := by decide +kernel
theorem dX2_loserAbout_32 : decode cX2_loserAbout 32 = .ok (.bipush 6, 2) := by decide +kernel
theorem dX2_loserAbout_34 : decode cX2_loserAbout 34 = .ok (.if_icmp .lt 5, 3) := by decide +kernel
theorem dX2_loserAbout_37 : decode cX2_loserAbout 37 = .ok (.iconst (-1), 1) := by decide +kernel
theorem dX2_loserAbout_38 : decode cX2_loserAbout 38 = .ok (.ireturn, 1) := by decide +kernel
theorem dX2_loserAbout_39 : decode cX2_loserAbout 39 = .ok (.aload_n 0, 1) := by decide +kernel
theorem dX2_loserAbout_40 : decode cX2_loserAbout 40 = .ok (.getfield 34, 3) := by decide +kernel
theorem dX2_loserAbout_43 : decode cX2_loserAbout 43 = .ok (.iload_n 3, 1) := by decide +kernel
theorem dX2_loserAbout_44 : decode cX2_loserAbout 44 = .ok (.aaload, 1) := by decide +kernel
theorem dX2_loserAbout_45 : decode cX2_loserAbout 45 = .ok (.getfield 254, 3) := by decide +kernel
theorem dX2_loserAbout_48 : decode cX2_loserAbout 48 = .ok (.aload_n 1, 1) := by decide +kernel
theorem dX2_loserAbout_49 : decode cX2_loserAbout 49 = .ok (.getfield 254, 3) := by decide +kernel
theorem dX2_loserAbout_52 : decode cX2_loserAbout 52 = .ok (.if_icmp .le 7, 3) := by decide +kernel
theorem dX2_loserAbout_55 : decode cX2_loserAbout 55 = .ok (.iload_n 3, 1) := by decide +kernel
theorem dX2_loserAbout_56 : decode cX2_loserAbout 56 = .ok (.goto 7, 3) := by decide +kernel
theorem dX2_loserAbout_59 : decode cX2_loserAbout 59 = .ok (.aload_n 1, 1) := by decide +kernel
theorem dX2_loserAbout_60 : decode cX2_loserAbout 60 = .ok (.getfield 171, 3) := by decide +kernel
theorem dX2_loserAbout_63 : decode cX2_loserAbout 63 = .ok (.ireturn, 1) := by decide +kernel
theorem dX2_mayEnd_0 : decode cX2_mayEnd 0 = .ok (.aload_n 1, 1) := by decide +kernel
theorem dX2_mayEnd_1 : decode cX2_mayEnd 1 = .ok (.iconst 0, 1) := by decide +kernel
theorem dX2_mayEnd_2 : decode cX2_mayEnd 2 = .ok (.invokevirtual 213, 3) := by decide +kernel
theorem dX2_mayEnd_5 : decode cX2_mayEnd 5 = .ok (.astore_n 2, 1) := by decide +kernel
theorem dX2_mayEnd_6 : decode cX2_mayEnd 6 = .ok (.aload_n 0, 1) := by decide +kernel
theorem dX2_mayEnd_7 : decode cX2_mayEnd 7 = .ok (.getfield 41, 3) := by decide +kernel
theorem dX2_mayEnd_10 : decode cX2_mayEnd 10 = .ok (.iconst 3, 1) := by decide +kernel
theorem dX2_mayEnd_11 : decode cX2_mayEnd 11 = .ok (.if_icmp .eq 12, 3) := by decide +kernel
theorem dX2_mayEnd_14 : decode cX2_mayEnd 14 = .ok (.aload_n 2, 1) := by decide +kernel
theorem dX2_mayEnd_15 : decode cX2_mayEnd 15 = .ok (.getfield 304, 3) := by decide +kernel
theorem dX2_mayEnd_18 : decode cX2_mayEnd 18 = .ok (.ifCond .ne 5, 3) := by decide +kernel
theorem dX2_mayEnd_21 : decode cX2_mayEnd 21 = .ok (.iconst 1, 1) := by decide +kernel
theorem dX2_mayEnd_22 : decode cX2_mayEnd 22 = .ok (.ireturn, 1) := by decide +kernel
theorem dX2_mayEnd_23 : decode cX2_mayEnd 23 = .ok (.iconst 0, 1) := by decide +kernel
theorem dX2_mayEnd_24 : decode cX2_mayEnd 24 = .ok (.istore_n 3, 1) := by decide +kernel
theorem dX2_mayEnd_25 : decode cX2_mayEnd 25 = .ok (.aload_n 0, 1) := by decide +kernel
theorem dX2_mayEnd_26 : decode cX2_mayEnd 26 = .ok (.getfield 41, 3) := by decide +kernel
theorem dX2_mayEnd_29 : decode cX2_mayEnd 29 = .ok (.iconst 3, 1) := by decide +kernel
theorem dX2_mayEnd_30 : decode cX2_mayEnd 30 = .ok (.if_icmp .ne 71, 3) := by decide +kernel
theorem dX2_mayEnd_33 : decode cX2_mayEnd 33 = .ok (.iload_n 3, 1) := by decide +kernel
theorem dX2_mayEnd_34 : decode cX2_mayEnd 34 = .ok (.aload_n 2, 1) := by decide +kernel
theorem dX2_mayEnd_35 : decode cX2_mayEnd 35 = .ok (.getfield 257, 3) := by decide +kernel
theorem dX2_mayEnd_38 : decode cX2_mayEnd 38 = .ok (.if_icmp .ge 63, 3) := by decide +kernel
theorem dX2_mayEnd_41 : decode cX2_mayEnd 41 = .ok (.iload_n 3, 1) := by decide +kernel
theorem dX2_mayEnd_42 : decode cX2_mayEnd 42 = .ok (.bipush 26, 2) := by decide +kernel
theorem dX2_mayEnd_44 : decode cX2_mayEnd 44 = .ok (.if_icmp .ge 57, 3) := by decide +kernel
theorem dX2_mayEnd_47 : decode cX2_mayEnd 47 = .ok (.aload_n 0, 1) := by decide +kernel
theorem dX2_mayEnd_48 : decode cX2_mayEnd 48 = .ok (.aload_n 1, 1) := by decide +kernel
theorem dX2_mayEnd_49 : decode cX2_mayEnd 49 = .ok (.aload_n 2, 1) := by decide +kernel
theorem dX2_mayEnd_50 : decode cX2_mayEnd 50 = .ok (.getfield 264, 3) := by decide +kernel
theorem dX2_mayEnd_53 : decode cX2_mayEnd 53 = .ok (.iload_n 3, 1) := by decide +kernel
theorem dX2_mayEnd_54 : decode cX2_mayEnd 54 = .ok (.iaload, 1) := by decide +kernel
theorem dX2_mayEnd_55 : decode cX2_mayEnd 55 = .ok (.invokevirtual 248, 3) := by decide +kernel
theorem dX2_mayEnd_58 : decode cX2_mayEnd 58 = .ok (.istore 4, 2) := by decide +kernel
theorem dX2_mayEnd_60 : decode cX2_mayEnd 60 = .ok (.iload 4, 2) := by decide +kernel
theorem dX2_mayEnd_62 : decode cX2_mayEnd 62 = .ok (.ifCond .lt 22, 3) := by decide +kernel
theorem dX2_mayEnd_65 : decode cX2_mayEnd 65 = .ok (.iload 4, 2) := by decide +kernel
theorem dX2_mayEnd_67 : decode cX2_mayEnd 67 = .ok (.bipush 6, 2) := by decide +kernel
theorem dX2_mayEnd_69 : decode cX2_mayEnd 69 = .ok (.if_icmp .ge 15, 3) := by decide +kernel
theorem dX2_mayEnd_72 : decode cX2_mayEnd 72 = .ok (.aload_n 0, 1) := by decide +kernel
theorem dX2_mayEnd_73 : decode cX2_mayEnd 73 = .ok (.aload_n 0, 1) := by decide +kernel
theorem dX2_mayEnd_74 : decode cX2_mayEnd 74 = .ok (.getfield 34, 3) := by decide +kernel
theorem dX2_mayEnd_77 : decode cX2_mayEnd 77 = .ok (.iload 4, 2) := by decide +kernel
theorem dX2_mayEnd_79 : decode cX2_mayEnd 79 = .ok (.aaload, 1) := by decide +kernel
theorem dX2_mayEnd_80 : decode cX2_mayEnd 80 = .ok (.iconst 0, 1) := by decide +kernel
theorem dX2_mayEnd_81 : decode cX2_mayEnd 81 = .ok (.invokevirtual 230, 3) := by decide +kernel
theorem dX2_mayEnd_84 : decode cX2_mayEnd 84 = .ok (.iload 4, 2) := by decide +kernel
theorem dX2_mayEnd_86 : decode cX2_mayEnd 86 = .ok (.aload_n 1, 1) := by decide +kernel
theorem dX2_mayEnd_87 : decode cX2_mayEnd 87 = .ok (.getfield 171, 3) := by decide +kernel
theorem dX2_mayEnd_90 : decode cX2_mayEnd 90 = .ok (.if_icmp .ne 5, 3) := by decide +kernel
theorem dX2_mayEnd_93 : decode cX2_mayEnd 93 = .ok (.iconst 0, 1) := by decide +kernel
theorem dX2_mayEnd_94 : decode cX2_mayEnd 94 = .ok (.ireturn, 1) := by decide +kernel
theorem dX2_mayEnd_95 : decode cX2_mayEnd 95 = .ok (.iinc 3 1, 3) := by decide +kernel
theorem dX2_mayEnd_98 : decode cX2_mayEnd 98 = .ok (.goto (-73), 3) := by decide +kernel
theorem dX2_mayEnd_101 : decode cX2_mayEnd 101 = .ok (.aload_n 0, 1) := by decide +kernel
theorem dX2_mayEnd_102 : decode cX2_mayEnd 102 = .ok (.aload_n 1, 1) := by decide +kernel
theorem dX2_mayEnd_103 : decode cX2_mayEnd 103 = .ok (.invokevirtual 227, 3) := by decide +kernel
theorem dX2_mayEnd_106 : decode cX2_mayEnd 106 = .ok (.istore_n 3, 1) := by decide +kernel
theorem dX2_mayEnd_107 : decode cX2_mayEnd 107 = .ok (.aload_n 0, 1) := by decide +kernel
theorem dX2_mayEnd_108 : decode cX2_mayEnd 108 = .ok (.aload_n 1, 1) := by decide +kernel
theorem dX2_mayEnd_109 : decode cX2_mayEnd 109 = .ok (.iload_n 3, 1) := by decide +kernel
theorem dX2_mayEnd_110 : decode cX2_mayEnd 110 = .ok (.invokevirtual 230, 3) := by decide +kernel
theorem dX2_mayEnd_113 : decode cX2_mayEnd 113 = .ok (.iload_n 3, 1) := by decide +kernel
theorem dX2_mayEnd_114 : decode cX2_mayEnd 114 = .ok (.ifCond .ge 7, 3) := by decide +kernel
theorem dX2_mayEnd_117 : decode cX2_mayEnd 117 = .ok (.iconst 1, 1) := by decide +kernel
theorem dX2_mayEnd_118 : decode cX2_mayEnd 118 = .ok (.goto 4, 3) := by decide +kernel
theorem dX2_mayEnd_121 : decode cX2_mayEnd 121 = .ok (.iconst 0, 1) := by decide +kernel
theorem dX2_mayEnd_122 : decode cX2_mayEnd 122 = .ok (.ireturn, 1) := by decide +kernel
theorem dX2_mayTouch_0 : decode cX2_mayTouch 0 = .ok (.aload_n 0, 1) := by decide +kernel
theorem dX2_mayTouch_1 : decode cX2_mayTouch 1 = .ok (.aload_n 1, 1) := by decide +kernel
theorem dX2_mayTouch_2 : decode cX2_mayTouch 2 = .ok (.iload_n 2, 1) := by decide +kernel
theorem dX2_mayTouch_3 : decode cX2_mayTouch 3 = .ok (.invokevirtual 248, 3) := by decide +kernel
theorem dX2_mayTouch_6 : decode cX2_mayTouch 6 = .ok (.istore_n 3, 1) := by decide +kernel
theorem dX2_mayTouch_7 : decode cX2_mayTouch 7 = .ok (.iload_n 3, 1) := by decide +kernel
theorem dX2_mayTouch_8 : decode cX2_mayTouch 8 = .ok (.ifCond .lt 20, 3) := by decide +kernel
theorem dX2_mayTouch_11 : decode cX2_mayTouch 11 = .ok (.iload_n 3, 1) := by decide +kernel
theorem dX2_mayTouch_12 : decode cX2_mayTouch 12 = .ok (.bipush 6, 2) := by decide +kernel
theorem dX2_mayTouch_14 : decode cX2_mayTouch 14 = .ok (.if_icmp .ge 14, 3) := by decide +kernel
theorem dX2_mayTouch_17 : decode cX2_mayTouch 17 = .ok (.aload_n 0, 1) := by decide +kernel
theorem dX2_mayTouch_18 : decode cX2_mayTouch 18 = .ok (.aload_n 0, 1) := by decide +kernel
theorem dX2_mayTouch_19 : decode cX2_mayTouch 19 = .ok (.getfield 34, 3) := by decide +kernel
theorem dX2_mayTouch_22 : decode cX2_mayTouch 22 = .ok (.iload_n 3, 1) := by decide +kernel
theorem dX2_mayTouch_23 : decode cX2_mayTouch 23 = .ok (.aaload, 1) := by decide +kernel
theorem dX2_mayTouch_24 : decode cX2_mayTouch 24 = .ok (.iconst 0, 1) := by decide +kernel
theorem dX2_mayTouch_25 : decode cX2_mayTouch 25 = .ok (.invokevirtual 230, 3) := by decide +kernel
theorem dX2_mayTouch_28 : decode cX2_mayTouch 28 = .ok (.iload_n 3, 1) := by decide +kernel
theorem dX2_mayTouch_29 : decode cX2_mayTouch 29 = .ok (.aload_n 1, 1) := by decide +kernel
theorem dX2_mayTouch_30 : decode cX2_mayTouch 30 = .ok (.getfield 171, 3) := by decide +kernel
theorem dX2_mayTouch_33 : decode cX2_mayTouch 33 = .ok (.if_icmp .ne 5, 3) := by decide +kernel
theorem dX2_mayTouch_36 : decode cX2_mayTouch 36 = .ok (.iconst 0, 1) := by decide +kernel
theorem dX2_mayTouch_37 : decode cX2_mayTouch 37 = .ok (.ireturn, 1) := by decide +kernel
theorem dX2_mayTouch_38 : decode cX2_mayTouch 38 = .ok (.aload_n 0, 1) := by decide +kernel
theorem dX2_mayTouch_39 : decode cX2_mayTouch 39 = .ok (.aload_n 1, 1) := by decide +kernel
theorem dX2_mayTouch_40 : decode cX2_mayTouch 40 = .ok (.invokevirtual 227, 3) := by decide +kernel
theorem dX2_mayTouch_43 : decode cX2_mayTouch 43 = .ok (.istore 4, 2) := by decide +kernel
theorem dX2_mayTouch_45 : decode cX2_mayTouch 45 = .ok (.aload_n 0, 1) := by decide +kernel
theorem dX2_mayTouch_46 : decode cX2_mayTouch 46 = .ok (.aload_n 1, 1) := by decide +kernel
theorem dX2_mayTouch_47 : decode cX2_mayTouch 47 = .ok (.iload 4, 2) := by decide +kernel
theorem dX2_mayTouch_49 : decode cX2_mayTouch 49 = .ok (.invokevirtual 230, 3) := by decide +kernel
theorem dX2_mayTouch_52 : decode cX2_mayTouch 52 = .ok (.iload 4, 2) := by decide +kernel
theorem dX2_mayTouch_54 : decode cX2_mayTouch 54 = .ok (.ifCond .ge 7, 3) := by decide +kernel
theorem dX2_mayTouch_57 : decode cX2_mayTouch 57 = .ok (.iconst 1, 1) := by decide +kernel
theorem dX2_mayTouch_58 : decode cX2_mayTouch 58 = .ok (.goto 4, 3) := by decide +kernel
theorem dX2_mayTouch_61 : decode cX2_mayTouch 61 = .ok (.iconst 0, 1) := by decide +kernel
theorem dX2_mayTouch_62 : decode cX2_mayTouch 62 = .ok (.ireturn, 1) := by decide +kernel
theorem dX2_onTheWay_0 : decode cX2_onTheWay 0 = .ok (.iload_n 1, 1) := by decide +kernel
theorem dX2_onTheWay_1 : decode cX2_onTheWay 1 = .ok (.tableswitch 156 0 13 #[153, 71, 79, 156, 156, 156, 156, 156, 156, 118, 106, 156, 130, 138], 71) := by decide +kernel
theorem dX2_onTheWay_72 : decode cX2_onTheWay 72 = .ok (.aload_n 0, 1) := by decide +kernel
theorem dX2_onTheWay_73 : decode cX2_onTheWay 73 = .ok (.iload_n 2, 1) := by decide +kernel
theorem dX2_onTheWay_74 : decode cX2_onTheWay 74 = .ok (.invokevirtual 152, 3) := by decide +kernel
theorem dX2_onTheWay_77 : decode cX2_onTheWay 77 = .ok (.goto 98, 3) := by decide +kernel
theorem dX2_onTheWay_80 : decode cX2_onTheWay 80 = .ok (.aload_n 0, 1) := by decide +kernel
theorem dX2_onTheWay_81 : decode cX2_onTheWay 81 = .ok (.iload_n 2, 1) := by decide +kernel
theorem dX2_onTheWay_82 : decode cX2_onTheWay 82 = .ok (.ifCond .lt 18, 3) := by decide +kernel
theorem dX2_onTheWay_85 : decode cX2_onTheWay 85 = .ok (.iload_n 2, 1) := by decide +kernel
theorem dX2_onTheWay_86 : decode cX2_onTheWay 86 = .ok (.bipush 26, 2) := by decide +kernel
theorem dX2_onTheWay_88 : decode cX2_onTheWay 88 = .ok (.if_icmp .ge 12, 3) := by decide +kernel
theorem dX2_onTheWay_91 : decode cX2_onTheWay 91 = .ok (.aload_n 0, 1) := by decide +kernel
theorem dX2_onTheWay_92 : decode cX2_onTheWay 92 = .ok (.getfield 155, 3) := by decide +kernel
theorem dX2_onTheWay_95 : decode cX2_onTheWay 95 = .ok (.iload_n 2, 1) := by decide +kernel
theorem dX2_onTheWay_96 : decode cX2_onTheWay 96 = .ok (.iaload, 1) := by decide +kernel
theorem dX2_onTheWay_97 : decode cX2_onTheWay 97 = .ok (.goto 4, 3) := by decide +kernel
theorem dX2_onTheWay_100 : decode cX2_onTheWay 100 = .ok (.iconst 0, 1) := by decide +kernel
theorem dX2_onTheWay_101 : decode cX2_onTheWay 101 = .ok (.invokevirtual 152, 3) := by decide +kernel
theorem dX2_onTheWay_104 : decode cX2_onTheWay 104 = .ok (.goto 71, 3) := by decide +kernel
theorem dX2_onTheWay_107 : decode cX2_onTheWay 107 = .ok (.aload_n 0, 1) := by decide +kernel
theorem dX2_onTheWay_108 : decode cX2_onTheWay 108 = .ok (.iload_n 2, 1) := by decide +kernel
theorem dX2_onTheWay_109 : decode cX2_onTheWay 109 = .ok (.aload_n 0, 1) := by decide +kernel
theorem dX2_onTheWay_110 : decode cX2_onTheWay 110 = .ok (.invokevirtual 114, 3) := by decide +kernel
theorem dX2_onTheWay_113 : decode cX2_onTheWay 113 = .ok (.invokestatic 158, 3) := by decide +kernel
theorem dX2_onTheWay_116 : decode cX2_onTheWay 116 = .ok (.goto 59, 3) := by decide +kernel
theorem dX2_onTheWay_119 : decode cX2_onTheWay 119 = .ok (.aload_n 0, 1) := by decide +kernel
theorem dX2_onTheWay_120 : decode cX2_onTheWay 120 = .ok (.aload_n 0, 1) := by decide +kernel
theorem dX2_onTheWay_121 : decode cX2_onTheWay 121 = .ok (.invokevirtual 114, 3) := by decide +kernel
theorem dX2_onTheWay_124 : decode cX2_onTheWay 124 = .ok (.ineg, 1) := by decide +kernel
theorem dX2_onTheWay_125 : decode cX2_onTheWay 125 = .ok (.invokevirtual 152, 3) := by decide +kernel
theorem dX2_onTheWay_128 : decode cX2_onTheWay 128 = .ok (.goto 47, 3) := by decide +kernel
theorem dX2_onTheWay_131 : decode cX2_onTheWay 131 = .ok (.aload_n 0, 1) := by decide +kernel
theorem dX2_onTheWay_132 : decode cX2_onTheWay 132 = .ok (.iload_n 2, 1) := by decide +kernel
theorem dX2_onTheWay_133 : decode cX2_onTheWay 133 = .ok (.putfield 92, 3) := by decide +kernel
theorem dX2_onTheWay_136 : decode cX2_onTheWay 136 = .ok (.goto 39, 3) := by decide +kernel
theorem dX2_onTheWay_139 : decode cX2_onTheWay 139 = .ok (.aload_n 0, 1) := by decide +kernel
theorem dX2_onTheWay_140 : decode cX2_onTheWay 140 = .ok (.invokevirtual 114, 3) := by decide +kernel
theorem dX2_onTheWay_143 : decode cX2_onTheWay 143 = .ok (.ifCond .ne 32, 3) := by decide +kernel
theorem dX2_onTheWay_146 : decode cX2_onTheWay 146 = .ok (.aload_n 0, 1) := by decide +kernel
theorem dX2_onTheWay_147 : decode cX2_onTheWay 147 = .ok (.iload_n 2, 1) := by decide +kernel
theorem dX2_onTheWay_148 : decode cX2_onTheWay 148 = .ok (.putfield 92, 3) := by decide +kernel
theorem dX2_onTheWay_151 : decode cX2_onTheWay 151 = .ok (.goto 24, 3) := by decide +kernel
theorem dX2_onTheWay_154 : decode cX2_onTheWay 154 = .ok (.goto 21, 3) := by decide +kernel
theorem dX2_onTheWay_157 : decode cX2_onTheWay 157 = .ok (.aload_n 0, 1) := by decide +kernel
theorem dX2_onTheWay_158 : decode cX2_onTheWay 158 = .ok (.invokevirtual 114, 3) := by decide +kernel
theorem dX2_onTheWay_161 : decode cX2_onTheWay 161 = .ok (.istore_n 3, 1) := by decide +kernel
theorem dX2_onTheWay_162 : decode cX2_onTheWay 162 = .ok (.aload_n 0, 1) := by decide +kernel
theorem dX2_onTheWay_163 : decode cX2_onTheWay 163 = .ok (.iload_n 1, 1) := by decide +kernel
theorem dX2_onTheWay_164 : decode cX2_onTheWay 164 = .ok (.aload_n 0, 1) := by decide +kernel
theorem dX2_onTheWay_165 : decode cX2_onTheWay 165 = .ok (.invokevirtual 114, 3) := by decide +kernel
theorem dX2_onTheWay_168 : decode cX2_onTheWay 168 = .ok (.iload_n 3, 1) := by decide +kernel
theorem dX2_onTheWay_169 : decode cX2_onTheWay 169 = .ok (.invokestatic 161, 3) := by decide +kernel
theorem dX2_onTheWay_172 : decode cX2_onTheWay 172 = .ok (.invokevirtual 152, 3) := by decide +kernel
theorem dX2_onTheWay_175 : decode cX2_onTheWay 175 = .ok (.return_, 1) := by decide +kernel
theorem dX2_outermostWrong_0 : decode cX2_outermostWrong 0 = .ok (.aload_n 0, 1) := by decide +kernel
theorem dX2_outermostWrong_1 : decode cX2_outermostWrong 1 = .ok (.getfield 41, 3) := by decide +kernel
theorem dX2_outermostWrong_4 : decode cX2_outermostWrong 4 = .ok (.iconst 1, 1) := by decide +kernel
theorem dX2_outermostWrong_5 : decode cX2_outermostWrong 5 = .ok (.if_icmp .ne 19, 3) := by decide +kernel
theorem dX2_outermostWrong_8 : decode cX2_outermostWrong 8 = .ok (.aload_n 0, 1) := by decide +kernel
theorem dX2_outermostWrong_9 : decode cX2_outermostWrong 9 = .ok (.getfield 12, 3) := by decide +kernel
theorem dX2_outermostWrong_12 : decode cX2_outermostWrong 12 = .ok (.getfield 61, 3) := by decide +kernel
theorem dX2_outermostWrong_15 : decode cX2_outermostWrong 15 = .ok (.aload_n 1, 1) := by decide +kernel
theorem dX2_outermostWrong_16 : decode cX2_outermostWrong 16 = .ok (.getfield 224, 3) := by decide +kernel
theorem dX2_outermostWrong_19 : decode cX2_outermostWrong 19 = .ok (.if_icmp .ne 5, 3) := by decide +kernel
theorem dX2_outermostWrong_22 : decode cX2_outermostWrong 22 = .ok (.iconst (-1), 1) := by decide +kernel
theorem dX2_outermostWrong_23 : decode cX2_outermostWrong 23 = .ok (.ireturn, 1) := by decide +kernel
theorem dX2_outermostWrong_24 : decode cX2_outermostWrong 24 = .ok (.iconst 0, 1) := by decide +kernel
theorem dX2_outermostWrong_25 : decode cX2_outermostWrong 25 = .ok (.istore_n 2, 1) := by decide +kernel
theorem dX2_outermostWrong_26 : decode cX2_outermostWrong 26 = .ok (.iload_n 2, 1) := by decide +kernel
theorem dX2_outermostWrong_27 : decode cX2_outermostWrong 27 = .ok (.aload_n 1, 1) := by decide +kernel
theorem dX2_outermostWrong_28 : decode cX2_outermostWrong 28 = .ok (.getfield 165, 3) := by decide +kernel
theorem dX2_outermostWrong_31 : decode cX2_outermostWrong 31 = .ok (.if_icmp .ge 53, 3) := by decide +kernel
theorem dX2_outermostWrong_34 : decode cX2_outermostWrong 34 = .ok (.aload_n 1, 1) := by decide +kernel
theorem dX2_outermostWrong_35 : decode cX2_outermostWrong 35 = .ok (.iload_n 2, 1) := by decide +kernel
theorem dX2_outermostWrong_36 : decode cX2_outermostWrong 36 = .ok (.invokevirtual 213, 3) := by decide +kernel
theorem dX2_outermostWrong_39 : decode cX2_outermostWrong 39 = .ok (.astore_n 3, 1) := by decide +kernel
theorem dX2_outermostWrong_40 : decode cX2_outermostWrong 40 = .ok (.iconst 0, 1) := by decide +kernel
theorem dX2_outermostWrong_41 : decode cX2_outermostWrong 41 = .ok (.istore 4, 2) := by decide +kernel
theorem dX2_outermostWrong_43 : decode cX2_outermostWrong 43 = .ok (.iload 4, 2) := by decide +kernel
theorem dX2_outermostWrong_45 : decode cX2_outermostWrong 45 = .ok (.aload_n 3, 1) := by decide +kernel
theorem dX2_outermostWrong_46 : decode cX2_outermostWrong 46 = .ok (.getfield 257, 3) := by decide +kernel
theorem dX2_outermostWrong_49 : decode cX2_outermostWrong 49 = .ok (.if_icmp .ge 29, 3) := by decide +kernel
theorem dX2_outermostWrong_52 : decode cX2_outermostWrong 52 = .ok (.iload 4, 2) := by decide +kernel
theorem dX2_outermostWrong_54 : decode cX2_outermostWrong 54 = .ok (.bipush 26, 2) := by decide +kernel
theorem dX2_outermostWrong_56 : decode cX2_outermostWrong 56 = .ok (.if_icmp .ge 22, 3) := by decide +kernel
theorem dX2_outermostWrong_59 : decode cX2_outermostWrong 59 = .ok (.aload_n 0, 1) := by decide +kernel
theorem dX2_outermostWrong_60 : decode cX2_outermostWrong 60 = .ok (.aload_n 1, 1) := by decide +kernel
theorem dX2_outermostWrong_61 : decode cX2_outermostWrong 61 = .ok (.aload_n 3, 1) := by decide +kernel
theorem dX2_outermostWrong_62 : decode cX2_outermostWrong 62 = .ok (.iload 4, 2) := by decide +kernel
theorem dX2_outermostWrong_64 : decode cX2_outermostWrong 64 = .ok (.invokevirtual 260, 3) := by decide +kernel
theorem dX2_outermostWrong_67 : decode cX2_outermostWrong 67 = .ok (.ifCond .eq 5, 3) := by decide +kernel
theorem dX2_outermostWrong_70 : decode cX2_outermostWrong 70 = .ok (.iload_n 2, 1) := by decide +kernel
theorem dX2_outermostWrong_71 : decode cX2_outermostWrong 71 = .ok (.ireturn, 1) := by decide +kernel
theorem dX2_outermostWrong_72 : decode cX2_outermostWrong 72 = .ok (.iinc 4 1, 3) := by decide +kernel
theorem dX2_outermostWrong_75 : decode cX2_outermostWrong 75 = .ok (.goto (-32), 3) := by decide +kernel
theorem dX2_outermostWrong_78 : decode cX2_outermostWrong 78 = .ok (.iinc 2 1, 3) := by decide +kernel
theorem dX2_outermostWrong_81 : decode cX2_outermostWrong 81 = .ok (.goto (-55), 3) := by decide +kernel
theorem dX2_outermostWrong_84 : decode cX2_outermostWrong 84 = .ok (.iconst (-1), 1) := by decide +kernel
theorem dX2_outermostWrong_85 : decode cX2_outermostWrong 85 = .ok (.ireturn, 1) := by decide +kernel
theorem dX2_quit_0 : decode cX2_quit 0 = .ok (.aload_n 1, 1) := by decide +kernel
theorem dX2_quit_1 : decode cX2_quit 1 = .ok (.getfield 165, 3) := by decide +kernel
theorem dX2_quit_4 : decode cX2_quit 4 = .ok (.ifCond .gt 5, 3) := by decide +kernel
theorem dX2_quit_7 : decode cX2_quit 7 = .ok (.iconst 0, 1) := by decide +kernel
theorem dX2_quit_8 : decode cX2_quit 8 = .ok (.ireturn, 1) := by decide +kernel
theorem dX2_quit_9 : decode cX2_quit 9 = .ok (.aload_n 1, 1) := by decide +kernel
theorem dX2_quit_10 : decode cX2_quit 10 = .ok (.getfield 88, 3) := by decide +kernel
theorem dX2_quit_13 : decode cX2_quit 13 = .ok (.aload_n 1, 1) := by decide +kernel
theorem dX2_quit_14 : decode cX2_quit 14 = .ok (.invokevirtual 202, 3) := by decide +kernel
theorem dX2_quit_17 : decode cX2_quit 17 = .ok (.getfield 292, 3) := by decide +kernel
theorem dX2_quit_20 : decode cX2_quit 20 = .ok (.invokevirtual 323, 3) := by decide +kernel
theorem dX2_quit_23 : decode cX2_quit 23 = .ok (.istore_n 2, 1) := by decide +kernel
theorem dX2_quit_24 : decode cX2_quit 24 = .ok (.aload_n 0, 1) := by decide +kernel
theorem dX2_quit_25 : decode cX2_quit 25 = .ok (.aload_n 1, 1) := by decide +kernel
theorem dX2_quit_26 : decode cX2_quit 26 = .ok (.aload_n 1, 1) := by decide +kernel
theorem dX2_quit_27 : decode cX2_quit 27 = .ok (.getfield 165, 3) := by decide +kernel
theorem dX2_quit_30 : decode cX2_quit 30 = .ok (.iconst 1, 1) := by decide +kernel
theorem dX2_quit_31 : decode cX2_quit 31 = .ok (.isub, 1) := by decide +kernel
theorem dX2_quit_32 : decode cX2_quit 32 = .ok (.invokevirtual 358, 3) := by decide +kernel
theorem dX2_quit_35 : decode cX2_quit 35 = .ok (.aload_n 1, 1) := by decide +kernel
theorem dX2_quit_36 : decode cX2_quit 36 = .ok (.iload_n 2, 1) := by decide +kernel
theorem dX2_quit_37 : decode cX2_quit 37 = .ok (.putfield 92, 3) := by decide +kernel
theorem dX2_quit_40 : decode cX2_quit 40 = .ok (.iconst 0, 1) := by decide +kernel
theorem dX2_quit_41 : decode cX2_quit 41 = .ok (.ireturn, 1) := by decide +kernel
theorem dX2_restart_0 : decode cX2_restart 0 = .ok (.iload_n 2, 1) := by decide +kernel
theorem dX2_restart_1 : decode cX2_restart 1 = .ok (.ifCond .lt 11, 3) := by decide +kernel
theorem dX2_restart_4 : decode cX2_restart 4 = .ok (.iload_n 2, 1) := by decide +kernel
theorem dX2_restart_5 : decode cX2_restart 5 = .ok (.aload_n 1, 1) := by decide +kernel
theorem dX2_restart_6 : decode cX2_restart 6 = .ok (.getfield 165, 3) := by decide +kernel
theorem dX2_restart_9 : decode cX2_restart 9 = .ok (.if_icmp .lt 4, 3) := by decide +kernel
theorem dX2_restart_12 : decode cX2_restart 12 = .ok (.return_, 1) := by decide +kernel
theorem dX2_restart_13 : decode cX2_restart 13 = .ok (.aload_n 0, 1) := by decide +kernel
theorem dX2_restart_14 : decode cX2_restart 14 = .ok (.aload_n 1, 1) := by decide +kernel
theorem dX2_restart_15 : decode cX2_restart 15 = .ok (.iload_n 2, 1) := by decide +kernel
theorem dX2_restart_16 : decode cX2_restart 16 = .ok (.invokevirtual 273, 3) := by decide +kernel
theorem dX2_restart_19 : decode cX2_restart 19 = .ok (.aload_n 1, 1) := by decide +kernel
theorem dX2_restart_20 : decode cX2_restart 20 = .ok (.iload_n 2, 1) := by decide +kernel
theorem dX2_restart_21 : decode cX2_restart 21 = .ok (.invokevirtual 213, 3) := by decide +kernel
theorem dX2_restart_24 : decode cX2_restart 24 = .ok (.astore_n 3, 1) := by decide +kernel
theorem dX2_restart_25 : decode cX2_restart 25 = .ok (.aload_n 3, 1) := by decide +kernel
theorem dX2_restart_26 : decode cX2_restart 26 = .ok (.invokevirtual 276, 3) := by decide +kernel
theorem dX2_restart_29 : decode cX2_restart 29 = .ok (.aload_n 3, 1) := by decide +kernel
theorem dX2_restart_30 : decode cX2_restart 30 = .ok (.iconst 0, 1) := by decide +kernel
theorem dX2_restart_31 : decode cX2_restart 31 = .ok (.putfield 279, 3) := by decide +kernel
theorem dX2_restart_34 : decode cX2_restart 34 = .ok (.aload_n 1, 1) := by decide +kernel
theorem dX2_restart_35 : decode cX2_restart 35 = .ok (.iload_n 2, 1) := by decide +kernel
theorem dX2_restart_36 : decode cX2_restart 36 = .ok (.iconst 1, 1) := by decide +kernel
theorem dX2_restart_37 : decode cX2_restart 37 = .ok (.iadd, 1) := by decide +kernel
theorem dX2_restart_38 : decode cX2_restart 38 = .ok (.putfield 165, 3) := by decide +kernel
theorem dX2_restart_41 : decode cX2_restart 41 = .ok (.iload_n 2, 1) := by decide +kernel
theorem dX2_restart_42 : decode cX2_restart 42 = .ok (.ifCond .ne 22, 3) := by decide +kernel
theorem dX2_restart_45 : decode cX2_restart 45 = .ok (.aload_n 0, 1) := by decide +kernel
theorem dX2_restart_46 : decode cX2_restart 46 = .ok (.getfield 12, 3) := by decide +kernel
theorem dX2_restart_49 : decode cX2_restart 49 = .ok (.aload_n 1, 1) := by decide +kernel
theorem dX2_restart_50 : decode cX2_restart 50 = .ok (.getfield 171, 3) := by decide +kernel
theorem dX2_restart_53 : decode cX2_restart 53 = .ok (.invokevirtual 283, 3) := by decide +kernel
theorem dX2_restart_56 : decode cX2_restart 56 = .ok (.aload_n 1, 1) := by decide +kernel
theorem dX2_restart_57 : decode cX2_restart 57 = .ok (.aload_n 0, 1) := by decide +kernel
theorem dX2_restart_58 : decode cX2_restart 58 = .ok (.getfield 77, 3) := by decide +kernel
theorem dX2_restart_61 : decode cX2_restart 61 = .ok (.putfield 286, 3) := by decide +kernel
theorem dX2_restart_64 : decode cX2_restart 64 = .ok (.aload_n 1, 1) := by decide +kernel
theorem dX2_restart_65 : decode cX2_restart 65 = .ok (.aload_n 0, 1) := by decide +kernel
theorem dX2_restart_66 : decode cX2_restart 66 = .ok (.getfield 12, 3) := by decide +kernel
theorem dX2_restart_69 : decode cX2_restart 69 = .ok (.getfield 61, 3) := by decide +kernel
theorem dX2_restart_72 : decode cX2_restart 72 = .ok (.putfield 224, 3) := by decide +kernel
theorem dX2_restart_75 : decode cX2_restart 75 = .ok (.aload_n 1, 1) := by decide +kernel
theorem dX2_restart_76 : decode cX2_restart 76 = .ok (.dup, 1) := by decide +kernel
theorem dX2_restart_77 : decode cX2_restart 77 = .ok (.getfield 289, 3) := by decide +kernel
theorem dX2_restart_80 : decode cX2_restart 80 = .ok (.iconst 1, 1) := by decide +kernel
theorem dX2_restart_81 : decode cX2_restart 81 = .ok (.iadd, 1) := by decide +kernel
theorem dX2_restart_82 : decode cX2_restart 82 = .ok (.putfield 289, 3) := by decide +kernel
theorem dX2_restart_85 : decode cX2_restart 85 = .ok (.aload_n 1, 1) := by decide +kernel
theorem dX2_restart_86 : decode cX2_restart 86 = .ok (.aload_n 3, 1) := by decide +kernel
theorem dX2_restart_87 : decode cX2_restart 87 = .ok (.getfield 292, 3) := by decide +kernel
theorem dX2_restart_90 : decode cX2_restart 90 = .ok (.iconst 1, 1) := by decide +kernel
theorem dX2_restart_91 : decode cX2_restart 91 = .ok (.iadd, 1) := by decide +kernel
theorem dX2_restart_92 : decode cX2_restart 92 = .ok (.putfield 92, 3) := by decide +kernel
theorem dX2_restart_95 : decode cX2_restart 95 = .ok (.return_, 1) := by decide +kernel
theorem dX2_retry_0 : decode cX2_retry 0 = .ok (.aload_n 1, 1) := by decide +kernel
theorem dX2_retry_1 : decode cX2_retry 1 = .ok (.invokevirtual 346, 3) := by decide +kernel
theorem dX2_retry_4 : decode cX2_retry 4 = .ok (.istore_n 2, 1) := by decide +kernel
theorem dX2_retry_5 : decode cX2_retry 5 = .ok (.iload_n 2, 1) := by decide +kernel
theorem dX2_retry_6 : decode cX2_retry 6 = .ok (.ifCond .ge 9, 3) := by decide +kernel
theorem dX2_retry_9 : decode cX2_retry 9 = .ok (.aload_n 0, 1) := by decide +kernel
theorem dX2_retry_10 : decode cX2_retry 10 = .ok (.aload_n 1, 1) := by decide +kernel
theorem dX2_retry_11 : decode cX2_retry 11 = .ok (.invokevirtual 349, 3) := by decide +kernel
theorem dX2_retry_14 : decode cX2_retry 14 = .ok (.ireturn, 1) := by decide +kernel
theorem dX2_retry_15 : decode cX2_retry 15 = .ok (.aload_n 1, 1) := by decide +kernel
theorem dX2_retry_16 : decode cX2_retry 16 = .ok (.iload_n 2, 1) := by decide +kernel
theorem dX2_retry_17 : decode cX2_retry 17 = .ok (.ifCond .le 9, 3) := by decide +kernel
theorem dX2_retry_20 : decode cX2_retry 20 = .ok (.iload_n 2, 1) := by decide +kernel
theorem dX2_retry_21 : decode cX2_retry 21 = .ok (.iconst 1, 1) := by decide +kernel
theorem dX2_retry_22 : decode cX2_retry 22 = .ok (.isub, 1) := by decide +kernel
theorem dX2_retry_23 : decode cX2_retry 23 = .ok (.goto 4, 3) := by decide +kernel
theorem dX2_retry_26 : decode cX2_retry 26 = .ok (.iconst 0, 1) := by decide +kernel
theorem dX2_retry_27 : decode cX2_retry 27 = .ok (.invokestatic 310, 3) := by decide +kernel
theorem dX2_retry_30 : decode cX2_retry 30 = .ok (.aload_n 0, 1) := by decide +kernel
theorem dX2_retry_31 : decode cX2_retry 31 = .ok (.aload_n 1, 1) := by decide +kernel
theorem dX2_retry_32 : decode cX2_retry 32 = .ok (.iload_n 2, 1) := by decide +kernel
theorem dX2_retry_33 : decode cX2_retry 33 = .ok (.invokevirtual 273, 3) := by decide +kernel
theorem dX2_retry_36 : decode cX2_retry 36 = .ok (.aload_n 1, 1) := by decide +kernel
theorem dX2_retry_37 : decode cX2_retry 37 = .ok (.iload_n 2, 1) := by decide +kernel
theorem dX2_retry_38 : decode cX2_retry 38 = .ok (.iconst 1, 1) := by decide +kernel
theorem dX2_retry_39 : decode cX2_retry 39 = .ok (.iadd, 1) := by decide +kernel
theorem dX2_retry_40 : decode cX2_retry 40 = .ok (.putfield 165, 3) := by decide +kernel
theorem dX2_retry_43 : decode cX2_retry 43 = .ok (.aload_n 1, 1) := by decide +kernel
theorem dX2_retry_44 : decode cX2_retry 44 = .ok (.iload_n 2, 1) := by decide +kernel
theorem dX2_retry_45 : decode cX2_retry 45 = .ok (.invokevirtual 213, 3) := by decide +kernel
theorem dX2_retry_48 : decode cX2_retry 48 = .ok (.astore_n 3, 1) := by decide +kernel
theorem dX2_retry_49 : decode cX2_retry 49 = .ok (.aload_n 3, 1) := by decide +kernel
theorem dX2_retry_50 : decode cX2_retry 50 = .ok (.iconst 1, 1) := by decide +kernel
theorem dX2_retry_51 : decode cX2_retry 51 = .ok (.putfield 279, 3) := by decide +kernel
theorem dX2_retry_54 : decode cX2_retry 54 = .ok (.aload_n 1, 1) := by decide +kernel
theorem dX2_retry_55 : decode cX2_retry 55 = .ok (.aload_n 1, 1) := by decide +kernel
theorem dX2_retry_56 : decode cX2_retry 56 = .ok (.getfield 88, 3) := by decide +kernel
theorem dX2_retry_59 : decode cX2_retry 59 = .ok (.aload_n 3, 1) := by decide +kernel
theorem dX2_retry_60 : decode cX2_retry 60 = .ok (.getfield 292, 3) := by decide +kernel
theorem dX2_retry_63 : decode cX2_retry 63 = .ok (.invokevirtual 352, 3) := by decide +kernel
theorem dX2_retry_66 : decode cX2_retry 66 = .ok (.putfield 92, 3) := by decide +kernel
theorem dX2_retry_69 : decode cX2_retry 69 = .ok (.iconst 0, 1) := by decide +kernel
theorem dX2_retry_70 : decode cX2_retry 70 = .ok (.ireturn, 1) := by decide +kernel
theorem dX2_say_0 : decode cX2_say 0 = .ok (.aload_n 1, 1) := by decide +kernel
theorem dX2_say_1 : decode cX2_say 1 = .ok (.getfield 165, 3) := by decide +kernel
theorem dX2_say_4 : decode cX2_say 4 = .ok (.ifCond .le 11, 3) := by decide +kernel
theorem dX2_say_7 : decode cX2_say 7 = .ok (.aload_n 1, 1) := by decide +kernel
theorem dX2_say_8 : decode cX2_say 8 = .ok (.iload_n 2, 1) := by decide +kernel
theorem dX2_say_9 : decode cX2_say 9 = .ok (.invokevirtual 168, 3) := by decide +kernel
theorem dX2_say_12 : decode cX2_say 12 = .ok (.goto 15, 3) := by decide +kernel
theorem dX2_say_15 : decode cX2_say 15 = .ok (.aload_n 0, 1) := by decide +kernel
theorem dX2_say_16 : decode cX2_say 16 = .ok (.getfield 21, 3) := by decide +kernel
theorem dX2_say_19 : decode cX2_say 19 = .ok (.aload_n 1, 1) := by decide +kernel
theorem dX2_say_20 : decode cX2_say 20 = .ok (.getfield 171, 3) := by decide +kernel
theorem dX2_say_23 : decode cX2_say 23 = .ok (.iload_n 2, 1) := by decide +kernel
theorem dX2_say_24 : decode cX2_say 24 = .ok (.invokevirtual 174, 3) := by decide +kernel
theorem dX2_say_27 : decode cX2_say 27 = .ok (.iconst 0, 1) := by decide +kernel
theorem dX2_say_28 : decode cX2_say 28 = .ok (.ireturn, 1) := by decide +kernel
theorem dX2_see_0 : decode cX2_see 0 = .ok (.iload_n 2, 1) := by decide +kernel
theorem dX2_see_1 : decode cX2_see 1 = .ok (.ifCond .lt 9, 3) := by decide +kernel
theorem dX2_see_4 : decode cX2_see 4 = .ok (.iload_n 2, 1) := by decide +kernel
theorem dX2_see_5 : decode cX2_see 5 = .ok (.bipush 26, 2) := by decide +kernel
theorem dX2_see_7 : decode cX2_see 7 = .ok (.if_icmp .lt 5, 3) := by decide +kernel
theorem dX2_see_10 : decode cX2_see 10 = .ok (.iconst 0, 1) := by decide +kernel
theorem dX2_see_11 : decode cX2_see 11 = .ok (.ireturn, 1) := by decide +kernel
theorem dX2_see_12 : decode cX2_see 12 = .ok (.aload_n 1, 1) := by decide +kernel
theorem dX2_see_13 : decode cX2_see 13 = .ok (.getfield 165, 3) := by decide +kernel
theorem dX2_see_16 : decode cX2_see 16 = .ok (.ifCond .le 17, 3) := by decide +kernel
theorem dX2_see_19 : decode cX2_see 19 = .ok (.aload_n 0, 1) := by decide +kernel
theorem dX2_see_20 : decode cX2_see 20 = .ok (.invokevirtual 178, 3) := by decide +kernel
theorem dX2_see_23 : decode cX2_see 23 = .ok (.ifCond .ne 10, 3) := by decide +kernel
theorem dX2_see_26 : decode cX2_see 26 = .ok (.aload_n 0, 1) := by decide +kernel
theorem dX2_see_27 : decode cX2_see 27 = .ok (.aload_n 1, 1) := by decide +kernel
theorem dX2_see_28 : decode cX2_see 28 = .ok (.iload_n 2, 1) := by decide +kernel
theorem dX2_see_29 : decode cX2_see 29 = .ok (.invokevirtual 181, 3) := by decide +kernel
theorem dX2_see_32 : decode cX2_see 32 = .ok (.ireturn, 1) := by decide +kernel
theorem dX2_see_33 : decode cX2_see 33 = .ok (.aload_n 1, 1) := by decide +kernel
theorem dX2_see_34 : decode cX2_see 34 = .ok (.getfield 165, 3) := by decide +kernel
theorem dX2_see_37 : decode cX2_see 37 = .ok (.ifCond .ne 42, 3) := by decide +kernel
theorem dX2_see_40 : decode cX2_see 40 = .ok (.aload_n 0, 1) := by decide +kernel
theorem dX2_see_41 : decode cX2_see 41 = .ok (.getfield 28, 3) := by decide +kernel
theorem dX2_see_44 : decode cX2_see 44 = .ok (.aload_n 1, 1) := by decide +kernel
theorem dX2_see_45 : decode cX2_see 45 = .ok (.getfield 171, 3) := by decide +kernel
theorem dX2_see_48 : decode cX2_see 48 = .ok (.aload_n 0, 1) := by decide +kernel
theorem dX2_see_49 : decode cX2_see 49 = .ok (.getfield 77, 3) := by decide +kernel
theorem dX2_see_52 : decode cX2_see 52 = .ok (.aload_n 0, 1) := by decide +kernel
theorem dX2_see_53 : decode cX2_see 53 = .ok (.getfield 77, 3) := by decide +kernel
theorem dX2_see_56 : decode cX2_see 56 = .ok (.invokevirtual 184, 3) := by decide +kernel
theorem dX2_see_59 : decode cX2_see 59 = .ok (.aload_n 0, 1) := by decide +kernel
theorem dX2_see_60 : decode cX2_see 60 = .ok (.getfield 28, 3) := by decide +kernel
theorem dX2_see_63 : decode cX2_see 63 = .ok (.iload_n 2, 1) := by decide +kernel
theorem dX2_see_64 : decode cX2_see 64 = .ok (.aload_n 0, 1) := by decide +kernel
theorem dX2_see_65 : decode cX2_see 65 = .ok (.getfield 12, 3) := by decide +kernel
theorem dX2_see_68 : decode cX2_see 68 = .ok (.getfield 188, 3) := by decide +kernel
theorem dX2_see_71 : decode cX2_see 71 = .ok (.iload_n 2, 1) := by decide +kernel
theorem dX2_see_72 : decode cX2_see 72 = .ok (.iaload, 1) := by decide +kernel
theorem dX2_see_73 : decode cX2_see 73 = .ok (.invokevirtual 191, 3) := by decide +kernel
theorem dX2_see_76 : decode cX2_see 76 = .ok (.goto 63, 3) := by decide +kernel
theorem dX2_see_79 : decode cX2_see 79 = .ok (.aload_n 0, 1) := by decide +kernel
theorem dX2_see_80 : decode cX2_see 80 = .ok (.getfield 12, 3) := by decide +kernel
theorem dX2_see_83 : decode cX2_see 83 = .ok (.iload_n 2, 1) := by decide +kernel
theorem dX2_see_84 : decode cX2_see 84 = .ok (.aload_n 1, 1) := by decide +kernel
theorem dX2_see_85 : decode cX2_see 85 = .ok (.getfield 171, 3) := by decide +kernel
theorem dX2_see_88 : decode cX2_see 88 = .ok (.invokevirtual 194, 3) := by decide +kernel
theorem dX2_see_91 : decode cX2_see 91 = .ok (.ifCond .ne 48, 3) := by decide +kernel
theorem dX2_see_94 : decode cX2_see 94 = .ok (.aload_n 0, 1) := by decide +kernel
theorem dX2_see_95 : decode cX2_see 95 = .ok (.getfield 41, 3) := by decide +kernel
theorem dX2_see_98 : decode cX2_see 98 = .ok (.iconst 3, 1) := by decide +kernel
theorem dX2_see_99 : decode cX2_see 99 = .ok (.if_icmp .ne 14, 3) := by decide +kernel
theorem dX2_see_102 : decode cX2_see 102 = .ok (.aload_n 0, 1) := by decide +kernel
theorem dX2_see_103 : decode cX2_see 103 = .ok (.aload_n 1, 1) := by decide +kernel
theorem dX2_see_104 : decode cX2_see 104 = .ok (.iload_n 2, 1) := by decide +kernel
theorem dX2_see_105 : decode cX2_see 105 = .ok (.invokevirtual 198, 3) := by decide +kernel
theorem dX2_see_108 : decode cX2_see 108 = .ok (.ifCond .ne 5, 3) := by decide +kernel
theorem dX2_see_111 : decode cX2_see 111 = .ok (.iconst 1, 1) := by decide +kernel
theorem dX2_see_112 : decode cX2_see 112 = .ok (.ireturn, 1) := by decide +kernel
theorem dX2_see_113 : decode cX2_see 113 = .ok (.aload_n 1, 1) := by decide +kernel
theorem dX2_see_114 : decode cX2_see 114 = .ok (.invokevirtual 202, 3) := by decide +kernel
theorem dX2_see_117 : decode cX2_see 117 = .ok (.iload_n 2, 1) := by decide +kernel
theorem dX2_see_118 : decode cX2_see 118 = .ok (.aload_n 0, 1) := by decide +kernel
theorem dX2_see_119 : decode cX2_see 119 = .ok (.getfield 12, 3) := by decide +kernel
theorem dX2_see_122 : decode cX2_see 122 = .ok (.getfield 188, 3) := by decide +kernel
theorem dX2_see_125 : decode cX2_see 125 = .ok (.iload_n 2, 1) := by decide +kernel
theorem dX2_see_126 : decode cX2_see 126 = .ok (.iaload, 1) := by decide +kernel
theorem dX2_see_127 : decode cX2_see 127 = .ok (.aload_n 0, 1) := by decide +kernel
theorem dX2_see_128 : decode cX2_see 128 = .ok (.getfield 12, 3) := by decide +kernel
theorem dX2_see_131 : decode cX2_see 131 = .ok (.getfield 206, 3) := by decide +kernel
theorem dX2_see_134 : decode cX2_see 134 = .ok (.iload_n 2, 1) := by decide +kernel
theorem dX2_see_135 : decode cX2_see 135 = .ok (.iaload, 1) := by decide +kernel
theorem dX2_see_136 : decode cX2_see 136 = .ok (.invokevirtual 209, 3) := by decide +kernel
theorem dX2_see_139 : decode cX2_see 139 = .ok (.aload_n 1, 1) := by decide +kernel
theorem dX2_see_140 : decode cX2_see 140 = .ok (.aload_n 0, 1) := by decide +kernel
theorem dX2_see_141 : decode cX2_see 141 = .ok (.getfield 12, 3) := by decide +kernel
theorem dX2_see_144 : decode cX2_see 144 = .ok (.getfield 188, 3) := by decide +kernel
theorem dX2_see_147 : decode cX2_see 147 = .ok (.iload_n 2, 1) := by decide +kernel
theorem dX2_see_148 : decode cX2_see 148 = .ok (.iaload, 1) := by decide +kernel
theorem dX2_see_149 : decode cX2_see 149 = .ok (.invokevirtual 152, 3) := by decide +kernel
theorem dX2_see_152 : decode cX2_see 152 = .ok (.iconst 0, 1) := by decide +kernel
theorem dX2_see_153 : decode cX2_see 153 = .ok (.ireturn, 1) := by decide +kernel
theorem dX2_seeHeld_0 : decode cX2_seeHeld 0 = .ok (.aload_n 1, 1) := by decide +kernel
theorem dX2_seeHeld_1 : decode cX2_seeHeld 1 = .ok (.getfield 165, 3) := by decide +kernel
theorem dX2_seeHeld_4 : decode cX2_seeHeld 4 = .ok (.iconst 1, 1) := by decide +kernel
theorem dX2_seeHeld_5 : decode cX2_seeHeld 5 = .ok (.isub, 1) := by decide +kernel
theorem dX2_seeHeld_6 : decode cX2_seeHeld 6 = .ok (.istore_n 3, 1) := by decide +kernel
theorem dX2_seeHeld_7 : decode cX2_seeHeld 7 = .ok (.iload_n 3, 1) := by decide +kernel
theorem dX2_seeHeld_8 : decode cX2_seeHeld 8 = .ok (.ifCond .lt 38, 3) := by decide +kernel
theorem dX2_seeHeld_11 : decode cX2_seeHeld 11 = .ok (.aload_n 1, 1) := by decide +kernel
theorem dX2_seeHeld_12 : decode cX2_seeHeld 12 = .ok (.iload_n 3, 1) := by decide +kernel
theorem dX2_seeHeld_13 : decode cX2_seeHeld 13 = .ok (.invokevirtual 213, 3) := by decide +kernel
theorem dX2_seeHeld_16 : decode cX2_seeHeld 16 = .ok (.astore 4, 2) := by decide +kernel
theorem dX2_seeHeld_18 : decode cX2_seeHeld 18 = .ok (.aload 4, 2) := by decide +kernel
theorem dX2_seeHeld_20 : decode cX2_seeHeld 20 = .ok (.iload_n 2, 1) := by decide +kernel
theorem dX2_seeHeld_21 : decode cX2_seeHeld 21 = .ok (.invokevirtual 217, 3) := by decide +kernel
theorem dX2_seeHeld_24 : decode cX2_seeHeld 24 = .ok (.ifCond .eq 16, 3) := by decide +kernel
theorem dX2_seeHeld_27 : decode cX2_seeHeld 27 = .ok (.aload_n 1, 1) := by decide +kernel
theorem dX2_seeHeld_28 : decode cX2_seeHeld 28 = .ok (.aload 4, 2) := by decide +kernel
theorem dX2_seeHeld_30 : decode cX2_seeHeld 30 = .ok (.getfield 221, 3) := by decide +kernel
theorem dX2_seeHeld_33 : decode cX2_seeHeld 33 = .ok (.iload_n 2, 1) := by decide +kernel
theorem dX2_seeHeld_34 : decode cX2_seeHeld 34 = .ok (.iaload, 1) := by decide +kernel
theorem dX2_seeHeld_35 : decode cX2_seeHeld 35 = .ok (.invokevirtual 152, 3) := by decide +kernel
theorem dX2_seeHeld_38 : decode cX2_seeHeld 38 = .ok (.iconst 0, 1) := by decide +kernel
theorem dX2_seeHeld_39 : decode cX2_seeHeld 39 = .ok (.ireturn, 1) := by decide +kernel
theorem dX2_seeHeld_40 : decode cX2_seeHeld 40 = .ok (.iinc 3 (-1), 3) := by decide +kernel
theorem dX2_seeHeld_43 : decode cX2_seeHeld 43 = .ok (.goto (-36), 3) := by decide +kernel
theorem dX2_seeHeld_46 : decode cX2_seeHeld 46 = .ok (.aload_n 0, 1) := by decide +kernel
theorem dX2_seeHeld_47 : decode cX2_seeHeld 47 = .ok (.getfield 41, 3) := by decide +kernel
theorem dX2_seeHeld_50 : decode cX2_seeHeld 50 = .ok (.ifCond .ne 23, 3) := by decide +kernel
theorem dX2_seeHeld_53 : decode cX2_seeHeld 53 = .ok (.aload_n 0, 1) := by decide +kernel
theorem dX2_seeHeld_54 : decode cX2_seeHeld 54 = .ok (.getfield 12, 3) := by decide +kernel
theorem dX2_seeHeld_57 : decode cX2_seeHeld 57 = .ok (.getfield 206, 3) := by decide +kernel
theorem dX2_seeHeld_60 : decode cX2_seeHeld 60 = .ok (.iload_n 2, 1) := by decide +kernel
theorem dX2_seeHeld_61 : decode cX2_seeHeld 61 = .ok (.iaload, 1) := by decide +kernel
theorem dX2_seeHeld_62 : decode cX2_seeHeld 62 = .ok (.aload_n 1, 1) := by decide +kernel
theorem dX2_seeHeld_63 : decode cX2_seeHeld 63 = .ok (.getfield 224, 3) := by decide +kernel
theorem dX2_seeHeld_66 : decode cX2_seeHeld 66 = .ok (.if_icmp .le 7, 3) := by decide +kernel
theorem dX2_seeHeld_69 : decode cX2_seeHeld 69 = .ok (.iconst 1, 1) := by decide +kernel
theorem dX2_seeHeld_70 : decode cX2_seeHeld 70 = .ok (.goto 4, 3) := by decide +kernel
theorem dX2_seeHeld_73 : decode cX2_seeHeld 73 = .ok (.iconst 0, 1) := by decide +kernel
theorem dX2_seeHeld_74 : decode cX2_seeHeld 74 = .ok (.istore_n 3, 1) := by decide +kernel
theorem dX2_seeHeld_75 : decode cX2_seeHeld 75 = .ok (.iload_n 3, 1) := by decide +kernel
theorem dX2_seeHeld_76 : decode cX2_seeHeld 76 = .ok (.ifCond .ne 11, 3) := by decide +kernel
theorem dX2_seeHeld_79 : decode cX2_seeHeld 79 = .ok (.aload_n 0, 1) := by decide +kernel
theorem dX2_seeHeld_80 : decode cX2_seeHeld 80 = .ok (.getfield 41, 3) := by decide +kernel
theorem dX2_seeHeld_83 : decode cX2_seeHeld 83 = .ok (.iconst 1, 1) := by decide +kernel
theorem dX2_seeHeld_84 : decode cX2_seeHeld 84 = .ok (.if_icmp .ne 11, 3) := by decide +kernel
theorem dX2_seeHeld_87 : decode cX2_seeHeld 87 = .ok (.aload_n 0, 1) := by decide +kernel
theorem dX2_seeHeld_88 : decode cX2_seeHeld 88 = .ok (.aload_n 1, 1) := by decide +kernel
theorem dX2_seeHeld_89 : decode cX2_seeHeld 89 = .ok (.invokevirtual 227, 3) := by decide +kernel
theorem dX2_seeHeld_92 : decode cX2_seeHeld 92 = .ok (.goto 4, 3) := by decide +kernel
theorem dX2_seeHeld_95 : decode cX2_seeHeld 95 = .ok (.iconst (-1), 1) := by decide +kernel
theorem dX2_seeHeld_96 : decode cX2_seeHeld 96 = .ok (.istore 4, 2) := by decide +kernel
theorem dX2_seeHeld_98 : decode cX2_seeHeld 98 = .ok (.iload_n 3, 1) := by decide +kernel
theorem dX2_seeHeld_99 : decode cX2_seeHeld 99 = .ok (.ifCond .ne 8, 3) := by decide +kernel
theorem dX2_seeHeld_102 : decode cX2_seeHeld 102 = .ok (.iload 4, 2) := by decide +kernel
theorem dX2_seeHeld_104 : decode cX2_seeHeld 104 = .ok (.ifCond .lt 26, 3) := by decide +kernel
theorem dX2_seeHeld_107 : decode cX2_seeHeld 107 = .ok (.aload_n 0, 1) := by decide +kernel
theorem dX2_seeHeld_108 : decode cX2_seeHeld 108 = .ok (.aload_n 1, 1) := by decide +kernel
theorem dX2_seeHeld_109 : decode cX2_seeHeld 109 = .ok (.iload 4, 2) := by decide +kernel
theorem dX2_seeHeld_111 : decode cX2_seeHeld 111 = .ok (.ifCond .lt 8, 3) := by decide +kernel
theorem dX2_seeHeld_114 : decode cX2_seeHeld 114 = .ok (.iload 4, 2) := by decide +kernel
theorem dX2_seeHeld_116 : decode cX2_seeHeld 116 = .ok (.goto 9, 3) := by decide +kernel
theorem dX2_seeHeld_119 : decode cX2_seeHeld 119 = .ok (.aload_n 1, 1) := by decide +kernel
theorem dX2_seeHeld_120 : decode cX2_seeHeld 120 = .ok (.getfield 165, 3) := by decide +kernel
theorem dX2_seeHeld_123 : decode cX2_seeHeld 123 = .ok (.iconst 1, 1) := by decide +kernel
theorem dX2_seeHeld_124 : decode cX2_seeHeld 124 = .ok (.isub, 1) := by decide +kernel
theorem dX2_seeHeld_125 : decode cX2_seeHeld 125 = .ok (.invokevirtual 230, 3) := by decide +kernel
theorem dX2_seeHeld_128 : decode cX2_seeHeld 128 = .ok (.iconst 1, 1) := by decide +kernel
theorem dX2_seeHeld_129 : decode cX2_seeHeld 129 = .ok (.ireturn, 1) := by decide +kernel
theorem dX2_seeHeld_130 : decode cX2_seeHeld 130 = .ok (.aload_n 0, 1) := by decide +kernel
theorem dX2_seeHeld_131 : decode cX2_seeHeld 131 = .ok (.getfield 41, 3) := by decide +kernel
theorem dX2_seeHeld_134 : decode cX2_seeHeld 134 = .ok (.iconst 1, 1) := by decide +kernel
theorem dX2_seeHeld_135 : decode cX2_seeHeld 135 = .ok (.if_icmp .ne 14, 3) := by decide +kernel
theorem dX2_seeHeld_138 : decode cX2_seeHeld 138 = .ok (.aload_n 1, 1) := by decide +kernel
theorem dX2_seeHeld_139 : decode cX2_seeHeld 139 = .ok (.aload_n 0, 1) := by decide +kernel
theorem dX2_seeHeld_140 : decode cX2_seeHeld 140 = .ok (.getfield 12, 3) := by decide +kernel
theorem dX2_seeHeld_143 : decode cX2_seeHeld 143 = .ok (.getfield 61, 3) := by decide +kernel
theorem dX2_seeHeld_146 : decode cX2_seeHeld 146 = .ok (.putfield 224, 3) := by decide +kernel
theorem dX2_seeHeld_149 : decode cX2_seeHeld 149 = .ok (.aload_n 0, 1) := by decide +kernel
theorem dX2_seeHeld_150 : decode cX2_seeHeld 150 = .ok (.getfield 41, 3) := by decide +kernel
theorem dX2_seeHeld_153 : decode cX2_seeHeld 153 = .ok (.iconst 2, 1) := by decide +kernel
theorem dX2_seeHeld_154 : decode cX2_seeHeld 154 = .ok (.if_icmp .ne 18, 3) := by decide +kernel
theorem dX2_seeHeld_157 : decode cX2_seeHeld 157 = .ok (.aload_n 0, 1) := by decide +kernel
theorem dX2_seeHeld_158 : decode cX2_seeHeld 158 = .ok (.getfield 12, 3) := by decide +kernel
theorem dX2_seeHeld_161 : decode cX2_seeHeld 161 = .ok (.iload_n 2, 1) := by decide +kernel
theorem dX2_seeHeld_162 : decode cX2_seeHeld 162 = .ok (.aload_n 1, 1) := by decide +kernel
theorem dX2_seeHeld_163 : decode cX2_seeHeld 163 = .ok (.getfield 224, 3) := by decide +kernel
theorem dX2_seeHeld_166 : decode cX2_seeHeld 166 = .ok (.invokevirtual 234, 3) := by decide +kernel
theorem dX2_seeHeld_169 : decode cX2_seeHeld 169 = .ok (.goto 12, 3) := by decide +kernel
theorem dX2_seeHeld_172 : decode cX2_seeHeld 172 = .ok (.aload_n 0, 1) := by decide +kernel
theorem dX2_seeHeld_173 : decode cX2_seeHeld 173 = .ok (.getfield 12, 3) := by decide +kernel
theorem dX2_seeHeld_176 : decode cX2_seeHeld 176 = .ok (.getfield 188, 3) := by decide +kernel
theorem dX2_seeHeld_179 : decode cX2_seeHeld 179 = .ok (.iload_n 2, 1) := by decide +kernel
theorem dX2_seeHeld_180 : decode cX2_seeHeld 180 = .ok (.iaload, 1) := by decide +kernel
theorem dX2_seeHeld_181 : decode cX2_seeHeld 181 = .ok (.istore 5, 2) := by decide +kernel
theorem dX2_seeHeld_183 : decode cX2_seeHeld 183 = .ok (.aload_n 1, 1) := by decide +kernel
theorem dX2_seeHeld_184 : decode cX2_seeHeld 184 = .ok (.invokevirtual 202, 3) := by decide +kernel
theorem dX2_seeHeld_187 : decode cX2_seeHeld 187 = .ok (.iload_n 2, 1) := by decide +kernel
theorem dX2_seeHeld_188 : decode cX2_seeHeld 188 = .ok (.iload 5, 2) := by decide +kernel
theorem dX2_seeHeld_190 : decode cX2_seeHeld 190 = .ok (.aload_n 0, 1) := by decide +kernel
theorem dX2_seeHeld_191 : decode cX2_seeHeld 191 = .ok (.getfield 12, 3) := by decide +kernel
theorem dX2_seeHeld_194 : decode cX2_seeHeld 194 = .ok (.getfield 206, 3) := by decide +kernel
theorem dX2_seeHeld_197 : decode cX2_seeHeld 197 = .ok (.iload_n 2, 1) := by decide +kernel
theorem dX2_seeHeld_198 : decode cX2_seeHeld 198 = .ok (.iaload, 1) := by decide +kernel
theorem dX2_seeHeld_199 : decode cX2_seeHeld 199 = .ok (.invokevirtual 209, 3) := by decide +kernel
theorem dX2_seeHeld_202 : decode cX2_seeHeld 202 = .ok (.aload_n 1, 1) := by decide +kernel
theorem dX2_seeHeld_203 : decode cX2_seeHeld 203 = .ok (.iload 5, 2) := by decide +kernel
theorem dX2_seeHeld_205 : decode cX2_seeHeld 205 = .ok (.invokevirtual 152, 3) := by decide +kernel
theorem dX2_seeHeld_208 : decode cX2_seeHeld 208 = .ok (.iconst 0, 1) := by decide +kernel
theorem dX2_seeHeld_209 : decode cX2_seeHeld 209 = .ok (.ireturn, 1) := by decide +kernel
theorem dX2_setRegister_0 : decode cX2_setRegister 0 = .ok (.iload_n 1, 1) := by decide +kernel
theorem dX2_setRegister_1 : decode cX2_setRegister 1 = .ok (.ifCond .lt 16, 3) := by decide +kernel
theorem dX2_setRegister_4 : decode cX2_setRegister 4 = .ok (.iload_n 1, 1) := by decide +kernel
theorem dX2_setRegister_5 : decode cX2_setRegister 5 = .ok (.bipush 26, 2) := by decide +kernel
theorem dX2_setRegister_7 : decode cX2_setRegister 7 = .ok (.if_icmp .ge 10, 3) := by decide +kernel
theorem dX2_setRegister_10 : decode cX2_setRegister 10 = .ok (.aload_n 0, 1) := by decide +kernel
theorem dX2_setRegister_11 : decode cX2_setRegister 11 = .ok (.getfield 155, 3) := by decide +kernel
theorem dX2_setRegister_14 : decode cX2_setRegister 14 = .ok (.iload_n 1, 1) := by decide +kernel
theorem dX2_setRegister_15 : decode cX2_setRegister 15 = .ok (.iload_n 2, 1) := by decide +kernel
theorem dX2_setRegister_16 : decode cX2_setRegister 16 = .ok (.iastore, 1) := by decide +kernel
theorem dX2_setRegister_17 : decode cX2_setRegister 17 = .ok (.return_, 1) := by decide +kernel
theorem dX2_startAgain_0 : decode cX2_startAgain 0 = .ok (.aload_n 0, 1) := by decide +kernel
theorem dX2_startAgain_1 : decode cX2_startAgain 1 = .ok (.iload_n 1, 1) := by decide +kernel
theorem dX2_startAgain_2 : decode cX2_startAgain 2 = .ok (.putfield 41, 3) := by decide +kernel
theorem dX2_startAgain_5 : decode cX2_startAgain 5 = .ok (.aload_n 0, 1) := by decide +kernel
theorem dX2_startAgain_6 : decode cX2_startAgain 6 = .ok (.iconst 0, 1) := by decide +kernel
theorem dX2_startAgain_7 : decode cX2_startAgain 7 = .ok (.putfield 45, 3) := by decide +kernel
theorem dX2_startAgain_10 : decode cX2_startAgain 10 = .ok (.aload_n 0, 1) := by decide +kernel
theorem dX2_startAgain_11 : decode cX2_startAgain 11 = .ok (.getfield 12, 3) := by decide +kernel
theorem dX2_startAgain_14 : decode cX2_startAgain 14 = .ok (.invokevirtual 48, 3) := by decide +kernel
theorem dX2_startAgain_17 : decode cX2_startAgain 17 = .ok (.aload_n 0, 1) := by decide +kernel
theorem dX2_startAgain_18 : decode cX2_startAgain 18 = .ok (.getfield 21, 3) := by decide +kernel
theorem dX2_startAgain_21 : decode cX2_startAgain 21 = .ok (.iconst 0, 1) := by decide +kernel
theorem dX2_startAgain_22 : decode cX2_startAgain 22 = .ok (.putfield 51, 3) := by decide +kernel
theorem dX2_startAgain_25 : decode cX2_startAgain 25 = .ok (.aload_n 0, 1) := by decide +kernel
theorem dX2_startAgain_26 : decode cX2_startAgain 26 = .ok (.getfield 28, 3) := by decide +kernel
theorem dX2_startAgain_29 : decode cX2_startAgain 29 = .ok (.invokevirtual 54, 3) := by decide +kernel
theorem dX2_startAgain_32 : decode cX2_startAgain 32 = .ok (.iconst 0, 1) := by decide +kernel
theorem dX2_startAgain_33 : decode cX2_startAgain 33 = .ok (.istore_n 2, 1) := by decide +kernel
theorem dX2_startAgain_34 : decode cX2_startAgain 34 = .ok (.iload_n 2, 1) := by decide +kernel
theorem dX2_startAgain_35 : decode cX2_startAgain 35 = .ok (.bipush 6, 2) := by decide +kernel
theorem dX2_startAgain_37 : decode cX2_startAgain 37 = .ok (.if_icmp .ge 30, 3) := by decide +kernel
theorem dX2_startAgain_40 : decode cX2_startAgain 40 = .ok (.aload_n 0, 1) := by decide +kernel
theorem dX2_startAgain_41 : decode cX2_startAgain 41 = .ok (.getfield 34, 3) := by decide +kernel
theorem dX2_startAgain_44 : decode cX2_startAgain 44 = .ok (.iload_n 2, 1) := by decide +kernel
theorem dX2_startAgain_45 : decode cX2_startAgain 45 = .ok (.aaload, 1) := by decide +kernel
theorem dX2_startAgain_46 : decode cX2_startAgain 46 = .ok (.getfield 55, 3) := by decide +kernel
theorem dX2_startAgain_49 : decode cX2_startAgain 49 = .ok (.ifCond .eq 12, 3) := by decide +kernel
theorem dX2_startAgain_52 : decode cX2_startAgain 52 = .ok (.aload_n 0, 1) := by decide +kernel
theorem dX2_startAgain_53 : decode cX2_startAgain 53 = .ok (.getfield 34, 3) := by decide +kernel
theorem dX2_startAgain_56 : decode cX2_startAgain 56 = .ok (.iload_n 2, 1) := by decide +kernel
theorem dX2_startAgain_57 : decode cX2_startAgain 57 = .ok (.aaload, 1) := by decide +kernel
theorem dX2_startAgain_58 : decode cX2_startAgain 58 = .ok (.invokevirtual 58, 3) := by decide +kernel
theorem dX2_startAgain_61 : decode cX2_startAgain 61 = .ok (.iinc 2 1, 3) := by decide +kernel
theorem dX2_startAgain_64 : decode cX2_startAgain 64 = .ok (.goto (-30), 3) := by decide +kernel
theorem dX2_startAgain_67 : decode cX2_startAgain 67 = .ok (.return_, 1) := by decide +kernel
theorem dX2_step_0 : decode cX2_step 0 = .ok (.aload_n 1, 1) := by decide +kernel
theorem dX2_step_1 : decode cX2_step 1 = .ok (.getfield 88, 3) := by decide +kernel
theorem dX2_step_4 : decode cX2_step 4 = .ok (.astore_n 2, 1) := by decide +kernel
theorem dX2_step_5 : decode cX2_step 5 = .ok (.aload_n 1, 1) := by decide +kernel
theorem dX2_step_6 : decode cX2_step 6 = .ok (.getfield 92, 3) := by decide +kernel
theorem dX2_step_9 : decode cX2_step 9 = .ok (.istore_n 3, 1) := by decide +kernel
theorem dX2_step_10 : decode cX2_step 10 = .ok (.iload_n 3, 1) := by decide +kernel
theorem dX2_step_11 : decode cX2_step 11 = .ok (.ifCond .lt 19, 3) := by decide +kernel
theorem dX2_step_14 : decode cX2_step 14 = .ok (.iload_n 3, 1) := by decide +kernel
theorem dX2_step_15 : decode cX2_step 15 = .ok (.aload_n 2, 1) := by decide +kernel
theorem dX2_step_16 : decode cX2_step 16 = .ok (.getfield 95, 3) := by decide +kernel
theorem dX2_step_19 : decode cX2_step 19 = .ok (.if_icmp .ge 11, 3) := by decide +kernel
theorem dX2_step_22 : decode cX2_step 22 = .ok (.iload_n 3, 1) := by decide +kernel
theorem dX2_step_23 : decode cX2_step 23 = .ok (.aload_n 2, 1) := by decide +kernel
theorem dX2_step_24 : decode cX2_step 24 = .ok (.getfield 100, 3) := by decide +kernel
theorem dX2_step_27 : decode cX2_step 27 = .ok (.if_icmp .lt 10, 3) := by decide +kernel
theorem dX2_step_30 : decode cX2_step 30 = .ok (.aload_n 1, 1) := by decide +kernel
theorem dX2_step_31 : decode cX2_step 31 = .ok (.iconst 4, 1) := by decide +kernel
theorem dX2_step_32 : decode cX2_step 32 = .ok (.putfield 55, 3) := by decide +kernel
theorem dX2_step_35 : decode cX2_step 35 = .ok (.iconst 2, 1) := by decide +kernel
theorem dX2_step_36 : decode cX2_step 36 = .ok (.ireturn, 1) := by decide +kernel
theorem dX2_step_37 : decode cX2_step 37 = .ok (.aload_n 1, 1) := by decide +kernel
theorem dX2_step_38 : decode cX2_step 38 = .ok (.iload_n 3, 1) := by decide +kernel
theorem dX2_step_39 : decode cX2_step 39 = .ok (.iconst 1, 1) := by decide +kernel
theorem dX2_step_40 : decode cX2_step 40 = .ok (.iadd, 1) := by decide +kernel
theorem dX2_step_41 : decode cX2_step 41 = .ok (.putfield 92, 3) := by decide +kernel
theorem dX2_step_44 : decode cX2_step 44 = .ok (.aload_n 2, 1) := by decide +kernel
theorem dX2_step_45 : decode cX2_step 45 = .ok (.getfield 103, 3) := by decide +kernel
theorem dX2_step_48 : decode cX2_step 48 = .ok (.iload_n 3, 1) := by decide +kernel
theorem dX2_step_49 : decode cX2_step 49 = .ok (.iaload, 1) := by decide +kernel
theorem dX2_step_50 : decode cX2_step 50 = .ok (.istore 4, 2) := by decide +kernel
theorem dX2_step_52 : decode cX2_step 52 = .ok (.aload_n 2, 1) := by decide +kernel
theorem dX2_step_53 : decode cX2_step 53 = .ok (.getfield 107, 3) := by decide +kernel
theorem dX2_step_56 : decode cX2_step 56 = .ok (.iload_n 3, 1) := by decide +kernel
theorem dX2_step_57 : decode cX2_step 57 = .ok (.iaload, 1) := by decide +kernel
theorem dX2_step_58 : decode cX2_step 58 = .ok (.tableswitch 185 3 22 #[94, 185, 185, 185, 185, 185, 185, 185, 102, 185, 185, 159, 114, 124, 131, 137, 143, 149, 166, 173], 94) := by decide +kernel
theorem dX2_step_152 : decode cX2_step 152 = .ok (.aload_n 0, 1) := by decide +kernel
theorem dX2_step_153 : decode cX2_step 153 = .ok (.aload_n 1, 1) := by decide +kernel
theorem dX2_step_154 : decode cX2_step 154 = .ok (.iload 4, 2) := by decide +kernel
theorem dX2_step_156 : decode cX2_step 156 = .ok (.invokevirtual 110, 3) := by decide +kernel
theorem dX2_step_159 : decode cX2_step 159 = .ok (.ireturn, 1) := by decide +kernel
theorem dX2_step_160 : decode cX2_step 160 = .ok (.aload_n 0, 1) := by decide +kernel
theorem dX2_step_161 : decode cX2_step 161 = .ok (.aload_n 1, 1) := by decide +kernel
theorem dX2_step_162 : decode cX2_step 162 = .ok (.iload 4, 2) := by decide +kernel
theorem dX2_step_164 : decode cX2_step 164 = .ok (.aload_n 1, 1) := by decide +kernel
theorem dX2_step_165 : decode cX2_step 165 = .ok (.invokevirtual 114, 3) := by decide +kernel
theorem dX2_step_168 : decode cX2_step 168 = .ok (.invokevirtual 117, 3) := by decide +kernel
theorem dX2_step_171 : decode cX2_step 171 = .ok (.ireturn, 1) := by decide +kernel
theorem dX2_step_172 : decode cX2_step 172 = .ok (.aload_n 0, 1) := by decide +kernel
theorem dX2_step_173 : decode cX2_step 173 = .ok (.aload_n 1, 1) := by decide +kernel
theorem dX2_step_174 : decode cX2_step 174 = .ok (.aload_n 1, 1) := by decide +kernel
theorem dX2_step_175 : decode cX2_step 175 = .ok (.invokevirtual 114, 3) := by decide +kernel
theorem dX2_step_178 : decode cX2_step 178 = .ok (.invokevirtual 121, 3) := by decide +kernel
theorem dX2_step_181 : decode cX2_step 181 = .ok (.ireturn, 1) := by decide +kernel
theorem dX2_step_182 : decode cX2_step 182 = .ok (.aload_n 0, 1) := by decide +kernel
theorem dX2_step_183 : decode cX2_step 183 = .ok (.aload_n 1, 1) := by decide +kernel
theorem dX2_step_184 : decode cX2_step 184 = .ok (.iload_n 3, 1) := by decide +kernel
theorem dX2_step_185 : decode cX2_step 185 = .ok (.invokevirtual 124, 3) := by decide +kernel
theorem dX2_step_188 : decode cX2_step 188 = .ok (.ireturn, 1) := by decide +kernel
theorem dX2_step_189 : decode cX2_step 189 = .ok (.aload_n 0, 1) := by decide +kernel
theorem dX2_step_190 : decode cX2_step 190 = .ok (.aload_n 1, 1) := by decide +kernel
theorem dX2_step_191 : decode cX2_step 191 = .ok (.invokevirtual 127, 3) := by decide +kernel
theorem dX2_step_194 : decode cX2_step 194 = .ok (.ireturn, 1) := by decide +kernel
theorem dX2_step_195 : decode cX2_step 195 = .ok (.aload_n 0, 1) := by decide +kernel
theorem dX2_step_196 : decode cX2_step 196 = .ok (.aload_n 1, 1) := by decide +kernel
theorem dX2_step_197 : decode cX2_step 197 = .ok (.invokevirtual 130, 3) := by decide +kernel
theorem dX2_step_200 : decode cX2_step 200 = .ok (.ireturn, 1) := by decide +kernel
theorem dX2_step_201 : decode cX2_step 201 = .ok (.aload_n 0, 1) := by decide +kernel
theorem dX2_step_202 : decode cX2_step 202 = .ok (.aload_n 1, 1) := by decide +kernel
theorem dX2_step_203 : decode cX2_step 203 = .ok (.invokevirtual 133, 3) := by decide +kernel
theorem dX2_step_206 : decode cX2_step 206 = .ok (.ireturn, 1) := by decide +kernel
theorem dX2_step_207 : decode cX2_step 207 = .ok (.aload_n 0, 1) := by decide +kernel
theorem dX2_step_208 : decode cX2_step 208 = .ok (.aload_n 1, 1) := by decide +kernel
theorem dX2_step_209 : decode cX2_step 209 = .ok (.aload_n 1, 1) := by decide +kernel
theorem dX2_step_210 : decode cX2_step 210 = .ok (.invokevirtual 114, 3) := by decide +kernel
theorem dX2_step_213 : decode cX2_step 213 = .ok (.invokevirtual 136, 3) := by decide +kernel
theorem dX2_step_216 : decode cX2_step 216 = .ok (.ireturn, 1) := by decide +kernel
theorem dX2_step_217 : decode cX2_step 217 = .ok (.aload_n 1, 1) := by decide +kernel
theorem dX2_step_218 : decode cX2_step 218 = .ok (.iload 4, 2) := by decide +kernel
theorem dX2_step_220 : decode cX2_step 220 = .ok (.invokestatic 139, 3) := by decide +kernel
theorem dX2_step_223 : decode cX2_step 223 = .ok (.ireturn, 1) := by decide +kernel
theorem dX2_step_224 : decode cX2_step 224 = .ok (.aload_n 1, 1) := by decide +kernel
theorem dX2_step_225 : decode cX2_step 225 = .ok (.iload_n 3, 1) := by decide +kernel
theorem dX2_step_226 : decode cX2_step 226 = .ok (.invokevirtual 142, 3) := by decide +kernel
theorem dX2_step_229 : decode cX2_step 229 = .ok (.iconst (-1), 1) := by decide +kernel
theorem dX2_step_230 : decode cX2_step 230 = .ok (.ireturn, 1) := by decide +kernel
theorem dX2_step_231 : decode cX2_step 231 = .ok (.aload_n 1, 1) := by decide +kernel
theorem dX2_step_232 : decode cX2_step 232 = .ok (.invokevirtual 145, 3) := by decide +kernel
theorem dX2_step_235 : decode cX2_step 235 = .ok (.aload_n 1, 1) := by decide +kernel
theorem dX2_step_236 : decode cX2_step 236 = .ok (.iload 4, 2) := by decide +kernel
theorem dX2_step_238 : decode cX2_step 238 = .ok (.putfield 92, 3) := by decide +kernel
theorem dX2_step_241 : decode cX2_step 241 = .ok (.iconst (-1), 1) := by decide +kernel
theorem dX2_step_242 : decode cX2_step 242 = .ok (.ireturn, 1) := by decide +kernel
theorem dX2_step_243 : decode cX2_step 243 = .ok (.aload_n 1, 1) := by decide +kernel
theorem dX2_step_244 : decode cX2_step 244 = .ok (.aload_n 2, 1) := by decide +kernel
theorem dX2_step_245 : decode cX2_step 245 = .ok (.getfield 107, 3) := by decide +kernel
theorem dX2_step_248 : decode cX2_step 248 = .ok (.iload_n 3, 1) := by decide +kernel
theorem dX2_step_249 : decode cX2_step 249 = .ok (.iaload, 1) := by decide +kernel
theorem dX2_step_250 : decode cX2_step 250 = .ok (.iload 4, 2) := by decide +kernel
theorem dX2_step_252 : decode cX2_step 252 = .ok (.invokestatic 148, 3) := by decide +kernel
theorem dX2_step_255 : decode cX2_step 255 = .ok (.iconst (-1), 1) := by decide +kernel
theorem dX2_step_256 : decode cX2_step 256 = .ok (.ireturn, 1) := by decide +kernel
theorem dX2_stir_0 : decode cX2_stir 0 = .ok (.aload_n 0, 1) := by decide +kernel
theorem dX2_stir_1 : decode cX2_stir 1 = .ok (.aload_n 1, 1) := by decide +kernel
theorem dX2_stir_2 : decode cX2_stir 2 = .ok (.invokevirtual 355, 3) := by decide +kernel
theorem dX2_stir_5 : decode cX2_stir 5 = .ok (.ifCond .ne 5, 3) := by decide +kernel
theorem dX2_stir_8 : decode cX2_stir 8 = .ok (.iconst 3, 1) := by decide +kernel
theorem dX2_stir_9 : decode cX2_stir 9 = .ok (.ireturn, 1) := by decide +kernel
theorem dX2_stir_10 : decode cX2_stir 10 = .ok (.aload_n 0, 1) := by decide +kernel
theorem dX2_stir_11 : decode cX2_stir 11 = .ok (.aload_n 1, 1) := by decide +kernel
theorem dX2_stir_12 : decode cX2_stir 12 = .ok (.invokevirtual 316, 3) := by decide +kernel
theorem dX2_stir_15 : decode cX2_stir 15 = .ok (.ifCond .eq 5, 3) := by decide +kernel
theorem dX2_stir_18 : decode cX2_stir 18 = .ok (.iconst 4, 1) := by decide +kernel
theorem dX2_stir_19 : decode cX2_stir 19 = .ok (.ireturn, 1) := by decide +kernel
theorem dX2_stir_20 : decode cX2_stir 20 = .ok (.aload_n 1, 1) := by decide +kernel
theorem dX2_stir_21 : decode cX2_stir 21 = .ok (.iconst 2, 1) := by decide +kernel
theorem dX2_stir_22 : decode cX2_stir 22 = .ok (.putfield 55, 3) := by decide +kernel
theorem dX2_stir_25 : decode cX2_stir 25 = .ok (.aload_n 0, 1) := by decide +kernel
theorem dX2_stir_26 : decode cX2_stir 26 = .ok (.aload_n 1, 1) := by decide +kernel
theorem dX2_stir_27 : decode cX2_stir 27 = .ok (.iconst 0, 1) := by decide +kernel
theorem dX2_stir_28 : decode cX2_stir 28 = .ok (.invokevirtual 230, 3) := by decide +kernel
theorem dX2_stir_31 : decode cX2_stir 31 = .ok (.bipush 6, 2) := by decide +kernel
theorem dX2_stir_33 : decode cX2_stir 33 = .ok (.ireturn, 1) := by decide +kernel
theorem dX2_takeBack_0 : decode cX2_takeBack 0 = .ok (.aload_n 1, 1) := by decide +kernel
theorem dX2_takeBack_1 : decode cX2_takeBack 1 = .ok (.getfield 165, 3) := by decide +kernel
theorem dX2_takeBack_4 : decode cX2_takeBack 4 = .ok (.iconst 1, 1) := by decide +kernel
theorem dX2_takeBack_5 : decode cX2_takeBack 5 = .ok (.isub, 1) := by decide +kernel
theorem dX2_takeBack_6 : decode cX2_takeBack 6 = .ok (.istore_n 3, 1) := by decide +kernel
theorem dX2_takeBack_7 : decode cX2_takeBack 7 = .ok (.iload_n 3, 1) := by decide +kernel
theorem dX2_takeBack_8 : decode cX2_takeBack 8 = .ok (.iload_n 2, 1) := by decide +kernel
theorem dX2_takeBack_9 : decode cX2_takeBack 9 = .ok (.if_icmp .lt 34, 3) := by decide +kernel
theorem dX2_takeBack_12 : decode cX2_takeBack 12 = .ok (.aload_n 1, 1) := by decide +kernel
theorem dX2_takeBack_13 : decode cX2_takeBack 13 = .ok (.iload_n 3, 1) := by decide +kernel
theorem dX2_takeBack_14 : decode cX2_takeBack 14 = .ok (.invokevirtual 213, 3) := by decide +kernel
theorem dX2_takeBack_17 : decode cX2_takeBack 17 = .ok (.astore 4, 2) := by decide +kernel
theorem dX2_takeBack_19 : decode cX2_takeBack 19 = .ok (.aload_n 0, 1) := by decide +kernel
theorem dX2_takeBack_20 : decode cX2_takeBack 20 = .ok (.invokevirtual 178, 3) := by decide +kernel
theorem dX2_takeBack_23 : decode cX2_takeBack 23 = .ok (.ifCond .eq 9, 3) := by decide +kernel
theorem dX2_takeBack_26 : decode cX2_takeBack 26 = .ok (.aload_n 0, 1) := by decide +kernel
theorem dX2_takeBack_27 : decode cX2_takeBack 27 = .ok (.aload 4, 2) := by decide +kernel
theorem dX2_takeBack_29 : decode cX2_takeBack 29 = .ok (.invokevirtual 294, 3) := by decide +kernel
theorem dX2_takeBack_32 : decode cX2_takeBack 32 = .ok (.aload 4, 2) := by decide +kernel
theorem dX2_takeBack_34 : decode cX2_takeBack 34 = .ok (.invokevirtual 298, 3) := by decide +kernel
theorem dX2_takeBack_37 : decode cX2_takeBack 37 = .ok (.iinc 3 (-1), 3) := by decide +kernel
theorem dX2_takeBack_40 : decode cX2_takeBack 40 = .ok (.goto (-33), 3) := by decide +kernel
theorem dX2_takeBack_43 : decode cX2_takeBack 43 = .ok (.aload_n 1, 1) := by decide +kernel
theorem dX2_takeBack_44 : decode cX2_takeBack 44 = .ok (.aload_n 1, 1) := by decide +kernel
theorem dX2_takeBack_45 : decode cX2_takeBack 45 = .ok (.iload_n 2, 1) := by decide +kernel
theorem dX2_takeBack_46 : decode cX2_takeBack 46 = .ok (.invokevirtual 213, 3) := by decide +kernel
theorem dX2_takeBack_49 : decode cX2_takeBack 49 = .ok (.invokevirtual 301, 3) := by decide +kernel
theorem dX2_takeBack_52 : decode cX2_takeBack 52 = .ok (.return_, 1) := by decide +kernel
theorem dX2_takeTurn_0 : decode cX2_takeTurn 0 = .ok (.aload_n 0, 1) := by decide +kernel
theorem dX2_takeTurn_1 : decode cX2_takeTurn 1 = .ok (.aload_n 0, 1) := by decide +kernel
theorem dX2_takeTurn_2 : decode cX2_takeTurn 2 = .ok (.getfield 45, 3) := by decide +kernel
theorem dX2_takeTurn_5 : decode cX2_takeTurn 5 = .ok (.putfield 77, 3) := by decide +kernel
theorem dX2_takeTurn_8 : decode cX2_takeTurn 8 = .ok (.aload_n 0, 1) := by decide +kernel
theorem dX2_takeTurn_9 : decode cX2_takeTurn 9 = .ok (.dup, 1) := by decide +kernel
theorem dX2_takeTurn_10 : decode cX2_takeTurn 10 = .ok (.getfield 45, 3) := by decide +kernel
theorem dX2_takeTurn_13 : decode cX2_takeTurn 13 = .ok (.iconst 1, 1) := by decide +kernel
theorem dX2_takeTurn_14 : decode cX2_takeTurn 14 = .ok (.iadd, 1) := by decide +kernel
theorem dX2_takeTurn_15 : decode cX2_takeTurn 15 = .ok (.putfield 45, 3) := by decide +kernel
theorem dX2_takeTurn_18 : decode cX2_takeTurn 18 = .ok (.aload_n 1, 1) := by decide +kernel
theorem dX2_takeTurn_19 : decode cX2_takeTurn 19 = .ok (.getfield 55, 3) := by decide +kernel
theorem dX2_takeTurn_22 : decode cX2_takeTurn 22 = .ok (.iconst 3, 1) := by decide +kernel
theorem dX2_takeTurn_23 : decode cX2_takeTurn 23 = .ok (.if_icmp .ne 9, 3) := by decide +kernel
theorem dX2_takeTurn_26 : decode cX2_takeTurn 26 = .ok (.aload_n 0, 1) := by decide +kernel
theorem dX2_takeTurn_27 : decode cX2_takeTurn 27 = .ok (.aload_n 1, 1) := by decide +kernel
theorem dX2_takeTurn_28 : decode cX2_takeTurn 28 = .ok (.invokevirtual 80, 3) := by decide +kernel
theorem dX2_takeTurn_31 : decode cX2_takeTurn 31 = .ok (.ireturn, 1) := by decide +kernel
theorem dX2_takeTurn_32 : decode cX2_takeTurn 32 = .ok (.aload_n 1, 1) := by decide +kernel
theorem dX2_takeTurn_33 : decode cX2_takeTurn 33 = .ok (.invokevirtual 73, 3) := by decide +kernel
theorem dX2_takeTurn_36 : decode cX2_takeTurn 36 = .ok (.ifCond .ne 17, 3) := by decide +kernel
theorem dX2_takeTurn_39 : decode cX2_takeTurn 39 = .ok (.aload_n 1, 1) := by decide +kernel
theorem dX2_takeTurn_40 : decode cX2_takeTurn 40 = .ok (.getfield 55, 3) := by decide +kernel
theorem dX2_takeTurn_43 : decode cX2_takeTurn 43 = .ok (.iconst 5, 1) := by decide +kernel
theorem dX2_takeTurn_44 : decode cX2_takeTurn 44 = .ok (.if_icmp .ne 7, 3) := by decide +kernel
theorem dX2_takeTurn_47 : decode cX2_takeTurn 47 = .ok (.iconst 5, 1) := by decide +kernel
theorem dX2_takeTurn_48 : decode cX2_takeTurn 48 = .ok (.goto 4, 3) := by decide +kernel
theorem dX2_takeTurn_51 : decode cX2_takeTurn 51 = .ok (.iconst 2, 1) := by decide +kernel
theorem dX2_takeTurn_52 : decode cX2_takeTurn 52 = .ok (.ireturn, 1) := by decide +kernel
theorem dX2_takeTurn_53 : decode cX2_takeTurn 53 = .ok (.iconst 0, 1) := by decide +kernel
theorem dX2_takeTurn_54 : decode cX2_takeTurn 54 = .ok (.istore_n 2, 1) := by decide +kernel
theorem dX2_takeTurn_55 : decode cX2_takeTurn 55 = .ok (.iload_n 2, 1) := by decide +kernel
theorem dX2_takeTurn_56 : decode cX2_takeTurn 56 = .ok (.ldc 84, 2) := by decide +kernel
theorem dX2_takeTurn_58 : decode cX2_takeTurn 58 = .ok (.if_icmp .ge 22, 3) := by decide +kernel
theorem dX2_takeTurn_61 : decode cX2_takeTurn 61 = .ok (.aload_n 0, 1) := by decide +kernel
theorem dX2_takeTurn_62 : decode cX2_takeTurn 62 = .ok (.aload_n 1, 1) := by decide +kernel
theorem dX2_takeTurn_63 : decode cX2_takeTurn 63 = .ok (.invokevirtual 85, 3) := by decide +kernel
theorem dX2_takeTurn_66 : decode cX2_takeTurn 66 = .ok (.istore_n 3, 1) := by decide +kernel
theorem dX2_takeTurn_67 : decode cX2_takeTurn 67 = .ok (.iload_n 3, 1) := by decide +kernel
theorem dX2_takeTurn_68 : decode cX2_takeTurn 68 = .ok (.iconst (-1), 1) := by decide +kernel
theorem dX2_takeTurn_69 : decode cX2_takeTurn 69 = .ok (.if_icmp .eq 5, 3) := by decide +kernel
theorem dX2_takeTurn_72 : decode cX2_takeTurn 72 = .ok (.iload_n 3, 1) := by decide +kernel
theorem dX2_takeTurn_73 : decode cX2_takeTurn 73 = .ok (.ireturn, 1) := by decide +kernel
theorem dX2_takeTurn_74 : decode cX2_takeTurn 74 = .ok (.iinc 2 1, 3) := by decide +kernel
theorem dX2_takeTurn_77 : decode cX2_takeTurn 77 = .ok (.goto (-22), 3) := by decide +kernel
theorem dX2_takeTurn_80 : decode cX2_takeTurn 80 = .ok (.iconst 0, 1) := by decide +kernel
theorem dX2_takeTurn_81 : decode cX2_takeTurn 81 = .ok (.ireturn, 1) := by decide +kernel
theorem dX2_tellOf_0 : decode cX2_tellOf 0 = .ok (.iload_n 1, 1) := by decide +kernel
theorem dX2_tellOf_1 : decode cX2_tellOf 1 = .ok (.tableswitch 89 1 7 #[43, 48, 56, 61, 69, 77, 83], 43) := by decide +kernel
theorem dX2_tellOf_44 : decode cX2_tellOf 44 = .ok (.aload_n 0, 1) := by decide +kernel
theorem dX2_tellOf_45 : decode cX2_tellOf 45 = .ok (.getfield 41, 3) := by decide +kernel
theorem dX2_tellOf_48 : decode cX2_tellOf 48 = .ok (.ireturn, 1) := by decide +kernel
theorem dX2_tellOf_49 : decode cX2_tellOf 49 = .ok (.aload_n 0, 1) := by decide +kernel
theorem dX2_tellOf_50 : decode cX2_tellOf 50 = .ok (.getfield 12, 3) := by decide +kernel
theorem dX2_tellOf_53 : decode cX2_tellOf 53 = .ok (.getfield 61, 3) := by decide +kernel
theorem dX2_tellOf_56 : decode cX2_tellOf 56 = .ok (.ireturn, 1) := by decide +kernel
theorem dX2_tellOf_57 : decode cX2_tellOf 57 = .ok (.aload_n 0, 1) := by decide +kernel
theorem dX2_tellOf_58 : decode cX2_tellOf 58 = .ok (.getfield 45, 3) := by decide +kernel
theorem dX2_tellOf_61 : decode cX2_tellOf 61 = .ok (.ireturn, 1) := by decide +kernel
theorem dX2_tellOf_62 : decode cX2_tellOf 62 = .ok (.aload_n 0, 1) := by decide +kernel
theorem dX2_tellOf_63 : decode cX2_tellOf 63 = .ok (.getfield 21, 3) := by decide +kernel
theorem dX2_tellOf_66 : decode cX2_tellOf 66 = .ok (.getfield 51, 3) := by decide +kernel
theorem dX2_tellOf_69 : decode cX2_tellOf 69 = .ok (.ireturn, 1) := by decide +kernel
theorem dX2_tellOf_70 : decode cX2_tellOf 70 = .ok (.aload_n 0, 1) := by decide +kernel
theorem dX2_tellOf_71 : decode cX2_tellOf 71 = .ok (.getfield 28, 3) := by decide +kernel
theorem dX2_tellOf_74 : decode cX2_tellOf 74 = .ok (.getfield 64, 3) := by decide +kernel
theorem dX2_tellOf_77 : decode cX2_tellOf 77 = .ok (.ireturn, 1) := by decide +kernel
theorem dX2_tellOf_78 : decode cX2_tellOf 78 = .ok (.aload_n 0, 1) := by decide +kernel
theorem dX2_tellOf_79 : decode cX2_tellOf 79 = .ok (.iconst 2, 1) := by decide +kernel
theorem dX2_tellOf_80 : decode cX2_tellOf 80 = .ok (.invokevirtual 65, 3) := by decide +kernel
theorem dX2_tellOf_83 : decode cX2_tellOf 83 = .ok (.ireturn, 1) := by decide +kernel
theorem dX2_tellOf_84 : decode cX2_tellOf 84 = .ok (.aload_n 0, 1) := by decide +kernel
theorem dX2_tellOf_85 : decode cX2_tellOf 85 = .ok (.iconst 3, 1) := by decide +kernel
theorem dX2_tellOf_86 : decode cX2_tellOf 86 = .ok (.invokevirtual 65, 3) := by decide +kernel
theorem dX2_tellOf_89 : decode cX2_tellOf 89 = .ok (.ireturn, 1) := by decide +kernel
theorem dX2_tellOf_90 : decode cX2_tellOf 90 = .ok (.aload_n 0, 1) := by decide +kernel
theorem dX2_tellOf_91 : decode cX2_tellOf 91 = .ok (.getfield 12, 3) := by decide +kernel
theorem dX2_tellOf_94 : decode cX2_tellOf 94 = .ok (.invokevirtual 69, 3) := by decide +kernel
theorem dX2_tellOf_97 : decode cX2_tellOf 97 = .ok (.ireturn, 1) := by decide +kernel
theorem dX2_write_0 : decode cX2_write 0 = .ok (.iload_n 2, 1) := by decide +kernel
theorem dX2_write_1 : decode cX2_write 1 = .ok (.ifCond .lt 9, 3) := by decide +kernel
theorem dX2_write_4 : decode cX2_write 4 = .ok (.iload_n 2, 1) := by decide +kernel
theorem dX2_write_5 : decode cX2_write 5 = .ok (.bipush 26, 2) := by decide +kernel
theorem dX2_write_7 : decode cX2_write 7 = .ok (.if_icmp .lt 5, 3) := by decide +kernel
theorem dX2_write_10 : decode cX2_write 10 = .ok (.iconst 0, 1) := by decide +kernel
theorem dX2_write_11 : decode cX2_write 11 = .ok (.ireturn, 1) := by decide +kernel
theorem dX2_write_12 : decode cX2_write 12 = .ok (.aload_n 1, 1) := by decide +kernel
theorem dX2_write_13 : decode cX2_write 13 = .ok (.getfield 165, 3) := by decide +kernel
theorem dX2_write_16 : decode cX2_write 16 = .ok (.ifCond .ne 55, 3) := by decide +kernel
theorem dX2_write_19 : decode cX2_write 19 = .ok (.aload_n 0, 1) := by decide +kernel
theorem dX2_write_20 : decode cX2_write 20 = .ok (.getfield 12, 3) := by decide +kernel
theorem dX2_write_23 : decode cX2_write 23 = .ok (.dup, 1) := by decide +kernel
theorem dX2_write_24 : decode cX2_write 24 = .ok (.getfield 61, 3) := by decide +kernel
theorem dX2_write_27 : decode cX2_write 27 = .ok (.iconst 1, 1) := by decide +kernel
theorem dX2_write_28 : decode cX2_write 28 = .ok (.iadd, 1) := by decide +kernel
theorem dX2_write_29 : decode cX2_write 29 = .ok (.putfield 61, 3) := by decide +kernel
theorem dX2_write_32 : decode cX2_write 32 = .ok (.aload_n 0, 1) := by decide +kernel
theorem dX2_write_33 : decode cX2_write 33 = .ok (.getfield 12, 3) := by decide +kernel
theorem dX2_write_36 : decode cX2_write 36 = .ok (.iload_n 2, 1) := by decide +kernel
theorem dX2_write_37 : decode cX2_write 37 = .ok (.iload_n 3, 1) := by decide +kernel
theorem dX2_write_38 : decode cX2_write 38 = .ok (.invokevirtual 238, 3) := by decide +kernel
theorem dX2_write_41 : decode cX2_write 41 = .ok (.aload_n 0, 1) := by decide +kernel
theorem dX2_write_42 : decode cX2_write 42 = .ok (.getfield 28, 3) := by decide +kernel
theorem dX2_write_45 : decode cX2_write 45 = .ok (.aload_n 1, 1) := by decide +kernel
theorem dX2_write_46 : decode cX2_write 46 = .ok (.getfield 171, 3) := by decide +kernel
theorem dX2_write_49 : decode cX2_write 49 = .ok (.aload_n 0, 1) := by decide +kernel
theorem dX2_write_50 : decode cX2_write 50 = .ok (.getfield 77, 3) := by decide +kernel
theorem dX2_write_53 : decode cX2_write 53 = .ok (.aload_n 0, 1) := by decide +kernel
theorem dX2_write_54 : decode cX2_write 54 = .ok (.getfield 77, 3) := by decide +kernel
theorem dX2_write_57 : decode cX2_write 57 = .ok (.invokevirtual 184, 3) := by decide +kernel
theorem dX2_write_60 : decode cX2_write 60 = .ok (.aload_n 0, 1) := by decide +kernel
theorem dX2_write_61 : decode cX2_write 61 = .ok (.getfield 28, 3) := by decide +kernel
theorem dX2_write_64 : decode cX2_write 64 = .ok (.iload_n 2, 1) := by decide +kernel
theorem dX2_write_65 : decode cX2_write 65 = .ok (.iload_n 3, 1) := by decide +kernel
theorem dX2_write_66 : decode cX2_write 66 = .ok (.invokevirtual 241, 3) := by decide +kernel
theorem dX2_write_69 : decode cX2_write 69 = .ok (.iconst 0, 1) := by decide +kernel
theorem dX2_write_70 : decode cX2_write 70 = .ok (.ireturn, 1) := by decide +kernel
theorem dX2_write_71 : decode cX2_write 71 = .ok (.aload_n 0, 1) := by decide +kernel
theorem dX2_write_72 : decode cX2_write 72 = .ok (.invokevirtual 178, 3) := by decide +kernel
theorem dX2_write_75 : decode cX2_write 75 = .ok (.ifCond .ne 14, 3) := by decide +kernel
theorem dX2_write_78 : decode cX2_write 78 = .ok (.aload_n 1, 1) := by decide +kernel
theorem dX2_write_79 : decode cX2_write 79 = .ok (.invokevirtual 202, 3) := by decide +kernel
theorem dX2_write_82 : decode cX2_write 82 = .ok (.iload_n 2, 1) := by decide +kernel
theorem dX2_write_83 : decode cX2_write 83 = .ok (.iload_n 3, 1) := by decide +kernel
theorem dX2_write_84 : decode cX2_write 84 = .ok (.invokevirtual 244, 3) := by decide +kernel
theorem dX2_write_87 : decode cX2_write 87 = .ok (.iconst 0, 1) := by decide +kernel
theorem dX2_write_88 : decode cX2_write 88 = .ok (.ireturn, 1) := by decide +kernel
theorem dX2_write_89 : decode cX2_write 89 = .ok (.aload_n 0, 1) := by decide +kernel
theorem dX2_write_90 : decode cX2_write 90 = .ok (.getfield 41, 3) := by decide +kernel
theorem dX2_write_93 : decode cX2_write 93 = .ok (.iconst 3, 1) := by decide +kernel
theorem dX2_write_94 : decode cX2_write 94 = .ok (.if_icmp .ne 14, 3) := by decide +kernel
theorem dX2_write_97 : decode cX2_write 97 = .ok (.aload_n 0, 1) := by decide +kernel
theorem dX2_write_98 : decode cX2_write 98 = .ok (.aload_n 1, 1) := by decide +kernel
theorem dX2_write_99 : decode cX2_write 99 = .ok (.iload_n 2, 1) := by decide +kernel
theorem dX2_write_100 : decode cX2_write 100 = .ok (.invokevirtual 198, 3) := by decide +kernel
theorem dX2_write_103 : decode cX2_write 103 = .ok (.ifCond .ne 5, 3) := by decide +kernel
theorem dX2_write_106 : decode cX2_write 106 = .ok (.iconst 1, 1) := by decide +kernel
theorem dX2_write_107 : decode cX2_write 107 = .ok (.ireturn, 1) := by decide +kernel
theorem dX2_write_108 : decode cX2_write 108 = .ok (.aload_n 1, 1) := by decide +kernel
theorem dX2_write_109 : decode cX2_write 109 = .ok (.invokevirtual 202, 3) := by decide +kernel
theorem dX2_write_112 : decode cX2_write 112 = .ok (.iload_n 2, 1) := by decide +kernel
theorem dX2_write_113 : decode cX2_write 113 = .ok (.invokevirtual 217, 3) := by decide +kernel
theorem dX2_write_116 : decode cX2_write 116 = .ok (.ifCond .ne 20, 3) := by decide +kernel
theorem dX2_write_119 : decode cX2_write 119 = .ok (.aload_n 1, 1) := by decide +kernel
theorem dX2_write_120 : decode cX2_write 120 = .ok (.invokevirtual 202, 3) := by decide +kernel
theorem dX2_write_123 : decode cX2_write 123 = .ok (.iload_n 2, 1) := by decide +kernel
theorem dX2_write_124 : decode cX2_write 124 = .ok (.aload_n 0, 1) := by decide +kernel
theorem dX2_write_125 : decode cX2_write 125 = .ok (.getfield 12, 3) := by decide +kernel
theorem dX2_write_128 : decode cX2_write 128 = .ok (.getfield 188, 3) := by decide +kernel
theorem dX2_write_131 : decode cX2_write 131 = .ok (.iload_n 2, 1) := by decide +kernel
theorem dX2_write_132 : decode cX2_write 132 = .ok (.iaload, 1) := by decide +kernel
theorem dX2_write_133 : decode cX2_write 133 = .ok (.invokevirtual 244, 3) := by decide +kernel
theorem dX2_write_136 : decode cX2_write 136 = .ok (.aload_n 0, 1) := by decide +kernel
theorem dX2_write_137 : decode cX2_write 137 = .ok (.getfield 12, 3) := by decide +kernel
theorem dX2_write_140 : decode cX2_write 140 = .ok (.getfield 245, 3) := by decide +kernel
theorem dX2_write_143 : decode cX2_write 143 = .ok (.iload_n 2, 1) := by decide +kernel
theorem dX2_write_144 : decode cX2_write 144 = .ok (.aload_n 1, 1) := by decide +kernel
theorem dX2_write_145 : decode cX2_write 145 = .ok (.getfield 171, 3) := by decide +kernel
theorem dX2_write_148 : decode cX2_write 148 = .ok (.iastore, 1) := by decide +kernel
theorem dX2_write_149 : decode cX2_write 149 = .ok (.aload_n 0, 1) := by decide +kernel
theorem dX2_write_150 : decode cX2_write 150 = .ok (.getfield 12, 3) := by decide +kernel
theorem dX2_write_153 : decode cX2_write 153 = .ok (.getfield 188, 3) := by decide +kernel
theorem dX2_write_156 : decode cX2_write 156 = .ok (.iload_n 2, 1) := by decide +kernel
theorem dX2_write_157 : decode cX2_write 157 = .ok (.iload_n 3, 1) := by decide +kernel
theorem dX2_write_158 : decode cX2_write 158 = .ok (.iastore, 1) := by decide +kernel
theorem dX2_write_159 : decode cX2_write 159 = .ok (.iconst 0, 1) := by decide +kernel
theorem dX2_write_160 : decode cX2_write 160 = .ok (.ireturn, 1) := by decide +kernel
theorem dX2_writeRecord_0 : decode cX2_writeRecord 0 = .ok (.aload_n 0, 1) := by decide +kernel
theorem dX2_writeRecord_1 : decode cX2_writeRecord 1 = .ok (.getfield 28, 3) := by decide +kernel
theorem dX2_writeRecord_4 : decode cX2_writeRecord 4 = .ok (.aload_n 1, 1) := by decide +kernel
theorem dX2_writeRecord_5 : decode cX2_writeRecord 5 = .ok (.getfield 171, 3) := by decide +kernel
theorem dX2_writeRecord_8 : decode cX2_writeRecord 8 = .ok (.aload_n 1, 1) := by decide +kernel
theorem dX2_writeRecord_9 : decode cX2_writeRecord 9 = .ok (.getfield 286, 3) := by decide +kernel
theorem dX2_writeRecord_12 : decode cX2_writeRecord 12 = .ok (.aload_n 0, 1) := by decide +kernel
theorem dX2_writeRecord_13 : decode cX2_writeRecord 13 = .ok (.getfield 77, 3) := by decide +kernel
theorem dX2_writeRecord_16 : decode cX2_writeRecord 16 = .ok (.invokevirtual 184, 3) := by decide +kernel
theorem dX2_writeRecord_19 : decode cX2_writeRecord 19 = .ok (.iconst 0, 1) := by decide +kernel
theorem dX2_writeRecord_20 : decode cX2_writeRecord 20 = .ok (.istore_n 3, 1) := by decide +kernel
theorem dX2_writeRecord_21 : decode cX2_writeRecord 21 = .ok (.iload_n 3, 1) := by decide +kernel
theorem dX2_writeRecord_22 : decode cX2_writeRecord 22 = .ok (.aload_n 2, 1) := by decide +kernel
theorem dX2_writeRecord_23 : decode cX2_writeRecord 23 = .ok (.getfield 257, 3) := by decide +kernel
theorem dX2_writeRecord_26 : decode cX2_writeRecord 26 = .ok (.if_icmp .ge 34, 3) := by decide +kernel
theorem dX2_writeRecord_29 : decode cX2_writeRecord 29 = .ok (.iload_n 3, 1) := by decide +kernel
theorem dX2_writeRecord_30 : decode cX2_writeRecord 30 = .ok (.bipush 26, 2) := by decide +kernel
theorem dX2_writeRecord_32 : decode cX2_writeRecord 32 = .ok (.if_icmp .ge 28, 3) := by decide +kernel
theorem dX2_writeRecord_35 : decode cX2_writeRecord 35 = .ok (.aload_n 0, 1) := by decide +kernel
theorem dX2_writeRecord_36 : decode cX2_writeRecord 36 = .ok (.getfield 28, 3) := by decide +kernel
theorem dX2_writeRecord_39 : decode cX2_writeRecord 39 = .ok (.aload_n 2, 1) := by decide +kernel
theorem dX2_writeRecord_40 : decode cX2_writeRecord 40 = .ok (.getfield 264, 3) := by decide +kernel
theorem dX2_writeRecord_43 : decode cX2_writeRecord 43 = .ok (.iload_n 3, 1) := by decide +kernel
theorem dX2_writeRecord_44 : decode cX2_writeRecord 44 = .ok (.iaload, 1) := by decide +kernel
theorem dX2_writeRecord_45 : decode cX2_writeRecord 45 = .ok (.aload_n 2, 1) := by decide +kernel
theorem dX2_writeRecord_46 : decode cX2_writeRecord 46 = .ok (.getfield 267, 3) := by decide +kernel
theorem dX2_writeRecord_49 : decode cX2_writeRecord 49 = .ok (.iload_n 3, 1) := by decide +kernel
theorem dX2_writeRecord_50 : decode cX2_writeRecord 50 = .ok (.iaload, 1) := by decide +kernel
theorem dX2_writeRecord_51 : decode cX2_writeRecord 51 = .ok (.invokevirtual 191, 3) := by decide +kernel
theorem dX2_writeRecord_54 : decode cX2_writeRecord 54 = .ok (.iinc 3 1, 3) := by decide +kernel
theorem dX2_writeRecord_57 : decode cX2_writeRecord 57 = .ok (.goto (-36), 3) := by decide +kernel
theorem dX2_writeRecord_60 : decode cX2_writeRecord 60 = .ok (.iconst 0, 1) := by decide +kernel
theorem dX2_writeRecord_61 : decode cX2_writeRecord 61 = .ok (.istore_n 3, 1) := by decide +kernel
theorem dX2_writeRecord_62 : decode cX2_writeRecord 62 = .ok (.iload_n 3, 1) := by decide +kernel
theorem dX2_writeRecord_63 : decode cX2_writeRecord 63 = .ok (.bipush 26, 2) := by decide +kernel
theorem dX2_writeRecord_65 : decode cX2_writeRecord 65 = .ok (.if_icmp .ge 34, 3) := by decide +kernel
theorem dX2_writeRecord_68 : decode cX2_writeRecord 68 = .ok (.aload_n 2, 1) := by decide +kernel
theorem dX2_writeRecord_69 : decode cX2_writeRecord 69 = .ok (.iload_n 3, 1) := by decide +kernel
theorem dX2_writeRecord_70 : decode cX2_writeRecord 70 = .ok (.invokevirtual 217, 3) := by decide +kernel
theorem dX2_writeRecord_73 : decode cX2_writeRecord 73 = .ok (.ifCond .eq 20, 3) := by decide +kernel
theorem dX2_writeRecord_76 : decode cX2_writeRecord 76 = .ok (.aload_n 0, 1) := by decide +kernel
theorem dX2_writeRecord_77 : decode cX2_writeRecord 77 = .ok (.getfield 28, 3) := by decide +kernel
theorem dX2_writeRecord_80 : decode cX2_writeRecord 80 = .ok (.iload_n 3, 1) := by decide +kernel
theorem dX2_writeRecord_81 : decode cX2_writeRecord 81 = .ok (.aload_n 0, 1) := by decide +kernel
theorem dX2_writeRecord_82 : decode cX2_writeRecord 82 = .ok (.getfield 12, 3) := by decide +kernel
theorem dX2_writeRecord_85 : decode cX2_writeRecord 85 = .ok (.getfield 188, 3) := by decide +kernel
theorem dX2_writeRecord_88 : decode cX2_writeRecord 88 = .ok (.iload_n 3, 1) := by decide +kernel
theorem dX2_writeRecord_89 : decode cX2_writeRecord 89 = .ok (.iaload, 1) := by decide +kernel
theorem dX2_writeRecord_90 : decode cX2_writeRecord 90 = .ok (.invokevirtual 241, 3) := by decide +kernel
theorem dX2_writeRecord_93 : decode cX2_writeRecord 93 = .ok (.iinc 3 1, 3) := by decide +kernel
theorem dX2_writeRecord_96 : decode cX2_writeRecord 96 = .ok (.goto (-34), 3) := by decide +kernel
theorem dX2_writeRecord_99 : decode cX2_writeRecord 99 = .ok (.return_, 1) := by decide +kernel
theorem dX2_writesAtOnce_0 : decode cX2_writesAtOnce 0 = .ok (.aload_n 0, 1) := by decide +kernel
theorem dX2_writesAtOnce_1 : decode cX2_writesAtOnce 1 = .ok (.getfield 41, 3) := by decide +kernel
theorem dX2_writesAtOnce_4 : decode cX2_writesAtOnce 4 = .ok (.iconst 3, 1) := by decide +kernel
theorem dX2_writesAtOnce_5 : decode cX2_writesAtOnce 5 = .ok (.if_icmp .eq 11, 3) := by decide +kernel
theorem dX2_writesAtOnce_8 : decode cX2_writesAtOnce 8 = .ok (.aload_n 0, 1) := by decide +kernel
theorem dX2_writesAtOnce_9 : decode cX2_writesAtOnce 9 = .ok (.getfield 41, 3) := by decide +kernel
theorem dX2_writesAtOnce_12 : decode cX2_writesAtOnce 12 = .ok (.iconst 4, 1) := by decide +kernel
theorem dX2_writesAtOnce_13 : decode cX2_writesAtOnce 13 = .ok (.if_icmp .ne 7, 3) := by decide +kernel
theorem dX2_writesAtOnce_16 : decode cX2_writesAtOnce 16 = .ok (.iconst 1, 1) := by decide +kernel
theorem dX2_writesAtOnce_17 : decode cX2_writesAtOnce 17 = .ok (.goto 4, 3) := by decide +kernel
theorem dX2_writesAtOnce_20 : decode cX2_writesAtOnce 20 = .ok (.iconst 0, 1) := by decide +kernel
theorem dX2_writesAtOnce_21 : decode cX2_writesAtOnce 21 = .ok (.ireturn, 1) := by decide +kernel
