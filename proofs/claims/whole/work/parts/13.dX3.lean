theorem dX3_addRead_0 : decode cX3_addRead 0 = .ok (.iload_n 1, 1) := by decide +kernel
theorem dX3_addRead_1 : decode cX3_addRead 1 = .ok (.ifCond .lt 36, 3) := by decide +kernel
theorem dX3_addRead_4 : decode cX3_addRead 4 = .ok (.iload_n 1, 1) := by decide +kernel
theorem dX3_addRead_5 : decode cX3_addRead 5 = .ok (.bipush 26, 2) := by decide +kernel
theorem dX3_addRead_7 : decode cX3_addRead 7 = .ok (.if_icmp .ge 30, 3) := by decide +kernel
theorem dX3_addRead_10 : decode cX3_addRead 10 = .ok (.aload_n 0, 1) := by decide +kernel
theorem dX3_addRead_11 : decode cX3_addRead 11 = .ok (.getfield 31, 3) := by decide +kernel
theorem dX3_addRead_14 : decode cX3_addRead 14 = .ok (.iload_n 1, 1) := by decide +kernel
theorem dX3_addRead_15 : decode cX3_addRead 15 = .ok (.ishr, 1) := by decide +kernel
theorem dX3_addRead_16 : decode cX3_addRead 16 = .ok (.iconst 1, 1) := by decide +kernel
theorem dX3_addRead_17 : decode cX3_addRead 17 = .ok (.iand, 1) := by decide +kernel
theorem dX3_addRead_18 : decode cX3_addRead 18 = .ok (.ifCond .ne 19, 3) := by decide +kernel
theorem dX3_addRead_21 : decode cX3_addRead 21 = .ok (.aload_n 0, 1) := by decide +kernel
theorem dX3_addRead_22 : decode cX3_addRead 22 = .ok (.getfield 27, 3) := by decide +kernel
theorem dX3_addRead_25 : decode cX3_addRead 25 = .ok (.ifCond .lt 12, 3) := by decide +kernel
theorem dX3_addRead_28 : decode cX3_addRead 28 = .ok (.aload_n 0, 1) := by decide +kernel
theorem dX3_addRead_29 : decode cX3_addRead 29 = .ok (.getfield 27, 3) := by decide +kernel
theorem dX3_addRead_32 : decode cX3_addRead 32 = .ok (.bipush 26, 2) := by decide +kernel
theorem dX3_addRead_34 : decode cX3_addRead 34 = .ok (.if_icmp .lt 4, 3) := by decide +kernel
theorem dX3_addRead_37 : decode cX3_addRead 37 = .ok (.return_, 1) := by decide +kernel
theorem dX3_addRead_38 : decode cX3_addRead 38 = .ok (.aload_n 0, 1) := by decide +kernel
theorem dX3_addRead_39 : decode cX3_addRead 39 = .ok (.dup, 1) := by decide +kernel
theorem dX3_addRead_40 : decode cX3_addRead 40 = .ok (.getfield 31, 3) := by decide +kernel
theorem dX3_addRead_43 : decode cX3_addRead 43 = .ok (.iconst 1, 1) := by decide +kernel
theorem dX3_addRead_44 : decode cX3_addRead 44 = .ok (.iload_n 1, 1) := by decide +kernel
theorem dX3_addRead_45 : decode cX3_addRead 45 = .ok (.ishl, 1) := by decide +kernel
theorem dX3_addRead_46 : decode cX3_addRead 46 = .ok (.ior, 1) := by decide +kernel
theorem dX3_addRead_47 : decode cX3_addRead 47 = .ok (.putfield 31, 3) := by decide +kernel
theorem dX3_addRead_50 : decode cX3_addRead 50 = .ok (.aload_n 0, 1) := by decide +kernel
theorem dX3_addRead_51 : decode cX3_addRead 51 = .ok (.getfield 9, 3) := by decide +kernel
theorem dX3_addRead_54 : decode cX3_addRead 54 = .ok (.aload_n 0, 1) := by decide +kernel
theorem dX3_addRead_55 : decode cX3_addRead 55 = .ok (.getfield 27, 3) := by decide +kernel
theorem dX3_addRead_58 : decode cX3_addRead 58 = .ok (.iload_n 1, 1) := by decide +kernel
theorem dX3_addRead_59 : decode cX3_addRead 59 = .ok (.iastore, 1) := by decide +kernel
theorem dX3_addRead_60 : decode cX3_addRead 60 = .ok (.aload_n 0, 1) := by decide +kernel
theorem dX3_addRead_61 : decode cX3_addRead 61 = .ok (.getfield 15, 3) := by decide +kernel
theorem dX3_addRead_64 : decode cX3_addRead 64 = .ok (.aload_n 0, 1) := by decide +kernel
theorem dX3_addRead_65 : decode cX3_addRead 65 = .ok (.getfield 27, 3) := by decide +kernel
theorem dX3_addRead_68 : decode cX3_addRead 68 = .ok (.iload_n 2, 1) := by decide +kernel
theorem dX3_addRead_69 : decode cX3_addRead 69 = .ok (.iastore, 1) := by decide +kernel
theorem dX3_addRead_70 : decode cX3_addRead 70 = .ok (.aload_n 0, 1) := by decide +kernel
theorem dX3_addRead_71 : decode cX3_addRead 71 = .ok (.getfield 18, 3) := by decide +kernel
theorem dX3_addRead_74 : decode cX3_addRead 74 = .ok (.aload_n 0, 1) := by decide +kernel
theorem dX3_addRead_75 : decode cX3_addRead 75 = .ok (.getfield 27, 3) := by decide +kernel
theorem dX3_addRead_78 : decode cX3_addRead 78 = .ok (.iload_n 3, 1) := by decide +kernel
theorem dX3_addRead_79 : decode cX3_addRead 79 = .ok (.iastore, 1) := by decide +kernel
theorem dX3_addRead_80 : decode cX3_addRead 80 = .ok (.aload_n 0, 1) := by decide +kernel
theorem dX3_addRead_81 : decode cX3_addRead 81 = .ok (.dup, 1) := by decide +kernel
theorem dX3_addRead_82 : decode cX3_addRead 82 = .ok (.getfield 27, 3) := by decide +kernel
theorem dX3_addRead_85 : decode cX3_addRead 85 = .ok (.iconst 1, 1) := by decide +kernel
theorem dX3_addRead_86 : decode cX3_addRead 86 = .ok (.iadd, 1) := by decide +kernel
theorem dX3_addRead_87 : decode cX3_addRead 87 = .ok (.putfield 27, 3) := by decide +kernel
theorem dX3_addRead_90 : decode cX3_addRead 90 = .ok (.return_, 1) := by decide +kernel
theorem dX3_addWrite_0 : decode cX3_addWrite 0 = .ok (.iload_n 1, 1) := by decide +kernel
theorem dX3_addWrite_1 : decode cX3_addWrite 1 = .ok (.ifCond .lt 28, 3) := by decide +kernel
theorem dX3_addWrite_4 : decode cX3_addWrite 4 = .ok (.iload_n 1, 1) := by decide +kernel
theorem dX3_addWrite_5 : decode cX3_addWrite 5 = .ok (.bipush 26, 2) := by decide +kernel
theorem dX3_addWrite_7 : decode cX3_addWrite 7 = .ok (.if_icmp .ge 22, 3) := by decide +kernel
theorem dX3_addWrite_10 : decode cX3_addWrite 10 = .ok (.aload_n 0, 1) := by decide +kernel
theorem dX3_addWrite_11 : decode cX3_addWrite 11 = .ok (.dup, 1) := by decide +kernel
theorem dX3_addWrite_12 : decode cX3_addWrite 12 = .ok (.getfield 34, 3) := by decide +kernel
theorem dX3_addWrite_15 : decode cX3_addWrite 15 = .ok (.iconst 1, 1) := by decide +kernel
theorem dX3_addWrite_16 : decode cX3_addWrite 16 = .ok (.iload_n 1, 1) := by decide +kernel
theorem dX3_addWrite_17 : decode cX3_addWrite 17 = .ok (.ishl, 1) := by decide +kernel
theorem dX3_addWrite_18 : decode cX3_addWrite 18 = .ok (.ior, 1) := by decide +kernel
theorem dX3_addWrite_19 : decode cX3_addWrite 19 = .ok (.putfield 34, 3) := by decide +kernel
theorem dX3_addWrite_22 : decode cX3_addWrite 22 = .ok (.aload_n 0, 1) := by decide +kernel
theorem dX3_addWrite_23 : decode cX3_addWrite 23 = .ok (.getfield 21, 3) := by decide +kernel
theorem dX3_addWrite_26 : decode cX3_addWrite 26 = .ok (.iload_n 1, 1) := by decide +kernel
theorem dX3_addWrite_27 : decode cX3_addWrite 27 = .ok (.iload_n 2, 1) := by decide +kernel
theorem dX3_addWrite_28 : decode cX3_addWrite 28 = .ok (.iastore, 1) := by decide +kernel
theorem dX3_addWrite_29 : decode cX3_addWrite 29 = .ok (.return_, 1) := by decide +kernel
theorem dX3_forgetReads_0 : decode cX3_forgetReads 0 = .ok (.aload_n 0, 1) := by decide +kernel
theorem dX3_forgetReads_1 : decode cX3_forgetReads 1 = .ok (.iconst 0, 1) := by decide +kernel
theorem dX3_forgetReads_2 : decode cX3_forgetReads 2 = .ok (.putfield 27, 3) := by decide +kernel
theorem dX3_forgetReads_5 : decode cX3_forgetReads 5 = .ok (.aload_n 0, 1) := by decide +kernel
theorem dX3_forgetReads_6 : decode cX3_forgetReads 6 = .ok (.iconst 0, 1) := by decide +kernel
theorem dX3_forgetReads_7 : decode cX3_forgetReads 7 = .ok (.putfield 31, 3) := by decide +kernel
theorem dX3_forgetReads_10 : decode cX3_forgetReads 10 = .ok (.return_, 1) := by decide +kernel
theorem dX3_forgetWrites_0 : decode cX3_forgetWrites 0 = .ok (.aload_n 0, 1) := by decide +kernel
theorem dX3_forgetWrites_1 : decode cX3_forgetWrites 1 = .ok (.iconst 0, 1) := by decide +kernel
theorem dX3_forgetWrites_2 : decode cX3_forgetWrites 2 = .ok (.putfield 34, 3) := by decide +kernel
theorem dX3_forgetWrites_5 : decode cX3_forgetWrites 5 = .ok (.return_, 1) := by decide +kernel
theorem dX3_init_0 : decode cX3_init 0 = .ok (.aload_n 0, 1) := by decide +kernel
theorem dX3_init_1 : decode cX3_init 1 = .ok (.invokespecial 3, 3) := by decide +kernel
theorem dX3_init_4 : decode cX3_init 4 = .ok (.aload_n 0, 1) := by decide +kernel
theorem dX3_init_5 : decode cX3_init 5 = .ok (.bipush 26, 2) := by decide +kernel
theorem dX3_init_7 : decode cX3_init 7 = .ok (.newarray .int, 2) := by decide +kernel
theorem dX3_init_9 : decode cX3_init 9 = .ok (.putfield 9, 3) := by decide +kernel
theorem dX3_init_12 : decode cX3_init 12 = .ok (.aload_n 0, 1) := by decide +kernel
theorem dX3_init_13 : decode cX3_init 13 = .ok (.bipush 26, 2) := by decide +kernel
theorem dX3_init_15 : decode cX3_init 15 = .ok (.newarray .int, 2) := by decide +kernel
theorem dX3_init_17 : decode cX3_init 17 = .ok (.putfield 15, 3) := by decide +kernel
theorem dX3_init_20 : decode cX3_init 20 = .ok (.aload_n 0, 1) := by decide +kernel
theorem dX3_init_21 : decode cX3_init 21 = .ok (.bipush 26, 2) := by decide +kernel
theorem dX3_init_23 : decode cX3_init 23 = .ok (.newarray .int, 2) := by decide +kernel
theorem dX3_init_25 : decode cX3_init 25 = .ok (.putfield 18, 3) := by decide +kernel
theorem dX3_init_28 : decode cX3_init 28 = .ok (.aload_n 0, 1) := by decide +kernel
theorem dX3_init_29 : decode cX3_init 29 = .ok (.bipush 26, 2) := by decide +kernel
theorem dX3_init_31 : decode cX3_init 31 = .ok (.newarray .int, 2) := by decide +kernel
theorem dX3_init_33 : decode cX3_init 33 = .ok (.putfield 21, 3) := by decide +kernel
theorem dX3_init_36 : decode cX3_init 36 = .ok (.aload_n 0, 1) := by decide +kernel
theorem dX3_init_37 : decode cX3_init 37 = .ok (.bipush 26, 2) := by decide +kernel
theorem dX3_init_39 : decode cX3_init 39 = .ok (.newarray .int, 2) := by decide +kernel
theorem dX3_init_41 : decode cX3_init 41 = .ok (.putfield 24, 3) := by decide +kernel
theorem dX3_init_44 : decode cX3_init 44 = .ok (.return_, 1) := by decide +kernel
theorem dX3_takeReadsOf_0 : decode cX3_takeReadsOf 0 = .ok (.iconst 0, 1) := by decide +kernel
theorem dX3_takeReadsOf_1 : decode cX3_takeReadsOf 1 = .ok (.istore_n 2, 1) := by decide +kernel
theorem dX3_takeReadsOf_2 : decode cX3_takeReadsOf 2 = .ok (.iload_n 2, 1) := by decide +kernel
theorem dX3_takeReadsOf_3 : decode cX3_takeReadsOf 3 = .ok (.aload_n 1, 1) := by decide +kernel
theorem dX3_takeReadsOf_4 : decode cX3_takeReadsOf 4 = .ok (.getfield 27, 3) := by decide +kernel
theorem dX3_takeReadsOf_7 : decode cX3_takeReadsOf 7 = .ok (.if_icmp .ge 37, 3) := by decide +kernel
theorem dX3_takeReadsOf_10 : decode cX3_takeReadsOf 10 = .ok (.iload_n 2, 1) := by decide +kernel
theorem dX3_takeReadsOf_11 : decode cX3_takeReadsOf 11 = .ok (.bipush 26, 2) := by decide +kernel
theorem dX3_takeReadsOf_13 : decode cX3_takeReadsOf 13 = .ok (.if_icmp .ge 31, 3) := by decide +kernel
theorem dX3_takeReadsOf_16 : decode cX3_takeReadsOf 16 = .ok (.aload_n 0, 1) := by decide +kernel
theorem dX3_takeReadsOf_17 : decode cX3_takeReadsOf 17 = .ok (.aload_n 1, 1) := by decide +kernel
theorem dX3_takeReadsOf_18 : decode cX3_takeReadsOf 18 = .ok (.getfield 9, 3) := by decide +kernel
theorem dX3_takeReadsOf_21 : decode cX3_takeReadsOf 21 = .ok (.iload_n 2, 1) := by decide +kernel
theorem dX3_takeReadsOf_22 : decode cX3_takeReadsOf 22 = .ok (.iaload, 1) := by decide +kernel
theorem dX3_takeReadsOf_23 : decode cX3_takeReadsOf 23 = .ok (.aload_n 1, 1) := by decide +kernel
theorem dX3_takeReadsOf_24 : decode cX3_takeReadsOf 24 = .ok (.getfield 15, 3) := by decide +kernel
theorem dX3_takeReadsOf_27 : decode cX3_takeReadsOf 27 = .ok (.iload_n 2, 1) := by decide +kernel
theorem dX3_takeReadsOf_28 : decode cX3_takeReadsOf 28 = .ok (.iaload, 1) := by decide +kernel
theorem dX3_takeReadsOf_29 : decode cX3_takeReadsOf 29 = .ok (.aload_n 1, 1) := by decide +kernel
theorem dX3_takeReadsOf_30 : decode cX3_takeReadsOf 30 = .ok (.getfield 18, 3) := by decide +kernel
theorem dX3_takeReadsOf_33 : decode cX3_takeReadsOf 33 = .ok (.iload_n 2, 1) := by decide +kernel
theorem dX3_takeReadsOf_34 : decode cX3_takeReadsOf 34 = .ok (.iaload, 1) := by decide +kernel
theorem dX3_takeReadsOf_35 : decode cX3_takeReadsOf 35 = .ok (.invokevirtual 37, 3) := by decide +kernel
theorem dX3_takeReadsOf_38 : decode cX3_takeReadsOf 38 = .ok (.iinc 2 1, 3) := by decide +kernel
theorem dX3_takeReadsOf_41 : decode cX3_takeReadsOf 41 = .ok (.goto (-39), 3) := by decide +kernel
theorem dX3_takeReadsOf_44 : decode cX3_takeReadsOf 44 = .ok (.aload_n 1, 1) := by decide +kernel
theorem dX3_takeReadsOf_45 : decode cX3_takeReadsOf 45 = .ok (.invokevirtual 41, 3) := by decide +kernel
theorem dX3_takeReadsOf_48 : decode cX3_takeReadsOf 48 = .ok (.return_, 1) := by decide +kernel
theorem dX3_wrote_0 : decode cX3_wrote 0 = .ok (.iload_n 1, 1) := by decide +kernel
theorem dX3_wrote_1 : decode cX3_wrote 1 = .ok (.ifCond .lt 24, 3) := by decide +kernel
theorem dX3_wrote_4 : decode cX3_wrote 4 = .ok (.iload_n 1, 1) := by decide +kernel
theorem dX3_wrote_5 : decode cX3_wrote 5 = .ok (.bipush 26, 2) := by decide +kernel
theorem dX3_wrote_7 : decode cX3_wrote 7 = .ok (.if_icmp .ge 18, 3) := by decide +kernel
theorem dX3_wrote_10 : decode cX3_wrote 10 = .ok (.aload_n 0, 1) := by decide +kernel
theorem dX3_wrote_11 : decode cX3_wrote 11 = .ok (.getfield 34, 3) := by decide +kernel
theorem dX3_wrote_14 : decode cX3_wrote 14 = .ok (.iload_n 1, 1) := by decide +kernel
theorem dX3_wrote_15 : decode cX3_wrote 15 = .ok (.ishr, 1) := by decide +kernel
theorem dX3_wrote_16 : decode cX3_wrote 16 = .ok (.iconst 1, 1) := by decide +kernel
theorem dX3_wrote_17 : decode cX3_wrote 17 = .ok (.iand, 1) := by decide +kernel
theorem dX3_wrote_18 : decode cX3_wrote 18 = .ok (.ifCond .eq 7, 3) := by decide +kernel
theorem dX3_wrote_21 : decode cX3_wrote 21 = .ok (.iconst 1, 1) := by decide +kernel
theorem dX3_wrote_22 : decode cX3_wrote 22 = .ok (.goto 4, 3) := by decide +kernel
theorem dX3_wrote_25 : decode cX3_wrote 25 = .ok (.iconst 0, 1) := by decide +kernel
theorem dX3_wrote_26 : decode cX3_wrote 26 = .ok (.ireturn, 1) := by decide +kernel
