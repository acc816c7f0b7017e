theorem dX6_addRead_0 : decode cX6_addRead 0 = .ok (.aload_n 0, 1) := by decide +kernel
theorem dX6_addRead_1 : decode cX6_addRead 1 = .ok (.aload_n 0, 1) := by decide +kernel
theorem dX6_addRead_2 : decode cX6_addRead 2 = .ok (.getfield 15, 3) := by decide +kernel
theorem dX6_addRead_5 : decode cX6_addRead 5 = .ok (.aload_n 0, 1) := by decide +kernel
theorem dX6_addRead_6 : decode cX6_addRead 6 = .ok (.getfield 29, 3) := by decide +kernel
theorem dX6_addRead_9 : decode cX6_addRead 9 = .ok (.aload_n 0, 1) := by decide +kernel
theorem dX6_addRead_10 : decode cX6_addRead 10 = .ok (.getfield 32, 3) := by decide +kernel
theorem dX6_addRead_13 : decode cX6_addRead 13 = .ok (.iload_n 1, 1) := by decide +kernel
theorem dX6_addRead_14 : decode cX6_addRead 14 = .ok (.iload_n 2, 1) := by decide +kernel
theorem dX6_addRead_15 : decode cX6_addRead 15 = .ok (.invokevirtual 49, 3) := by decide +kernel
theorem dX6_addRead_18 : decode cX6_addRead 18 = .ok (.return_, 1) := by decide +kernel
theorem dX6_addWrite_0 : decode cX6_addWrite 0 = .ok (.aload_n 0, 1) := by decide +kernel
theorem dX6_addWrite_1 : decode cX6_addWrite 1 = .ok (.aload_n 0, 1) := by decide +kernel
theorem dX6_addWrite_2 : decode cX6_addWrite 2 = .ok (.getfield 18, 3) := by decide +kernel
theorem dX6_addWrite_5 : decode cX6_addWrite 5 = .ok (.aload_n 0, 1) := by decide +kernel
theorem dX6_addWrite_6 : decode cX6_addWrite 6 = .ok (.getfield 35, 3) := by decide +kernel
theorem dX6_addWrite_9 : decode cX6_addWrite 9 = .ok (.aload_n 0, 1) := by decide +kernel
theorem dX6_addWrite_10 : decode cX6_addWrite 10 = .ok (.getfield 38, 3) := by decide +kernel
theorem dX6_addWrite_13 : decode cX6_addWrite 13 = .ok (.iload_n 1, 1) := by decide +kernel
theorem dX6_addWrite_14 : decode cX6_addWrite 14 = .ok (.iload_n 2, 1) := by decide +kernel
theorem dX6_addWrite_15 : decode cX6_addWrite 15 = .ok (.invokevirtual 49, 3) := by decide +kernel
theorem dX6_addWrite_18 : decode cX6_addWrite 18 = .ok (.return_, 1) := by decide +kernel
theorem dX6_apply_0 : decode cX6_apply 0 = .ok (.iload_n 1, 1) := by decide +kernel
theorem dX6_apply_1 : decode cX6_apply 1 = .ok (.ifCond .lt 9, 3) := by decide +kernel
theorem dX6_apply_4 : decode cX6_apply 4 = .ok (.iload_n 1, 1) := by decide +kernel
theorem dX6_apply_5 : decode cX6_apply 5 = .ok (.bipush 14, 2) := by decide +kernel
theorem dX6_apply_7 : decode cX6_apply 7 = .ok (.if_icmp .lt 4, 3) := by decide +kernel
theorem dX6_apply_10 : decode cX6_apply 10 = .ok (.return_, 1) := by decide +kernel
theorem dX6_apply_11 : decode cX6_apply 11 = .ok (.iconst 0, 1) := by decide +kernel
theorem dX6_apply_12 : decode cX6_apply 12 = .ok (.istore_n 3, 1) := by decide +kernel
theorem dX6_apply_13 : decode cX6_apply 13 = .ok (.iload_n 3, 1) := by decide +kernel
theorem dX6_apply_14 : decode cX6_apply 14 = .ok (.aload_n 0, 1) := by decide +kernel
theorem dX6_apply_15 : decode cX6_apply 15 = .ok (.getfield 18, 3) := by decide +kernel
theorem dX6_apply_18 : decode cX6_apply 18 = .ok (.iload_n 1, 1) := by decide +kernel
theorem dX6_apply_19 : decode cX6_apply 19 = .ok (.iaload, 1) := by decide +kernel
theorem dX6_apply_20 : decode cX6_apply 20 = .ok (.if_icmp .ge 49, 3) := by decide +kernel
theorem dX6_apply_23 : decode cX6_apply 23 = .ok (.iload_n 3, 1) := by decide +kernel
theorem dX6_apply_24 : decode cX6_apply 24 = .ok (.bipush 26, 2) := by decide +kernel
theorem dX6_apply_26 : decode cX6_apply 26 = .ok (.if_icmp .ge 43, 3) := by decide +kernel
theorem dX6_apply_29 : decode cX6_apply 29 = .ok (.aload_n 0, 1) := by decide +kernel
theorem dX6_apply_30 : decode cX6_apply 30 = .ok (.getfield 35, 3) := by decide +kernel
theorem dX6_apply_33 : decode cX6_apply 33 = .ok (.iload_n 1, 1) := by decide +kernel
theorem dX6_apply_34 : decode cX6_apply 34 = .ok (.aaload, 1) := by decide +kernel
theorem dX6_apply_35 : decode cX6_apply 35 = .ok (.iload_n 3, 1) := by decide +kernel
theorem dX6_apply_36 : decode cX6_apply 36 = .ok (.iaload, 1) := by decide +kernel
theorem dX6_apply_37 : decode cX6_apply 37 = .ok (.istore 4, 2) := by decide +kernel
theorem dX6_apply_39 : decode cX6_apply 39 = .ok (.iload 4, 2) := by decide +kernel
theorem dX6_apply_41 : decode cX6_apply 41 = .ok (.ifCond .lt 22, 3) := by decide +kernel
theorem dX6_apply_44 : decode cX6_apply 44 = .ok (.iload 4, 2) := by decide +kernel
theorem dX6_apply_46 : decode cX6_apply 46 = .ok (.aload_n 2, 1) := by decide +kernel
theorem dX6_apply_47 : decode cX6_apply 47 = .ok (.arraylength, 1) := by decide +kernel
theorem dX6_apply_48 : decode cX6_apply 48 = .ok (.if_icmp .ge 15, 3) := by decide +kernel
theorem dX6_apply_51 : decode cX6_apply 51 = .ok (.aload_n 2, 1) := by decide +kernel
theorem dX6_apply_52 : decode cX6_apply 52 = .ok (.iload 4, 2) := by decide +kernel
theorem dX6_apply_54 : decode cX6_apply 54 = .ok (.aload_n 0, 1) := by decide +kernel
theorem dX6_apply_55 : decode cX6_apply 55 = .ok (.getfield 38, 3) := by decide +kernel
theorem dX6_apply_58 : decode cX6_apply 58 = .ok (.iload_n 1, 1) := by decide +kernel
theorem dX6_apply_59 : decode cX6_apply 59 = .ok (.aaload, 1) := by decide +kernel
theorem dX6_apply_60 : decode cX6_apply 60 = .ok (.iload_n 3, 1) := by decide +kernel
theorem dX6_apply_61 : decode cX6_apply 61 = .ok (.iaload, 1) := by decide +kernel
theorem dX6_apply_62 : decode cX6_apply 62 = .ok (.iastore, 1) := by decide +kernel
theorem dX6_apply_63 : decode cX6_apply 63 = .ok (.iinc 3 1, 3) := by decide +kernel
theorem dX6_apply_66 : decode cX6_apply 66 = .ok (.goto (-53), 3) := by decide +kernel
theorem dX6_apply_69 : decode cX6_apply 69 = .ok (.return_, 1) := by decide +kernel
theorem dX6_begin_0 : decode cX6_begin 0 = .ok (.aload_n 0, 1) := by decide +kernel
theorem dX6_begin_1 : decode cX6_begin 1 = .ok (.aload_n 0, 1) := by decide +kernel
theorem dX6_begin_2 : decode cX6_begin 2 = .ok (.getfield 41, 3) := by decide +kernel
theorem dX6_begin_5 : decode cX6_begin 5 = .ok (.ifCond .lt 17, 3) := by decide +kernel
theorem dX6_begin_8 : decode cX6_begin 8 = .ok (.aload_n 0, 1) := by decide +kernel
theorem dX6_begin_9 : decode cX6_begin 9 = .ok (.getfield 41, 3) := by decide +kernel
theorem dX6_begin_12 : decode cX6_begin 12 = .ok (.sipush 300, 3) := by decide +kernel
theorem dX6_begin_15 : decode cX6_begin 15 = .ok (.if_icmp .ge 7, 3) := by decide +kernel
theorem dX6_begin_18 : decode cX6_begin 18 = .ok (.iconst 1, 1) := by decide +kernel
theorem dX6_begin_19 : decode cX6_begin 19 = .ok (.goto 4, 3) := by decide +kernel
theorem dX6_begin_22 : decode cX6_begin 22 = .ok (.iconst 0, 1) := by decide +kernel
theorem dX6_begin_23 : decode cX6_begin 23 = .ok (.putfield 45, 3) := by decide +kernel
theorem dX6_begin_26 : decode cX6_begin 26 = .ok (.aload_n 0, 1) := by decide +kernel
theorem dX6_begin_27 : decode cX6_begin 27 = .ok (.getfield 45, 3) := by decide +kernel
theorem dX6_begin_30 : decode cX6_begin 30 = .ok (.ifCond .eq 63, 3) := by decide +kernel
theorem dX6_begin_33 : decode cX6_begin 33 = .ok (.aload_n 0, 1) := by decide +kernel
theorem dX6_begin_34 : decode cX6_begin 34 = .ok (.getfield 9, 3) := by decide +kernel
theorem dX6_begin_37 : decode cX6_begin 37 = .ok (.aload_n 0, 1) := by decide +kernel
theorem dX6_begin_38 : decode cX6_begin 38 = .ok (.getfield 41, 3) := by decide +kernel
theorem dX6_begin_41 : decode cX6_begin 41 = .ok (.iload_n 1, 1) := by decide +kernel
theorem dX6_begin_42 : decode cX6_begin 42 = .ok (.iastore, 1) := by decide +kernel
theorem dX6_begin_43 : decode cX6_begin 43 = .ok (.aload_n 0, 1) := by decide +kernel
theorem dX6_begin_44 : decode cX6_begin 44 = .ok (.getfield 21, 3) := by decide +kernel
theorem dX6_begin_47 : decode cX6_begin 47 = .ok (.aload_n 0, 1) := by decide +kernel
theorem dX6_begin_48 : decode cX6_begin 48 = .ok (.getfield 41, 3) := by decide +kernel
theorem dX6_begin_51 : decode cX6_begin 51 = .ok (.iload_n 2, 1) := by decide +kernel
theorem dX6_begin_52 : decode cX6_begin 52 = .ok (.iastore, 1) := by decide +kernel
theorem dX6_begin_53 : decode cX6_begin 53 = .ok (.aload_n 0, 1) := by decide +kernel
theorem dX6_begin_54 : decode cX6_begin 54 = .ok (.getfield 24, 3) := by decide +kernel
theorem dX6_begin_57 : decode cX6_begin 57 = .ok (.aload_n 0, 1) := by decide +kernel
theorem dX6_begin_58 : decode cX6_begin 58 = .ok (.getfield 41, 3) := by decide +kernel
theorem dX6_begin_61 : decode cX6_begin 61 = .ok (.iload_n 3, 1) := by decide +kernel
theorem dX6_begin_62 : decode cX6_begin 62 = .ok (.iastore, 1) := by decide +kernel
theorem dX6_begin_63 : decode cX6_begin 63 = .ok (.aload_n 0, 1) := by decide +kernel
theorem dX6_begin_64 : decode cX6_begin 64 = .ok (.getfield 15, 3) := by decide +kernel
theorem dX6_begin_67 : decode cX6_begin 67 = .ok (.aload_n 0, 1) := by decide +kernel
theorem dX6_begin_68 : decode cX6_begin 68 = .ok (.getfield 41, 3) := by decide +kernel
theorem dX6_begin_71 : decode cX6_begin 71 = .ok (.iconst 0, 1) := by decide +kernel
theorem dX6_begin_72 : decode cX6_begin 72 = .ok (.iastore, 1) := by decide +kernel
theorem dX6_begin_73 : decode cX6_begin 73 = .ok (.aload_n 0, 1) := by decide +kernel
theorem dX6_begin_74 : decode cX6_begin 74 = .ok (.getfield 18, 3) := by decide +kernel
theorem dX6_begin_77 : decode cX6_begin 77 = .ok (.aload_n 0, 1) := by decide +kernel
theorem dX6_begin_78 : decode cX6_begin 78 = .ok (.getfield 41, 3) := by decide +kernel
theorem dX6_begin_81 : decode cX6_begin 81 = .ok (.iconst 0, 1) := by decide +kernel
theorem dX6_begin_82 : decode cX6_begin 82 = .ok (.iastore, 1) := by decide +kernel
theorem dX6_begin_83 : decode cX6_begin 83 = .ok (.aload_n 0, 1) := by decide +kernel
theorem dX6_begin_84 : decode cX6_begin 84 = .ok (.dup, 1) := by decide +kernel
theorem dX6_begin_85 : decode cX6_begin 85 = .ok (.getfield 41, 3) := by decide +kernel
theorem dX6_begin_88 : decode cX6_begin 88 = .ok (.iconst 1, 1) := by decide +kernel
theorem dX6_begin_89 : decode cX6_begin 89 = .ok (.iadd, 1) := by decide +kernel
theorem dX6_begin_90 : decode cX6_begin 90 = .ok (.putfield 41, 3) := by decide +kernel
theorem dX6_begin_93 : decode cX6_begin 93 = .ok (.return_, 1) := by decide +kernel
theorem dX6_clear_0 : decode cX6_clear 0 = .ok (.aload_n 0, 1) := by decide +kernel
theorem dX6_clear_1 : decode cX6_clear 1 = .ok (.iconst 0, 1) := by decide +kernel
theorem dX6_clear_2 : decode cX6_clear 2 = .ok (.putfield 41, 3) := by decide +kernel
theorem dX6_clear_5 : decode cX6_clear 5 = .ok (.aload_n 0, 1) := by decide +kernel
theorem dX6_clear_6 : decode cX6_clear 6 = .ok (.iconst 0, 1) := by decide +kernel
theorem dX6_clear_7 : decode cX6_clear 7 = .ok (.putfield 45, 3) := by decide +kernel
theorem dX6_clear_10 : decode cX6_clear 10 = .ok (.return_, 1) := by decide +kernel
theorem dX6_init_0 : decode cX6_init 0 = .ok (.aload_n 0, 1) := by decide +kernel
theorem dX6_init_1 : decode cX6_init 1 = .ok (.invokespecial 3, 3) := by decide +kernel
theorem dX6_init_4 : decode cX6_init 4 = .ok (.aload_n 0, 1) := by decide +kernel
theorem dX6_init_5 : decode cX6_init 5 = .ok (.sipush 300, 3) := by decide +kernel
theorem dX6_init_8 : decode cX6_init 8 = .ok (.newarray .int, 2) := by decide +kernel
theorem dX6_init_10 : decode cX6_init 10 = .ok (.putfield 9, 3) := by decide +kernel
theorem dX6_init_13 : decode cX6_init 13 = .ok (.aload_n 0, 1) := by decide +kernel
theorem dX6_init_14 : decode cX6_init 14 = .ok (.sipush 300, 3) := by decide +kernel
theorem dX6_init_17 : decode cX6_init 17 = .ok (.newarray .int, 2) := by decide +kernel
theorem dX6_init_19 : decode cX6_init 19 = .ok (.putfield 15, 3) := by decide +kernel
theorem dX6_init_22 : decode cX6_init 22 = .ok (.aload_n 0, 1) := by decide +kernel
theorem dX6_init_23 : decode cX6_init 23 = .ok (.sipush 300, 3) := by decide +kernel
theorem dX6_init_26 : decode cX6_init 26 = .ok (.newarray .int, 2) := by decide +kernel
theorem dX6_init_28 : decode cX6_init 28 = .ok (.putfield 18, 3) := by decide +kernel
theorem dX6_init_31 : decode cX6_init 31 = .ok (.aload_n 0, 1) := by decide +kernel
theorem dX6_init_32 : decode cX6_init 32 = .ok (.sipush 300, 3) := by decide +kernel
theorem dX6_init_35 : decode cX6_init 35 = .ok (.newarray .int, 2) := by decide +kernel
theorem dX6_init_37 : decode cX6_init 37 = .ok (.putfield 21, 3) := by decide +kernel
theorem dX6_init_40 : decode cX6_init 40 = .ok (.aload_n 0, 1) := by decide +kernel
theorem dX6_init_41 : decode cX6_init 41 = .ok (.sipush 300, 3) := by decide +kernel
theorem dX6_init_44 : decode cX6_init 44 = .ok (.newarray .int, 2) := by decide +kernel
theorem dX6_init_46 : decode cX6_init 46 = .ok (.putfield 24, 3) := by decide +kernel
theorem dX6_init_49 : decode cX6_init 49 = .ok (.aload_n 0, 1) := by decide +kernel
theorem dX6_init_50 : decode cX6_init 50 = .ok (.bipush 14, 2) := by decide +kernel
theorem dX6_init_52 : decode cX6_init 52 = .ok (.bipush 26, 2) := by decide +kernel
theorem dX6_init_54 : decode cX6_init 54 = .ok (.multianewarray 27 2, 4) := by decide +kernel
theorem dX6_init_58 : decode cX6_init 58 = .ok (.putfield 29, 3) := by decide +kernel
theorem dX6_init_61 : decode cX6_init 61 = .ok (.aload_n 0, 1) := by decide +kernel
theorem dX6_init_62 : decode cX6_init 62 = .ok (.bipush 14, 2) := by decide +kernel
theorem dX6_init_64 : decode cX6_init 64 = .ok (.bipush 26, 2) := by decide +kernel
theorem dX6_init_66 : decode cX6_init 66 = .ok (.multianewarray 27 2, 4) := by decide +kernel
theorem dX6_init_70 : decode cX6_init 70 = .ok (.putfield 32, 3) := by decide +kernel
theorem dX6_init_73 : decode cX6_init 73 = .ok (.aload_n 0, 1) := by decide +kernel
theorem dX6_init_74 : decode cX6_init 74 = .ok (.bipush 14, 2) := by decide +kernel
theorem dX6_init_76 : decode cX6_init 76 = .ok (.bipush 26, 2) := by decide +kernel
theorem dX6_init_78 : decode cX6_init 78 = .ok (.multianewarray 27 2, 4) := by decide +kernel
theorem dX6_init_82 : decode cX6_init 82 = .ok (.putfield 35, 3) := by decide +kernel
theorem dX6_init_85 : decode cX6_init 85 = .ok (.aload_n 0, 1) := by decide +kernel
theorem dX6_init_86 : decode cX6_init 86 = .ok (.bipush 14, 2) := by decide +kernel
theorem dX6_init_88 : decode cX6_init 88 = .ok (.bipush 26, 2) := by decide +kernel
theorem dX6_init_90 : decode cX6_init 90 = .ok (.multianewarray 27 2, 4) := by decide +kernel
theorem dX6_init_94 : decode cX6_init 94 = .ok (.putfield 38, 3) := by decide +kernel
theorem dX6_init_97 : decode cX6_init 97 = .ok (.return_, 1) := by decide +kernel
theorem dX6_isAhead_0 : decode cX6_isAhead 0 = .ok (.iload_n 1, 1) := by decide +kernel
theorem dX6_isAhead_1 : decode cX6_isAhead 1 = .ok (.ifCond .lt 40, 3) := by decide +kernel
theorem dX6_isAhead_4 : decode cX6_isAhead 4 = .ok (.iload_n 1, 1) := by decide +kernel
theorem dX6_isAhead_5 : decode cX6_isAhead 5 = .ok (.sipush 300, 3) := by decide +kernel
theorem dX6_isAhead_8 : decode cX6_isAhead 8 = .ok (.if_icmp .ge 33, 3) := by decide +kernel
theorem dX6_isAhead_11 : decode cX6_isAhead 11 = .ok (.iload_n 2, 1) := by decide +kernel
theorem dX6_isAhead_12 : decode cX6_isAhead 12 = .ok (.ifCond .lt 29, 3) := by decide +kernel
theorem dX6_isAhead_15 : decode cX6_isAhead 15 = .ok (.iload_n 2, 1) := by decide +kernel
theorem dX6_isAhead_16 : decode cX6_isAhead 16 = .ok (.sipush 300, 3) := by decide +kernel
theorem dX6_isAhead_19 : decode cX6_isAhead 19 = .ok (.if_icmp .ge 22, 3) := by decide +kernel
theorem dX6_isAhead_22 : decode cX6_isAhead 22 = .ok (.aload_n 0, 1) := by decide +kernel
theorem dX6_isAhead_23 : decode cX6_isAhead 23 = .ok (.getfield 24, 3) := by decide +kernel
theorem dX6_isAhead_26 : decode cX6_isAhead 26 = .ok (.iload_n 1, 1) := by decide +kernel
theorem dX6_isAhead_27 : decode cX6_isAhead 27 = .ok (.iaload, 1) := by decide +kernel
theorem dX6_isAhead_28 : decode cX6_isAhead 28 = .ok (.aload_n 0, 1) := by decide +kernel
theorem dX6_isAhead_29 : decode cX6_isAhead 29 = .ok (.getfield 21, 3) := by decide +kernel
theorem dX6_isAhead_32 : decode cX6_isAhead 32 = .ok (.iload_n 2, 1) := by decide +kernel
theorem dX6_isAhead_33 : decode cX6_isAhead 33 = .ok (.iaload, 1) := by decide +kernel
theorem dX6_isAhead_34 : decode cX6_isAhead 34 = .ok (.if_icmp .ge 7, 3) := by decide +kernel
theorem dX6_isAhead_37 : decode cX6_isAhead 37 = .ok (.iconst 1, 1) := by decide +kernel
theorem dX6_isAhead_38 : decode cX6_isAhead 38 = .ok (.goto 4, 3) := by decide +kernel
theorem dX6_isAhead_41 : decode cX6_isAhead 41 = .ok (.iconst 0, 1) := by decide +kernel
theorem dX6_isAhead_42 : decode cX6_isAhead 42 = .ok (.ireturn, 1) := by decide +kernel
theorem dX6_note_0 : decode cX6_note 0 = .ok (.aload_n 0, 1) := by decide +kernel
theorem dX6_note_1 : decode cX6_note 1 = .ok (.getfield 41, 3) := by decide +kernel
theorem dX6_note_4 : decode cX6_note 4 = .ok (.iconst 1, 1) := by decide +kernel
theorem dX6_note_5 : decode cX6_note 5 = .ok (.isub, 1) := by decide +kernel
theorem dX6_note_6 : decode cX6_note 6 = .ok (.istore 6, 2) := by decide +kernel
theorem dX6_note_8 : decode cX6_note 8 = .ok (.aload_n 0, 1) := by decide +kernel
theorem dX6_note_9 : decode cX6_note 9 = .ok (.getfield 45, 3) := by decide +kernel
theorem dX6_note_12 : decode cX6_note 12 = .ok (.ifCond .eq 23, 3) := by decide +kernel
theorem dX6_note_15 : decode cX6_note 15 = .ok (.iload 6, 2) := by decide +kernel
theorem dX6_note_17 : decode cX6_note 17 = .ok (.ifCond .lt 18, 3) := by decide +kernel
theorem dX6_note_20 : decode cX6_note 20 = .ok (.iload 6, 2) := by decide +kernel
theorem dX6_note_22 : decode cX6_note 22 = .ok (.sipush 300, 3) := by decide +kernel
theorem dX6_note_25 : decode cX6_note 25 = .ok (.if_icmp .ge 10, 3) := by decide +kernel
theorem dX6_note_28 : decode cX6_note 28 = .ok (.iload 6, 2) := by decide +kernel
theorem dX6_note_30 : decode cX6_note 30 = .ok (.aload_n 1, 1) := by decide +kernel
theorem dX6_note_31 : decode cX6_note 31 = .ok (.arraylength, 1) := by decide +kernel
theorem dX6_note_32 : decode cX6_note 32 = .ok (.if_icmp .lt 4, 3) := by decide +kernel
theorem dX6_note_35 : decode cX6_note 35 = .ok (.return_, 1) := by decide +kernel
theorem dX6_note_36 : decode cX6_note 36 = .ok (.aload_n 1, 1) := by decide +kernel
theorem dX6_note_37 : decode cX6_note 37 = .ok (.iload 6, 2) := by decide +kernel
theorem dX6_note_39 : decode cX6_note 39 = .ok (.iaload, 1) := by decide +kernel
theorem dX6_note_40 : decode cX6_note 40 = .ok (.istore 7, 2) := by decide +kernel
theorem dX6_note_42 : decode cX6_note 42 = .ok (.iload 6, 2) := by decide +kernel
theorem dX6_note_44 : decode cX6_note 44 = .ok (.bipush 14, 2) := by decide +kernel
theorem dX6_note_46 : decode cX6_note 46 = .ok (.if_icmp .ge 47, 3) := by decide +kernel
theorem dX6_note_49 : decode cX6_note 49 = .ok (.iload 6, 2) := by decide +kernel
theorem dX6_note_51 : decode cX6_note 51 = .ok (.aload_n 2, 1) := by decide +kernel
theorem dX6_note_52 : decode cX6_note 52 = .ok (.arraylength, 1) := by decide +kernel
theorem dX6_note_53 : decode cX6_note 53 = .ok (.if_icmp .ge 40, 3) := by decide +kernel
theorem dX6_note_56 : decode cX6_note 56 = .ok (.iload 6, 2) := by decide +kernel
theorem dX6_note_58 : decode cX6_note 58 = .ok (.aload_n 3, 1) := by decide +kernel
theorem dX6_note_59 : decode cX6_note 59 = .ok (.arraylength, 1) := by decide +kernel
theorem dX6_note_60 : decode cX6_note 60 = .ok (.if_icmp .ge 33, 3) := by decide +kernel
theorem dX6_note_63 : decode cX6_note 63 = .ok (.iload 7, 2) := by decide +kernel
theorem dX6_note_65 : decode cX6_note 65 = .ok (.ifCond .lt 28, 3) := by decide +kernel
theorem dX6_note_68 : decode cX6_note 68 = .ok (.iload 7, 2) := by decide +kernel
theorem dX6_note_70 : decode cX6_note 70 = .ok (.bipush 26, 2) := by decide +kernel
theorem dX6_note_72 : decode cX6_note 72 = .ok (.if_icmp .ge 21, 3) := by decide +kernel
theorem dX6_note_75 : decode cX6_note 75 = .ok (.aload_n 2, 1) := by decide +kernel
theorem dX6_note_76 : decode cX6_note 76 = .ok (.iload 6, 2) := by decide +kernel
theorem dX6_note_78 : decode cX6_note 78 = .ok (.aaload, 1) := by decide +kernel
theorem dX6_note_79 : decode cX6_note 79 = .ok (.iload 7, 2) := by decide +kernel
theorem dX6_note_81 : decode cX6_note 81 = .ok (.iload 4, 2) := by decide +kernel
theorem dX6_note_83 : decode cX6_note 83 = .ok (.iastore, 1) := by decide +kernel
theorem dX6_note_84 : decode cX6_note 84 = .ok (.aload_n 3, 1) := by decide +kernel
theorem dX6_note_85 : decode cX6_note 85 = .ok (.iload 6, 2) := by decide +kernel
theorem dX6_note_87 : decode cX6_note 87 = .ok (.aaload, 1) := by decide +kernel
theorem dX6_note_88 : decode cX6_note 88 = .ok (.iload 7, 2) := by decide +kernel
theorem dX6_note_90 : decode cX6_note 90 = .ok (.iload 5, 2) := by decide +kernel
theorem dX6_note_92 : decode cX6_note 92 = .ok (.iastore, 1) := by decide +kernel
theorem dX6_note_93 : decode cX6_note 93 = .ok (.aload_n 1, 1) := by decide +kernel
theorem dX6_note_94 : decode cX6_note 94 = .ok (.iload 6, 2) := by decide +kernel
theorem dX6_note_96 : decode cX6_note 96 = .ok (.iload 7, 2) := by decide +kernel
theorem dX6_note_98 : decode cX6_note 98 = .ok (.iconst 1, 1) := by decide +kernel
theorem dX6_note_99 : decode cX6_note 99 = .ok (.iadd, 1) := by decide +kernel
theorem dX6_note_100 : decode cX6_note 100 = .ok (.iastore, 1) := by decide +kernel
theorem dX6_note_101 : decode cX6_note 101 = .ok (.return_, 1) := by decide +kernel
theorem dX6_readsAreRight_0 : decode cX6_readsAreRight 0 = .ok (.iload_n 1, 1) := by decide +kernel
theorem dX6_readsAreRight_1 : decode cX6_readsAreRight 1 = .ok (.ifCond .lt 9, 3) := by decide +kernel
theorem dX6_readsAreRight_4 : decode cX6_readsAreRight 4 = .ok (.iload_n 1, 1) := by decide +kernel
theorem dX6_readsAreRight_5 : decode cX6_readsAreRight 5 = .ok (.bipush 14, 2) := by decide +kernel
theorem dX6_readsAreRight_7 : decode cX6_readsAreRight 7 = .ok (.if_icmp .lt 5, 3) := by decide +kernel
theorem dX6_readsAreRight_10 : decode cX6_readsAreRight 10 = .ok (.iconst 0, 1) := by decide +kernel
theorem dX6_readsAreRight_11 : decode cX6_readsAreRight 11 = .ok (.ireturn, 1) := by decide +kernel
theorem dX6_readsAreRight_12 : decode cX6_readsAreRight 12 = .ok (.iconst 0, 1) := by decide +kernel
theorem dX6_readsAreRight_13 : decode cX6_readsAreRight 13 = .ok (.istore_n 3, 1) := by decide +kernel
theorem dX6_readsAreRight_14 : decode cX6_readsAreRight 14 = .ok (.iload_n 3, 1) := by decide +kernel
theorem dX6_readsAreRight_15 : decode cX6_readsAreRight 15 = .ok (.aload_n 0, 1) := by decide +kernel
theorem dX6_readsAreRight_16 : decode cX6_readsAreRight 16 = .ok (.getfield 15, 3) := by decide +kernel
theorem dX6_readsAreRight_19 : decode cX6_readsAreRight 19 = .ok (.iload_n 1, 1) := by decide +kernel
theorem dX6_readsAreRight_20 : decode cX6_readsAreRight 20 = .ok (.iaload, 1) := by decide +kernel
theorem dX6_readsAreRight_21 : decode cX6_readsAreRight 21 = .ok (.if_icmp .ge 54, 3) := by decide +kernel
theorem dX6_readsAreRight_24 : decode cX6_readsAreRight 24 = .ok (.iload_n 3, 1) := by decide +kernel
theorem dX6_readsAreRight_25 : decode cX6_readsAreRight 25 = .ok (.bipush 26, 2) := by decide +kernel
theorem dX6_readsAreRight_27 : decode cX6_readsAreRight 27 = .ok (.if_icmp .ge 48, 3) := by decide +kernel
theorem dX6_readsAreRight_30 : decode cX6_readsAreRight 30 = .ok (.aload_n 0, 1) := by decide +kernel
theorem dX6_readsAreRight_31 : decode cX6_readsAreRight 31 = .ok (.getfield 29, 3) := by decide +kernel
theorem dX6_readsAreRight_34 : decode cX6_readsAreRight 34 = .ok (.iload_n 1, 1) := by decide +kernel
theorem dX6_readsAreRight_35 : decode cX6_readsAreRight 35 = .ok (.aaload, 1) := by decide +kernel
theorem dX6_readsAreRight_36 : decode cX6_readsAreRight 36 = .ok (.iload_n 3, 1) := by decide +kernel
theorem dX6_readsAreRight_37 : decode cX6_readsAreRight 37 = .ok (.iaload, 1) := by decide +kernel
theorem dX6_readsAreRight_38 : decode cX6_readsAreRight 38 = .ok (.istore 4, 2) := by decide +kernel
theorem dX6_readsAreRight_40 : decode cX6_readsAreRight 40 = .ok (.iload 4, 2) := by decide +kernel
theorem dX6_readsAreRight_42 : decode cX6_readsAreRight 42 = .ok (.ifCond .lt 25, 3) := by decide +kernel
theorem dX6_readsAreRight_45 : decode cX6_readsAreRight 45 = .ok (.iload 4, 2) := by decide +kernel
theorem dX6_readsAreRight_47 : decode cX6_readsAreRight 47 = .ok (.aload_n 2, 1) := by decide +kernel
theorem dX6_readsAreRight_48 : decode cX6_readsAreRight 48 = .ok (.arraylength, 1) := by decide +kernel
theorem dX6_readsAreRight_49 : decode cX6_readsAreRight 49 = .ok (.if_icmp .ge 18, 3) := by decide +kernel
theorem dX6_readsAreRight_52 : decode cX6_readsAreRight 52 = .ok (.aload_n 2, 1) := by decide +kernel
theorem dX6_readsAreRight_53 : decode cX6_readsAreRight 53 = .ok (.iload 4, 2) := by decide +kernel
theorem dX6_readsAreRight_55 : decode cX6_readsAreRight 55 = .ok (.iaload, 1) := by decide +kernel
theorem dX6_readsAreRight_56 : decode cX6_readsAreRight 56 = .ok (.aload_n 0, 1) := by decide +kernel
theorem dX6_readsAreRight_57 : decode cX6_readsAreRight 57 = .ok (.getfield 32, 3) := by decide +kernel
theorem dX6_readsAreRight_60 : decode cX6_readsAreRight 60 = .ok (.iload_n 1, 1) := by decide +kernel
theorem dX6_readsAreRight_61 : decode cX6_readsAreRight 61 = .ok (.aaload, 1) := by decide +kernel
theorem dX6_readsAreRight_62 : decode cX6_readsAreRight 62 = .ok (.iload_n 3, 1) := by decide +kernel
theorem dX6_readsAreRight_63 : decode cX6_readsAreRight 63 = .ok (.iaload, 1) := by decide +kernel
theorem dX6_readsAreRight_64 : decode cX6_readsAreRight 64 = .ok (.if_icmp .eq 5, 3) := by decide +kernel
theorem dX6_readsAreRight_67 : decode cX6_readsAreRight 67 = .ok (.iconst 0, 1) := by decide +kernel
theorem dX6_readsAreRight_68 : decode cX6_readsAreRight 68 = .ok (.ireturn, 1) := by decide +kernel
theorem dX6_readsAreRight_69 : decode cX6_readsAreRight 69 = .ok (.iinc 3 1, 3) := by decide +kernel
theorem dX6_readsAreRight_72 : decode cX6_readsAreRight 72 = .ok (.goto (-58), 3) := by decide +kernel
theorem dX6_readsAreRight_75 : decode cX6_readsAreRight 75 = .ok (.iconst 1, 1) := by decide +kernel
theorem dX6_readsAreRight_76 : decode cX6_readsAreRight 76 = .ok (.ireturn, 1) := by decide +kernel
theorem dX6_tellOf_0 : decode cX6_tellOf 0 = .ok (.iload_n 1, 1) := by decide +kernel
theorem dX6_tellOf_1 : decode cX6_tellOf 1 = .ok (.ifCond .lt 10, 3) := by decide +kernel
theorem dX6_tellOf_4 : decode cX6_tellOf 4 = .ok (.iload_n 1, 1) := by decide +kernel
theorem dX6_tellOf_5 : decode cX6_tellOf 5 = .ok (.sipush 300, 3) := by decide +kernel
theorem dX6_tellOf_8 : decode cX6_tellOf 8 = .ok (.if_icmp .lt 5, 3) := by decide +kernel
theorem dX6_tellOf_11 : decode cX6_tellOf 11 = .ok (.iconst 0, 1) := by decide +kernel
theorem dX6_tellOf_12 : decode cX6_tellOf 12 = .ok (.ireturn, 1) := by decide +kernel
theorem dX6_tellOf_13 : decode cX6_tellOf 13 = .ok (.iload_n 2, 1) := by decide +kernel
theorem dX6_tellOf_14 : decode cX6_tellOf 14 = .ok (.tableswitch 58 0 3 #[30, 37, 44, 51], 30) := by decide +kernel
theorem dX6_tellOf_44 : decode cX6_tellOf 44 = .ok (.aload_n 0, 1) := by decide +kernel
theorem dX6_tellOf_45 : decode cX6_tellOf 45 = .ok (.getfield 9, 3) := by decide +kernel
theorem dX6_tellOf_48 : decode cX6_tellOf 48 = .ok (.iload_n 1, 1) := by decide +kernel
theorem dX6_tellOf_49 : decode cX6_tellOf 49 = .ok (.iaload, 1) := by decide +kernel
theorem dX6_tellOf_50 : decode cX6_tellOf 50 = .ok (.ireturn, 1) := by decide +kernel
theorem dX6_tellOf_51 : decode cX6_tellOf 51 = .ok (.aload_n 0, 1) := by decide +kernel
theorem dX6_tellOf_52 : decode cX6_tellOf 52 = .ok (.getfield 15, 3) := by decide +kernel
theorem dX6_tellOf_55 : decode cX6_tellOf 55 = .ok (.iload_n 1, 1) := by decide +kernel
theorem dX6_tellOf_56 : decode cX6_tellOf 56 = .ok (.iaload, 1) := by decide +kernel
theorem dX6_tellOf_57 : decode cX6_tellOf 57 = .ok (.ireturn, 1) := by decide +kernel
theorem dX6_tellOf_58 : decode cX6_tellOf 58 = .ok (.aload_n 0, 1) := by decide +kernel
theorem dX6_tellOf_59 : decode cX6_tellOf 59 = .ok (.getfield 18, 3) := by decide +kernel
theorem dX6_tellOf_62 : decode cX6_tellOf 62 = .ok (.iload_n 1, 1) := by decide +kernel
theorem dX6_tellOf_63 : decode cX6_tellOf 63 = .ok (.iaload, 1) := by decide +kernel
theorem dX6_tellOf_64 : decode cX6_tellOf 64 = .ok (.ireturn, 1) := by decide +kernel
theorem dX6_tellOf_65 : decode cX6_tellOf 65 = .ok (.aload_n 0, 1) := by decide +kernel
theorem dX6_tellOf_66 : decode cX6_tellOf 66 = .ok (.getfield 21, 3) := by decide +kernel
theorem dX6_tellOf_69 : decode cX6_tellOf 69 = .ok (.iload_n 1, 1) := by decide +kernel
theorem dX6_tellOf_70 : decode cX6_tellOf 70 = .ok (.iaload, 1) := by decide +kernel
theorem dX6_tellOf_71 : decode cX6_tellOf 71 = .ok (.ireturn, 1) := by decide +kernel
theorem dX6_tellOf_72 : decode cX6_tellOf 72 = .ok (.aload_n 0, 1) := by decide +kernel
theorem dX6_tellOf_73 : decode cX6_tellOf 73 = .ok (.getfield 24, 3) := by decide +kernel
theorem dX6_tellOf_76 : decode cX6_tellOf 76 = .ok (.iload_n 1, 1) := by decide +kernel
theorem dX6_tellOf_77 : decode cX6_tellOf 77 = .ok (.iaload, 1) := by decide +kernel
theorem dX6_tellOf_78 : decode cX6_tellOf 78 = .ok (.ireturn, 1) := by decide +kernel
