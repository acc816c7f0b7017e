theorem dX12_addRead_0 : decode cX12_addRead 0 = .ok (.aload_n 0, 1) := by decide +kernel
theorem dX12_addRead_1 : decode cX12_addRead 1 = .ok (.iload_n 1, 1) := by decide +kernel
theorem dX12_addRead_2 : decode cX12_addRead 2 = .ok (.aload_n 0, 1) := by decide +kernel
theorem dX12_addRead_3 : decode cX12_addRead 3 = .ok (.getfield 202, 3) := by decide +kernel
theorem dX12_addRead_6 : decode cX12_addRead 6 = .ok (.iload_n 1, 1) := by decide +kernel
theorem dX12_addRead_7 : decode cX12_addRead 7 = .ok (.iaload, 1) := by decide +kernel
theorem dX12_addRead_8 : decode cX12_addRead 8 = .ok (.iconst 1, 1) := by decide +kernel
theorem dX12_addRead_9 : decode cX12_addRead 9 = .ok (.isub, 1) := by decide +kernel
theorem dX12_addRead_10 : decode cX12_addRead 10 = .ok (.iload_n 2, 1) := by decide +kernel
theorem dX12_addRead_11 : decode cX12_addRead 11 = .ok (.invokevirtual 357, 3) := by decide +kernel
theorem dX12_addRead_14 : decode cX12_addRead 14 = .ok (.istore 4, 2) := by decide +kernel
theorem dX12_addRead_16 : decode cX12_addRead 16 = .ok (.aload_n 0, 1) := by decide +kernel
theorem dX12_addRead_17 : decode cX12_addRead 17 = .ok (.getfield 266, 3) := by decide +kernel
theorem dX12_addRead_20 : decode cX12_addRead 20 = .ok (.iload 4, 2) := by decide +kernel
theorem dX12_addRead_22 : decode cX12_addRead 22 = .ok (.baload, 1) := by decide +kernel
theorem dX12_addRead_23 : decode cX12_addRead 23 = .ok (.ifCond .eq 4, 3) := by decide +kernel
theorem dX12_addRead_26 : decode cX12_addRead 26 = .ok (.return_, 1) := by decide +kernel
theorem dX12_addRead_27 : decode cX12_addRead 27 = .ok (.aload_n 0, 1) := by decide +kernel
theorem dX12_addRead_28 : decode cX12_addRead 28 = .ok (.getfield 266, 3) := by decide +kernel
theorem dX12_addRead_31 : decode cX12_addRead 31 = .ok (.iload 4, 2) := by decide +kernel
theorem dX12_addRead_33 : decode cX12_addRead 33 = .ok (.iconst 1, 1) := by decide +kernel
theorem dX12_addRead_34 : decode cX12_addRead 34 = .ok (.bastore, 1) := by decide +kernel
theorem dX12_addRead_35 : decode cX12_addRead 35 = .ok (.aload_n 0, 1) := by decide +kernel
theorem dX12_addRead_36 : decode cX12_addRead 36 = .ok (.getfield 272, 3) := by decide +kernel
theorem dX12_addRead_39 : decode cX12_addRead 39 = .ok (.iload 4, 2) := by decide +kernel
theorem dX12_addRead_41 : decode cX12_addRead 41 = .ok (.iload_n 3, 1) := by decide +kernel
theorem dX12_addRead_42 : decode cX12_addRead 42 = .ok (.iastore, 1) := by decide +kernel
theorem dX12_addRead_43 : decode cX12_addRead 43 = .ok (.aload_n 0, 1) := by decide +kernel
theorem dX12_addRead_44 : decode cX12_addRead 44 = .ok (.getfield 275, 3) := by decide +kernel
theorem dX12_addRead_47 : decode cX12_addRead 47 = .ok (.iload 4, 2) := by decide +kernel
theorem dX12_addRead_49 : decode cX12_addRead 49 = .ok (.aload_n 0, 1) := by decide +kernel
theorem dX12_addRead_50 : decode cX12_addRead 50 = .ok (.getfield 157, 3) := by decide +kernel
theorem dX12_addRead_53 : decode cX12_addRead 53 = .ok (.iload_n 2, 1) := by decide +kernel
theorem dX12_addRead_54 : decode cX12_addRead 54 = .ok (.iaload, 1) := by decide +kernel
theorem dX12_addRead_55 : decode cX12_addRead 55 = .ok (.iastore, 1) := by decide +kernel
theorem dX12_addRead_56 : decode cX12_addRead 56 = .ok (.aload_n 0, 1) := by decide +kernel
theorem dX12_addRead_57 : decode cX12_addRead 57 = .ok (.getfield 278, 3) := by decide +kernel
theorem dX12_addRead_60 : decode cX12_addRead 60 = .ok (.iload 4, 2) := by decide +kernel
theorem dX12_addRead_62 : decode cX12_addRead 62 = .ok (.aload_n 0, 1) := by decide +kernel
theorem dX12_addRead_63 : decode cX12_addRead 63 = .ok (.getfield 366, 3) := by decide +kernel
theorem dX12_addRead_66 : decode cX12_addRead 66 = .ok (.iastore, 1) := by decide +kernel
theorem dX12_addRead_67 : decode cX12_addRead 67 = .ok (.aload_n 0, 1) := by decide +kernel
theorem dX12_addRead_68 : decode cX12_addRead 68 = .ok (.dup, 1) := by decide +kernel
theorem dX12_addRead_69 : decode cX12_addRead 69 = .ok (.getfield 366, 3) := by decide +kernel
theorem dX12_addRead_72 : decode cX12_addRead 72 = .ok (.iconst 1, 1) := by decide +kernel
theorem dX12_addRead_73 : decode cX12_addRead 73 = .ok (.iadd, 1) := by decide +kernel
theorem dX12_addRead_74 : decode cX12_addRead 74 = .ok (.putfield 366, 3) := by decide +kernel
theorem dX12_addRead_77 : decode cX12_addRead 77 = .ok (.return_, 1) := by decide +kernel
theorem dX12_atom_0 : decode cX12_atom 0 = .ok (.aload_n 0, 1) := by decide +kernel
theorem dX12_atom_1 : decode cX12_atom 1 = .ok (.dup, 1) := by decide +kernel
theorem dX12_atom_2 : decode cX12_atom 2 = .ok (.getfield 110, 3) := by decide +kernel
theorem dX12_atom_5 : decode cX12_atom 5 = .ok (.iconst 1, 1) := by decide +kernel
theorem dX12_atom_6 : decode cX12_atom 6 = .ok (.iadd, 1) := by decide +kernel
theorem dX12_atom_7 : decode cX12_atom 7 = .ok (.putfield 110, 3) := by decide +kernel
theorem dX12_atom_10 : decode cX12_atom 10 = .ok (.aload_n 0, 1) := by decide +kernel
theorem dX12_atom_11 : decode cX12_atom 11 = .ok (.bipush 15, 2) := by decide +kernel
theorem dX12_atom_13 : decode cX12_atom 13 = .ok (.iconst 0, 1) := by decide +kernel
theorem dX12_atom_14 : decode cX12_atom 14 = .ok (.iconst 0, 1) := by decide +kernel
theorem dX12_atom_15 : decode cX12_atom 15 = .ok (.invokevirtual 87, 3) := by decide +kernel
theorem dX12_atom_18 : decode cX12_atom 18 = .ok (.istore_n 2, 1) := by decide +kernel
theorem dX12_atom_19 : decode cX12_atom 19 = .ok (.aload_n 0, 1) := by decide +kernel
theorem dX12_atom_20 : decode cX12_atom 20 = .ok (.invokevirtual 119, 3) := by decide +kernel
theorem dX12_atom_23 : decode cX12_atom 23 = .ok (.aload_n 0, 1) := by decide +kernel
theorem dX12_atom_24 : decode cX12_atom 24 = .ok (.bipush 16, 2) := by decide +kernel
theorem dX12_atom_26 : decode cX12_atom 26 = .ok (.iconst 0, 1) := by decide +kernel
theorem dX12_atom_27 : decode cX12_atom 27 = .ok (.iconst 0, 1) := by decide +kernel
theorem dX12_atom_28 : decode cX12_atom 28 = .ok (.invokevirtual 87, 3) := by decide +kernel
theorem dX12_atom_31 : decode cX12_atom 31 = .ok (.istore_n 3, 1) := by decide +kernel
theorem dX12_atom_32 : decode cX12_atom 32 = .ok (.iconst (-1), 1) := by decide +kernel
theorem dX12_atom_33 : decode cX12_atom 33 = .ok (.istore 4, 2) := by decide +kernel
theorem dX12_atom_35 : decode cX12_atom 35 = .ok (.aload_n 0, 1) := by decide +kernel
theorem dX12_atom_36 : decode cX12_atom 36 = .ok (.bipush 6, 2) := by decide +kernel
theorem dX12_atom_38 : decode cX12_atom 38 = .ok (.invokevirtual 122, 3) := by decide +kernel
theorem dX12_atom_41 : decode cX12_atom 41 = .ok (.ifCond .eq 51, 3) := by decide +kernel
theorem dX12_atom_44 : decode cX12_atom 44 = .ok (.aload_n 0, 1) := by decide +kernel
theorem dX12_atom_45 : decode cX12_atom 45 = .ok (.invokevirtual 63, 3) := by decide +kernel
theorem dX12_atom_48 : decode cX12_atom 48 = .ok (.aload_n 0, 1) := by decide +kernel
theorem dX12_atom_49 : decode cX12_atom 49 = .ok (.bipush 12, 2) := by decide +kernel
theorem dX12_atom_51 : decode cX12_atom 51 = .ok (.iconst 0, 1) := by decide +kernel
theorem dX12_atom_52 : decode cX12_atom 52 = .ok (.iconst 0, 1) := by decide +kernel
theorem dX12_atom_53 : decode cX12_atom 53 = .ok (.invokevirtual 87, 3) := by decide +kernel
theorem dX12_atom_56 : decode cX12_atom 56 = .ok (.istore 5, 2) := by decide +kernel
theorem dX12_atom_58 : decode cX12_atom 58 = .ok (.aload_n 0, 1) := by decide +kernel
theorem dX12_atom_59 : decode cX12_atom 59 = .ok (.getfield 78, 3) := by decide +kernel
theorem dX12_atom_62 : decode cX12_atom 62 = .ok (.istore 4, 2) := by decide +kernel
theorem dX12_atom_64 : decode cX12_atom 64 = .ok (.aload_n 0, 1) := by decide +kernel
theorem dX12_atom_65 : decode cX12_atom 65 = .ok (.invokevirtual 119, 3) := by decide +kernel
theorem dX12_atom_68 : decode cX12_atom 68 = .ok (.aload_n 0, 1) := by decide +kernel
theorem dX12_atom_69 : decode cX12_atom 69 = .ok (.bipush 16, 2) := by decide +kernel
theorem dX12_atom_71 : decode cX12_atom 71 = .ok (.iconst 0, 1) := by decide +kernel
theorem dX12_atom_72 : decode cX12_atom 72 = .ok (.iconst 0, 1) := by decide +kernel
theorem dX12_atom_73 : decode cX12_atom 73 = .ok (.invokevirtual 87, 3) := by decide +kernel
theorem dX12_atom_76 : decode cX12_atom 76 = .ok (.istore_n 3, 1) := by decide +kernel
theorem dX12_atom_77 : decode cX12_atom 77 = .ok (.aload_n 0, 1) := by decide +kernel
theorem dX12_atom_78 : decode cX12_atom 78 = .ok (.getfield 74, 3) := by decide +kernel
theorem dX12_atom_81 : decode cX12_atom 81 = .ok (.iconst 3, 1) := by decide +kernel
theorem dX12_atom_82 : decode cX12_atom 82 = .ok (.iload 5, 2) := by decide +kernel
theorem dX12_atom_84 : decode cX12_atom 84 = .ok (.imul, 1) := by decide +kernel
theorem dX12_atom_85 : decode cX12_atom 85 = .ok (.iconst 1, 1) := by decide +kernel
theorem dX12_atom_86 : decode cX12_atom 86 = .ok (.iadd, 1) := by decide +kernel
theorem dX12_atom_87 : decode cX12_atom 87 = .ok (.aload_n 0, 1) := by decide +kernel
theorem dX12_atom_88 : decode cX12_atom 88 = .ok (.getfield 78, 3) := by decide +kernel
theorem dX12_atom_91 : decode cX12_atom 91 = .ok (.iastore, 1) := by decide +kernel
theorem dX12_atom_92 : decode cX12_atom 92 = .ok (.aload_n 0, 1) := by decide +kernel
theorem dX12_atom_93 : decode cX12_atom 93 = .ok (.getfield 74, 3) := by decide +kernel
theorem dX12_atom_96 : decode cX12_atom 96 = .ok (.iconst 3, 1) := by decide +kernel
theorem dX12_atom_97 : decode cX12_atom 97 = .ok (.iload_n 2, 1) := by decide +kernel
theorem dX12_atom_98 : decode cX12_atom 98 = .ok (.imul, 1) := by decide +kernel
theorem dX12_atom_99 : decode cX12_atom 99 = .ok (.iconst 1, 1) := by decide +kernel
theorem dX12_atom_100 : decode cX12_atom 100 = .ok (.iadd, 1) := by decide +kernel
theorem dX12_atom_101 : decode cX12_atom 101 = .ok (.iconst 2, 1) := by decide +kernel
theorem dX12_atom_102 : decode cX12_atom 102 = .ok (.iload 4, 2) := by decide +kernel
theorem dX12_atom_104 : decode cX12_atom 104 = .ok (.iconst 1, 1) := by decide +kernel
theorem dX12_atom_105 : decode cX12_atom 105 = .ok (.iadd, 1) := by decide +kernel
theorem dX12_atom_106 : decode cX12_atom 106 = .ok (.imul, 1) := by decide +kernel
theorem dX12_atom_107 : decode cX12_atom 107 = .ok (.iload_n 1, 1) := by decide +kernel
theorem dX12_atom_108 : decode cX12_atom 108 = .ok (.ifCond .eq 7, 3) := by decide +kernel
theorem dX12_atom_111 : decode cX12_atom 111 = .ok (.iconst 1, 1) := by decide +kernel
theorem dX12_atom_112 : decode cX12_atom 112 = .ok (.goto 4, 3) := by decide +kernel
theorem dX12_atom_115 : decode cX12_atom 115 = .ok (.iconst 0, 1) := by decide +kernel
theorem dX12_atom_116 : decode cX12_atom 116 = .ok (.iadd, 1) := by decide +kernel
theorem dX12_atom_117 : decode cX12_atom 117 = .ok (.iastore, 1) := by decide +kernel
theorem dX12_atom_118 : decode cX12_atom 118 = .ok (.aload_n 0, 1) := by decide +kernel
theorem dX12_atom_119 : decode cX12_atom 119 = .ok (.getfield 74, 3) := by decide +kernel
theorem dX12_atom_122 : decode cX12_atom 122 = .ok (.iconst 3, 1) := by decide +kernel
theorem dX12_atom_123 : decode cX12_atom 123 = .ok (.iload_n 2, 1) := by decide +kernel
theorem dX12_atom_124 : decode cX12_atom 124 = .ok (.imul, 1) := by decide +kernel
theorem dX12_atom_125 : decode cX12_atom 125 = .ok (.iconst 2, 1) := by decide +kernel
theorem dX12_atom_126 : decode cX12_atom 126 = .ok (.iadd, 1) := by decide +kernel
theorem dX12_atom_127 : decode cX12_atom 127 = .ok (.aload_n 0, 1) := by decide +kernel
theorem dX12_atom_128 : decode cX12_atom 128 = .ok (.getfield 78, 3) := by decide +kernel
theorem dX12_atom_131 : decode cX12_atom 131 = .ok (.iastore, 1) := by decide +kernel
theorem dX12_atom_132 : decode cX12_atom 132 = .ok (.aload_n 0, 1) := by decide +kernel
theorem dX12_atom_133 : decode cX12_atom 133 = .ok (.dup, 1) := by decide +kernel
theorem dX12_atom_134 : decode cX12_atom 134 = .ok (.getfield 110, 3) := by decide +kernel
theorem dX12_atom_137 : decode cX12_atom 137 = .ok (.iconst 1, 1) := by decide +kernel
theorem dX12_atom_138 : decode cX12_atom 138 = .ok (.isub, 1) := by decide +kernel
theorem dX12_atom_139 : decode cX12_atom 139 = .ok (.putfield 110, 3) := by decide +kernel
theorem dX12_atom_142 : decode cX12_atom 142 = .ok (.return_, 1) := by decide +kernel
theorem dX12_begin_0 : decode cX12_begin 0 = .ok (.aload_n 0, 1) := by decide +kernel
theorem dX12_begin_1 : decode cX12_begin 1 = .ok (.iload_n 1, 1) := by decide +kernel
theorem dX12_begin_2 : decode cX12_begin 2 = .ok (.putfield 332, 3) := by decide +kernel
theorem dX12_begin_5 : decode cX12_begin 5 = .ok (.aload_n 0, 1) := by decide +kernel
theorem dX12_begin_6 : decode cX12_begin 6 = .ok (.iconst 0, 1) := by decide +kernel
theorem dX12_begin_7 : decode cX12_begin 7 = .ok (.putfield 148, 3) := by decide +kernel
theorem dX12_begin_10 : decode cX12_begin 10 = .ok (.aload_n 0, 1) := by decide +kernel
theorem dX12_begin_11 : decode cX12_begin 11 = .ok (.iconst 0, 1) := by decide +kernel
theorem dX12_begin_12 : decode cX12_begin 12 = .ok (.putfield 132, 3) := by decide +kernel
theorem dX12_begin_15 : decode cX12_begin 15 = .ok (.aload_n 0, 1) := by decide +kernel
theorem dX12_begin_16 : decode cX12_begin 16 = .ok (.iconst 0, 1) := by decide +kernel
theorem dX12_begin_17 : decode cX12_begin 17 = .ok (.putfield 335, 3) := by decide +kernel
theorem dX12_begin_20 : decode cX12_begin 20 = .ok (.aload_n 0, 1) := by decide +kernel
theorem dX12_begin_21 : decode cX12_begin 21 = .ok (.iconst 0, 1) := by decide +kernel
theorem dX12_begin_22 : decode cX12_begin 22 = .ok (.putfield 338, 3) := by decide +kernel
theorem dX12_begin_25 : decode cX12_begin 25 = .ok (.aload_n 0, 1) := by decide +kernel
theorem dX12_begin_26 : decode cX12_begin 26 = .ok (.iconst 0, 1) := by decide +kernel
theorem dX12_begin_27 : decode cX12_begin 27 = .ok (.putfield 341, 3) := by decide +kernel
theorem dX12_begin_30 : decode cX12_begin 30 = .ok (.aload_n 0, 1) := by decide +kernel
theorem dX12_begin_31 : decode cX12_begin 31 = .ok (.iconst 0, 1) := by decide +kernel
theorem dX12_begin_32 : decode cX12_begin 32 = .ok (.putfield 344, 3) := by decide +kernel
theorem dX12_begin_35 : decode cX12_begin 35 = .ok (.aload_n 0, 1) := by decide +kernel
theorem dX12_begin_36 : decode cX12_begin 36 = .ok (.iconst 0, 1) := by decide +kernel
theorem dX12_begin_37 : decode cX12_begin 37 = .ok (.putfield 347, 3) := by decide +kernel
theorem dX12_begin_40 : decode cX12_begin 40 = .ok (.aload_n 0, 1) := by decide +kernel
theorem dX12_begin_41 : decode cX12_begin 41 = .ok (.iconst (-1), 1) := by decide +kernel
theorem dX12_begin_42 : decode cX12_begin 42 = .ok (.putfield 171, 3) := by decide +kernel
theorem dX12_begin_45 : decode cX12_begin 45 = .ok (.iconst 0, 1) := by decide +kernel
theorem dX12_begin_46 : decode cX12_begin 46 = .ok (.istore_n 2, 1) := by decide +kernel
theorem dX12_begin_47 : decode cX12_begin 47 = .ok (.iload_n 2, 1) := by decide +kernel
theorem dX12_begin_48 : decode cX12_begin 48 = .ok (.bipush 26, 2) := by decide +kernel
theorem dX12_begin_50 : decode cX12_begin 50 = .ok (.if_icmp .ge 44, 3) := by decide +kernel
theorem dX12_begin_53 : decode cX12_begin 53 = .ok (.aload_n 0, 1) := by decide +kernel
theorem dX12_begin_54 : decode cX12_begin 54 = .ok (.getfield 151, 3) := by decide +kernel
theorem dX12_begin_57 : decode cX12_begin 57 = .ok (.iload_n 2, 1) := by decide +kernel
theorem dX12_begin_58 : decode cX12_begin 58 = .ok (.iconst 0, 1) := by decide +kernel
theorem dX12_begin_59 : decode cX12_begin 59 = .ok (.iastore, 1) := by decide +kernel
theorem dX12_begin_60 : decode cX12_begin 60 = .ok (.aload_n 0, 1) := by decide +kernel
theorem dX12_begin_61 : decode cX12_begin 61 = .ok (.getfield 157, 3) := by decide +kernel
theorem dX12_begin_64 : decode cX12_begin 64 = .ok (.iload_n 2, 1) := by decide +kernel
theorem dX12_begin_65 : decode cX12_begin 65 = .ok (.iconst 0, 1) := by decide +kernel
theorem dX12_begin_66 : decode cX12_begin 66 = .ok (.iastore, 1) := by decide +kernel
theorem dX12_begin_67 : decode cX12_begin 67 = .ok (.aload_n 0, 1) := by decide +kernel
theorem dX12_begin_68 : decode cX12_begin 68 = .ok (.getfield 177, 3) := by decide +kernel
theorem dX12_begin_71 : decode cX12_begin 71 = .ok (.iload_n 2, 1) := by decide +kernel
theorem dX12_begin_72 : decode cX12_begin 72 = .ok (.iconst (-1), 1) := by decide +kernel
theorem dX12_begin_73 : decode cX12_begin 73 = .ok (.iastore, 1) := by decide +kernel
theorem dX12_begin_74 : decode cX12_begin 74 = .ok (.aload_n 0, 1) := by decide +kernel
theorem dX12_begin_75 : decode cX12_begin 75 = .ok (.getfield 180, 3) := by decide +kernel
theorem dX12_begin_78 : decode cX12_begin 78 = .ok (.iload_n 2, 1) := by decide +kernel
theorem dX12_begin_79 : decode cX12_begin 79 = .ok (.iconst 0, 1) := by decide +kernel
theorem dX12_begin_80 : decode cX12_begin 80 = .ok (.iastore, 1) := by decide +kernel
theorem dX12_begin_81 : decode cX12_begin 81 = .ok (.aload_n 0, 1) := by decide +kernel
theorem dX12_begin_82 : decode cX12_begin 82 = .ok (.getfield 154, 3) := by decide +kernel
theorem dX12_begin_85 : decode cX12_begin 85 = .ok (.iload_n 2, 1) := by decide +kernel
theorem dX12_begin_86 : decode cX12_begin 86 = .ok (.iconst (-1), 1) := by decide +kernel
theorem dX12_begin_87 : decode cX12_begin 87 = .ok (.iastore, 1) := by decide +kernel
theorem dX12_begin_88 : decode cX12_begin 88 = .ok (.iinc 2 1, 3) := by decide +kernel
theorem dX12_begin_91 : decode cX12_begin 91 = .ok (.goto (-44), 3) := by decide +kernel
theorem dX12_begin_94 : decode cX12_begin 94 = .ok (.iconst 0, 1) := by decide +kernel
theorem dX12_begin_95 : decode cX12_begin 95 = .ok (.istore_n 2, 1) := by decide +kernel
theorem dX12_begin_96 : decode cX12_begin 96 = .ok (.iload_n 2, 1) := by decide +kernel
theorem dX12_begin_97 : decode cX12_begin 97 = .ok (.bipush 6, 2) := by decide +kernel
theorem dX12_begin_99 : decode cX12_begin 99 = .ok (.if_icmp .ge 14, 3) := by decide +kernel
theorem dX12_begin_102 : decode cX12_begin 102 = .ok (.aload_n 0, 1) := by decide +kernel
theorem dX12_begin_103 : decode cX12_begin 103 = .ok (.iload_n 2, 1) := by decide +kernel
theorem dX12_begin_104 : decode cX12_begin 104 = .ok (.invokevirtual 350, 3) := by decide +kernel
theorem dX12_begin_107 : decode cX12_begin 107 = .ok (.iinc 2 1, 3) := by decide +kernel
theorem dX12_begin_110 : decode cX12_begin 110 = .ok (.goto (-14), 3) := by decide +kernel
theorem dX12_begin_113 : decode cX12_begin 113 = .ok (.return_, 1) := by decide +kernel
theorem dX12_beginBlock_0 : decode cX12_beginBlock 0 = .ok (.iload_n 2, 1) := by decide +kernel
theorem dX12_beginBlock_1 : decode cX12_beginBlock 1 = .ok (.iconst 2, 1) := by decide +kernel
theorem dX12_beginBlock_2 : decode cX12_beginBlock 2 = .ok (.irem, 1) := by decide +kernel
theorem dX12_beginBlock_3 : decode cX12_beginBlock 3 = .ok (.iconst 1, 1) := by decide +kernel
theorem dX12_beginBlock_4 : decode cX12_beginBlock 4 = .ok (.if_icmp .ne 7, 3) := by decide +kernel
theorem dX12_beginBlock_7 : decode cX12_beginBlock 7 = .ok (.iconst 1, 1) := by decide +kernel
theorem dX12_beginBlock_8 : decode cX12_beginBlock 8 = .ok (.goto 4, 3) := by decide +kernel
theorem dX12_beginBlock_11 : decode cX12_beginBlock 11 = .ok (.iconst 0, 1) := by decide +kernel
theorem dX12_beginBlock_12 : decode cX12_beginBlock 12 = .ok (.istore 4, 2) := by decide +kernel
theorem dX12_beginBlock_14 : decode cX12_beginBlock 14 = .ok (.iload_n 2, 1) := by decide +kernel
theorem dX12_beginBlock_15 : decode cX12_beginBlock 15 = .ok (.iconst 2, 1) := by decide +kernel
theorem dX12_beginBlock_16 : decode cX12_beginBlock 16 = .ok (.idiv, 1) := by decide +kernel
theorem dX12_beginBlock_17 : decode cX12_beginBlock 17 = .ok (.iconst 1, 1) := by decide +kernel
theorem dX12_beginBlock_18 : decode cX12_beginBlock 18 = .ok (.isub, 1) := by decide +kernel
theorem dX12_beginBlock_19 : decode cX12_beginBlock 19 = .ok (.istore 5, 2) := by decide +kernel
theorem dX12_beginBlock_21 : decode cX12_beginBlock 21 = .ok (.aload_n 0, 1) := by decide +kernel
theorem dX12_beginBlock_22 : decode cX12_beginBlock 22 = .ok (.getfield 187, 3) := by decide +kernel
theorem dX12_beginBlock_25 : decode cX12_beginBlock 25 = .ok (.iload_n 1, 1) := by decide +kernel
theorem dX12_beginBlock_26 : decode cX12_beginBlock 26 = .ok (.iaload, 1) := by decide +kernel
theorem dX12_beginBlock_27 : decode cX12_beginBlock 27 = .ok (.iconst 2, 1) := by decide +kernel
theorem dX12_beginBlock_28 : decode cX12_beginBlock 28 = .ok (.if_icmp .eq 124, 3) := by decide +kernel
theorem dX12_beginBlock_31 : decode cX12_beginBlock 31 = .ok (.aload_n 0, 1) := by decide +kernel
theorem dX12_beginBlock_32 : decode cX12_beginBlock 32 = .ok (.iload_n 1, 1) := by decide +kernel
theorem dX12_beginBlock_33 : decode cX12_beginBlock 33 = .ok (.invokevirtual 431, 3) := by decide +kernel
theorem dX12_beginBlock_36 : decode cX12_beginBlock 36 = .ok (.ifCond .eq 5, 3) := by decide +kernel
theorem dX12_beginBlock_39 : decode cX12_beginBlock 39 = .ok (.iconst 4, 1) := by decide +kernel
theorem dX12_beginBlock_40 : decode cX12_beginBlock 40 = .ok (.ireturn, 1) := by decide +kernel
theorem dX12_beginBlock_41 : decode cX12_beginBlock 41 = .ok (.aload_n 0, 1) := by decide +kernel
theorem dX12_beginBlock_42 : decode cX12_beginBlock 42 = .ok (.getfield 190, 3) := by decide +kernel
theorem dX12_beginBlock_45 : decode cX12_beginBlock 45 = .ok (.iload_n 1, 1) := by decide +kernel
theorem dX12_beginBlock_46 : decode cX12_beginBlock 46 = .ok (.dup2, 1) := by decide +kernel
theorem dX12_beginBlock_47 : decode cX12_beginBlock 47 = .ok (.iaload, 1) := by decide +kernel
theorem dX12_beginBlock_48 : decode cX12_beginBlock 48 = .ok (.iconst 1, 1) := by decide +kernel
theorem dX12_beginBlock_49 : decode cX12_beginBlock 49 = .ok (.iadd, 1) := by decide +kernel
theorem dX12_beginBlock_50 : decode cX12_beginBlock 50 = .ok (.iastore, 1) := by decide +kernel
theorem dX12_beginBlock_51 : decode cX12_beginBlock 51 = .ok (.aload_n 0, 1) := by decide +kernel
theorem dX12_beginBlock_52 : decode cX12_beginBlock 52 = .ok (.iload_n 1, 1) := by decide +kernel
theorem dX12_beginBlock_53 : decode cX12_beginBlock 53 = .ok (.iload 5, 2) := by decide +kernel
theorem dX12_beginBlock_55 : decode cX12_beginBlock 55 = .ok (.iload_n 3, 1) := by decide +kernel
theorem dX12_beginBlock_56 : decode cX12_beginBlock 56 = .ok (.invokevirtual 434, 3) := by decide +kernel
theorem dX12_beginBlock_59 : decode cX12_beginBlock 59 = .ok (.aload_n 0, 1) := by decide +kernel
theorem dX12_beginBlock_60 : decode cX12_beginBlock 60 = .ok (.getfield 229, 3) := by decide +kernel
theorem dX12_beginBlock_63 : decode cX12_beginBlock 63 = .ok (.aload_n 0, 1) := by decide +kernel
theorem dX12_beginBlock_64 : decode cX12_beginBlock 64 = .ok (.iload_n 1, 1) := by decide +kernel
theorem dX12_beginBlock_65 : decode cX12_beginBlock 65 = .ok (.aload_n 0, 1) := by decide +kernel
theorem dX12_beginBlock_66 : decode cX12_beginBlock 66 = .ok (.getfield 205, 3) := by decide +kernel
theorem dX12_beginBlock_69 : decode cX12_beginBlock 69 = .ok (.iload_n 1, 1) := by decide +kernel
theorem dX12_beginBlock_70 : decode cX12_beginBlock 70 = .ok (.iaload, 1) := by decide +kernel
theorem dX12_beginBlock_71 : decode cX12_beginBlock 71 = .ok (.invokevirtual 360, 3) := by decide +kernel
theorem dX12_beginBlock_74 : decode cX12_beginBlock 74 = .ok (.iconst 0, 1) := by decide +kernel
theorem dX12_beginBlock_75 : decode cX12_beginBlock 75 = .ok (.iastore, 1) := by decide +kernel
theorem dX12_beginBlock_76 : decode cX12_beginBlock 76 = .ok (.aload_n 0, 1) := by decide +kernel
theorem dX12_beginBlock_77 : decode cX12_beginBlock 77 = .ok (.getfield 205, 3) := by decide +kernel
theorem dX12_beginBlock_80 : decode cX12_beginBlock 80 = .ok (.iload_n 1, 1) := by decide +kernel
theorem dX12_beginBlock_81 : decode cX12_beginBlock 81 = .ok (.dup2, 1) := by decide +kernel
theorem dX12_beginBlock_82 : decode cX12_beginBlock 82 = .ok (.iaload, 1) := by decide +kernel
theorem dX12_beginBlock_83 : decode cX12_beginBlock 83 = .ok (.iconst 1, 1) := by decide +kernel
theorem dX12_beginBlock_84 : decode cX12_beginBlock 84 = .ok (.iadd, 1) := by decide +kernel
theorem dX12_beginBlock_85 : decode cX12_beginBlock 85 = .ok (.iastore, 1) := by decide +kernel
theorem dX12_beginBlock_86 : decode cX12_beginBlock 86 = .ok (.aload_n 0, 1) := by decide +kernel
theorem dX12_beginBlock_87 : decode cX12_beginBlock 87 = .ok (.getfield 253, 3) := by decide +kernel
theorem dX12_beginBlock_90 : decode cX12_beginBlock 90 = .ok (.aload_n 0, 1) := by decide +kernel
theorem dX12_beginBlock_91 : decode cX12_beginBlock 91 = .ok (.iload_n 1, 1) := by decide +kernel
theorem dX12_beginBlock_92 : decode cX12_beginBlock 92 = .ok (.iconst 0, 1) := by decide +kernel
theorem dX12_beginBlock_93 : decode cX12_beginBlock 93 = .ok (.invokevirtual 360, 3) := by decide +kernel
theorem dX12_beginBlock_96 : decode cX12_beginBlock 96 = .ok (.aload_n 0, 1) := by decide +kernel
theorem dX12_beginBlock_97 : decode cX12_beginBlock 97 = .ok (.getfield 205, 3) := by decide +kernel
theorem dX12_beginBlock_100 : decode cX12_beginBlock 100 = .ok (.iload_n 1, 1) := by decide +kernel
theorem dX12_beginBlock_101 : decode cX12_beginBlock 101 = .ok (.iaload, 1) := by decide +kernel
theorem dX12_beginBlock_102 : decode cX12_beginBlock 102 = .ok (.iastore, 1) := by decide +kernel
theorem dX12_beginBlock_103 : decode cX12_beginBlock 103 = .ok (.aload_n 0, 1) := by decide +kernel
theorem dX12_beginBlock_104 : decode cX12_beginBlock 104 = .ok (.getfield 187, 3) := by decide +kernel
theorem dX12_beginBlock_107 : decode cX12_beginBlock 107 = .ok (.iload_n 1, 1) := by decide +kernel
theorem dX12_beginBlock_108 : decode cX12_beginBlock 108 = .ok (.iconst 2, 1) := by decide +kernel
theorem dX12_beginBlock_109 : decode cX12_beginBlock 109 = .ok (.iastore, 1) := by decide +kernel
theorem dX12_beginBlock_110 : decode cX12_beginBlock 110 = .ok (.aload_n 0, 1) := by decide +kernel
theorem dX12_beginBlock_111 : decode cX12_beginBlock 111 = .ok (.getfield 214, 3) := by decide +kernel
theorem dX12_beginBlock_114 : decode cX12_beginBlock 114 = .ok (.iload_n 1, 1) := by decide +kernel
theorem dX12_beginBlock_115 : decode cX12_beginBlock 115 = .ok (.aload_n 0, 1) := by decide +kernel
theorem dX12_beginBlock_116 : decode cX12_beginBlock 116 = .ok (.getfield 148, 3) := by decide +kernel
theorem dX12_beginBlock_119 : decode cX12_beginBlock 119 = .ok (.iastore, 1) := by decide +kernel
theorem dX12_beginBlock_120 : decode cX12_beginBlock 120 = .ok (.aload_n 0, 1) := by decide +kernel
theorem dX12_beginBlock_121 : decode cX12_beginBlock 121 = .ok (.getfield 223, 3) := by decide +kernel
theorem dX12_beginBlock_124 : decode cX12_beginBlock 124 = .ok (.iload_n 1, 1) := by decide +kernel
theorem dX12_beginBlock_125 : decode cX12_beginBlock 125 = .ok (.aload_n 0, 1) := by decide +kernel
theorem dX12_beginBlock_126 : decode cX12_beginBlock 126 = .ok (.getfield 344, 3) := by decide +kernel
theorem dX12_beginBlock_129 : decode cX12_beginBlock 129 = .ok (.iastore, 1) := by decide +kernel
theorem dX12_beginBlock_130 : decode cX12_beginBlock 130 = .ok (.aload_n 0, 1) := by decide +kernel
theorem dX12_beginBlock_131 : decode cX12_beginBlock 131 = .ok (.dup, 1) := by decide +kernel
theorem dX12_beginBlock_132 : decode cX12_beginBlock 132 = .ok (.getfield 344, 3) := by decide +kernel
theorem dX12_beginBlock_135 : decode cX12_beginBlock 135 = .ok (.iconst 1, 1) := by decide +kernel
theorem dX12_beginBlock_136 : decode cX12_beginBlock 136 = .ok (.iadd, 1) := by decide +kernel
theorem dX12_beginBlock_137 : decode cX12_beginBlock 137 = .ok (.putfield 344, 3) := by decide +kernel
theorem dX12_beginBlock_140 : decode cX12_beginBlock 140 = .ok (.aload_n 0, 1) := by decide +kernel
theorem dX12_beginBlock_141 : decode cX12_beginBlock 141 = .ok (.getfield 226, 3) := by decide +kernel
theorem dX12_beginBlock_144 : decode cX12_beginBlock 144 = .ok (.iload_n 1, 1) := by decide +kernel
theorem dX12_beginBlock_145 : decode cX12_beginBlock 145 = .ok (.aload_n 0, 1) := by decide +kernel
theorem dX12_beginBlock_146 : decode cX12_beginBlock 146 = .ok (.getfield 341, 3) := by decide +kernel
theorem dX12_beginBlock_149 : decode cX12_beginBlock 149 = .ok (.iastore, 1) := by decide +kernel
theorem dX12_beginBlock_150 : decode cX12_beginBlock 150 = .ok (.iconst 0, 1) := by decide +kernel
theorem dX12_beginBlock_151 : decode cX12_beginBlock 151 = .ok (.ireturn, 1) := by decide +kernel
theorem dX12_beginBlock_152 : decode cX12_beginBlock 152 = .ok (.aload_n 0, 1) := by decide +kernel
theorem dX12_beginBlock_153 : decode cX12_beginBlock 153 = .ok (.getfield 190, 3) := by decide +kernel
theorem dX12_beginBlock_156 : decode cX12_beginBlock 156 = .ok (.iload_n 1, 1) := by decide +kernel
theorem dX12_beginBlock_157 : decode cX12_beginBlock 157 = .ok (.dup2, 1) := by decide +kernel
theorem dX12_beginBlock_158 : decode cX12_beginBlock 158 = .ok (.iaload, 1) := by decide +kernel
theorem dX12_beginBlock_159 : decode cX12_beginBlock 159 = .ok (.iconst 1, 1) := by decide +kernel
theorem dX12_beginBlock_160 : decode cX12_beginBlock 160 = .ok (.iadd, 1) := by decide +kernel
theorem dX12_beginBlock_161 : decode cX12_beginBlock 161 = .ok (.iastore, 1) := by decide +kernel
theorem dX12_beginBlock_162 : decode cX12_beginBlock 162 = .ok (.iload 4, 2) := by decide +kernel
theorem dX12_beginBlock_164 : decode cX12_beginBlock 164 = .ok (.ifCond .eq 8, 3) := by decide +kernel
theorem dX12_beginBlock_167 : decode cX12_beginBlock 167 = .ok (.iload 5, 2) := by decide +kernel
theorem dX12_beginBlock_169 : decode cX12_beginBlock 169 = .ok (.ifCond .lt 7, 3) := by decide +kernel
theorem dX12_beginBlock_172 : decode cX12_beginBlock 172 = .ok (.iconst 1, 1) := by decide +kernel
theorem dX12_beginBlock_173 : decode cX12_beginBlock 173 = .ok (.goto 4, 3) := by decide +kernel
theorem dX12_beginBlock_176 : decode cX12_beginBlock 176 = .ok (.iconst 0, 1) := by decide +kernel
theorem dX12_beginBlock_177 : decode cX12_beginBlock 177 = .ok (.istore 6, 2) := by decide +kernel
theorem dX12_beginBlock_179 : decode cX12_beginBlock 179 = .ok (.aload_n 0, 1) := by decide +kernel
theorem dX12_beginBlock_180 : decode cX12_beginBlock 180 = .ok (.getfield 229, 3) := by decide +kernel
theorem dX12_beginBlock_183 : decode cX12_beginBlock 183 = .ok (.aload_n 0, 1) := by decide +kernel
theorem dX12_beginBlock_184 : decode cX12_beginBlock 184 = .ok (.iload_n 1, 1) := by decide +kernel
theorem dX12_beginBlock_185 : decode cX12_beginBlock 185 = .ok (.aload_n 0, 1) := by decide +kernel
theorem dX12_beginBlock_186 : decode cX12_beginBlock 186 = .ok (.getfield 205, 3) := by decide +kernel
theorem dX12_beginBlock_189 : decode cX12_beginBlock 189 = .ok (.iload_n 1, 1) := by decide +kernel
theorem dX12_beginBlock_190 : decode cX12_beginBlock 190 = .ok (.iaload, 1) := by decide +kernel
theorem dX12_beginBlock_191 : decode cX12_beginBlock 191 = .ok (.invokevirtual 360, 3) := by decide +kernel
theorem dX12_beginBlock_194 : decode cX12_beginBlock 194 = .ok (.iload 6, 2) := by decide +kernel
theorem dX12_beginBlock_196 : decode cX12_beginBlock 196 = .ok (.ifCond .eq 12, 3) := by decide +kernel
theorem dX12_beginBlock_199 : decode cX12_beginBlock 199 = .ok (.aload_n 0, 1) := by decide +kernel
theorem dX12_beginBlock_200 : decode cX12_beginBlock 200 = .ok (.getfield 202, 3) := by decide +kernel
theorem dX12_beginBlock_203 : decode cX12_beginBlock 203 = .ok (.iload_n 1, 1) := by decide +kernel
theorem dX12_beginBlock_204 : decode cX12_beginBlock 204 = .ok (.iaload, 1) := by decide +kernel
theorem dX12_beginBlock_205 : decode cX12_beginBlock 205 = .ok (.goto 4, 3) := by decide +kernel
theorem dX12_beginBlock_208 : decode cX12_beginBlock 208 = .ok (.iconst (-1), 1) := by decide +kernel
theorem dX12_beginBlock_209 : decode cX12_beginBlock 209 = .ok (.iastore, 1) := by decide +kernel
theorem dX12_beginBlock_210 : decode cX12_beginBlock 210 = .ok (.aload_n 0, 1) := by decide +kernel
theorem dX12_beginBlock_211 : decode cX12_beginBlock 211 = .ok (.getfield 205, 3) := by decide +kernel
theorem dX12_beginBlock_214 : decode cX12_beginBlock 214 = .ok (.iload_n 1, 1) := by decide +kernel
theorem dX12_beginBlock_215 : decode cX12_beginBlock 215 = .ok (.dup2, 1) := by decide +kernel
theorem dX12_beginBlock_216 : decode cX12_beginBlock 216 = .ok (.iaload, 1) := by decide +kernel
theorem dX12_beginBlock_217 : decode cX12_beginBlock 217 = .ok (.iconst 1, 1) := by decide +kernel
theorem dX12_beginBlock_218 : decode cX12_beginBlock 218 = .ok (.iadd, 1) := by decide +kernel
theorem dX12_beginBlock_219 : decode cX12_beginBlock 219 = .ok (.iastore, 1) := by decide +kernel
theorem dX12_beginBlock_220 : decode cX12_beginBlock 220 = .ok (.iload 6, 2) := by decide +kernel
theorem dX12_beginBlock_222 : decode cX12_beginBlock 222 = .ok (.ifCond .eq 11, 3) := by decide +kernel
theorem dX12_beginBlock_225 : decode cX12_beginBlock 225 = .ok (.aload_n 0, 1) := by decide +kernel
theorem dX12_beginBlock_226 : decode cX12_beginBlock 226 = .ok (.iload_n 1, 1) := by decide +kernel
theorem dX12_beginBlock_227 : decode cX12_beginBlock 227 = .ok (.iload 5, 2) := by decide +kernel
theorem dX12_beginBlock_229 : decode cX12_beginBlock 229 = .ok (.iload_n 3, 1) := by decide +kernel
theorem dX12_beginBlock_230 : decode cX12_beginBlock 230 = .ok (.invokevirtual 434, 3) := by decide +kernel
theorem dX12_beginBlock_233 : decode cX12_beginBlock 233 = .ok (.iconst (-1), 1) := by decide +kernel
theorem dX12_beginBlock_234 : decode cX12_beginBlock 234 = .ok (.ireturn, 1) := by decide +kernel
theorem dX12_block_0 : decode cX12_block 0 = .ok (.aload_n 0, 1) := by decide +kernel
theorem dX12_block_1 : decode cX12_block 1 = .ok (.bipush 123, 2) := by decide +kernel
theorem dX12_block_3 : decode cX12_block 3 = .ok (.invokevirtual 60, 3) := by decide +kernel
theorem dX12_block_6 : decode cX12_block 6 = .ok (.ifCond .ne 12, 3) := by decide +kernel
theorem dX12_block_9 : decode cX12_block 9 = .ok (.aload_n 0, 1) := by decide +kernel
theorem dX12_block_10 : decode cX12_block 10 = .ok (.aload_n 0, 1) := by decide +kernel
theorem dX12_block_11 : decode cX12_block 11 = .ok (.getfield 39, 3) := by decide +kernel
theorem dX12_block_14 : decode cX12_block 14 = .ok (.invokevirtual 70, 3) := by decide +kernel
theorem dX12_block_17 : decode cX12_block 17 = .ok (.athrow, 1) := by decide +kernel
theorem dX12_block_18 : decode cX12_block 18 = .ok (.aload_n 0, 1) := by decide +kernel
theorem dX12_block_19 : decode cX12_block 19 = .ok (.invokevirtual 97, 3) := by decide +kernel
theorem dX12_block_22 : decode cX12_block 22 = .ok (.aload_n 0, 1) := by decide +kernel
theorem dX12_block_23 : decode cX12_block 23 = .ok (.invokevirtual 63, 3) := by decide +kernel
theorem dX12_block_26 : decode cX12_block 26 = .ok (.aload_n 0, 1) := by decide +kernel
theorem dX12_block_27 : decode cX12_block 27 = .ok (.bipush 125, 2) := by decide +kernel
theorem dX12_block_29 : decode cX12_block 29 = .ok (.invokevirtual 60, 3) := by decide +kernel
theorem dX12_block_32 : decode cX12_block 32 = .ok (.ifCond .ne 10, 3) := by decide +kernel
theorem dX12_block_35 : decode cX12_block 35 = .ok (.aload_n 0, 1) := by decide +kernel
theorem dX12_block_36 : decode cX12_block 36 = .ok (.invokevirtual 107, 3) := by decide +kernel
theorem dX12_block_39 : decode cX12_block 39 = .ok (.goto (-13), 3) := by decide +kernel
theorem dX12_block_42 : decode cX12_block 42 = .ok (.aload_n 0, 1) := by decide +kernel
theorem dX12_block_43 : decode cX12_block 43 = .ok (.invokevirtual 63, 3) := by decide +kernel
theorem dX12_block_46 : decode cX12_block 46 = .ok (.aload_n 0, 1) := by decide +kernel
theorem dX12_block_47 : decode cX12_block 47 = .ok (.dup, 1) := by decide +kernel
theorem dX12_block_48 : decode cX12_block 48 = .ok (.getfield 81, 3) := by decide +kernel
theorem dX12_block_51 : decode cX12_block 51 = .ok (.iconst 1, 1) := by decide +kernel
theorem dX12_block_52 : decode cX12_block 52 = .ok (.isub, 1) := by decide +kernel
theorem dX12_block_53 : decode cX12_block 53 = .ok (.putfield 81, 3) := by decide +kernel
theorem dX12_block_56 : decode cX12_block 56 = .ok (.return_, 1) := by decide +kernel
theorem dX12_byteAt_0 : decode cX12_byteAt 0 = .ok (.iload_n 1, 1) := by decide +kernel
theorem dX12_byteAt_1 : decode cX12_byteAt 1 = .ok (.aload_n 0, 1) := by decide +kernel
theorem dX12_byteAt_2 : decode cX12_byteAt 2 = .ok (.getfield 14, 3) := by decide +kernel
theorem dX12_byteAt_5 : decode cX12_byteAt 5 = .ok (.if_icmp .ge 12, 3) := by decide +kernel
theorem dX12_byteAt_8 : decode cX12_byteAt 8 = .ok (.aload_n 0, 1) := by decide +kernel
theorem dX12_byteAt_9 : decode cX12_byteAt 9 = .ok (.getfield 17, 3) := by decide +kernel
theorem dX12_byteAt_12 : decode cX12_byteAt 12 = .ok (.iload_n 1, 1) := by decide +kernel
theorem dX12_byteAt_13 : decode cX12_byteAt 13 = .ok (.baload, 1) := by decide +kernel
theorem dX12_byteAt_14 : decode cX12_byteAt 14 = .ok (.goto 4, 3) := by decide +kernel
theorem dX12_byteAt_17 : decode cX12_byteAt 17 = .ok (.iconst (-1), 1) := by decide +kernel
theorem dX12_byteAt_18 : decode cX12_byteAt 18 = .ok (.ireturn, 1) := by decide +kernel
theorem dX12_cell_0 : decode cX12_cell 0 = .ok (.iload_n 1, 1) := by decide +kernel
theorem dX12_cell_1 : decode cX12_cell 1 = .ok (.bipush 12, 2) := by decide +kernel
theorem dX12_cell_3 : decode cX12_cell 3 = .ok (.imul, 1) := by decide +kernel
theorem dX12_cell_4 : decode cX12_cell 4 = .ok (.iload_n 2, 1) := by decide +kernel
theorem dX12_cell_5 : decode cX12_cell 5 = .ok (.iadd, 1) := by decide +kernel
theorem dX12_cell_6 : decode cX12_cell 6 = .ok (.bipush 26, 2) := by decide +kernel
theorem dX12_cell_8 : decode cX12_cell 8 = .ok (.imul, 1) := by decide +kernel
theorem dX12_cell_9 : decode cX12_cell 9 = .ok (.iload_n 3, 1) := by decide +kernel
theorem dX12_cell_10 : decode cX12_cell 10 = .ok (.iadd, 1) := by decide +kernel
theorem dX12_cell_11 : decode cX12_cell 11 = .ok (.ireturn, 1) := by decide +kernel
theorem dX12_change_0 : decode cX12_change 0 = .ok (.aload_n 0, 1) := by decide +kernel
theorem dX12_change_1 : decode cX12_change 1 = .ok (.dup, 1) := by decide +kernel
theorem dX12_change_2 : decode cX12_change 2 = .ok (.getfield 148, 3) := by decide +kernel
theorem dX12_change_5 : decode cX12_change 5 = .ok (.iconst 1, 1) := by decide +kernel
theorem dX12_change_6 : decode cX12_change 6 = .ok (.iadd, 1) := by decide +kernel
theorem dX12_change_7 : decode cX12_change 7 = .ok (.putfield 148, 3) := by decide +kernel
theorem dX12_change_10 : decode cX12_change 10 = .ok (.aload_n 0, 1) := by decide +kernel
theorem dX12_change_11 : decode cX12_change 11 = .ok (.getfield 151, 3) := by decide +kernel
theorem dX12_change_14 : decode cX12_change 14 = .ok (.iload_n 1, 1) := by decide +kernel
theorem dX12_change_15 : decode cX12_change 15 = .ok (.iload_n 2, 1) := by decide +kernel
theorem dX12_change_16 : decode cX12_change 16 = .ok (.iastore, 1) := by decide +kernel
theorem dX12_change_17 : decode cX12_change 17 = .ok (.aload_n 0, 1) := by decide +kernel
theorem dX12_change_18 : decode cX12_change 18 = .ok (.iload_n 1, 1) := by decide +kernel
theorem dX12_change_19 : decode cX12_change 19 = .ok (.invokevirtual 160, 3) := by decide +kernel
theorem dX12_change_22 : decode cX12_change 22 = .ok (.return_, 1) := by decide +kernel
theorem dX12_clearLevel_0 : decode cX12_clearLevel 0 = .ok (.iconst 0, 1) := by decide +kernel
theorem dX12_clearLevel_1 : decode cX12_clearLevel 1 = .ok (.istore_n 3, 1) := by decide +kernel
theorem dX12_clearLevel_2 : decode cX12_clearLevel 2 = .ok (.iload_n 3, 1) := by decide +kernel
theorem dX12_clearLevel_3 : decode cX12_clearLevel 3 = .ok (.bipush 26, 2) := by decide +kernel
theorem dX12_clearLevel_5 : decode cX12_clearLevel 5 = .ok (.if_icmp .ge 35, 3) := by decide +kernel
theorem dX12_clearLevel_8 : decode cX12_clearLevel 8 = .ok (.aload_n 0, 1) := by decide +kernel
theorem dX12_clearLevel_9 : decode cX12_clearLevel 9 = .ok (.getfield 266, 3) := by decide +kernel
theorem dX12_clearLevel_12 : decode cX12_clearLevel 12 = .ok (.aload_n 0, 1) := by decide +kernel
theorem dX12_clearLevel_13 : decode cX12_clearLevel 13 = .ok (.iload_n 1, 1) := by decide +kernel
theorem dX12_clearLevel_14 : decode cX12_clearLevel 14 = .ok (.iload_n 2, 1) := by decide +kernel
theorem dX12_clearLevel_15 : decode cX12_clearLevel 15 = .ok (.iload_n 3, 1) := by decide +kernel
theorem dX12_clearLevel_16 : decode cX12_clearLevel 16 = .ok (.invokevirtual 357, 3) := by decide +kernel
theorem dX12_clearLevel_19 : decode cX12_clearLevel 19 = .ok (.iconst 0, 1) := by decide +kernel
theorem dX12_clearLevel_20 : decode cX12_clearLevel 20 = .ok (.bastore, 1) := by decide +kernel
theorem dX12_clearLevel_21 : decode cX12_clearLevel 21 = .ok (.aload_n 0, 1) := by decide +kernel
theorem dX12_clearLevel_22 : decode cX12_clearLevel 22 = .ok (.getfield 269, 3) := by decide +kernel
theorem dX12_clearLevel_25 : decode cX12_clearLevel 25 = .ok (.aload_n 0, 1) := by decide +kernel
theorem dX12_clearLevel_26 : decode cX12_clearLevel 26 = .ok (.iload_n 1, 1) := by decide +kernel
theorem dX12_clearLevel_27 : decode cX12_clearLevel 27 = .ok (.iload_n 2, 1) := by decide +kernel
theorem dX12_clearLevel_28 : decode cX12_clearLevel 28 = .ok (.iload_n 3, 1) := by decide +kernel
theorem dX12_clearLevel_29 : decode cX12_clearLevel 29 = .ok (.invokevirtual 357, 3) := by decide +kernel
theorem dX12_clearLevel_32 : decode cX12_clearLevel 32 = .ok (.iconst 0, 1) := by decide +kernel
theorem dX12_clearLevel_33 : decode cX12_clearLevel 33 = .ok (.bastore, 1) := by decide +kernel
theorem dX12_clearLevel_34 : decode cX12_clearLevel 34 = .ok (.iinc 3 1, 3) := by decide +kernel
theorem dX12_clearLevel_37 : decode cX12_clearLevel 37 = .ok (.goto (-35), 3) := by decide +kernel
theorem dX12_clearLevel_40 : decode cX12_clearLevel 40 = .ok (.aload_n 0, 1) := by decide +kernel
theorem dX12_clearLevel_41 : decode cX12_clearLevel 41 = .ok (.getfield 287, 3) := by decide +kernel
theorem dX12_clearLevel_44 : decode cX12_clearLevel 44 = .ok (.aload_n 0, 1) := by decide +kernel
theorem dX12_clearLevel_45 : decode cX12_clearLevel 45 = .ok (.iload_n 1, 1) := by decide +kernel
theorem dX12_clearLevel_46 : decode cX12_clearLevel 46 = .ok (.iload_n 2, 1) := by decide +kernel
theorem dX12_clearLevel_47 : decode cX12_clearLevel 47 = .ok (.invokevirtual 360, 3) := by decide +kernel
theorem dX12_clearLevel_50 : decode cX12_clearLevel 50 = .ok (.iconst 0, 1) := by decide +kernel
theorem dX12_clearLevel_51 : decode cX12_clearLevel 51 = .ok (.iastore, 1) := by decide +kernel
theorem dX12_clearLevel_52 : decode cX12_clearLevel 52 = .ok (.return_, 1) := by decide +kernel
theorem dX12_condition_0 : decode cX12_condition 0 = .ok (.aload_n 0, 1) := by decide +kernel
theorem dX12_condition_1 : decode cX12_condition 1 = .ok (.bipush 40, 2) := by decide +kernel
theorem dX12_condition_3 : decode cX12_condition 3 = .ok (.invokevirtual 60, 3) := by decide +kernel
theorem dX12_condition_6 : decode cX12_condition 6 = .ok (.ifCond .ne 12, 3) := by decide +kernel
theorem dX12_condition_9 : decode cX12_condition 9 = .ok (.aload_n 0, 1) := by decide +kernel
theorem dX12_condition_10 : decode cX12_condition 10 = .ok (.aload_n 0, 1) := by decide +kernel
theorem dX12_condition_11 : decode cX12_condition 11 = .ok (.getfield 39, 3) := by decide +kernel
theorem dX12_condition_14 : decode cX12_condition 14 = .ok (.invokevirtual 70, 3) := by decide +kernel
theorem dX12_condition_17 : decode cX12_condition 17 = .ok (.athrow, 1) := by decide +kernel
theorem dX12_condition_18 : decode cX12_condition 18 = .ok (.aload_n 0, 1) := by decide +kernel
theorem dX12_condition_19 : decode cX12_condition 19 = .ok (.invokevirtual 97, 3) := by decide +kernel
theorem dX12_condition_22 : decode cX12_condition 22 = .ok (.aload_n 0, 1) := by decide +kernel
theorem dX12_condition_23 : decode cX12_condition 23 = .ok (.invokevirtual 63, 3) := by decide +kernel
theorem dX12_condition_26 : decode cX12_condition 26 = .ok (.aload_n 0, 1) := by decide +kernel
theorem dX12_condition_27 : decode cX12_condition 27 = .ok (.invokevirtual 100, 3) := by decide +kernel
theorem dX12_condition_30 : decode cX12_condition 30 = .ok (.aload_n 0, 1) := by decide +kernel
theorem dX12_condition_31 : decode cX12_condition 31 = .ok (.bipush 41, 2) := by decide +kernel
theorem dX12_condition_33 : decode cX12_condition 33 = .ok (.invokevirtual 103, 3) := by decide +kernel
theorem dX12_condition_36 : decode cX12_condition 36 = .ok (.aload_n 0, 1) := by decide +kernel
theorem dX12_condition_37 : decode cX12_condition 37 = .ok (.dup, 1) := by decide +kernel
theorem dX12_condition_38 : decode cX12_condition 38 = .ok (.getfield 81, 3) := by decide +kernel
theorem dX12_condition_41 : decode cX12_condition 41 = .ok (.iconst 1, 1) := by decide +kernel
theorem dX12_condition_42 : decode cX12_condition 42 = .ok (.isub, 1) := by decide +kernel
theorem dX12_condition_43 : decode cX12_condition 43 = .ok (.putfield 81, 3) := by decide +kernel
theorem dX12_condition_46 : decode cX12_condition 46 = .ok (.return_, 1) := by decide +kernel
theorem dX12_conflict_0 : decode cX12_conflict 0 = .ok (.aload_n 0, 1) := by decide +kernel
theorem dX12_conflict_1 : decode cX12_conflict 1 = .ok (.iload_n 1, 1) := by decide +kernel
theorem dX12_conflict_2 : decode cX12_conflict 2 = .ok (.invokevirtual 393, 3) := by decide +kernel
theorem dX12_conflict_5 : decode cX12_conflict 5 = .ok (.istore_n 2, 1) := by decide +kernel
theorem dX12_conflict_6 : decode cX12_conflict 6 = .ok (.aload_n 0, 1) := by decide +kernel
theorem dX12_conflict_7 : decode cX12_conflict 7 = .ok (.iload_n 1, 1) := by decide +kernel
theorem dX12_conflict_8 : decode cX12_conflict 8 = .ok (.iload_n 2, 1) := by decide +kernel
theorem dX12_conflict_9 : decode cX12_conflict 9 = .ok (.ifCond .ge 14, 3) := by decide +kernel
theorem dX12_conflict_12 : decode cX12_conflict 12 = .ok (.aload_n 0, 1) := by decide +kernel
theorem dX12_conflict_13 : decode cX12_conflict 13 = .ok (.getfield 202, 3) := by decide +kernel
theorem dX12_conflict_16 : decode cX12_conflict 16 = .ok (.iload_n 1, 1) := by decide +kernel
theorem dX12_conflict_17 : decode cX12_conflict 17 = .ok (.iaload, 1) := by decide +kernel
theorem dX12_conflict_18 : decode cX12_conflict 18 = .ok (.iconst 1, 1) := by decide +kernel
theorem dX12_conflict_19 : decode cX12_conflict 19 = .ok (.isub, 1) := by decide +kernel
theorem dX12_conflict_20 : decode cX12_conflict 20 = .ok (.goto 4, 3) := by decide +kernel
theorem dX12_conflict_23 : decode cX12_conflict 23 = .ok (.iload_n 2, 1) := by decide +kernel
theorem dX12_conflict_24 : decode cX12_conflict 24 = .ok (.invokevirtual 396, 3) := by decide +kernel
theorem dX12_conflict_27 : decode cX12_conflict 27 = .ok (.return_, 1) := by decide +kernel
theorem dX12_count_0 : decode cX12_count 0 = .ok (.aload_n 0, 1) := by decide +kernel
theorem dX12_count_1 : decode cX12_count 1 = .ok (.iload_n 1, 1) := by decide +kernel
theorem dX12_count_2 : decode cX12_count 2 = .ok (.ifCond .lt 9, 3) := by decide +kernel
theorem dX12_count_5 : decode cX12_count 5 = .ok (.iload_n 1, 1) := by decide +kernel
theorem dX12_count_6 : decode cX12_count 6 = .ok (.bipush 8, 2) := by decide +kernel
theorem dX12_count_8 : decode cX12_count 8 = .ok (.if_icmp .le 7, 3) := by decide +kernel
theorem dX12_count_11 : decode cX12_count 11 = .ok (.iconst 1, 1) := by decide +kernel
theorem dX12_count_12 : decode cX12_count 12 = .ok (.goto 4, 3) := by decide +kernel
theorem dX12_count_15 : decode cX12_count 15 = .ok (.iconst 0, 1) := by decide +kernel
theorem dX12_count_16 : decode cX12_count 16 = .ok (.invokevirtual 497, 3) := by decide +kernel
theorem dX12_count_19 : decode cX12_count 19 = .ok (.ifCond .eq 5, 3) := by decide +kernel
theorem dX12_count_22 : decode cX12_count 22 = .ok (.iconst 0, 1) := by decide +kernel
theorem dX12_count_23 : decode cX12_count 23 = .ok (.ireturn, 1) := by decide +kernel
theorem dX12_count_24 : decode cX12_count 24 = .ok (.iconst 0, 1) := by decide +kernel
theorem dX12_count_25 : decode cX12_count 25 = .ok (.istore_n 2, 1) := by decide +kernel
theorem dX12_count_26 : decode cX12_count 26 = .ok (.iload_n 1, 1) := by decide +kernel
theorem dX12_count_27 : decode cX12_count 27 = .ok (.tableswitch 114 0 7 #[45, 50, 55, 60, 65, 70, 75, 75], 45) := by decide +kernel
theorem dX12_count_72 : decode cX12_count 72 = .ok (.aload_n 0, 1) := by decide +kernel
theorem dX12_count_73 : decode cX12_count 73 = .ok (.getfield 494, 3) := by decide +kernel
theorem dX12_count_76 : decode cX12_count 76 = .ok (.ireturn, 1) := by decide +kernel
theorem dX12_count_77 : decode cX12_count 77 = .ok (.aload_n 0, 1) := by decide +kernel
theorem dX12_count_78 : decode cX12_count 78 = .ok (.getfield 332, 3) := by decide +kernel
theorem dX12_count_81 : decode cX12_count 81 = .ok (.ireturn, 1) := by decide +kernel
theorem dX12_count_82 : decode cX12_count 82 = .ok (.aload_n 0, 1) := by decide +kernel
theorem dX12_count_83 : decode cX12_count 83 = .ok (.getfield 148, 3) := by decide +kernel
theorem dX12_count_86 : decode cX12_count 86 = .ok (.ireturn, 1) := by decide +kernel
theorem dX12_count_87 : decode cX12_count 87 = .ok (.aload_n 0, 1) := by decide +kernel
theorem dX12_count_88 : decode cX12_count 88 = .ok (.getfield 341, 3) := by decide +kernel
theorem dX12_count_91 : decode cX12_count 91 = .ok (.ireturn, 1) := by decide +kernel
theorem dX12_count_92 : decode cX12_count 92 = .ok (.aload_n 0, 1) := by decide +kernel
theorem dX12_count_93 : decode cX12_count 93 = .ok (.getfield 335, 3) := by decide +kernel
theorem dX12_count_96 : decode cX12_count 96 = .ok (.ireturn, 1) := by decide +kernel
theorem dX12_count_97 : decode cX12_count 97 = .ok (.aload_n 0, 1) := by decide +kernel
theorem dX12_count_98 : decode cX12_count 98 = .ok (.getfield 338, 3) := by decide +kernel
theorem dX12_count_101 : decode cX12_count 101 = .ok (.ireturn, 1) := by decide +kernel
theorem dX12_count_102 : decode cX12_count 102 = .ok (.iconst 0, 1) := by decide +kernel
theorem dX12_count_103 : decode cX12_count 103 = .ok (.istore_n 3, 1) := by decide +kernel
theorem dX12_count_104 : decode cX12_count 104 = .ok (.iload_n 3, 1) := by decide +kernel
theorem dX12_count_105 : decode cX12_count 105 = .ok (.bipush 6, 2) := by decide +kernel
theorem dX12_count_107 : decode cX12_count 107 = .ok (.if_icmp .ge 32, 3) := by decide +kernel
theorem dX12_count_110 : decode cX12_count 110 = .ok (.aload_n 0, 1) := by decide +kernel
theorem dX12_count_111 : decode cX12_count 111 = .ok (.getfield 187, 3) := by decide +kernel
theorem dX12_count_114 : decode cX12_count 114 = .ok (.iload_n 3, 1) := by decide +kernel
theorem dX12_count_115 : decode cX12_count 115 = .ok (.iaload, 1) := by decide +kernel
theorem dX12_count_116 : decode cX12_count 116 = .ok (.iload_n 1, 1) := by decide +kernel
theorem dX12_count_117 : decode cX12_count 117 = .ok (.bipush 6, 2) := by decide +kernel
theorem dX12_count_119 : decode cX12_count 119 = .ok (.if_icmp .ne 7, 3) := by decide +kernel
theorem dX12_count_122 : decode cX12_count 122 = .ok (.iconst 2, 1) := by decide +kernel
theorem dX12_count_123 : decode cX12_count 123 = .ok (.goto 4, 3) := by decide +kernel
theorem dX12_count_126 : decode cX12_count 126 = .ok (.iconst 3, 1) := by decide +kernel
theorem dX12_count_127 : decode cX12_count 127 = .ok (.if_icmp .ne 6, 3) := by decide +kernel
theorem dX12_count_130 : decode cX12_count 130 = .ok (.iinc 2 1, 3) := by decide +kernel
theorem dX12_count_133 : decode cX12_count 133 = .ok (.iinc 3 1, 3) := by decide +kernel
theorem dX12_count_136 : decode cX12_count 136 = .ok (.goto (-32), 3) := by decide +kernel
theorem dX12_count_139 : decode cX12_count 139 = .ok (.iload_n 2, 1) := by decide +kernel
theorem dX12_count_140 : decode cX12_count 140 = .ok (.ireturn, 1) := by decide +kernel
theorem dX12_count_141 : decode cX12_count 141 = .ok (.iconst 0, 1) := by decide +kernel
theorem dX12_count_142 : decode cX12_count 142 = .ok (.istore_n 3, 1) := by decide +kernel
theorem dX12_count_143 : decode cX12_count 143 = .ok (.iload_n 3, 1) := by decide +kernel
theorem dX12_count_144 : decode cX12_count 144 = .ok (.bipush 26, 2) := by decide +kernel
theorem dX12_count_146 : decode cX12_count 146 = .ok (.if_icmp .ge 21, 3) := by decide +kernel
theorem dX12_count_149 : decode cX12_count 149 = .ok (.aload_n 0, 1) := by decide +kernel
theorem dX12_count_150 : decode cX12_count 150 = .ok (.getfield 177, 3) := by decide +kernel
theorem dX12_count_153 : decode cX12_count 153 = .ok (.iload_n 3, 1) := by decide +kernel
theorem dX12_count_154 : decode cX12_count 154 = .ok (.iaload, 1) := by decide +kernel
theorem dX12_count_155 : decode cX12_count 155 = .ok (.ifCond .lt 6, 3) := by decide +kernel
theorem dX12_count_158 : decode cX12_count 158 = .ok (.iinc 2 1, 3) := by decide +kernel
theorem dX12_count_161 : decode cX12_count 161 = .ok (.iinc 3 1, 3) := by decide +kernel
theorem dX12_count_164 : decode cX12_count 164 = .ok (.goto (-21), 3) := by decide +kernel
theorem dX12_count_167 : decode cX12_count 167 = .ok (.iload_n 2, 1) := by decide +kernel
theorem dX12_count_168 : decode cX12_count 168 = .ok (.ireturn, 1) := by decide +kernel
theorem dX12_doLook_0 : decode cX12_doLook 0 = .ok (.aload_n 0, 1) := by decide +kernel
theorem dX12_doLook_1 : decode cX12_doLook 1 = .ok (.getfield 187, 3) := by decide +kernel
theorem dX12_doLook_4 : decode cX12_doLook 4 = .ok (.iload_n 1, 1) := by decide +kernel
theorem dX12_doLook_5 : decode cX12_doLook 5 = .ok (.iaload, 1) := by decide +kernel
theorem dX12_doLook_6 : decode cX12_doLook 6 = .ok (.iconst 2, 1) := by decide +kernel
theorem dX12_doLook_7 : decode cX12_doLook 7 = .ok (.if_icmp .ne 14, 3) := by decide +kernel
theorem dX12_doLook_10 : decode cX12_doLook 10 = .ok (.aload_n 0, 1) := by decide +kernel
theorem dX12_doLook_11 : decode cX12_doLook 11 = .ok (.iload_n 1, 1) := by decide +kernel
theorem dX12_doLook_12 : decode cX12_doLook 12 = .ok (.iload_n 2, 1) := by decide +kernel
theorem dX12_doLook_13 : decode cX12_doLook 13 = .ok (.invokevirtual 479, 3) := by decide +kernel
theorem dX12_doLook_16 : decode cX12_doLook 16 = .ok (.ifCond .ne 56, 3) := by decide +kernel
theorem dX12_doLook_19 : decode cX12_doLook 19 = .ok (.iconst 1, 1) := by decide +kernel
theorem dX12_doLook_20 : decode cX12_doLook 20 = .ok (.ireturn, 1) := by decide +kernel
theorem dX12_doLook_21 : decode cX12_doLook 21 = .ok (.aload_n 0, 1) := by decide +kernel
theorem dX12_doLook_22 : decode cX12_doLook 22 = .ok (.aload_n 0, 1) := by decide +kernel
theorem dX12_doLook_23 : decode cX12_doLook 23 = .ok (.getfield 151, 3) := by decide +kernel
theorem dX12_doLook_26 : decode cX12_doLook 26 = .ok (.iload_n 2, 1) := by decide +kernel
theorem dX12_doLook_27 : decode cX12_doLook 27 = .ok (.iaload, 1) := by decide +kernel
theorem dX12_doLook_28 : decode cX12_doLook 28 = .ok (.putfield 405, 3) := by decide +kernel
theorem dX12_doLook_31 : decode cX12_doLook 31 = .ok (.aload_n 0, 1) := by decide +kernel
theorem dX12_doLook_32 : decode cX12_doLook 32 = .ok (.iload_n 1, 1) := by decide +kernel
theorem dX12_doLook_33 : decode cX12_doLook 33 = .ok (.aload_n 0, 1) := by decide +kernel
theorem dX12_doLook_34 : decode cX12_doLook 34 = .ok (.getfield 341, 3) := by decide +kernel
theorem dX12_doLook_37 : decode cX12_doLook 37 = .ok (.invokevirtual 425, 3) := by decide +kernel
theorem dX12_doLook_40 : decode cX12_doLook 40 = .ok (.istore_n 3, 1) := by decide +kernel
theorem dX12_doLook_41 : decode cX12_doLook 41 = .ok (.iload_n 3, 1) := by decide +kernel
theorem dX12_doLook_42 : decode cX12_doLook 42 = .ok (.ifCond .lt 30, 3) := by decide +kernel
theorem dX12_doLook_45 : decode cX12_doLook 45 = .ok (.aload_n 0, 1) := by decide +kernel
theorem dX12_doLook_46 : decode cX12_doLook 46 = .ok (.getfield 311, 3) := by decide +kernel
theorem dX12_doLook_49 : decode cX12_doLook 49 = .ok (.iload_n 3, 1) := by decide +kernel
theorem dX12_doLook_50 : decode cX12_doLook 50 = .ok (.bipush 26, 2) := by decide +kernel
theorem dX12_doLook_52 : decode cX12_doLook 52 = .ok (.imul, 1) := by decide +kernel
theorem dX12_doLook_53 : decode cX12_doLook 53 = .ok (.iload_n 2, 1) := by decide +kernel
theorem dX12_doLook_54 : decode cX12_doLook 54 = .ok (.iadd, 1) := by decide +kernel
theorem dX12_doLook_55 : decode cX12_doLook 55 = .ok (.iconst 1, 1) := by decide +kernel
theorem dX12_doLook_56 : decode cX12_doLook 56 = .ok (.bastore, 1) := by decide +kernel
theorem dX12_doLook_57 : decode cX12_doLook 57 = .ok (.aload_n 0, 1) := by decide +kernel
theorem dX12_doLook_58 : decode cX12_doLook 58 = .ok (.getfield 305, 3) := by decide +kernel
theorem dX12_doLook_61 : decode cX12_doLook 61 = .ok (.iload_n 3, 1) := by decide +kernel
theorem dX12_doLook_62 : decode cX12_doLook 62 = .ok (.bipush 26, 2) := by decide +kernel
theorem dX12_doLook_64 : decode cX12_doLook 64 = .ok (.imul, 1) := by decide +kernel
theorem dX12_doLook_65 : decode cX12_doLook 65 = .ok (.iload_n 2, 1) := by decide +kernel
theorem dX12_doLook_66 : decode cX12_doLook 66 = .ok (.iadd, 1) := by decide +kernel
theorem dX12_doLook_67 : decode cX12_doLook 67 = .ok (.aload_n 0, 1) := by decide +kernel
theorem dX12_doLook_68 : decode cX12_doLook 68 = .ok (.getfield 405, 3) := by decide +kernel
theorem dX12_doLook_71 : decode cX12_doLook 71 = .ok (.iastore, 1) := by decide +kernel
theorem dX12_doLook_72 : decode cX12_doLook 72 = .ok (.aload_n 0, 1) := by decide +kernel
theorem dX12_doLook_73 : decode cX12_doLook 73 = .ok (.iload_n 1, 1) := by decide +kernel
theorem dX12_doLook_74 : decode cX12_doLook 74 = .ok (.aload_n 0, 1) := by decide +kernel
theorem dX12_doLook_75 : decode cX12_doLook 75 = .ok (.getfield 405, 3) := by decide +kernel
theorem dX12_doLook_78 : decode cX12_doLook 78 = .ok (.invokevirtual 449, 3) := by decide +kernel
theorem dX12_doLook_81 : decode cX12_doLook 81 = .ok (.aload_n 0, 1) := by decide +kernel
theorem dX12_doLook_82 : decode cX12_doLook 82 = .ok (.getfield 190, 3) := by decide +kernel
theorem dX12_doLook_85 : decode cX12_doLook 85 = .ok (.iload_n 1, 1) := by decide +kernel
theorem dX12_doLook_86 : decode cX12_doLook 86 = .ok (.dup2, 1) := by decide +kernel
theorem dX12_doLook_87 : decode cX12_doLook 87 = .ok (.iaload, 1) := by decide +kernel
theorem dX12_doLook_88 : decode cX12_doLook 88 = .ok (.iconst 1, 1) := by decide +kernel
theorem dX12_doLook_89 : decode cX12_doLook 89 = .ok (.iadd, 1) := by decide +kernel
theorem dX12_doLook_90 : decode cX12_doLook 90 = .ok (.iastore, 1) := by decide +kernel
theorem dX12_doLook_91 : decode cX12_doLook 91 = .ok (.iconst 0, 1) := by decide +kernel
theorem dX12_doLook_92 : decode cX12_doLook 92 = .ok (.ireturn, 1) := by decide +kernel
theorem dX12_doWrite_0 : decode cX12_doWrite 0 = .ok (.aload_n 0, 1) := by decide +kernel
theorem dX12_doWrite_1 : decode cX12_doWrite 1 = .ok (.iload_n 1, 1) := by decide +kernel
theorem dX12_doWrite_2 : decode cX12_doWrite 2 = .ok (.invokevirtual 455, 3) := by decide +kernel
theorem dX12_doWrite_5 : decode cX12_doWrite 5 = .ok (.istore_n 3, 1) := by decide +kernel
theorem dX12_doWrite_6 : decode cX12_doWrite 6 = .ok (.aload_n 0, 1) := by decide +kernel
theorem dX12_doWrite_7 : decode cX12_doWrite 7 = .ok (.getfield 187, 3) := by decide +kernel
theorem dX12_doWrite_10 : decode cX12_doWrite 10 = .ok (.iload_n 1, 1) := by decide +kernel
theorem dX12_doWrite_11 : decode cX12_doWrite 11 = .ok (.iaload, 1) := by decide +kernel
theorem dX12_doWrite_12 : decode cX12_doWrite 12 = .ok (.iconst 2, 1) := by decide +kernel
theorem dX12_doWrite_13 : decode cX12_doWrite 13 = .ok (.if_icmp .ne 15, 3) := by decide +kernel
theorem dX12_doWrite_16 : decode cX12_doWrite 16 = .ok (.aload_n 0, 1) := by decide +kernel
theorem dX12_doWrite_17 : decode cX12_doWrite 17 = .ok (.iload_n 1, 1) := by decide +kernel
theorem dX12_doWrite_18 : decode cX12_doWrite 18 = .ok (.iload_n 2, 1) := by decide +kernel
theorem dX12_doWrite_19 : decode cX12_doWrite 19 = .ok (.iload_n 3, 1) := by decide +kernel
theorem dX12_doWrite_20 : decode cX12_doWrite 20 = .ok (.invokevirtual 482, 3) := by decide +kernel
theorem dX12_doWrite_23 : decode cX12_doWrite 23 = .ok (.ifCond .ne 53, 3) := by decide +kernel
theorem dX12_doWrite_26 : decode cX12_doWrite 26 = .ok (.iconst 1, 1) := by decide +kernel
theorem dX12_doWrite_27 : decode cX12_doWrite 27 = .ok (.ireturn, 1) := by decide +kernel
theorem dX12_doWrite_28 : decode cX12_doWrite 28 = .ok (.aload_n 0, 1) := by decide +kernel
theorem dX12_doWrite_29 : decode cX12_doWrite 29 = .ok (.iload_n 2, 1) := by decide +kernel
theorem dX12_doWrite_30 : decode cX12_doWrite 30 = .ok (.iload_n 3, 1) := by decide +kernel
theorem dX12_doWrite_31 : decode cX12_doWrite 31 = .ok (.invokevirtual 485, 3) := by decide +kernel
theorem dX12_doWrite_34 : decode cX12_doWrite 34 = .ok (.aload_n 0, 1) := by decide +kernel
theorem dX12_doWrite_35 : decode cX12_doWrite 35 = .ok (.iload_n 1, 1) := by decide +kernel
theorem dX12_doWrite_36 : decode cX12_doWrite 36 = .ok (.aload_n 0, 1) := by decide +kernel
theorem dX12_doWrite_37 : decode cX12_doWrite 37 = .ok (.getfield 341, 3) := by decide +kernel
theorem dX12_doWrite_40 : decode cX12_doWrite 40 = .ok (.invokevirtual 425, 3) := by decide +kernel
theorem dX12_doWrite_43 : decode cX12_doWrite 43 = .ok (.istore 4, 2) := by decide +kernel
theorem dX12_doWrite_45 : decode cX12_doWrite 45 = .ok (.iload 4, 2) := by decide +kernel
theorem dX12_doWrite_47 : decode cX12_doWrite 47 = .ok (.ifCond .lt 29, 3) := by decide +kernel
theorem dX12_doWrite_50 : decode cX12_doWrite 50 = .ok (.aload_n 0, 1) := by decide +kernel
theorem dX12_doWrite_51 : decode cX12_doWrite 51 = .ok (.getfield 314, 3) := by decide +kernel
theorem dX12_doWrite_54 : decode cX12_doWrite 54 = .ok (.iload 4, 2) := by decide +kernel
theorem dX12_doWrite_56 : decode cX12_doWrite 56 = .ok (.bipush 26, 2) := by decide +kernel
theorem dX12_doWrite_58 : decode cX12_doWrite 58 = .ok (.imul, 1) := by decide +kernel
theorem dX12_doWrite_59 : decode cX12_doWrite 59 = .ok (.iload_n 2, 1) := by decide +kernel
theorem dX12_doWrite_60 : decode cX12_doWrite 60 = .ok (.iadd, 1) := by decide +kernel
theorem dX12_doWrite_61 : decode cX12_doWrite 61 = .ok (.iconst 1, 1) := by decide +kernel
theorem dX12_doWrite_62 : decode cX12_doWrite 62 = .ok (.bastore, 1) := by decide +kernel
theorem dX12_doWrite_63 : decode cX12_doWrite 63 = .ok (.aload_n 0, 1) := by decide +kernel
theorem dX12_doWrite_64 : decode cX12_doWrite 64 = .ok (.getfield 308, 3) := by decide +kernel
theorem dX12_doWrite_67 : decode cX12_doWrite 67 = .ok (.iload 4, 2) := by decide +kernel
theorem dX12_doWrite_69 : decode cX12_doWrite 69 = .ok (.bipush 26, 2) := by decide +kernel
theorem dX12_doWrite_71 : decode cX12_doWrite 71 = .ok (.imul, 1) := by decide +kernel
theorem dX12_doWrite_72 : decode cX12_doWrite 72 = .ok (.iload_n 2, 1) := by decide +kernel
theorem dX12_doWrite_73 : decode cX12_doWrite 73 = .ok (.iadd, 1) := by decide +kernel
theorem dX12_doWrite_74 : decode cX12_doWrite 74 = .ok (.iload_n 3, 1) := by decide +kernel
theorem dX12_doWrite_75 : decode cX12_doWrite 75 = .ok (.iastore, 1) := by decide +kernel
theorem dX12_doWrite_76 : decode cX12_doWrite 76 = .ok (.aload_n 0, 1) := by decide +kernel
theorem dX12_doWrite_77 : decode cX12_doWrite 77 = .ok (.getfield 190, 3) := by decide +kernel
theorem dX12_doWrite_80 : decode cX12_doWrite 80 = .ok (.iload_n 1, 1) := by decide +kernel
theorem dX12_doWrite_81 : decode cX12_doWrite 81 = .ok (.dup2, 1) := by decide +kernel
theorem dX12_doWrite_82 : decode cX12_doWrite 82 = .ok (.iaload, 1) := by decide +kernel
theorem dX12_doWrite_83 : decode cX12_doWrite 83 = .ok (.iconst 1, 1) := by decide +kernel
theorem dX12_doWrite_84 : decode cX12_doWrite 84 = .ok (.iadd, 1) := by decide +kernel
theorem dX12_doWrite_85 : decode cX12_doWrite 85 = .ok (.iastore, 1) := by decide +kernel
theorem dX12_doWrite_86 : decode cX12_doWrite 86 = .ok (.iconst 0, 1) := by decide +kernel
theorem dX12_doWrite_87 : decode cX12_doWrite 87 = .ok (.ireturn, 1) := by decide +kernel
theorem dX12_done_0 : decode cX12_done 0 = .ok (.aload_n 0, 1) := by decide +kernel
theorem dX12_done_1 : decode cX12_done 1 = .ok (.iload_n 1, 1) := by decide +kernel
theorem dX12_done_2 : decode cX12_done 2 = .ok (.aload_n 0, 1) := by decide +kernel
theorem dX12_done_3 : decode cX12_done 3 = .ok (.getfield 226, 3) := by decide +kernel
theorem dX12_done_6 : decode cX12_done 6 = .ok (.iload_n 1, 1) := by decide +kernel
theorem dX12_done_7 : decode cX12_done 7 = .ok (.iaload, 1) := by decide +kernel
theorem dX12_done_8 : decode cX12_done 8 = .ok (.invokevirtual 425, 3) := by decide +kernel
theorem dX12_done_11 : decode cX12_done 11 = .ok (.istore_n 2, 1) := by decide +kernel
theorem dX12_done_12 : decode cX12_done 12 = .ok (.iconst 0, 1) := by decide +kernel
theorem dX12_done_13 : decode cX12_done 13 = .ok (.istore_n 3, 1) := by decide +kernel
theorem dX12_done_14 : decode cX12_done 14 = .ok (.iload_n 3, 1) := by decide +kernel
theorem dX12_done_15 : decode cX12_done 15 = .ok (.bipush 26, 2) := by decide +kernel
theorem dX12_done_17 : decode cX12_done 17 = .ok (.if_icmp .ge 110, 3) := by decide +kernel
theorem dX12_done_20 : decode cX12_done 20 = .ok (.iload_n 2, 1) := by decide +kernel
theorem dX12_done_21 : decode cX12_done 21 = .ok (.ifCond .lt 106, 3) := by decide +kernel
theorem dX12_done_24 : decode cX12_done 24 = .ok (.aload_n 0, 1) := by decide +kernel
theorem dX12_done_25 : decode cX12_done 25 = .ok (.iload_n 1, 1) := by decide +kernel
theorem dX12_done_26 : decode cX12_done 26 = .ok (.iconst 0, 1) := by decide +kernel
theorem dX12_done_27 : decode cX12_done 27 = .ok (.iload_n 3, 1) := by decide +kernel
theorem dX12_done_28 : decode cX12_done 28 = .ok (.invokevirtual 357, 3) := by decide +kernel
theorem dX12_done_31 : decode cX12_done 31 = .ok (.istore 4, 2) := by decide +kernel
theorem dX12_done_33 : decode cX12_done 33 = .ok (.aload_n 0, 1) := by decide +kernel
theorem dX12_done_34 : decode cX12_done 34 = .ok (.getfield 311, 3) := by decide +kernel
theorem dX12_done_37 : decode cX12_done 37 = .ok (.iload_n 2, 1) := by decide +kernel
theorem dX12_done_38 : decode cX12_done 38 = .ok (.bipush 26, 2) := by decide +kernel
theorem dX12_done_40 : decode cX12_done 40 = .ok (.imul, 1) := by decide +kernel
theorem dX12_done_41 : decode cX12_done 41 = .ok (.iload_n 3, 1) := by decide +kernel
theorem dX12_done_42 : decode cX12_done 42 = .ok (.iadd, 1) := by decide +kernel
theorem dX12_done_43 : decode cX12_done 43 = .ok (.aload_n 0, 1) := by decide +kernel
theorem dX12_done_44 : decode cX12_done 44 = .ok (.getfield 266, 3) := by decide +kernel
theorem dX12_done_47 : decode cX12_done 47 = .ok (.iload 4, 2) := by decide +kernel
theorem dX12_done_49 : decode cX12_done 49 = .ok (.baload, 1) := by decide +kernel
theorem dX12_done_50 : decode cX12_done 50 = .ok (.bastore, 1) := by decide +kernel
theorem dX12_done_51 : decode cX12_done 51 = .ok (.aload_n 0, 1) := by decide +kernel
theorem dX12_done_52 : decode cX12_done 52 = .ok (.getfield 305, 3) := by decide +kernel
theorem dX12_done_55 : decode cX12_done 55 = .ok (.iload_n 2, 1) := by decide +kernel
theorem dX12_done_56 : decode cX12_done 56 = .ok (.bipush 26, 2) := by decide +kernel
theorem dX12_done_58 : decode cX12_done 58 = .ok (.imul, 1) := by decide +kernel
theorem dX12_done_59 : decode cX12_done 59 = .ok (.iload_n 3, 1) := by decide +kernel
theorem dX12_done_60 : decode cX12_done 60 = .ok (.iadd, 1) := by decide +kernel
theorem dX12_done_61 : decode cX12_done 61 = .ok (.aload_n 0, 1) := by decide +kernel
theorem dX12_done_62 : decode cX12_done 62 = .ok (.getfield 272, 3) := by decide +kernel
theorem dX12_done_65 : decode cX12_done 65 = .ok (.iload 4, 2) := by decide +kernel
theorem dX12_done_67 : decode cX12_done 67 = .ok (.iaload, 1) := by decide +kernel
theorem dX12_done_68 : decode cX12_done 68 = .ok (.iastore, 1) := by decide +kernel
theorem dX12_done_69 : decode cX12_done 69 = .ok (.aload_n 0, 1) := by decide +kernel
theorem dX12_done_70 : decode cX12_done 70 = .ok (.getfield 314, 3) := by decide +kernel
theorem dX12_done_73 : decode cX12_done 73 = .ok (.iload_n 2, 1) := by decide +kernel
theorem dX12_done_74 : decode cX12_done 74 = .ok (.bipush 26, 2) := by decide +kernel
theorem dX12_done_76 : decode cX12_done 76 = .ok (.imul, 1) := by decide +kernel
theorem dX12_done_77 : decode cX12_done 77 = .ok (.iload_n 3, 1) := by decide +kernel
theorem dX12_done_78 : decode cX12_done 78 = .ok (.iadd, 1) := by decide +kernel
theorem dX12_done_79 : decode cX12_done 79 = .ok (.aload_n 0, 1) := by decide +kernel
theorem dX12_done_80 : decode cX12_done 80 = .ok (.getfield 269, 3) := by decide +kernel
theorem dX12_done_83 : decode cX12_done 83 = .ok (.iload 4, 2) := by decide +kernel
theorem dX12_done_85 : decode cX12_done 85 = .ok (.baload, 1) := by decide +kernel
theorem dX12_done_86 : decode cX12_done 86 = .ok (.bastore, 1) := by decide +kernel
theorem dX12_done_87 : decode cX12_done 87 = .ok (.aload_n 0, 1) := by decide +kernel
theorem dX12_done_88 : decode cX12_done 88 = .ok (.getfield 308, 3) := by decide +kernel
theorem dX12_done_91 : decode cX12_done 91 = .ok (.iload_n 2, 1) := by decide +kernel
theorem dX12_done_92 : decode cX12_done 92 = .ok (.bipush 26, 2) := by decide +kernel
theorem dX12_done_94 : decode cX12_done 94 = .ok (.imul, 1) := by decide +kernel
theorem dX12_done_95 : decode cX12_done 95 = .ok (.iload_n 3, 1) := by decide +kernel
theorem dX12_done_96 : decode cX12_done 96 = .ok (.iadd, 1) := by decide +kernel
theorem dX12_done_97 : decode cX12_done 97 = .ok (.aload_n 0, 1) := by decide +kernel
theorem dX12_done_98 : decode cX12_done 98 = .ok (.invokevirtual 369, 3) := by decide +kernel
theorem dX12_done_101 : decode cX12_done 101 = .ok (.ifCond .eq 12, 3) := by decide +kernel
theorem dX12_done_104 : decode cX12_done 104 = .ok (.aload_n 0, 1) := by decide +kernel
theorem dX12_done_105 : decode cX12_done 105 = .ok (.getfield 151, 3) := by decide +kernel
theorem dX12_done_108 : decode cX12_done 108 = .ok (.iload_n 3, 1) := by decide +kernel
theorem dX12_done_109 : decode cX12_done 109 = .ok (.iaload, 1) := by decide +kernel
theorem dX12_done_110 : decode cX12_done 110 = .ok (.goto 10, 3) := by decide +kernel
theorem dX12_done_113 : decode cX12_done 113 = .ok (.aload_n 0, 1) := by decide +kernel
theorem dX12_done_114 : decode cX12_done 114 = .ok (.getfield 281, 3) := by decide +kernel
theorem dX12_done_117 : decode cX12_done 117 = .ok (.iload 4, 2) := by decide +kernel
theorem dX12_done_119 : decode cX12_done 119 = .ok (.iaload, 1) := by decide +kernel
theorem dX12_done_120 : decode cX12_done 120 = .ok (.iastore, 1) := by decide +kernel
theorem dX12_done_121 : decode cX12_done 121 = .ok (.iinc 3 1, 3) := by decide +kernel
theorem dX12_done_124 : decode cX12_done 124 = .ok (.goto (-110), 3) := by decide +kernel
theorem dX12_done_127 : decode cX12_done 127 = .ok (.aload_n 0, 1) := by decide +kernel
theorem dX12_done_128 : decode cX12_done 128 = .ok (.invokevirtual 369, 3) := by decide +kernel
theorem dX12_done_131 : decode cX12_done 131 = .ok (.ifCond .eq 11, 3) := by decide +kernel
theorem dX12_done_134 : decode cX12_done 134 = .ok (.aload_n 0, 1) := by decide +kernel
theorem dX12_done_135 : decode cX12_done 135 = .ok (.iload_n 1, 1) := by decide +kernel
theorem dX12_done_136 : decode cX12_done 136 = .ok (.invokevirtual 386, 3) := by decide +kernel
theorem dX12_done_139 : decode cX12_done 139 = .ok (.goto 76, 3) := by decide +kernel
theorem dX12_done_142 : decode cX12_done 142 = .ok (.aload_n 0, 1) := by decide +kernel
theorem dX12_done_143 : decode cX12_done 143 = .ok (.iload_n 1, 1) := by decide +kernel
theorem dX12_done_144 : decode cX12_done 144 = .ok (.invokevirtual 422, 3) := by decide +kernel
theorem dX12_done_147 : decode cX12_done 147 = .ok (.ifCond .eq 68, 3) := by decide +kernel
theorem dX12_done_150 : decode cX12_done 150 = .ok (.aload_n 0, 1) := by decide +kernel
theorem dX12_done_151 : decode cX12_done 151 = .ok (.dup, 1) := by decide +kernel
theorem dX12_done_152 : decode cX12_done 152 = .ok (.getfield 148, 3) := by decide +kernel
theorem dX12_done_155 : decode cX12_done 155 = .ok (.iconst 1, 1) := by decide +kernel
theorem dX12_done_156 : decode cX12_done 156 = .ok (.iadd, 1) := by decide +kernel
theorem dX12_done_157 : decode cX12_done 157 = .ok (.putfield 148, 3) := by decide +kernel
theorem dX12_done_160 : decode cX12_done 160 = .ok (.iconst 0, 1) := by decide +kernel
theorem dX12_done_161 : decode cX12_done 161 = .ok (.istore_n 3, 1) := by decide +kernel
theorem dX12_done_162 : decode cX12_done 162 = .ok (.iload_n 3, 1) := by decide +kernel
theorem dX12_done_163 : decode cX12_done 163 = .ok (.bipush 26, 2) := by decide +kernel
theorem dX12_done_165 : decode cX12_done 165 = .ok (.if_icmp .ge 50, 3) := by decide +kernel
theorem dX12_done_168 : decode cX12_done 168 = .ok (.aload_n 0, 1) := by decide +kernel
theorem dX12_done_169 : decode cX12_done 169 = .ok (.getfield 269, 3) := by decide +kernel
theorem dX12_done_172 : decode cX12_done 172 = .ok (.aload_n 0, 1) := by decide +kernel
theorem dX12_done_173 : decode cX12_done 173 = .ok (.iload_n 1, 1) := by decide +kernel
theorem dX12_done_174 : decode cX12_done 174 = .ok (.iconst 0, 1) := by decide +kernel
theorem dX12_done_175 : decode cX12_done 175 = .ok (.iload_n 3, 1) := by decide +kernel
theorem dX12_done_176 : decode cX12_done 176 = .ok (.invokevirtual 357, 3) := by decide +kernel
theorem dX12_done_179 : decode cX12_done 179 = .ok (.baload, 1) := by decide +kernel
theorem dX12_done_180 : decode cX12_done 180 = .ok (.ifCond .ne 6, 3) := by decide +kernel
theorem dX12_done_183 : decode cX12_done 183 = .ok (.goto 26, 3) := by decide +kernel
theorem dX12_done_186 : decode cX12_done 186 = .ok (.aload_n 0, 1) := by decide +kernel
theorem dX12_done_187 : decode cX12_done 187 = .ok (.getfield 151, 3) := by decide +kernel
theorem dX12_done_190 : decode cX12_done 190 = .ok (.iload_n 3, 1) := by decide +kernel
theorem dX12_done_191 : decode cX12_done 191 = .ok (.aload_n 0, 1) := by decide +kernel
theorem dX12_done_192 : decode cX12_done 192 = .ok (.getfield 281, 3) := by decide +kernel
theorem dX12_done_195 : decode cX12_done 195 = .ok (.aload_n 0, 1) := by decide +kernel
theorem dX12_done_196 : decode cX12_done 196 = .ok (.iload_n 1, 1) := by decide +kernel
theorem dX12_done_197 : decode cX12_done 197 = .ok (.iconst 0, 1) := by decide +kernel
theorem dX12_done_198 : decode cX12_done 198 = .ok (.iload_n 3, 1) := by decide +kernel
theorem dX12_done_199 : decode cX12_done 199 = .ok (.invokevirtual 357, 3) := by decide +kernel
theorem dX12_done_202 : decode cX12_done 202 = .ok (.iaload, 1) := by decide +kernel
theorem dX12_done_203 : decode cX12_done 203 = .ok (.iastore, 1) := by decide +kernel
theorem dX12_done_204 : decode cX12_done 204 = .ok (.aload_n 0, 1) := by decide +kernel
theorem dX12_done_205 : decode cX12_done 205 = .ok (.iload_n 3, 1) := by decide +kernel
theorem dX12_done_206 : decode cX12_done 206 = .ok (.invokevirtual 160, 3) := by decide +kernel
theorem dX12_done_209 : decode cX12_done 209 = .ok (.iinc 3 1, 3) := by decide +kernel
theorem dX12_done_212 : decode cX12_done 212 = .ok (.goto (-50), 3) := by decide +kernel
theorem dX12_done_215 : decode cX12_done 215 = .ok (.iconst 0, 1) := by decide +kernel
theorem dX12_done_216 : decode cX12_done 216 = .ok (.istore_n 3, 1) := by decide +kernel
theorem dX12_done_217 : decode cX12_done 217 = .ok (.iload_n 3, 1) := by decide +kernel
theorem dX12_done_218 : decode cX12_done 218 = .ok (.aload_n 0, 1) := by decide +kernel
theorem dX12_done_219 : decode cX12_done 219 = .ok (.getfield 287, 3) := by decide +kernel
theorem dX12_done_222 : decode cX12_done 222 = .ok (.aload_n 0, 1) := by decide +kernel
theorem dX12_done_223 : decode cX12_done 223 = .ok (.iload_n 1, 1) := by decide +kernel
theorem dX12_done_224 : decode cX12_done 224 = .ok (.iconst 0, 1) := by decide +kernel
theorem dX12_done_225 : decode cX12_done 225 = .ok (.invokevirtual 360, 3) := by decide +kernel
theorem dX12_done_228 : decode cX12_done 228 = .ok (.iaload, 1) := by decide +kernel
theorem dX12_done_229 : decode cX12_done 229 = .ok (.if_icmp .ge 31, 3) := by decide +kernel
theorem dX12_done_232 : decode cX12_done 232 = .ok (.aload_n 0, 1) := by decide +kernel
theorem dX12_done_233 : decode cX12_done 233 = .ok (.iload_n 1, 1) := by decide +kernel
theorem dX12_done_234 : decode cX12_done 234 = .ok (.aload_n 0, 1) := by decide +kernel
theorem dX12_done_235 : decode cX12_done 235 = .ok (.getfield 284, 3) := by decide +kernel
theorem dX12_done_238 : decode cX12_done 238 = .ok (.aload_n 0, 1) := by decide +kernel
theorem dX12_done_239 : decode cX12_done 239 = .ok (.iload_n 1, 1) := by decide +kernel
theorem dX12_done_240 : decode cX12_done 240 = .ok (.iconst 0, 1) := by decide +kernel
theorem dX12_done_241 : decode cX12_done 241 = .ok (.invokevirtual 360, 3) := by decide +kernel
theorem dX12_done_244 : decode cX12_done 244 = .ok (.sipush 200, 3) := by decide +kernel
theorem dX12_done_247 : decode cX12_done 247 = .ok (.imul, 1) := by decide +kernel
theorem dX12_done_248 : decode cX12_done 248 = .ok (.iload_n 3, 1) := by decide +kernel
theorem dX12_done_249 : decode cX12_done 249 = .ok (.iadd, 1) := by decide +kernel
theorem dX12_done_250 : decode cX12_done 250 = .ok (.iaload, 1) := by decide +kernel
theorem dX12_done_251 : decode cX12_done 251 = .ok (.invokevirtual 428, 3) := by decide +kernel
theorem dX12_done_254 : decode cX12_done 254 = .ok (.iinc 3 1, 3) := by decide +kernel
theorem dX12_done_257 : decode cX12_done 257 = .ok (.goto (-40), 3) := by decide +kernel
theorem dX12_done_260 : decode cX12_done 260 = .ok (.aload_n 0, 1) := by decide +kernel
theorem dX12_done_261 : decode cX12_done 261 = .ok (.getfield 202, 3) := by decide +kernel
theorem dX12_done_264 : decode cX12_done 264 = .ok (.iload_n 1, 1) := by decide +kernel
theorem dX12_done_265 : decode cX12_done 265 = .ok (.iconst 0, 1) := by decide +kernel
theorem dX12_done_266 : decode cX12_done 266 = .ok (.iastore, 1) := by decide +kernel
theorem dX12_done_267 : decode cX12_done 267 = .ok (.aload_n 0, 1) := by decide +kernel
theorem dX12_done_268 : decode cX12_done 268 = .ok (.iload_n 1, 1) := by decide +kernel
theorem dX12_done_269 : decode cX12_done 269 = .ok (.iconst 0, 1) := by decide +kernel
theorem dX12_done_270 : decode cX12_done 270 = .ok (.invokevirtual 353, 3) := by decide +kernel
theorem dX12_done_273 : decode cX12_done 273 = .ok (.aload_n 0, 1) := by decide +kernel
theorem dX12_done_274 : decode cX12_done 274 = .ok (.getfield 220, 3) := by decide +kernel
theorem dX12_done_277 : decode cX12_done 277 = .ok (.iload_n 1, 1) := by decide +kernel
theorem dX12_done_278 : decode cX12_done 278 = .ok (.dup2, 1) := by decide +kernel
theorem dX12_done_279 : decode cX12_done 279 = .ok (.iaload, 1) := by decide +kernel
theorem dX12_done_280 : decode cX12_done 280 = .ok (.iconst 1, 1) := by decide +kernel
theorem dX12_done_281 : decode cX12_done 281 = .ok (.iadd, 1) := by decide +kernel
theorem dX12_done_282 : decode cX12_done 282 = .ok (.iastore, 1) := by decide +kernel
theorem dX12_done_283 : decode cX12_done 283 = .ok (.aload_n 0, 1) := by decide +kernel
theorem dX12_done_284 : decode cX12_done 284 = .ok (.getfield 187, 3) := by decide +kernel
theorem dX12_done_287 : decode cX12_done 287 = .ok (.iload_n 1, 1) := by decide +kernel
theorem dX12_done_288 : decode cX12_done 288 = .ok (.iconst 1, 1) := by decide +kernel
theorem dX12_done_289 : decode cX12_done 289 = .ok (.iastore, 1) := by decide +kernel
theorem dX12_done_290 : decode cX12_done 290 = .ok (.return_, 1) := by decide +kernel
theorem dX12_dropReads_0 : decode cX12_dropReads 0 = .ok (.iconst 0, 1) := by decide +kernel
theorem dX12_dropReads_1 : decode cX12_dropReads 1 = .ok (.istore_n 3, 1) := by decide +kernel
theorem dX12_dropReads_2 : decode cX12_dropReads 2 = .ok (.iload_n 3, 1) := by decide +kernel
theorem dX12_dropReads_3 : decode cX12_dropReads 3 = .ok (.bipush 26, 2) := by decide +kernel
theorem dX12_dropReads_5 : decode cX12_dropReads 5 = .ok (.if_icmp .ge 22, 3) := by decide +kernel
theorem dX12_dropReads_8 : decode cX12_dropReads 8 = .ok (.aload_n 0, 1) := by decide +kernel
theorem dX12_dropReads_9 : decode cX12_dropReads 9 = .ok (.getfield 266, 3) := by decide +kernel
theorem dX12_dropReads_12 : decode cX12_dropReads 12 = .ok (.aload_n 0, 1) := by decide +kernel
theorem dX12_dropReads_13 : decode cX12_dropReads 13 = .ok (.iload_n 1, 1) := by decide +kernel
theorem dX12_dropReads_14 : decode cX12_dropReads 14 = .ok (.iload_n 2, 1) := by decide +kernel
theorem dX12_dropReads_15 : decode cX12_dropReads 15 = .ok (.iload_n 3, 1) := by decide +kernel
theorem dX12_dropReads_16 : decode cX12_dropReads 16 = .ok (.invokevirtual 357, 3) := by decide +kernel
theorem dX12_dropReads_19 : decode cX12_dropReads 19 = .ok (.iconst 0, 1) := by decide +kernel
theorem dX12_dropReads_20 : decode cX12_dropReads 20 = .ok (.bastore, 1) := by decide +kernel
theorem dX12_dropReads_21 : decode cX12_dropReads 21 = .ok (.iinc 3 1, 3) := by decide +kernel
theorem dX12_dropReads_24 : decode cX12_dropReads 24 = .ok (.goto (-22), 3) := by decide +kernel
theorem dX12_dropReads_27 : decode cX12_dropReads 27 = .ok (.return_, 1) := by decide +kernel
theorem dX12_end_0 : decode cX12_end 0 = .ok (.aload_n 0, 1) := by decide +kernel
theorem dX12_end_1 : decode cX12_end 1 = .ok (.iload_n 1, 1) := by decide +kernel
theorem dX12_end_2 : decode cX12_end 2 = .ok (.ifCond .lt 11, 3) := by decide +kernel
theorem dX12_end_5 : decode cX12_end 5 = .ok (.iload_n 1, 1) := by decide +kernel
theorem dX12_end_6 : decode cX12_end 6 = .ok (.aload_n 0, 1) := by decide +kernel
theorem dX12_end_7 : decode cX12_end 7 = .ok (.getfield 494, 3) := by decide +kernel
theorem dX12_end_10 : decode cX12_end 10 = .ok (.if_icmp .le 7, 3) := by decide +kernel
theorem dX12_end_13 : decode cX12_end 13 = .ok (.iconst 1, 1) := by decide +kernel
theorem dX12_end_14 : decode cX12_end 14 = .ok (.goto 4, 3) := by decide +kernel
theorem dX12_end_17 : decode cX12_end 17 = .ok (.iconst 0, 1) := by decide +kernel
theorem dX12_end_18 : decode cX12_end 18 = .ok (.invokevirtual 497, 3) := by decide +kernel
theorem dX12_end_21 : decode cX12_end 21 = .ok (.ifCond .eq 5, 3) := by decide +kernel
theorem dX12_end_24 : decode cX12_end 24 = .ok (.iconst 0, 1) := by decide +kernel
theorem dX12_end_25 : decode cX12_end 25 = .ok (.ireturn, 1) := by decide +kernel
theorem dX12_end_26 : decode cX12_end 26 = .ok (.aload_n 0, 1) := by decide +kernel
theorem dX12_end_27 : decode cX12_end 27 = .ok (.iload_n 1, 1) := by decide +kernel
theorem dX12_end_28 : decode cX12_end 28 = .ok (.putfield 494, 3) := by decide +kernel
theorem dX12_end_31 : decode cX12_end 31 = .ok (.iload_n 1, 1) := by decide +kernel
theorem dX12_end_32 : decode cX12_end 32 = .ok (.ireturn, 1) := by decide +kernel
theorem dX12_endBlock_0 : decode cX12_endBlock 0 = .ok (.aload_n 0, 1) := by decide +kernel
theorem dX12_endBlock_1 : decode cX12_endBlock 1 = .ok (.getfield 229, 3) := by decide +kernel
theorem dX12_endBlock_4 : decode cX12_endBlock 4 = .ok (.aload_n 0, 1) := by decide +kernel
theorem dX12_endBlock_5 : decode cX12_endBlock 5 = .ok (.iload_n 1, 1) := by decide +kernel
theorem dX12_endBlock_6 : decode cX12_endBlock 6 = .ok (.aload_n 0, 1) := by decide +kernel
theorem dX12_endBlock_7 : decode cX12_endBlock 7 = .ok (.getfield 205, 3) := by decide +kernel
theorem dX12_endBlock_10 : decode cX12_endBlock 10 = .ok (.iload_n 1, 1) := by decide +kernel
theorem dX12_endBlock_11 : decode cX12_endBlock 11 = .ok (.iaload, 1) := by decide +kernel
theorem dX12_endBlock_12 : decode cX12_endBlock 12 = .ok (.iconst 1, 1) := by decide +kernel
theorem dX12_endBlock_13 : decode cX12_endBlock 13 = .ok (.isub, 1) := by decide +kernel
theorem dX12_endBlock_14 : decode cX12_endBlock 14 = .ok (.invokevirtual 360, 3) := by decide +kernel
theorem dX12_endBlock_17 : decode cX12_endBlock 17 = .ok (.iaload, 1) := by decide +kernel
theorem dX12_endBlock_18 : decode cX12_endBlock 18 = .ok (.istore_n 2, 1) := by decide +kernel
theorem dX12_endBlock_19 : decode cX12_endBlock 19 = .ok (.iload_n 2, 1) := by decide +kernel
theorem dX12_endBlock_20 : decode cX12_endBlock 20 = .ok (.ifCond .ne 40, 3) := by decide +kernel
theorem dX12_endBlock_23 : decode cX12_endBlock 23 = .ok (.aload_n 0, 1) := by decide +kernel
theorem dX12_endBlock_24 : decode cX12_endBlock 24 = .ok (.iload_n 1, 1) := by decide +kernel
theorem dX12_endBlock_25 : decode cX12_endBlock 25 = .ok (.invokevirtual 437, 3) := by decide +kernel
theorem dX12_endBlock_28 : decode cX12_endBlock 28 = .ok (.ifCond .ne 5, 3) := by decide +kernel
theorem dX12_endBlock_31 : decode cX12_endBlock 31 = .ok (.iconst 1, 1) := by decide +kernel
theorem dX12_endBlock_32 : decode cX12_endBlock 32 = .ok (.ireturn, 1) := by decide +kernel
theorem dX12_endBlock_33 : decode cX12_endBlock 33 = .ok (.aload_n 0, 1) := by decide +kernel
theorem dX12_endBlock_34 : decode cX12_endBlock 34 = .ok (.getfield 205, 3) := by decide +kernel
theorem dX12_endBlock_37 : decode cX12_endBlock 37 = .ok (.iload_n 1, 1) := by decide +kernel
theorem dX12_endBlock_38 : decode cX12_endBlock 38 = .ok (.dup2, 1) := by decide +kernel
theorem dX12_endBlock_39 : decode cX12_endBlock 39 = .ok (.iaload, 1) := by decide +kernel
theorem dX12_endBlock_40 : decode cX12_endBlock 40 = .ok (.iconst 1, 1) := by decide +kernel
theorem dX12_endBlock_41 : decode cX12_endBlock 41 = .ok (.isub, 1) := by decide +kernel
theorem dX12_endBlock_42 : decode cX12_endBlock 42 = .ok (.iastore, 1) := by decide +kernel
theorem dX12_endBlock_43 : decode cX12_endBlock 43 = .ok (.aload_n 0, 1) := by decide +kernel
theorem dX12_endBlock_44 : decode cX12_endBlock 44 = .ok (.getfield 190, 3) := by decide +kernel
theorem dX12_endBlock_47 : decode cX12_endBlock 47 = .ok (.iload_n 1, 1) := by decide +kernel
theorem dX12_endBlock_48 : decode cX12_endBlock 48 = .ok (.dup2, 1) := by decide +kernel
theorem dX12_endBlock_49 : decode cX12_endBlock 49 = .ok (.iaload, 1) := by decide +kernel
theorem dX12_endBlock_50 : decode cX12_endBlock 50 = .ok (.iconst 1, 1) := by decide +kernel
theorem dX12_endBlock_51 : decode cX12_endBlock 51 = .ok (.iadd, 1) := by decide +kernel
theorem dX12_endBlock_52 : decode cX12_endBlock 52 = .ok (.iastore, 1) := by decide +kernel
theorem dX12_endBlock_53 : decode cX12_endBlock 53 = .ok (.aload_n 0, 1) := by decide +kernel
theorem dX12_endBlock_54 : decode cX12_endBlock 54 = .ok (.iload_n 1, 1) := by decide +kernel
theorem dX12_endBlock_55 : decode cX12_endBlock 55 = .ok (.invokevirtual 440, 3) := by decide +kernel
theorem dX12_endBlock_58 : decode cX12_endBlock 58 = .ok (.iconst 0, 1) := by decide +kernel
theorem dX12_endBlock_59 : decode cX12_endBlock 59 = .ok (.ireturn, 1) := by decide +kernel
theorem dX12_endBlock_60 : decode cX12_endBlock 60 = .ok (.aload_n 0, 1) := by decide +kernel
theorem dX12_endBlock_61 : decode cX12_endBlock 61 = .ok (.getfield 205, 3) := by decide +kernel
theorem dX12_endBlock_64 : decode cX12_endBlock 64 = .ok (.iload_n 1, 1) := by decide +kernel
theorem dX12_endBlock_65 : decode cX12_endBlock 65 = .ok (.dup2, 1) := by decide +kernel
theorem dX12_endBlock_66 : decode cX12_endBlock 66 = .ok (.iaload, 1) := by decide +kernel
theorem dX12_endBlock_67 : decode cX12_endBlock 67 = .ok (.iconst 1, 1) := by decide +kernel
theorem dX12_endBlock_68 : decode cX12_endBlock 68 = .ok (.isub, 1) := by decide +kernel
theorem dX12_endBlock_69 : decode cX12_endBlock 69 = .ok (.iastore, 1) := by decide +kernel
theorem dX12_endBlock_70 : decode cX12_endBlock 70 = .ok (.aload_n 0, 1) := by decide +kernel
theorem dX12_endBlock_71 : decode cX12_endBlock 71 = .ok (.getfield 190, 3) := by decide +kernel
theorem dX12_endBlock_74 : decode cX12_endBlock 74 = .ok (.iload_n 1, 1) := by decide +kernel
theorem dX12_endBlock_75 : decode cX12_endBlock 75 = .ok (.dup2, 1) := by decide +kernel
theorem dX12_endBlock_76 : decode cX12_endBlock 76 = .ok (.iaload, 1) := by decide +kernel
theorem dX12_endBlock_77 : decode cX12_endBlock 77 = .ok (.iconst 1, 1) := by decide +kernel
theorem dX12_endBlock_78 : decode cX12_endBlock 78 = .ok (.iadd, 1) := by decide +kernel
theorem dX12_endBlock_79 : decode cX12_endBlock 79 = .ok (.iastore, 1) := by decide +kernel
theorem dX12_endBlock_80 : decode cX12_endBlock 80 = .ok (.iload_n 2, 1) := by decide +kernel
theorem dX12_endBlock_81 : decode cX12_endBlock 81 = .ok (.ifCond .le 8, 3) := by decide +kernel
theorem dX12_endBlock_84 : decode cX12_endBlock 84 = .ok (.aload_n 0, 1) := by decide +kernel
theorem dX12_endBlock_85 : decode cX12_endBlock 85 = .ok (.iload_n 1, 1) := by decide +kernel
theorem dX12_endBlock_86 : decode cX12_endBlock 86 = .ok (.invokevirtual 443, 3) := by decide +kernel
theorem dX12_endBlock_89 : decode cX12_endBlock 89 = .ok (.iconst (-1), 1) := by decide +kernel
theorem dX12_endBlock_90 : decode cX12_endBlock 90 = .ok (.ireturn, 1) := by decide +kernel
theorem dX12_endPart_0 : decode cX12_endPart 0 = .ok (.aload_n 0, 1) := by decide +kernel
theorem dX12_endPart_1 : decode cX12_endPart 1 = .ok (.getfield 202, 3) := by decide +kernel
theorem dX12_endPart_4 : decode cX12_endPart 4 = .ok (.iload_n 1, 1) := by decide +kernel
theorem dX12_endPart_5 : decode cX12_endPart 5 = .ok (.iaload, 1) := by decide +kernel
theorem dX12_endPart_6 : decode cX12_endPart 6 = .ok (.iconst 1, 1) := by decide +kernel
theorem dX12_endPart_7 : decode cX12_endPart 7 = .ok (.isub, 1) := by decide +kernel
theorem dX12_endPart_8 : decode cX12_endPart 8 = .ok (.istore_n 2, 1) := by decide +kernel
theorem dX12_endPart_9 : decode cX12_endPart 9 = .ok (.aload_n 0, 1) := by decide +kernel
theorem dX12_endPart_10 : decode cX12_endPart 10 = .ok (.iload_n 1, 1) := by decide +kernel
theorem dX12_endPart_11 : decode cX12_endPart 11 = .ok (.iload_n 2, 1) := by decide +kernel
theorem dX12_endPart_12 : decode cX12_endPart 12 = .ok (.invokevirtual 376, 3) := by decide +kernel
theorem dX12_endPart_15 : decode cX12_endPart 15 = .ok (.iconst 0, 1) := by decide +kernel
theorem dX12_endPart_16 : decode cX12_endPart 16 = .ok (.istore_n 3, 1) := by decide +kernel
theorem dX12_endPart_17 : decode cX12_endPart 17 = .ok (.iload_n 3, 1) := by decide +kernel
theorem dX12_endPart_18 : decode cX12_endPart 18 = .ok (.bipush 26, 2) := by decide +kernel
theorem dX12_endPart_20 : decode cX12_endPart 20 = .ok (.if_icmp .ge 81, 3) := by decide +kernel
theorem dX12_endPart_23 : decode cX12_endPart 23 = .ok (.aload_n 0, 1) := by decide +kernel
theorem dX12_endPart_24 : decode cX12_endPart 24 = .ok (.iload_n 1, 1) := by decide +kernel
theorem dX12_endPart_25 : decode cX12_endPart 25 = .ok (.iload_n 2, 1) := by decide +kernel
theorem dX12_endPart_26 : decode cX12_endPart 26 = .ok (.iload_n 3, 1) := by decide +kernel
theorem dX12_endPart_27 : decode cX12_endPart 27 = .ok (.invokevirtual 357, 3) := by decide +kernel
theorem dX12_endPart_30 : decode cX12_endPart 30 = .ok (.istore 4, 2) := by decide +kernel
theorem dX12_endPart_32 : decode cX12_endPart 32 = .ok (.aload_n 0, 1) := by decide +kernel
theorem dX12_endPart_33 : decode cX12_endPart 33 = .ok (.iload_n 1, 1) := by decide +kernel
theorem dX12_endPart_34 : decode cX12_endPart 34 = .ok (.iload_n 2, 1) := by decide +kernel
theorem dX12_endPart_35 : decode cX12_endPart 35 = .ok (.iconst 1, 1) := by decide +kernel
theorem dX12_endPart_36 : decode cX12_endPart 36 = .ok (.isub, 1) := by decide +kernel
theorem dX12_endPart_37 : decode cX12_endPart 37 = .ok (.iload_n 3, 1) := by decide +kernel
theorem dX12_endPart_38 : decode cX12_endPart 38 = .ok (.invokevirtual 357, 3) := by decide +kernel
theorem dX12_endPart_41 : decode cX12_endPart 41 = .ok (.istore 5, 2) := by decide +kernel
theorem dX12_endPart_43 : decode cX12_endPart 43 = .ok (.aload_n 0, 1) := by decide +kernel
theorem dX12_endPart_44 : decode cX12_endPart 44 = .ok (.getfield 269, 3) := by decide +kernel
theorem dX12_endPart_47 : decode cX12_endPart 47 = .ok (.iload 4, 2) := by decide +kernel
theorem dX12_endPart_49 : decode cX12_endPart 49 = .ok (.baload, 1) := by decide +kernel
theorem dX12_endPart_50 : decode cX12_endPart 50 = .ok (.ifCond .eq 45, 3) := by decide +kernel
theorem dX12_endPart_53 : decode cX12_endPart 53 = .ok (.aload_n 0, 1) := by decide +kernel
theorem dX12_endPart_54 : decode cX12_endPart 54 = .ok (.invokevirtual 369, 3) := by decide +kernel
theorem dX12_endPart_57 : decode cX12_endPart 57 = .ok (.ifCond .eq 16, 3) := by decide +kernel
theorem dX12_endPart_60 : decode cX12_endPart 60 = .ok (.aload_n 0, 1) := by decide +kernel
theorem dX12_endPart_61 : decode cX12_endPart 61 = .ok (.getfield 269, 3) := by decide +kernel
theorem dX12_endPart_64 : decode cX12_endPart 64 = .ok (.iload 5, 2) := by decide +kernel
theorem dX12_endPart_66 : decode cX12_endPart 66 = .ok (.baload, 1) := by decide +kernel
theorem dX12_endPart_67 : decode cX12_endPart 67 = .ok (.ifCond .eq 6, 3) := by decide +kernel
theorem dX12_endPart_70 : decode cX12_endPart 70 = .ok (.goto 25, 3) := by decide +kernel
theorem dX12_endPart_73 : decode cX12_endPart 73 = .ok (.aload_n 0, 1) := by decide +kernel
theorem dX12_endPart_74 : decode cX12_endPart 74 = .ok (.getfield 269, 3) := by decide +kernel
theorem dX12_endPart_77 : decode cX12_endPart 77 = .ok (.iload 5, 2) := by decide +kernel
theorem dX12_endPart_79 : decode cX12_endPart 79 = .ok (.iconst 1, 1) := by decide +kernel
theorem dX12_endPart_80 : decode cX12_endPart 80 = .ok (.bastore, 1) := by decide +kernel
theorem dX12_endPart_81 : decode cX12_endPart 81 = .ok (.aload_n 0, 1) := by decide +kernel
theorem dX12_endPart_82 : decode cX12_endPart 82 = .ok (.getfield 281, 3) := by decide +kernel
theorem dX12_endPart_85 : decode cX12_endPart 85 = .ok (.iload 5, 2) := by decide +kernel
theorem dX12_endPart_87 : decode cX12_endPart 87 = .ok (.aload_n 0, 1) := by decide +kernel
theorem dX12_endPart_88 : decode cX12_endPart 88 = .ok (.getfield 281, 3) := by decide +kernel
theorem dX12_endPart_91 : decode cX12_endPart 91 = .ok (.iload 4, 2) := by decide +kernel
theorem dX12_endPart_93 : decode cX12_endPart 93 = .ok (.iaload, 1) := by decide +kernel
theorem dX12_endPart_94 : decode cX12_endPart 94 = .ok (.iastore, 1) := by decide +kernel
theorem dX12_endPart_95 : decode cX12_endPart 95 = .ok (.iinc 3 1, 3) := by decide +kernel
theorem dX12_endPart_98 : decode cX12_endPart 98 = .ok (.goto (-81), 3) := by decide +kernel
theorem dX12_endPart_101 : decode cX12_endPart 101 = .ok (.aload_n 0, 1) := by decide +kernel
theorem dX12_endPart_102 : decode cX12_endPart 102 = .ok (.iload_n 1, 1) := by decide +kernel
theorem dX12_endPart_103 : decode cX12_endPart 103 = .ok (.iload_n 2, 1) := by decide +kernel
theorem dX12_endPart_104 : decode cX12_endPart 104 = .ok (.invokevirtual 360, 3) := by decide +kernel
theorem dX12_endPart_107 : decode cX12_endPart 107 = .ok (.istore_n 3, 1) := by decide +kernel
theorem dX12_endPart_108 : decode cX12_endPart 108 = .ok (.aload_n 0, 1) := by decide +kernel
theorem dX12_endPart_109 : decode cX12_endPart 109 = .ok (.iload_n 1, 1) := by decide +kernel
theorem dX12_endPart_110 : decode cX12_endPart 110 = .ok (.iload_n 2, 1) := by decide +kernel
theorem dX12_endPart_111 : decode cX12_endPart 111 = .ok (.iconst 1, 1) := by decide +kernel
theorem dX12_endPart_112 : decode cX12_endPart 112 = .ok (.isub, 1) := by decide +kernel
theorem dX12_endPart_113 : decode cX12_endPart 113 = .ok (.invokevirtual 360, 3) := by decide +kernel
theorem dX12_endPart_116 : decode cX12_endPart 116 = .ok (.istore 4, 2) := by decide +kernel
theorem dX12_endPart_118 : decode cX12_endPart 118 = .ok (.iconst 0, 1) := by decide +kernel
theorem dX12_endPart_119 : decode cX12_endPart 119 = .ok (.istore 5, 2) := by decide +kernel
theorem dX12_endPart_121 : decode cX12_endPart 121 = .ok (.iload 5, 2) := by decide +kernel
theorem dX12_endPart_123 : decode cX12_endPart 123 = .ok (.aload_n 0, 1) := by decide +kernel
theorem dX12_endPart_124 : decode cX12_endPart 124 = .ok (.getfield 287, 3) := by decide +kernel
theorem dX12_endPart_127 : decode cX12_endPart 127 = .ok (.iload_n 3, 1) := by decide +kernel
theorem dX12_endPart_128 : decode cX12_endPart 128 = .ok (.iaload, 1) := by decide +kernel
theorem dX12_endPart_129 : decode cX12_endPart 129 = .ok (.if_icmp .ge 65, 3) := by decide +kernel
theorem dX12_endPart_132 : decode cX12_endPart 132 = .ok (.aload_n 0, 1) := by decide +kernel
theorem dX12_endPart_133 : decode cX12_endPart 133 = .ok (.getfield 287, 3) := by decide +kernel
theorem dX12_endPart_136 : decode cX12_endPart 136 = .ok (.iload 4, 2) := by decide +kernel
theorem dX12_endPart_138 : decode cX12_endPart 138 = .ok (.iaload, 1) := by decide +kernel
theorem dX12_endPart_139 : decode cX12_endPart 139 = .ok (.sipush 200, 3) := by decide +kernel
theorem dX12_endPart_142 : decode cX12_endPart 142 = .ok (.if_icmp .ge 52, 3) := by decide +kernel
theorem dX12_endPart_145 : decode cX12_endPart 145 = .ok (.aload_n 0, 1) := by decide +kernel
theorem dX12_endPart_146 : decode cX12_endPart 146 = .ok (.getfield 284, 3) := by decide +kernel
theorem dX12_endPart_149 : decode cX12_endPart 149 = .ok (.iload 4, 2) := by decide +kernel
theorem dX12_endPart_151 : decode cX12_endPart 151 = .ok (.sipush 200, 3) := by decide +kernel
theorem dX12_endPart_154 : decode cX12_endPart 154 = .ok (.imul, 1) := by decide +kernel
theorem dX12_endPart_155 : decode cX12_endPart 155 = .ok (.aload_n 0, 1) := by decide +kernel
theorem dX12_endPart_156 : decode cX12_endPart 156 = .ok (.getfield 287, 3) := by decide +kernel
theorem dX12_endPart_159 : decode cX12_endPart 159 = .ok (.iload 4, 2) := by decide +kernel
theorem dX12_endPart_161 : decode cX12_endPart 161 = .ok (.iaload, 1) := by decide +kernel
theorem dX12_endPart_162 : decode cX12_endPart 162 = .ok (.iadd, 1) := by decide +kernel
theorem dX12_endPart_163 : decode cX12_endPart 163 = .ok (.aload_n 0, 1) := by decide +kernel
theorem dX12_endPart_164 : decode cX12_endPart 164 = .ok (.getfield 284, 3) := by decide +kernel
theorem dX12_endPart_167 : decode cX12_endPart 167 = .ok (.iload_n 3, 1) := by decide +kernel
theorem dX12_endPart_168 : decode cX12_endPart 168 = .ok (.sipush 200, 3) := by decide +kernel
theorem dX12_endPart_171 : decode cX12_endPart 171 = .ok (.imul, 1) := by decide +kernel
theorem dX12_endPart_172 : decode cX12_endPart 172 = .ok (.iload 5, 2) := by decide +kernel
theorem dX12_endPart_174 : decode cX12_endPart 174 = .ok (.iadd, 1) := by decide +kernel
theorem dX12_endPart_175 : decode cX12_endPart 175 = .ok (.iaload, 1) := by decide +kernel
theorem dX12_endPart_176 : decode cX12_endPart 176 = .ok (.iastore, 1) := by decide +kernel
theorem dX12_endPart_177 : decode cX12_endPart 177 = .ok (.aload_n 0, 1) := by decide +kernel
theorem dX12_endPart_178 : decode cX12_endPart 178 = .ok (.getfield 287, 3) := by decide +kernel
theorem dX12_endPart_181 : decode cX12_endPart 181 = .ok (.iload 4, 2) := by decide +kernel
theorem dX12_endPart_183 : decode cX12_endPart 183 = .ok (.dup2, 1) := by decide +kernel
theorem dX12_endPart_184 : decode cX12_endPart 184 = .ok (.iaload, 1) := by decide +kernel
theorem dX12_endPart_185 : decode cX12_endPart 185 = .ok (.iconst 1, 1) := by decide +kernel
theorem dX12_endPart_186 : decode cX12_endPart 186 = .ok (.iadd, 1) := by decide +kernel
theorem dX12_endPart_187 : decode cX12_endPart 187 = .ok (.iastore, 1) := by decide +kernel
theorem dX12_endPart_188 : decode cX12_endPart 188 = .ok (.iinc 5 1, 3) := by decide +kernel
theorem dX12_endPart_191 : decode cX12_endPart 191 = .ok (.goto (-70), 3) := by decide +kernel
theorem dX12_endPart_194 : decode cX12_endPart 194 = .ok (.aload_n 0, 1) := by decide +kernel
theorem dX12_endPart_195 : decode cX12_endPart 195 = .ok (.getfield 202, 3) := by decide +kernel
theorem dX12_endPart_198 : decode cX12_endPart 198 = .ok (.iload_n 1, 1) := by decide +kernel
theorem dX12_endPart_199 : decode cX12_endPart 199 = .ok (.dup2, 1) := by decide +kernel
theorem dX12_endPart_200 : decode cX12_endPart 200 = .ok (.iaload, 1) := by decide +kernel
theorem dX12_endPart_201 : decode cX12_endPart 201 = .ok (.iconst 1, 1) := by decide +kernel
theorem dX12_endPart_202 : decode cX12_endPart 202 = .ok (.isub, 1) := by decide +kernel
theorem dX12_endPart_203 : decode cX12_endPart 203 = .ok (.iastore, 1) := by decide +kernel
theorem dX12_endPart_204 : decode cX12_endPart 204 = .ok (.return_, 1) := by decide +kernel
theorem dX12_enter_0 : decode cX12_enter 0 = .ok (.aload_n 0, 1) := by decide +kernel
theorem dX12_enter_1 : decode cX12_enter 1 = .ok (.getfield 81, 3) := by decide +kernel
theorem dX12_enter_4 : decode cX12_enter 4 = .ok (.bipush 10, 2) := by decide +kernel
theorem dX12_enter_6 : decode cX12_enter 6 = .ok (.if_icmp .ne 12, 3) := by decide +kernel
theorem dX12_enter_9 : decode cX12_enter 9 = .ok (.aload_n 0, 1) := by decide +kernel
theorem dX12_enter_10 : decode cX12_enter 10 = .ok (.aload_n 0, 1) := by decide +kernel
theorem dX12_enter_11 : decode cX12_enter 11 = .ok (.getfield 39, 3) := by decide +kernel
theorem dX12_enter_14 : decode cX12_enter 14 = .ok (.invokevirtual 70, 3) := by decide +kernel
theorem dX12_enter_17 : decode cX12_enter 17 = .ok (.athrow, 1) := by decide +kernel
theorem dX12_enter_18 : decode cX12_enter 18 = .ok (.aload_n 0, 1) := by decide +kernel
theorem dX12_enter_19 : decode cX12_enter 19 = .ok (.dup, 1) := by decide +kernel
theorem dX12_enter_20 : decode cX12_enter 20 = .ok (.getfield 81, 3) := by decide +kernel
theorem dX12_enter_23 : decode cX12_enter 23 = .ok (.iconst 1, 1) := by decide +kernel
theorem dX12_enter_24 : decode cX12_enter 24 = .ok (.iadd, 1) := by decide +kernel
theorem dX12_enter_25 : decode cX12_enter 25 = .ok (.putfield 81, 3) := by decide +kernel
theorem dX12_enter_28 : decode cX12_enter 28 = .ok (.return_, 1) := by decide +kernel
theorem dX12_expression_0 : decode cX12_expression 0 = .ok (.aload_n 0, 1) := by decide +kernel
theorem dX12_expression_1 : decode cX12_expression 1 = .ok (.invokevirtual 84, 3) := by decide +kernel
theorem dX12_expression_4 : decode cX12_expression 4 = .ok (.aload_n 0, 1) := by decide +kernel
theorem dX12_expression_5 : decode cX12_expression 5 = .ok (.sipush 300, 3) := by decide +kernel
theorem dX12_expression_8 : decode cX12_expression 8 = .ok (.invokevirtual 60, 3) := by decide +kernel
theorem dX12_expression_11 : decode cX12_expression 11 = .ok (.ifCond .eq 8, 3) := by decide +kernel
theorem dX12_expression_14 : decode cX12_expression 14 = .ok (.bipush 7, 2) := by decide +kernel
theorem dX12_expression_16 : decode cX12_expression 16 = .ok (.goto 18, 3) := by decide +kernel
theorem dX12_expression_19 : decode cX12_expression 19 = .ok (.aload_n 0, 1) := by decide +kernel
theorem dX12_expression_20 : decode cX12_expression 20 = .ok (.bipush 60, 2) := by decide +kernel
theorem dX12_expression_22 : decode cX12_expression 22 = .ok (.invokevirtual 60, 3) := by decide +kernel
theorem dX12_expression_25 : decode cX12_expression 25 = .ok (.ifCond .eq 8, 3) := by decide +kernel
theorem dX12_expression_28 : decode cX12_expression 28 = .ok (.bipush 8, 2) := by decide +kernel
theorem dX12_expression_30 : decode cX12_expression 30 = .ok (.goto 4, 3) := by decide +kernel
theorem dX12_expression_33 : decode cX12_expression 33 = .ok (.iconst (-1), 1) := by decide +kernel
theorem dX12_expression_34 : decode cX12_expression 34 = .ok (.istore_n 1, 1) := by decide +kernel
theorem dX12_expression_35 : decode cX12_expression 35 = .ok (.iload_n 1, 1) := by decide +kernel
theorem dX12_expression_36 : decode cX12_expression 36 = .ok (.ifCond .ge 4, 3) := by decide +kernel
theorem dX12_expression_39 : decode cX12_expression 39 = .ok (.return_, 1) := by decide +kernel
theorem dX12_expression_40 : decode cX12_expression 40 = .ok (.aload_n 0, 1) := by decide +kernel
theorem dX12_expression_41 : decode cX12_expression 41 = .ok (.invokevirtual 63, 3) := by decide +kernel
theorem dX12_expression_44 : decode cX12_expression 44 = .ok (.aload_n 0, 1) := by decide +kernel
theorem dX12_expression_45 : decode cX12_expression 45 = .ok (.invokevirtual 84, 3) := by decide +kernel
theorem dX12_expression_48 : decode cX12_expression 48 = .ok (.aload_n 0, 1) := by decide +kernel
theorem dX12_expression_49 : decode cX12_expression 49 = .ok (.iload_n 1, 1) := by decide +kernel
theorem dX12_expression_50 : decode cX12_expression 50 = .ok (.iconst 0, 1) := by decide +kernel
theorem dX12_expression_51 : decode cX12_expression 51 = .ok (.iconst 0, 1) := by decide +kernel
theorem dX12_expression_52 : decode cX12_expression 52 = .ok (.invokevirtual 87, 3) := by decide +kernel
theorem dX12_expression_55 : decode cX12_expression 55 = .ok (.istore_n 2, 1) := by decide +kernel
theorem dX12_expression_56 : decode cX12_expression 56 = .ok (.return_, 1) := by decide +kernel
theorem dX12_fail_0 : decode cX12_fail 0 = .ok (.aload_n 0, 1) := by decide +kernel
theorem dX12_fail_1 : decode cX12_fail 1 = .ok (.getfield 208, 3) := by decide +kernel
theorem dX12_fail_4 : decode cX12_fail 4 = .ok (.iload_n 1, 1) := by decide +kernel
theorem dX12_fail_5 : decode cX12_fail 5 = .ok (.iaload, 1) := by decide +kernel
theorem dX12_fail_6 : decode cX12_fail 6 = .ok (.ifCond .le 24, 3) := by decide +kernel
theorem dX12_fail_9 : decode cX12_fail 9 = .ok (.aload_n 0, 1) := by decide +kernel
theorem dX12_fail_10 : decode cX12_fail 10 = .ok (.getfield 238, 3) := by decide +kernel
theorem dX12_fail_13 : decode cX12_fail 13 = .ok (.aload_n 0, 1) := by decide +kernel
theorem dX12_fail_14 : decode cX12_fail 14 = .ok (.iload_n 1, 1) := by decide +kernel
theorem dX12_fail_15 : decode cX12_fail 15 = .ok (.aload_n 0, 1) := by decide +kernel
theorem dX12_fail_16 : decode cX12_fail 16 = .ok (.getfield 208, 3) := by decide +kernel
theorem dX12_fail_19 : decode cX12_fail 19 = .ok (.iload_n 1, 1) := by decide +kernel
theorem dX12_fail_20 : decode cX12_fail 20 = .ok (.iaload, 1) := by decide +kernel
theorem dX12_fail_21 : decode cX12_fail 21 = .ok (.iconst 1, 1) := by decide +kernel
theorem dX12_fail_22 : decode cX12_fail 22 = .ok (.isub, 1) := by decide +kernel
theorem dX12_fail_23 : decode cX12_fail 23 = .ok (.invokevirtual 360, 3) := by decide +kernel
theorem dX12_fail_26 : decode cX12_fail 26 = .ok (.iaload, 1) := by decide +kernel
theorem dX12_fail_27 : decode cX12_fail 27 = .ok (.goto 4, 3) := by decide +kernel
theorem dX12_fail_30 : decode cX12_fail 30 = .ok (.iconst 0, 1) := by decide +kernel
theorem dX12_fail_31 : decode cX12_fail 31 = .ok (.istore_n 3, 1) := by decide +kernel
theorem dX12_fail_32 : decode cX12_fail 32 = .ok (.aload_n 0, 1) := by decide +kernel
theorem dX12_fail_33 : decode cX12_fail 33 = .ok (.getfield 202, 3) := by decide +kernel
theorem dX12_fail_36 : decode cX12_fail 36 = .ok (.iload_n 1, 1) := by decide +kernel
theorem dX12_fail_37 : decode cX12_fail 37 = .ok (.iaload, 1) := by decide +kernel
theorem dX12_fail_38 : decode cX12_fail 38 = .ok (.ifCond .le 7, 3) := by decide +kernel
theorem dX12_fail_41 : decode cX12_fail 41 = .ok (.iconst 1, 1) := by decide +kernel
theorem dX12_fail_42 : decode cX12_fail 42 = .ok (.goto 4, 3) := by decide +kernel
theorem dX12_fail_45 : decode cX12_fail 45 = .ok (.iconst 0, 1) := by decide +kernel
theorem dX12_fail_46 : decode cX12_fail 46 = .ok (.istore 4, 2) := by decide +kernel
theorem dX12_fail_48 : decode cX12_fail 48 = .ok (.aload_n 0, 1) := by decide +kernel
theorem dX12_fail_49 : decode cX12_fail 49 = .ok (.iload_n 1, 1) := by decide +kernel
theorem dX12_fail_50 : decode cX12_fail 50 = .ok (.iload_n 3, 1) := by decide +kernel
theorem dX12_fail_51 : decode cX12_fail 51 = .ok (.iconst 1, 1) := by decide +kernel
theorem dX12_fail_52 : decode cX12_fail 52 = .ok (.invokevirtual 382, 3) := by decide +kernel
theorem dX12_fail_55 : decode cX12_fail 55 = .ok (.aload_n 0, 1) := by decide +kernel
theorem dX12_fail_56 : decode cX12_fail 56 = .ok (.getfield 202, 3) := by decide +kernel
theorem dX12_fail_59 : decode cX12_fail 59 = .ok (.iload_n 1, 1) := by decide +kernel
theorem dX12_fail_60 : decode cX12_fail 60 = .ok (.iload_n 3, 1) := by decide +kernel
theorem dX12_fail_61 : decode cX12_fail 61 = .ok (.iastore, 1) := by decide +kernel
theorem dX12_fail_62 : decode cX12_fail 62 = .ok (.iload 4, 2) := by decide +kernel
theorem dX12_fail_64 : decode cX12_fail 64 = .ok (.ifCond .eq 12, 3) := by decide +kernel
theorem dX12_fail_67 : decode cX12_fail 67 = .ok (.iload_n 3, 1) := by decide +kernel
theorem dX12_fail_68 : decode cX12_fail 68 = .ok (.ifCond .ne 8, 3) := by decide +kernel
theorem dX12_fail_71 : decode cX12_fail 71 = .ok (.aload_n 0, 1) := by decide +kernel
theorem dX12_fail_72 : decode cX12_fail 72 = .ok (.iload_n 1, 1) := by decide +kernel
theorem dX12_fail_73 : decode cX12_fail 73 = .ok (.invokevirtual 446, 3) := by decide +kernel
theorem dX12_fail_76 : decode cX12_fail 76 = .ok (.aload_n 0, 1) := by decide +kernel
theorem dX12_fail_77 : decode cX12_fail 77 = .ok (.getfield 208, 3) := by decide +kernel
theorem dX12_fail_80 : decode cX12_fail 80 = .ok (.iload_n 1, 1) := by decide +kernel
theorem dX12_fail_81 : decode cX12_fail 81 = .ok (.iaload, 1) := by decide +kernel
theorem dX12_fail_82 : decode cX12_fail 82 = .ok (.ifCond .ne 19, 3) := by decide +kernel
theorem dX12_fail_85 : decode cX12_fail 85 = .ok (.aload_n 0, 1) := by decide +kernel
theorem dX12_fail_86 : decode cX12_fail 86 = .ok (.getfield 187, 3) := by decide +kernel
theorem dX12_fail_89 : decode cX12_fail 89 = .ok (.iload_n 1, 1) := by decide +kernel
theorem dX12_fail_90 : decode cX12_fail 90 = .ok (.iconst 5, 1) := by decide +kernel
theorem dX12_fail_91 : decode cX12_fail 91 = .ok (.iastore, 1) := by decide +kernel
theorem dX12_fail_92 : decode cX12_fail 92 = .ok (.aload_n 0, 1) := by decide +kernel
theorem dX12_fail_93 : decode cX12_fail 93 = .ok (.getfield 217, 3) := by decide +kernel
theorem dX12_fail_96 : decode cX12_fail 96 = .ok (.iload_n 1, 1) := by decide +kernel
theorem dX12_fail_97 : decode cX12_fail 97 = .ok (.iload_n 2, 1) := by decide +kernel
theorem dX12_fail_98 : decode cX12_fail 98 = .ok (.iastore, 1) := by decide +kernel
theorem dX12_fail_99 : decode cX12_fail 99 = .ok (.iconst 5, 1) := by decide +kernel
theorem dX12_fail_100 : decode cX12_fail 100 = .ok (.ireturn, 1) := by decide +kernel
theorem dX12_fail_101 : decode cX12_fail 101 = .ok (.aload_n 0, 1) := by decide +kernel
theorem dX12_fail_102 : decode cX12_fail 102 = .ok (.getfield 208, 3) := by decide +kernel
theorem dX12_fail_105 : decode cX12_fail 105 = .ok (.iload_n 1, 1) := by decide +kernel
theorem dX12_fail_106 : decode cX12_fail 106 = .ok (.dup2, 1) := by decide +kernel
theorem dX12_fail_107 : decode cX12_fail 107 = .ok (.iaload, 1) := by decide +kernel
theorem dX12_fail_108 : decode cX12_fail 108 = .ok (.iconst 1, 1) := by decide +kernel
theorem dX12_fail_109 : decode cX12_fail 109 = .ok (.isub, 1) := by decide +kernel
theorem dX12_fail_110 : decode cX12_fail 110 = .ok (.iastore, 1) := by decide +kernel
theorem dX12_fail_111 : decode cX12_fail 111 = .ok (.aload_n 0, 1) := by decide +kernel
theorem dX12_fail_112 : decode cX12_fail 112 = .ok (.iload_n 1, 1) := by decide +kernel
theorem dX12_fail_113 : decode cX12_fail 113 = .ok (.aload_n 0, 1) := by decide +kernel
theorem dX12_fail_114 : decode cX12_fail 114 = .ok (.getfield 208, 3) := by decide +kernel
theorem dX12_fail_117 : decode cX12_fail 117 = .ok (.iload_n 1, 1) := by decide +kernel
theorem dX12_fail_118 : decode cX12_fail 118 = .ok (.iaload, 1) := by decide +kernel
theorem dX12_fail_119 : decode cX12_fail 119 = .ok (.invokevirtual 360, 3) := by decide +kernel
theorem dX12_fail_122 : decode cX12_fail 122 = .ok (.istore 5, 2) := by decide +kernel
theorem dX12_fail_124 : decode cX12_fail 124 = .ok (.aload_n 0, 1) := by decide +kernel
theorem dX12_fail_125 : decode cX12_fail 125 = .ok (.getfield 205, 3) := by decide +kernel
theorem dX12_fail_128 : decode cX12_fail 128 = .ok (.iload_n 1, 1) := by decide +kernel
theorem dX12_fail_129 : decode cX12_fail 129 = .ok (.aload_n 0, 1) := by decide +kernel
theorem dX12_fail_130 : decode cX12_fail 130 = .ok (.getfield 241, 3) := by decide +kernel
theorem dX12_fail_133 : decode cX12_fail 133 = .ok (.iload 5, 2) := by decide +kernel
theorem dX12_fail_135 : decode cX12_fail 135 = .ok (.iaload, 1) := by decide +kernel
theorem dX12_fail_136 : decode cX12_fail 136 = .ok (.iastore, 1) := by decide +kernel
theorem dX12_fail_137 : decode cX12_fail 137 = .ok (.aload_n 0, 1) := by decide +kernel
theorem dX12_fail_138 : decode cX12_fail 138 = .ok (.getfield 190, 3) := by decide +kernel
theorem dX12_fail_141 : decode cX12_fail 141 = .ok (.iload_n 1, 1) := by decide +kernel
theorem dX12_fail_142 : decode cX12_fail 142 = .ok (.aload_n 0, 1) := by decide +kernel
theorem dX12_fail_143 : decode cX12_fail 143 = .ok (.getfield 232, 3) := by decide +kernel
theorem dX12_fail_146 : decode cX12_fail 146 = .ok (.iload 5, 2) := by decide +kernel
theorem dX12_fail_148 : decode cX12_fail 148 = .ok (.iaload, 1) := by decide +kernel
theorem dX12_fail_149 : decode cX12_fail 149 = .ok (.iastore, 1) := by decide +kernel
theorem dX12_fail_150 : decode cX12_fail 150 = .ok (.aload_n 0, 1) := by decide +kernel
theorem dX12_fail_151 : decode cX12_fail 151 = .ok (.getfield 193, 3) := by decide +kernel
theorem dX12_fail_154 : decode cX12_fail 154 = .ok (.iload_n 1, 1) := by decide +kernel
theorem dX12_fail_155 : decode cX12_fail 155 = .ok (.bipush 26, 2) := by decide +kernel
theorem dX12_fail_157 : decode cX12_fail 157 = .ok (.imul, 1) := by decide +kernel
theorem dX12_fail_158 : decode cX12_fail 158 = .ok (.aload_n 0, 1) := by decide +kernel
theorem dX12_fail_159 : decode cX12_fail 159 = .ok (.getfield 235, 3) := by decide +kernel
theorem dX12_fail_162 : decode cX12_fail 162 = .ok (.iload 5, 2) := by decide +kernel
theorem dX12_fail_164 : decode cX12_fail 164 = .ok (.iaload, 1) := by decide +kernel
theorem dX12_fail_165 : decode cX12_fail 165 = .ok (.iadd, 1) := by decide +kernel
theorem dX12_fail_166 : decode cX12_fail 166 = .ok (.iload_n 2, 1) := by decide +kernel
theorem dX12_fail_167 : decode cX12_fail 167 = .ok (.iastore, 1) := by decide +kernel
theorem dX12_fail_168 : decode cX12_fail 168 = .ok (.iconst (-1), 1) := by decide +kernel
theorem dX12_fail_169 : decode cX12_fail 169 = .ok (.ireturn, 1) := by decide +kernel
theorem dX12_fails_0 : decode cX12_fails 0 = .ok (.aload_n 0, 1) := by decide +kernel
theorem dX12_fails_1 : decode cX12_fails 1 = .ok (.iload_n 1, 1) := by decide +kernel
theorem dX12_fails_2 : decode cX12_fails 2 = .ok (.putfield 1, 3) := by decide +kernel
theorem dX12_fails_5 : decode cX12_fails 5 = .ok (.iload_n 1, 1) := by decide +kernel
theorem dX12_fails_6 : decode cX12_fails 6 = .ok (.ifCond .eq 7, 3) := by decide +kernel
theorem dX12_fails_9 : decode cX12_fails 9 = .ok (.iconst 1, 1) := by decide +kernel
theorem dX12_fails_10 : decode cX12_fails 10 = .ok (.goto 4, 3) := by decide +kernel
theorem dX12_fails_13 : decode cX12_fails 13 = .ok (.iconst 0, 1) := by decide +kernel
theorem dX12_fails_14 : decode cX12_fails 14 = .ok (.ireturn, 1) := by decide +kernel
theorem dX12_feed_0 : decode cX12_feed 0 = .ok (.aload_n 0, 1) := by decide +kernel
theorem dX12_feed_1 : decode cX12_feed 1 = .ok (.aload_n 0, 1) := by decide +kernel
theorem dX12_feed_2 : decode cX12_feed 2 = .ok (.getfield 494, 3) := by decide +kernel
theorem dX12_feed_5 : decode cX12_feed 5 = .ok (.bipush 20, 2) := by decide +kernel
theorem dX12_feed_7 : decode cX12_feed 7 = .ok (.iadd, 1) := by decide +kernel
theorem dX12_feed_8 : decode cX12_feed 8 = .ok (.sipush 1000, 3) := by decide +kernel
theorem dX12_feed_11 : decode cX12_feed 11 = .ok (.if_icmp .le 7, 3) := by decide +kernel
theorem dX12_feed_14 : decode cX12_feed 14 = .ok (.iconst 1, 1) := by decide +kernel
theorem dX12_feed_15 : decode cX12_feed 15 = .ok (.goto 4, 3) := by decide +kernel
theorem dX12_feed_18 : decode cX12_feed 18 = .ok (.iconst 0, 1) := by decide +kernel
theorem dX12_feed_19 : decode cX12_feed 19 = .ok (.invokevirtual 497, 3) := by decide +kernel
theorem dX12_feed_22 : decode cX12_feed 22 = .ok (.ifCond .eq 5, 3) := by decide +kernel
theorem dX12_feed_25 : decode cX12_feed 25 = .ok (.iconst 0, 1) := by decide +kernel
theorem dX12_feed_26 : decode cX12_feed 26 = .ok (.ireturn, 1) := by decide +kernel
theorem dX12_feed_27 : decode cX12_feed 27 = .ok (.aload_n 0, 1) := by decide +kernel
theorem dX12_feed_28 : decode cX12_feed 28 = .ok (.iload_n 1, 1) := by decide +kernel
theorem dX12_feed_29 : decode cX12_feed 29 = .ok (.invokevirtual 500, 3) := by decide +kernel
theorem dX12_feed_32 : decode cX12_feed 32 = .ok (.aload_n 0, 1) := by decide +kernel
theorem dX12_feed_33 : decode cX12_feed 33 = .ok (.iload_n 2, 1) := by decide +kernel
theorem dX12_feed_34 : decode cX12_feed 34 = .ok (.invokevirtual 500, 3) := by decide +kernel
theorem dX12_feed_37 : decode cX12_feed 37 = .ok (.aload_n 0, 1) := by decide +kernel
theorem dX12_feed_38 : decode cX12_feed 38 = .ok (.iload_n 3, 1) := by decide +kernel
theorem dX12_feed_39 : decode cX12_feed 39 = .ok (.invokevirtual 500, 3) := by decide +kernel
theorem dX12_feed_42 : decode cX12_feed 42 = .ok (.aload_n 0, 1) := by decide +kernel
theorem dX12_feed_43 : decode cX12_feed 43 = .ok (.iload 4, 2) := by decide +kernel
theorem dX12_feed_45 : decode cX12_feed 45 = .ok (.invokevirtual 500, 3) := by decide +kernel
theorem dX12_feed_48 : decode cX12_feed 48 = .ok (.aload_n 0, 1) := by decide +kernel
theorem dX12_feed_49 : decode cX12_feed 49 = .ok (.iload 5, 2) := by decide +kernel
theorem dX12_feed_51 : decode cX12_feed 51 = .ok (.invokevirtual 500, 3) := by decide +kernel
theorem dX12_feed_54 : decode cX12_feed 54 = .ok (.aload_n 0, 1) := by decide +kernel
theorem dX12_feed_55 : decode cX12_feed 55 = .ok (.getfield 494, 3) := by decide +kernel
theorem dX12_feed_58 : decode cX12_feed 58 = .ok (.ireturn, 1) := by decide +kernel
theorem dX12_four_0 : decode cX12_four 0 = .ok (.bipush 24, 2) := by decide +kernel
theorem dX12_four_2 : decode cX12_four 2 = .ok (.istore_n 2, 1) := by decide +kernel
theorem dX12_four_3 : decode cX12_four 3 = .ok (.iload_n 2, 1) := by decide +kernel
theorem dX12_four_4 : decode cX12_four 4 = .ok (.ifCond .lt 32, 3) := by decide +kernel
theorem dX12_four_7 : decode cX12_four 7 = .ok (.aload_n 0, 1) := by decide +kernel
theorem dX12_four_8 : decode cX12_four 8 = .ok (.getfield 174, 3) := by decide +kernel
theorem dX12_four_11 : decode cX12_four 11 = .ok (.aload_n 0, 1) := by decide +kernel
theorem dX12_four_12 : decode cX12_four 12 = .ok (.getfield 494, 3) := by decide +kernel
theorem dX12_four_15 : decode cX12_four 15 = .ok (.iload_n 1, 1) := by decide +kernel
theorem dX12_four_16 : decode cX12_four 16 = .ok (.iload_n 2, 1) := by decide +kernel
theorem dX12_four_17 : decode cX12_four 17 = .ok (.ishr, 1) := by decide +kernel
theorem dX12_four_18 : decode cX12_four 18 = .ok (.i2b, 1) := by decide +kernel
theorem dX12_four_19 : decode cX12_four 19 = .ok (.bastore, 1) := by decide +kernel
theorem dX12_four_20 : decode cX12_four 20 = .ok (.aload_n 0, 1) := by decide +kernel
theorem dX12_four_21 : decode cX12_four 21 = .ok (.dup, 1) := by decide +kernel
theorem dX12_four_22 : decode cX12_four 22 = .ok (.getfield 494, 3) := by decide +kernel
theorem dX12_four_25 : decode cX12_four 25 = .ok (.iconst 1, 1) := by decide +kernel
theorem dX12_four_26 : decode cX12_four 26 = .ok (.iadd, 1) := by decide +kernel
theorem dX12_four_27 : decode cX12_four 27 = .ok (.putfield 494, 3) := by decide +kernel
theorem dX12_four_30 : decode cX12_four 30 = .ok (.iinc 2 (-8), 3) := by decide +kernel
theorem dX12_four_33 : decode cX12_four 33 = .ok (.goto (-30), 3) := by decide +kernel
theorem dX12_four_36 : decode cX12_four 36 = .ok (.return_, 1) := by decide +kernel
theorem dX12_free_0 : decode cX12_free 0 = .ok (.aload_n 0, 1) := by decide +kernel
theorem dX12_free_1 : decode cX12_free 1 = .ok (.invokevirtual 369, 3) := by decide +kernel
theorem dX12_free_4 : decode cX12_free 4 = .ok (.ifCond .ne 4, 3) := by decide +kernel
theorem dX12_free_7 : decode cX12_free 7 = .ok (.return_, 1) := by decide +kernel
theorem dX12_free_8 : decode cX12_free 8 = .ok (.iconst 0, 1) := by decide +kernel
theorem dX12_free_9 : decode cX12_free 9 = .ok (.istore_n 2, 1) := by decide +kernel
theorem dX12_free_10 : decode cX12_free 10 = .ok (.iconst 0, 1) := by decide +kernel
theorem dX12_free_11 : decode cX12_free 11 = .ok (.istore_n 3, 1) := by decide +kernel
theorem dX12_free_12 : decode cX12_free 12 = .ok (.iload_n 3, 1) := by decide +kernel
theorem dX12_free_13 : decode cX12_free 13 = .ok (.bipush 26, 2) := by decide +kernel
theorem dX12_free_15 : decode cX12_free 15 = .ok (.if_icmp .ge 21, 3) := by decide +kernel
theorem dX12_free_18 : decode cX12_free 18 = .ok (.aload_n 0, 1) := by decide +kernel
theorem dX12_free_19 : decode cX12_free 19 = .ok (.getfield 177, 3) := by decide +kernel
theorem dX12_free_22 : decode cX12_free 22 = .ok (.iload_n 3, 1) := by decide +kernel
theorem dX12_free_23 : decode cX12_free 23 = .ok (.iaload, 1) := by decide +kernel
theorem dX12_free_24 : decode cX12_free 24 = .ok (.iload_n 1, 1) := by decide +kernel
theorem dX12_free_25 : decode cX12_free 25 = .ok (.if_icmp .ne 5, 3) := by decide +kernel
theorem dX12_free_28 : decode cX12_free 28 = .ok (.iconst 1, 1) := by decide +kernel
theorem dX12_free_29 : decode cX12_free 29 = .ok (.istore_n 2, 1) := by decide +kernel
theorem dX12_free_30 : decode cX12_free 30 = .ok (.iinc 3 1, 3) := by decide +kernel
theorem dX12_free_33 : decode cX12_free 33 = .ok (.goto (-21), 3) := by decide +kernel
theorem dX12_free_36 : decode cX12_free 36 = .ok (.iload_n 2, 1) := by decide +kernel
theorem dX12_free_37 : decode cX12_free 37 = .ok (.ifCond .ne 4, 3) := by decide +kernel
theorem dX12_free_40 : decode cX12_free 40 = .ok (.return_, 1) := by decide +kernel
theorem dX12_free_41 : decode cX12_free 41 = .ok (.aload_n 0, 1) := by decide +kernel
theorem dX12_free_42 : decode cX12_free 42 = .ok (.dup, 1) := by decide +kernel
theorem dX12_free_43 : decode cX12_free 43 = .ok (.getfield 148, 3) := by decide +kernel
theorem dX12_free_46 : decode cX12_free 46 = .ok (.iconst 1, 1) := by decide +kernel
theorem dX12_free_47 : decode cX12_free 47 = .ok (.iadd, 1) := by decide +kernel
theorem dX12_free_48 : decode cX12_free 48 = .ok (.putfield 148, 3) := by decide +kernel
theorem dX12_free_51 : decode cX12_free 51 = .ok (.iconst 0, 1) := by decide +kernel
theorem dX12_free_52 : decode cX12_free 52 = .ok (.istore_n 3, 1) := by decide +kernel
theorem dX12_free_53 : decode cX12_free 53 = .ok (.iload_n 3, 1) := by decide +kernel
theorem dX12_free_54 : decode cX12_free 54 = .ok (.bipush 26, 2) := by decide +kernel
theorem dX12_free_56 : decode cX12_free 56 = .ok (.if_icmp .ge 34, 3) := by decide +kernel
theorem dX12_free_59 : decode cX12_free 59 = .ok (.aload_n 0, 1) := by decide +kernel
theorem dX12_free_60 : decode cX12_free 60 = .ok (.getfield 177, 3) := by decide +kernel
theorem dX12_free_63 : decode cX12_free 63 = .ok (.iload_n 3, 1) := by decide +kernel
theorem dX12_free_64 : decode cX12_free 64 = .ok (.iaload, 1) := by decide +kernel
theorem dX12_free_65 : decode cX12_free 65 = .ok (.iload_n 1, 1) := by decide +kernel
theorem dX12_free_66 : decode cX12_free 66 = .ok (.if_icmp .eq 6, 3) := by decide +kernel
theorem dX12_free_69 : decode cX12_free 69 = .ok (.goto 15, 3) := by decide +kernel
theorem dX12_free_72 : decode cX12_free 72 = .ok (.aload_n 0, 1) := by decide +kernel
theorem dX12_free_73 : decode cX12_free 73 = .ok (.getfield 177, 3) := by decide +kernel
theorem dX12_free_76 : decode cX12_free 76 = .ok (.iload_n 3, 1) := by decide +kernel
theorem dX12_free_77 : decode cX12_free 77 = .ok (.iconst (-1), 1) := by decide +kernel
theorem dX12_free_78 : decode cX12_free 78 = .ok (.iastore, 1) := by decide +kernel
theorem dX12_free_79 : decode cX12_free 79 = .ok (.aload_n 0, 1) := by decide +kernel
theorem dX12_free_80 : decode cX12_free 80 = .ok (.iload_n 3, 1) := by decide +kernel
theorem dX12_free_81 : decode cX12_free 81 = .ok (.invokevirtual 160, 3) := by decide +kernel
theorem dX12_free_84 : decode cX12_free 84 = .ok (.iinc 3 1, 3) := by decide +kernel
theorem dX12_free_87 : decode cX12_free 87 = .ok (.goto (-34), 3) := by decide +kernel
theorem dX12_free_90 : decode cX12_free 90 = .ok (.return_, 1) := by decide +kernel
theorem dX12_giveReads_0 : decode cX12_giveReads 0 = .ok (.iload_n 2, 1) := by decide +kernel
theorem dX12_giveReads_1 : decode cX12_giveReads 1 = .ok (.ifCond .ne 4, 3) := by decide +kernel
theorem dX12_giveReads_4 : decode cX12_giveReads 4 = .ok (.return_, 1) := by decide +kernel
theorem dX12_giveReads_5 : decode cX12_giveReads 5 = .ok (.iconst (-1), 1) := by decide +kernel
theorem dX12_giveReads_6 : decode cX12_giveReads 6 = .ok (.istore_n 3, 1) := by decide +kernel
theorem dX12_giveReads_7 : decode cX12_giveReads 7 = .ok (.iconst 0, 1) := by decide +kernel
theorem dX12_giveReads_8 : decode cX12_giveReads 8 = .ok (.istore 4, 2) := by decide +kernel
theorem dX12_giveReads_10 : decode cX12_giveReads 10 = .ok (.iload 4, 2) := by decide +kernel
theorem dX12_giveReads_12 : decode cX12_giveReads 12 = .ok (.bipush 26, 2) := by decide +kernel
theorem dX12_giveReads_14 : decode cX12_giveReads 14 = .ok (.if_icmp .ge 60, 3) := by decide +kernel
theorem dX12_giveReads_17 : decode cX12_giveReads 17 = .ok (.aload_n 0, 1) := by decide +kernel
theorem dX12_giveReads_18 : decode cX12_giveReads 18 = .ok (.getfield 266, 3) := by decide +kernel
theorem dX12_giveReads_21 : decode cX12_giveReads 21 = .ok (.aload_n 0, 1) := by decide +kernel
theorem dX12_giveReads_22 : decode cX12_giveReads 22 = .ok (.iload_n 1, 1) := by decide +kernel
theorem dX12_giveReads_23 : decode cX12_giveReads 23 = .ok (.iload_n 2, 1) := by decide +kernel
theorem dX12_giveReads_24 : decode cX12_giveReads 24 = .ok (.iload 4, 2) := by decide +kernel
theorem dX12_giveReads_26 : decode cX12_giveReads 26 = .ok (.invokevirtual 357, 3) := by decide +kernel
theorem dX12_giveReads_29 : decode cX12_giveReads 29 = .ok (.baload, 1) := by decide +kernel
theorem dX12_giveReads_30 : decode cX12_giveReads 30 = .ok (.ifCond .eq 38, 3) := by decide +kernel
theorem dX12_giveReads_33 : decode cX12_giveReads 33 = .ok (.iload_n 3, 1) := by decide +kernel
theorem dX12_giveReads_34 : decode cX12_giveReads 34 = .ok (.ifCond .lt 31, 3) := by decide +kernel
theorem dX12_giveReads_37 : decode cX12_giveReads 37 = .ok (.aload_n 0, 1) := by decide +kernel
theorem dX12_giveReads_38 : decode cX12_giveReads 38 = .ok (.getfield 278, 3) := by decide +kernel
theorem dX12_giveReads_41 : decode cX12_giveReads 41 = .ok (.aload_n 0, 1) := by decide +kernel
theorem dX12_giveReads_42 : decode cX12_giveReads 42 = .ok (.iload_n 1, 1) := by decide +kernel
theorem dX12_giveReads_43 : decode cX12_giveReads 43 = .ok (.iload_n 2, 1) := by decide +kernel
theorem dX12_giveReads_44 : decode cX12_giveReads 44 = .ok (.iload 4, 2) := by decide +kernel
theorem dX12_giveReads_46 : decode cX12_giveReads 46 = .ok (.invokevirtual 357, 3) := by decide +kernel
theorem dX12_giveReads_49 : decode cX12_giveReads 49 = .ok (.iaload, 1) := by decide +kernel
theorem dX12_giveReads_50 : decode cX12_giveReads 50 = .ok (.aload_n 0, 1) := by decide +kernel
theorem dX12_giveReads_51 : decode cX12_giveReads 51 = .ok (.getfield 278, 3) := by decide +kernel
theorem dX12_giveReads_54 : decode cX12_giveReads 54 = .ok (.aload_n 0, 1) := by decide +kernel
theorem dX12_giveReads_55 : decode cX12_giveReads 55 = .ok (.iload_n 1, 1) := by decide +kernel
theorem dX12_giveReads_56 : decode cX12_giveReads 56 = .ok (.iload_n 2, 1) := by decide +kernel
theorem dX12_giveReads_57 : decode cX12_giveReads 57 = .ok (.iload_n 3, 1) := by decide +kernel
theorem dX12_giveReads_58 : decode cX12_giveReads 58 = .ok (.invokevirtual 357, 3) := by decide +kernel
theorem dX12_giveReads_61 : decode cX12_giveReads 61 = .ok (.iaload, 1) := by decide +kernel
theorem dX12_giveReads_62 : decode cX12_giveReads 62 = .ok (.if_icmp .ge 6, 3) := by decide +kernel
theorem dX12_giveReads_65 : decode cX12_giveReads 65 = .ok (.iload 4, 2) := by decide +kernel
theorem dX12_giveReads_67 : decode cX12_giveReads 67 = .ok (.istore_n 3, 1) := by decide +kernel
theorem dX12_giveReads_68 : decode cX12_giveReads 68 = .ok (.iinc 4 1, 3) := by decide +kernel
theorem dX12_giveReads_71 : decode cX12_giveReads 71 = .ok (.goto (-61), 3) := by decide +kernel
theorem dX12_giveReads_74 : decode cX12_giveReads 74 = .ok (.iload_n 3, 1) := by decide +kernel
theorem dX12_giveReads_75 : decode cX12_giveReads 75 = .ok (.ifCond .ge 4, 3) := by decide +kernel
theorem dX12_giveReads_78 : decode cX12_giveReads 78 = .ok (.return_, 1) := by decide +kernel
theorem dX12_giveReads_79 : decode cX12_giveReads 79 = .ok (.aload_n 0, 1) := by decide +kernel
theorem dX12_giveReads_80 : decode cX12_giveReads 80 = .ok (.iload_n 1, 1) := by decide +kernel
theorem dX12_giveReads_81 : decode cX12_giveReads 81 = .ok (.iload_n 2, 1) := by decide +kernel
theorem dX12_giveReads_82 : decode cX12_giveReads 82 = .ok (.iload_n 3, 1) := by decide +kernel
theorem dX12_giveReads_83 : decode cX12_giveReads 83 = .ok (.invokevirtual 357, 3) := by decide +kernel
theorem dX12_giveReads_86 : decode cX12_giveReads 86 = .ok (.istore 4, 2) := by decide +kernel
theorem dX12_giveReads_88 : decode cX12_giveReads 88 = .ok (.aload_n 0, 1) := by decide +kernel
theorem dX12_giveReads_89 : decode cX12_giveReads 89 = .ok (.iload_n 1, 1) := by decide +kernel
theorem dX12_giveReads_90 : decode cX12_giveReads 90 = .ok (.iload_n 2, 1) := by decide +kernel
theorem dX12_giveReads_91 : decode cX12_giveReads 91 = .ok (.iconst 1, 1) := by decide +kernel
theorem dX12_giveReads_92 : decode cX12_giveReads 92 = .ok (.isub, 1) := by decide +kernel
theorem dX12_giveReads_93 : decode cX12_giveReads 93 = .ok (.iload_n 3, 1) := by decide +kernel
theorem dX12_giveReads_94 : decode cX12_giveReads 94 = .ok (.invokevirtual 357, 3) := by decide +kernel
theorem dX12_giveReads_97 : decode cX12_giveReads 97 = .ok (.istore 5, 2) := by decide +kernel
theorem dX12_giveReads_99 : decode cX12_giveReads 99 = .ok (.aload_n 0, 1) := by decide +kernel
theorem dX12_giveReads_100 : decode cX12_giveReads 100 = .ok (.getfield 266, 3) := by decide +kernel
theorem dX12_giveReads_103 : decode cX12_giveReads 103 = .ok (.iload 4, 2) := by decide +kernel
theorem dX12_giveReads_105 : decode cX12_giveReads 105 = .ok (.iconst 0, 1) := by decide +kernel
theorem dX12_giveReads_106 : decode cX12_giveReads 106 = .ok (.bastore, 1) := by decide +kernel
theorem dX12_giveReads_107 : decode cX12_giveReads 107 = .ok (.aload_n 0, 1) := by decide +kernel
theorem dX12_giveReads_108 : decode cX12_giveReads 108 = .ok (.getfield 266, 3) := by decide +kernel
theorem dX12_giveReads_111 : decode cX12_giveReads 111 = .ok (.iload 5, 2) := by decide +kernel
theorem dX12_giveReads_113 : decode cX12_giveReads 113 = .ok (.baload, 1) := by decide +kernel
theorem dX12_giveReads_114 : decode cX12_giveReads 114 = .ok (.ifCond .eq 6, 3) := by decide +kernel
theorem dX12_giveReads_117 : decode cX12_giveReads 117 = .ok (.goto (-112), 3) := by decide +kernel
theorem dX12_giveReads_120 : decode cX12_giveReads 120 = .ok (.aload_n 0, 1) := by decide +kernel
theorem dX12_giveReads_121 : decode cX12_giveReads 121 = .ok (.getfield 266, 3) := by decide +kernel
theorem dX12_giveReads_124 : decode cX12_giveReads 124 = .ok (.iload 5, 2) := by decide +kernel
theorem dX12_giveReads_126 : decode cX12_giveReads 126 = .ok (.iconst 1, 1) := by decide +kernel
theorem dX12_giveReads_127 : decode cX12_giveReads 127 = .ok (.bastore, 1) := by decide +kernel
theorem dX12_giveReads_128 : decode cX12_giveReads 128 = .ok (.aload_n 0, 1) := by decide +kernel
theorem dX12_giveReads_129 : decode cX12_giveReads 129 = .ok (.getfield 272, 3) := by decide +kernel
theorem dX12_giveReads_132 : decode cX12_giveReads 132 = .ok (.iload 5, 2) := by decide +kernel
theorem dX12_giveReads_134 : decode cX12_giveReads 134 = .ok (.aload_n 0, 1) := by decide +kernel
theorem dX12_giveReads_135 : decode cX12_giveReads 135 = .ok (.getfield 272, 3) := by decide +kernel
theorem dX12_giveReads_138 : decode cX12_giveReads 138 = .ok (.iload 4, 2) := by decide +kernel
theorem dX12_giveReads_140 : decode cX12_giveReads 140 = .ok (.iaload, 1) := by decide +kernel
theorem dX12_giveReads_141 : decode cX12_giveReads 141 = .ok (.iastore, 1) := by decide +kernel
theorem dX12_giveReads_142 : decode cX12_giveReads 142 = .ok (.aload_n 0, 1) := by decide +kernel
theorem dX12_giveReads_143 : decode cX12_giveReads 143 = .ok (.getfield 275, 3) := by decide +kernel
theorem dX12_giveReads_146 : decode cX12_giveReads 146 = .ok (.iload 5, 2) := by decide +kernel
theorem dX12_giveReads_148 : decode cX12_giveReads 148 = .ok (.aload_n 0, 1) := by decide +kernel
theorem dX12_giveReads_149 : decode cX12_giveReads 149 = .ok (.getfield 275, 3) := by decide +kernel
theorem dX12_giveReads_152 : decode cX12_giveReads 152 = .ok (.iload 4, 2) := by decide +kernel
theorem dX12_giveReads_154 : decode cX12_giveReads 154 = .ok (.iaload, 1) := by decide +kernel
theorem dX12_giveReads_155 : decode cX12_giveReads 155 = .ok (.iastore, 1) := by decide +kernel
theorem dX12_giveReads_156 : decode cX12_giveReads 156 = .ok (.aload_n 0, 1) := by decide +kernel
theorem dX12_giveReads_157 : decode cX12_giveReads 157 = .ok (.getfield 278, 3) := by decide +kernel
theorem dX12_giveReads_160 : decode cX12_giveReads 160 = .ok (.iload 5, 2) := by decide +kernel
theorem dX12_giveReads_162 : decode cX12_giveReads 162 = .ok (.aload_n 0, 1) := by decide +kernel
theorem dX12_giveReads_163 : decode cX12_giveReads 163 = .ok (.getfield 366, 3) := by decide +kernel
theorem dX12_giveReads_166 : decode cX12_giveReads 166 = .ok (.iastore, 1) := by decide +kernel
theorem dX12_giveReads_167 : decode cX12_giveReads 167 = .ok (.aload_n 0, 1) := by decide +kernel
theorem dX12_giveReads_168 : decode cX12_giveReads 168 = .ok (.dup, 1) := by decide +kernel
theorem dX12_giveReads_169 : decode cX12_giveReads 169 = .ok (.getfield 366, 3) := by decide +kernel
theorem dX12_giveReads_172 : decode cX12_giveReads 172 = .ok (.iconst 1, 1) := by decide +kernel
theorem dX12_giveReads_173 : decode cX12_giveReads 173 = .ok (.iadd, 1) := by decide +kernel
theorem dX12_giveReads_174 : decode cX12_giveReads 174 = .ok (.putfield 366, 3) := by decide +kernel
theorem dX12_giveReads_177 : decode cX12_giveReads 177 = .ok (.goto (-172), 3) := by decide +kernel
theorem dX12_goesOn_0 : decode cX12_goesOn 0 = .ok (.aload_n 0, 1) := by decide +kernel
theorem dX12_goesOn_1 : decode cX12_goesOn 1 = .ok (.iload_n 1, 1) := by decide +kernel
theorem dX12_goesOn_2 : decode cX12_goesOn 2 = .ok (.invokevirtual 393, 3) := by decide +kernel
theorem dX12_goesOn_5 : decode cX12_goesOn 5 = .ok (.ifCond .ge 5, 3) := by decide +kernel
theorem dX12_goesOn_8 : decode cX12_goesOn 8 = .ok (.iconst 1, 1) := by decide +kernel
theorem dX12_goesOn_9 : decode cX12_goesOn 9 = .ok (.ireturn, 1) := by decide +kernel
theorem dX12_goesOn_10 : decode cX12_goesOn 10 = .ok (.aload_n 0, 1) := by decide +kernel
theorem dX12_goesOn_11 : decode cX12_goesOn 11 = .ok (.iload_n 1, 1) := by decide +kernel
theorem dX12_goesOn_12 : decode cX12_goesOn 12 = .ok (.invokevirtual 399, 3) := by decide +kernel
theorem dX12_goesOn_15 : decode cX12_goesOn 15 = .ok (.iconst 0, 1) := by decide +kernel
theorem dX12_goesOn_16 : decode cX12_goesOn 16 = .ok (.ireturn, 1) := by decide +kernel
theorem dX12_had_0 : decode cX12_had 0 = .ok (.aload_n 0, 1) := by decide +kernel
theorem dX12_had_1 : decode cX12_had 1 = .ok (.iload_n 1, 1) := by decide +kernel
theorem dX12_had_2 : decode cX12_had 2 = .ok (.invokestatic 509, 3) := by decide +kernel
theorem dX12_had_5 : decode cX12_had 5 = .ok (.ifCond .eq 15, 3) := by decide +kernel
theorem dX12_had_8 : decode cX12_had 8 = .ok (.iload_n 2, 1) := by decide +kernel
theorem dX12_had_9 : decode cX12_had 9 = .ok (.ifCond .lt 11, 3) := by decide +kernel
theorem dX12_had_12 : decode cX12_had 12 = .ok (.iload_n 2, 1) := by decide +kernel
theorem dX12_had_13 : decode cX12_had 13 = .ok (.aload_n 0, 1) := by decide +kernel
theorem dX12_had_14 : decode cX12_had 14 = .ok (.getfield 148, 3) := by decide +kernel
theorem dX12_had_17 : decode cX12_had 17 = .ok (.if_icmp .le 7, 3) := by decide +kernel
theorem dX12_had_20 : decode cX12_had 20 = .ok (.iconst 1, 1) := by decide +kernel
theorem dX12_had_21 : decode cX12_had 21 = .ok (.goto 4, 3) := by decide +kernel
theorem dX12_had_24 : decode cX12_had 24 = .ok (.iconst 0, 1) := by decide +kernel
theorem dX12_had_25 : decode cX12_had 25 = .ok (.invokevirtual 497, 3) := by decide +kernel
theorem dX12_had_28 : decode cX12_had 28 = .ok (.ifCond .eq 5, 3) := by decide +kernel
theorem dX12_had_31 : decode cX12_had 31 = .ok (.iconst 0, 1) := by decide +kernel
theorem dX12_had_32 : decode cX12_had 32 = .ok (.ireturn, 1) := by decide +kernel
theorem dX12_had_33 : decode cX12_had 33 = .ok (.aload_n 0, 1) := by decide +kernel
theorem dX12_had_34 : decode cX12_had 34 = .ok (.iload_n 1, 1) := by decide +kernel
theorem dX12_had_35 : decode cX12_had 35 = .ok (.iload_n 2, 1) := by decide +kernel
theorem dX12_had_36 : decode cX12_had 36 = .ok (.invokevirtual 415, 3) := by decide +kernel
theorem dX12_had_39 : decode cX12_had 39 = .ok (.ireturn, 1) := by decide +kernel
theorem dX12_has_0 : decode cX12_has 0 = .ok (.aload_n 0, 1) := by decide +kernel
theorem dX12_has_1 : decode cX12_has 1 = .ok (.iload_n 1, 1) := by decide +kernel
theorem dX12_has_2 : decode cX12_has 2 = .ok (.invokestatic 509, 3) := by decide +kernel
theorem dX12_has_5 : decode cX12_has 5 = .ok (.ifCond .ne 7, 3) := by decide +kernel
theorem dX12_has_8 : decode cX12_has 8 = .ok (.iconst 1, 1) := by decide +kernel
theorem dX12_has_9 : decode cX12_has 9 = .ok (.goto 4, 3) := by decide +kernel
theorem dX12_has_12 : decode cX12_has 12 = .ok (.iconst 0, 1) := by decide +kernel
theorem dX12_has_13 : decode cX12_has 13 = .ok (.invokevirtual 497, 3) := by decide +kernel
theorem dX12_has_16 : decode cX12_has 16 = .ok (.ifCond .eq 5, 3) := by decide +kernel
theorem dX12_has_19 : decode cX12_has 19 = .ok (.iconst 0, 1) := by decide +kernel
theorem dX12_has_20 : decode cX12_has 20 = .ok (.ireturn, 1) := by decide +kernel
theorem dX12_has_21 : decode cX12_has 21 = .ok (.aload_n 0, 1) := by decide +kernel
theorem dX12_has_22 : decode cX12_has 22 = .ok (.getfield 151, 3) := by decide +kernel
theorem dX12_has_25 : decode cX12_has 25 = .ok (.iload_n 1, 1) := by decide +kernel
theorem dX12_has_26 : decode cX12_has 26 = .ok (.iaload, 1) := by decide +kernel
theorem dX12_has_27 : decode cX12_has 27 = .ok (.ireturn, 1) := by decide +kernel
theorem dX12_hasWrites_0 : decode cX12_hasWrites 0 = .ok (.iconst 0, 1) := by decide +kernel
theorem dX12_hasWrites_1 : decode cX12_hasWrites 1 = .ok (.istore_n 2, 1) := by decide +kernel
theorem dX12_hasWrites_2 : decode cX12_hasWrites 2 = .ok (.iload_n 2, 1) := by decide +kernel
theorem dX12_hasWrites_3 : decode cX12_hasWrites 3 = .ok (.bipush 26, 2) := by decide +kernel
theorem dX12_hasWrites_5 : decode cX12_hasWrites 5 = .ok (.if_icmp .ge 26, 3) := by decide +kernel
theorem dX12_hasWrites_8 : decode cX12_hasWrites 8 = .ok (.aload_n 0, 1) := by decide +kernel
theorem dX12_hasWrites_9 : decode cX12_hasWrites 9 = .ok (.getfield 269, 3) := by decide +kernel
theorem dX12_hasWrites_12 : decode cX12_hasWrites 12 = .ok (.aload_n 0, 1) := by decide +kernel
theorem dX12_hasWrites_13 : decode cX12_hasWrites 13 = .ok (.iload_n 1, 1) := by decide +kernel
theorem dX12_hasWrites_14 : decode cX12_hasWrites 14 = .ok (.iconst 0, 1) := by decide +kernel
theorem dX12_hasWrites_15 : decode cX12_hasWrites 15 = .ok (.iload_n 2, 1) := by decide +kernel
theorem dX12_hasWrites_16 : decode cX12_hasWrites 16 = .ok (.invokevirtual 357, 3) := by decide +kernel
theorem dX12_hasWrites_19 : decode cX12_hasWrites 19 = .ok (.baload, 1) := by decide +kernel
theorem dX12_hasWrites_20 : decode cX12_hasWrites 20 = .ok (.ifCond .eq 5, 3) := by decide +kernel
theorem dX12_hasWrites_23 : decode cX12_hasWrites 23 = .ok (.iconst 1, 1) := by decide +kernel
theorem dX12_hasWrites_24 : decode cX12_hasWrites 24 = .ok (.ireturn, 1) := by decide +kernel
theorem dX12_hasWrites_25 : decode cX12_hasWrites 25 = .ok (.iinc 2 1, 3) := by decide +kernel
theorem dX12_hasWrites_28 : decode cX12_hasWrites 28 = .ok (.goto (-26), 3) := by decide +kernel
theorem dX12_hasWrites_31 : decode cX12_hasWrites 31 = .ok (.iconst 0, 1) := by decide +kernel
theorem dX12_hasWrites_32 : decode cX12_hasWrites 32 = .ok (.ireturn, 1) := by decide +kernel
theorem dX12_hold_0 : decode cX12_hold 0 = .ok (.aload_n 0, 1) := by decide +kernel
theorem dX12_hold_1 : decode cX12_hold 1 = .ok (.getfield 287, 3) := by decide +kernel
theorem dX12_hold_4 : decode cX12_hold 4 = .ok (.iload_n 1, 1) := by decide +kernel
theorem dX12_hold_5 : decode cX12_hold 5 = .ok (.iaload, 1) := by decide +kernel
theorem dX12_hold_6 : decode cX12_hold 6 = .ok (.sipush 200, 3) := by decide +kernel
theorem dX12_hold_9 : decode cX12_hold 9 = .ok (.if_icmp .ne 4, 3) := by decide +kernel
theorem dX12_hold_12 : decode cX12_hold 12 = .ok (.return_, 1) := by decide +kernel
theorem dX12_hold_13 : decode cX12_hold 13 = .ok (.aload_n 0, 1) := by decide +kernel
theorem dX12_hold_14 : decode cX12_hold 14 = .ok (.getfield 284, 3) := by decide +kernel
theorem dX12_hold_17 : decode cX12_hold 17 = .ok (.iload_n 1, 1) := by decide +kernel
theorem dX12_hold_18 : decode cX12_hold 18 = .ok (.sipush 200, 3) := by decide +kernel
theorem dX12_hold_21 : decode cX12_hold 21 = .ok (.imul, 1) := by decide +kernel
theorem dX12_hold_22 : decode cX12_hold 22 = .ok (.aload_n 0, 1) := by decide +kernel
theorem dX12_hold_23 : decode cX12_hold 23 = .ok (.getfield 287, 3) := by decide +kernel
theorem dX12_hold_26 : decode cX12_hold 26 = .ok (.iload_n 1, 1) := by decide +kernel
theorem dX12_hold_27 : decode cX12_hold 27 = .ok (.iaload, 1) := by decide +kernel
theorem dX12_hold_28 : decode cX12_hold 28 = .ok (.iadd, 1) := by decide +kernel
theorem dX12_hold_29 : decode cX12_hold 29 = .ok (.iload_n 2, 1) := by decide +kernel
theorem dX12_hold_30 : decode cX12_hold 30 = .ok (.iastore, 1) := by decide +kernel
theorem dX12_hold_31 : decode cX12_hold 31 = .ok (.aload_n 0, 1) := by decide +kernel
theorem dX12_hold_32 : decode cX12_hold 32 = .ok (.getfield 287, 3) := by decide +kernel
theorem dX12_hold_35 : decode cX12_hold 35 = .ok (.iload_n 1, 1) := by decide +kernel
theorem dX12_hold_36 : decode cX12_hold 36 = .ok (.dup2, 1) := by decide +kernel
theorem dX12_hold_37 : decode cX12_hold 37 = .ok (.iaload, 1) := by decide +kernel
theorem dX12_hold_38 : decode cX12_hold 38 = .ok (.iconst 1, 1) := by decide +kernel
theorem dX12_hold_39 : decode cX12_hold 39 = .ok (.iadd, 1) := by decide +kernel
theorem dX12_hold_40 : decode cX12_hold 40 = .ok (.iastore, 1) := by decide +kernel
theorem dX12_hold_41 : decode cX12_hold 41 = .ok (.return_, 1) := by decide +kernel
theorem dX12_init_0 : decode cX12_init 0 = .ok (.aload_n 0, 1) := by decide +kernel
theorem dX12_init_1 : decode cX12_init 1 = .ok (.invokespecial 163, 3) := by decide +kernel
theorem dX12_init_4 : decode cX12_init 4 = .ok (.aload_n 0, 1) := by decide +kernel
theorem dX12_init_5 : decode cX12_init 5 = .ok (.new 168, 3) := by decide +kernel
theorem dX12_init_8 : decode cX12_init 8 = .ok (.dup, 1) := by decide +kernel
theorem dX12_init_9 : decode cX12_init 9 = .ok (.invokespecial 170, 3) := by decide +kernel
theorem dX12_init_12 : decode cX12_init 12 = .ok (.putfield 10, 3) := by decide +kernel
theorem dX12_init_15 : decode cX12_init 15 = .ok (.aload_n 0, 1) := by decide +kernel
theorem dX12_init_16 : decode cX12_init 16 = .ok (.iconst (-1), 1) := by decide +kernel
theorem dX12_init_17 : decode cX12_init 17 = .ok (.putfield 171, 3) := by decide +kernel
theorem dX12_init_20 : decode cX12_init 20 = .ok (.aload_n 0, 1) := by decide +kernel
theorem dX12_init_21 : decode cX12_init 21 = .ok (.sipush 1000, 3) := by decide +kernel
theorem dX12_init_24 : decode cX12_init 24 = .ok (.newarray .byte, 2) := by decide +kernel
theorem dX12_init_26 : decode cX12_init 26 = .ok (.putfield 174, 3) := by decide +kernel
theorem dX12_init_29 : decode cX12_init 29 = .ok (.aload_n 0, 1) := by decide +kernel
theorem dX12_init_30 : decode cX12_init 30 = .ok (.sipush 1000, 3) := by decide +kernel
theorem dX12_init_33 : decode cX12_init 33 = .ok (.newarray .byte, 2) := by decide +kernel
theorem dX12_init_35 : decode cX12_init 35 = .ok (.putfield 17, 3) := by decide +kernel
theorem dX12_init_38 : decode cX12_init 38 = .ok (.aload_n 0, 1) := by decide +kernel
theorem dX12_init_39 : decode cX12_init 39 = .ok (.sipush 18000, 3) := by decide +kernel
theorem dX12_init_42 : decode cX12_init 42 = .ok (.newarray .int, 2) := by decide +kernel
theorem dX12_init_44 : decode cX12_init 44 = .ok (.putfield 74, 3) := by decide +kernel
theorem dX12_init_47 : decode cX12_init 47 = .ok (.aload_n 0, 1) := by decide +kernel
theorem dX12_init_48 : decode cX12_init 48 = .ok (.bipush 26, 2) := by decide +kernel
theorem dX12_init_50 : decode cX12_init 50 = .ok (.newarray .int, 2) := by decide +kernel
theorem dX12_init_52 : decode cX12_init 52 = .ok (.putfield 151, 3) := by decide +kernel
theorem dX12_init_55 : decode cX12_init 55 = .ok (.aload_n 0, 1) := by decide +kernel
theorem dX12_init_56 : decode cX12_init 56 = .ok (.bipush 26, 2) := by decide +kernel
theorem dX12_init_58 : decode cX12_init 58 = .ok (.newarray .int, 2) := by decide +kernel
theorem dX12_init_60 : decode cX12_init 60 = .ok (.putfield 157, 3) := by decide +kernel
theorem dX12_init_63 : decode cX12_init 63 = .ok (.aload_n 0, 1) := by decide +kernel
theorem dX12_init_64 : decode cX12_init 64 = .ok (.bipush 26, 2) := by decide +kernel
theorem dX12_init_66 : decode cX12_init 66 = .ok (.newarray .int, 2) := by decide +kernel
theorem dX12_init_68 : decode cX12_init 68 = .ok (.putfield 177, 3) := by decide +kernel
theorem dX12_init_71 : decode cX12_init 71 = .ok (.aload_n 0, 1) := by decide +kernel
theorem dX12_init_72 : decode cX12_init 72 = .ok (.bipush 26, 2) := by decide +kernel
theorem dX12_init_74 : decode cX12_init 74 = .ok (.newarray .int, 2) := by decide +kernel
theorem dX12_init_76 : decode cX12_init 76 = .ok (.putfield 180, 3) := by decide +kernel
theorem dX12_init_79 : decode cX12_init 79 = .ok (.aload_n 0, 1) := by decide +kernel
theorem dX12_init_80 : decode cX12_init 80 = .ok (.bipush 26, 2) := by decide +kernel
theorem dX12_init_82 : decode cX12_init 82 = .ok (.newarray .int, 2) := by decide +kernel
theorem dX12_init_84 : decode cX12_init 84 = .ok (.putfield 154, 3) := by decide +kernel
theorem dX12_init_87 : decode cX12_init 87 = .ok (.aload_n 0, 1) := by decide +kernel
theorem dX12_init_88 : decode cX12_init 88 = .ok (.sipush 256, 3) := by decide +kernel
theorem dX12_init_91 : decode cX12_init 91 = .ok (.newarray .int, 2) := by decide +kernel
theorem dX12_init_93 : decode cX12_init 93 = .ok (.putfield 135, 3) := by decide +kernel
theorem dX12_init_96 : decode cX12_init 96 = .ok (.aload_n 0, 1) := by decide +kernel
theorem dX12_init_97 : decode cX12_init 97 = .ok (.sipush 256, 3) := by decide +kernel
theorem dX12_init_100 : decode cX12_init 100 = .ok (.newarray .int, 2) := by decide +kernel
theorem dX12_init_102 : decode cX12_init 102 = .ok (.putfield 142, 3) := by decide +kernel
theorem dX12_init_105 : decode cX12_init 105 = .ok (.aload_n 0, 1) := by decide +kernel
theorem dX12_init_106 : decode cX12_init 106 = .ok (.sipush 256, 3) := by decide +kernel
theorem dX12_init_109 : decode cX12_init 109 = .ok (.newarray .int, 2) := by decide +kernel
theorem dX12_init_111 : decode cX12_init 111 = .ok (.putfield 145, 3) := by decide +kernel
theorem dX12_init_114 : decode cX12_init 114 = .ok (.aload_n 0, 1) := by decide +kernel
theorem dX12_init_115 : decode cX12_init 115 = .ok (.ldc 183, 2) := by decide +kernel
theorem dX12_init_117 : decode cX12_init 117 = .ok (.newarray .int, 2) := by decide +kernel
theorem dX12_init_119 : decode cX12_init 119 = .ok (.putfield 184, 3) := by decide +kernel
theorem dX12_init_122 : decode cX12_init 122 = .ok (.aload_n 0, 1) := by decide +kernel
theorem dX12_init_123 : decode cX12_init 123 = .ok (.bipush 6, 2) := by decide +kernel
theorem dX12_init_125 : decode cX12_init 125 = .ok (.newarray .int, 2) := by decide +kernel
theorem dX12_init_127 : decode cX12_init 127 = .ok (.putfield 187, 3) := by decide +kernel
theorem dX12_init_130 : decode cX12_init 130 = .ok (.aload_n 0, 1) := by decide +kernel
theorem dX12_init_131 : decode cX12_init 131 = .ok (.bipush 6, 2) := by decide +kernel
theorem dX12_init_133 : decode cX12_init 133 = .ok (.newarray .int, 2) := by decide +kernel
theorem dX12_init_135 : decode cX12_init 135 = .ok (.putfield 190, 3) := by decide +kernel
theorem dX12_init_138 : decode cX12_init 138 = .ok (.aload_n 0, 1) := by decide +kernel
theorem dX12_init_139 : decode cX12_init 139 = .ok (.sipush 156, 3) := by decide +kernel
theorem dX12_init_142 : decode cX12_init 142 = .ok (.newarray .int, 2) := by decide +kernel
theorem dX12_init_144 : decode cX12_init 144 = .ok (.putfield 193, 3) := by decide +kernel
theorem dX12_init_147 : decode cX12_init 147 = .ok (.aload_n 0, 1) := by decide +kernel
theorem dX12_init_148 : decode cX12_init 148 = .ok (.sipush 384, 3) := by decide +kernel
theorem dX12_init_151 : decode cX12_init 151 = .ok (.newarray .int, 2) := by decide +kernel
theorem dX12_init_153 : decode cX12_init 153 = .ok (.putfield 196, 3) := by decide +kernel
theorem dX12_init_156 : decode cX12_init 156 = .ok (.aload_n 0, 1) := by decide +kernel
theorem dX12_init_157 : decode cX12_init 157 = .ok (.bipush 6, 2) := by decide +kernel
theorem dX12_init_159 : decode cX12_init 159 = .ok (.newarray .int, 2) := by decide +kernel
theorem dX12_init_161 : decode cX12_init 161 = .ok (.putfield 199, 3) := by decide +kernel
theorem dX12_init_164 : decode cX12_init 164 = .ok (.aload_n 0, 1) := by decide +kernel
theorem dX12_init_165 : decode cX12_init 165 = .ok (.bipush 6, 2) := by decide +kernel
theorem dX12_init_167 : decode cX12_init 167 = .ok (.newarray .int, 2) := by decide +kernel
theorem dX12_init_169 : decode cX12_init 169 = .ok (.putfield 202, 3) := by decide +kernel
theorem dX12_init_172 : decode cX12_init 172 = .ok (.aload_n 0, 1) := by decide +kernel
theorem dX12_init_173 : decode cX12_init 173 = .ok (.bipush 6, 2) := by decide +kernel
theorem dX12_init_175 : decode cX12_init 175 = .ok (.newarray .int, 2) := by decide +kernel
theorem dX12_init_177 : decode cX12_init 177 = .ok (.putfield 205, 3) := by decide +kernel
theorem dX12_init_180 : decode cX12_init 180 = .ok (.aload_n 0, 1) := by decide +kernel
theorem dX12_init_181 : decode cX12_init 181 = .ok (.bipush 6, 2) := by decide +kernel
theorem dX12_init_183 : decode cX12_init 183 = .ok (.newarray .int, 2) := by decide +kernel
theorem dX12_init_185 : decode cX12_init 185 = .ok (.putfield 208, 3) := by decide +kernel
theorem dX12_init_188 : decode cX12_init 188 = .ok (.aload_n 0, 1) := by decide +kernel
theorem dX12_init_189 : decode cX12_init 189 = .ok (.bipush 6, 2) := by decide +kernel
theorem dX12_init_191 : decode cX12_init 191 = .ok (.newarray .int, 2) := by decide +kernel
theorem dX12_init_193 : decode cX12_init 193 = .ok (.putfield 211, 3) := by decide +kernel
theorem dX12_init_196 : decode cX12_init 196 = .ok (.aload_n 0, 1) := by decide +kernel
theorem dX12_init_197 : decode cX12_init 197 = .ok (.bipush 6, 2) := by decide +kernel
theorem dX12_init_199 : decode cX12_init 199 = .ok (.newarray .int, 2) := by decide +kernel
theorem dX12_init_201 : decode cX12_init 201 = .ok (.putfield 214, 3) := by decide +kernel
theorem dX12_init_204 : decode cX12_init 204 = .ok (.aload_n 0, 1) := by decide +kernel
theorem dX12_init_205 : decode cX12_init 205 = .ok (.bipush 6, 2) := by decide +kernel
theorem dX12_init_207 : decode cX12_init 207 = .ok (.newarray .int, 2) := by decide +kernel
theorem dX12_init_209 : decode cX12_init 209 = .ok (.putfield 217, 3) := by decide +kernel
theorem dX12_init_212 : decode cX12_init 212 = .ok (.aload_n 0, 1) := by decide +kernel
theorem dX12_init_213 : decode cX12_init 213 = .ok (.bipush 6, 2) := by decide +kernel
theorem dX12_init_215 : decode cX12_init 215 = .ok (.newarray .int, 2) := by decide +kernel
theorem dX12_init_217 : decode cX12_init 217 = .ok (.putfield 220, 3) := by decide +kernel
theorem dX12_init_220 : decode cX12_init 220 = .ok (.aload_n 0, 1) := by decide +kernel
theorem dX12_init_221 : decode cX12_init 221 = .ok (.bipush 6, 2) := by decide +kernel
theorem dX12_init_223 : decode cX12_init 223 = .ok (.newarray .int, 2) := by decide +kernel
theorem dX12_init_225 : decode cX12_init 225 = .ok (.putfield 223, 3) := by decide +kernel
theorem dX12_init_228 : decode cX12_init 228 = .ok (.aload_n 0, 1) := by decide +kernel
theorem dX12_init_229 : decode cX12_init 229 = .ok (.bipush 6, 2) := by decide +kernel
theorem dX12_init_231 : decode cX12_init 231 = .ok (.newarray .int, 2) := by decide +kernel
theorem dX12_init_233 : decode cX12_init 233 = .ok (.putfield 226, 3) := by decide +kernel
theorem dX12_init_236 : decode cX12_init 236 = .ok (.aload_n 0, 1) := by decide +kernel
theorem dX12_init_237 : decode cX12_init 237 = .ok (.bipush 72, 2) := by decide +kernel
theorem dX12_init_239 : decode cX12_init 239 = .ok (.newarray .int, 2) := by decide +kernel
theorem dX12_init_241 : decode cX12_init 241 = .ok (.putfield 229, 3) := by decide +kernel
theorem dX12_init_244 : decode cX12_init 244 = .ok (.aload_n 0, 1) := by decide +kernel
theorem dX12_init_245 : decode cX12_init 245 = .ok (.bipush 72, 2) := by decide +kernel
theorem dX12_init_247 : decode cX12_init 247 = .ok (.newarray .int, 2) := by decide +kernel
theorem dX12_init_249 : decode cX12_init 249 = .ok (.putfield 232, 3) := by decide +kernel
theorem dX12_init_252 : decode cX12_init 252 = .ok (.aload_n 0, 1) := by decide +kernel
theorem dX12_init_253 : decode cX12_init 253 = .ok (.bipush 72, 2) := by decide +kernel
theorem dX12_init_255 : decode cX12_init 255 = .ok (.newarray .int, 2) := by decide +kernel
theorem dX12_init_257 : decode cX12_init 257 = .ok (.putfield 235, 3) := by decide +kernel
theorem dX12_init_260 : decode cX12_init 260 = .ok (.aload_n 0, 1) := by decide +kernel
theorem dX12_init_261 : decode cX12_init 261 = .ok (.bipush 72, 2) := by decide +kernel
theorem dX12_init_263 : decode cX12_init 263 = .ok (.newarray .int, 2) := by decide +kernel
theorem dX12_init_265 : decode cX12_init 265 = .ok (.putfield 238, 3) := by decide +kernel
theorem dX12_init_268 : decode cX12_init 268 = .ok (.aload_n 0, 1) := by decide +kernel
theorem dX12_init_269 : decode cX12_init 269 = .ok (.bipush 72, 2) := by decide +kernel
theorem dX12_init_271 : decode cX12_init 271 = .ok (.newarray .int, 2) := by decide +kernel
theorem dX12_init_273 : decode cX12_init 273 = .ok (.putfield 241, 3) := by decide +kernel
theorem dX12_init_276 : decode cX12_init 276 = .ok (.aload_n 0, 1) := by decide +kernel
theorem dX12_init_277 : decode cX12_init 277 = .ok (.bipush 72, 2) := by decide +kernel
theorem dX12_init_279 : decode cX12_init 279 = .ok (.newarray .int, 2) := by decide +kernel
theorem dX12_init_281 : decode cX12_init 281 = .ok (.putfield 244, 3) := by decide +kernel
theorem dX12_init_284 : decode cX12_init 284 = .ok (.aload_n 0, 1) := by decide +kernel
theorem dX12_init_285 : decode cX12_init 285 = .ok (.bipush 72, 2) := by decide +kernel
theorem dX12_init_287 : decode cX12_init 287 = .ok (.newarray .int, 2) := by decide +kernel
theorem dX12_init_289 : decode cX12_init 289 = .ok (.putfield 247, 3) := by decide +kernel
theorem dX12_init_292 : decode cX12_init 292 = .ok (.aload_n 0, 1) := by decide +kernel
theorem dX12_init_293 : decode cX12_init 293 = .ok (.bipush 72, 2) := by decide +kernel
theorem dX12_init_295 : decode cX12_init 295 = .ok (.newarray .int, 2) := by decide +kernel
theorem dX12_init_297 : decode cX12_init 297 = .ok (.putfield 250, 3) := by decide +kernel
theorem dX12_init_300 : decode cX12_init 300 = .ok (.aload_n 0, 1) := by decide +kernel
theorem dX12_init_301 : decode cX12_init 301 = .ok (.bipush 72, 2) := by decide +kernel
theorem dX12_init_303 : decode cX12_init 303 = .ok (.newarray .int, 2) := by decide +kernel
theorem dX12_init_305 : decode cX12_init 305 = .ok (.putfield 253, 3) := by decide +kernel
theorem dX12_init_308 : decode cX12_init 308 = .ok (.aload_n 0, 1) := by decide +kernel
theorem dX12_init_309 : decode cX12_init 309 = .ok (.bipush 72, 2) := by decide +kernel
theorem dX12_init_311 : decode cX12_init 311 = .ok (.newarray .int, 2) := by decide +kernel
theorem dX12_init_313 : decode cX12_init 313 = .ok (.putfield 256, 3) := by decide +kernel
theorem dX12_init_316 : decode cX12_init 316 = .ok (.aload_n 0, 1) := by decide +kernel
theorem dX12_init_317 : decode cX12_init 317 = .ok (.sipush 1872, 3) := by decide +kernel
theorem dX12_init_320 : decode cX12_init 320 = .ok (.newarray .int, 2) := by decide +kernel
theorem dX12_init_322 : decode cX12_init 322 = .ok (.putfield 259, 3) := by decide +kernel
theorem dX12_init_325 : decode cX12_init 325 = .ok (.aload_n 0, 1) := by decide +kernel
theorem dX12_init_326 : decode cX12_init 326 = .ok (.bipush 72, 2) := by decide +kernel
theorem dX12_init_328 : decode cX12_init 328 = .ok (.newarray .boolean, 2) := by decide +kernel
theorem dX12_init_330 : decode cX12_init 330 = .ok (.putfield 262, 3) := by decide +kernel
theorem dX12_init_333 : decode cX12_init 333 = .ok (.aload_n 0, 1) := by decide +kernel
theorem dX12_init_334 : decode cX12_init 334 = .ok (.sipush 1872, 3) := by decide +kernel
theorem dX12_init_337 : decode cX12_init 337 = .ok (.newarray .boolean, 2) := by decide +kernel
theorem dX12_init_339 : decode cX12_init 339 = .ok (.putfield 266, 3) := by decide +kernel
theorem dX12_init_342 : decode cX12_init 342 = .ok (.aload_n 0, 1) := by decide +kernel
theorem dX12_init_343 : decode cX12_init 343 = .ok (.sipush 1872, 3) := by decide +kernel
theorem dX12_init_346 : decode cX12_init 346 = .ok (.newarray .boolean, 2) := by decide +kernel
theorem dX12_init_348 : decode cX12_init 348 = .ok (.putfield 269, 3) := by decide +kernel
theorem dX12_init_351 : decode cX12_init 351 = .ok (.aload_n 0, 1) := by decide +kernel
theorem dX12_init_352 : decode cX12_init 352 = .ok (.sipush 1872, 3) := by decide +kernel
theorem dX12_init_355 : decode cX12_init 355 = .ok (.newarray .int, 2) := by decide +kernel
theorem dX12_init_357 : decode cX12_init 357 = .ok (.putfield 272, 3) := by decide +kernel
theorem dX12_init_360 : decode cX12_init 360 = .ok (.aload_n 0, 1) := by decide +kernel
theorem dX12_init_361 : decode cX12_init 361 = .ok (.sipush 1872, 3) := by decide +kernel
theorem dX12_init_364 : decode cX12_init 364 = .ok (.newarray .int, 2) := by decide +kernel
theorem dX12_init_366 : decode cX12_init 366 = .ok (.putfield 275, 3) := by decide +kernel
theorem dX12_init_369 : decode cX12_init 369 = .ok (.aload_n 0, 1) := by decide +kernel
theorem dX12_init_370 : decode cX12_init 370 = .ok (.sipush 1872, 3) := by decide +kernel
theorem dX12_init_373 : decode cX12_init 373 = .ok (.newarray .int, 2) := by decide +kernel
theorem dX12_init_375 : decode cX12_init 375 = .ok (.putfield 278, 3) := by decide +kernel
theorem dX12_init_378 : decode cX12_init 378 = .ok (.aload_n 0, 1) := by decide +kernel
theorem dX12_init_379 : decode cX12_init 379 = .ok (.sipush 1872, 3) := by decide +kernel
theorem dX12_init_382 : decode cX12_init 382 = .ok (.newarray .int, 2) := by decide +kernel
theorem dX12_init_384 : decode cX12_init 384 = .ok (.putfield 281, 3) := by decide +kernel
theorem dX12_init_387 : decode cX12_init 387 = .ok (.aload_n 0, 1) := by decide +kernel
theorem dX12_init_388 : decode cX12_init 388 = .ok (.sipush 14400, 3) := by decide +kernel
theorem dX12_init_391 : decode cX12_init 391 = .ok (.newarray .int, 2) := by decide +kernel
theorem dX12_init_393 : decode cX12_init 393 = .ok (.putfield 284, 3) := by decide +kernel
theorem dX12_init_396 : decode cX12_init 396 = .ok (.aload_n 0, 1) := by decide +kernel
theorem dX12_init_397 : decode cX12_init 397 = .ok (.bipush 72, 2) := by decide +kernel
theorem dX12_init_399 : decode cX12_init 399 = .ok (.newarray .int, 2) := by decide +kernel
theorem dX12_init_401 : decode cX12_init 401 = .ok (.putfield 287, 3) := by decide +kernel
theorem dX12_init_404 : decode cX12_init 404 = .ok (.aload_n 0, 1) := by decide +kernel
theorem dX12_init_405 : decode cX12_init 405 = .ok (.sipush 200, 3) := by decide +kernel
theorem dX12_init_408 : decode cX12_init 408 = .ok (.newarray .int, 2) := by decide +kernel
theorem dX12_init_410 : decode cX12_init 410 = .ok (.putfield 290, 3) := by decide +kernel
theorem dX12_init_413 : decode cX12_init 413 = .ok (.aload_n 0, 1) := by decide +kernel
theorem dX12_init_414 : decode cX12_init 414 = .ok (.sipush 200, 3) := by decide +kernel
theorem dX12_init_417 : decode cX12_init 417 = .ok (.newarray .int, 2) := by decide +kernel
theorem dX12_init_419 : decode cX12_init 419 = .ok (.putfield 293, 3) := by decide +kernel
theorem dX12_init_422 : decode cX12_init 422 = .ok (.aload_n 0, 1) := by decide +kernel
theorem dX12_init_423 : decode cX12_init 423 = .ok (.sipush 300, 3) := by decide +kernel
theorem dX12_init_426 : decode cX12_init 426 = .ok (.newarray .int, 2) := by decide +kernel
theorem dX12_init_428 : decode cX12_init 428 = .ok (.putfield 296, 3) := by decide +kernel
theorem dX12_init_431 : decode cX12_init 431 = .ok (.aload_n 0, 1) := by decide +kernel
theorem dX12_init_432 : decode cX12_init 432 = .ok (.sipush 300, 3) := by decide +kernel
theorem dX12_init_435 : decode cX12_init 435 = .ok (.newarray .int, 2) := by decide +kernel
theorem dX12_init_437 : decode cX12_init 437 = .ok (.putfield 299, 3) := by decide +kernel
theorem dX12_init_440 : decode cX12_init 440 = .ok (.aload_n 0, 1) := by decide +kernel
theorem dX12_init_441 : decode cX12_init 441 = .ok (.sipush 300, 3) := by decide +kernel
theorem dX12_init_444 : decode cX12_init 444 = .ok (.newarray .int, 2) := by decide +kernel
theorem dX12_init_446 : decode cX12_init 446 = .ok (.putfield 302, 3) := by decide +kernel
theorem dX12_init_449 : decode cX12_init 449 = .ok (.aload_n 0, 1) := by decide +kernel
theorem dX12_init_450 : decode cX12_init 450 = .ok (.sipush 7800, 3) := by decide +kernel
theorem dX12_init_453 : decode cX12_init 453 = .ok (.newarray .int, 2) := by decide +kernel
theorem dX12_init_455 : decode cX12_init 455 = .ok (.putfield 305, 3) := by decide +kernel
theorem dX12_init_458 : decode cX12_init 458 = .ok (.aload_n 0, 1) := by decide +kernel
theorem dX12_init_459 : decode cX12_init 459 = .ok (.sipush 7800, 3) := by decide +kernel
theorem dX12_init_462 : decode cX12_init 462 = .ok (.newarray .int, 2) := by decide +kernel
theorem dX12_init_464 : decode cX12_init 464 = .ok (.putfield 308, 3) := by decide +kernel
theorem dX12_init_467 : decode cX12_init 467 = .ok (.aload_n 0, 1) := by decide +kernel
theorem dX12_init_468 : decode cX12_init 468 = .ok (.sipush 7800, 3) := by decide +kernel
theorem dX12_init_471 : decode cX12_init 471 = .ok (.newarray .boolean, 2) := by decide +kernel
theorem dX12_init_473 : decode cX12_init 473 = .ok (.putfield 311, 3) := by decide +kernel
theorem dX12_init_476 : decode cX12_init 476 = .ok (.aload_n 0, 1) := by decide +kernel
theorem dX12_init_477 : decode cX12_init 477 = .ok (.sipush 7800, 3) := by decide +kernel
theorem dX12_init_480 : decode cX12_init 480 = .ok (.newarray .boolean, 2) := by decide +kernel
theorem dX12_init_482 : decode cX12_init 482 = .ok (.putfield 314, 3) := by decide +kernel
theorem dX12_init_485 : decode cX12_init 485 = .ok (.aload_n 0, 1) := by decide +kernel
theorem dX12_init_486 : decode cX12_init 486 = .ok (.bipush 15, 2) := by decide +kernel
theorem dX12_init_488 : decode cX12_init 488 = .ok (.newarray .int, 2) := by decide +kernel
theorem dX12_init_490 : decode cX12_init 490 = .ok (.putfield 317, 3) := by decide +kernel
theorem dX12_init_493 : decode cX12_init 493 = .ok (.aload_n 0, 1) := by decide +kernel
theorem dX12_init_494 : decode cX12_init 494 = .ok (.bipush 16, 2) := by decide +kernel
theorem dX12_init_496 : decode cX12_init 496 = .ok (.newarray .int, 2) := by decide +kernel
theorem dX12_init_498 : decode cX12_init 498 = .ok (.putfield 320, 3) := by decide +kernel
theorem dX12_init_501 : decode cX12_init 501 = .ok (.aload_n 0, 1) := by decide +kernel
theorem dX12_init_502 : decode cX12_init 502 = .ok (.sipush 416, 3) := by decide +kernel
theorem dX12_init_505 : decode cX12_init 505 = .ok (.newarray .int, 2) := by decide +kernel
theorem dX12_init_507 : decode cX12_init 507 = .ok (.putfield 323, 3) := by decide +kernel
theorem dX12_init_510 : decode cX12_init 510 = .ok (.aload_n 0, 1) := by decide +kernel
theorem dX12_init_511 : decode cX12_init 511 = .ok (.bipush 15, 2) := by decide +kernel
theorem dX12_init_513 : decode cX12_init 513 = .ok (.newarray .boolean, 2) := by decide +kernel
theorem dX12_init_515 : decode cX12_init 515 = .ok (.putfield 326, 3) := by decide +kernel
theorem dX12_init_518 : decode cX12_init 518 = .ok (.aload_n 0, 1) := by decide +kernel
theorem dX12_init_519 : decode cX12_init 519 = .ok (.iconst 0, 1) := by decide +kernel
theorem dX12_init_520 : decode cX12_init 520 = .ok (.invokevirtual 329, 3) := by decide +kernel
theorem dX12_init_523 : decode cX12_init 523 = .ok (.return_, 1) := by decide +kernel
theorem dX12_isAsIs_0 : decode cX12_isAsIs 0 = .ok (.iconst 0, 1) := by decide +kernel
theorem dX12_isAsIs_1 : decode cX12_isAsIs 1 = .ok (.istore_n 2, 1) := by decide +kernel
theorem dX12_isAsIs_2 : decode cX12_isAsIs 2 = .ok (.iload_n 2, 1) := by decide +kernel
theorem dX12_isAsIs_3 : decode cX12_isAsIs 3 = .ok (.bipush 26, 2) := by decide +kernel
theorem dX12_isAsIs_5 : decode cX12_isAsIs 5 = .ok (.if_icmp .ge 40, 3) := by decide +kernel
theorem dX12_isAsIs_8 : decode cX12_isAsIs 8 = .ok (.aload_n 0, 1) := by decide +kernel
theorem dX12_isAsIs_9 : decode cX12_isAsIs 9 = .ok (.getfield 177, 3) := by decide +kernel
theorem dX12_isAsIs_12 : decode cX12_isAsIs 12 = .ok (.iload_n 2, 1) := by decide +kernel
theorem dX12_isAsIs_13 : decode cX12_isAsIs 13 = .ok (.iaload, 1) := by decide +kernel
theorem dX12_isAsIs_14 : decode cX12_isAsIs 14 = .ok (.ifCond .ge 25, 3) := by decide +kernel
theorem dX12_isAsIs_17 : decode cX12_isAsIs 17 = .ok (.aload_n 0, 1) := by decide +kernel
theorem dX12_isAsIs_18 : decode cX12_isAsIs 18 = .ok (.getfield 323, 3) := by decide +kernel
theorem dX12_isAsIs_21 : decode cX12_isAsIs 21 = .ok (.iload_n 1, 1) := by decide +kernel
theorem dX12_isAsIs_22 : decode cX12_isAsIs 22 = .ok (.bipush 26, 2) := by decide +kernel
theorem dX12_isAsIs_24 : decode cX12_isAsIs 24 = .ok (.imul, 1) := by decide +kernel
theorem dX12_isAsIs_25 : decode cX12_isAsIs 25 = .ok (.iload_n 2, 1) := by decide +kernel
theorem dX12_isAsIs_26 : decode cX12_isAsIs 26 = .ok (.iadd, 1) := by decide +kernel
theorem dX12_isAsIs_27 : decode cX12_isAsIs 27 = .ok (.iaload, 1) := by decide +kernel
theorem dX12_isAsIs_28 : decode cX12_isAsIs 28 = .ok (.aload_n 0, 1) := by decide +kernel
theorem dX12_isAsIs_29 : decode cX12_isAsIs 29 = .ok (.getfield 151, 3) := by decide +kernel
theorem dX12_isAsIs_32 : decode cX12_isAsIs 32 = .ok (.iload_n 2, 1) := by decide +kernel
theorem dX12_isAsIs_33 : decode cX12_isAsIs 33 = .ok (.iaload, 1) := by decide +kernel
theorem dX12_isAsIs_34 : decode cX12_isAsIs 34 = .ok (.if_icmp .eq 5, 3) := by decide +kernel
theorem dX12_isAsIs_37 : decode cX12_isAsIs 37 = .ok (.iconst 0, 1) := by decide +kernel
theorem dX12_isAsIs_38 : decode cX12_isAsIs 38 = .ok (.ireturn, 1) := by decide +kernel
theorem dX12_isAsIs_39 : decode cX12_isAsIs 39 = .ok (.iinc 2 1, 3) := by decide +kernel
theorem dX12_isAsIs_42 : decode cX12_isAsIs 42 = .ok (.goto (-40), 3) := by decide +kernel
theorem dX12_isAsIs_45 : decode cX12_isAsIs 45 = .ok (.iconst 1, 1) := by decide +kernel
theorem dX12_isAsIs_46 : decode cX12_isAsIs 46 = .ok (.ireturn, 1) := by decide +kernel
theorem dX12_isBusy_0 : decode cX12_isBusy 0 = .ok (.aload_n 0, 1) := by decide +kernel
theorem dX12_isBusy_1 : decode cX12_isBusy 1 = .ok (.getfield 332, 3) := by decide +kernel
theorem dX12_isBusy_4 : decode cX12_isBusy 4 = .ok (.iconst 4, 1) := by decide +kernel
theorem dX12_isBusy_5 : decode cX12_isBusy 5 = .ok (.if_icmp .eq 5, 3) := by decide +kernel
theorem dX12_isBusy_8 : decode cX12_isBusy 8 = .ok (.iconst 0, 1) := by decide +kernel
theorem dX12_isBusy_9 : decode cX12_isBusy 9 = .ok (.ireturn, 1) := by decide +kernel
theorem dX12_isBusy_10 : decode cX12_isBusy 10 = .ok (.iconst 0, 1) := by decide +kernel
theorem dX12_isBusy_11 : decode cX12_isBusy 11 = .ok (.istore_n 2, 1) := by decide +kernel
theorem dX12_isBusy_12 : decode cX12_isBusy 12 = .ok (.iload_n 2, 1) := by decide +kernel
theorem dX12_isBusy_13 : decode cX12_isBusy 13 = .ok (.bipush 6, 2) := by decide +kernel
theorem dX12_isBusy_15 : decode cX12_isBusy 15 = .ok (.if_icmp .ge 26, 3) := by decide +kernel
theorem dX12_isBusy_18 : decode cX12_isBusy 18 = .ok (.iload_n 2, 1) := by decide +kernel
theorem dX12_isBusy_19 : decode cX12_isBusy 19 = .ok (.iload_n 1, 1) := by decide +kernel
theorem dX12_isBusy_20 : decode cX12_isBusy 20 = .ok (.if_icmp .eq 15, 3) := by decide +kernel
theorem dX12_isBusy_23 : decode cX12_isBusy 23 = .ok (.aload_n 0, 1) := by decide +kernel
theorem dX12_isBusy_24 : decode cX12_isBusy 24 = .ok (.getfield 187, 3) := by decide +kernel
theorem dX12_isBusy_27 : decode cX12_isBusy 27 = .ok (.iload_n 2, 1) := by decide +kernel
theorem dX12_isBusy_28 : decode cX12_isBusy 28 = .ok (.iaload, 1) := by decide +kernel
theorem dX12_isBusy_29 : decode cX12_isBusy 29 = .ok (.iconst 2, 1) := by decide +kernel
theorem dX12_isBusy_30 : decode cX12_isBusy 30 = .ok (.if_icmp .ne 5, 3) := by decide +kernel
theorem dX12_isBusy_33 : decode cX12_isBusy 33 = .ok (.iconst 1, 1) := by decide +kernel
theorem dX12_isBusy_34 : decode cX12_isBusy 34 = .ok (.ireturn, 1) := by decide +kernel
theorem dX12_isBusy_35 : decode cX12_isBusy 35 = .ok (.iinc 2 1, 3) := by decide +kernel
theorem dX12_isBusy_38 : decode cX12_isBusy 38 = .ok (.goto (-26), 3) := by decide +kernel
theorem dX12_isBusy_41 : decode cX12_isBusy 41 = .ok (.iconst 0, 1) := by decide +kernel
theorem dX12_isBusy_42 : decode cX12_isBusy 42 = .ok (.ireturn, 1) := by decide +kernel
theorem dX12_isDigit_0 : decode cX12_isDigit 0 = .ok (.iload_n 0, 1) := by decide +kernel
theorem dX12_isDigit_1 : decode cX12_isDigit 1 = .ok (.bipush 48, 2) := by decide +kernel
theorem dX12_isDigit_3 : decode cX12_isDigit 3 = .ok (.if_icmp .lt 13, 3) := by decide +kernel
theorem dX12_isDigit_6 : decode cX12_isDigit 6 = .ok (.iload_n 0, 1) := by decide +kernel
theorem dX12_isDigit_7 : decode cX12_isDigit 7 = .ok (.bipush 57, 2) := by decide +kernel
theorem dX12_isDigit_9 : decode cX12_isDigit 9 = .ok (.if_icmp .gt 7, 3) := by decide +kernel
theorem dX12_isDigit_12 : decode cX12_isDigit 12 = .ok (.iconst 1, 1) := by decide +kernel
theorem dX12_isDigit_13 : decode cX12_isDigit 13 = .ok (.goto 4, 3) := by decide +kernel
theorem dX12_isDigit_16 : decode cX12_isDigit 16 = .ok (.iconst 0, 1) := by decide +kernel
theorem dX12_isDigit_17 : decode cX12_isDigit 17 = .ok (.ireturn, 1) := by decide +kernel
theorem dX12_isEager_0 : decode cX12_isEager 0 = .ok (.aload_n 0, 1) := by decide +kernel
theorem dX12_isEager_1 : decode cX12_isEager 1 = .ok (.getfield 332, 3) := by decide +kernel
theorem dX12_isEager_4 : decode cX12_isEager 4 = .ok (.iconst 3, 1) := by decide +kernel
theorem dX12_isEager_5 : decode cX12_isEager 5 = .ok (.if_icmp .eq 11, 3) := by decide +kernel
theorem dX12_isEager_8 : decode cX12_isEager 8 = .ok (.aload_n 0, 1) := by decide +kernel
theorem dX12_isEager_9 : decode cX12_isEager 9 = .ok (.getfield 332, 3) := by decide +kernel
theorem dX12_isEager_12 : decode cX12_isEager 12 = .ok (.iconst 4, 1) := by decide +kernel
theorem dX12_isEager_13 : decode cX12_isEager 13 = .ok (.if_icmp .ne 7, 3) := by decide +kernel
theorem dX12_isEager_16 : decode cX12_isEager 16 = .ok (.iconst 1, 1) := by decide +kernel
theorem dX12_isEager_17 : decode cX12_isEager 17 = .ok (.goto 4, 3) := by decide +kernel
theorem dX12_isEager_20 : decode cX12_isEager 20 = .ok (.iconst 0, 1) := by decide +kernel
theorem dX12_isEager_21 : decode cX12_isEager 21 = .ok (.ireturn, 1) := by decide +kernel
theorem dX12_isLetter_0 : decode cX12_isLetter 0 = .ok (.iload_n 0, 1) := by decide +kernel
theorem dX12_isLetter_1 : decode cX12_isLetter 1 = .ok (.bipush 97, 2) := by decide +kernel
theorem dX12_isLetter_3 : decode cX12_isLetter 3 = .ok (.if_icmp .lt 9, 3) := by decide +kernel
theorem dX12_isLetter_6 : decode cX12_isLetter 6 = .ok (.iload_n 0, 1) := by decide +kernel
theorem dX12_isLetter_7 : decode cX12_isLetter 7 = .ok (.bipush 122, 2) := by decide +kernel
theorem dX12_isLetter_9 : decode cX12_isLetter 9 = .ok (.if_icmp .le 15, 3) := by decide +kernel
theorem dX12_isLetter_12 : decode cX12_isLetter 12 = .ok (.iload_n 0, 1) := by decide +kernel
theorem dX12_isLetter_13 : decode cX12_isLetter 13 = .ok (.bipush 65, 2) := by decide +kernel
theorem dX12_isLetter_15 : decode cX12_isLetter 15 = .ok (.if_icmp .lt 13, 3) := by decide +kernel
theorem dX12_isLetter_18 : decode cX12_isLetter 18 = .ok (.iload_n 0, 1) := by decide +kernel
theorem dX12_isLetter_19 : decode cX12_isLetter 19 = .ok (.bipush 90, 2) := by decide +kernel
theorem dX12_isLetter_21 : decode cX12_isLetter 21 = .ok (.if_icmp .gt 7, 3) := by decide +kernel
theorem dX12_isLetter_24 : decode cX12_isLetter 24 = .ok (.iconst 1, 1) := by decide +kernel
theorem dX12_isLetter_25 : decode cX12_isLetter 25 = .ok (.goto 4, 3) := by decide +kernel
theorem dX12_isLetter_28 : decode cX12_isLetter 28 = .ok (.iconst 0, 1) := by decide +kernel
theorem dX12_isLetter_29 : decode cX12_isLetter 29 = .ok (.ireturn, 1) := by decide +kernel
theorem dX12_isLive_0 : decode cX12_isLive 0 = .ok (.aload_n 0, 1) := by decide +kernel
theorem dX12_isLive_1 : decode cX12_isLive 1 = .ok (.getfield 187, 3) := by decide +kernel
theorem dX12_isLive_4 : decode cX12_isLive 4 = .ok (.iload_n 1, 1) := by decide +kernel
theorem dX12_isLive_5 : decode cX12_isLive 5 = .ok (.iaload, 1) := by decide +kernel
theorem dX12_isLive_6 : decode cX12_isLive 6 = .ok (.iconst 1, 1) := by decide +kernel
theorem dX12_isLive_7 : decode cX12_isLive 7 = .ok (.if_icmp .eq 23, 3) := by decide +kernel
theorem dX12_isLive_10 : decode cX12_isLive 10 = .ok (.aload_n 0, 1) := by decide +kernel
theorem dX12_isLive_11 : decode cX12_isLive 11 = .ok (.getfield 187, 3) := by decide +kernel
theorem dX12_isLive_14 : decode cX12_isLive 14 = .ok (.iload_n 1, 1) := by decide +kernel
theorem dX12_isLive_15 : decode cX12_isLive 15 = .ok (.iaload, 1) := by decide +kernel
theorem dX12_isLive_16 : decode cX12_isLive 16 = .ok (.iconst 2, 1) := by decide +kernel
theorem dX12_isLive_17 : decode cX12_isLive 17 = .ok (.if_icmp .eq 13, 3) := by decide +kernel
theorem dX12_isLive_20 : decode cX12_isLive 20 = .ok (.aload_n 0, 1) := by decide +kernel
theorem dX12_isLive_21 : decode cX12_isLive 21 = .ok (.getfield 187, 3) := by decide +kernel
theorem dX12_isLive_24 : decode cX12_isLive 24 = .ok (.iload_n 1, 1) := by decide +kernel
theorem dX12_isLive_25 : decode cX12_isLive 25 = .ok (.iaload, 1) := by decide +kernel
theorem dX12_isLive_26 : decode cX12_isLive 26 = .ok (.iconst 3, 1) := by decide +kernel
theorem dX12_isLive_27 : decode cX12_isLive 27 = .ok (.if_icmp .ne 7, 3) := by decide +kernel
theorem dX12_isLive_30 : decode cX12_isLive 30 = .ok (.iconst 1, 1) := by decide +kernel
theorem dX12_isLive_31 : decode cX12_isLive 31 = .ok (.goto 4, 3) := by decide +kernel
theorem dX12_isLive_34 : decode cX12_isLive 34 = .ok (.iconst 0, 1) := by decide +kernel
theorem dX12_isLive_35 : decode cX12_isLive 35 = .ok (.ireturn, 1) := by decide +kernel
theorem dX12_isPlace_0 : decode cX12_isPlace 0 = .ok (.iload_n 0, 1) := by decide +kernel
theorem dX12_isPlace_1 : decode cX12_isPlace 1 = .ok (.ifCond .lt 13, 3) := by decide +kernel
theorem dX12_isPlace_4 : decode cX12_isPlace 4 = .ok (.iload_n 0, 1) := by decide +kernel
theorem dX12_isPlace_5 : decode cX12_isPlace 5 = .ok (.bipush 26, 2) := by decide +kernel
theorem dX12_isPlace_7 : decode cX12_isPlace 7 = .ok (.if_icmp .ge 7, 3) := by decide +kernel
theorem dX12_isPlace_10 : decode cX12_isPlace 10 = .ok (.iconst 1, 1) := by decide +kernel
theorem dX12_isPlace_11 : decode cX12_isPlace 11 = .ok (.goto 4, 3) := by decide +kernel
theorem dX12_isPlace_14 : decode cX12_isPlace 14 = .ok (.iconst 0, 1) := by decide +kernel
theorem dX12_isPlace_15 : decode cX12_isPlace 15 = .ok (.ireturn, 1) := by decide +kernel
theorem dX12_isSign_0 : decode cX12_isSign 0 = .ok (.aload_n 0, 1) := by decide +kernel
theorem dX12_isSign_1 : decode cX12_isSign 1 = .ok (.getfield 42, 3) := by decide +kernel
theorem dX12_isSign_4 : decode cX12_isSign 4 = .ok (.iconst 5, 1) := by decide +kernel
theorem dX12_isSign_5 : decode cX12_isSign 5 = .ok (.if_icmp .ne 15, 3) := by decide +kernel
theorem dX12_isSign_8 : decode cX12_isSign 8 = .ok (.aload_n 0, 1) := by decide +kernel
theorem dX12_isSign_9 : decode cX12_isSign 9 = .ok (.getfield 49, 3) := by decide +kernel
theorem dX12_isSign_12 : decode cX12_isSign 12 = .ok (.iload_n 1, 1) := by decide +kernel
theorem dX12_isSign_13 : decode cX12_isSign 13 = .ok (.if_icmp .ne 7, 3) := by decide +kernel
theorem dX12_isSign_16 : decode cX12_isSign 16 = .ok (.iconst 1, 1) := by decide +kernel
theorem dX12_isSign_17 : decode cX12_isSign 17 = .ok (.goto 4, 3) := by decide +kernel
theorem dX12_isSign_20 : decode cX12_isSign 20 = .ok (.iconst 0, 1) := by decide +kernel
theorem dX12_isSign_21 : decode cX12_isSign 21 = .ok (.ireturn, 1) := by decide +kernel
theorem dX12_isThread_0 : decode cX12_isThread 0 = .ok (.iload_n 0, 1) := by decide +kernel
theorem dX12_isThread_1 : decode cX12_isThread 1 = .ok (.ifCond .lt 13, 3) := by decide +kernel
theorem dX12_isThread_4 : decode cX12_isThread 4 = .ok (.iload_n 0, 1) := by decide +kernel
theorem dX12_isThread_5 : decode cX12_isThread 5 = .ok (.bipush 6, 2) := by decide +kernel
theorem dX12_isThread_7 : decode cX12_isThread 7 = .ok (.if_icmp .ge 7, 3) := by decide +kernel
theorem dX12_isThread_10 : decode cX12_isThread 10 = .ok (.iconst 1, 1) := by decide +kernel
theorem dX12_isThread_11 : decode cX12_isThread 11 = .ok (.goto 4, 3) := by decide +kernel
theorem dX12_isThread_14 : decode cX12_isThread 14 = .ok (.iconst 0, 1) := by decide +kernel
theorem dX12_isThread_15 : decode cX12_isThread 15 = .ok (.ireturn, 1) := by decide +kernel
theorem dX12_isWord_0 : decode cX12_isWord 0 = .ok (.aload_n 0, 1) := by decide +kernel
theorem dX12_isWord_1 : decode cX12_isWord 1 = .ok (.getfield 42, 3) := by decide +kernel
theorem dX12_isWord_4 : decode cX12_isWord 4 = .ok (.iconst 3, 1) := by decide +kernel
theorem dX12_isWord_5 : decode cX12_isWord 5 = .ok (.if_icmp .ne 15, 3) := by decide +kernel
theorem dX12_isWord_8 : decode cX12_isWord 8 = .ok (.aload_n 0, 1) := by decide +kernel
theorem dX12_isWord_9 : decode cX12_isWord 9 = .ok (.getfield 49, 3) := by decide +kernel
theorem dX12_isWord_12 : decode cX12_isWord 12 = .ok (.iload_n 1, 1) := by decide +kernel
theorem dX12_isWord_13 : decode cX12_isWord 13 = .ok (.if_icmp .ne 7, 3) := by decide +kernel
theorem dX12_isWord_16 : decode cX12_isWord 16 = .ok (.iconst 1, 1) := by decide +kernel
theorem dX12_isWord_17 : decode cX12_isWord 17 = .ok (.goto 4, 3) := by decide +kernel
theorem dX12_isWord_20 : decode cX12_isWord 20 = .ok (.iconst 0, 1) := by decide +kernel
theorem dX12_isWord_21 : decode cX12_isWord 21 = .ok (.ireturn, 1) := by decide +kernel
theorem dX12_isWrong_0 : decode cX12_isWrong 0 = .ok (.aload_n 0, 1) := by decide +kernel
theorem dX12_isWrong_1 : decode cX12_isWrong 1 = .ok (.iload_n 1, 1) := by decide +kernel
theorem dX12_isWrong_2 : decode cX12_isWrong 2 = .ok (.iload_n 2, 1) := by decide +kernel
theorem dX12_isWrong_3 : decode cX12_isWrong 3 = .ok (.iload_n 3, 1) := by decide +kernel
theorem dX12_isWrong_4 : decode cX12_isWrong 4 = .ok (.invokevirtual 357, 3) := by decide +kernel
theorem dX12_isWrong_7 : decode cX12_isWrong 7 = .ok (.istore 4, 2) := by decide +kernel
theorem dX12_isWrong_9 : decode cX12_isWrong 9 = .ok (.aload_n 0, 1) := by decide +kernel
theorem dX12_isWrong_10 : decode cX12_isWrong 10 = .ok (.getfield 266, 3) := by decide +kernel
theorem dX12_isWrong_13 : decode cX12_isWrong 13 = .ok (.iload 4, 2) := by decide +kernel
theorem dX12_isWrong_15 : decode cX12_isWrong 15 = .ok (.baload, 1) := by decide +kernel
theorem dX12_isWrong_16 : decode cX12_isWrong 16 = .ok (.ifCond .ne 5, 3) := by decide +kernel
theorem dX12_isWrong_19 : decode cX12_isWrong 19 = .ok (.iconst 0, 1) := by decide +kernel
theorem dX12_isWrong_20 : decode cX12_isWrong 20 = .ok (.ireturn, 1) := by decide +kernel
theorem dX12_isWrong_21 : decode cX12_isWrong 21 = .ok (.aload_n 0, 1) := by decide +kernel
theorem dX12_isWrong_22 : decode cX12_isWrong 22 = .ok (.getfield 332, 3) := by decide +kernel
theorem dX12_isWrong_25 : decode cX12_isWrong 25 = .ok (.tableswitch 115 0 3 #[31, 52, 31, 74], 31) := by decide +kernel
theorem dX12_isWrong_56 : decode cX12_isWrong 56 = .ok (.aload_n 0, 1) := by decide +kernel
theorem dX12_isWrong_57 : decode cX12_isWrong 57 = .ok (.getfield 157, 3) := by decide +kernel
theorem dX12_isWrong_60 : decode cX12_isWrong 60 = .ok (.iload_n 3, 1) := by decide +kernel
theorem dX12_isWrong_61 : decode cX12_isWrong 61 = .ok (.iaload, 1) := by decide +kernel
theorem dX12_isWrong_62 : decode cX12_isWrong 62 = .ok (.aload_n 0, 1) := by decide +kernel
theorem dX12_isWrong_63 : decode cX12_isWrong 63 = .ok (.getfield 214, 3) := by decide +kernel
theorem dX12_isWrong_66 : decode cX12_isWrong 66 = .ok (.iload_n 1, 1) := by decide +kernel
theorem dX12_isWrong_67 : decode cX12_isWrong 67 = .ok (.iaload, 1) := by decide +kernel
theorem dX12_isWrong_68 : decode cX12_isWrong 68 = .ok (.if_icmp .le 7, 3) := by decide +kernel
theorem dX12_isWrong_71 : decode cX12_isWrong 71 = .ok (.iconst 1, 1) := by decide +kernel
theorem dX12_isWrong_72 : decode cX12_isWrong 72 = .ok (.goto 4, 3) := by decide +kernel
theorem dX12_isWrong_75 : decode cX12_isWrong 75 = .ok (.iconst 0, 1) := by decide +kernel
theorem dX12_isWrong_76 : decode cX12_isWrong 76 = .ok (.ireturn, 1) := by decide +kernel
theorem dX12_isWrong_77 : decode cX12_isWrong 77 = .ok (.aload_n 0, 1) := by decide +kernel
theorem dX12_isWrong_78 : decode cX12_isWrong 78 = .ok (.getfield 151, 3) := by decide +kernel
theorem dX12_isWrong_81 : decode cX12_isWrong 81 = .ok (.iload_n 3, 1) := by decide +kernel
theorem dX12_isWrong_82 : decode cX12_isWrong 82 = .ok (.iaload, 1) := by decide +kernel
theorem dX12_isWrong_83 : decode cX12_isWrong 83 = .ok (.aload_n 0, 1) := by decide +kernel
theorem dX12_isWrong_84 : decode cX12_isWrong 84 = .ok (.getfield 272, 3) := by decide +kernel
theorem dX12_isWrong_87 : decode cX12_isWrong 87 = .ok (.iload 4, 2) := by decide +kernel
theorem dX12_isWrong_89 : decode cX12_isWrong 89 = .ok (.iaload, 1) := by decide +kernel
theorem dX12_isWrong_90 : decode cX12_isWrong 90 = .ok (.if_icmp .eq 7, 3) := by decide +kernel
theorem dX12_isWrong_93 : decode cX12_isWrong 93 = .ok (.iconst 1, 1) := by decide +kernel
theorem dX12_isWrong_94 : decode cX12_isWrong 94 = .ok (.goto 4, 3) := by decide +kernel
theorem dX12_isWrong_97 : decode cX12_isWrong 97 = .ok (.iconst 0, 1) := by decide +kernel
theorem dX12_isWrong_98 : decode cX12_isWrong 98 = .ok (.ireturn, 1) := by decide +kernel
theorem dX12_isWrong_99 : decode cX12_isWrong 99 = .ok (.aload_n 0, 1) := by decide +kernel
theorem dX12_isWrong_100 : decode cX12_isWrong 100 = .ok (.getfield 177, 3) := by decide +kernel
theorem dX12_isWrong_103 : decode cX12_isWrong 103 = .ok (.iload_n 3, 1) := by decide +kernel
theorem dX12_isWrong_104 : decode cX12_isWrong 104 = .ok (.iaload, 1) := by decide +kernel
theorem dX12_isWrong_105 : decode cX12_isWrong 105 = .ok (.ifCond .lt 13, 3) := by decide +kernel
theorem dX12_isWrong_108 : decode cX12_isWrong 108 = .ok (.aload_n 0, 1) := by decide +kernel
theorem dX12_isWrong_109 : decode cX12_isWrong 109 = .ok (.getfield 177, 3) := by decide +kernel
theorem dX12_isWrong_112 : decode cX12_isWrong 112 = .ok (.iload_n 3, 1) := by decide +kernel
theorem dX12_isWrong_113 : decode cX12_isWrong 113 = .ok (.iaload, 1) := by decide +kernel
theorem dX12_isWrong_114 : decode cX12_isWrong 114 = .ok (.iload_n 1, 1) := by decide +kernel
theorem dX12_isWrong_115 : decode cX12_isWrong 115 = .ok (.if_icmp .ne 19, 3) := by decide +kernel
theorem dX12_isWrong_118 : decode cX12_isWrong 118 = .ok (.aload_n 0, 1) := by decide +kernel
theorem dX12_isWrong_119 : decode cX12_isWrong 119 = .ok (.getfield 157, 3) := by decide +kernel
theorem dX12_isWrong_122 : decode cX12_isWrong 122 = .ok (.iload_n 3, 1) := by decide +kernel
theorem dX12_isWrong_123 : decode cX12_isWrong 123 = .ok (.iaload, 1) := by decide +kernel
theorem dX12_isWrong_124 : decode cX12_isWrong 124 = .ok (.aload_n 0, 1) := by decide +kernel
theorem dX12_isWrong_125 : decode cX12_isWrong 125 = .ok (.getfield 275, 3) := by decide +kernel
theorem dX12_isWrong_128 : decode cX12_isWrong 128 = .ok (.iload 4, 2) := by decide +kernel
theorem dX12_isWrong_130 : decode cX12_isWrong 130 = .ok (.iaload, 1) := by decide +kernel
theorem dX12_isWrong_131 : decode cX12_isWrong 131 = .ok (.if_icmp .eq 7, 3) := by decide +kernel
theorem dX12_isWrong_134 : decode cX12_isWrong 134 = .ok (.iconst 1, 1) := by decide +kernel
theorem dX12_isWrong_135 : decode cX12_isWrong 135 = .ok (.goto 4, 3) := by decide +kernel
theorem dX12_isWrong_138 : decode cX12_isWrong 138 = .ok (.iconst 0, 1) := by decide +kernel
theorem dX12_isWrong_139 : decode cX12_isWrong 139 = .ok (.ireturn, 1) := by decide +kernel
theorem dX12_isWrong_140 : decode cX12_isWrong 140 = .ok (.iconst 0, 1) := by decide +kernel
theorem dX12_isWrong_141 : decode cX12_isWrong 141 = .ok (.ireturn, 1) := by decide +kernel
theorem dX12_judge_0 : decode cX12_judge 0 = .ok (.aload_n 0, 1) := by decide +kernel
theorem dX12_judge_1 : decode cX12_judge 1 = .ok (.iconst 0, 1) := by decide +kernel
theorem dX12_judge_2 : decode cX12_judge 2 = .ok (.putfield 1, 3) := by decide +kernel
theorem dX12_judge_5 : decode cX12_judge 5 = .ok (.aload_n 0, 1) := by decide +kernel
theorem dX12_judge_6 : decode cX12_judge 6 = .ok (.iconst 0, 1) := by decide +kernel
theorem dX12_judge_7 : decode cX12_judge 7 = .ok (.putfield 347, 3) := by decide +kernel
theorem dX12_judge_10 : decode cX12_judge 10 = .ok (.aload_n 0, 1) := by decide +kernel
theorem dX12_judge_11 : decode cX12_judge 11 = .ok (.getfield 338, 3) := by decide +kernel
theorem dX12_judge_14 : decode cX12_judge 14 = .ok (.bipush 14, 2) := by decide +kernel
theorem dX12_judge_16 : decode cX12_judge 16 = .ok (.if_icmp .le 5, 3) := by decide +kernel
theorem dX12_judge_19 : decode cX12_judge 19 = .ok (.iconst (-1), 1) := by decide +kernel
theorem dX12_judge_20 : decode cX12_judge 20 = .ok (.ireturn, 1) := by decide +kernel
theorem dX12_judge_21 : decode cX12_judge 21 = .ok (.iconst 0, 1) := by decide +kernel
theorem dX12_judge_22 : decode cX12_judge 22 = .ok (.istore_n 1, 1) := by decide +kernel
theorem dX12_judge_23 : decode cX12_judge 23 = .ok (.iload_n 1, 1) := by decide +kernel
theorem dX12_judge_24 : decode cX12_judge 24 = .ok (.bipush 26, 2) := by decide +kernel
theorem dX12_judge_26 : decode cX12_judge 26 = .ok (.if_icmp .ge 21, 3) := by decide +kernel
theorem dX12_judge_29 : decode cX12_judge 29 = .ok (.aload_n 0, 1) := by decide +kernel
theorem dX12_judge_30 : decode cX12_judge 30 = .ok (.getfield 323, 3) := by decide +kernel
theorem dX12_judge_33 : decode cX12_judge 33 = .ok (.iload_n 1, 1) := by decide +kernel
theorem dX12_judge_34 : decode cX12_judge 34 = .ok (.aload_n 0, 1) := by decide +kernel
theorem dX12_judge_35 : decode cX12_judge 35 = .ok (.getfield 180, 3) := by decide +kernel
theorem dX12_judge_38 : decode cX12_judge 38 = .ok (.iload_n 1, 1) := by decide +kernel
theorem dX12_judge_39 : decode cX12_judge 39 = .ok (.iaload, 1) := by decide +kernel
theorem dX12_judge_40 : decode cX12_judge 40 = .ok (.iastore, 1) := by decide +kernel
theorem dX12_judge_41 : decode cX12_judge 41 = .ok (.iinc 1 1, 3) := by decide +kernel
theorem dX12_judge_44 : decode cX12_judge 44 = .ok (.goto (-21), 3) := by decide +kernel
theorem dX12_judge_47 : decode cX12_judge 47 = .ok (.iconst 0, 1) := by decide +kernel
theorem dX12_judge_48 : decode cX12_judge 48 = .ok (.istore_n 1, 1) := by decide +kernel
theorem dX12_judge_49 : decode cX12_judge 49 = .ok (.iload_n 1, 1) := by decide +kernel
theorem dX12_judge_50 : decode cX12_judge 50 = .ok (.aload_n 0, 1) := by decide +kernel
theorem dX12_judge_51 : decode cX12_judge 51 = .ok (.getfield 338, 3) := by decide +kernel
theorem dX12_judge_54 : decode cX12_judge 54 = .ok (.if_icmp .ge 16, 3) := by decide +kernel
theorem dX12_judge_57 : decode cX12_judge 57 = .ok (.aload_n 0, 1) := by decide +kernel
theorem dX12_judge_58 : decode cX12_judge 58 = .ok (.getfield 326, 3) := by decide +kernel
theorem dX12_judge_61 : decode cX12_judge 61 = .ok (.iload_n 1, 1) := by decide +kernel
theorem dX12_judge_62 : decode cX12_judge 62 = .ok (.iconst 0, 1) := by decide +kernel
theorem dX12_judge_63 : decode cX12_judge 63 = .ok (.bastore, 1) := by decide +kernel
theorem dX12_judge_64 : decode cX12_judge 64 = .ok (.iinc 1 1, 3) := by decide +kernel
theorem dX12_judge_67 : decode cX12_judge 67 = .ok (.goto (-18), 3) := by decide +kernel
theorem dX12_judge_70 : decode cX12_judge 70 = .ok (.iconst 1, 1) := by decide +kernel
theorem dX12_judge_71 : decode cX12_judge 71 = .ok (.istore_n 1, 1) := by decide +kernel
theorem dX12_judge_72 : decode cX12_judge 72 = .ok (.iconst 0, 1) := by decide +kernel
theorem dX12_judge_73 : decode cX12_judge 73 = .ok (.istore_n 2, 1) := by decide +kernel
theorem dX12_judge_74 : decode cX12_judge 74 = .ok (.aload_n 0, 1) := by decide +kernel
theorem dX12_judge_75 : decode cX12_judge 75 = .ok (.getfield 320, 3) := by decide +kernel
theorem dX12_judge_78 : decode cX12_judge 78 = .ok (.iconst 0, 1) := by decide +kernel
theorem dX12_judge_79 : decode cX12_judge 79 = .ok (.iconst 0, 1) := by decide +kernel
theorem dX12_judge_80 : decode cX12_judge 80 = .ok (.iastore, 1) := by decide +kernel
theorem dX12_judge_81 : decode cX12_judge 81 = .ok (.iload_n 2, 1) := by decide +kernel
theorem dX12_judge_82 : decode cX12_judge 82 = .ok (.ifCond .lt 214, 3) := by decide +kernel
theorem dX12_judge_85 : decode cX12_judge 85 = .ok (.iload_n 2, 1) := by decide +kernel
theorem dX12_judge_86 : decode cX12_judge 86 = .ok (.aload_n 0, 1) := by decide +kernel
theorem dX12_judge_87 : decode cX12_judge 87 = .ok (.getfield 338, 3) := by decide +kernel
theorem dX12_judge_90 : decode cX12_judge 90 = .ok (.if_icmp .ne 18, 3) := by decide +kernel
theorem dX12_judge_93 : decode cX12_judge 93 = .ok (.aload_n 0, 1) := by decide +kernel
theorem dX12_judge_94 : decode cX12_judge 94 = .ok (.iload_n 2, 1) := by decide +kernel
theorem dX12_judge_95 : decode cX12_judge 95 = .ok (.invokevirtual 524, 3) := by decide +kernel
theorem dX12_judge_98 : decode cX12_judge 98 = .ok (.ifCond .eq 10, 3) := by decide +kernel
theorem dX12_judge_101 : decode cX12_judge 101 = .ok (.aload_n 0, 1) := by decide +kernel
theorem dX12_judge_102 : decode cX12_judge 102 = .ok (.iload_n 2, 1) := by decide +kernel
theorem dX12_judge_103 : decode cX12_judge 103 = .ok (.putfield 347, 3) := by decide +kernel
theorem dX12_judge_106 : decode cX12_judge 106 = .ok (.iconst 1, 1) := by decide +kernel
theorem dX12_judge_107 : decode cX12_judge 107 = .ok (.ireturn, 1) := by decide +kernel
theorem dX12_judge_108 : decode cX12_judge 108 = .ok (.aload_n 0, 1) := by decide +kernel
theorem dX12_judge_109 : decode cX12_judge 109 = .ok (.getfield 320, 3) := by decide +kernel
theorem dX12_judge_112 : decode cX12_judge 112 = .ok (.iload_n 2, 1) := by decide +kernel
theorem dX12_judge_113 : decode cX12_judge 113 = .ok (.iaload, 1) := by decide +kernel
theorem dX12_judge_114 : decode cX12_judge 114 = .ok (.istore_n 3, 1) := by decide +kernel
theorem dX12_judge_115 : decode cX12_judge 115 = .ok (.iload_n 3, 1) := by decide +kernel
theorem dX12_judge_116 : decode cX12_judge 116 = .ok (.aload_n 0, 1) := by decide +kernel
theorem dX12_judge_117 : decode cX12_judge 117 = .ok (.getfield 338, 3) := by decide +kernel
theorem dX12_judge_120 : decode cX12_judge 120 = .ok (.if_icmp .ge 18, 3) := by decide +kernel
theorem dX12_judge_123 : decode cX12_judge 123 = .ok (.aload_n 0, 1) := by decide +kernel
theorem dX12_judge_124 : decode cX12_judge 124 = .ok (.iload_n 3, 1) := by decide +kernel
theorem dX12_judge_125 : decode cX12_judge 125 = .ok (.iload_n 2, 1) := by decide +kernel
theorem dX12_judge_126 : decode cX12_judge 126 = .ok (.invokevirtual 527, 3) := by decide +kernel
theorem dX12_judge_129 : decode cX12_judge 129 = .ok (.ifCond .ne 9, 3) := by decide +kernel
theorem dX12_judge_132 : decode cX12_judge 132 = .ok (.iinc 3 1, 3) := by decide +kernel
theorem dX12_judge_135 : decode cX12_judge 135 = .ok (.goto (-20), 3) := by decide +kernel
theorem dX12_judge_138 : decode cX12_judge 138 = .ok (.iload_n 2, 1) := by decide +kernel
theorem dX12_judge_139 : decode cX12_judge 139 = .ok (.aload_n 0, 1) := by decide +kernel
theorem dX12_judge_140 : decode cX12_judge 140 = .ok (.getfield 338, 3) := by decide +kernel
theorem dX12_judge_143 : decode cX12_judge 143 = .ok (.if_icmp .eq 11, 3) := by decide +kernel
theorem dX12_judge_146 : decode cX12_judge 146 = .ok (.iload_n 3, 1) := by decide +kernel
theorem dX12_judge_147 : decode cX12_judge 147 = .ok (.aload_n 0, 1) := by decide +kernel
theorem dX12_judge_148 : decode cX12_judge 148 = .ok (.getfield 338, 3) := by decide +kernel
theorem dX12_judge_151 : decode cX12_judge 151 = .ok (.if_icmp .ne 25, 3) := by decide +kernel
theorem dX12_judge_154 : decode cX12_judge 154 = .ok (.iinc 2 (-1), 3) := by decide +kernel
theorem dX12_judge_157 : decode cX12_judge 157 = .ok (.iload_n 2, 1) := by decide +kernel
theorem dX12_judge_158 : decode cX12_judge 158 = .ok (.ifCond .lt (-77), 3) := by decide +kernel
theorem dX12_judge_161 : decode cX12_judge 161 = .ok (.aload_n 0, 1) := by decide +kernel
theorem dX12_judge_162 : decode cX12_judge 162 = .ok (.getfield 326, 3) := by decide +kernel
theorem dX12_judge_165 : decode cX12_judge 165 = .ok (.aload_n 0, 1) := by decide +kernel
theorem dX12_judge_166 : decode cX12_judge 166 = .ok (.getfield 317, 3) := by decide +kernel
theorem dX12_judge_169 : decode cX12_judge 169 = .ok (.iload_n 2, 1) := by decide +kernel
theorem dX12_judge_170 : decode cX12_judge 170 = .ok (.iaload, 1) := by decide +kernel
theorem dX12_judge_171 : decode cX12_judge 171 = .ok (.iconst 0, 1) := by decide +kernel
theorem dX12_judge_172 : decode cX12_judge 172 = .ok (.bastore, 1) := by decide +kernel
theorem dX12_judge_173 : decode cX12_judge 173 = .ok (.goto (-92), 3) := by decide +kernel
theorem dX12_judge_176 : decode cX12_judge 176 = .ok (.iinc 1 1, 3) := by decide +kernel
theorem dX12_judge_179 : decode cX12_judge 179 = .ok (.iload_n 1, 1) := by decide +kernel
theorem dX12_judge_180 : decode cX12_judge 180 = .ok (.sipush 20000, 3) := by decide +kernel
theorem dX12_judge_183 : decode cX12_judge 183 = .ok (.if_icmp .le 5, 3) := by decide +kernel
theorem dX12_judge_186 : decode cX12_judge 186 = .ok (.iconst (-1), 1) := by decide +kernel
theorem dX12_judge_187 : decode cX12_judge 187 = .ok (.ireturn, 1) := by decide +kernel
theorem dX12_judge_188 : decode cX12_judge 188 = .ok (.aload_n 0, 1) := by decide +kernel
theorem dX12_judge_189 : decode cX12_judge 189 = .ok (.getfield 320, 3) := by decide +kernel
theorem dX12_judge_192 : decode cX12_judge 192 = .ok (.iload_n 2, 1) := by decide +kernel
theorem dX12_judge_193 : decode cX12_judge 193 = .ok (.iload_n 3, 1) := by decide +kernel
theorem dX12_judge_194 : decode cX12_judge 194 = .ok (.iconst 1, 1) := by decide +kernel
theorem dX12_judge_195 : decode cX12_judge 195 = .ok (.iadd, 1) := by decide +kernel
theorem dX12_judge_196 : decode cX12_judge 196 = .ok (.iastore, 1) := by decide +kernel
theorem dX12_judge_197 : decode cX12_judge 197 = .ok (.aload_n 0, 1) := by decide +kernel
theorem dX12_judge_198 : decode cX12_judge 198 = .ok (.getfield 317, 3) := by decide +kernel
theorem dX12_judge_201 : decode cX12_judge 201 = .ok (.iload_n 2, 1) := by decide +kernel
theorem dX12_judge_202 : decode cX12_judge 202 = .ok (.iload_n 3, 1) := by decide +kernel
theorem dX12_judge_203 : decode cX12_judge 203 = .ok (.iastore, 1) := by decide +kernel
theorem dX12_judge_204 : decode cX12_judge 204 = .ok (.aload_n 0, 1) := by decide +kernel
theorem dX12_judge_205 : decode cX12_judge 205 = .ok (.getfield 326, 3) := by decide +kernel
theorem dX12_judge_208 : decode cX12_judge 208 = .ok (.iload_n 3, 1) := by decide +kernel
theorem dX12_judge_209 : decode cX12_judge 209 = .ok (.iconst 1, 1) := by decide +kernel
theorem dX12_judge_210 : decode cX12_judge 210 = .ok (.bastore, 1) := by decide +kernel
theorem dX12_judge_211 : decode cX12_judge 211 = .ok (.iconst 0, 1) := by decide +kernel
theorem dX12_judge_212 : decode cX12_judge 212 = .ok (.istore 4, 2) := by decide +kernel
theorem dX12_judge_214 : decode cX12_judge 214 = .ok (.iload 4, 2) := by decide +kernel
theorem dX12_judge_216 : decode cX12_judge 216 = .ok (.bipush 26, 2) := by decide +kernel
theorem dX12_judge_218 : decode cX12_judge 218 = .ok (.if_icmp .ge 65, 3) := by decide +kernel
theorem dX12_judge_221 : decode cX12_judge 221 = .ok (.aload_n 0, 1) := by decide +kernel
theorem dX12_judge_222 : decode cX12_judge 222 = .ok (.getfield 323, 3) := by decide +kernel
theorem dX12_judge_225 : decode cX12_judge 225 = .ok (.iload_n 2, 1) := by decide +kernel
theorem dX12_judge_226 : decode cX12_judge 226 = .ok (.iconst 1, 1) := by decide +kernel
theorem dX12_judge_227 : decode cX12_judge 227 = .ok (.iadd, 1) := by decide +kernel
theorem dX12_judge_228 : decode cX12_judge 228 = .ok (.bipush 26, 2) := by decide +kernel
theorem dX12_judge_230 : decode cX12_judge 230 = .ok (.imul, 1) := by decide +kernel
theorem dX12_judge_231 : decode cX12_judge 231 = .ok (.iload 4, 2) := by decide +kernel
theorem dX12_judge_233 : decode cX12_judge 233 = .ok (.iadd, 1) := by decide +kernel
theorem dX12_judge_234 : decode cX12_judge 234 = .ok (.aload_n 0, 1) := by decide +kernel
theorem dX12_judge_235 : decode cX12_judge 235 = .ok (.getfield 314, 3) := by decide +kernel
theorem dX12_judge_238 : decode cX12_judge 238 = .ok (.iload_n 3, 1) := by decide +kernel
theorem dX12_judge_239 : decode cX12_judge 239 = .ok (.bipush 26, 2) := by decide +kernel
theorem dX12_judge_241 : decode cX12_judge 241 = .ok (.imul, 1) := by decide +kernel
theorem dX12_judge_242 : decode cX12_judge 242 = .ok (.iload 4, 2) := by decide +kernel
theorem dX12_judge_244 : decode cX12_judge 244 = .ok (.iadd, 1) := by decide +kernel
theorem dX12_judge_245 : decode cX12_judge 245 = .ok (.baload, 1) := by decide +kernel
theorem dX12_judge_246 : decode cX12_judge 246 = .ok (.ifCond .eq 18, 3) := by decide +kernel
theorem dX12_judge_249 : decode cX12_judge 249 = .ok (.aload_n 0, 1) := by decide +kernel
theorem dX12_judge_250 : decode cX12_judge 250 = .ok (.getfield 308, 3) := by decide +kernel
theorem dX12_judge_253 : decode cX12_judge 253 = .ok (.iload_n 3, 1) := by decide +kernel
theorem dX12_judge_254 : decode cX12_judge 254 = .ok (.bipush 26, 2) := by decide +kernel
theorem dX12_judge_256 : decode cX12_judge 256 = .ok (.imul, 1) := by decide +kernel
theorem dX12_judge_257 : decode cX12_judge 257 = .ok (.iload 4, 2) := by decide +kernel
theorem dX12_judge_259 : decode cX12_judge 259 = .ok (.iadd, 1) := by decide +kernel
theorem dX12_judge_260 : decode cX12_judge 260 = .ok (.iaload, 1) := by decide +kernel
theorem dX12_judge_261 : decode cX12_judge 261 = .ok (.goto 15, 3) := by decide +kernel
theorem dX12_judge_264 : decode cX12_judge 264 = .ok (.aload_n 0, 1) := by decide +kernel
theorem dX12_judge_265 : decode cX12_judge 265 = .ok (.getfield 323, 3) := by decide +kernel
theorem dX12_judge_268 : decode cX12_judge 268 = .ok (.iload_n 2, 1) := by decide +kernel
theorem dX12_judge_269 : decode cX12_judge 269 = .ok (.bipush 26, 2) := by decide +kernel
theorem dX12_judge_271 : decode cX12_judge 271 = .ok (.imul, 1) := by decide +kernel
theorem dX12_judge_272 : decode cX12_judge 272 = .ok (.iload 4, 2) := by decide +kernel
theorem dX12_judge_274 : decode cX12_judge 274 = .ok (.iadd, 1) := by decide +kernel
theorem dX12_judge_275 : decode cX12_judge 275 = .ok (.iaload, 1) := by decide +kernel
theorem dX12_judge_276 : decode cX12_judge 276 = .ok (.iastore, 1) := by decide +kernel
theorem dX12_judge_277 : decode cX12_judge 277 = .ok (.iinc 4 1, 3) := by decide +kernel
theorem dX12_judge_280 : decode cX12_judge 280 = .ok (.goto (-66), 3) := by decide +kernel
theorem dX12_judge_283 : decode cX12_judge 283 = .ok (.iinc 2 1, 3) := by decide +kernel
theorem dX12_judge_286 : decode cX12_judge 286 = .ok (.aload_n 0, 1) := by decide +kernel
theorem dX12_judge_287 : decode cX12_judge 287 = .ok (.getfield 320, 3) := by decide +kernel
theorem dX12_judge_290 : decode cX12_judge 290 = .ok (.iload_n 2, 1) := by decide +kernel
theorem dX12_judge_291 : decode cX12_judge 291 = .ok (.iconst 0, 1) := by decide +kernel
theorem dX12_judge_292 : decode cX12_judge 292 = .ok (.iastore, 1) := by decide +kernel
theorem dX12_judge_293 : decode cX12_judge 293 = .ok (.goto (-212), 3) := by decide +kernel
theorem dX12_judge_296 : decode cX12_judge 296 = .ok (.iconst 0, 1) := by decide +kernel
theorem dX12_judge_297 : decode cX12_judge 297 = .ok (.ireturn, 1) := by decide +kernel
theorem dX12_keepRegisters_0 : decode cX12_keepRegisters 0 = .ok (.iconst 0, 1) := by decide +kernel
theorem dX12_keepRegisters_1 : decode cX12_keepRegisters 1 = .ok (.istore_n 3, 1) := by decide +kernel
theorem dX12_keepRegisters_2 : decode cX12_keepRegisters 2 = .ok (.iload_n 3, 1) := by decide +kernel
theorem dX12_keepRegisters_3 : decode cX12_keepRegisters 3 = .ok (.bipush 26, 2) := by decide +kernel
theorem dX12_keepRegisters_5 : decode cX12_keepRegisters 5 = .ok (.if_icmp .ge 32, 3) := by decide +kernel
theorem dX12_keepRegisters_8 : decode cX12_keepRegisters 8 = .ok (.aload_n 0, 1) := by decide +kernel
theorem dX12_keepRegisters_9 : decode cX12_keepRegisters 9 = .ok (.getfield 259, 3) := by decide +kernel
theorem dX12_keepRegisters_12 : decode cX12_keepRegisters 12 = .ok (.aload_n 0, 1) := by decide +kernel
theorem dX12_keepRegisters_13 : decode cX12_keepRegisters 13 = .ok (.iload_n 1, 1) := by decide +kernel
theorem dX12_keepRegisters_14 : decode cX12_keepRegisters 14 = .ok (.iload_n 2, 1) := by decide +kernel
theorem dX12_keepRegisters_15 : decode cX12_keepRegisters 15 = .ok (.iload_n 3, 1) := by decide +kernel
theorem dX12_keepRegisters_16 : decode cX12_keepRegisters 16 = .ok (.invokevirtual 357, 3) := by decide +kernel
theorem dX12_keepRegisters_19 : decode cX12_keepRegisters 19 = .ok (.aload_n 0, 1) := by decide +kernel
theorem dX12_keepRegisters_20 : decode cX12_keepRegisters 20 = .ok (.getfield 193, 3) := by decide +kernel
theorem dX12_keepRegisters_23 : decode cX12_keepRegisters 23 = .ok (.iload_n 1, 1) := by decide +kernel
theorem dX12_keepRegisters_24 : decode cX12_keepRegisters 24 = .ok (.bipush 26, 2) := by decide +kernel
theorem dX12_keepRegisters_26 : decode cX12_keepRegisters 26 = .ok (.imul, 1) := by decide +kernel
theorem dX12_keepRegisters_27 : decode cX12_keepRegisters 27 = .ok (.iload_n 3, 1) := by decide +kernel
theorem dX12_keepRegisters_28 : decode cX12_keepRegisters 28 = .ok (.iadd, 1) := by decide +kernel
theorem dX12_keepRegisters_29 : decode cX12_keepRegisters 29 = .ok (.iaload, 1) := by decide +kernel
theorem dX12_keepRegisters_30 : decode cX12_keepRegisters 30 = .ok (.iastore, 1) := by decide +kernel
theorem dX12_keepRegisters_31 : decode cX12_keepRegisters 31 = .ok (.iinc 3 1, 3) := by decide +kernel
theorem dX12_keepRegisters_34 : decode cX12_keepRegisters 34 = .ok (.goto (-32), 3) := by decide +kernel
theorem dX12_keepRegisters_37 : decode cX12_keepRegisters 37 = .ok (.return_, 1) := by decide +kernel
theorem dX12_leave_0 : decode cX12_leave 0 = .ok (.aload_n 0, 1) := by decide +kernel
theorem dX12_leave_1 : decode cX12_leave 1 = .ok (.iload_n 1, 1) := by decide +kernel
theorem dX12_leave_2 : decode cX12_leave 2 = .ok (.invokevirtual 386, 3) := by decide +kernel
theorem dX12_leave_5 : decode cX12_leave 5 = .ok (.aload_n 0, 1) := by decide +kernel
theorem dX12_leave_6 : decode cX12_leave 6 = .ok (.getfield 202, 3) := by decide +kernel
theorem dX12_leave_9 : decode cX12_leave 9 = .ok (.iload_n 1, 1) := by decide +kernel
theorem dX12_leave_10 : decode cX12_leave 10 = .ok (.iconst 0, 1) := by decide +kernel
theorem dX12_leave_11 : decode cX12_leave 11 = .ok (.iastore, 1) := by decide +kernel
theorem dX12_leave_12 : decode cX12_leave 12 = .ok (.aload_n 0, 1) := by decide +kernel
theorem dX12_leave_13 : decode cX12_leave 13 = .ok (.iload_n 1, 1) := by decide +kernel
theorem dX12_leave_14 : decode cX12_leave 14 = .ok (.iconst 0, 1) := by decide +kernel
theorem dX12_leave_15 : decode cX12_leave 15 = .ok (.invokevirtual 353, 3) := by decide +kernel
theorem dX12_leave_18 : decode cX12_leave 18 = .ok (.aload_n 0, 1) := by decide +kernel
theorem dX12_leave_19 : decode cX12_leave 19 = .ok (.getfield 187, 3) := by decide +kernel
theorem dX12_leave_22 : decode cX12_leave 22 = .ok (.iload_n 1, 1) := by decide +kernel
theorem dX12_leave_23 : decode cX12_leave 23 = .ok (.iconst 1, 1) := by decide +kernel
theorem dX12_leave_24 : decode cX12_leave 24 = .ok (.iastore, 1) := by decide +kernel
theorem dX12_leave_25 : decode cX12_leave 25 = .ok (.return_, 1) := by decide +kernel
theorem dX12_level_0 : decode cX12_level 0 = .ok (.iload_n 1, 1) := by decide +kernel
theorem dX12_level_1 : decode cX12_level 1 = .ok (.bipush 12, 2) := by decide +kernel
theorem dX12_level_3 : decode cX12_level 3 = .ok (.imul, 1) := by decide +kernel
theorem dX12_level_4 : decode cX12_level 4 = .ok (.iload_n 2, 1) := by decide +kernel
theorem dX12_level_5 : decode cX12_level 5 = .ok (.iadd, 1) := by decide +kernel
theorem dX12_level_6 : decode cX12_level 6 = .ok (.ireturn, 1) := by decide +kernel
theorem dX12_longer_0 : decode cX12_longer 0 = .ok (.iconst 2, 1) := by decide +kernel
theorem dX12_longer_1 : decode cX12_longer 1 = .ok (.aload_n 0, 1) := by decide +kernel
theorem dX12_longer_2 : decode cX12_longer 2 = .ok (.arraylength, 1) := by decide +kernel
theorem dX12_longer_3 : decode cX12_longer 3 = .ok (.imul, 1) := by decide +kernel
theorem dX12_longer_4 : decode cX12_longer 4 = .ok (.newarray .int, 2) := by decide +kernel
theorem dX12_longer_6 : decode cX12_longer 6 = .ok (.astore_n 1, 1) := by decide +kernel
theorem dX12_longer_7 : decode cX12_longer 7 = .ok (.iconst 0, 1) := by decide +kernel
theorem dX12_longer_8 : decode cX12_longer 8 = .ok (.istore_n 2, 1) := by decide +kernel
theorem dX12_longer_9 : decode cX12_longer 9 = .ok (.iload_n 2, 1) := by decide +kernel
theorem dX12_longer_10 : decode cX12_longer 10 = .ok (.aload_n 0, 1) := by decide +kernel
theorem dX12_longer_11 : decode cX12_longer 11 = .ok (.arraylength, 1) := by decide +kernel
theorem dX12_longer_12 : decode cX12_longer 12 = .ok (.if_icmp .ge 15, 3) := by decide +kernel
theorem dX12_longer_15 : decode cX12_longer 15 = .ok (.aload_n 1, 1) := by decide +kernel
theorem dX12_longer_16 : decode cX12_longer 16 = .ok (.iload_n 2, 1) := by decide +kernel
theorem dX12_longer_17 : decode cX12_longer 17 = .ok (.aload_n 0, 1) := by decide +kernel
theorem dX12_longer_18 : decode cX12_longer 18 = .ok (.iload_n 2, 1) := by decide +kernel
theorem dX12_longer_19 : decode cX12_longer 19 = .ok (.iaload, 1) := by decide +kernel
theorem dX12_longer_20 : decode cX12_longer 20 = .ok (.iastore, 1) := by decide +kernel
theorem dX12_longer_21 : decode cX12_longer 21 = .ok (.iinc 2 1, 3) := by decide +kernel
theorem dX12_longer_24 : decode cX12_longer 24 = .ok (.goto (-15), 3) := by decide +kernel
theorem dX12_longer_27 : decode cX12_longer 27 = .ok (.aload_n 1, 1) := by decide +kernel
theorem dX12_longer_28 : decode cX12_longer 28 = .ok (.areturn, 1) := by decide +kernel
theorem dX12_look_0 : decode cX12_look 0 = .ok (.aload_n 0, 1) := by decide +kernel
theorem dX12_look_1 : decode cX12_look 1 = .ok (.iload_n 1, 1) := by decide +kernel
theorem dX12_look_2 : decode cX12_look 2 = .ok (.invokestatic 503, 3) := by decide +kernel
theorem dX12_look_5 : decode cX12_look 5 = .ok (.ifCond .eq 13, 3) := by decide +kernel
theorem dX12_look_8 : decode cX12_look 8 = .ok (.iload_n 2, 1) := by decide +kernel
theorem dX12_look_9 : decode cX12_look 9 = .ok (.ifCond .lt 9, 3) := by decide +kernel
theorem dX12_look_12 : decode cX12_look 12 = .ok (.iload_n 2, 1) := by decide +kernel
theorem dX12_look_13 : decode cX12_look 13 = .ok (.bipush 7, 2) := by decide +kernel
theorem dX12_look_15 : decode cX12_look 15 = .ok (.if_icmp .le 7, 3) := by decide +kernel
theorem dX12_look_18 : decode cX12_look 18 = .ok (.iconst 1, 1) := by decide +kernel
theorem dX12_look_19 : decode cX12_look 19 = .ok (.goto 4, 3) := by decide +kernel
theorem dX12_look_22 : decode cX12_look 22 = .ok (.iconst 0, 1) := by decide +kernel
theorem dX12_look_23 : decode cX12_look 23 = .ok (.invokevirtual 497, 3) := by decide +kernel
theorem dX12_look_26 : decode cX12_look 26 = .ok (.ifCond .eq 5, 3) := by decide +kernel
theorem dX12_look_29 : decode cX12_look 29 = .ok (.iconst 0, 1) := by decide +kernel
theorem dX12_look_30 : decode cX12_look 30 = .ok (.ireturn, 1) := by decide +kernel
theorem dX12_look_31 : decode cX12_look 31 = .ok (.iload_n 2, 1) := by decide +kernel
theorem dX12_look_32 : decode cX12_look 32 = .ok (.tableswitch 105 0 6 #[44, 51, 58, 64, 70, 77, 98], 44) := by decide +kernel
theorem dX12_look_76 : decode cX12_look 76 = .ok (.aload_n 0, 1) := by decide +kernel
theorem dX12_look_77 : decode cX12_look 77 = .ok (.getfield 187, 3) := by decide +kernel
theorem dX12_look_80 : decode cX12_look 80 = .ok (.iload_n 1, 1) := by decide +kernel
theorem dX12_look_81 : decode cX12_look 81 = .ok (.iaload, 1) := by decide +kernel
theorem dX12_look_82 : decode cX12_look 82 = .ok (.ireturn, 1) := by decide +kernel
theorem dX12_look_83 : decode cX12_look 83 = .ok (.aload_n 0, 1) := by decide +kernel
theorem dX12_look_84 : decode cX12_look 84 = .ok (.getfield 202, 3) := by decide +kernel
theorem dX12_look_87 : decode cX12_look 87 = .ok (.iload_n 1, 1) := by decide +kernel
theorem dX12_look_88 : decode cX12_look 88 = .ok (.iaload, 1) := by decide +kernel
theorem dX12_look_89 : decode cX12_look 89 = .ok (.ireturn, 1) := by decide +kernel
theorem dX12_look_90 : decode cX12_look 90 = .ok (.aload_n 0, 1) := by decide +kernel
theorem dX12_look_91 : decode cX12_look 91 = .ok (.iload_n 1, 1) := by decide +kernel
theorem dX12_look_92 : decode cX12_look 92 = .ok (.invokevirtual 518, 3) := by decide +kernel
theorem dX12_look_95 : decode cX12_look 95 = .ok (.ireturn, 1) := by decide +kernel
theorem dX12_look_96 : decode cX12_look 96 = .ok (.aload_n 0, 1) := by decide +kernel
theorem dX12_look_97 : decode cX12_look 97 = .ok (.iload_n 1, 1) := by decide +kernel
theorem dX12_look_98 : decode cX12_look 98 = .ok (.invokevirtual 521, 3) := by decide +kernel
theorem dX12_look_101 : decode cX12_look 101 = .ok (.ireturn, 1) := by decide +kernel
theorem dX12_look_102 : decode cX12_look 102 = .ok (.aload_n 0, 1) := by decide +kernel
theorem dX12_look_103 : decode cX12_look 103 = .ok (.getfield 211, 3) := by decide +kernel
theorem dX12_look_106 : decode cX12_look 106 = .ok (.iload_n 1, 1) := by decide +kernel
theorem dX12_look_107 : decode cX12_look 107 = .ok (.iaload, 1) := by decide +kernel
theorem dX12_look_108 : decode cX12_look 108 = .ok (.ireturn, 1) := by decide +kernel
theorem dX12_look_109 : decode cX12_look 109 = .ok (.aload_n 0, 1) := by decide +kernel
theorem dX12_look_110 : decode cX12_look 110 = .ok (.getfield 187, 3) := by decide +kernel
theorem dX12_look_113 : decode cX12_look 113 = .ok (.iload_n 1, 1) := by decide +kernel
theorem dX12_look_114 : decode cX12_look 114 = .ok (.iaload, 1) := by decide +kernel
theorem dX12_look_115 : decode cX12_look 115 = .ok (.iconst 2, 1) := by decide +kernel
theorem dX12_look_116 : decode cX12_look 116 = .ok (.if_icmp .ne 12, 3) := by decide +kernel
theorem dX12_look_119 : decode cX12_look 119 = .ok (.aload_n 0, 1) := by decide +kernel
theorem dX12_look_120 : decode cX12_look 120 = .ok (.getfield 214, 3) := by decide +kernel
theorem dX12_look_123 : decode cX12_look 123 = .ok (.iload_n 1, 1) := by decide +kernel
theorem dX12_look_124 : decode cX12_look 124 = .ok (.iaload, 1) := by decide +kernel
theorem dX12_look_125 : decode cX12_look 125 = .ok (.goto 4, 3) := by decide +kernel
theorem dX12_look_128 : decode cX12_look 128 = .ok (.iconst 0, 1) := by decide +kernel
theorem dX12_look_129 : decode cX12_look 129 = .ok (.ireturn, 1) := by decide +kernel
theorem dX12_look_130 : decode cX12_look 130 = .ok (.aload_n 0, 1) := by decide +kernel
theorem dX12_look_131 : decode cX12_look 131 = .ok (.getfield 217, 3) := by decide +kernel
theorem dX12_look_134 : decode cX12_look 134 = .ok (.iload_n 1, 1) := by decide +kernel
theorem dX12_look_135 : decode cX12_look 135 = .ok (.iaload, 1) := by decide +kernel
theorem dX12_look_136 : decode cX12_look 136 = .ok (.ireturn, 1) := by decide +kernel
theorem dX12_look_137 : decode cX12_look 137 = .ok (.aload_n 0, 1) := by decide +kernel
theorem dX12_look_138 : decode cX12_look 138 = .ok (.getfield 220, 3) := by decide +kernel
theorem dX12_look_141 : decode cX12_look 141 = .ok (.iload_n 1, 1) := by decide +kernel
theorem dX12_look_142 : decode cX12_look 142 = .ok (.iaload, 1) := by decide +kernel
theorem dX12_look_143 : decode cX12_look 143 = .ok (.ireturn, 1) := by decide +kernel
theorem dX12_looks_0 : decode cX12_looks 0 = .ok (.aload_n 0, 1) := by decide +kernel
theorem dX12_looks_1 : decode cX12_looks 1 = .ok (.iload_n 1, 1) := by decide +kernel
theorem dX12_looks_2 : decode cX12_looks 2 = .ok (.iload_n 2, 1) := by decide +kernel
theorem dX12_looks_3 : decode cX12_looks 3 = .ok (.invokevirtual 402, 3) := by decide +kernel
theorem dX12_looks_6 : decode cX12_looks 6 = .ok (.istore_n 3, 1) := by decide +kernel
theorem dX12_looks_7 : decode cX12_looks 7 = .ok (.iload_n 3, 1) := by decide +kernel
theorem dX12_looks_8 : decode cX12_looks 8 = .ok (.ifCond .lt 28, 3) := by decide +kernel
theorem dX12_looks_11 : decode cX12_looks 11 = .ok (.aload_n 0, 1) := by decide +kernel
theorem dX12_looks_12 : decode cX12_looks 12 = .ok (.invokevirtual 369, 3) := by decide +kernel
theorem dX12_looks_15 : decode cX12_looks 15 = .ok (.ifCond .ne 21, 3) := by decide +kernel
theorem dX12_looks_18 : decode cX12_looks 18 = .ok (.aload_n 0, 1) := by decide +kernel
theorem dX12_looks_19 : decode cX12_looks 19 = .ok (.aload_n 0, 1) := by decide +kernel
theorem dX12_looks_20 : decode cX12_looks 20 = .ok (.getfield 281, 3) := by decide +kernel
theorem dX12_looks_23 : decode cX12_looks 23 = .ok (.aload_n 0, 1) := by decide +kernel
theorem dX12_looks_24 : decode cX12_looks 24 = .ok (.iload_n 1, 1) := by decide +kernel
theorem dX12_looks_25 : decode cX12_looks 25 = .ok (.iload_n 3, 1) := by decide +kernel
theorem dX12_looks_26 : decode cX12_looks 26 = .ok (.iload_n 2, 1) := by decide +kernel
theorem dX12_looks_27 : decode cX12_looks 27 = .ok (.invokevirtual 357, 3) := by decide +kernel
theorem dX12_looks_30 : decode cX12_looks 30 = .ok (.iaload, 1) := by decide +kernel
theorem dX12_looks_31 : decode cX12_looks 31 = .ok (.putfield 405, 3) := by decide +kernel
theorem dX12_looks_34 : decode cX12_looks 34 = .ok (.iconst 1, 1) := by decide +kernel
theorem dX12_looks_35 : decode cX12_looks 35 = .ok (.ireturn, 1) := by decide +kernel
theorem dX12_looks_36 : decode cX12_looks 36 = .ok (.aload_n 0, 1) := by decide +kernel
theorem dX12_looks_37 : decode cX12_looks 37 = .ok (.invokevirtual 369, 3) := by decide +kernel
theorem dX12_looks_40 : decode cX12_looks 40 = .ok (.ifCond .eq 25, 3) := by decide +kernel
theorem dX12_looks_43 : decode cX12_looks 43 = .ok (.aload_n 0, 1) := by decide +kernel
theorem dX12_looks_44 : decode cX12_looks 44 = .ok (.getfield 177, 3) := by decide +kernel
theorem dX12_looks_47 : decode cX12_looks 47 = .ok (.iload_n 2, 1) := by decide +kernel
theorem dX12_looks_48 : decode cX12_looks 48 = .ok (.iaload, 1) := by decide +kernel
theorem dX12_looks_49 : decode cX12_looks 49 = .ok (.iload_n 1, 1) := by decide +kernel
theorem dX12_looks_50 : decode cX12_looks 50 = .ok (.if_icmp .ne 15, 3) := by decide +kernel
theorem dX12_looks_53 : decode cX12_looks 53 = .ok (.aload_n 0, 1) := by decide +kernel
theorem dX12_looks_54 : decode cX12_looks 54 = .ok (.aload_n 0, 1) := by decide +kernel
theorem dX12_looks_55 : decode cX12_looks 55 = .ok (.getfield 151, 3) := by decide +kernel
theorem dX12_looks_58 : decode cX12_looks 58 = .ok (.iload_n 2, 1) := by decide +kernel
theorem dX12_looks_59 : decode cX12_looks 59 = .ok (.iaload, 1) := by decide +kernel
theorem dX12_looks_60 : decode cX12_looks 60 = .ok (.putfield 405, 3) := by decide +kernel
theorem dX12_looks_63 : decode cX12_looks 63 = .ok (.iconst 1, 1) := by decide +kernel
theorem dX12_looks_64 : decode cX12_looks 64 = .ok (.ireturn, 1) := by decide +kernel
theorem dX12_looks_65 : decode cX12_looks 65 = .ok (.aload_n 0, 1) := by decide +kernel
theorem dX12_looks_66 : decode cX12_looks 66 = .ok (.getfield 332, 3) := by decide +kernel
theorem dX12_looks_69 : decode cX12_looks 69 = .ok (.tableswitch 108 0 3 #[31, 53, 108, 89], 31) := by decide +kernel
theorem dX12_looks_100 : decode cX12_looks 100 = .ok (.aload_n 0, 1) := by decide +kernel
theorem dX12_looks_101 : decode cX12_looks 101 = .ok (.getfield 157, 3) := by decide +kernel
theorem dX12_looks_104 : decode cX12_looks 104 = .ok (.iload_n 2, 1) := by decide +kernel
theorem dX12_looks_105 : decode cX12_looks 105 = .ok (.iaload, 1) := by decide +kernel
theorem dX12_looks_106 : decode cX12_looks 106 = .ok (.aload_n 0, 1) := by decide +kernel
theorem dX12_looks_107 : decode cX12_looks 107 = .ok (.getfield 214, 3) := by decide +kernel
theorem dX12_looks_110 : decode cX12_looks 110 = .ok (.iload_n 1, 1) := by decide +kernel
theorem dX12_looks_111 : decode cX12_looks 111 = .ok (.iaload, 1) := by decide +kernel
theorem dX12_looks_112 : decode cX12_looks 112 = .ok (.if_icmp .le 65, 3) := by decide +kernel
theorem dX12_looks_115 : decode cX12_looks 115 = .ok (.aload_n 0, 1) := by decide +kernel
theorem dX12_looks_116 : decode cX12_looks 116 = .ok (.iload_n 1, 1) := by decide +kernel
theorem dX12_looks_117 : decode cX12_looks 117 = .ok (.invokevirtual 399, 3) := by decide +kernel
theorem dX12_looks_120 : decode cX12_looks 120 = .ok (.iconst 0, 1) := by decide +kernel
theorem dX12_looks_121 : decode cX12_looks 121 = .ok (.ireturn, 1) := by decide +kernel
theorem dX12_looks_122 : decode cX12_looks 122 = .ok (.aload_n 0, 1) := by decide +kernel
theorem dX12_looks_123 : decode cX12_looks 123 = .ok (.getfield 148, 3) := by decide +kernel
theorem dX12_looks_126 : decode cX12_looks 126 = .ok (.aload_n 0, 1) := by decide +kernel
theorem dX12_looks_127 : decode cX12_looks 127 = .ok (.getfield 214, 3) := by decide +kernel
theorem dX12_looks_130 : decode cX12_looks 130 = .ok (.iload_n 1, 1) := by decide +kernel
theorem dX12_looks_131 : decode cX12_looks 131 = .ok (.iaload, 1) := by decide +kernel
theorem dX12_looks_132 : decode cX12_looks 132 = .ok (.if_icmp .eq 45, 3) := by decide +kernel
theorem dX12_looks_135 : decode cX12_looks 135 = .ok (.aload_n 0, 1) := by decide +kernel
theorem dX12_looks_136 : decode cX12_looks 136 = .ok (.iload_n 1, 1) := by decide +kernel
theorem dX12_looks_137 : decode cX12_looks 137 = .ok (.invokevirtual 408, 3) := by decide +kernel
theorem dX12_looks_140 : decode cX12_looks 140 = .ok (.ifCond .ne 5, 3) := by decide +kernel
theorem dX12_looks_143 : decode cX12_looks 143 = .ok (.iconst 0, 1) := by decide +kernel
theorem dX12_looks_144 : decode cX12_looks 144 = .ok (.ireturn, 1) := by decide +kernel
theorem dX12_looks_145 : decode cX12_looks 145 = .ok (.aload_n 0, 1) := by decide +kernel
theorem dX12_looks_146 : decode cX12_looks 146 = .ok (.getfield 214, 3) := by decide +kernel
theorem dX12_looks_149 : decode cX12_looks 149 = .ok (.iload_n 1, 1) := by decide +kernel
theorem dX12_looks_150 : decode cX12_looks 150 = .ok (.aload_n 0, 1) := by decide +kernel
theorem dX12_looks_151 : decode cX12_looks 151 = .ok (.getfield 148, 3) := by decide +kernel
theorem dX12_looks_154 : decode cX12_looks 154 = .ok (.iastore, 1) := by decide +kernel
theorem dX12_looks_155 : decode cX12_looks 155 = .ok (.goto 22, 3) := by decide +kernel
theorem dX12_looks_158 : decode cX12_looks 158 = .ok (.aload_n 0, 1) := by decide +kernel
theorem dX12_looks_159 : decode cX12_looks 159 = .ok (.iload_n 1, 1) := by decide +kernel
theorem dX12_looks_160 : decode cX12_looks 160 = .ok (.iload_n 2, 1) := by decide +kernel
theorem dX12_looks_161 : decode cX12_looks 161 = .ok (.invokevirtual 411, 3) := by decide +kernel
theorem dX12_looks_164 : decode cX12_looks 164 = .ok (.ifCond .eq 11, 3) := by decide +kernel
theorem dX12_looks_167 : decode cX12_looks 167 = .ok (.aload_n 0, 1) := by decide +kernel
theorem dX12_looks_168 : decode cX12_looks 168 = .ok (.iload_n 1, 1) := by decide +kernel
theorem dX12_looks_169 : decode cX12_looks 169 = .ok (.invokevirtual 408, 3) := by decide +kernel
theorem dX12_looks_172 : decode cX12_looks 172 = .ok (.ifCond .ne 5, 3) := by decide +kernel
theorem dX12_looks_175 : decode cX12_looks 175 = .ok (.iconst 0, 1) := by decide +kernel
theorem dX12_looks_176 : decode cX12_looks 176 = .ok (.ireturn, 1) := by decide +kernel
theorem dX12_looks_177 : decode cX12_looks 177 = .ok (.aload_n 0, 1) := by decide +kernel
theorem dX12_looks_178 : decode cX12_looks 178 = .ok (.aload_n 0, 1) := by decide +kernel
theorem dX12_looks_179 : decode cX12_looks 179 = .ok (.getfield 332, 3) := by decide +kernel
theorem dX12_looks_182 : decode cX12_looks 182 = .ok (.iconst 2, 1) := by decide +kernel
theorem dX12_looks_183 : decode cX12_looks 183 = .ok (.if_icmp .ne 17, 3) := by decide +kernel
theorem dX12_looks_186 : decode cX12_looks 186 = .ok (.aload_n 0, 1) := by decide +kernel
theorem dX12_looks_187 : decode cX12_looks 187 = .ok (.iload_n 2, 1) := by decide +kernel
theorem dX12_looks_188 : decode cX12_looks 188 = .ok (.aload_n 0, 1) := by decide +kernel
theorem dX12_looks_189 : decode cX12_looks 189 = .ok (.getfield 214, 3) := by decide +kernel
theorem dX12_looks_192 : decode cX12_looks 192 = .ok (.iload_n 1, 1) := by decide +kernel
theorem dX12_looks_193 : decode cX12_looks 193 = .ok (.iaload, 1) := by decide +kernel
theorem dX12_looks_194 : decode cX12_looks 194 = .ok (.invokevirtual 415, 3) := by decide +kernel
theorem dX12_looks_197 : decode cX12_looks 197 = .ok (.goto 9, 3) := by decide +kernel
theorem dX12_looks_200 : decode cX12_looks 200 = .ok (.aload_n 0, 1) := by decide +kernel
theorem dX12_looks_201 : decode cX12_looks 201 = .ok (.getfield 151, 3) := by decide +kernel
theorem dX12_looks_204 : decode cX12_looks 204 = .ok (.iload_n 2, 1) := by decide +kernel
theorem dX12_looks_205 : decode cX12_looks 205 = .ok (.iaload, 1) := by decide +kernel
theorem dX12_looks_206 : decode cX12_looks 206 = .ok (.putfield 405, 3) := by decide +kernel
theorem dX12_looks_209 : decode cX12_looks 209 = .ok (.aload_n 0, 1) := by decide +kernel
theorem dX12_looks_210 : decode cX12_looks 210 = .ok (.iload_n 1, 1) := by decide +kernel
theorem dX12_looks_211 : decode cX12_looks 211 = .ok (.iload_n 2, 1) := by decide +kernel
theorem dX12_looks_212 : decode cX12_looks 212 = .ok (.aload_n 0, 1) := by decide +kernel
theorem dX12_looks_213 : decode cX12_looks 213 = .ok (.getfield 405, 3) := by decide +kernel
theorem dX12_looks_216 : decode cX12_looks 216 = .ok (.invokevirtual 418, 3) := by decide +kernel
theorem dX12_looks_219 : decode cX12_looks 219 = .ok (.iconst 1, 1) := by decide +kernel
theorem dX12_looks_220 : decode cX12_looks 220 = .ok (.ireturn, 1) := by decide +kernel
theorem dX12_make_0 : decode cX12_make 0 = .ok (.aload_n 0, 1) := by decide +kernel
theorem dX12_make_1 : decode cX12_make 1 = .ok (.getfield 74, 3) := by decide +kernel
theorem dX12_make_4 : decode cX12_make 4 = .ok (.iconst 3, 1) := by decide +kernel
theorem dX12_make_5 : decode cX12_make 5 = .ok (.aload_n 0, 1) := by decide +kernel
theorem dX12_make_6 : decode cX12_make 6 = .ok (.getfield 78, 3) := by decide +kernel
theorem dX12_make_9 : decode cX12_make 9 = .ok (.imul, 1) := by decide +kernel
theorem dX12_make_10 : decode cX12_make 10 = .ok (.iload_n 1, 1) := by decide +kernel
theorem dX12_make_11 : decode cX12_make 11 = .ok (.iastore, 1) := by decide +kernel
theorem dX12_make_12 : decode cX12_make 12 = .ok (.aload_n 0, 1) := by decide +kernel
theorem dX12_make_13 : decode cX12_make 13 = .ok (.getfield 74, 3) := by decide +kernel
theorem dX12_make_16 : decode cX12_make 16 = .ok (.iconst 3, 1) := by decide +kernel
theorem dX12_make_17 : decode cX12_make 17 = .ok (.aload_n 0, 1) := by decide +kernel
theorem dX12_make_18 : decode cX12_make 18 = .ok (.getfield 78, 3) := by decide +kernel
theorem dX12_make_21 : decode cX12_make 21 = .ok (.imul, 1) := by decide +kernel
theorem dX12_make_22 : decode cX12_make 22 = .ok (.iconst 1, 1) := by decide +kernel
theorem dX12_make_23 : decode cX12_make 23 = .ok (.iadd, 1) := by decide +kernel
theorem dX12_make_24 : decode cX12_make 24 = .ok (.iload_n 2, 1) := by decide +kernel
theorem dX12_make_25 : decode cX12_make 25 = .ok (.iastore, 1) := by decide +kernel
theorem dX12_make_26 : decode cX12_make 26 = .ok (.aload_n 0, 1) := by decide +kernel
theorem dX12_make_27 : decode cX12_make 27 = .ok (.getfield 74, 3) := by decide +kernel
theorem dX12_make_30 : decode cX12_make 30 = .ok (.iconst 3, 1) := by decide +kernel
theorem dX12_make_31 : decode cX12_make 31 = .ok (.aload_n 0, 1) := by decide +kernel
theorem dX12_make_32 : decode cX12_make 32 = .ok (.getfield 78, 3) := by decide +kernel
theorem dX12_make_35 : decode cX12_make 35 = .ok (.imul, 1) := by decide +kernel
theorem dX12_make_36 : decode cX12_make 36 = .ok (.iconst 2, 1) := by decide +kernel
theorem dX12_make_37 : decode cX12_make 37 = .ok (.iadd, 1) := by decide +kernel
theorem dX12_make_38 : decode cX12_make 38 = .ok (.iload_n 3, 1) := by decide +kernel
theorem dX12_make_39 : decode cX12_make 39 = .ok (.iastore, 1) := by decide +kernel
theorem dX12_make_40 : decode cX12_make 40 = .ok (.aload_n 0, 1) := by decide +kernel
theorem dX12_make_41 : decode cX12_make 41 = .ok (.dup, 1) := by decide +kernel
theorem dX12_make_42 : decode cX12_make 42 = .ok (.getfield 78, 3) := by decide +kernel
theorem dX12_make_45 : decode cX12_make 45 = .ok (.iconst 1, 1) := by decide +kernel
theorem dX12_make_46 : decode cX12_make 46 = .ok (.iadd, 1) := by decide +kernel
theorem dX12_make_47 : decode cX12_make 47 = .ok (.putfield 78, 3) := by decide +kernel
theorem dX12_make_50 : decode cX12_make 50 = .ok (.aload_n 0, 1) := by decide +kernel
theorem dX12_make_51 : decode cX12_make 51 = .ok (.getfield 78, 3) := by decide +kernel
theorem dX12_make_54 : decode cX12_make 54 = .ok (.iconst 1, 1) := by decide +kernel
theorem dX12_make_55 : decode cX12_make 55 = .ok (.isub, 1) := by decide +kernel
theorem dX12_make_56 : decode cX12_make 56 = .ok (.ireturn, 1) := by decide +kernel
theorem dX12_mayCome_0 : decode cX12_mayCome 0 = .ok (.aload_n 0, 1) := by decide +kernel
theorem dX12_mayCome_1 : decode cX12_mayCome 1 = .ok (.getfield 326, 3) := by decide +kernel
theorem dX12_mayCome_4 : decode cX12_mayCome 4 = .ok (.iload_n 1, 1) := by decide +kernel
theorem dX12_mayCome_5 : decode cX12_mayCome 5 = .ok (.baload, 1) := by decide +kernel
theorem dX12_mayCome_6 : decode cX12_mayCome 6 = .ok (.ifCond .eq 5, 3) := by decide +kernel
theorem dX12_mayCome_9 : decode cX12_mayCome 9 = .ok (.iconst 0, 1) := by decide +kernel
theorem dX12_mayCome_10 : decode cX12_mayCome 10 = .ok (.ireturn, 1) := by decide +kernel
theorem dX12_mayCome_11 : decode cX12_mayCome 11 = .ok (.iconst 0, 1) := by decide +kernel
theorem dX12_mayCome_12 : decode cX12_mayCome 12 = .ok (.istore_n 3, 1) := by decide +kernel
theorem dX12_mayCome_13 : decode cX12_mayCome 13 = .ok (.iload_n 3, 1) := by decide +kernel
theorem dX12_mayCome_14 : decode cX12_mayCome 14 = .ok (.aload_n 0, 1) := by decide +kernel
theorem dX12_mayCome_15 : decode cX12_mayCome 15 = .ok (.getfield 338, 3) := by decide +kernel
theorem dX12_mayCome_18 : decode cX12_mayCome 18 = .ok (.if_icmp .ge 40, 3) := by decide +kernel
theorem dX12_mayCome_21 : decode cX12_mayCome 21 = .ok (.aload_n 0, 1) := by decide +kernel
theorem dX12_mayCome_22 : decode cX12_mayCome 22 = .ok (.getfield 326, 3) := by decide +kernel
theorem dX12_mayCome_25 : decode cX12_mayCome 25 = .ok (.iload_n 3, 1) := by decide +kernel
theorem dX12_mayCome_26 : decode cX12_mayCome 26 = .ok (.baload, 1) := by decide +kernel
theorem dX12_mayCome_27 : decode cX12_mayCome 27 = .ok (.ifCond .ne 25, 3) := by decide +kernel
theorem dX12_mayCome_30 : decode cX12_mayCome 30 = .ok (.iload_n 3, 1) := by decide +kernel
theorem dX12_mayCome_31 : decode cX12_mayCome 31 = .ok (.iload_n 1, 1) := by decide +kernel
theorem dX12_mayCome_32 : decode cX12_mayCome 32 = .ok (.if_icmp .eq 20, 3) := by decide +kernel
theorem dX12_mayCome_35 : decode cX12_mayCome 35 = .ok (.aload_n 0, 1) := by decide +kernel
theorem dX12_mayCome_36 : decode cX12_mayCome 36 = .ok (.getfield 302, 3) := by decide +kernel
theorem dX12_mayCome_39 : decode cX12_mayCome 39 = .ok (.iload_n 3, 1) := by decide +kernel
theorem dX12_mayCome_40 : decode cX12_mayCome 40 = .ok (.iaload, 1) := by decide +kernel
theorem dX12_mayCome_41 : decode cX12_mayCome 41 = .ok (.aload_n 0, 1) := by decide +kernel
theorem dX12_mayCome_42 : decode cX12_mayCome 42 = .ok (.getfield 299, 3) := by decide +kernel
theorem dX12_mayCome_45 : decode cX12_mayCome 45 = .ok (.iload_n 1, 1) := by decide +kernel
theorem dX12_mayCome_46 : decode cX12_mayCome 46 = .ok (.iaload, 1) := by decide +kernel
theorem dX12_mayCome_47 : decode cX12_mayCome 47 = .ok (.if_icmp .ge 5, 3) := by decide +kernel
theorem dX12_mayCome_50 : decode cX12_mayCome 50 = .ok (.iconst 0, 1) := by decide +kernel
theorem dX12_mayCome_51 : decode cX12_mayCome 51 = .ok (.ireturn, 1) := by decide +kernel
theorem dX12_mayCome_52 : decode cX12_mayCome 52 = .ok (.iinc 3 1, 3) := by decide +kernel
theorem dX12_mayCome_55 : decode cX12_mayCome 55 = .ok (.goto (-42), 3) := by decide +kernel
theorem dX12_mayCome_58 : decode cX12_mayCome 58 = .ok (.iconst 0, 1) := by decide +kernel
theorem dX12_mayCome_59 : decode cX12_mayCome 59 = .ok (.istore_n 3, 1) := by decide +kernel
theorem dX12_mayCome_60 : decode cX12_mayCome 60 = .ok (.iload_n 3, 1) := by decide +kernel
theorem dX12_mayCome_61 : decode cX12_mayCome 61 = .ok (.bipush 26, 2) := by decide +kernel
theorem dX12_mayCome_63 : decode cX12_mayCome 63 = .ok (.if_icmp .ge 50, 3) := by decide +kernel
theorem dX12_mayCome_66 : decode cX12_mayCome 66 = .ok (.aload_n 0, 1) := by decide +kernel
theorem dX12_mayCome_67 : decode cX12_mayCome 67 = .ok (.getfield 311, 3) := by decide +kernel
theorem dX12_mayCome_70 : decode cX12_mayCome 70 = .ok (.iload_n 1, 1) := by decide +kernel
theorem dX12_mayCome_71 : decode cX12_mayCome 71 = .ok (.bipush 26, 2) := by decide +kernel
theorem dX12_mayCome_73 : decode cX12_mayCome 73 = .ok (.imul, 1) := by decide +kernel
theorem dX12_mayCome_74 : decode cX12_mayCome 74 = .ok (.iload_n 3, 1) := by decide +kernel
theorem dX12_mayCome_75 : decode cX12_mayCome 75 = .ok (.iadd, 1) := by decide +kernel
theorem dX12_mayCome_76 : decode cX12_mayCome 76 = .ok (.baload, 1) := by decide +kernel
theorem dX12_mayCome_77 : decode cX12_mayCome 77 = .ok (.ifCond .eq 30, 3) := by decide +kernel
theorem dX12_mayCome_80 : decode cX12_mayCome 80 = .ok (.aload_n 0, 1) := by decide +kernel
theorem dX12_mayCome_81 : decode cX12_mayCome 81 = .ok (.getfield 305, 3) := by decide +kernel
theorem dX12_mayCome_84 : decode cX12_mayCome 84 = .ok (.iload_n 1, 1) := by decide +kernel
theorem dX12_mayCome_85 : decode cX12_mayCome 85 = .ok (.bipush 26, 2) := by decide +kernel
theorem dX12_mayCome_87 : decode cX12_mayCome 87 = .ok (.imul, 1) := by decide +kernel
theorem dX12_mayCome_88 : decode cX12_mayCome 88 = .ok (.iload_n 3, 1) := by decide +kernel
theorem dX12_mayCome_89 : decode cX12_mayCome 89 = .ok (.iadd, 1) := by decide +kernel
theorem dX12_mayCome_90 : decode cX12_mayCome 90 = .ok (.iaload, 1) := by decide +kernel
theorem dX12_mayCome_91 : decode cX12_mayCome 91 = .ok (.aload_n 0, 1) := by decide +kernel
theorem dX12_mayCome_92 : decode cX12_mayCome 92 = .ok (.getfield 323, 3) := by decide +kernel
theorem dX12_mayCome_95 : decode cX12_mayCome 95 = .ok (.iload_n 2, 1) := by decide +kernel
theorem dX12_mayCome_96 : decode cX12_mayCome 96 = .ok (.bipush 26, 2) := by decide +kernel
theorem dX12_mayCome_98 : decode cX12_mayCome 98 = .ok (.imul, 1) := by decide +kernel
theorem dX12_mayCome_99 : decode cX12_mayCome 99 = .ok (.iload_n 3, 1) := by decide +kernel
theorem dX12_mayCome_100 : decode cX12_mayCome 100 = .ok (.iadd, 1) := by decide +kernel
theorem dX12_mayCome_101 : decode cX12_mayCome 101 = .ok (.iaload, 1) := by decide +kernel
theorem dX12_mayCome_102 : decode cX12_mayCome 102 = .ok (.if_icmp .eq 5, 3) := by decide +kernel
theorem dX12_mayCome_105 : decode cX12_mayCome 105 = .ok (.iconst 0, 1) := by decide +kernel
theorem dX12_mayCome_106 : decode cX12_mayCome 106 = .ok (.ireturn, 1) := by decide +kernel
theorem dX12_mayCome_107 : decode cX12_mayCome 107 = .ok (.iinc 3 1, 3) := by decide +kernel
theorem dX12_mayCome_110 : decode cX12_mayCome 110 = .ok (.goto (-50), 3) := by decide +kernel
theorem dX12_mayCome_113 : decode cX12_mayCome 113 = .ok (.iconst 1, 1) := by decide +kernel
theorem dX12_mayCome_114 : decode cX12_mayCome 114 = .ok (.ireturn, 1) := by decide +kernel
theorem dX12_mayEnd_0 : decode cX12_mayEnd 0 = .ok (.aload_n 0, 1) := by decide +kernel
theorem dX12_mayEnd_1 : decode cX12_mayEnd 1 = .ok (.getfield 332, 3) := by decide +kernel
theorem dX12_mayEnd_4 : decode cX12_mayEnd 4 = .ok (.iconst 4, 1) := by decide +kernel
theorem dX12_mayEnd_5 : decode cX12_mayEnd 5 = .ok (.if_icmp .ne 5, 3) := by decide +kernel
theorem dX12_mayEnd_8 : decode cX12_mayEnd 8 = .ok (.iconst 1, 1) := by decide +kernel
theorem dX12_mayEnd_9 : decode cX12_mayEnd 9 = .ok (.ireturn, 1) := by decide +kernel
theorem dX12_mayEnd_10 : decode cX12_mayEnd 10 = .ok (.aload_n 0, 1) := by decide +kernel
theorem dX12_mayEnd_11 : decode cX12_mayEnd 11 = .ok (.getfield 332, 3) := by decide +kernel
theorem dX12_mayEnd_14 : decode cX12_mayEnd 14 = .ok (.iconst 3, 1) := by decide +kernel
theorem dX12_mayEnd_15 : decode cX12_mayEnd 15 = .ok (.if_icmp .ne 127, 3) := by decide +kernel
theorem dX12_mayEnd_18 : decode cX12_mayEnd 18 = .ok (.iconst (-1), 1) := by decide +kernel
theorem dX12_mayEnd_19 : decode cX12_mayEnd 19 = .ok (.istore_n 2, 1) := by decide +kernel
theorem dX12_mayEnd_20 : decode cX12_mayEnd 20 = .ok (.iconst (-1), 1) := by decide +kernel
theorem dX12_mayEnd_21 : decode cX12_mayEnd 21 = .ok (.istore_n 3, 1) := by decide +kernel
theorem dX12_mayEnd_22 : decode cX12_mayEnd 22 = .ok (.iconst 0, 1) := by decide +kernel
theorem dX12_mayEnd_23 : decode cX12_mayEnd 23 = .ok (.istore 4, 2) := by decide +kernel
theorem dX12_mayEnd_25 : decode cX12_mayEnd 25 = .ok (.iload 4, 2) := by decide +kernel
theorem dX12_mayEnd_27 : decode cX12_mayEnd 27 = .ok (.bipush 26, 2) := by decide +kernel
theorem dX12_mayEnd_29 : decode cX12_mayEnd 29 = .ok (.if_icmp .ge 73, 3) := by decide +kernel
theorem dX12_mayEnd_32 : decode cX12_mayEnd 32 = .ok (.aload_n 0, 1) := by decide +kernel
theorem dX12_mayEnd_33 : decode cX12_mayEnd 33 = .ok (.iload_n 1, 1) := by decide +kernel
theorem dX12_mayEnd_34 : decode cX12_mayEnd 34 = .ok (.iconst 0, 1) := by decide +kernel
theorem dX12_mayEnd_35 : decode cX12_mayEnd 35 = .ok (.iload 4, 2) := by decide +kernel
theorem dX12_mayEnd_37 : decode cX12_mayEnd 37 = .ok (.invokevirtual 357, 3) := by decide +kernel
theorem dX12_mayEnd_40 : decode cX12_mayEnd 40 = .ok (.istore 5, 2) := by decide +kernel
theorem dX12_mayEnd_42 : decode cX12_mayEnd 42 = .ok (.aload_n 0, 1) := by decide +kernel
theorem dX12_mayEnd_43 : decode cX12_mayEnd 43 = .ok (.getfield 266, 3) := by decide +kernel
theorem dX12_mayEnd_46 : decode cX12_mayEnd 46 = .ok (.iload 5, 2) := by decide +kernel
theorem dX12_mayEnd_48 : decode cX12_mayEnd 48 = .ok (.baload, 1) := by decide +kernel
theorem dX12_mayEnd_49 : decode cX12_mayEnd 49 = .ok (.ifCond .eq 47, 3) := by decide +kernel
theorem dX12_mayEnd_52 : decode cX12_mayEnd 52 = .ok (.iload_n 2, 1) := by decide +kernel
theorem dX12_mayEnd_53 : decode cX12_mayEnd 53 = .ok (.ifCond .lt 14, 3) := by decide +kernel
theorem dX12_mayEnd_56 : decode cX12_mayEnd 56 = .ok (.aload_n 0, 1) := by decide +kernel
theorem dX12_mayEnd_57 : decode cX12_mayEnd 57 = .ok (.getfield 278, 3) := by decide +kernel
theorem dX12_mayEnd_60 : decode cX12_mayEnd 60 = .ok (.iload 5, 2) := by decide +kernel
theorem dX12_mayEnd_62 : decode cX12_mayEnd 62 = .ok (.iaload, 1) := by decide +kernel
theorem dX12_mayEnd_63 : decode cX12_mayEnd 63 = .ok (.iload_n 2, 1) := by decide +kernel
theorem dX12_mayEnd_64 : decode cX12_mayEnd 64 = .ok (.if_icmp .le 32, 3) := by decide +kernel
theorem dX12_mayEnd_67 : decode cX12_mayEnd 67 = .ok (.iload_n 3, 1) := by decide +kernel
theorem dX12_mayEnd_68 : decode cX12_mayEnd 68 = .ok (.ifCond .lt 25, 3) := by decide +kernel
theorem dX12_mayEnd_71 : decode cX12_mayEnd 71 = .ok (.aload_n 0, 1) := by decide +kernel
theorem dX12_mayEnd_72 : decode cX12_mayEnd 72 = .ok (.getfield 278, 3) := by decide +kernel
theorem dX12_mayEnd_75 : decode cX12_mayEnd 75 = .ok (.iload 5, 2) := by decide +kernel
theorem dX12_mayEnd_77 : decode cX12_mayEnd 77 = .ok (.iaload, 1) := by decide +kernel
theorem dX12_mayEnd_78 : decode cX12_mayEnd 78 = .ok (.aload_n 0, 1) := by decide +kernel
theorem dX12_mayEnd_79 : decode cX12_mayEnd 79 = .ok (.getfield 278, 3) := by decide +kernel
theorem dX12_mayEnd_82 : decode cX12_mayEnd 82 = .ok (.aload_n 0, 1) := by decide +kernel
theorem dX12_mayEnd_83 : decode cX12_mayEnd 83 = .ok (.iload_n 1, 1) := by decide +kernel
theorem dX12_mayEnd_84 : decode cX12_mayEnd 84 = .ok (.iconst 0, 1) := by decide +kernel
theorem dX12_mayEnd_85 : decode cX12_mayEnd 85 = .ok (.iload_n 3, 1) := by decide +kernel
theorem dX12_mayEnd_86 : decode cX12_mayEnd 86 = .ok (.invokevirtual 357, 3) := by decide +kernel
theorem dX12_mayEnd_89 : decode cX12_mayEnd 89 = .ok (.iaload, 1) := by decide +kernel
theorem dX12_mayEnd_90 : decode cX12_mayEnd 90 = .ok (.if_icmp .ge 6, 3) := by decide +kernel
theorem dX12_mayEnd_93 : decode cX12_mayEnd 93 = .ok (.iload 4, 2) := by decide +kernel
theorem dX12_mayEnd_95 : decode cX12_mayEnd 95 = .ok (.istore_n 3, 1) := by decide +kernel
theorem dX12_mayEnd_96 : decode cX12_mayEnd 96 = .ok (.iinc 4 1, 3) := by decide +kernel
theorem dX12_mayEnd_99 : decode cX12_mayEnd 99 = .ok (.goto (-74), 3) := by decide +kernel
theorem dX12_mayEnd_102 : decode cX12_mayEnd 102 = .ok (.iload_n 3, 1) := by decide +kernel
theorem dX12_mayEnd_103 : decode cX12_mayEnd 103 = .ok (.ifCond .ge 6, 3) := by decide +kernel
theorem dX12_mayEnd_106 : decode cX12_mayEnd 106 = .ok (.goto 30, 3) := by decide +kernel
theorem dX12_mayEnd_109 : decode cX12_mayEnd 109 = .ok (.aload_n 0, 1) := by decide +kernel
theorem dX12_mayEnd_110 : decode cX12_mayEnd 110 = .ok (.getfield 278, 3) := by decide +kernel
theorem dX12_mayEnd_113 : decode cX12_mayEnd 113 = .ok (.aload_n 0, 1) := by decide +kernel
theorem dX12_mayEnd_114 : decode cX12_mayEnd 114 = .ok (.iload_n 1, 1) := by decide +kernel
theorem dX12_mayEnd_115 : decode cX12_mayEnd 115 = .ok (.iconst 0, 1) := by decide +kernel
theorem dX12_mayEnd_116 : decode cX12_mayEnd 116 = .ok (.iload_n 3, 1) := by decide +kernel
theorem dX12_mayEnd_117 : decode cX12_mayEnd 117 = .ok (.invokevirtual 357, 3) := by decide +kernel
theorem dX12_mayEnd_120 : decode cX12_mayEnd 120 = .ok (.iaload, 1) := by decide +kernel
theorem dX12_mayEnd_121 : decode cX12_mayEnd 121 = .ok (.istore_n 2, 1) := by decide +kernel
theorem dX12_mayEnd_122 : decode cX12_mayEnd 122 = .ok (.aload_n 0, 1) := by decide +kernel
theorem dX12_mayEnd_123 : decode cX12_mayEnd 123 = .ok (.iload_n 1, 1) := by decide +kernel
theorem dX12_mayEnd_124 : decode cX12_mayEnd 124 = .ok (.iload_n 3, 1) := by decide +kernel
theorem dX12_mayEnd_125 : decode cX12_mayEnd 125 = .ok (.invokevirtual 411, 3) := by decide +kernel
theorem dX12_mayEnd_128 : decode cX12_mayEnd 128 = .ok (.ifCond .ne 5, 3) := by decide +kernel
theorem dX12_mayEnd_131 : decode cX12_mayEnd 131 = .ok (.iconst 0, 1) := by decide +kernel
theorem dX12_mayEnd_132 : decode cX12_mayEnd 132 = .ok (.ireturn, 1) := by decide +kernel
theorem dX12_mayEnd_133 : decode cX12_mayEnd 133 = .ok (.goto (-113), 3) := by decide +kernel
theorem dX12_mayEnd_136 : decode cX12_mayEnd 136 = .ok (.aload_n 0, 1) := by decide +kernel
theorem dX12_mayEnd_137 : decode cX12_mayEnd 137 = .ok (.iload_n 1, 1) := by decide +kernel
theorem dX12_mayEnd_138 : decode cX12_mayEnd 138 = .ok (.invokevirtual 408, 3) := by decide +kernel
theorem dX12_mayEnd_141 : decode cX12_mayEnd 141 = .ok (.ireturn, 1) := by decide +kernel
theorem dX12_mayEnd_142 : decode cX12_mayEnd 142 = .ok (.aload_n 0, 1) := by decide +kernel
theorem dX12_mayEnd_143 : decode cX12_mayEnd 143 = .ok (.iload_n 1, 1) := by decide +kernel
theorem dX12_mayEnd_144 : decode cX12_mayEnd 144 = .ok (.invokevirtual 422, 3) := by decide +kernel
theorem dX12_mayEnd_147 : decode cX12_mayEnd 147 = .ok (.ifCond .ne 5, 3) := by decide +kernel
theorem dX12_mayEnd_150 : decode cX12_mayEnd 150 = .ok (.iconst 1, 1) := by decide +kernel
theorem dX12_mayEnd_151 : decode cX12_mayEnd 151 = .ok (.ireturn, 1) := by decide +kernel
theorem dX12_mayEnd_152 : decode cX12_mayEnd 152 = .ok (.aload_n 0, 1) := by decide +kernel
theorem dX12_mayEnd_153 : decode cX12_mayEnd 153 = .ok (.getfield 332, 3) := by decide +kernel
theorem dX12_mayEnd_156 : decode cX12_mayEnd 156 = .ok (.iconst 1, 1) := by decide +kernel
theorem dX12_mayEnd_157 : decode cX12_mayEnd 157 = .ok (.if_icmp .ne 18, 3) := by decide +kernel
theorem dX12_mayEnd_160 : decode cX12_mayEnd 160 = .ok (.aload_n 0, 1) := by decide +kernel
theorem dX12_mayEnd_161 : decode cX12_mayEnd 161 = .ok (.getfield 148, 3) := by decide +kernel
theorem dX12_mayEnd_164 : decode cX12_mayEnd 164 = .ok (.aload_n 0, 1) := by decide +kernel
theorem dX12_mayEnd_165 : decode cX12_mayEnd 165 = .ok (.getfield 214, 3) := by decide +kernel
theorem dX12_mayEnd_168 : decode cX12_mayEnd 168 = .ok (.iload_n 1, 1) := by decide +kernel
theorem dX12_mayEnd_169 : decode cX12_mayEnd 169 = .ok (.iaload, 1) := by decide +kernel
theorem dX12_mayEnd_170 : decode cX12_mayEnd 170 = .ok (.if_icmp .ne 5, 3) := by decide +kernel
theorem dX12_mayEnd_173 : decode cX12_mayEnd 173 = .ok (.iconst 1, 1) := by decide +kernel
theorem dX12_mayEnd_174 : decode cX12_mayEnd 174 = .ok (.ireturn, 1) := by decide +kernel
theorem dX12_mayEnd_175 : decode cX12_mayEnd 175 = .ok (.aload_n 0, 1) := by decide +kernel
theorem dX12_mayEnd_176 : decode cX12_mayEnd 176 = .ok (.iload_n 1, 1) := by decide +kernel
theorem dX12_mayEnd_177 : decode cX12_mayEnd 177 = .ok (.invokevirtual 408, 3) := by decide +kernel
theorem dX12_mayEnd_180 : decode cX12_mayEnd 180 = .ok (.ireturn, 1) := by decide +kernel
theorem dX12_need_0 : decode cX12_need 0 = .ok (.aload_n 0, 1) := by decide +kernel
theorem dX12_need_1 : decode cX12_need 1 = .ok (.iload_n 1, 1) := by decide +kernel
theorem dX12_need_2 : decode cX12_need 2 = .ok (.invokevirtual 67, 3) := by decide +kernel
theorem dX12_need_5 : decode cX12_need 5 = .ok (.ifCond .ne 12, 3) := by decide +kernel
theorem dX12_need_8 : decode cX12_need 8 = .ok (.aload_n 0, 1) := by decide +kernel
theorem dX12_need_9 : decode cX12_need 9 = .ok (.aload_n 0, 1) := by decide +kernel
theorem dX12_need_10 : decode cX12_need 10 = .ok (.getfield 39, 3) := by decide +kernel
theorem dX12_need_13 : decode cX12_need 13 = .ok (.invokevirtual 70, 3) := by decide +kernel
theorem dX12_need_16 : decode cX12_need 16 = .ok (.athrow, 1) := by decide +kernel
theorem dX12_need_17 : decode cX12_need 17 = .ok (.return_, 1) := by decide +kernel
theorem dX12_newRecord_0 : decode cX12_newRecord 0 = .ok (.aload_n 0, 1) := by decide +kernel
theorem dX12_newRecord_1 : decode cX12_newRecord 1 = .ok (.getfield 338, 3) := by decide +kernel
theorem dX12_newRecord_4 : decode cX12_newRecord 4 = .ok (.sipush 300, 3) := by decide +kernel
theorem dX12_newRecord_7 : decode cX12_newRecord 7 = .ok (.if_icmp .ne 5, 3) := by decide +kernel
theorem dX12_newRecord_10 : decode cX12_newRecord 10 = .ok (.iconst (-1), 1) := by decide +kernel
theorem dX12_newRecord_11 : decode cX12_newRecord 11 = .ok (.ireturn, 1) := by decide +kernel
theorem dX12_newRecord_12 : decode cX12_newRecord 12 = .ok (.aload_n 0, 1) := by decide +kernel
theorem dX12_newRecord_13 : decode cX12_newRecord 13 = .ok (.getfield 296, 3) := by decide +kernel
theorem dX12_newRecord_16 : decode cX12_newRecord 16 = .ok (.aload_n 0, 1) := by decide +kernel
theorem dX12_newRecord_17 : decode cX12_newRecord 17 = .ok (.getfield 338, 3) := by decide +kernel
theorem dX12_newRecord_20 : decode cX12_newRecord 20 = .ok (.iload_n 1, 1) := by decide +kernel
theorem dX12_newRecord_21 : decode cX12_newRecord 21 = .ok (.iastore, 1) := by decide +kernel
theorem dX12_newRecord_22 : decode cX12_newRecord 22 = .ok (.aload_n 0, 1) := by decide +kernel
theorem dX12_newRecord_23 : decode cX12_newRecord 23 = .ok (.getfield 299, 3) := by decide +kernel
theorem dX12_newRecord_26 : decode cX12_newRecord 26 = .ok (.aload_n 0, 1) := by decide +kernel
theorem dX12_newRecord_27 : decode cX12_newRecord 27 = .ok (.getfield 338, 3) := by decide +kernel
theorem dX12_newRecord_30 : decode cX12_newRecord 30 = .ok (.iload_n 2, 1) := by decide +kernel
theorem dX12_newRecord_31 : decode cX12_newRecord 31 = .ok (.iastore, 1) := by decide +kernel
theorem dX12_newRecord_32 : decode cX12_newRecord 32 = .ok (.aload_n 0, 1) := by decide +kernel
theorem dX12_newRecord_33 : decode cX12_newRecord 33 = .ok (.getfield 302, 3) := by decide +kernel
theorem dX12_newRecord_36 : decode cX12_newRecord 36 = .ok (.aload_n 0, 1) := by decide +kernel
theorem dX12_newRecord_37 : decode cX12_newRecord 37 = .ok (.getfield 338, 3) := by decide +kernel
theorem dX12_newRecord_40 : decode cX12_newRecord 40 = .ok (.aload_n 0, 1) := by decide +kernel
theorem dX12_newRecord_41 : decode cX12_newRecord 41 = .ok (.getfield 341, 3) := by decide +kernel
theorem dX12_newRecord_44 : decode cX12_newRecord 44 = .ok (.iastore, 1) := by decide +kernel
theorem dX12_newRecord_45 : decode cX12_newRecord 45 = .ok (.aload_n 0, 1) := by decide +kernel
theorem dX12_newRecord_46 : decode cX12_newRecord 46 = .ok (.getfield 338, 3) := by decide +kernel
theorem dX12_newRecord_49 : decode cX12_newRecord 49 = .ok (.bipush 26, 2) := by decide +kernel
theorem dX12_newRecord_51 : decode cX12_newRecord 51 = .ok (.imul, 1) := by decide +kernel
theorem dX12_newRecord_52 : decode cX12_newRecord 52 = .ok (.istore_n 3, 1) := by decide +kernel
theorem dX12_newRecord_53 : decode cX12_newRecord 53 = .ok (.iload_n 3, 1) := by decide +kernel
theorem dX12_newRecord_54 : decode cX12_newRecord 54 = .ok (.aload_n 0, 1) := by decide +kernel
theorem dX12_newRecord_55 : decode cX12_newRecord 55 = .ok (.getfield 338, 3) := by decide +kernel
theorem dX12_newRecord_58 : decode cX12_newRecord 58 = .ok (.bipush 26, 2) := by decide +kernel
theorem dX12_newRecord_60 : decode cX12_newRecord 60 = .ok (.imul, 1) := by decide +kernel
theorem dX12_newRecord_61 : decode cX12_newRecord 61 = .ok (.bipush 26, 2) := by decide +kernel
theorem dX12_newRecord_63 : decode cX12_newRecord 63 = .ok (.iadd, 1) := by decide +kernel
theorem dX12_newRecord_64 : decode cX12_newRecord 64 = .ok (.if_icmp .ge 23, 3) := by decide +kernel
theorem dX12_newRecord_67 : decode cX12_newRecord 67 = .ok (.aload_n 0, 1) := by decide +kernel
theorem dX12_newRecord_68 : decode cX12_newRecord 68 = .ok (.getfield 311, 3) := by decide +kernel
theorem dX12_newRecord_71 : decode cX12_newRecord 71 = .ok (.iload_n 3, 1) := by decide +kernel
theorem dX12_newRecord_72 : decode cX12_newRecord 72 = .ok (.iconst 0, 1) := by decide +kernel
theorem dX12_newRecord_73 : decode cX12_newRecord 73 = .ok (.bastore, 1) := by decide +kernel
theorem dX12_newRecord_74 : decode cX12_newRecord 74 = .ok (.aload_n 0, 1) := by decide +kernel
theorem dX12_newRecord_75 : decode cX12_newRecord 75 = .ok (.getfield 314, 3) := by decide +kernel
theorem dX12_newRecord_78 : decode cX12_newRecord 78 = .ok (.iload_n 3, 1) := by decide +kernel
theorem dX12_newRecord_79 : decode cX12_newRecord 79 = .ok (.iconst 0, 1) := by decide +kernel
theorem dX12_newRecord_80 : decode cX12_newRecord 80 = .ok (.bastore, 1) := by decide +kernel
theorem dX12_newRecord_81 : decode cX12_newRecord 81 = .ok (.iinc 3 1, 3) := by decide +kernel
theorem dX12_newRecord_84 : decode cX12_newRecord 84 = .ok (.goto (-31), 3) := by decide +kernel
theorem dX12_newRecord_87 : decode cX12_newRecord 87 = .ok (.aload_n 0, 1) := by decide +kernel
theorem dX12_newRecord_88 : decode cX12_newRecord 88 = .ok (.dup, 1) := by decide +kernel
theorem dX12_newRecord_89 : decode cX12_newRecord 89 = .ok (.getfield 338, 3) := by decide +kernel
theorem dX12_newRecord_92 : decode cX12_newRecord 92 = .ok (.iconst 1, 1) := by decide +kernel
theorem dX12_newRecord_93 : decode cX12_newRecord 93 = .ok (.iadd, 1) := by decide +kernel
theorem dX12_newRecord_94 : decode cX12_newRecord 94 = .ok (.putfield 338, 3) := by decide +kernel
theorem dX12_newRecord_97 : decode cX12_newRecord 97 = .ok (.aload_n 0, 1) := by decide +kernel
theorem dX12_newRecord_98 : decode cX12_newRecord 98 = .ok (.getfield 338, 3) := by decide +kernel
theorem dX12_newRecord_101 : decode cX12_newRecord 101 = .ok (.iconst 1, 1) := by decide +kernel
theorem dX12_newRecord_102 : decode cX12_newRecord 102 = .ok (.isub, 1) := by decide +kernel
theorem dX12_newRecord_103 : decode cX12_newRecord 103 = .ok (.ireturn, 1) := by decide +kernel
theorem dX12_openLevel_0 : decode cX12_openLevel 0 = .ok (.aload_n 0, 1) := by decide +kernel
theorem dX12_openLevel_1 : decode cX12_openLevel 1 = .ok (.getfield 202, 3) := by decide +kernel
theorem dX12_openLevel_4 : decode cX12_openLevel 4 = .ok (.iload_n 1, 1) := by decide +kernel
theorem dX12_openLevel_5 : decode cX12_openLevel 5 = .ok (.iaload, 1) := by decide +kernel
theorem dX12_openLevel_6 : decode cX12_openLevel 6 = .ok (.istore 4, 2) := by decide +kernel
theorem dX12_openLevel_8 : decode cX12_openLevel 8 = .ok (.aload_n 0, 1) := by decide +kernel
theorem dX12_openLevel_9 : decode cX12_openLevel 9 = .ok (.iload_n 1, 1) := by decide +kernel
theorem dX12_openLevel_10 : decode cX12_openLevel 10 = .ok (.iload 4, 2) := by decide +kernel
theorem dX12_openLevel_12 : decode cX12_openLevel 12 = .ok (.invokevirtual 353, 3) := by decide +kernel
theorem dX12_openLevel_15 : decode cX12_openLevel 15 = .ok (.aload_n 0, 1) := by decide +kernel
theorem dX12_openLevel_16 : decode cX12_openLevel 16 = .ok (.iload_n 1, 1) := by decide +kernel
theorem dX12_openLevel_17 : decode cX12_openLevel 17 = .ok (.iload 4, 2) := by decide +kernel
theorem dX12_openLevel_19 : decode cX12_openLevel 19 = .ok (.invokevirtual 360, 3) := by decide +kernel
theorem dX12_openLevel_22 : decode cX12_openLevel 22 = .ok (.istore 5, 2) := by decide +kernel
theorem dX12_openLevel_24 : decode cX12_openLevel 24 = .ok (.aload_n 0, 1) := by decide +kernel
theorem dX12_openLevel_25 : decode cX12_openLevel 25 = .ok (.getfield 244, 3) := by decide +kernel
theorem dX12_openLevel_28 : decode cX12_openLevel 28 = .ok (.iload 5, 2) := by decide +kernel
theorem dX12_openLevel_30 : decode cX12_openLevel 30 = .ok (.aload_n 0, 1) := by decide +kernel
theorem dX12_openLevel_31 : decode cX12_openLevel 31 = .ok (.getfield 190, 3) := by decide +kernel
theorem dX12_openLevel_34 : decode cX12_openLevel 34 = .ok (.iload_n 1, 1) := by decide +kernel
theorem dX12_openLevel_35 : decode cX12_openLevel 35 = .ok (.iaload, 1) := by decide +kernel
theorem dX12_openLevel_36 : decode cX12_openLevel 36 = .ok (.iastore, 1) := by decide +kernel
theorem dX12_openLevel_37 : decode cX12_openLevel 37 = .ok (.aload_n 0, 1) := by decide +kernel
theorem dX12_openLevel_38 : decode cX12_openLevel 38 = .ok (.getfield 247, 3) := by decide +kernel
theorem dX12_openLevel_41 : decode cX12_openLevel 41 = .ok (.iload 5, 2) := by decide +kernel
theorem dX12_openLevel_43 : decode cX12_openLevel 43 = .ok (.iload_n 2, 1) := by decide +kernel
theorem dX12_openLevel_44 : decode cX12_openLevel 44 = .ok (.iastore, 1) := by decide +kernel
theorem dX12_openLevel_45 : decode cX12_openLevel 45 = .ok (.aload_n 0, 1) := by decide +kernel
theorem dX12_openLevel_46 : decode cX12_openLevel 46 = .ok (.getfield 250, 3) := by decide +kernel
theorem dX12_openLevel_49 : decode cX12_openLevel 49 = .ok (.iload 5, 2) := by decide +kernel
theorem dX12_openLevel_51 : decode cX12_openLevel 51 = .ok (.iload_n 3, 1) := by decide +kernel
theorem dX12_openLevel_52 : decode cX12_openLevel 52 = .ok (.iastore, 1) := by decide +kernel
theorem dX12_openLevel_53 : decode cX12_openLevel 53 = .ok (.aload_n 0, 1) := by decide +kernel
theorem dX12_openLevel_54 : decode cX12_openLevel 54 = .ok (.getfield 262, 3) := by decide +kernel
theorem dX12_openLevel_57 : decode cX12_openLevel 57 = .ok (.iload 5, 2) := by decide +kernel
theorem dX12_openLevel_59 : decode cX12_openLevel 59 = .ok (.iconst 0, 1) := by decide +kernel
theorem dX12_openLevel_60 : decode cX12_openLevel 60 = .ok (.bastore, 1) := by decide +kernel
theorem dX12_openLevel_61 : decode cX12_openLevel 61 = .ok (.aload_n 0, 1) := by decide +kernel
theorem dX12_openLevel_62 : decode cX12_openLevel 62 = .ok (.getfield 253, 3) := by decide +kernel
theorem dX12_openLevel_65 : decode cX12_openLevel 65 = .ok (.iload 5, 2) := by decide +kernel
theorem dX12_openLevel_67 : decode cX12_openLevel 67 = .ok (.aload_n 0, 1) := by decide +kernel
theorem dX12_openLevel_68 : decode cX12_openLevel 68 = .ok (.getfield 205, 3) := by decide +kernel
theorem dX12_openLevel_71 : decode cX12_openLevel 71 = .ok (.iload_n 1, 1) := by decide +kernel
theorem dX12_openLevel_72 : decode cX12_openLevel 72 = .ok (.iaload, 1) := by decide +kernel
theorem dX12_openLevel_73 : decode cX12_openLevel 73 = .ok (.iastore, 1) := by decide +kernel
theorem dX12_openLevel_74 : decode cX12_openLevel 74 = .ok (.aload_n 0, 1) := by decide +kernel
theorem dX12_openLevel_75 : decode cX12_openLevel 75 = .ok (.getfield 256, 3) := by decide +kernel
theorem dX12_openLevel_78 : decode cX12_openLevel 78 = .ok (.iload 5, 2) := by decide +kernel
theorem dX12_openLevel_80 : decode cX12_openLevel 80 = .ok (.aload_n 0, 1) := by decide +kernel
theorem dX12_openLevel_81 : decode cX12_openLevel 81 = .ok (.getfield 208, 3) := by decide +kernel
theorem dX12_openLevel_84 : decode cX12_openLevel 84 = .ok (.iload_n 1, 1) := by decide +kernel
theorem dX12_openLevel_85 : decode cX12_openLevel 85 = .ok (.iaload, 1) := by decide +kernel
theorem dX12_openLevel_86 : decode cX12_openLevel 86 = .ok (.iastore, 1) := by decide +kernel
theorem dX12_openLevel_87 : decode cX12_openLevel 87 = .ok (.aload_n 0, 1) := by decide +kernel
theorem dX12_openLevel_88 : decode cX12_openLevel 88 = .ok (.iload_n 1, 1) := by decide +kernel
theorem dX12_openLevel_89 : decode cX12_openLevel 89 = .ok (.iload 4, 2) := by decide +kernel
theorem dX12_openLevel_91 : decode cX12_openLevel 91 = .ok (.invokevirtual 363, 3) := by decide +kernel
theorem dX12_openLevel_94 : decode cX12_openLevel 94 = .ok (.aload_n 0, 1) := by decide +kernel
theorem dX12_openLevel_95 : decode cX12_openLevel 95 = .ok (.getfield 202, 3) := by decide +kernel
theorem dX12_openLevel_98 : decode cX12_openLevel 98 = .ok (.iload_n 1, 1) := by decide +kernel
theorem dX12_openLevel_99 : decode cX12_openLevel 99 = .ok (.dup2, 1) := by decide +kernel
theorem dX12_openLevel_100 : decode cX12_openLevel 100 = .ok (.iaload, 1) := by decide +kernel
theorem dX12_openLevel_101 : decode cX12_openLevel 101 = .ok (.iconst 1, 1) := by decide +kernel
theorem dX12_openLevel_102 : decode cX12_openLevel 102 = .ok (.iadd, 1) := by decide +kernel
theorem dX12_openLevel_103 : decode cX12_openLevel 103 = .ok (.iastore, 1) := by decide +kernel
theorem dX12_openLevel_104 : decode cX12_openLevel 104 = .ok (.return_, 1) := by decide +kernel
theorem dX12_order_0 : decode cX12_order 0 = .ok (.aload_n 0, 1) := by decide +kernel
theorem dX12_order_1 : decode cX12_order 1 = .ok (.iload_n 1, 1) := by decide +kernel
theorem dX12_order_2 : decode cX12_order 2 = .ok (.ifCond .lt 11, 3) := by decide +kernel
theorem dX12_order_5 : decode cX12_order 5 = .ok (.iload_n 1, 1) := by decide +kernel
theorem dX12_order_6 : decode cX12_order 6 = .ok (.aload_n 0, 1) := by decide +kernel
theorem dX12_order_7 : decode cX12_order 7 = .ok (.getfield 347, 3) := by decide +kernel
theorem dX12_order_10 : decode cX12_order 10 = .ok (.if_icmp .lt 7, 3) := by decide +kernel
theorem dX12_order_13 : decode cX12_order 13 = .ok (.iconst 1, 1) := by decide +kernel
theorem dX12_order_14 : decode cX12_order 14 = .ok (.goto 4, 3) := by decide +kernel
theorem dX12_order_17 : decode cX12_order 17 = .ok (.iconst 0, 1) := by decide +kernel
theorem dX12_order_18 : decode cX12_order 18 = .ok (.invokevirtual 497, 3) := by decide +kernel
theorem dX12_order_21 : decode cX12_order 21 = .ok (.ifCond .eq 5, 3) := by decide +kernel
theorem dX12_order_24 : decode cX12_order 24 = .ok (.iconst 0, 1) := by decide +kernel
theorem dX12_order_25 : decode cX12_order 25 = .ok (.ireturn, 1) := by decide +kernel
theorem dX12_order_26 : decode cX12_order 26 = .ok (.aload_n 0, 1) := by decide +kernel
theorem dX12_order_27 : decode cX12_order 27 = .ok (.getfield 317, 3) := by decide +kernel
theorem dX12_order_30 : decode cX12_order 30 = .ok (.iload_n 1, 1) := by decide +kernel
theorem dX12_order_31 : decode cX12_order 31 = .ok (.iaload, 1) := by decide +kernel
theorem dX12_order_32 : decode cX12_order 32 = .ok (.ireturn, 1) := by decide +kernel
theorem dX12_past_0 : decode cX12_past 0 = .ok (.aload_n 0, 1) := by decide +kernel
theorem dX12_past_1 : decode cX12_past 1 = .ok (.getfield 154, 3) := by decide +kernel
theorem dX12_past_4 : decode cX12_past 4 = .ok (.iload_n 1, 1) := by decide +kernel
theorem dX12_past_5 : decode cX12_past 5 = .ok (.iaload, 1) := by decide +kernel
theorem dX12_past_6 : decode cX12_past 6 = .ok (.istore_n 3, 1) := by decide +kernel
theorem dX12_past_7 : decode cX12_past 7 = .ok (.iload_n 3, 1) := by decide +kernel
theorem dX12_past_8 : decode cX12_past 8 = .ok (.ifCond .lt 23, 3) := by decide +kernel
theorem dX12_past_11 : decode cX12_past 11 = .ok (.aload_n 0, 1) := by decide +kernel
theorem dX12_past_12 : decode cX12_past 12 = .ok (.getfield 135, 3) := by decide +kernel
theorem dX12_past_15 : decode cX12_past 15 = .ok (.iload_n 3, 1) := by decide +kernel
theorem dX12_past_16 : decode cX12_past 16 = .ok (.iaload, 1) := by decide +kernel
theorem dX12_past_17 : decode cX12_past 17 = .ok (.iload_n 2, 1) := by decide +kernel
theorem dX12_past_18 : decode cX12_past 18 = .ok (.if_icmp .le 13, 3) := by decide +kernel
theorem dX12_past_21 : decode cX12_past 21 = .ok (.aload_n 0, 1) := by decide +kernel
theorem dX12_past_22 : decode cX12_past 22 = .ok (.getfield 145, 3) := by decide +kernel
theorem dX12_past_25 : decode cX12_past 25 = .ok (.iload_n 3, 1) := by decide +kernel
theorem dX12_past_26 : decode cX12_past 26 = .ok (.iaload, 1) := by decide +kernel
theorem dX12_past_27 : decode cX12_past 27 = .ok (.istore_n 3, 1) := by decide +kernel
theorem dX12_past_28 : decode cX12_past 28 = .ok (.goto (-21), 3) := by decide +kernel
theorem dX12_past_31 : decode cX12_past 31 = .ok (.iload_n 3, 1) := by decide +kernel
theorem dX12_past_32 : decode cX12_past 32 = .ok (.ifCond .ge 7, 3) := by decide +kernel
theorem dX12_past_35 : decode cX12_past 35 = .ok (.iconst 0, 1) := by decide +kernel
theorem dX12_past_36 : decode cX12_past 36 = .ok (.goto 9, 3) := by decide +kernel
theorem dX12_past_39 : decode cX12_past 39 = .ok (.aload_n 0, 1) := by decide +kernel
theorem dX12_past_40 : decode cX12_past 40 = .ok (.getfield 142, 3) := by decide +kernel
theorem dX12_past_43 : decode cX12_past 43 = .ok (.iload_n 3, 1) := by decide +kernel
theorem dX12_past_44 : decode cX12_past 44 = .ok (.iaload, 1) := by decide +kernel
theorem dX12_past_45 : decode cX12_past 45 = .ok (.ireturn, 1) := by decide +kernel
theorem dX12_place_0 : decode cX12_place 0 = .ok (.aload_n 0, 1) := by decide +kernel
theorem dX12_place_1 : decode cX12_place 1 = .ok (.iconst 0, 1) := by decide +kernel
theorem dX12_place_2 : decode cX12_place 2 = .ok (.putfield 1, 3) := by decide +kernel
theorem dX12_place_5 : decode cX12_place 5 = .ok (.aload_n 0, 1) := by decide +kernel
theorem dX12_place_6 : decode cX12_place 6 = .ok (.getfield 171, 3) := by decide +kernel
theorem dX12_place_9 : decode cX12_place 9 = .ok (.ireturn, 1) := by decide +kernel
theorem dX12_pop_0 : decode cX12_pop 0 = .ok (.aload_n 0, 1) := by decide +kernel
theorem dX12_pop_1 : decode cX12_pop 1 = .ok (.getfield 199, 3) := by decide +kernel
theorem dX12_pop_4 : decode cX12_pop 4 = .ok (.iload_n 1, 1) := by decide +kernel
theorem dX12_pop_5 : decode cX12_pop 5 = .ok (.dup2, 1) := by decide +kernel
theorem dX12_pop_6 : decode cX12_pop 6 = .ok (.iaload, 1) := by decide +kernel
theorem dX12_pop_7 : decode cX12_pop 7 = .ok (.iconst 1, 1) := by decide +kernel
theorem dX12_pop_8 : decode cX12_pop 8 = .ok (.isub, 1) := by decide +kernel
theorem dX12_pop_9 : decode cX12_pop 9 = .ok (.iastore, 1) := by decide +kernel
theorem dX12_pop_10 : decode cX12_pop 10 = .ok (.aload_n 0, 1) := by decide +kernel
theorem dX12_pop_11 : decode cX12_pop 11 = .ok (.getfield 196, 3) := by decide +kernel
theorem dX12_pop_14 : decode cX12_pop 14 = .ok (.iload_n 1, 1) := by decide +kernel
theorem dX12_pop_15 : decode cX12_pop 15 = .ok (.bipush 64, 2) := by decide +kernel
theorem dX12_pop_17 : decode cX12_pop 17 = .ok (.imul, 1) := by decide +kernel
theorem dX12_pop_18 : decode cX12_pop 18 = .ok (.aload_n 0, 1) := by decide +kernel
theorem dX12_pop_19 : decode cX12_pop 19 = .ok (.getfield 199, 3) := by decide +kernel
theorem dX12_pop_22 : decode cX12_pop 22 = .ok (.iload_n 1, 1) := by decide +kernel
theorem dX12_pop_23 : decode cX12_pop 23 = .ok (.iaload, 1) := by decide +kernel
theorem dX12_pop_24 : decode cX12_pop 24 = .ok (.iadd, 1) := by decide +kernel
theorem dX12_pop_25 : decode cX12_pop 25 = .ok (.iaload, 1) := by decide +kernel
theorem dX12_pop_26 : decode cX12_pop 26 = .ok (.ireturn, 1) := by decide +kernel
theorem dX12_product_0 : decode cX12_product 0 = .ok (.aload_n 0, 1) := by decide +kernel
theorem dX12_product_1 : decode cX12_product 1 = .ok (.invokevirtual 94, 3) := by decide +kernel
theorem dX12_product_4 : decode cX12_product 4 = .ok (.aload_n 0, 1) := by decide +kernel
theorem dX12_product_5 : decode cX12_product 5 = .ok (.bipush 42, 2) := by decide +kernel
theorem dX12_product_7 : decode cX12_product 7 = .ok (.invokevirtual 60, 3) := by decide +kernel
theorem dX12_product_10 : decode cX12_product 10 = .ok (.ifCond .eq 22, 3) := by decide +kernel
theorem dX12_product_13 : decode cX12_product 13 = .ok (.aload_n 0, 1) := by decide +kernel
theorem dX12_product_14 : decode cX12_product 14 = .ok (.invokevirtual 63, 3) := by decide +kernel
theorem dX12_product_17 : decode cX12_product 17 = .ok (.aload_n 0, 1) := by decide +kernel
theorem dX12_product_18 : decode cX12_product 18 = .ok (.invokevirtual 94, 3) := by decide +kernel
theorem dX12_product_21 : decode cX12_product 21 = .ok (.aload_n 0, 1) := by decide +kernel
theorem dX12_product_22 : decode cX12_product 22 = .ok (.iconst 5, 1) := by decide +kernel
theorem dX12_product_23 : decode cX12_product 23 = .ok (.iconst 0, 1) := by decide +kernel
theorem dX12_product_24 : decode cX12_product 24 = .ok (.iconst 0, 1) := by decide +kernel
theorem dX12_product_25 : decode cX12_product 25 = .ok (.invokevirtual 87, 3) := by decide +kernel
theorem dX12_product_28 : decode cX12_product 28 = .ok (.istore_n 1, 1) := by decide +kernel
theorem dX12_product_29 : decode cX12_product 29 = .ok (.goto (-25), 3) := by decide +kernel
theorem dX12_product_32 : decode cX12_product 32 = .ok (.return_, 1) := by decide +kernel
theorem dX12_program_0 : decode cX12_program 0 = .ok (.aload_n 0, 1) := by decide +kernel
theorem dX12_program_1 : decode cX12_program 1 = .ok (.aload_n 0, 1) := by decide +kernel
theorem dX12_program_2 : decode cX12_program 2 = .ok (.getfield 494, 3) := by decide +kernel
theorem dX12_program_5 : decode cX12_program 5 = .ok (.putfield 14, 3) := by decide +kernel
theorem dX12_program_8 : decode cX12_program 8 = .ok (.aload_n 0, 1) := by decide +kernel
theorem dX12_program_9 : decode cX12_program 9 = .ok (.iconst 0, 1) := by decide +kernel
theorem dX12_program_10 : decode cX12_program 10 = .ok (.putfield 494, 3) := by decide +kernel
theorem dX12_program_13 : decode cX12_program 13 = .ok (.iconst 0, 1) := by decide +kernel
theorem dX12_program_14 : decode cX12_program 14 = .ok (.istore_n 2, 1) := by decide +kernel
theorem dX12_program_15 : decode cX12_program 15 = .ok (.iload_n 2, 1) := by decide +kernel
theorem dX12_program_16 : decode cX12_program 16 = .ok (.aload_n 0, 1) := by decide +kernel
theorem dX12_program_17 : decode cX12_program 17 = .ok (.getfield 14, 3) := by decide +kernel
theorem dX12_program_20 : decode cX12_program 20 = .ok (.if_icmp .ge 21, 3) := by decide +kernel
theorem dX12_program_23 : decode cX12_program 23 = .ok (.aload_n 0, 1) := by decide +kernel
theorem dX12_program_24 : decode cX12_program 24 = .ok (.getfield 17, 3) := by decide +kernel
theorem dX12_program_27 : decode cX12_program 27 = .ok (.iload_n 2, 1) := by decide +kernel
theorem dX12_program_28 : decode cX12_program 28 = .ok (.aload_n 0, 1) := by decide +kernel
theorem dX12_program_29 : decode cX12_program 29 = .ok (.getfield 174, 3) := by decide +kernel
theorem dX12_program_32 : decode cX12_program 32 = .ok (.iload_n 2, 1) := by decide +kernel
theorem dX12_program_33 : decode cX12_program 33 = .ok (.baload, 1) := by decide +kernel
theorem dX12_program_34 : decode cX12_program 34 = .ok (.bastore, 1) := by decide +kernel
theorem dX12_program_35 : decode cX12_program 35 = .ok (.iinc 2 1, 3) := by decide +kernel
theorem dX12_program_38 : decode cX12_program 38 = .ok (.goto (-23), 3) := by decide +kernel
theorem dX12_program_41 : decode cX12_program 41 = .ok (.aload_n 0, 1) := by decide +kernel
theorem dX12_program_42 : decode cX12_program 42 = .ok (.iload_n 1, 1) := by decide +kernel
theorem dX12_program_43 : decode cX12_program 43 = .ok (.invokestatic 503, 3) := by decide +kernel
theorem dX12_program_46 : decode cX12_program 46 = .ok (.ifCond .ne 7, 3) := by decide +kernel
theorem dX12_program_49 : decode cX12_program 49 = .ok (.iconst 1, 1) := by decide +kernel
theorem dX12_program_50 : decode cX12_program 50 = .ok (.goto 18, 3) := by decide +kernel
theorem dX12_program_53 : decode cX12_program 53 = .ok (.aload_n 0, 1) := by decide +kernel
theorem dX12_program_54 : decode cX12_program 54 = .ok (.getfield 187, 3) := by decide +kernel
theorem dX12_program_57 : decode cX12_program 57 = .ok (.iload_n 1, 1) := by decide +kernel
theorem dX12_program_58 : decode cX12_program 58 = .ok (.iaload, 1) := by decide +kernel
theorem dX12_program_59 : decode cX12_program 59 = .ok (.iconst 2, 1) := by decide +kernel
theorem dX12_program_60 : decode cX12_program 60 = .ok (.if_icmp .ne 7, 3) := by decide +kernel
theorem dX12_program_63 : decode cX12_program 63 = .ok (.iconst 2, 1) := by decide +kernel
theorem dX12_program_64 : decode cX12_program 64 = .ok (.goto 4, 3) := by decide +kernel
theorem dX12_program_67 : decode cX12_program 67 = .ok (.iconst 0, 1) := by decide +kernel
theorem dX12_program_68 : decode cX12_program 68 = .ok (.invokevirtual 497, 3) := by decide +kernel
theorem dX12_program_71 : decode cX12_program 71 = .ok (.ifCond .eq 5, 3) := by decide +kernel
theorem dX12_program_74 : decode cX12_program 74 = .ok (.iconst 0, 1) := by decide +kernel
theorem dX12_program_75 : decode cX12_program 75 = .ok (.ireturn, 1) := by decide +kernel
theorem dX12_program_76 : decode cX12_program 76 = .ok (.aload_n 0, 1) := by decide +kernel
theorem dX12_program_77 : decode cX12_program 77 = .ok (.iconst (-1), 1) := by decide +kernel
theorem dX12_program_78 : decode cX12_program 78 = .ok (.putfield 171, 3) := by decide +kernel
theorem dX12_program_81 : decode cX12_program 81 = .ok (.aload_n 0, 1) := by decide +kernel
theorem dX12_program_82 : decode cX12_program 82 = .ok (.invokevirtual 506, 3) := by decide +kernel
theorem dX12_program_85 : decode cX12_program 85 = .ok (.goto 37, 3) := by decide +kernel
theorem dX12_program_88 : decode cX12_program 88 = .ok (.astore_n 2, 1) := by decide +kernel
theorem dX12_program_89 : decode cX12_program 89 = .ok (.aload_n 0, 1) := by decide +kernel
theorem dX12_program_90 : decode cX12_program 90 = .ok (.aload_n 0, 1) := by decide +kernel
theorem dX12_program_91 : decode cX12_program 91 = .ok (.getfield 7, 3) := by decide +kernel
theorem dX12_program_94 : decode cX12_program 94 = .ok (.aload_n 0, 1) := by decide +kernel
theorem dX12_program_95 : decode cX12_program 95 = .ok (.getfield 14, 3) := by decide +kernel
theorem dX12_program_98 : decode cX12_program 98 = .ok (.if_icmp .ge 10, 3) := by decide +kernel
theorem dX12_program_101 : decode cX12_program 101 = .ok (.aload_n 0, 1) := by decide +kernel
theorem dX12_program_102 : decode cX12_program 102 = .ok (.getfield 7, 3) := by decide +kernel
theorem dX12_program_105 : decode cX12_program 105 = .ok (.goto 7, 3) := by decide +kernel
theorem dX12_program_108 : decode cX12_program 108 = .ok (.aload_n 0, 1) := by decide +kernel
theorem dX12_program_109 : decode cX12_program 109 = .ok (.getfield 14, 3) := by decide +kernel
theorem dX12_program_112 : decode cX12_program 112 = .ok (.putfield 171, 3) := by decide +kernel
theorem dX12_program_115 : decode cX12_program 115 = .ok (.aload_n 0, 1) := by decide +kernel
theorem dX12_program_116 : decode cX12_program 116 = .ok (.iconst 3, 1) := by decide +kernel
theorem dX12_program_117 : decode cX12_program 117 = .ok (.putfield 1, 3) := by decide +kernel
theorem dX12_program_120 : decode cX12_program 120 = .ok (.iconst 0, 1) := by decide +kernel
theorem dX12_program_121 : decode cX12_program 121 = .ok (.ireturn, 1) := by decide +kernel
theorem dX12_program_122 : decode cX12_program 122 = .ok (.iconst 0, 1) := by decide +kernel
theorem dX12_program_123 : decode cX12_program 123 = .ok (.istore_n 2, 1) := by decide +kernel
theorem dX12_program_124 : decode cX12_program 124 = .ok (.iload_n 2, 1) := by decide +kernel
theorem dX12_program_125 : decode cX12_program 125 = .ok (.iconst 3, 1) := by decide +kernel
theorem dX12_program_126 : decode cX12_program 126 = .ok (.aload_n 0, 1) := by decide +kernel
theorem dX12_program_127 : decode cX12_program 127 = .ok (.getfield 78, 3) := by decide +kernel
theorem dX12_program_130 : decode cX12_program 130 = .ok (.imul, 1) := by decide +kernel
theorem dX12_program_131 : decode cX12_program 131 = .ok (.if_icmp .ge 29, 3) := by decide +kernel
theorem dX12_program_134 : decode cX12_program 134 = .ok (.aload_n 0, 1) := by decide +kernel
theorem dX12_program_135 : decode cX12_program 135 = .ok (.getfield 184, 3) := by decide +kernel
theorem dX12_program_138 : decode cX12_program 138 = .ok (.iload_n 1, 1) := by decide +kernel
theorem dX12_program_139 : decode cX12_program 139 = .ok (.iconst 3, 1) := by decide +kernel
theorem dX12_program_140 : decode cX12_program 140 = .ok (.imul, 1) := by decide +kernel
theorem dX12_program_141 : decode cX12_program 141 = .ok (.sipush 6000, 3) := by decide +kernel
theorem dX12_program_144 : decode cX12_program 144 = .ok (.imul, 1) := by decide +kernel
theorem dX12_program_145 : decode cX12_program 145 = .ok (.iload_n 2, 1) := by decide +kernel
theorem dX12_program_146 : decode cX12_program 146 = .ok (.iadd, 1) := by decide +kernel
theorem dX12_program_147 : decode cX12_program 147 = .ok (.aload_n 0, 1) := by decide +kernel
theorem dX12_program_148 : decode cX12_program 148 = .ok (.getfield 74, 3) := by decide +kernel
theorem dX12_program_151 : decode cX12_program 151 = .ok (.iload_n 2, 1) := by decide +kernel
theorem dX12_program_152 : decode cX12_program 152 = .ok (.iaload, 1) := by decide +kernel
theorem dX12_program_153 : decode cX12_program 153 = .ok (.iastore, 1) := by decide +kernel
theorem dX12_program_154 : decode cX12_program 154 = .ok (.iinc 2 1, 3) := by decide +kernel
theorem dX12_program_157 : decode cX12_program 157 = .ok (.goto (-33), 3) := by decide +kernel
theorem dX12_program_160 : decode cX12_program 160 = .ok (.aload_n 0, 1) := by decide +kernel
theorem dX12_program_161 : decode cX12_program 161 = .ok (.getfield 187, 3) := by decide +kernel
theorem dX12_program_164 : decode cX12_program 164 = .ok (.iload_n 1, 1) := by decide +kernel
theorem dX12_program_165 : decode cX12_program 165 = .ok (.iconst 1, 1) := by decide +kernel
theorem dX12_program_166 : decode cX12_program 166 = .ok (.iastore, 1) := by decide +kernel
theorem dX12_program_167 : decode cX12_program 167 = .ok (.aload_n 0, 1) := by decide +kernel
theorem dX12_program_168 : decode cX12_program 168 = .ok (.iload_n 1, 1) := by decide +kernel
theorem dX12_program_169 : decode cX12_program 169 = .ok (.invokevirtual 350, 3) := by decide +kernel
theorem dX12_program_172 : decode cX12_program 172 = .ok (.aload_n 0, 1) := by decide +kernel
theorem dX12_program_173 : decode cX12_program 173 = .ok (.getfield 113, 3) := by decide +kernel
theorem dX12_program_176 : decode cX12_program 176 = .ok (.ireturn, 1) := by decide +kernel
theorem dX12_push_0 : decode cX12_push 0 = .ok (.aload_n 0, 1) := by decide +kernel
theorem dX12_push_1 : decode cX12_push 1 = .ok (.getfield 196, 3) := by decide +kernel
theorem dX12_push_4 : decode cX12_push 4 = .ok (.iload_n 1, 1) := by decide +kernel
theorem dX12_push_5 : decode cX12_push 5 = .ok (.bipush 64, 2) := by decide +kernel
theorem dX12_push_7 : decode cX12_push 7 = .ok (.imul, 1) := by decide +kernel
theorem dX12_push_8 : decode cX12_push 8 = .ok (.aload_n 0, 1) := by decide +kernel
theorem dX12_push_9 : decode cX12_push 9 = .ok (.getfield 199, 3) := by decide +kernel
theorem dX12_push_12 : decode cX12_push 12 = .ok (.iload_n 1, 1) := by decide +kernel
theorem dX12_push_13 : decode cX12_push 13 = .ok (.iaload, 1) := by decide +kernel
theorem dX12_push_14 : decode cX12_push 14 = .ok (.iadd, 1) := by decide +kernel
theorem dX12_push_15 : decode cX12_push 15 = .ok (.iload_n 2, 1) := by decide +kernel
theorem dX12_push_16 : decode cX12_push 16 = .ok (.iastore, 1) := by decide +kernel
theorem dX12_push_17 : decode cX12_push 17 = .ok (.aload_n 0, 1) := by decide +kernel
theorem dX12_push_18 : decode cX12_push 18 = .ok (.getfield 199, 3) := by decide +kernel
theorem dX12_push_21 : decode cX12_push 21 = .ok (.iload_n 1, 1) := by decide +kernel
theorem dX12_push_22 : decode cX12_push 22 = .ok (.dup2, 1) := by decide +kernel
theorem dX12_push_23 : decode cX12_push 23 = .ok (.iaload, 1) := by decide +kernel
theorem dX12_push_24 : decode cX12_push 24 = .ok (.iconst 1, 1) := by decide +kernel
theorem dX12_push_25 : decode cX12_push 25 = .ok (.iadd, 1) := by decide +kernel
theorem dX12_push_26 : decode cX12_push 26 = .ok (.iastore, 1) := by decide +kernel
theorem dX12_push_27 : decode cX12_push 27 = .ok (.return_, 1) := by decide +kernel
theorem dX12_put_0 : decode cX12_put 0 = .ok (.aload_n 0, 1) := by decide +kernel
theorem dX12_put_1 : decode cX12_put 1 = .ok (.iload_n 1, 1) := by decide +kernel
theorem dX12_put_2 : decode cX12_put 2 = .ok (.invokestatic 509, 3) := by decide +kernel
theorem dX12_put_5 : decode cX12_put 5 = .ok (.ifCond .ne 7, 3) := by decide +kernel
theorem dX12_put_8 : decode cX12_put 8 = .ok (.iconst 1, 1) := by decide +kernel
theorem dX12_put_9 : decode cX12_put 9 = .ok (.goto 17, 3) := by decide +kernel
theorem dX12_put_12 : decode cX12_put 12 = .ok (.aload_n 0, 1) := by decide +kernel
theorem dX12_put_13 : decode cX12_put 13 = .ok (.getfield 177, 3) := by decide +kernel
theorem dX12_put_16 : decode cX12_put 16 = .ok (.iload_n 1, 1) := by decide +kernel
theorem dX12_put_17 : decode cX12_put 17 = .ok (.iaload, 1) := by decide +kernel
theorem dX12_put_18 : decode cX12_put 18 = .ok (.ifCond .lt 7, 3) := by decide +kernel
theorem dX12_put_21 : decode cX12_put 21 = .ok (.iconst 2, 1) := by decide +kernel
theorem dX12_put_22 : decode cX12_put 22 = .ok (.goto 4, 3) := by decide +kernel
theorem dX12_put_25 : decode cX12_put 25 = .ok (.iconst 0, 1) := by decide +kernel
theorem dX12_put_26 : decode cX12_put 26 = .ok (.invokevirtual 497, 3) := by decide +kernel
theorem dX12_put_29 : decode cX12_put 29 = .ok (.ifCond .eq 5, 3) := by decide +kernel
theorem dX12_put_32 : decode cX12_put 32 = .ok (.iconst 0, 1) := by decide +kernel
theorem dX12_put_33 : decode cX12_put 33 = .ok (.ireturn, 1) := by decide +kernel
theorem dX12_put_34 : decode cX12_put 34 = .ok (.aload_n 0, 1) := by decide +kernel
theorem dX12_put_35 : decode cX12_put 35 = .ok (.iload_n 1, 1) := by decide +kernel
theorem dX12_put_36 : decode cX12_put 36 = .ok (.iload_n 2, 1) := by decide +kernel
theorem dX12_put_37 : decode cX12_put 37 = .ok (.invokevirtual 485, 3) := by decide +kernel
theorem dX12_put_40 : decode cX12_put 40 = .ok (.aload_n 0, 1) := by decide +kernel
theorem dX12_put_41 : decode cX12_put 41 = .ok (.getfield 180, 3) := by decide +kernel
theorem dX12_put_44 : decode cX12_put 44 = .ok (.iload_n 1, 1) := by decide +kernel
theorem dX12_put_45 : decode cX12_put 45 = .ok (.iload_n 2, 1) := by decide +kernel
theorem dX12_put_46 : decode cX12_put 46 = .ok (.iastore, 1) := by decide +kernel
theorem dX12_put_47 : decode cX12_put 47 = .ok (.aload_n 0, 1) := by decide +kernel
theorem dX12_put_48 : decode cX12_put 48 = .ok (.getfield 148, 3) := by decide +kernel
theorem dX12_put_51 : decode cX12_put 51 = .ok (.ireturn, 1) := by decide +kernel
theorem dX12_quit_0 : decode cX12_quit 0 = .ok (.aload_n 0, 1) := by decide +kernel
theorem dX12_quit_1 : decode cX12_quit 1 = .ok (.getfield 202, 3) := by decide +kernel
theorem dX12_quit_4 : decode cX12_quit 4 = .ok (.iload_n 1, 1) := by decide +kernel
theorem dX12_quit_5 : decode cX12_quit 5 = .ok (.iaload, 1) := by decide +kernel
theorem dX12_quit_6 : decode cX12_quit 6 = .ok (.iconst 1, 1) := by decide +kernel
theorem dX12_quit_7 : decode cX12_quit 7 = .ok (.isub, 1) := by decide +kernel
theorem dX12_quit_8 : decode cX12_quit 8 = .ok (.istore_n 2, 1) := by decide +kernel
theorem dX12_quit_9 : decode cX12_quit 9 = .ok (.aload_n 0, 1) := by decide +kernel
theorem dX12_quit_10 : decode cX12_quit 10 = .ok (.iload_n 1, 1) := by decide +kernel
theorem dX12_quit_11 : decode cX12_quit 11 = .ok (.iload_n 2, 1) := by decide +kernel
theorem dX12_quit_12 : decode cX12_quit 12 = .ok (.invokevirtual 360, 3) := by decide +kernel
theorem dX12_quit_15 : decode cX12_quit 15 = .ok (.istore_n 3, 1) := by decide +kernel
theorem dX12_quit_16 : decode cX12_quit 16 = .ok (.aload_n 0, 1) := by decide +kernel
theorem dX12_quit_17 : decode cX12_quit 17 = .ok (.iload_n 1, 1) := by decide +kernel
theorem dX12_quit_18 : decode cX12_quit 18 = .ok (.iload_n 2, 1) := by decide +kernel
theorem dX12_quit_19 : decode cX12_quit 19 = .ok (.iconst 1, 1) := by decide +kernel
theorem dX12_quit_20 : decode cX12_quit 20 = .ok (.invokevirtual 382, 3) := by decide +kernel
theorem dX12_quit_23 : decode cX12_quit 23 = .ok (.aload_n 0, 1) := by decide +kernel
theorem dX12_quit_24 : decode cX12_quit 24 = .ok (.getfield 190, 3) := by decide +kernel
theorem dX12_quit_27 : decode cX12_quit 27 = .ok (.iload_n 1, 1) := by decide +kernel
theorem dX12_quit_28 : decode cX12_quit 28 = .ok (.aload_n 0, 1) := by decide +kernel
theorem dX12_quit_29 : decode cX12_quit 29 = .ok (.getfield 250, 3) := by decide +kernel
theorem dX12_quit_32 : decode cX12_quit 32 = .ok (.iload_n 3, 1) := by decide +kernel
theorem dX12_quit_33 : decode cX12_quit 33 = .ok (.iaload, 1) := by decide +kernel
theorem dX12_quit_34 : decode cX12_quit 34 = .ok (.iastore, 1) := by decide +kernel
theorem dX12_quit_35 : decode cX12_quit 35 = .ok (.aload_n 0, 1) := by decide +kernel
theorem dX12_quit_36 : decode cX12_quit 36 = .ok (.getfield 205, 3) := by decide +kernel
theorem dX12_quit_39 : decode cX12_quit 39 = .ok (.iload_n 1, 1) := by decide +kernel
theorem dX12_quit_40 : decode cX12_quit 40 = .ok (.aload_n 0, 1) := by decide +kernel
theorem dX12_quit_41 : decode cX12_quit 41 = .ok (.getfield 253, 3) := by decide +kernel
theorem dX12_quit_44 : decode cX12_quit 44 = .ok (.iload_n 3, 1) := by decide +kernel
theorem dX12_quit_45 : decode cX12_quit 45 = .ok (.iaload, 1) := by decide +kernel
theorem dX12_quit_46 : decode cX12_quit 46 = .ok (.iconst 1, 1) := by decide +kernel
theorem dX12_quit_47 : decode cX12_quit 47 = .ok (.isub, 1) := by decide +kernel
theorem dX12_quit_48 : decode cX12_quit 48 = .ok (.iastore, 1) := by decide +kernel
theorem dX12_quit_49 : decode cX12_quit 49 = .ok (.aload_n 0, 1) := by decide +kernel
theorem dX12_quit_50 : decode cX12_quit 50 = .ok (.getfield 208, 3) := by decide +kernel
theorem dX12_quit_53 : decode cX12_quit 53 = .ok (.iload_n 1, 1) := by decide +kernel
theorem dX12_quit_54 : decode cX12_quit 54 = .ok (.aload_n 0, 1) := by decide +kernel
theorem dX12_quit_55 : decode cX12_quit 55 = .ok (.getfield 256, 3) := by decide +kernel
theorem dX12_quit_58 : decode cX12_quit 58 = .ok (.iload_n 3, 1) := by decide +kernel
theorem dX12_quit_59 : decode cX12_quit 59 = .ok (.iaload, 1) := by decide +kernel
theorem dX12_quit_60 : decode cX12_quit 60 = .ok (.iastore, 1) := by decide +kernel
theorem dX12_quit_61 : decode cX12_quit 61 = .ok (.aload_n 0, 1) := by decide +kernel
theorem dX12_quit_62 : decode cX12_quit 62 = .ok (.getfield 202, 3) := by decide +kernel
theorem dX12_quit_65 : decode cX12_quit 65 = .ok (.iload_n 1, 1) := by decide +kernel
theorem dX12_quit_66 : decode cX12_quit 66 = .ok (.iload_n 2, 1) := by decide +kernel
theorem dX12_quit_67 : decode cX12_quit 67 = .ok (.iastore, 1) := by decide +kernel
theorem dX12_quit_68 : decode cX12_quit 68 = .ok (.iload_n 2, 1) := by decide +kernel
theorem dX12_quit_69 : decode cX12_quit 69 = .ok (.ifCond .ne 8, 3) := by decide +kernel
theorem dX12_quit_72 : decode cX12_quit 72 = .ok (.aload_n 0, 1) := by decide +kernel
theorem dX12_quit_73 : decode cX12_quit 73 = .ok (.iload_n 1, 1) := by decide +kernel
theorem dX12_quit_74 : decode cX12_quit 74 = .ok (.invokevirtual 446, 3) := by decide +kernel
theorem dX12_quit_77 : decode cX12_quit 77 = .ok (.iconst 0, 1) := by decide +kernel
theorem dX12_quit_78 : decode cX12_quit 78 = .ok (.ireturn, 1) := by decide +kernel
theorem dX12_readProgram_0 : decode cX12_readProgram 0 = .ok (.aload_n 0, 1) := by decide +kernel
theorem dX12_readProgram_1 : decode cX12_readProgram 1 = .ok (.iconst 0, 1) := by decide +kernel
theorem dX12_readProgram_2 : decode cX12_readProgram 2 = .ok (.putfield 32, 3) := by decide +kernel
theorem dX12_readProgram_5 : decode cX12_readProgram 5 = .ok (.aload_n 0, 1) := by decide +kernel
theorem dX12_readProgram_6 : decode cX12_readProgram 6 = .ok (.iconst 0, 1) := by decide +kernel
theorem dX12_readProgram_7 : decode cX12_readProgram 7 = .ok (.putfield 78, 3) := by decide +kernel
theorem dX12_readProgram_10 : decode cX12_readProgram 10 = .ok (.aload_n 0, 1) := by decide +kernel
theorem dX12_readProgram_11 : decode cX12_readProgram 11 = .ok (.iconst 0, 1) := by decide +kernel
theorem dX12_readProgram_12 : decode cX12_readProgram 12 = .ok (.putfield 81, 3) := by decide +kernel
theorem dX12_readProgram_15 : decode cX12_readProgram 15 = .ok (.aload_n 0, 1) := by decide +kernel
theorem dX12_readProgram_16 : decode cX12_readProgram 16 = .ok (.iconst 0, 1) := by decide +kernel
theorem dX12_readProgram_17 : decode cX12_readProgram 17 = .ok (.putfield 113, 3) := by decide +kernel
theorem dX12_readProgram_20 : decode cX12_readProgram 20 = .ok (.aload_n 0, 1) := by decide +kernel
theorem dX12_readProgram_21 : decode cX12_readProgram 21 = .ok (.iconst 0, 1) := by decide +kernel
theorem dX12_readProgram_22 : decode cX12_readProgram 22 = .ok (.putfield 110, 3) := by decide +kernel
theorem dX12_readProgram_25 : decode cX12_readProgram 25 = .ok (.aload_n 0, 1) := by decide +kernel
theorem dX12_readProgram_26 : decode cX12_readProgram 26 = .ok (.invokevirtual 63, 3) := by decide +kernel
theorem dX12_readProgram_29 : decode cX12_readProgram 29 = .ok (.aload_n 0, 1) := by decide +kernel
theorem dX12_readProgram_30 : decode cX12_readProgram 30 = .ok (.getfield 42, 3) := by decide +kernel
theorem dX12_readProgram_33 : decode cX12_readProgram 33 = .ok (.ifCond .eq 10, 3) := by decide +kernel
theorem dX12_readProgram_36 : decode cX12_readProgram 36 = .ok (.aload_n 0, 1) := by decide +kernel
theorem dX12_readProgram_37 : decode cX12_readProgram 37 = .ok (.invokevirtual 107, 3) := by decide +kernel
theorem dX12_readProgram_40 : decode cX12_readProgram 40 = .ok (.goto (-11), 3) := by decide +kernel
theorem dX12_readProgram_43 : decode cX12_readProgram 43 = .ok (.aload_n 0, 1) := by decide +kernel
theorem dX12_readProgram_44 : decode cX12_readProgram 44 = .ok (.bipush 22, 2) := by decide +kernel
theorem dX12_readProgram_46 : decode cX12_readProgram 46 = .ok (.iconst 0, 1) := by decide +kernel
theorem dX12_readProgram_47 : decode cX12_readProgram 47 = .ok (.iconst 0, 1) := by decide +kernel
theorem dX12_readProgram_48 : decode cX12_readProgram 48 = .ok (.invokevirtual 87, 3) := by decide +kernel
theorem dX12_readProgram_51 : decode cX12_readProgram 51 = .ok (.istore_n 1, 1) := by decide +kernel
theorem dX12_readProgram_52 : decode cX12_readProgram 52 = .ok (.return_, 1) := by decide +kernel
theorem dX12_readsOf_0 : decode cX12_readsOf 0 = .ok (.iconst 0, 1) := by decide +kernel
theorem dX12_readsOf_1 : decode cX12_readsOf 1 = .ok (.istore_n 2, 1) := by decide +kernel
theorem dX12_readsOf_2 : decode cX12_readsOf 2 = .ok (.aload_n 0, 1) := by decide +kernel
theorem dX12_readsOf_3 : decode cX12_readsOf 3 = .ok (.getfield 187, 3) := by decide +kernel
theorem dX12_readsOf_6 : decode cX12_readsOf 6 = .ok (.iload_n 1, 1) := by decide +kernel
theorem dX12_readsOf_7 : decode cX12_readsOf 7 = .ok (.iaload, 1) := by decide +kernel
theorem dX12_readsOf_8 : decode cX12_readsOf 8 = .ok (.iconst 3, 1) := by decide +kernel
theorem dX12_readsOf_9 : decode cX12_readsOf 9 = .ok (.if_icmp .ne 7, 3) := by decide +kernel
theorem dX12_readsOf_12 : decode cX12_readsOf 12 = .ok (.iconst 1, 1) := by decide +kernel
theorem dX12_readsOf_13 : decode cX12_readsOf 13 = .ok (.goto 9, 3) := by decide +kernel
theorem dX12_readsOf_16 : decode cX12_readsOf 16 = .ok (.aload_n 0, 1) := by decide +kernel
theorem dX12_readsOf_17 : decode cX12_readsOf 17 = .ok (.getfield 202, 3) := by decide +kernel
theorem dX12_readsOf_20 : decode cX12_readsOf 20 = .ok (.iload_n 1, 1) := by decide +kernel
theorem dX12_readsOf_21 : decode cX12_readsOf 21 = .ok (.iaload, 1) := by decide +kernel
theorem dX12_readsOf_22 : decode cX12_readsOf 22 = .ok (.istore_n 3, 1) := by decide +kernel
theorem dX12_readsOf_23 : decode cX12_readsOf 23 = .ok (.iconst 0, 1) := by decide +kernel
theorem dX12_readsOf_24 : decode cX12_readsOf 24 = .ok (.istore 4, 2) := by decide +kernel
theorem dX12_readsOf_26 : decode cX12_readsOf 26 = .ok (.iload 4, 2) := by decide +kernel
theorem dX12_readsOf_28 : decode cX12_readsOf 28 = .ok (.iload_n 3, 1) := by decide +kernel
theorem dX12_readsOf_29 : decode cX12_readsOf 29 = .ok (.if_icmp .ge 45, 3) := by decide +kernel
theorem dX12_readsOf_32 : decode cX12_readsOf 32 = .ok (.iconst 0, 1) := by decide +kernel
theorem dX12_readsOf_33 : decode cX12_readsOf 33 = .ok (.istore 5, 2) := by decide +kernel
theorem dX12_readsOf_35 : decode cX12_readsOf 35 = .ok (.iload 5, 2) := by decide +kernel
theorem dX12_readsOf_37 : decode cX12_readsOf 37 = .ok (.bipush 26, 2) := by decide +kernel
theorem dX12_readsOf_39 : decode cX12_readsOf 39 = .ok (.if_icmp .ge 29, 3) := by decide +kernel
theorem dX12_readsOf_42 : decode cX12_readsOf 42 = .ok (.aload_n 0, 1) := by decide +kernel
theorem dX12_readsOf_43 : decode cX12_readsOf 43 = .ok (.getfield 266, 3) := by decide +kernel
theorem dX12_readsOf_46 : decode cX12_readsOf 46 = .ok (.aload_n 0, 1) := by decide +kernel
theorem dX12_readsOf_47 : decode cX12_readsOf 47 = .ok (.iload_n 1, 1) := by decide +kernel
theorem dX12_readsOf_48 : decode cX12_readsOf 48 = .ok (.iload 4, 2) := by decide +kernel
theorem dX12_readsOf_50 : decode cX12_readsOf 50 = .ok (.iload 5, 2) := by decide +kernel
theorem dX12_readsOf_52 : decode cX12_readsOf 52 = .ok (.invokevirtual 357, 3) := by decide +kernel
theorem dX12_readsOf_55 : decode cX12_readsOf 55 = .ok (.baload, 1) := by decide +kernel
theorem dX12_readsOf_56 : decode cX12_readsOf 56 = .ok (.ifCond .eq 6, 3) := by decide +kernel
theorem dX12_readsOf_59 : decode cX12_readsOf 59 = .ok (.iinc 2 1, 3) := by decide +kernel
theorem dX12_readsOf_62 : decode cX12_readsOf 62 = .ok (.iinc 5 1, 3) := by decide +kernel
theorem dX12_readsOf_65 : decode cX12_readsOf 65 = .ok (.goto (-30), 3) := by decide +kernel
theorem dX12_readsOf_68 : decode cX12_readsOf 68 = .ok (.iinc 4 1, 3) := by decide +kernel
theorem dX12_readsOf_71 : decode cX12_readsOf 71 = .ok (.goto (-45), 3) := by decide +kernel
theorem dX12_readsOf_74 : decode cX12_readsOf 74 = .ok (.iload_n 2, 1) := by decide +kernel
theorem dX12_readsOf_75 : decode cX12_readsOf 75 = .ok (.ireturn, 1) := by decide +kernel
theorem dX12_record_0 : decode cX12_record 0 = .ok (.aload_n 0, 1) := by decide +kernel
theorem dX12_record_1 : decode cX12_record 1 = .ok (.iload_n 2, 1) := by decide +kernel
theorem dX12_record_2 : decode cX12_record 2 = .ok (.ifCond .lt 8, 3) := by decide +kernel
theorem dX12_record_5 : decode cX12_record 5 = .ok (.iload_n 2, 1) := by decide +kernel
theorem dX12_record_6 : decode cX12_record 6 = .ok (.iconst 4, 1) := by decide +kernel
theorem dX12_record_7 : decode cX12_record 7 = .ok (.if_icmp .le 7, 3) := by decide +kernel
theorem dX12_record_10 : decode cX12_record 10 = .ok (.iconst 1, 1) := by decide +kernel
theorem dX12_record_11 : decode cX12_record 11 = .ok (.goto 20, 3) := by decide +kernel
theorem dX12_record_14 : decode cX12_record 14 = .ok (.iload_n 1, 1) := by decide +kernel
theorem dX12_record_15 : decode cX12_record 15 = .ok (.ifCond .lt 11, 3) := by decide +kernel
theorem dX12_record_18 : decode cX12_record 18 = .ok (.iload_n 1, 1) := by decide +kernel
theorem dX12_record_19 : decode cX12_record 19 = .ok (.aload_n 0, 1) := by decide +kernel
theorem dX12_record_20 : decode cX12_record 20 = .ok (.getfield 338, 3) := by decide +kernel
theorem dX12_record_23 : decode cX12_record 23 = .ok (.if_icmp .lt 7, 3) := by decide +kernel
theorem dX12_record_26 : decode cX12_record 26 = .ok (.iconst 2, 1) := by decide +kernel
theorem dX12_record_27 : decode cX12_record 27 = .ok (.goto 4, 3) := by decide +kernel
theorem dX12_record_30 : decode cX12_record 30 = .ok (.iconst 0, 1) := by decide +kernel
theorem dX12_record_31 : decode cX12_record 31 = .ok (.invokevirtual 497, 3) := by decide +kernel
theorem dX12_record_34 : decode cX12_record 34 = .ok (.ifCond .eq 5, 3) := by decide +kernel
theorem dX12_record_37 : decode cX12_record 37 = .ok (.iconst 0, 1) := by decide +kernel
theorem dX12_record_38 : decode cX12_record 38 = .ok (.ireturn, 1) := by decide +kernel
theorem dX12_record_39 : decode cX12_record 39 = .ok (.iconst 0, 1) := by decide +kernel
theorem dX12_record_40 : decode cX12_record 40 = .ok (.istore_n 3, 1) := by decide +kernel
theorem dX12_record_41 : decode cX12_record 41 = .ok (.iload_n 1, 1) := by decide +kernel
theorem dX12_record_42 : decode cX12_record 42 = .ok (.bipush 26, 2) := by decide +kernel
theorem dX12_record_44 : decode cX12_record 44 = .ok (.imul, 1) := by decide +kernel
theorem dX12_record_45 : decode cX12_record 45 = .ok (.istore 4, 2) := by decide +kernel
theorem dX12_record_47 : decode cX12_record 47 = .ok (.iload 4, 2) := by decide +kernel
theorem dX12_record_49 : decode cX12_record 49 = .ok (.iload_n 1, 1) := by decide +kernel
theorem dX12_record_50 : decode cX12_record 50 = .ok (.bipush 26, 2) := by decide +kernel
theorem dX12_record_52 : decode cX12_record 52 = .ok (.imul, 1) := by decide +kernel
theorem dX12_record_53 : decode cX12_record 53 = .ok (.bipush 26, 2) := by decide +kernel
theorem dX12_record_55 : decode cX12_record 55 = .ok (.iadd, 1) := by decide +kernel
theorem dX12_record_56 : decode cX12_record 56 = .ok (.if_icmp .ge 40, 3) := by decide +kernel
theorem dX12_record_59 : decode cX12_record 59 = .ok (.iload_n 2, 1) := by decide +kernel
theorem dX12_record_60 : decode cX12_record 60 = .ok (.iconst 1, 1) := by decide +kernel
theorem dX12_record_61 : decode cX12_record 61 = .ok (.if_icmp .ne 16, 3) := by decide +kernel
theorem dX12_record_64 : decode cX12_record 64 = .ok (.aload_n 0, 1) := by decide +kernel
theorem dX12_record_65 : decode cX12_record 65 = .ok (.getfield 311, 3) := by decide +kernel
theorem dX12_record_68 : decode cX12_record 68 = .ok (.iload 4, 2) := by decide +kernel
theorem dX12_record_70 : decode cX12_record 70 = .ok (.baload, 1) := by decide +kernel
theorem dX12_record_71 : decode cX12_record 71 = .ok (.ifCond .eq 19, 3) := by decide +kernel
theorem dX12_record_74 : decode cX12_record 74 = .ok (.goto 13, 3) := by decide +kernel
theorem dX12_record_77 : decode cX12_record 77 = .ok (.aload_n 0, 1) := by decide +kernel
theorem dX12_record_78 : decode cX12_record 78 = .ok (.getfield 314, 3) := by decide +kernel
theorem dX12_record_81 : decode cX12_record 81 = .ok (.iload 4, 2) := by decide +kernel
theorem dX12_record_83 : decode cX12_record 83 = .ok (.baload, 1) := by decide +kernel
theorem dX12_record_84 : decode cX12_record 84 = .ok (.ifCond .eq 6, 3) := by decide +kernel
theorem dX12_record_87 : decode cX12_record 87 = .ok (.iinc 3 1, 3) := by decide +kernel
theorem dX12_record_90 : decode cX12_record 90 = .ok (.iinc 4 1, 3) := by decide +kernel
theorem dX12_record_93 : decode cX12_record 93 = .ok (.goto (-46), 3) := by decide +kernel
theorem dX12_record_96 : decode cX12_record 96 = .ok (.iload_n 2, 1) := by decide +kernel
theorem dX12_record_97 : decode cX12_record 97 = .ok (.ifCond .ne 12, 3) := by decide +kernel
theorem dX12_record_100 : decode cX12_record 100 = .ok (.aload_n 0, 1) := by decide +kernel
theorem dX12_record_101 : decode cX12_record 101 = .ok (.getfield 296, 3) := by decide +kernel
theorem dX12_record_104 : decode cX12_record 104 = .ok (.iload_n 1, 1) := by decide +kernel
theorem dX12_record_105 : decode cX12_record 105 = .ok (.iaload, 1) := by decide +kernel
theorem dX12_record_106 : decode cX12_record 106 = .ok (.goto 32, 3) := by decide +kernel
theorem dX12_record_109 : decode cX12_record 109 = .ok (.iload_n 2, 1) := by decide +kernel
theorem dX12_record_110 : decode cX12_record 110 = .ok (.iconst 3, 1) := by decide +kernel
theorem dX12_record_111 : decode cX12_record 111 = .ok (.if_icmp .ne 12, 3) := by decide +kernel
theorem dX12_record_114 : decode cX12_record 114 = .ok (.aload_n 0, 1) := by decide +kernel
theorem dX12_record_115 : decode cX12_record 115 = .ok (.getfield 299, 3) := by decide +kernel
theorem dX12_record_118 : decode cX12_record 118 = .ok (.iload_n 1, 1) := by decide +kernel
theorem dX12_record_119 : decode cX12_record 119 = .ok (.iaload, 1) := by decide +kernel
theorem dX12_record_120 : decode cX12_record 120 = .ok (.goto 18, 3) := by decide +kernel
theorem dX12_record_123 : decode cX12_record 123 = .ok (.iload_n 2, 1) := by decide +kernel
theorem dX12_record_124 : decode cX12_record 124 = .ok (.iconst 4, 1) := by decide +kernel
theorem dX12_record_125 : decode cX12_record 125 = .ok (.if_icmp .ne 12, 3) := by decide +kernel
theorem dX12_record_128 : decode cX12_record 128 = .ok (.aload_n 0, 1) := by decide +kernel
theorem dX12_record_129 : decode cX12_record 129 = .ok (.getfield 302, 3) := by decide +kernel
theorem dX12_record_132 : decode cX12_record 132 = .ok (.iload_n 1, 1) := by decide +kernel
theorem dX12_record_133 : decode cX12_record 133 = .ok (.iaload, 1) := by decide +kernel
theorem dX12_record_134 : decode cX12_record 134 = .ok (.goto 4, 3) := by decide +kernel
theorem dX12_record_137 : decode cX12_record 137 = .ok (.iload_n 3, 1) := by decide +kernel
theorem dX12_record_138 : decode cX12_record 138 = .ok (.ireturn, 1) := by decide +kernel
theorem dX12_register_0 : decode cX12_register 0 = .ok (.aload_n 0, 1) := by decide +kernel
theorem dX12_register_1 : decode cX12_register 1 = .ok (.iload_n 1, 1) := by decide +kernel
theorem dX12_register_2 : decode cX12_register 2 = .ok (.invokestatic 503, 3) := by decide +kernel
theorem dX12_register_5 : decode cX12_register 5 = .ok (.ifCond .eq 10, 3) := by decide +kernel
theorem dX12_register_8 : decode cX12_register 8 = .ok (.iload_n 2, 1) := by decide +kernel
theorem dX12_register_9 : decode cX12_register 9 = .ok (.invokestatic 509, 3) := by decide +kernel
theorem dX12_register_12 : decode cX12_register 12 = .ok (.ifCond .ne 7, 3) := by decide +kernel
theorem dX12_register_15 : decode cX12_register 15 = .ok (.iconst 1, 1) := by decide +kernel
theorem dX12_register_16 : decode cX12_register 16 = .ok (.goto 4, 3) := by decide +kernel
theorem dX12_register_19 : decode cX12_register 19 = .ok (.iconst 0, 1) := by decide +kernel
theorem dX12_register_20 : decode cX12_register 20 = .ok (.invokevirtual 497, 3) := by decide +kernel
theorem dX12_register_23 : decode cX12_register 23 = .ok (.ifCond .eq 5, 3) := by decide +kernel
theorem dX12_register_26 : decode cX12_register 26 = .ok (.iconst 0, 1) := by decide +kernel
theorem dX12_register_27 : decode cX12_register 27 = .ok (.ireturn, 1) := by decide +kernel
theorem dX12_register_28 : decode cX12_register 28 = .ok (.aload_n 0, 1) := by decide +kernel
theorem dX12_register_29 : decode cX12_register 29 = .ok (.getfield 193, 3) := by decide +kernel
theorem dX12_register_32 : decode cX12_register 32 = .ok (.iload_n 1, 1) := by decide +kernel
theorem dX12_register_33 : decode cX12_register 33 = .ok (.bipush 26, 2) := by decide +kernel
theorem dX12_register_35 : decode cX12_register 35 = .ok (.imul, 1) := by decide +kernel
theorem dX12_register_36 : decode cX12_register 36 = .ok (.iload_n 2, 1) := by decide +kernel
theorem dX12_register_37 : decode cX12_register 37 = .ok (.iadd, 1) := by decide +kernel
theorem dX12_register_38 : decode cX12_register 38 = .ok (.iaload, 1) := by decide +kernel
theorem dX12_register_39 : decode cX12_register 39 = .ok (.ireturn, 1) := by decide +kernel
theorem dX12_remember_0 : decode cX12_remember 0 = .ok (.aload_n 0, 1) := by decide +kernel
theorem dX12_remember_1 : decode cX12_remember 1 = .ok (.getfield 132, 3) := by decide +kernel
theorem dX12_remember_4 : decode cX12_remember 4 = .ok (.aload_n 0, 1) := by decide +kernel
theorem dX12_remember_5 : decode cX12_remember 5 = .ok (.getfield 135, 3) := by decide +kernel
theorem dX12_remember_8 : decode cX12_remember 8 = .ok (.arraylength, 1) := by decide +kernel
theorem dX12_remember_9 : decode cX12_remember 9 = .ok (.if_icmp .ne 36, 3) := by decide +kernel
theorem dX12_remember_12 : decode cX12_remember 12 = .ok (.aload_n 0, 1) := by decide +kernel
theorem dX12_remember_13 : decode cX12_remember 13 = .ok (.aload_n 0, 1) := by decide +kernel
theorem dX12_remember_14 : decode cX12_remember 14 = .ok (.getfield 135, 3) := by decide +kernel
theorem dX12_remember_17 : decode cX12_remember 17 = .ok (.invokestatic 138, 3) := by decide +kernel
theorem dX12_remember_20 : decode cX12_remember 20 = .ok (.putfield 135, 3) := by decide +kernel
theorem dX12_remember_23 : decode cX12_remember 23 = .ok (.aload_n 0, 1) := by decide +kernel
theorem dX12_remember_24 : decode cX12_remember 24 = .ok (.aload_n 0, 1) := by decide +kernel
theorem dX12_remember_25 : decode cX12_remember 25 = .ok (.getfield 142, 3) := by decide +kernel
theorem dX12_remember_28 : decode cX12_remember 28 = .ok (.invokestatic 138, 3) := by decide +kernel
theorem dX12_remember_31 : decode cX12_remember 31 = .ok (.putfield 142, 3) := by decide +kernel
theorem dX12_remember_34 : decode cX12_remember 34 = .ok (.aload_n 0, 1) := by decide +kernel
theorem dX12_remember_35 : decode cX12_remember 35 = .ok (.aload_n 0, 1) := by decide +kernel
theorem dX12_remember_36 : decode cX12_remember 36 = .ok (.getfield 145, 3) := by decide +kernel
theorem dX12_remember_39 : decode cX12_remember 39 = .ok (.invokestatic 138, 3) := by decide +kernel
theorem dX12_remember_42 : decode cX12_remember 42 = .ok (.putfield 145, 3) := by decide +kernel
theorem dX12_remember_45 : decode cX12_remember 45 = .ok (.aload_n 0, 1) := by decide +kernel
theorem dX12_remember_46 : decode cX12_remember 46 = .ok (.getfield 135, 3) := by decide +kernel
theorem dX12_remember_49 : decode cX12_remember 49 = .ok (.aload_n 0, 1) := by decide +kernel
theorem dX12_remember_50 : decode cX12_remember 50 = .ok (.getfield 132, 3) := by decide +kernel
theorem dX12_remember_53 : decode cX12_remember 53 = .ok (.aload_n 0, 1) := by decide +kernel
theorem dX12_remember_54 : decode cX12_remember 54 = .ok (.getfield 148, 3) := by decide +kernel
theorem dX12_remember_57 : decode cX12_remember 57 = .ok (.iastore, 1) := by decide +kernel
theorem dX12_remember_58 : decode cX12_remember 58 = .ok (.aload_n 0, 1) := by decide +kernel
theorem dX12_remember_59 : decode cX12_remember 59 = .ok (.getfield 142, 3) := by decide +kernel
theorem dX12_remember_62 : decode cX12_remember 62 = .ok (.aload_n 0, 1) := by decide +kernel
theorem dX12_remember_63 : decode cX12_remember 63 = .ok (.getfield 132, 3) := by decide +kernel
theorem dX12_remember_66 : decode cX12_remember 66 = .ok (.aload_n 0, 1) := by decide +kernel
theorem dX12_remember_67 : decode cX12_remember 67 = .ok (.getfield 151, 3) := by decide +kernel
theorem dX12_remember_70 : decode cX12_remember 70 = .ok (.iload_n 1, 1) := by decide +kernel
theorem dX12_remember_71 : decode cX12_remember 71 = .ok (.iaload, 1) := by decide +kernel
theorem dX12_remember_72 : decode cX12_remember 72 = .ok (.iastore, 1) := by decide +kernel
theorem dX12_remember_73 : decode cX12_remember 73 = .ok (.aload_n 0, 1) := by decide +kernel
theorem dX12_remember_74 : decode cX12_remember 74 = .ok (.getfield 145, 3) := by decide +kernel
theorem dX12_remember_77 : decode cX12_remember 77 = .ok (.aload_n 0, 1) := by decide +kernel
theorem dX12_remember_78 : decode cX12_remember 78 = .ok (.getfield 132, 3) := by decide +kernel
theorem dX12_remember_81 : decode cX12_remember 81 = .ok (.aload_n 0, 1) := by decide +kernel
theorem dX12_remember_82 : decode cX12_remember 82 = .ok (.getfield 154, 3) := by decide +kernel
theorem dX12_remember_85 : decode cX12_remember 85 = .ok (.iload_n 1, 1) := by decide +kernel
theorem dX12_remember_86 : decode cX12_remember 86 = .ok (.iaload, 1) := by decide +kernel
theorem dX12_remember_87 : decode cX12_remember 87 = .ok (.iastore, 1) := by decide +kernel
theorem dX12_remember_88 : decode cX12_remember 88 = .ok (.aload_n 0, 1) := by decide +kernel
theorem dX12_remember_89 : decode cX12_remember 89 = .ok (.getfield 154, 3) := by decide +kernel
theorem dX12_remember_92 : decode cX12_remember 92 = .ok (.iload_n 1, 1) := by decide +kernel
theorem dX12_remember_93 : decode cX12_remember 93 = .ok (.aload_n 0, 1) := by decide +kernel
theorem dX12_remember_94 : decode cX12_remember 94 = .ok (.getfield 132, 3) := by decide +kernel
theorem dX12_remember_97 : decode cX12_remember 97 = .ok (.iastore, 1) := by decide +kernel
theorem dX12_remember_98 : decode cX12_remember 98 = .ok (.aload_n 0, 1) := by decide +kernel
theorem dX12_remember_99 : decode cX12_remember 99 = .ok (.dup, 1) := by decide +kernel
theorem dX12_remember_100 : decode cX12_remember 100 = .ok (.getfield 132, 3) := by decide +kernel
theorem dX12_remember_103 : decode cX12_remember 103 = .ok (.iconst 1, 1) := by decide +kernel
theorem dX12_remember_104 : decode cX12_remember 104 = .ok (.iadd, 1) := by decide +kernel
theorem dX12_remember_105 : decode cX12_remember 105 = .ok (.putfield 132, 3) := by decide +kernel
theorem dX12_remember_108 : decode cX12_remember 108 = .ok (.aload_n 0, 1) := by decide +kernel
theorem dX12_remember_109 : decode cX12_remember 109 = .ok (.getfield 157, 3) := by decide +kernel
theorem dX12_remember_112 : decode cX12_remember 112 = .ok (.iload_n 1, 1) := by decide +kernel
theorem dX12_remember_113 : decode cX12_remember 113 = .ok (.aload_n 0, 1) := by decide +kernel
theorem dX12_remember_114 : decode cX12_remember 114 = .ok (.getfield 148, 3) := by decide +kernel
theorem dX12_remember_117 : decode cX12_remember 117 = .ok (.iastore, 1) := by decide +kernel
theorem dX12_remember_118 : decode cX12_remember 118 = .ok (.return_, 1) := by decide +kernel
theorem dX12_reset_0 : decode cX12_reset 0 = .ok (.aload_n 0, 1) := by decide +kernel
theorem dX12_reset_1 : decode cX12_reset 1 = .ok (.getfield 187, 3) := by decide +kernel
theorem dX12_reset_4 : decode cX12_reset 4 = .ok (.iload_n 1, 1) := by decide +kernel
theorem dX12_reset_5 : decode cX12_reset 5 = .ok (.iaload, 1) := by decide +kernel
theorem dX12_reset_6 : decode cX12_reset 6 = .ok (.ifCond .eq 10, 3) := by decide +kernel
theorem dX12_reset_9 : decode cX12_reset 9 = .ok (.aload_n 0, 1) := by decide +kernel
theorem dX12_reset_10 : decode cX12_reset 10 = .ok (.getfield 187, 3) := by decide +kernel
theorem dX12_reset_13 : decode cX12_reset 13 = .ok (.iload_n 1, 1) := by decide +kernel
theorem dX12_reset_14 : decode cX12_reset 14 = .ok (.iconst 1, 1) := by decide +kernel
theorem dX12_reset_15 : decode cX12_reset 15 = .ok (.iastore, 1) := by decide +kernel
theorem dX12_reset_16 : decode cX12_reset 16 = .ok (.aload_n 0, 1) := by decide +kernel
theorem dX12_reset_17 : decode cX12_reset 17 = .ok (.getfield 190, 3) := by decide +kernel
theorem dX12_reset_20 : decode cX12_reset 20 = .ok (.iload_n 1, 1) := by decide +kernel
theorem dX12_reset_21 : decode cX12_reset 21 = .ok (.iconst 0, 1) := by decide +kernel
theorem dX12_reset_22 : decode cX12_reset 22 = .ok (.iastore, 1) := by decide +kernel
theorem dX12_reset_23 : decode cX12_reset 23 = .ok (.aload_n 0, 1) := by decide +kernel
theorem dX12_reset_24 : decode cX12_reset 24 = .ok (.getfield 199, 3) := by decide +kernel
theorem dX12_reset_27 : decode cX12_reset 27 = .ok (.iload_n 1, 1) := by decide +kernel
theorem dX12_reset_28 : decode cX12_reset 28 = .ok (.iconst 0, 1) := by decide +kernel
theorem dX12_reset_29 : decode cX12_reset 29 = .ok (.iastore, 1) := by decide +kernel
theorem dX12_reset_30 : decode cX12_reset 30 = .ok (.aload_n 0, 1) := by decide +kernel
theorem dX12_reset_31 : decode cX12_reset 31 = .ok (.getfield 202, 3) := by decide +kernel
theorem dX12_reset_34 : decode cX12_reset 34 = .ok (.iload_n 1, 1) := by decide +kernel
theorem dX12_reset_35 : decode cX12_reset 35 = .ok (.iconst 0, 1) := by decide +kernel
theorem dX12_reset_36 : decode cX12_reset 36 = .ok (.iastore, 1) := by decide +kernel
theorem dX12_reset_37 : decode cX12_reset 37 = .ok (.aload_n 0, 1) := by decide +kernel
theorem dX12_reset_38 : decode cX12_reset 38 = .ok (.getfield 205, 3) := by decide +kernel
theorem dX12_reset_41 : decode cX12_reset 41 = .ok (.iload_n 1, 1) := by decide +kernel
theorem dX12_reset_42 : decode cX12_reset 42 = .ok (.iconst 0, 1) := by decide +kernel
theorem dX12_reset_43 : decode cX12_reset 43 = .ok (.iastore, 1) := by decide +kernel
theorem dX12_reset_44 : decode cX12_reset 44 = .ok (.aload_n 0, 1) := by decide +kernel
theorem dX12_reset_45 : decode cX12_reset 45 = .ok (.getfield 208, 3) := by decide +kernel
theorem dX12_reset_48 : decode cX12_reset 48 = .ok (.iload_n 1, 1) := by decide +kernel
theorem dX12_reset_49 : decode cX12_reset 49 = .ok (.iconst 0, 1) := by decide +kernel
theorem dX12_reset_50 : decode cX12_reset 50 = .ok (.iastore, 1) := by decide +kernel
theorem dX12_reset_51 : decode cX12_reset 51 = .ok (.aload_n 0, 1) := by decide +kernel
theorem dX12_reset_52 : decode cX12_reset 52 = .ok (.getfield 211, 3) := by decide +kernel
theorem dX12_reset_55 : decode cX12_reset 55 = .ok (.iload_n 1, 1) := by decide +kernel
theorem dX12_reset_56 : decode cX12_reset 56 = .ok (.iconst 0, 1) := by decide +kernel
theorem dX12_reset_57 : decode cX12_reset 57 = .ok (.iastore, 1) := by decide +kernel
theorem dX12_reset_58 : decode cX12_reset 58 = .ok (.aload_n 0, 1) := by decide +kernel
theorem dX12_reset_59 : decode cX12_reset 59 = .ok (.getfield 217, 3) := by decide +kernel
theorem dX12_reset_62 : decode cX12_reset 62 = .ok (.iload_n 1, 1) := by decide +kernel
theorem dX12_reset_63 : decode cX12_reset 63 = .ok (.iconst 0, 1) := by decide +kernel
theorem dX12_reset_64 : decode cX12_reset 64 = .ok (.iastore, 1) := by decide +kernel
theorem dX12_reset_65 : decode cX12_reset 65 = .ok (.aload_n 0, 1) := by decide +kernel
theorem dX12_reset_66 : decode cX12_reset 66 = .ok (.getfield 220, 3) := by decide +kernel
theorem dX12_reset_69 : decode cX12_reset 69 = .ok (.iload_n 1, 1) := by decide +kernel
theorem dX12_reset_70 : decode cX12_reset 70 = .ok (.iconst 0, 1) := by decide +kernel
theorem dX12_reset_71 : decode cX12_reset 71 = .ok (.iastore, 1) := by decide +kernel
theorem dX12_reset_72 : decode cX12_reset 72 = .ok (.iconst 0, 1) := by decide +kernel
theorem dX12_reset_73 : decode cX12_reset 73 = .ok (.istore_n 2, 1) := by decide +kernel
theorem dX12_reset_74 : decode cX12_reset 74 = .ok (.iload_n 2, 1) := by decide +kernel
theorem dX12_reset_75 : decode cX12_reset 75 = .ok (.bipush 26, 2) := by decide +kernel
theorem dX12_reset_77 : decode cX12_reset 77 = .ok (.if_icmp .ge 21, 3) := by decide +kernel
theorem dX12_reset_80 : decode cX12_reset 80 = .ok (.aload_n 0, 1) := by decide +kernel
theorem dX12_reset_81 : decode cX12_reset 81 = .ok (.getfield 193, 3) := by decide +kernel
theorem dX12_reset_84 : decode cX12_reset 84 = .ok (.iload_n 1, 1) := by decide +kernel
theorem dX12_reset_85 : decode cX12_reset 85 = .ok (.bipush 26, 2) := by decide +kernel
theorem dX12_reset_87 : decode cX12_reset 87 = .ok (.imul, 1) := by decide +kernel
theorem dX12_reset_88 : decode cX12_reset 88 = .ok (.iload_n 2, 1) := by decide +kernel
theorem dX12_reset_89 : decode cX12_reset 89 = .ok (.iadd, 1) := by decide +kernel
theorem dX12_reset_90 : decode cX12_reset 90 = .ok (.iconst 0, 1) := by decide +kernel
theorem dX12_reset_91 : decode cX12_reset 91 = .ok (.iastore, 1) := by decide +kernel
theorem dX12_reset_92 : decode cX12_reset 92 = .ok (.iinc 2 1, 3) := by decide +kernel
theorem dX12_reset_95 : decode cX12_reset 95 = .ok (.goto (-21), 3) := by decide +kernel
theorem dX12_reset_98 : decode cX12_reset 98 = .ok (.aload_n 0, 1) := by decide +kernel
theorem dX12_reset_99 : decode cX12_reset 99 = .ok (.iload_n 1, 1) := by decide +kernel
theorem dX12_reset_100 : decode cX12_reset 100 = .ok (.iconst 0, 1) := by decide +kernel
theorem dX12_reset_101 : decode cX12_reset 101 = .ok (.invokevirtual 353, 3) := by decide +kernel
theorem dX12_reset_104 : decode cX12_reset 104 = .ok (.return_, 1) := by decide +kernel
theorem dX12_restart_0 : decode cX12_restart 0 = .ok (.aload_n 0, 1) := by decide +kernel
theorem dX12_restart_1 : decode cX12_restart 1 = .ok (.iload_n 1, 1) := by decide +kernel
theorem dX12_restart_2 : decode cX12_restart 2 = .ok (.iload_n 2, 1) := by decide +kernel
theorem dX12_restart_3 : decode cX12_restart 3 = .ok (.iconst 0, 1) := by decide +kernel
theorem dX12_restart_4 : decode cX12_restart 4 = .ok (.invokevirtual 382, 3) := by decide +kernel
theorem dX12_restart_7 : decode cX12_restart 7 = .ok (.iload_n 2, 1) := by decide +kernel
theorem dX12_restart_8 : decode cX12_restart 8 = .ok (.ifCond .ne 18, 3) := by decide +kernel
theorem dX12_restart_11 : decode cX12_restart 11 = .ok (.aload_n 0, 1) := by decide +kernel
theorem dX12_restart_12 : decode cX12_restart 12 = .ok (.iload_n 1, 1) := by decide +kernel
theorem dX12_restart_13 : decode cX12_restart 13 = .ok (.invokevirtual 386, 3) := by decide +kernel
theorem dX12_restart_16 : decode cX12_restart 16 = .ok (.aload_n 0, 1) := by decide +kernel
theorem dX12_restart_17 : decode cX12_restart 17 = .ok (.getfield 226, 3) := by decide +kernel
theorem dX12_restart_20 : decode cX12_restart 20 = .ok (.iload_n 1, 1) := by decide +kernel
theorem dX12_restart_21 : decode cX12_restart 21 = .ok (.aload_n 0, 1) := by decide +kernel
theorem dX12_restart_22 : decode cX12_restart 22 = .ok (.getfield 341, 3) := by decide +kernel
theorem dX12_restart_25 : decode cX12_restart 25 = .ok (.iastore, 1) := by decide +kernel
theorem dX12_restart_26 : decode cX12_restart 26 = .ok (.aload_n 0, 1) := by decide +kernel
theorem dX12_restart_27 : decode cX12_restart 27 = .ok (.iload_n 1, 1) := by decide +kernel
theorem dX12_restart_28 : decode cX12_restart 28 = .ok (.iload_n 2, 1) := by decide +kernel
theorem dX12_restart_29 : decode cX12_restart 29 = .ok (.invokevirtual 360, 3) := by decide +kernel
theorem dX12_restart_32 : decode cX12_restart 32 = .ok (.istore_n 3, 1) := by decide +kernel
theorem dX12_restart_33 : decode cX12_restart 33 = .ok (.aload_n 0, 1) := by decide +kernel
theorem dX12_restart_34 : decode cX12_restart 34 = .ok (.getfield 190, 3) := by decide +kernel
theorem dX12_restart_37 : decode cX12_restart 37 = .ok (.iload_n 1, 1) := by decide +kernel
theorem dX12_restart_38 : decode cX12_restart 38 = .ok (.aload_n 0, 1) := by decide +kernel
theorem dX12_restart_39 : decode cX12_restart 39 = .ok (.getfield 244, 3) := by decide +kernel
theorem dX12_restart_42 : decode cX12_restart 42 = .ok (.iload_n 3, 1) := by decide +kernel
theorem dX12_restart_43 : decode cX12_restart 43 = .ok (.iaload, 1) := by decide +kernel
theorem dX12_restart_44 : decode cX12_restart 44 = .ok (.iastore, 1) := by decide +kernel
theorem dX12_restart_45 : decode cX12_restart 45 = .ok (.aload_n 0, 1) := by decide +kernel
theorem dX12_restart_46 : decode cX12_restart 46 = .ok (.getfield 262, 3) := by decide +kernel
theorem dX12_restart_49 : decode cX12_restart 49 = .ok (.iload_n 3, 1) := by decide +kernel
theorem dX12_restart_50 : decode cX12_restart 50 = .ok (.iconst 0, 1) := by decide +kernel
theorem dX12_restart_51 : decode cX12_restart 51 = .ok (.bastore, 1) := by decide +kernel
theorem dX12_restart_52 : decode cX12_restart 52 = .ok (.aload_n 0, 1) := by decide +kernel
theorem dX12_restart_53 : decode cX12_restart 53 = .ok (.getfield 205, 3) := by decide +kernel
theorem dX12_restart_56 : decode cX12_restart 56 = .ok (.iload_n 1, 1) := by decide +kernel
theorem dX12_restart_57 : decode cX12_restart 57 = .ok (.aload_n 0, 1) := by decide +kernel
theorem dX12_restart_58 : decode cX12_restart 58 = .ok (.getfield 253, 3) := by decide +kernel
theorem dX12_restart_61 : decode cX12_restart 61 = .ok (.iload_n 3, 1) := by decide +kernel
theorem dX12_restart_62 : decode cX12_restart 62 = .ok (.iaload, 1) := by decide +kernel
theorem dX12_restart_63 : decode cX12_restart 63 = .ok (.iastore, 1) := by decide +kernel
theorem dX12_restart_64 : decode cX12_restart 64 = .ok (.aload_n 0, 1) := by decide +kernel
theorem dX12_restart_65 : decode cX12_restart 65 = .ok (.getfield 208, 3) := by decide +kernel
theorem dX12_restart_68 : decode cX12_restart 68 = .ok (.iload_n 1, 1) := by decide +kernel
theorem dX12_restart_69 : decode cX12_restart 69 = .ok (.aload_n 0, 1) := by decide +kernel
theorem dX12_restart_70 : decode cX12_restart 70 = .ok (.getfield 256, 3) := by decide +kernel
theorem dX12_restart_73 : decode cX12_restart 73 = .ok (.iload_n 3, 1) := by decide +kernel
theorem dX12_restart_74 : decode cX12_restart 74 = .ok (.iaload, 1) := by decide +kernel
theorem dX12_restart_75 : decode cX12_restart 75 = .ok (.iastore, 1) := by decide +kernel
theorem dX12_restart_76 : decode cX12_restart 76 = .ok (.aload_n 0, 1) := by decide +kernel
theorem dX12_restart_77 : decode cX12_restart 77 = .ok (.getfield 202, 3) := by decide +kernel
theorem dX12_restart_80 : decode cX12_restart 80 = .ok (.iload_n 1, 1) := by decide +kernel
theorem dX12_restart_81 : decode cX12_restart 81 = .ok (.iload_n 2, 1) := by decide +kernel
theorem dX12_restart_82 : decode cX12_restart 82 = .ok (.iconst 1, 1) := by decide +kernel
theorem dX12_restart_83 : decode cX12_restart 83 = .ok (.iadd, 1) := by decide +kernel
theorem dX12_restart_84 : decode cX12_restart 84 = .ok (.iastore, 1) := by decide +kernel
theorem dX12_restart_85 : decode cX12_restart 85 = .ok (.aload_n 0, 1) := by decide +kernel
theorem dX12_restart_86 : decode cX12_restart 86 = .ok (.getfield 214, 3) := by decide +kernel
theorem dX12_restart_89 : decode cX12_restart 89 = .ok (.iload_n 1, 1) := by decide +kernel
theorem dX12_restart_90 : decode cX12_restart 90 = .ok (.aload_n 0, 1) := by decide +kernel
theorem dX12_restart_91 : decode cX12_restart 91 = .ok (.getfield 148, 3) := by decide +kernel
theorem dX12_restart_94 : decode cX12_restart 94 = .ok (.iastore, 1) := by decide +kernel
theorem dX12_restart_95 : decode cX12_restart 95 = .ok (.aload_n 0, 1) := by decide +kernel
theorem dX12_restart_96 : decode cX12_restart 96 = .ok (.getfield 211, 3) := by decide +kernel
theorem dX12_restart_99 : decode cX12_restart 99 = .ok (.iload_n 1, 1) := by decide +kernel
theorem dX12_restart_100 : decode cX12_restart 100 = .ok (.dup2, 1) := by decide +kernel
theorem dX12_restart_101 : decode cX12_restart 101 = .ok (.iaload, 1) := by decide +kernel
theorem dX12_restart_102 : decode cX12_restart 102 = .ok (.iconst 1, 1) := by decide +kernel
theorem dX12_restart_103 : decode cX12_restart 103 = .ok (.iadd, 1) := by decide +kernel
theorem dX12_restart_104 : decode cX12_restart 104 = .ok (.iastore, 1) := by decide +kernel
theorem dX12_restart_105 : decode cX12_restart 105 = .ok (.return_, 1) := by decide +kernel
theorem dX12_retry_0 : decode cX12_retry 0 = .ok (.aload_n 0, 1) := by decide +kernel
theorem dX12_retry_1 : decode cX12_retry 1 = .ok (.getfield 202, 3) := by decide +kernel
theorem dX12_retry_4 : decode cX12_retry 4 = .ok (.iload_n 1, 1) := by decide +kernel
theorem dX12_retry_5 : decode cX12_retry 5 = .ok (.iaload, 1) := by decide +kernel
theorem dX12_retry_6 : decode cX12_retry 6 = .ok (.iconst 1, 1) := by decide +kernel
theorem dX12_retry_7 : decode cX12_retry 7 = .ok (.isub, 1) := by decide +kernel
theorem dX12_retry_8 : decode cX12_retry 8 = .ok (.istore_n 2, 1) := by decide +kernel
theorem dX12_retry_9 : decode cX12_retry 9 = .ok (.iload_n 2, 1) := by decide +kernel
theorem dX12_retry_10 : decode cX12_retry 10 = .ok (.ifCond .lt 37, 3) := by decide +kernel
theorem dX12_retry_13 : decode cX12_retry 13 = .ok (.aload_n 0, 1) := by decide +kernel
theorem dX12_retry_14 : decode cX12_retry 14 = .ok (.getfield 247, 3) := by decide +kernel
theorem dX12_retry_17 : decode cX12_retry 17 = .ok (.aload_n 0, 1) := by decide +kernel
theorem dX12_retry_18 : decode cX12_retry 18 = .ok (.iload_n 1, 1) := by decide +kernel
theorem dX12_retry_19 : decode cX12_retry 19 = .ok (.iload_n 2, 1) := by decide +kernel
theorem dX12_retry_20 : decode cX12_retry 20 = .ok (.invokevirtual 360, 3) := by decide +kernel
theorem dX12_retry_23 : decode cX12_retry 23 = .ok (.iaload, 1) := by decide +kernel
theorem dX12_retry_24 : decode cX12_retry 24 = .ok (.ifCond .lt 17, 3) := by decide +kernel
theorem dX12_retry_27 : decode cX12_retry 27 = .ok (.aload_n 0, 1) := by decide +kernel
theorem dX12_retry_28 : decode cX12_retry 28 = .ok (.getfield 262, 3) := by decide +kernel
theorem dX12_retry_31 : decode cX12_retry 31 = .ok (.aload_n 0, 1) := by decide +kernel
theorem dX12_retry_32 : decode cX12_retry 32 = .ok (.iload_n 1, 1) := by decide +kernel
theorem dX12_retry_33 : decode cX12_retry 33 = .ok (.iload_n 2, 1) := by decide +kernel
theorem dX12_retry_34 : decode cX12_retry 34 = .ok (.invokevirtual 360, 3) := by decide +kernel
theorem dX12_retry_37 : decode cX12_retry 37 = .ok (.baload, 1) := by decide +kernel
theorem dX12_retry_38 : decode cX12_retry 38 = .ok (.ifCond .eq 9, 3) := by decide +kernel
theorem dX12_retry_41 : decode cX12_retry 41 = .ok (.iinc 2 (-1), 3) := by decide +kernel
theorem dX12_retry_44 : decode cX12_retry 44 = .ok (.goto (-35), 3) := by decide +kernel
theorem dX12_retry_47 : decode cX12_retry 47 = .ok (.aload_n 0, 1) := by decide +kernel
theorem dX12_retry_48 : decode cX12_retry 48 = .ok (.iload_n 1, 1) := by decide +kernel
theorem dX12_retry_49 : decode cX12_retry 49 = .ok (.iload_n 2, 1) := by decide +kernel
theorem dX12_retry_50 : decode cX12_retry 50 = .ok (.ifCond .ge 7, 3) := by decide +kernel
theorem dX12_retry_53 : decode cX12_retry 53 = .ok (.iconst 0, 1) := by decide +kernel
theorem dX12_retry_54 : decode cX12_retry 54 = .ok (.goto 4, 3) := by decide +kernel
theorem dX12_retry_57 : decode cX12_retry 57 = .ok (.iload_n 2, 1) := by decide +kernel
theorem dX12_retry_58 : decode cX12_retry 58 = .ok (.invokevirtual 360, 3) := by decide +kernel
theorem dX12_retry_61 : decode cX12_retry 61 = .ok (.istore_n 3, 1) := by decide +kernel
theorem dX12_retry_62 : decode cX12_retry 62 = .ok (.iload_n 2, 1) := by decide +kernel
theorem dX12_retry_63 : decode cX12_retry 63 = .ok (.ifCond .lt 64, 3) := by decide +kernel
theorem dX12_retry_66 : decode cX12_retry 66 = .ok (.aload_n 0, 1) := by decide +kernel
theorem dX12_retry_67 : decode cX12_retry 67 = .ok (.iload_n 1, 1) := by decide +kernel
theorem dX12_retry_68 : decode cX12_retry 68 = .ok (.iload_n 2, 1) := by decide +kernel
theorem dX12_retry_69 : decode cX12_retry 69 = .ok (.iconst 1, 1) := by decide +kernel
theorem dX12_retry_70 : decode cX12_retry 70 = .ok (.invokevirtual 382, 3) := by decide +kernel
theorem dX12_retry_73 : decode cX12_retry 73 = .ok (.aload_n 0, 1) := by decide +kernel
theorem dX12_retry_74 : decode cX12_retry 74 = .ok (.getfield 202, 3) := by decide +kernel
theorem dX12_retry_77 : decode cX12_retry 77 = .ok (.iload_n 1, 1) := by decide +kernel
theorem dX12_retry_78 : decode cX12_retry 78 = .ok (.iload_n 2, 1) := by decide +kernel
theorem dX12_retry_79 : decode cX12_retry 79 = .ok (.iconst 1, 1) := by decide +kernel
theorem dX12_retry_80 : decode cX12_retry 80 = .ok (.iadd, 1) := by decide +kernel
theorem dX12_retry_81 : decode cX12_retry 81 = .ok (.iastore, 1) := by decide +kernel
theorem dX12_retry_82 : decode cX12_retry 82 = .ok (.aload_n 0, 1) := by decide +kernel
theorem dX12_retry_83 : decode cX12_retry 83 = .ok (.getfield 262, 3) := by decide +kernel
theorem dX12_retry_86 : decode cX12_retry 86 = .ok (.iload_n 3, 1) := by decide +kernel
theorem dX12_retry_87 : decode cX12_retry 87 = .ok (.iconst 1, 1) := by decide +kernel
theorem dX12_retry_88 : decode cX12_retry 88 = .ok (.bastore, 1) := by decide +kernel
theorem dX12_retry_89 : decode cX12_retry 89 = .ok (.aload_n 0, 1) := by decide +kernel
theorem dX12_retry_90 : decode cX12_retry 90 = .ok (.getfield 190, 3) := by decide +kernel
theorem dX12_retry_93 : decode cX12_retry 93 = .ok (.iload_n 1, 1) := by decide +kernel
theorem dX12_retry_94 : decode cX12_retry 94 = .ok (.aload_n 0, 1) := by decide +kernel
theorem dX12_retry_95 : decode cX12_retry 95 = .ok (.getfield 247, 3) := by decide +kernel
theorem dX12_retry_98 : decode cX12_retry 98 = .ok (.iload_n 3, 1) := by decide +kernel
theorem dX12_retry_99 : decode cX12_retry 99 = .ok (.iaload, 1) := by decide +kernel
theorem dX12_retry_100 : decode cX12_retry 100 = .ok (.iastore, 1) := by decide +kernel
theorem dX12_retry_101 : decode cX12_retry 101 = .ok (.aload_n 0, 1) := by decide +kernel
theorem dX12_retry_102 : decode cX12_retry 102 = .ok (.getfield 205, 3) := by decide +kernel
theorem dX12_retry_105 : decode cX12_retry 105 = .ok (.iload_n 1, 1) := by decide +kernel
theorem dX12_retry_106 : decode cX12_retry 106 = .ok (.aload_n 0, 1) := by decide +kernel
theorem dX12_retry_107 : decode cX12_retry 107 = .ok (.getfield 253, 3) := by decide +kernel
theorem dX12_retry_110 : decode cX12_retry 110 = .ok (.iload_n 3, 1) := by decide +kernel
theorem dX12_retry_111 : decode cX12_retry 111 = .ok (.iaload, 1) := by decide +kernel
theorem dX12_retry_112 : decode cX12_retry 112 = .ok (.iastore, 1) := by decide +kernel
theorem dX12_retry_113 : decode cX12_retry 113 = .ok (.aload_n 0, 1) := by decide +kernel
theorem dX12_retry_114 : decode cX12_retry 114 = .ok (.getfield 208, 3) := by decide +kernel
theorem dX12_retry_117 : decode cX12_retry 117 = .ok (.iload_n 1, 1) := by decide +kernel
theorem dX12_retry_118 : decode cX12_retry 118 = .ok (.aload_n 0, 1) := by decide +kernel
theorem dX12_retry_119 : decode cX12_retry 119 = .ok (.getfield 256, 3) := by decide +kernel
theorem dX12_retry_122 : decode cX12_retry 122 = .ok (.iload_n 3, 1) := by decide +kernel
theorem dX12_retry_123 : decode cX12_retry 123 = .ok (.iaload, 1) := by decide +kernel
theorem dX12_retry_124 : decode cX12_retry 124 = .ok (.iastore, 1) := by decide +kernel
theorem dX12_retry_125 : decode cX12_retry 125 = .ok (.iconst 0, 1) := by decide +kernel
theorem dX12_retry_126 : decode cX12_retry 126 = .ok (.ireturn, 1) := by decide +kernel
theorem dX12_retry_127 : decode cX12_retry 127 = .ok (.aload_n 0, 1) := by decide +kernel
theorem dX12_retry_128 : decode cX12_retry 128 = .ok (.iload_n 1, 1) := by decide +kernel
theorem dX12_retry_129 : decode cX12_retry 129 = .ok (.iconst 0, 1) := by decide +kernel
theorem dX12_retry_130 : decode cX12_retry 130 = .ok (.iconst 1, 1) := by decide +kernel
theorem dX12_retry_131 : decode cX12_retry 131 = .ok (.invokevirtual 382, 3) := by decide +kernel
theorem dX12_retry_134 : decode cX12_retry 134 = .ok (.aload_n 0, 1) := by decide +kernel
theorem dX12_retry_135 : decode cX12_retry 135 = .ok (.iload_n 1, 1) := by decide +kernel
theorem dX12_retry_136 : decode cX12_retry 136 = .ok (.invokevirtual 386, 3) := by decide +kernel
theorem dX12_retry_139 : decode cX12_retry 139 = .ok (.aload_n 0, 1) := by decide +kernel
theorem dX12_retry_140 : decode cX12_retry 140 = .ok (.getfield 202, 3) := by decide +kernel
theorem dX12_retry_143 : decode cX12_retry 143 = .ok (.iload_n 1, 1) := by decide +kernel
theorem dX12_retry_144 : decode cX12_retry 144 = .ok (.iconst 0, 1) := by decide +kernel
theorem dX12_retry_145 : decode cX12_retry 145 = .ok (.iastore, 1) := by decide +kernel
theorem dX12_retry_146 : decode cX12_retry 146 = .ok (.aload_n 0, 1) := by decide +kernel
theorem dX12_retry_147 : decode cX12_retry 147 = .ok (.getfield 187, 3) := by decide +kernel
theorem dX12_retry_150 : decode cX12_retry 150 = .ok (.iload_n 1, 1) := by decide +kernel
theorem dX12_retry_151 : decode cX12_retry 151 = .ok (.iconst 3, 1) := by decide +kernel
theorem dX12_retry_152 : decode cX12_retry 152 = .ok (.iastore, 1) := by decide +kernel
theorem dX12_retry_153 : decode cX12_retry 153 = .ok (.iconst 3, 1) := by decide +kernel
theorem dX12_retry_154 : decode cX12_retry 154 = .ok (.ireturn, 1) := by decide +kernel
theorem dX12_round_0 : decode cX12_round 0 = .ok (.aload_n 0, 1) := by decide +kernel
theorem dX12_round_1 : decode cX12_round 1 = .ok (.iload_n 1, 1) := by decide +kernel
theorem dX12_round_2 : decode cX12_round 2 = .ok (.ifCond .lt 10, 3) := by decide +kernel
theorem dX12_round_5 : decode cX12_round 5 = .ok (.iload_n 1, 1) := by decide +kernel
theorem dX12_round_6 : decode cX12_round 6 = .ok (.sipush 2000, 3) := by decide +kernel
theorem dX12_round_9 : decode cX12_round 9 = .ok (.if_icmp .le 7, 3) := by decide +kernel
theorem dX12_round_12 : decode cX12_round 12 = .ok (.iconst 1, 1) := by decide +kernel
theorem dX12_round_13 : decode cX12_round 13 = .ok (.goto 4, 3) := by decide +kernel
theorem dX12_round_16 : decode cX12_round 16 = .ok (.iconst 0, 1) := by decide +kernel
theorem dX12_round_17 : decode cX12_round 17 = .ok (.invokevirtual 497, 3) := by decide +kernel
theorem dX12_round_20 : decode cX12_round 20 = .ok (.ifCond .eq 5, 3) := by decide +kernel
theorem dX12_round_23 : decode cX12_round 23 = .ok (.iconst 0, 1) := by decide +kernel
theorem dX12_round_24 : decode cX12_round 24 = .ok (.ireturn, 1) := by decide +kernel
theorem dX12_round_25 : decode cX12_round 25 = .ok (.iconst 0, 1) := by decide +kernel
theorem dX12_round_26 : decode cX12_round 26 = .ok (.istore_n 2, 1) := by decide +kernel
theorem dX12_round_27 : decode cX12_round 27 = .ok (.iconst 0, 1) := by decide +kernel
theorem dX12_round_28 : decode cX12_round 28 = .ok (.istore_n 3, 1) := by decide +kernel
theorem dX12_round_29 : decode cX12_round 29 = .ok (.iconst 0, 1) := by decide +kernel
theorem dX12_round_30 : decode cX12_round 30 = .ok (.istore 4, 2) := by decide +kernel
theorem dX12_round_32 : decode cX12_round 32 = .ok (.iload_n 2, 1) := by decide +kernel
theorem dX12_round_33 : decode cX12_round 33 = .ok (.iload_n 1, 1) := by decide +kernel
theorem dX12_round_34 : decode cX12_round 34 = .ok (.if_icmp .ge 119, 3) := by decide +kernel
theorem dX12_round_37 : decode cX12_round 37 = .ok (.aload_n 0, 1) := by decide +kernel
theorem dX12_round_38 : decode cX12_round 38 = .ok (.getfield 341, 3) := by decide +kernel
theorem dX12_round_41 : decode cX12_round 41 = .ok (.sipush 20000, 3) := by decide +kernel
theorem dX12_round_44 : decode cX12_round 44 = .ok (.if_icmp .ge 109, 3) := by decide +kernel
theorem dX12_round_47 : decode cX12_round 47 = .ok (.iconst 0, 1) := by decide +kernel
theorem dX12_round_48 : decode cX12_round 48 = .ok (.istore 5, 2) := by decide +kernel
theorem dX12_round_50 : decode cX12_round 50 = .ok (.iconst 0, 1) := by decide +kernel
theorem dX12_round_51 : decode cX12_round 51 = .ok (.istore 6, 2) := by decide +kernel
theorem dX12_round_53 : decode cX12_round 53 = .ok (.iload 6, 2) := by decide +kernel
theorem dX12_round_55 : decode cX12_round 55 = .ok (.bipush 6, 2) := by decide +kernel
theorem dX12_round_57 : decode cX12_round 57 = .ok (.if_icmp .ge 21, 3) := by decide +kernel
theorem dX12_round_60 : decode cX12_round 60 = .ok (.aload_n 0, 1) := by decide +kernel
theorem dX12_round_61 : decode cX12_round 61 = .ok (.iload 6, 2) := by decide +kernel
theorem dX12_round_63 : decode cX12_round 63 = .ok (.invokevirtual 515, 3) := by decide +kernel
theorem dX12_round_66 : decode cX12_round 66 = .ok (.ifCond .eq 6, 3) := by decide +kernel
theorem dX12_round_69 : decode cX12_round 69 = .ok (.iinc 5 1, 3) := by decide +kernel
theorem dX12_round_72 : decode cX12_round 72 = .ok (.iinc 6 1, 3) := by decide +kernel
theorem dX12_round_75 : decode cX12_round 75 = .ok (.goto (-22), 3) := by decide +kernel
theorem dX12_round_78 : decode cX12_round 78 = .ok (.iload 5, 2) := by decide +kernel
theorem dX12_round_80 : decode cX12_round 80 = .ok (.ifCond .eq 9, 3) := by decide +kernel
theorem dX12_round_83 : decode cX12_round 83 = .ok (.iload_n 3, 1) := by decide +kernel
theorem dX12_round_84 : decode cX12_round 84 = .ok (.iload 5, 2) := by decide +kernel
theorem dX12_round_86 : decode cX12_round 86 = .ok (.if_icmp .lt 5, 3) := by decide +kernel
theorem dX12_round_89 : decode cX12_round 89 = .ok (.iload_n 2, 1) := by decide +kernel
theorem dX12_round_90 : decode cX12_round 90 = .ok (.ireturn, 1) := by decide +kernel
theorem dX12_round_91 : decode cX12_round 91 = .ok (.aload_n 0, 1) := by decide +kernel
theorem dX12_round_92 : decode cX12_round 92 = .ok (.iload 4, 2) := by decide +kernel
theorem dX12_round_94 : decode cX12_round 94 = .ok (.invokevirtual 515, 3) := by decide +kernel
theorem dX12_round_97 : decode cX12_round 97 = .ok (.ifCond .eq 44, 3) := by decide +kernel
theorem dX12_round_100 : decode cX12_round 100 = .ok (.aload_n 0, 1) := by decide +kernel
theorem dX12_round_101 : decode cX12_round 101 = .ok (.iload 4, 2) := by decide +kernel
theorem dX12_round_103 : decode cX12_round 103 = .ok (.invokevirtual 512, 3) := by decide +kernel
theorem dX12_round_106 : decode cX12_round 106 = .ok (.istore 6, 2) := by decide +kernel
theorem dX12_round_108 : decode cX12_round 108 = .ok (.aload_n 0, 1) := by decide +kernel
theorem dX12_round_109 : decode cX12_round 109 = .ok (.dup, 1) := by decide +kernel
theorem dX12_round_110 : decode cX12_round 110 = .ok (.getfield 341, 3) := by decide +kernel
theorem dX12_round_113 : decode cX12_round 113 = .ok (.iconst 1, 1) := by decide +kernel
theorem dX12_round_114 : decode cX12_round 114 = .ok (.iadd, 1) := by decide +kernel
theorem dX12_round_115 : decode cX12_round 115 = .ok (.putfield 341, 3) := by decide +kernel
theorem dX12_round_118 : decode cX12_round 118 = .ok (.iinc 2 1, 3) := by decide +kernel
theorem dX12_round_121 : decode cX12_round 121 = .ok (.iload 6, 2) := by decide +kernel
theorem dX12_round_123 : decode cX12_round 123 = .ok (.iconst 3, 1) := by decide +kernel
theorem dX12_round_124 : decode cX12_round 124 = .ok (.if_icmp .eq 9, 3) := by decide +kernel
theorem dX12_round_127 : decode cX12_round 127 = .ok (.iload 6, 2) := by decide +kernel
theorem dX12_round_129 : decode cX12_round 129 = .ok (.iconst 4, 1) := by decide +kernel
theorem dX12_round_130 : decode cX12_round 130 = .ok (.if_icmp .ne 9, 3) := by decide +kernel
theorem dX12_round_133 : decode cX12_round 133 = .ok (.iload_n 3, 1) := by decide +kernel
theorem dX12_round_134 : decode cX12_round 134 = .ok (.iconst 1, 1) := by decide +kernel
theorem dX12_round_135 : decode cX12_round 135 = .ok (.iadd, 1) := by decide +kernel
theorem dX12_round_136 : decode cX12_round 136 = .ok (.goto 4, 3) := by decide +kernel
theorem dX12_round_139 : decode cX12_round 139 = .ok (.iconst 0, 1) := by decide +kernel
theorem dX12_round_140 : decode cX12_round 140 = .ok (.istore_n 3, 1) := by decide +kernel
theorem dX12_round_141 : decode cX12_round 141 = .ok (.iload 4, 2) := by decide +kernel
theorem dX12_round_143 : decode cX12_round 143 = .ok (.iconst 1, 1) := by decide +kernel
theorem dX12_round_144 : decode cX12_round 144 = .ok (.iadd, 1) := by decide +kernel
theorem dX12_round_145 : decode cX12_round 145 = .ok (.bipush 6, 2) := by decide +kernel
theorem dX12_round_147 : decode cX12_round 147 = .ok (.irem, 1) := by decide +kernel
theorem dX12_round_148 : decode cX12_round 148 = .ok (.istore 4, 2) := by decide +kernel
theorem dX12_round_150 : decode cX12_round 150 = .ok (.goto (-118), 3) := by decide +kernel
theorem dX12_round_153 : decode cX12_round 153 = .ok (.iload_n 2, 1) := by decide +kernel
theorem dX12_round_154 : decode cX12_round 154 = .ok (.ireturn, 1) := by decide +kernel
theorem dX12_said_0 : decode cX12_said 0 = .ok (.aload_n 0, 1) := by decide +kernel
theorem dX12_said_1 : decode cX12_said 1 = .ok (.iload_n 1, 1) := by decide +kernel
theorem dX12_said_2 : decode cX12_said 2 = .ok (.ifCond .lt 11, 3) := by decide +kernel
theorem dX12_said_5 : decode cX12_said 5 = .ok (.iload_n 1, 1) := by decide +kernel
theorem dX12_said_6 : decode cX12_said 6 = .ok (.aload_n 0, 1) := by decide +kernel
theorem dX12_said_7 : decode cX12_said 7 = .ok (.getfield 335, 3) := by decide +kernel
theorem dX12_said_10 : decode cX12_said 10 = .ok (.if_icmp .lt 7, 3) := by decide +kernel
theorem dX12_said_13 : decode cX12_said 13 = .ok (.iconst 1, 1) := by decide +kernel
theorem dX12_said_14 : decode cX12_said 14 = .ok (.goto 4, 3) := by decide +kernel
theorem dX12_said_17 : decode cX12_said 17 = .ok (.iconst 0, 1) := by decide +kernel
theorem dX12_said_18 : decode cX12_said 18 = .ok (.invokevirtual 497, 3) := by decide +kernel
theorem dX12_said_21 : decode cX12_said 21 = .ok (.ifCond .eq 5, 3) := by decide +kernel
theorem dX12_said_24 : decode cX12_said 24 = .ok (.iconst 0, 1) := by decide +kernel
theorem dX12_said_25 : decode cX12_said 25 = .ok (.ireturn, 1) := by decide +kernel
theorem dX12_said_26 : decode cX12_said 26 = .ok (.iload_n 2, 1) := by decide +kernel
theorem dX12_said_27 : decode cX12_said 27 = .ok (.ifCond .eq 12, 3) := by decide +kernel
theorem dX12_said_30 : decode cX12_said 30 = .ok (.aload_n 0, 1) := by decide +kernel
theorem dX12_said_31 : decode cX12_said 31 = .ok (.getfield 293, 3) := by decide +kernel
theorem dX12_said_34 : decode cX12_said 34 = .ok (.iload_n 1, 1) := by decide +kernel
theorem dX12_said_35 : decode cX12_said 35 = .ok (.iaload, 1) := by decide +kernel
theorem dX12_said_36 : decode cX12_said 36 = .ok (.goto 9, 3) := by decide +kernel
theorem dX12_said_39 : decode cX12_said 39 = .ok (.aload_n 0, 1) := by decide +kernel
theorem dX12_said_40 : decode cX12_said 40 = .ok (.getfield 290, 3) := by decide +kernel
theorem dX12_said_43 : decode cX12_said 43 = .ok (.iload_n 1, 1) := by decide +kernel
theorem dX12_said_44 : decode cX12_said 44 = .ok (.iaload, 1) := by decide +kernel
theorem dX12_said_45 : decode cX12_said 45 = .ok (.ireturn, 1) := by decide +kernel
theorem dX12_say_0 : decode cX12_say 0 = .ok (.aload_n 0, 1) := by decide +kernel
theorem dX12_say_1 : decode cX12_say 1 = .ok (.getfield 335, 3) := by decide +kernel
theorem dX12_say_4 : decode cX12_say 4 = .ok (.sipush 200, 3) := by decide +kernel
theorem dX12_say_7 : decode cX12_say 7 = .ok (.if_icmp .ne 4, 3) := by decide +kernel
theorem dX12_say_10 : decode cX12_say 10 = .ok (.return_, 1) := by decide +kernel
theorem dX12_say_11 : decode cX12_say 11 = .ok (.aload_n 0, 1) := by decide +kernel
theorem dX12_say_12 : decode cX12_say 12 = .ok (.getfield 290, 3) := by decide +kernel
theorem dX12_say_15 : decode cX12_say 15 = .ok (.aload_n 0, 1) := by decide +kernel
theorem dX12_say_16 : decode cX12_say 16 = .ok (.getfield 335, 3) := by decide +kernel
theorem dX12_say_19 : decode cX12_say 19 = .ok (.iload_n 2, 1) := by decide +kernel
theorem dX12_say_20 : decode cX12_say 20 = .ok (.iastore, 1) := by decide +kernel
theorem dX12_say_21 : decode cX12_say 21 = .ok (.aload_n 0, 1) := by decide +kernel
theorem dX12_say_22 : decode cX12_say 22 = .ok (.getfield 293, 3) := by decide +kernel
theorem dX12_say_25 : decode cX12_say 25 = .ok (.aload_n 0, 1) := by decide +kernel
theorem dX12_say_26 : decode cX12_say 26 = .ok (.getfield 335, 3) := by decide +kernel
theorem dX12_say_29 : decode cX12_say 29 = .ok (.iload_n 1, 1) := by decide +kernel
theorem dX12_say_30 : decode cX12_say 30 = .ok (.iastore, 1) := by decide +kernel
theorem dX12_say_31 : decode cX12_say 31 = .ok (.aload_n 0, 1) := by decide +kernel
theorem dX12_say_32 : decode cX12_say 32 = .ok (.dup, 1) := by decide +kernel
theorem dX12_say_33 : decode cX12_say 33 = .ok (.getfield 335, 3) := by decide +kernel
theorem dX12_say_36 : decode cX12_say 36 = .ok (.iconst 1, 1) := by decide +kernel
theorem dX12_say_37 : decode cX12_say 37 = .ok (.iadd, 1) := by decide +kernel
theorem dX12_say_38 : decode cX12_say 38 = .ok (.putfield 335, 3) := by decide +kernel
theorem dX12_say_41 : decode cX12_say 41 = .ok (.return_, 1) := by decide +kernel
theorem dX12_simple_0 : decode cX12_simple 0 = .ok (.aload_n 0, 1) := by decide +kernel
theorem dX12_simple_1 : decode cX12_simple 1 = .ok (.getfield 49, 3) := by decide +kernel
theorem dX12_simple_4 : decode cX12_simple 4 = .ok (.istore_n 1, 1) := by decide +kernel
theorem dX12_simple_5 : decode cX12_simple 5 = .ok (.aload_n 0, 1) := by decide +kernel
theorem dX12_simple_6 : decode cX12_simple 6 = .ok (.getfield 42, 3) := by decide +kernel
theorem dX12_simple_9 : decode cX12_simple 9 = .ok (.iconst 4, 1) := by decide +kernel
theorem dX12_simple_10 : decode cX12_simple 10 = .ok (.if_icmp .eq 19, 3) := by decide +kernel
theorem dX12_simple_13 : decode cX12_simple 13 = .ok (.aload_n 0, 1) := by decide +kernel
theorem dX12_simple_14 : decode cX12_simple 14 = .ok (.getfield 42, 3) := by decide +kernel
theorem dX12_simple_17 : decode cX12_simple 17 = .ok (.iconst 1, 1) := by decide +kernel
theorem dX12_simple_18 : decode cX12_simple 18 = .ok (.if_icmp .eq 11, 3) := by decide +kernel
theorem dX12_simple_21 : decode cX12_simple 21 = .ok (.aload_n 0, 1) := by decide +kernel
theorem dX12_simple_22 : decode cX12_simple 22 = .ok (.getfield 42, 3) := by decide +kernel
theorem dX12_simple_25 : decode cX12_simple 25 = .ok (.iconst 2, 1) := by decide +kernel
theorem dX12_simple_26 : decode cX12_simple 26 = .ok (.if_icmp .ne 42, 3) := by decide +kernel
theorem dX12_simple_29 : decode cX12_simple 29 = .ok (.aload_n 0, 1) := by decide +kernel
theorem dX12_simple_30 : decode cX12_simple 30 = .ok (.aload_n 0, 1) := by decide +kernel
theorem dX12_simple_31 : decode cX12_simple 31 = .ok (.getfield 42, 3) := by decide +kernel
theorem dX12_simple_34 : decode cX12_simple 34 = .ok (.iconst 4, 1) := by decide +kernel
theorem dX12_simple_35 : decode cX12_simple 35 = .ok (.if_icmp .ne 7, 3) := by decide +kernel
theorem dX12_simple_38 : decode cX12_simple 38 = .ok (.iconst 0, 1) := by decide +kernel
theorem dX12_simple_39 : decode cX12_simple 39 = .ok (.goto 16, 3) := by decide +kernel
theorem dX12_simple_42 : decode cX12_simple 42 = .ok (.aload_n 0, 1) := by decide +kernel
theorem dX12_simple_43 : decode cX12_simple 43 = .ok (.getfield 42, 3) := by decide +kernel
theorem dX12_simple_46 : decode cX12_simple 46 = .ok (.iconst 1, 1) := by decide +kernel
theorem dX12_simple_47 : decode cX12_simple 47 = .ok (.if_icmp .ne 7, 3) := by decide +kernel
theorem dX12_simple_50 : decode cX12_simple 50 = .ok (.iconst 2, 1) := by decide +kernel
theorem dX12_simple_51 : decode cX12_simple 51 = .ok (.goto 4, 3) := by decide +kernel
theorem dX12_simple_54 : decode cX12_simple 54 = .ok (.iconst 1, 1) := by decide +kernel
theorem dX12_simple_55 : decode cX12_simple 55 = .ok (.iload_n 1, 1) := by decide +kernel
theorem dX12_simple_56 : decode cX12_simple 56 = .ok (.iconst 0, 1) := by decide +kernel
theorem dX12_simple_57 : decode cX12_simple 57 = .ok (.invokevirtual 87, 3) := by decide +kernel
theorem dX12_simple_60 : decode cX12_simple 60 = .ok (.istore_n 2, 1) := by decide +kernel
theorem dX12_simple_61 : decode cX12_simple 61 = .ok (.aload_n 0, 1) := by decide +kernel
theorem dX12_simple_62 : decode cX12_simple 62 = .ok (.invokevirtual 63, 3) := by decide +kernel
theorem dX12_simple_65 : decode cX12_simple 65 = .ok (.goto 95, 3) := by decide +kernel
theorem dX12_simple_68 : decode cX12_simple 68 = .ok (.aload_n 0, 1) := by decide +kernel
theorem dX12_simple_69 : decode cX12_simple 69 = .ok (.bipush 40, 2) := by decide +kernel
theorem dX12_simple_71 : decode cX12_simple 71 = .ok (.invokevirtual 60, 3) := by decide +kernel
theorem dX12_simple_74 : decode cX12_simple 74 = .ok (.ifCond .eq 34, 3) := by decide +kernel
theorem dX12_simple_77 : decode cX12_simple 77 = .ok (.aload_n 0, 1) := by decide +kernel
theorem dX12_simple_78 : decode cX12_simple 78 = .ok (.invokevirtual 97, 3) := by decide +kernel
theorem dX12_simple_81 : decode cX12_simple 81 = .ok (.aload_n 0, 1) := by decide +kernel
theorem dX12_simple_82 : decode cX12_simple 82 = .ok (.invokevirtual 63, 3) := by decide +kernel
theorem dX12_simple_85 : decode cX12_simple 85 = .ok (.aload_n 0, 1) := by decide +kernel
theorem dX12_simple_86 : decode cX12_simple 86 = .ok (.invokevirtual 100, 3) := by decide +kernel
theorem dX12_simple_89 : decode cX12_simple 89 = .ok (.aload_n 0, 1) := by decide +kernel
theorem dX12_simple_90 : decode cX12_simple 90 = .ok (.bipush 41, 2) := by decide +kernel
theorem dX12_simple_92 : decode cX12_simple 92 = .ok (.invokevirtual 103, 3) := by decide +kernel
theorem dX12_simple_95 : decode cX12_simple 95 = .ok (.aload_n 0, 1) := by decide +kernel
theorem dX12_simple_96 : decode cX12_simple 96 = .ok (.dup, 1) := by decide +kernel
theorem dX12_simple_97 : decode cX12_simple 97 = .ok (.getfield 81, 3) := by decide +kernel
theorem dX12_simple_100 : decode cX12_simple 100 = .ok (.iconst 1, 1) := by decide +kernel
theorem dX12_simple_101 : decode cX12_simple 101 = .ok (.isub, 1) := by decide +kernel
theorem dX12_simple_102 : decode cX12_simple 102 = .ok (.putfield 81, 3) := by decide +kernel
theorem dX12_simple_105 : decode cX12_simple 105 = .ok (.goto 55, 3) := by decide +kernel
theorem dX12_simple_108 : decode cX12_simple 108 = .ok (.aload_n 0, 1) := by decide +kernel
theorem dX12_simple_109 : decode cX12_simple 109 = .ok (.bipush 45, 2) := by decide +kernel
theorem dX12_simple_111 : decode cX12_simple 111 = .ok (.invokevirtual 60, 3) := by decide +kernel
theorem dX12_simple_114 : decode cX12_simple 114 = .ok (.ifCond .eq 37, 3) := by decide +kernel
theorem dX12_simple_117 : decode cX12_simple 117 = .ok (.aload_n 0, 1) := by decide +kernel
theorem dX12_simple_118 : decode cX12_simple 118 = .ok (.invokevirtual 97, 3) := by decide +kernel
theorem dX12_simple_121 : decode cX12_simple 121 = .ok (.aload_n 0, 1) := by decide +kernel
theorem dX12_simple_122 : decode cX12_simple 122 = .ok (.invokevirtual 63, 3) := by decide +kernel
theorem dX12_simple_125 : decode cX12_simple 125 = .ok (.aload_n 0, 1) := by decide +kernel
theorem dX12_simple_126 : decode cX12_simple 126 = .ok (.invokevirtual 94, 3) := by decide +kernel
theorem dX12_simple_129 : decode cX12_simple 129 = .ok (.aload_n 0, 1) := by decide +kernel
theorem dX12_simple_130 : decode cX12_simple 130 = .ok (.dup, 1) := by decide +kernel
theorem dX12_simple_131 : decode cX12_simple 131 = .ok (.getfield 81, 3) := by decide +kernel
theorem dX12_simple_134 : decode cX12_simple 134 = .ok (.iconst 1, 1) := by decide +kernel
theorem dX12_simple_135 : decode cX12_simple 135 = .ok (.isub, 1) := by decide +kernel
theorem dX12_simple_136 : decode cX12_simple 136 = .ok (.putfield 81, 3) := by decide +kernel
theorem dX12_simple_139 : decode cX12_simple 139 = .ok (.aload_n 0, 1) := by decide +kernel
theorem dX12_simple_140 : decode cX12_simple 140 = .ok (.bipush 6, 2) := by decide +kernel
theorem dX12_simple_142 : decode cX12_simple 142 = .ok (.iconst 0, 1) := by decide +kernel
theorem dX12_simple_143 : decode cX12_simple 143 = .ok (.iconst 0, 1) := by decide +kernel
theorem dX12_simple_144 : decode cX12_simple 144 = .ok (.invokevirtual 87, 3) := by decide +kernel
theorem dX12_simple_147 : decode cX12_simple 147 = .ok (.istore_n 2, 1) := by decide +kernel
theorem dX12_simple_148 : decode cX12_simple 148 = .ok (.goto 12, 3) := by decide +kernel
theorem dX12_simple_151 : decode cX12_simple 151 = .ok (.aload_n 0, 1) := by decide +kernel
theorem dX12_simple_152 : decode cX12_simple 152 = .ok (.aload_n 0, 1) := by decide +kernel
theorem dX12_simple_153 : decode cX12_simple 153 = .ok (.getfield 39, 3) := by decide +kernel
theorem dX12_simple_156 : decode cX12_simple 156 = .ok (.invokevirtual 70, 3) := by decide +kernel
theorem dX12_simple_159 : decode cX12_simple 159 = .ok (.athrow, 1) := by decide +kernel
theorem dX12_simple_160 : decode cX12_simple 160 = .ok (.return_, 1) := by decide +kernel
theorem dX12_start_0 : decode cX12_start 0 = .ok (.aload_n 0, 1) := by decide +kernel
theorem dX12_start_1 : decode cX12_start 1 = .ok (.iload_n 1, 1) := by decide +kernel
theorem dX12_start_2 : decode cX12_start 2 = .ok (.ifCond .lt 8, 3) := by decide +kernel
theorem dX12_start_5 : decode cX12_start 5 = .ok (.iload_n 1, 1) := by decide +kernel
theorem dX12_start_6 : decode cX12_start 6 = .ok (.iconst 4, 1) := by decide +kernel
theorem dX12_start_7 : decode cX12_start 7 = .ok (.if_icmp .le 7, 3) := by decide +kernel
theorem dX12_start_10 : decode cX12_start 10 = .ok (.iconst 1, 1) := by decide +kernel
theorem dX12_start_11 : decode cX12_start 11 = .ok (.goto 4, 3) := by decide +kernel
theorem dX12_start_14 : decode cX12_start 14 = .ok (.iconst 0, 1) := by decide +kernel
theorem dX12_start_15 : decode cX12_start 15 = .ok (.invokevirtual 497, 3) := by decide +kernel
theorem dX12_start_18 : decode cX12_start 18 = .ok (.ifCond .eq 4, 3) := by decide +kernel
theorem dX12_start_21 : decode cX12_start 21 = .ok (.return_, 1) := by decide +kernel
theorem dX12_start_22 : decode cX12_start 22 = .ok (.aload_n 0, 1) := by decide +kernel
theorem dX12_start_23 : decode cX12_start 23 = .ok (.iload_n 1, 1) := by decide +kernel
theorem dX12_start_24 : decode cX12_start 24 = .ok (.invokevirtual 329, 3) := by decide +kernel
theorem dX12_start_27 : decode cX12_start 27 = .ok (.return_, 1) := by decide +kernel
theorem dX12_statement_0 : decode cX12_statement 0 = .ok (.aload_n 0, 1) := by decide +kernel
theorem dX12_statement_1 : decode cX12_statement 1 = .ok (.getfield 42, 3) := by decide +kernel
theorem dX12_statement_4 : decode cX12_statement 4 = .ok (.ifCond .eq 10, 3) := by decide +kernel
theorem dX12_statement_7 : decode cX12_statement 7 = .ok (.aload_n 0, 1) := by decide +kernel
theorem dX12_statement_8 : decode cX12_statement 8 = .ok (.getfield 42, 3) := by decide +kernel
theorem dX12_statement_11 : decode cX12_statement 11 = .ok (.ifCond .ge 12, 3) := by decide +kernel
theorem dX12_statement_14 : decode cX12_statement 14 = .ok (.aload_n 0, 1) := by decide +kernel
theorem dX12_statement_15 : decode cX12_statement 15 = .ok (.aload_n 0, 1) := by decide +kernel
theorem dX12_statement_16 : decode cX12_statement 16 = .ok (.getfield 39, 3) := by decide +kernel
theorem dX12_statement_19 : decode cX12_statement 19 = .ok (.invokevirtual 70, 3) := by decide +kernel
theorem dX12_statement_22 : decode cX12_statement 22 = .ok (.athrow, 1) := by decide +kernel
theorem dX12_statement_23 : decode cX12_statement 23 = .ok (.aload_n 0, 1) := by decide +kernel
theorem dX12_statement_24 : decode cX12_statement 24 = .ok (.getfield 42, 3) := by decide +kernel
theorem dX12_statement_27 : decode cX12_statement 27 = .ok (.istore_n 1, 1) := by decide +kernel
theorem dX12_statement_28 : decode cX12_statement 28 = .ok (.aload_n 0, 1) := by decide +kernel
theorem dX12_statement_29 : decode cX12_statement 29 = .ok (.getfield 49, 3) := by decide +kernel
theorem dX12_statement_32 : decode cX12_statement 32 = .ok (.istore_n 2, 1) := by decide +kernel
theorem dX12_statement_33 : decode cX12_statement 33 = .ok (.iload_n 1, 1) := by decide +kernel
theorem dX12_statement_34 : decode cX12_statement 34 = .ok (.iconst 1, 1) := by decide +kernel
theorem dX12_statement_35 : decode cX12_statement 35 = .ok (.if_icmp .eq 30, 3) := by decide +kernel
theorem dX12_statement_38 : decode cX12_statement 38 = .ok (.iload_n 1, 1) := by decide +kernel
theorem dX12_statement_39 : decode cX12_statement 39 = .ok (.iconst 2, 1) := by decide +kernel
theorem dX12_statement_40 : decode cX12_statement 40 = .ok (.if_icmp .eq 25, 3) := by decide +kernel
theorem dX12_statement_43 : decode cX12_statement 43 = .ok (.iload_n 1, 1) := by decide +kernel
theorem dX12_statement_44 : decode cX12_statement 44 = .ok (.iconst 3, 1) := by decide +kernel
theorem dX12_statement_45 : decode cX12_statement 45 = .ok (.if_icmp .ne 24, 3) := by decide +kernel
theorem dX12_statement_48 : decode cX12_statement 48 = .ok (.iload_n 2, 1) := by decide +kernel
theorem dX12_statement_49 : decode cX12_statement 49 = .ok (.iconst 1, 1) := by decide +kernel
theorem dX12_statement_50 : decode cX12_statement 50 = .ok (.if_icmp .eq 19, 3) := by decide +kernel
theorem dX12_statement_53 : decode cX12_statement 53 = .ok (.iload_n 2, 1) := by decide +kernel
theorem dX12_statement_54 : decode cX12_statement 54 = .ok (.bipush 6, 2) := by decide +kernel
theorem dX12_statement_56 : decode cX12_statement 56 = .ok (.if_icmp .eq 13, 3) := by decide +kernel
theorem dX12_statement_59 : decode cX12_statement 59 = .ok (.iload_n 2, 1) := by decide +kernel
theorem dX12_statement_60 : decode cX12_statement 60 = .ok (.bipush 11, 2) := by decide +kernel
theorem dX12_statement_62 : decode cX12_statement 62 = .ok (.if_icmp .eq 7, 3) := by decide +kernel
theorem dX12_statement_65 : decode cX12_statement 65 = .ok (.iconst 1, 1) := by decide +kernel
theorem dX12_statement_66 : decode cX12_statement 66 = .ok (.goto 4, 3) := by decide +kernel
theorem dX12_statement_69 : decode cX12_statement 69 = .ok (.iconst 0, 1) := by decide +kernel
theorem dX12_statement_70 : decode cX12_statement 70 = .ok (.istore_n 3, 1) := by decide +kernel
theorem dX12_statement_71 : decode cX12_statement 71 = .ok (.iload_n 3, 1) := by decide +kernel
theorem dX12_statement_72 : decode cX12_statement 72 = .ok (.ifCond .eq 27, 3) := by decide +kernel
theorem dX12_statement_75 : decode cX12_statement 75 = .ok (.iload_n 1, 1) := by decide +kernel
theorem dX12_statement_76 : decode cX12_statement 76 = .ok (.iconst 3, 1) := by decide +kernel
theorem dX12_statement_77 : decode cX12_statement 77 = .ok (.if_icmp .ne 31, 3) := by decide +kernel
theorem dX12_statement_80 : decode cX12_statement 80 = .ok (.iload_n 2, 1) := by decide +kernel
theorem dX12_statement_81 : decode cX12_statement 81 = .ok (.bipush 7, 2) := by decide +kernel
theorem dX12_statement_83 : decode cX12_statement 83 = .ok (.if_icmp .eq 9, 3) := by decide +kernel
theorem dX12_statement_86 : decode cX12_statement 86 = .ok (.iload_n 2, 1) := by decide +kernel
theorem dX12_statement_87 : decode cX12_statement 87 = .ok (.bipush 8, 2) := by decide +kernel
theorem dX12_statement_89 : decode cX12_statement 89 = .ok (.if_icmp .ne 19, 3) := by decide +kernel
theorem dX12_statement_92 : decode cX12_statement 92 = .ok (.aload_n 0, 1) := by decide +kernel
theorem dX12_statement_93 : decode cX12_statement 93 = .ok (.getfield 110, 3) := by decide +kernel
theorem dX12_statement_96 : decode cX12_statement 96 = .ok (.ifCond .ne 12, 3) := by decide +kernel
theorem dX12_statement_99 : decode cX12_statement 99 = .ok (.aload_n 0, 1) := by decide +kernel
theorem dX12_statement_100 : decode cX12_statement 100 = .ok (.aload_n 0, 1) := by decide +kernel
theorem dX12_statement_101 : decode cX12_statement 101 = .ok (.getfield 39, 3) := by decide +kernel
theorem dX12_statement_104 : decode cX12_statement 104 = .ok (.invokevirtual 70, 3) := by decide +kernel
theorem dX12_statement_107 : decode cX12_statement 107 = .ok (.athrow, 1) := by decide +kernel
theorem dX12_statement_108 : decode cX12_statement 108 = .ok (.aload_n 0, 1) := by decide +kernel
theorem dX12_statement_109 : decode cX12_statement 109 = .ok (.getfield 113, 3) := by decide +kernel
theorem dX12_statement_112 : decode cX12_statement 112 = .ok (.sipush 300, 3) := by decide +kernel
theorem dX12_statement_115 : decode cX12_statement 115 = .ok (.if_icmp .ne 12, 3) := by decide +kernel
theorem dX12_statement_118 : decode cX12_statement 118 = .ok (.aload_n 0, 1) := by decide +kernel
theorem dX12_statement_119 : decode cX12_statement 119 = .ok (.aload_n 0, 1) := by decide +kernel
theorem dX12_statement_120 : decode cX12_statement 120 = .ok (.getfield 39, 3) := by decide +kernel
theorem dX12_statement_123 : decode cX12_statement 123 = .ok (.invokevirtual 70, 3) := by decide +kernel
theorem dX12_statement_126 : decode cX12_statement 126 = .ok (.athrow, 1) := by decide +kernel
theorem dX12_statement_127 : decode cX12_statement 127 = .ok (.aload_n 0, 1) := by decide +kernel
theorem dX12_statement_128 : decode cX12_statement 128 = .ok (.dup, 1) := by decide +kernel
theorem dX12_statement_129 : decode cX12_statement 129 = .ok (.getfield 113, 3) := by decide +kernel
theorem dX12_statement_132 : decode cX12_statement 132 = .ok (.iconst 1, 1) := by decide +kernel
theorem dX12_statement_133 : decode cX12_statement 133 = .ok (.iadd, 1) := by decide +kernel
theorem dX12_statement_134 : decode cX12_statement 134 = .ok (.putfield 113, 3) := by decide +kernel
theorem dX12_statement_137 : decode cX12_statement 137 = .ok (.aload_n 0, 1) := by decide +kernel
theorem dX12_statement_138 : decode cX12_statement 138 = .ok (.invokevirtual 63, 3) := by decide +kernel
theorem dX12_statement_141 : decode cX12_statement 141 = .ok (.iload_n 1, 1) := by decide +kernel
theorem dX12_statement_142 : decode cX12_statement 142 = .ok (.iconst 3, 1) := by decide +kernel
theorem dX12_statement_143 : decode cX12_statement 143 = .ok (.if_icmp .eq 40, 3) := by decide +kernel
theorem dX12_statement_146 : decode cX12_statement 146 = .ok (.aload_n 0, 1) := by decide +kernel
theorem dX12_statement_147 : decode cX12_statement 147 = .ok (.bipush 61, 2) := by decide +kernel
theorem dX12_statement_149 : decode cX12_statement 149 = .ok (.invokevirtual 103, 3) := by decide +kernel
theorem dX12_statement_152 : decode cX12_statement 152 = .ok (.aload_n 0, 1) := by decide +kernel
theorem dX12_statement_153 : decode cX12_statement 153 = .ok (.invokevirtual 100, 3) := by decide +kernel
theorem dX12_statement_156 : decode cX12_statement 156 = .ok (.aload_n 0, 1) := by decide +kernel
theorem dX12_statement_157 : decode cX12_statement 157 = .ok (.bipush 59, 2) := by decide +kernel
theorem dX12_statement_159 : decode cX12_statement 159 = .ok (.invokevirtual 103, 3) := by decide +kernel
theorem dX12_statement_162 : decode cX12_statement 162 = .ok (.aload_n 0, 1) := by decide +kernel
theorem dX12_statement_163 : decode cX12_statement 163 = .ok (.iload_n 1, 1) := by decide +kernel
theorem dX12_statement_164 : decode cX12_statement 164 = .ok (.iconst 1, 1) := by decide +kernel
theorem dX12_statement_165 : decode cX12_statement 165 = .ok (.if_icmp .ne 8, 3) := by decide +kernel
theorem dX12_statement_168 : decode cX12_statement 168 = .ok (.bipush 10, 2) := by decide +kernel
theorem dX12_statement_170 : decode cX12_statement 170 = .ok (.goto 5, 3) := by decide +kernel
theorem dX12_statement_173 : decode cX12_statement 173 = .ok (.bipush 9, 2) := by decide +kernel
theorem dX12_statement_175 : decode cX12_statement 175 = .ok (.iload_n 2, 1) := by decide +kernel
theorem dX12_statement_176 : decode cX12_statement 176 = .ok (.iconst 0, 1) := by decide +kernel
theorem dX12_statement_177 : decode cX12_statement 177 = .ok (.invokevirtual 87, 3) := by decide +kernel
theorem dX12_statement_180 : decode cX12_statement 180 = .ok (.istore 4, 2) := by decide +kernel
theorem dX12_statement_182 : decode cX12_statement 182 = .ok (.return_, 1) := by decide +kernel
theorem dX12_statement_183 : decode cX12_statement 183 = .ok (.iload_n 2, 1) := by decide +kernel
theorem dX12_statement_184 : decode cX12_statement 184 = .ok (.tableswitch 288 0 10 #[60, 288, 155, 218, 288, 288, 288, 251, 251, 218, 281], 60) := by decide +kernel
theorem dX12_statement_244 : decode cX12_statement 244 = .ok (.aload_n 0, 1) := by decide +kernel
theorem dX12_statement_245 : decode cX12_statement 245 = .ok (.invokevirtual 116, 3) := by decide +kernel
theorem dX12_statement_248 : decode cX12_statement 248 = .ok (.aload_n 0, 1) := by decide +kernel
theorem dX12_statement_249 : decode cX12_statement 249 = .ok (.bipush 11, 2) := by decide +kernel
theorem dX12_statement_251 : decode cX12_statement 251 = .ok (.iconst 0, 1) := by decide +kernel
theorem dX12_statement_252 : decode cX12_statement 252 = .ok (.iconst 0, 1) := by decide +kernel
theorem dX12_statement_253 : decode cX12_statement 253 = .ok (.invokevirtual 87, 3) := by decide +kernel
theorem dX12_statement_256 : decode cX12_statement 256 = .ok (.istore 5, 2) := by decide +kernel
theorem dX12_statement_258 : decode cX12_statement 258 = .ok (.aload_n 0, 1) := by decide +kernel
theorem dX12_statement_259 : decode cX12_statement 259 = .ok (.invokevirtual 119, 3) := by decide +kernel
theorem dX12_statement_262 : decode cX12_statement 262 = .ok (.aload_n 0, 1) := by decide +kernel
theorem dX12_statement_263 : decode cX12_statement 263 = .ok (.iconst 1, 1) := by decide +kernel
theorem dX12_statement_264 : decode cX12_statement 264 = .ok (.invokevirtual 122, 3) := by decide +kernel
theorem dX12_statement_267 : decode cX12_statement 267 = .ok (.ifCond .eq 54, 3) := by decide +kernel
theorem dX12_statement_270 : decode cX12_statement 270 = .ok (.aload_n 0, 1) := by decide +kernel
theorem dX12_statement_271 : decode cX12_statement 271 = .ok (.invokevirtual 63, 3) := by decide +kernel
theorem dX12_statement_274 : decode cX12_statement 274 = .ok (.aload_n 0, 1) := by decide +kernel
theorem dX12_statement_275 : decode cX12_statement 275 = .ok (.bipush 12, 2) := by decide +kernel
theorem dX12_statement_277 : decode cX12_statement 277 = .ok (.iconst 0, 1) := by decide +kernel
theorem dX12_statement_278 : decode cX12_statement 278 = .ok (.iconst 0, 1) := by decide +kernel
theorem dX12_statement_279 : decode cX12_statement 279 = .ok (.invokevirtual 87, 3) := by decide +kernel
theorem dX12_statement_282 : decode cX12_statement 282 = .ok (.istore 6, 2) := by decide +kernel
theorem dX12_statement_284 : decode cX12_statement 284 = .ok (.aload_n 0, 1) := by decide +kernel
theorem dX12_statement_285 : decode cX12_statement 285 = .ok (.getfield 74, 3) := by decide +kernel
theorem dX12_statement_288 : decode cX12_statement 288 = .ok (.iconst 3, 1) := by decide +kernel
theorem dX12_statement_289 : decode cX12_statement 289 = .ok (.iload 5, 2) := by decide +kernel
theorem dX12_statement_291 : decode cX12_statement 291 = .ok (.imul, 1) := by decide +kernel
theorem dX12_statement_292 : decode cX12_statement 292 = .ok (.iconst 1, 1) := by decide +kernel
theorem dX12_statement_293 : decode cX12_statement 293 = .ok (.iadd, 1) := by decide +kernel
theorem dX12_statement_294 : decode cX12_statement 294 = .ok (.aload_n 0, 1) := by decide +kernel
theorem dX12_statement_295 : decode cX12_statement 295 = .ok (.getfield 78, 3) := by decide +kernel
theorem dX12_statement_298 : decode cX12_statement 298 = .ok (.iastore, 1) := by decide +kernel
theorem dX12_statement_299 : decode cX12_statement 299 = .ok (.aload_n 0, 1) := by decide +kernel
theorem dX12_statement_300 : decode cX12_statement 300 = .ok (.invokevirtual 119, 3) := by decide +kernel
theorem dX12_statement_303 : decode cX12_statement 303 = .ok (.aload_n 0, 1) := by decide +kernel
theorem dX12_statement_304 : decode cX12_statement 304 = .ok (.getfield 74, 3) := by decide +kernel
theorem dX12_statement_307 : decode cX12_statement 307 = .ok (.iconst 3, 1) := by decide +kernel
theorem dX12_statement_308 : decode cX12_statement 308 = .ok (.iload 6, 2) := by decide +kernel
theorem dX12_statement_310 : decode cX12_statement 310 = .ok (.imul, 1) := by decide +kernel
theorem dX12_statement_311 : decode cX12_statement 311 = .ok (.iconst 1, 1) := by decide +kernel
theorem dX12_statement_312 : decode cX12_statement 312 = .ok (.iadd, 1) := by decide +kernel
theorem dX12_statement_313 : decode cX12_statement 313 = .ok (.aload_n 0, 1) := by decide +kernel
theorem dX12_statement_314 : decode cX12_statement 314 = .ok (.getfield 78, 3) := by decide +kernel
theorem dX12_statement_317 : decode cX12_statement 317 = .ok (.iastore, 1) := by decide +kernel
theorem dX12_statement_318 : decode cX12_statement 318 = .ok (.goto 168, 3) := by decide +kernel
theorem dX12_statement_321 : decode cX12_statement 321 = .ok (.aload_n 0, 1) := by decide +kernel
theorem dX12_statement_322 : decode cX12_statement 322 = .ok (.getfield 74, 3) := by decide +kernel
theorem dX12_statement_325 : decode cX12_statement 325 = .ok (.iconst 3, 1) := by decide +kernel
theorem dX12_statement_326 : decode cX12_statement 326 = .ok (.iload 5, 2) := by decide +kernel
theorem dX12_statement_328 : decode cX12_statement 328 = .ok (.imul, 1) := by decide +kernel
theorem dX12_statement_329 : decode cX12_statement 329 = .ok (.iconst 1, 1) := by decide +kernel
theorem dX12_statement_330 : decode cX12_statement 330 = .ok (.iadd, 1) := by decide +kernel
theorem dX12_statement_331 : decode cX12_statement 331 = .ok (.aload_n 0, 1) := by decide +kernel
theorem dX12_statement_332 : decode cX12_statement 332 = .ok (.getfield 78, 3) := by decide +kernel
theorem dX12_statement_335 : decode cX12_statement 335 = .ok (.iastore, 1) := by decide +kernel
theorem dX12_statement_336 : decode cX12_statement 336 = .ok (.goto 150, 3) := by decide +kernel
theorem dX12_statement_339 : decode cX12_statement 339 = .ok (.aload_n 0, 1) := by decide +kernel
theorem dX12_statement_340 : decode cX12_statement 340 = .ok (.getfield 78, 3) := by decide +kernel
theorem dX12_statement_343 : decode cX12_statement 343 = .ok (.istore 5, 2) := by decide +kernel
theorem dX12_statement_345 : decode cX12_statement 345 = .ok (.aload_n 0, 1) := by decide +kernel
theorem dX12_statement_346 : decode cX12_statement 346 = .ok (.invokevirtual 116, 3) := by decide +kernel
theorem dX12_statement_349 : decode cX12_statement 349 = .ok (.aload_n 0, 1) := by decide +kernel
theorem dX12_statement_350 : decode cX12_statement 350 = .ok (.bipush 11, 2) := by decide +kernel
theorem dX12_statement_352 : decode cX12_statement 352 = .ok (.iconst 0, 1) := by decide +kernel
theorem dX12_statement_353 : decode cX12_statement 353 = .ok (.iconst 0, 1) := by decide +kernel
theorem dX12_statement_354 : decode cX12_statement 354 = .ok (.invokevirtual 87, 3) := by decide +kernel
theorem dX12_statement_357 : decode cX12_statement 357 = .ok (.istore 6, 2) := by decide +kernel
theorem dX12_statement_359 : decode cX12_statement 359 = .ok (.aload_n 0, 1) := by decide +kernel
theorem dX12_statement_360 : decode cX12_statement 360 = .ok (.bipush 13, 2) := by decide +kernel
theorem dX12_statement_362 : decode cX12_statement 362 = .ok (.iconst 0, 1) := by decide +kernel
theorem dX12_statement_363 : decode cX12_statement 363 = .ok (.iconst 0, 1) := by decide +kernel
theorem dX12_statement_364 : decode cX12_statement 364 = .ok (.invokevirtual 87, 3) := by decide +kernel
theorem dX12_statement_367 : decode cX12_statement 367 = .ok (.istore 4, 2) := by decide +kernel
theorem dX12_statement_369 : decode cX12_statement 369 = .ok (.aload_n 0, 1) := by decide +kernel
theorem dX12_statement_370 : decode cX12_statement 370 = .ok (.invokevirtual 119, 3) := by decide +kernel
theorem dX12_statement_373 : decode cX12_statement 373 = .ok (.aload_n 0, 1) := by decide +kernel
theorem dX12_statement_374 : decode cX12_statement 374 = .ok (.bipush 12, 2) := by decide +kernel
theorem dX12_statement_376 : decode cX12_statement 376 = .ok (.iload 5, 2) := by decide +kernel
theorem dX12_statement_378 : decode cX12_statement 378 = .ok (.iconst 0, 1) := by decide +kernel
theorem dX12_statement_379 : decode cX12_statement 379 = .ok (.invokevirtual 87, 3) := by decide +kernel
theorem dX12_statement_382 : decode cX12_statement 382 = .ok (.istore 4, 2) := by decide +kernel
theorem dX12_statement_384 : decode cX12_statement 384 = .ok (.aload_n 0, 1) := by decide +kernel
theorem dX12_statement_385 : decode cX12_statement 385 = .ok (.getfield 74, 3) := by decide +kernel
theorem dX12_statement_388 : decode cX12_statement 388 = .ok (.iconst 3, 1) := by decide +kernel
theorem dX12_statement_389 : decode cX12_statement 389 = .ok (.iload 6, 2) := by decide +kernel
theorem dX12_statement_391 : decode cX12_statement 391 = .ok (.imul, 1) := by decide +kernel
theorem dX12_statement_392 : decode cX12_statement 392 = .ok (.iconst 1, 1) := by decide +kernel
theorem dX12_statement_393 : decode cX12_statement 393 = .ok (.iadd, 1) := by decide +kernel
theorem dX12_statement_394 : decode cX12_statement 394 = .ok (.aload_n 0, 1) := by decide +kernel
theorem dX12_statement_395 : decode cX12_statement 395 = .ok (.getfield 78, 3) := by decide +kernel
theorem dX12_statement_398 : decode cX12_statement 398 = .ok (.iastore, 1) := by decide +kernel
theorem dX12_statement_399 : decode cX12_statement 399 = .ok (.goto 87, 3) := by decide +kernel
theorem dX12_statement_402 : decode cX12_statement 402 = .ok (.aload_n 0, 1) := by decide +kernel
theorem dX12_statement_403 : decode cX12_statement 403 = .ok (.invokevirtual 100, 3) := by decide +kernel
theorem dX12_statement_406 : decode cX12_statement 406 = .ok (.aload_n 0, 1) := by decide +kernel
theorem dX12_statement_407 : decode cX12_statement 407 = .ok (.bipush 59, 2) := by decide +kernel
theorem dX12_statement_409 : decode cX12_statement 409 = .ok (.invokevirtual 103, 3) := by decide +kernel
theorem dX12_statement_412 : decode cX12_statement 412 = .ok (.aload_n 0, 1) := by decide +kernel
theorem dX12_statement_413 : decode cX12_statement 413 = .ok (.iload_n 2, 1) := by decide +kernel
theorem dX12_statement_414 : decode cX12_statement 414 = .ok (.iconst 3, 1) := by decide +kernel
theorem dX12_statement_415 : decode cX12_statement 415 = .ok (.if_icmp .ne 8, 3) := by decide +kernel
theorem dX12_statement_418 : decode cX12_statement 418 = .ok (.bipush 14, 2) := by decide +kernel
theorem dX12_statement_420 : decode cX12_statement 420 = .ok (.goto 5, 3) := by decide +kernel
theorem dX12_statement_423 : decode cX12_statement 423 = .ok (.bipush 19, 2) := by decide +kernel
theorem dX12_statement_425 : decode cX12_statement 425 = .ok (.iconst 0, 1) := by decide +kernel
theorem dX12_statement_426 : decode cX12_statement 426 = .ok (.iconst 0, 1) := by decide +kernel
theorem dX12_statement_427 : decode cX12_statement 427 = .ok (.invokevirtual 87, 3) := by decide +kernel
theorem dX12_statement_430 : decode cX12_statement 430 = .ok (.istore 4, 2) := by decide +kernel
theorem dX12_statement_432 : decode cX12_statement 432 = .ok (.goto 54, 3) := by decide +kernel
theorem dX12_statement_435 : decode cX12_statement 435 = .ok (.aload_n 0, 1) := by decide +kernel
theorem dX12_statement_436 : decode cX12_statement 436 = .ok (.bipush 59, 2) := by decide +kernel
theorem dX12_statement_438 : decode cX12_statement 438 = .ok (.invokevirtual 103, 3) := by decide +kernel
theorem dX12_statement_441 : decode cX12_statement 441 = .ok (.aload_n 0, 1) := by decide +kernel
theorem dX12_statement_442 : decode cX12_statement 442 = .ok (.iload_n 2, 1) := by decide +kernel
theorem dX12_statement_443 : decode cX12_statement 443 = .ok (.bipush 7, 2) := by decide +kernel
theorem dX12_statement_445 : decode cX12_statement 445 = .ok (.if_icmp .ne 8, 3) := by decide +kernel
theorem dX12_statement_448 : decode cX12_statement 448 = .ok (.bipush 17, 2) := by decide +kernel
theorem dX12_statement_450 : decode cX12_statement 450 = .ok (.goto 5, 3) := by decide +kernel
theorem dX12_statement_453 : decode cX12_statement 453 = .ok (.bipush 18, 2) := by decide +kernel
theorem dX12_statement_455 : decode cX12_statement 455 = .ok (.iconst 0, 1) := by decide +kernel
theorem dX12_statement_456 : decode cX12_statement 456 = .ok (.iconst 0, 1) := by decide +kernel
theorem dX12_statement_457 : decode cX12_statement 457 = .ok (.invokevirtual 87, 3) := by decide +kernel
theorem dX12_statement_460 : decode cX12_statement 460 = .ok (.istore 4, 2) := by decide +kernel
theorem dX12_statement_462 : decode cX12_statement 462 = .ok (.goto 24, 3) := by decide +kernel
theorem dX12_statement_465 : decode cX12_statement 465 = .ok (.aload_n 0, 1) := by decide +kernel
theorem dX12_statement_466 : decode cX12_statement 466 = .ok (.invokevirtual 125, 3) := by decide +kernel
theorem dX12_statement_469 : decode cX12_statement 469 = .ok (.goto 17, 3) := by decide +kernel
theorem dX12_statement_472 : decode cX12_statement 472 = .ok (.aload_n 0, 1) := by decide +kernel
theorem dX12_statement_473 : decode cX12_statement 473 = .ok (.iload_n 2, 1) := by decide +kernel
theorem dX12_statement_474 : decode cX12_statement 474 = .ok (.iconst 4, 1) := by decide +kernel
theorem dX12_statement_475 : decode cX12_statement 475 = .ok (.if_icmp .ne 7, 3) := by decide +kernel
theorem dX12_statement_478 : decode cX12_statement 478 = .ok (.iconst 1, 1) := by decide +kernel
theorem dX12_statement_479 : decode cX12_statement 479 = .ok (.goto 4, 3) := by decide +kernel
theorem dX12_statement_482 : decode cX12_statement 482 = .ok (.iconst 0, 1) := by decide +kernel
theorem dX12_statement_483 : decode cX12_statement 483 = .ok (.invokevirtual 128, 3) := by decide +kernel
theorem dX12_statement_486 : decode cX12_statement 486 = .ok (.return_, 1) := by decide +kernel
theorem dX12_step_0 : decode cX12_step 0 = .ok (.iload_n 1, 1) := by decide +kernel
theorem dX12_step_1 : decode cX12_step 1 = .ok (.sipush 6000, 3) := by decide +kernel
theorem dX12_step_4 : decode cX12_step 4 = .ok (.imul, 1) := by decide +kernel
theorem dX12_step_5 : decode cX12_step 5 = .ok (.aload_n 0, 1) := by decide +kernel
theorem dX12_step_6 : decode cX12_step 6 = .ok (.getfield 190, 3) := by decide +kernel
theorem dX12_step_9 : decode cX12_step 9 = .ok (.iload_n 1, 1) := by decide +kernel
theorem dX12_step_10 : decode cX12_step 10 = .ok (.iaload, 1) := by decide +kernel
theorem dX12_step_11 : decode cX12_step 11 = .ok (.iadd, 1) := by decide +kernel
theorem dX12_step_12 : decode cX12_step 12 = .ok (.iconst 3, 1) := by decide +kernel
theorem dX12_step_13 : decode cX12_step 13 = .ok (.imul, 1) := by decide +kernel
theorem dX12_step_14 : decode cX12_step 14 = .ok (.istore_n 2, 1) := by decide +kernel
theorem dX12_step_15 : decode cX12_step 15 = .ok (.aload_n 0, 1) := by decide +kernel
theorem dX12_step_16 : decode cX12_step 16 = .ok (.getfield 184, 3) := by decide +kernel
theorem dX12_step_19 : decode cX12_step 19 = .ok (.iload_n 2, 1) := by decide +kernel
theorem dX12_step_20 : decode cX12_step 20 = .ok (.iconst 1, 1) := by decide +kernel
theorem dX12_step_21 : decode cX12_step 21 = .ok (.iadd, 1) := by decide +kernel
theorem dX12_step_22 : decode cX12_step 22 = .ok (.iaload, 1) := by decide +kernel
theorem dX12_step_23 : decode cX12_step 23 = .ok (.istore_n 3, 1) := by decide +kernel
theorem dX12_step_24 : decode cX12_step 24 = .ok (.aload_n 0, 1) := by decide +kernel
theorem dX12_step_25 : decode cX12_step 25 = .ok (.getfield 184, 3) := by decide +kernel
theorem dX12_step_28 : decode cX12_step 28 = .ok (.iload_n 2, 1) := by decide +kernel
theorem dX12_step_29 : decode cX12_step 29 = .ok (.iconst 2, 1) := by decide +kernel
theorem dX12_step_30 : decode cX12_step 30 = .ok (.iadd, 1) := by decide +kernel
theorem dX12_step_31 : decode cX12_step 31 = .ok (.iaload, 1) := by decide +kernel
theorem dX12_step_32 : decode cX12_step 32 = .ok (.istore 4, 2) := by decide +kernel
theorem dX12_step_34 : decode cX12_step 34 = .ok (.aload_n 0, 1) := by decide +kernel
theorem dX12_step_35 : decode cX12_step 35 = .ok (.getfield 184, 3) := by decide +kernel
theorem dX12_step_38 : decode cX12_step 38 = .ok (.iload_n 2, 1) := by decide +kernel
theorem dX12_step_39 : decode cX12_step 39 = .ok (.iaload, 1) := by decide +kernel
theorem dX12_step_40 : decode cX12_step 40 = .ok (.tableswitch 509 0 21 #[104, 113, 132, 153, 153, 153, 139, 153, 153, 267, 286, 293, 310, 319, 331, 389, 398, 404, 410, 416, 427, 496], 104) := by decide +kernel
theorem dX12_step_144 : decode cX12_step 144 = .ok (.aload_n 0, 1) := by decide +kernel
theorem dX12_step_145 : decode cX12_step 145 = .ok (.iload_n 1, 1) := by decide +kernel
theorem dX12_step_146 : decode cX12_step 146 = .ok (.iload_n 3, 1) := by decide +kernel
theorem dX12_step_147 : decode cX12_step 147 = .ok (.invokevirtual 449, 3) := by decide +kernel
theorem dX12_step_150 : decode cX12_step 150 = .ok (.goto 408, 3) := by decide +kernel
theorem dX12_step_153 : decode cX12_step 153 = .ok (.aload_n 0, 1) := by decide +kernel
theorem dX12_step_154 : decode cX12_step 154 = .ok (.iload_n 1, 1) := by decide +kernel
theorem dX12_step_155 : decode cX12_step 155 = .ok (.aload_n 0, 1) := by decide +kernel
theorem dX12_step_156 : decode cX12_step 156 = .ok (.getfield 193, 3) := by decide +kernel
theorem dX12_step_159 : decode cX12_step 159 = .ok (.iload_n 1, 1) := by decide +kernel
theorem dX12_step_160 : decode cX12_step 160 = .ok (.bipush 26, 2) := by decide +kernel
theorem dX12_step_162 : decode cX12_step 162 = .ok (.imul, 1) := by decide +kernel
theorem dX12_step_163 : decode cX12_step 163 = .ok (.iload_n 3, 1) := by decide +kernel
theorem dX12_step_164 : decode cX12_step 164 = .ok (.iadd, 1) := by decide +kernel
theorem dX12_step_165 : decode cX12_step 165 = .ok (.iaload, 1) := by decide +kernel
theorem dX12_step_166 : decode cX12_step 166 = .ok (.invokevirtual 449, 3) := by decide +kernel
theorem dX12_step_169 : decode cX12_step 169 = .ok (.goto 389, 3) := by decide +kernel
theorem dX12_step_172 : decode cX12_step 172 = .ok (.aload_n 0, 1) := by decide +kernel
theorem dX12_step_173 : decode cX12_step 173 = .ok (.iload_n 1, 1) := by decide +kernel
theorem dX12_step_174 : decode cX12_step 174 = .ok (.iload_n 3, 1) := by decide +kernel
theorem dX12_step_175 : decode cX12_step 175 = .ok (.invokevirtual 452, 3) := by decide +kernel
theorem dX12_step_178 : decode cX12_step 178 = .ok (.ireturn, 1) := by decide +kernel
theorem dX12_step_179 : decode cX12_step 179 = .ok (.aload_n 0, 1) := by decide +kernel
theorem dX12_step_180 : decode cX12_step 180 = .ok (.iload_n 1, 1) := by decide +kernel
theorem dX12_step_181 : decode cX12_step 181 = .ok (.aload_n 0, 1) := by decide +kernel
theorem dX12_step_182 : decode cX12_step 182 = .ok (.iload_n 1, 1) := by decide +kernel
theorem dX12_step_183 : decode cX12_step 183 = .ok (.invokevirtual 455, 3) := by decide +kernel
theorem dX12_step_186 : decode cX12_step 186 = .ok (.ineg, 1) := by decide +kernel
theorem dX12_step_187 : decode cX12_step 187 = .ok (.invokevirtual 449, 3) := by decide +kernel
theorem dX12_step_190 : decode cX12_step 190 = .ok (.goto 368, 3) := by decide +kernel
theorem dX12_step_193 : decode cX12_step 193 = .ok (.aload_n 0, 1) := by decide +kernel
theorem dX12_step_194 : decode cX12_step 194 = .ok (.iload_n 1, 1) := by decide +kernel
theorem dX12_step_195 : decode cX12_step 195 = .ok (.invokevirtual 455, 3) := by decide +kernel
theorem dX12_step_198 : decode cX12_step 198 = .ok (.istore 5, 2) := by decide +kernel
theorem dX12_step_200 : decode cX12_step 200 = .ok (.aload_n 0, 1) := by decide +kernel
theorem dX12_step_201 : decode cX12_step 201 = .ok (.iload_n 1, 1) := by decide +kernel
theorem dX12_step_202 : decode cX12_step 202 = .ok (.invokevirtual 455, 3) := by decide +kernel
theorem dX12_step_205 : decode cX12_step 205 = .ok (.istore 6, 2) := by decide +kernel
theorem dX12_step_207 : decode cX12_step 207 = .ok (.aload_n 0, 1) := by decide +kernel
theorem dX12_step_208 : decode cX12_step 208 = .ok (.iload_n 1, 1) := by decide +kernel
theorem dX12_step_209 : decode cX12_step 209 = .ok (.aload_n 0, 1) := by decide +kernel
theorem dX12_step_210 : decode cX12_step 210 = .ok (.getfield 184, 3) := by decide +kernel
theorem dX12_step_213 : decode cX12_step 213 = .ok (.iload_n 2, 1) := by decide +kernel
theorem dX12_step_214 : decode cX12_step 214 = .ok (.iaload, 1) := by decide +kernel
theorem dX12_step_215 : decode cX12_step 215 = .ok (.iconst 3, 1) := by decide +kernel
theorem dX12_step_216 : decode cX12_step 216 = .ok (.if_icmp .ne 11, 3) := by decide +kernel
theorem dX12_step_219 : decode cX12_step 219 = .ok (.iload 6, 2) := by decide +kernel
theorem dX12_step_221 : decode cX12_step 221 = .ok (.iload 5, 2) := by decide +kernel
theorem dX12_step_223 : decode cX12_step 223 = .ok (.iadd, 1) := by decide +kernel
theorem dX12_step_224 : decode cX12_step 224 = .ok (.goto 77, 3) := by decide +kernel
theorem dX12_step_227 : decode cX12_step 227 = .ok (.aload_n 0, 1) := by decide +kernel
theorem dX12_step_228 : decode cX12_step 228 = .ok (.getfield 184, 3) := by decide +kernel
theorem dX12_step_231 : decode cX12_step 231 = .ok (.iload_n 2, 1) := by decide +kernel
theorem dX12_step_232 : decode cX12_step 232 = .ok (.iaload, 1) := by decide +kernel
theorem dX12_step_233 : decode cX12_step 233 = .ok (.iconst 4, 1) := by decide +kernel
theorem dX12_step_234 : decode cX12_step 234 = .ok (.if_icmp .ne 11, 3) := by decide +kernel
theorem dX12_step_237 : decode cX12_step 237 = .ok (.iload 6, 2) := by decide +kernel
theorem dX12_step_239 : decode cX12_step 239 = .ok (.iload 5, 2) := by decide +kernel
theorem dX12_step_241 : decode cX12_step 241 = .ok (.isub, 1) := by decide +kernel
theorem dX12_step_242 : decode cX12_step 242 = .ok (.goto 59, 3) := by decide +kernel
theorem dX12_step_245 : decode cX12_step 245 = .ok (.aload_n 0, 1) := by decide +kernel
theorem dX12_step_246 : decode cX12_step 246 = .ok (.getfield 184, 3) := by decide +kernel
theorem dX12_step_249 : decode cX12_step 249 = .ok (.iload_n 2, 1) := by decide +kernel
theorem dX12_step_250 : decode cX12_step 250 = .ok (.iaload, 1) := by decide +kernel
theorem dX12_step_251 : decode cX12_step 251 = .ok (.iconst 5, 1) := by decide +kernel
theorem dX12_step_252 : decode cX12_step 252 = .ok (.if_icmp .ne 11, 3) := by decide +kernel
theorem dX12_step_255 : decode cX12_step 255 = .ok (.iload 6, 2) := by decide +kernel
theorem dX12_step_257 : decode cX12_step 257 = .ok (.iload 5, 2) := by decide +kernel
theorem dX12_step_259 : decode cX12_step 259 = .ok (.imul, 1) := by decide +kernel
theorem dX12_step_260 : decode cX12_step 260 = .ok (.goto 41, 3) := by decide +kernel
theorem dX12_step_263 : decode cX12_step 263 = .ok (.aload_n 0, 1) := by decide +kernel
theorem dX12_step_264 : decode cX12_step 264 = .ok (.getfield 184, 3) := by decide +kernel
theorem dX12_step_267 : decode cX12_step 267 = .ok (.iload_n 2, 1) := by decide +kernel
theorem dX12_step_268 : decode cX12_step 268 = .ok (.iaload, 1) := by decide +kernel
theorem dX12_step_269 : decode cX12_step 269 = .ok (.bipush 7, 2) := by decide +kernel
theorem dX12_step_271 : decode cX12_step 271 = .ok (.if_icmp .ne 18, 3) := by decide +kernel
theorem dX12_step_274 : decode cX12_step 274 = .ok (.iload 6, 2) := by decide +kernel
theorem dX12_step_276 : decode cX12_step 276 = .ok (.iload 5, 2) := by decide +kernel
theorem dX12_step_278 : decode cX12_step 278 = .ok (.if_icmp .ne 7, 3) := by decide +kernel
theorem dX12_step_281 : decode cX12_step 281 = .ok (.iconst 1, 1) := by decide +kernel
theorem dX12_step_282 : decode cX12_step 282 = .ok (.goto 19, 3) := by decide +kernel
theorem dX12_step_285 : decode cX12_step 285 = .ok (.iconst 0, 1) := by decide +kernel
theorem dX12_step_286 : decode cX12_step 286 = .ok (.goto 15, 3) := by decide +kernel
theorem dX12_step_289 : decode cX12_step 289 = .ok (.iload 6, 2) := by decide +kernel
theorem dX12_step_291 : decode cX12_step 291 = .ok (.iload 5, 2) := by decide +kernel
theorem dX12_step_293 : decode cX12_step 293 = .ok (.if_icmp .ge 7, 3) := by decide +kernel
theorem dX12_step_296 : decode cX12_step 296 = .ok (.iconst 1, 1) := by decide +kernel
theorem dX12_step_297 : decode cX12_step 297 = .ok (.goto 4, 3) := by decide +kernel
theorem dX12_step_300 : decode cX12_step 300 = .ok (.iconst 0, 1) := by decide +kernel
theorem dX12_step_301 : decode cX12_step 301 = .ok (.invokevirtual 449, 3) := by decide +kernel
theorem dX12_step_304 : decode cX12_step 304 = .ok (.goto 254, 3) := by decide +kernel
theorem dX12_step_307 : decode cX12_step 307 = .ok (.aload_n 0, 1) := by decide +kernel
theorem dX12_step_308 : decode cX12_step 308 = .ok (.getfield 193, 3) := by decide +kernel
theorem dX12_step_311 : decode cX12_step 311 = .ok (.iload_n 1, 1) := by decide +kernel
theorem dX12_step_312 : decode cX12_step 312 = .ok (.bipush 26, 2) := by decide +kernel
theorem dX12_step_314 : decode cX12_step 314 = .ok (.imul, 1) := by decide +kernel
theorem dX12_step_315 : decode cX12_step 315 = .ok (.iload_n 3, 1) := by decide +kernel
theorem dX12_step_316 : decode cX12_step 316 = .ok (.iadd, 1) := by decide +kernel
theorem dX12_step_317 : decode cX12_step 317 = .ok (.aload_n 0, 1) := by decide +kernel
theorem dX12_step_318 : decode cX12_step 318 = .ok (.iload_n 1, 1) := by decide +kernel
theorem dX12_step_319 : decode cX12_step 319 = .ok (.invokevirtual 455, 3) := by decide +kernel
theorem dX12_step_322 : decode cX12_step 322 = .ok (.iastore, 1) := by decide +kernel
theorem dX12_step_323 : decode cX12_step 323 = .ok (.goto 235, 3) := by decide +kernel
theorem dX12_step_326 : decode cX12_step 326 = .ok (.aload_n 0, 1) := by decide +kernel
theorem dX12_step_327 : decode cX12_step 327 = .ok (.iload_n 1, 1) := by decide +kernel
theorem dX12_step_328 : decode cX12_step 328 = .ok (.iload_n 3, 1) := by decide +kernel
theorem dX12_step_329 : decode cX12_step 329 = .ok (.invokevirtual 458, 3) := by decide +kernel
theorem dX12_step_332 : decode cX12_step 332 = .ok (.ireturn, 1) := by decide +kernel
theorem dX12_step_333 : decode cX12_step 333 = .ok (.aload_n 0, 1) := by decide +kernel
theorem dX12_step_334 : decode cX12_step 334 = .ok (.iload_n 1, 1) := by decide +kernel
theorem dX12_step_335 : decode cX12_step 335 = .ok (.invokevirtual 455, 3) := by decide +kernel
theorem dX12_step_338 : decode cX12_step 338 = .ok (.ifCond .ne 220, 3) := by decide +kernel
theorem dX12_step_341 : decode cX12_step 341 = .ok (.aload_n 0, 1) := by decide +kernel
theorem dX12_step_342 : decode cX12_step 342 = .ok (.getfield 190, 3) := by decide +kernel
theorem dX12_step_345 : decode cX12_step 345 = .ok (.iload_n 1, 1) := by decide +kernel
theorem dX12_step_346 : decode cX12_step 346 = .ok (.iload_n 3, 1) := by decide +kernel
theorem dX12_step_347 : decode cX12_step 347 = .ok (.iastore, 1) := by decide +kernel
theorem dX12_step_348 : decode cX12_step 348 = .ok (.iconst (-1), 1) := by decide +kernel
theorem dX12_step_349 : decode cX12_step 349 = .ok (.ireturn, 1) := by decide +kernel
theorem dX12_step_350 : decode cX12_step 350 = .ok (.aload_n 0, 1) := by decide +kernel
theorem dX12_step_351 : decode cX12_step 351 = .ok (.getfield 190, 3) := by decide +kernel
theorem dX12_step_354 : decode cX12_step 354 = .ok (.iload_n 1, 1) := by decide +kernel
theorem dX12_step_355 : decode cX12_step 355 = .ok (.iload_n 3, 1) := by decide +kernel
theorem dX12_step_356 : decode cX12_step 356 = .ok (.iastore, 1) := by decide +kernel
theorem dX12_step_357 : decode cX12_step 357 = .ok (.iconst (-1), 1) := by decide +kernel
theorem dX12_step_358 : decode cX12_step 358 = .ok (.ireturn, 1) := by decide +kernel
theorem dX12_step_359 : decode cX12_step 359 = .ok (.aload_n 0, 1) := by decide +kernel
theorem dX12_step_360 : decode cX12_step 360 = .ok (.getfield 190, 3) := by decide +kernel
theorem dX12_step_363 : decode cX12_step 363 = .ok (.iload_n 1, 1) := by decide +kernel
theorem dX12_step_364 : decode cX12_step 364 = .ok (.dup2, 1) := by decide +kernel
theorem dX12_step_365 : decode cX12_step 365 = .ok (.iaload, 1) := by decide +kernel
theorem dX12_step_366 : decode cX12_step 366 = .ok (.iconst 1, 1) := by decide +kernel
theorem dX12_step_367 : decode cX12_step 367 = .ok (.iadd, 1) := by decide +kernel
theorem dX12_step_368 : decode cX12_step 368 = .ok (.iastore, 1) := by decide +kernel
theorem dX12_step_369 : decode cX12_step 369 = .ok (.iconst 0, 1) := by decide +kernel
theorem dX12_step_370 : decode cX12_step 370 = .ok (.ireturn, 1) := by decide +kernel
theorem dX12_step_371 : decode cX12_step 371 = .ok (.aload_n 0, 1) := by decide +kernel
theorem dX12_step_372 : decode cX12_step 372 = .ok (.iload_n 1, 1) := by decide +kernel
theorem dX12_step_373 : decode cX12_step 373 = .ok (.invokevirtual 455, 3) := by decide +kernel
theorem dX12_step_376 : decode cX12_step 376 = .ok (.istore 5, 2) := by decide +kernel
theorem dX12_step_378 : decode cX12_step 378 = .ok (.aload_n 0, 1) := by decide +kernel
theorem dX12_step_379 : decode cX12_step 379 = .ok (.getfield 190, 3) := by decide +kernel
theorem dX12_step_382 : decode cX12_step 382 = .ok (.iload_n 1, 1) := by decide +kernel
theorem dX12_step_383 : decode cX12_step 383 = .ok (.dup2, 1) := by decide +kernel
theorem dX12_step_384 : decode cX12_step 384 = .ok (.iaload, 1) := by decide +kernel
theorem dX12_step_385 : decode cX12_step 385 = .ok (.iconst 1, 1) := by decide +kernel
theorem dX12_step_386 : decode cX12_step 386 = .ok (.iadd, 1) := by decide +kernel
theorem dX12_step_387 : decode cX12_step 387 = .ok (.iastore, 1) := by decide +kernel
theorem dX12_step_388 : decode cX12_step 388 = .ok (.aload_n 0, 1) := by decide +kernel
theorem dX12_step_389 : decode cX12_step 389 = .ok (.getfield 187, 3) := by decide +kernel
theorem dX12_step_392 : decode cX12_step 392 = .ok (.iload_n 1, 1) := by decide +kernel
theorem dX12_step_393 : decode cX12_step 393 = .ok (.iaload, 1) := by decide +kernel
theorem dX12_step_394 : decode cX12_step 394 = .ok (.iconst 2, 1) := by decide +kernel
theorem dX12_step_395 : decode cX12_step 395 = .ok (.if_icmp .eq 13, 3) := by decide +kernel
theorem dX12_step_398 : decode cX12_step 398 = .ok (.aload_n 0, 1) := by decide +kernel
theorem dX12_step_399 : decode cX12_step 399 = .ok (.iload_n 1, 1) := by decide +kernel
theorem dX12_step_400 : decode cX12_step 400 = .ok (.iload 5, 2) := by decide +kernel
theorem dX12_step_402 : decode cX12_step 402 = .ok (.invokevirtual 428, 3) := by decide +kernel
theorem dX12_step_405 : decode cX12_step 405 = .ok (.goto 22, 3) := by decide +kernel
theorem dX12_step_408 : decode cX12_step 408 = .ok (.aload_n 0, 1) := by decide +kernel
theorem dX12_step_409 : decode cX12_step 409 = .ok (.aload_n 0, 1) := by decide +kernel
theorem dX12_step_410 : decode cX12_step 410 = .ok (.iload_n 1, 1) := by decide +kernel
theorem dX12_step_411 : decode cX12_step 411 = .ok (.aload_n 0, 1) := by decide +kernel
theorem dX12_step_412 : decode cX12_step 412 = .ok (.getfield 202, 3) := by decide +kernel
theorem dX12_step_415 : decode cX12_step 415 = .ok (.iload_n 1, 1) := by decide +kernel
theorem dX12_step_416 : decode cX12_step 416 = .ok (.iaload, 1) := by decide +kernel
theorem dX12_step_417 : decode cX12_step 417 = .ok (.iconst 1, 1) := by decide +kernel
theorem dX12_step_418 : decode cX12_step 418 = .ok (.isub, 1) := by decide +kernel
theorem dX12_step_419 : decode cX12_step 419 = .ok (.invokevirtual 360, 3) := by decide +kernel
theorem dX12_step_422 : decode cX12_step 422 = .ok (.iload 5, 2) := by decide +kernel
theorem dX12_step_424 : decode cX12_step 424 = .ok (.invokevirtual 461, 3) := by decide +kernel
theorem dX12_step_427 : decode cX12_step 427 = .ok (.iconst 0, 1) := by decide +kernel
theorem dX12_step_428 : decode cX12_step 428 = .ok (.ireturn, 1) := by decide +kernel
theorem dX12_step_429 : decode cX12_step 429 = .ok (.aload_n 0, 1) := by decide +kernel
theorem dX12_step_430 : decode cX12_step 430 = .ok (.iload_n 1, 1) := by decide +kernel
theorem dX12_step_431 : decode cX12_step 431 = .ok (.iload_n 3, 1) := by decide +kernel
theorem dX12_step_432 : decode cX12_step 432 = .ok (.iload 4, 2) := by decide +kernel
theorem dX12_step_434 : decode cX12_step 434 = .ok (.invokevirtual 464, 3) := by decide +kernel
theorem dX12_step_437 : decode cX12_step 437 = .ok (.ireturn, 1) := by decide +kernel
theorem dX12_step_438 : decode cX12_step 438 = .ok (.aload_n 0, 1) := by decide +kernel
theorem dX12_step_439 : decode cX12_step 439 = .ok (.iload_n 1, 1) := by decide +kernel
theorem dX12_step_440 : decode cX12_step 440 = .ok (.invokevirtual 467, 3) := by decide +kernel
theorem dX12_step_443 : decode cX12_step 443 = .ok (.ireturn, 1) := by decide +kernel
theorem dX12_step_444 : decode cX12_step 444 = .ok (.aload_n 0, 1) := by decide +kernel
theorem dX12_step_445 : decode cX12_step 445 = .ok (.iload_n 1, 1) := by decide +kernel
theorem dX12_step_446 : decode cX12_step 446 = .ok (.invokevirtual 470, 3) := by decide +kernel
theorem dX12_step_449 : decode cX12_step 449 = .ok (.ireturn, 1) := by decide +kernel
theorem dX12_step_450 : decode cX12_step 450 = .ok (.aload_n 0, 1) := by decide +kernel
theorem dX12_step_451 : decode cX12_step 451 = .ok (.iload_n 1, 1) := by decide +kernel
theorem dX12_step_452 : decode cX12_step 452 = .ok (.invokevirtual 473, 3) := by decide +kernel
theorem dX12_step_455 : decode cX12_step 455 = .ok (.ireturn, 1) := by decide +kernel
theorem dX12_step_456 : decode cX12_step 456 = .ok (.aload_n 0, 1) := by decide +kernel
theorem dX12_step_457 : decode cX12_step 457 = .ok (.iload_n 1, 1) := by decide +kernel
theorem dX12_step_458 : decode cX12_step 458 = .ok (.aload_n 0, 1) := by decide +kernel
theorem dX12_step_459 : decode cX12_step 459 = .ok (.iload_n 1, 1) := by decide +kernel
theorem dX12_step_460 : decode cX12_step 460 = .ok (.invokevirtual 455, 3) := by decide +kernel
theorem dX12_step_463 : decode cX12_step 463 = .ok (.invokevirtual 476, 3) := by decide +kernel
theorem dX12_step_466 : decode cX12_step 466 = .ok (.ireturn, 1) := by decide +kernel
theorem dX12_step_467 : decode cX12_step 467 = .ok (.aload_n 0, 1) := by decide +kernel
theorem dX12_step_468 : decode cX12_step 468 = .ok (.iload_n 1, 1) := by decide +kernel
theorem dX12_step_469 : decode cX12_step 469 = .ok (.aload_n 0, 1) := by decide +kernel
theorem dX12_step_470 : decode cX12_step 470 = .ok (.getfield 208, 3) := by decide +kernel
theorem dX12_step_473 : decode cX12_step 473 = .ok (.iload_n 1, 1) := by decide +kernel
theorem dX12_step_474 : decode cX12_step 474 = .ok (.iaload, 1) := by decide +kernel
theorem dX12_step_475 : decode cX12_step 475 = .ok (.invokevirtual 360, 3) := by decide +kernel
theorem dX12_step_478 : decode cX12_step 478 = .ok (.istore 5, 2) := by decide +kernel
theorem dX12_step_480 : decode cX12_step 480 = .ok (.aload_n 0, 1) := by decide +kernel
theorem dX12_step_481 : decode cX12_step 481 = .ok (.getfield 232, 3) := by decide +kernel
theorem dX12_step_484 : decode cX12_step 484 = .ok (.iload 5, 2) := by decide +kernel
theorem dX12_step_486 : decode cX12_step 486 = .ok (.iload_n 3, 1) := by decide +kernel
theorem dX12_step_487 : decode cX12_step 487 = .ok (.iastore, 1) := by decide +kernel
theorem dX12_step_488 : decode cX12_step 488 = .ok (.aload_n 0, 1) := by decide +kernel
theorem dX12_step_489 : decode cX12_step 489 = .ok (.getfield 235, 3) := by decide +kernel
theorem dX12_step_492 : decode cX12_step 492 = .ok (.iload 5, 2) := by decide +kernel
theorem dX12_step_494 : decode cX12_step 494 = .ok (.iload 4, 2) := by decide +kernel
theorem dX12_step_496 : decode cX12_step 496 = .ok (.iastore, 1) := by decide +kernel
theorem dX12_step_497 : decode cX12_step 497 = .ok (.aload_n 0, 1) := by decide +kernel
theorem dX12_step_498 : decode cX12_step 498 = .ok (.getfield 238, 3) := by decide +kernel
theorem dX12_step_501 : decode cX12_step 501 = .ok (.iload 5, 2) := by decide +kernel
theorem dX12_step_503 : decode cX12_step 503 = .ok (.aload_n 0, 1) := by decide +kernel
theorem dX12_step_504 : decode cX12_step 504 = .ok (.getfield 202, 3) := by decide +kernel
theorem dX12_step_507 : decode cX12_step 507 = .ok (.iload_n 1, 1) := by decide +kernel
theorem dX12_step_508 : decode cX12_step 508 = .ok (.iaload, 1) := by decide +kernel
theorem dX12_step_509 : decode cX12_step 509 = .ok (.iastore, 1) := by decide +kernel
theorem dX12_step_510 : decode cX12_step 510 = .ok (.aload_n 0, 1) := by decide +kernel
theorem dX12_step_511 : decode cX12_step 511 = .ok (.getfield 241, 3) := by decide +kernel
theorem dX12_step_514 : decode cX12_step 514 = .ok (.iload 5, 2) := by decide +kernel
theorem dX12_step_516 : decode cX12_step 516 = .ok (.aload_n 0, 1) := by decide +kernel
theorem dX12_step_517 : decode cX12_step 517 = .ok (.getfield 205, 3) := by decide +kernel
theorem dX12_step_520 : decode cX12_step 520 = .ok (.iload_n 1, 1) := by decide +kernel
theorem dX12_step_521 : decode cX12_step 521 = .ok (.iaload, 1) := by decide +kernel
theorem dX12_step_522 : decode cX12_step 522 = .ok (.iastore, 1) := by decide +kernel
theorem dX12_step_523 : decode cX12_step 523 = .ok (.aload_n 0, 1) := by decide +kernel
theorem dX12_step_524 : decode cX12_step 524 = .ok (.getfield 208, 3) := by decide +kernel
theorem dX12_step_527 : decode cX12_step 527 = .ok (.iload_n 1, 1) := by decide +kernel
theorem dX12_step_528 : decode cX12_step 528 = .ok (.dup2, 1) := by decide +kernel
theorem dX12_step_529 : decode cX12_step 529 = .ok (.iaload, 1) := by decide +kernel
theorem dX12_step_530 : decode cX12_step 530 = .ok (.iconst 1, 1) := by decide +kernel
theorem dX12_step_531 : decode cX12_step 531 = .ok (.iadd, 1) := by decide +kernel
theorem dX12_step_532 : decode cX12_step 532 = .ok (.iastore, 1) := by decide +kernel
theorem dX12_step_533 : decode cX12_step 533 = .ok (.goto 25, 3) := by decide +kernel
theorem dX12_step_536 : decode cX12_step 536 = .ok (.aload_n 0, 1) := by decide +kernel
theorem dX12_step_537 : decode cX12_step 537 = .ok (.getfield 208, 3) := by decide +kernel
theorem dX12_step_540 : decode cX12_step 540 = .ok (.iload_n 1, 1) := by decide +kernel
theorem dX12_step_541 : decode cX12_step 541 = .ok (.dup2, 1) := by decide +kernel
theorem dX12_step_542 : decode cX12_step 542 = .ok (.iaload, 1) := by decide +kernel
theorem dX12_step_543 : decode cX12_step 543 = .ok (.iconst 1, 1) := by decide +kernel
theorem dX12_step_544 : decode cX12_step 544 = .ok (.isub, 1) := by decide +kernel
theorem dX12_step_545 : decode cX12_step 545 = .ok (.iastore, 1) := by decide +kernel
theorem dX12_step_546 : decode cX12_step 546 = .ok (.goto 12, 3) := by decide +kernel
theorem dX12_step_549 : decode cX12_step 549 = .ok (.aload_n 0, 1) := by decide +kernel
theorem dX12_step_550 : decode cX12_step 550 = .ok (.getfield 187, 3) := by decide +kernel
theorem dX12_step_553 : decode cX12_step 553 = .ok (.iload_n 1, 1) := by decide +kernel
theorem dX12_step_554 : decode cX12_step 554 = .ok (.iconst 4, 1) := by decide +kernel
theorem dX12_step_555 : decode cX12_step 555 = .ok (.iastore, 1) := by decide +kernel
theorem dX12_step_556 : decode cX12_step 556 = .ok (.iconst 2, 1) := by decide +kernel
theorem dX12_step_557 : decode cX12_step 557 = .ok (.ireturn, 1) := by decide +kernel
theorem dX12_step_558 : decode cX12_step 558 = .ok (.aload_n 0, 1) := by decide +kernel
theorem dX12_step_559 : decode cX12_step 559 = .ok (.getfield 190, 3) := by decide +kernel
theorem dX12_step_562 : decode cX12_step 562 = .ok (.iload_n 1, 1) := by decide +kernel
theorem dX12_step_563 : decode cX12_step 563 = .ok (.dup2, 1) := by decide +kernel
theorem dX12_step_564 : decode cX12_step 564 = .ok (.iaload, 1) := by decide +kernel
theorem dX12_step_565 : decode cX12_step 565 = .ok (.iconst 1, 1) := by decide +kernel
theorem dX12_step_566 : decode cX12_step 566 = .ok (.iadd, 1) := by decide +kernel
theorem dX12_step_567 : decode cX12_step 567 = .ok (.iastore, 1) := by decide +kernel
theorem dX12_step_568 : decode cX12_step 568 = .ok (.iconst (-1), 1) := by decide +kernel
theorem dX12_step_569 : decode cX12_step 569 = .ok (.ireturn, 1) := by decide +kernel
theorem dX12_sum_0 : decode cX12_sum 0 = .ok (.aload_n 0, 1) := by decide +kernel
theorem dX12_sum_1 : decode cX12_sum 1 = .ok (.invokevirtual 91, 3) := by decide +kernel
theorem dX12_sum_4 : decode cX12_sum 4 = .ok (.aload_n 0, 1) := by decide +kernel
theorem dX12_sum_5 : decode cX12_sum 5 = .ok (.bipush 43, 2) := by decide +kernel
theorem dX12_sum_7 : decode cX12_sum 7 = .ok (.invokevirtual 60, 3) := by decide +kernel
theorem dX12_sum_10 : decode cX12_sum 10 = .ok (.ifCond .ne 12, 3) := by decide +kernel
theorem dX12_sum_13 : decode cX12_sum 13 = .ok (.aload_n 0, 1) := by decide +kernel
theorem dX12_sum_14 : decode cX12_sum 14 = .ok (.bipush 45, 2) := by decide +kernel
theorem dX12_sum_16 : decode cX12_sum 16 = .ok (.invokevirtual 60, 3) := by decide +kernel
theorem dX12_sum_19 : decode cX12_sum 19 = .ok (.ifCond .eq 37, 3) := by decide +kernel
theorem dX12_sum_22 : decode cX12_sum 22 = .ok (.aload_n 0, 1) := by decide +kernel
theorem dX12_sum_23 : decode cX12_sum 23 = .ok (.bipush 43, 2) := by decide +kernel
theorem dX12_sum_25 : decode cX12_sum 25 = .ok (.invokevirtual 60, 3) := by decide +kernel
theorem dX12_sum_28 : decode cX12_sum 28 = .ok (.ifCond .eq 7, 3) := by decide +kernel
theorem dX12_sum_31 : decode cX12_sum 31 = .ok (.iconst 3, 1) := by decide +kernel
theorem dX12_sum_32 : decode cX12_sum 32 = .ok (.goto 4, 3) := by decide +kernel
theorem dX12_sum_35 : decode cX12_sum 35 = .ok (.iconst 4, 1) := by decide +kernel
theorem dX12_sum_36 : decode cX12_sum 36 = .ok (.istore_n 1, 1) := by decide +kernel
theorem dX12_sum_37 : decode cX12_sum 37 = .ok (.aload_n 0, 1) := by decide +kernel
theorem dX12_sum_38 : decode cX12_sum 38 = .ok (.invokevirtual 63, 3) := by decide +kernel
theorem dX12_sum_41 : decode cX12_sum 41 = .ok (.aload_n 0, 1) := by decide +kernel
theorem dX12_sum_42 : decode cX12_sum 42 = .ok (.invokevirtual 91, 3) := by decide +kernel
theorem dX12_sum_45 : decode cX12_sum 45 = .ok (.aload_n 0, 1) := by decide +kernel
theorem dX12_sum_46 : decode cX12_sum 46 = .ok (.iload_n 1, 1) := by decide +kernel
theorem dX12_sum_47 : decode cX12_sum 47 = .ok (.iconst 0, 1) := by decide +kernel
theorem dX12_sum_48 : decode cX12_sum 48 = .ok (.iconst 0, 1) := by decide +kernel
theorem dX12_sum_49 : decode cX12_sum 49 = .ok (.invokevirtual 87, 3) := by decide +kernel
theorem dX12_sum_52 : decode cX12_sum 52 = .ok (.istore_n 2, 1) := by decide +kernel
theorem dX12_sum_53 : decode cX12_sum 53 = .ok (.goto (-49), 3) := by decide +kernel
theorem dX12_sum_56 : decode cX12_sum 56 = .ok (.return_, 1) := by decide +kernel
theorem dX12_take_0 : decode cX12_take 0 = .ok (.aload_n 0, 1) := by decide +kernel
theorem dX12_take_1 : decode cX12_take 1 = .ok (.iload_n 1, 1) := by decide +kernel
theorem dX12_take_2 : decode cX12_take 2 = .ok (.invokevirtual 60, 3) := by decide +kernel
theorem dX12_take_5 : decode cX12_take 5 = .ok (.ifCond .ne 5, 3) := by decide +kernel
theorem dX12_take_8 : decode cX12_take 8 = .ok (.iconst 0, 1) := by decide +kernel
theorem dX12_take_9 : decode cX12_take 9 = .ok (.ireturn, 1) := by decide +kernel
theorem dX12_take_10 : decode cX12_take 10 = .ok (.aload_n 0, 1) := by decide +kernel
theorem dX12_take_11 : decode cX12_take 11 = .ok (.invokevirtual 63, 3) := by decide +kernel
theorem dX12_take_14 : decode cX12_take 14 = .ok (.iconst 1, 1) := by decide +kernel
theorem dX12_take_15 : decode cX12_take 15 = .ok (.ireturn, 1) := by decide +kernel
theorem dX12_takeBack_0 : decode cX12_takeBack 0 = .ok (.iconst 0, 1) := by decide +kernel
theorem dX12_takeBack_1 : decode cX12_takeBack 1 = .ok (.istore_n 3, 1) := by decide +kernel
theorem dX12_takeBack_2 : decode cX12_takeBack 2 = .ok (.iload_n 3, 1) := by decide +kernel
theorem dX12_takeBack_3 : decode cX12_takeBack 3 = .ok (.bipush 26, 2) := by decide +kernel
theorem dX12_takeBack_5 : decode cX12_takeBack 5 = .ok (.if_icmp .ge 74, 3) := by decide +kernel
theorem dX12_takeBack_8 : decode cX12_takeBack 8 = .ok (.aload_n 0, 1) := by decide +kernel
theorem dX12_takeBack_9 : decode cX12_takeBack 9 = .ok (.iload_n 1, 1) := by decide +kernel
theorem dX12_takeBack_10 : decode cX12_takeBack 10 = .ok (.iload_n 2, 1) := by decide +kernel
theorem dX12_takeBack_11 : decode cX12_takeBack 11 = .ok (.iload_n 3, 1) := by decide +kernel
theorem dX12_takeBack_12 : decode cX12_takeBack 12 = .ok (.invokevirtual 357, 3) := by decide +kernel
theorem dX12_takeBack_15 : decode cX12_takeBack 15 = .ok (.istore 4, 2) := by decide +kernel
theorem dX12_takeBack_17 : decode cX12_takeBack 17 = .ok (.aload_n 0, 1) := by decide +kernel
theorem dX12_takeBack_18 : decode cX12_takeBack 18 = .ok (.getfield 269, 3) := by decide +kernel
theorem dX12_takeBack_21 : decode cX12_takeBack 21 = .ok (.iload 4, 2) := by decide +kernel
theorem dX12_takeBack_23 : decode cX12_takeBack 23 = .ok (.baload, 1) := by decide +kernel
theorem dX12_takeBack_24 : decode cX12_takeBack 24 = .ok (.ifCond .eq 23, 3) := by decide +kernel
theorem dX12_takeBack_27 : decode cX12_takeBack 27 = .ok (.aload_n 0, 1) := by decide +kernel
theorem dX12_takeBack_28 : decode cX12_takeBack 28 = .ok (.invokevirtual 369, 3) := by decide +kernel
theorem dX12_takeBack_31 : decode cX12_takeBack 31 = .ok (.ifCond .eq 16, 3) := by decide +kernel
theorem dX12_takeBack_34 : decode cX12_takeBack 34 = .ok (.aload_n 0, 1) := by decide +kernel
theorem dX12_takeBack_35 : decode cX12_takeBack 35 = .ok (.getfield 151, 3) := by decide +kernel
theorem dX12_takeBack_38 : decode cX12_takeBack 38 = .ok (.iload_n 3, 1) := by decide +kernel
theorem dX12_takeBack_39 : decode cX12_takeBack 39 = .ok (.aload_n 0, 1) := by decide +kernel
theorem dX12_takeBack_40 : decode cX12_takeBack 40 = .ok (.getfield 281, 3) := by decide +kernel
theorem dX12_takeBack_43 : decode cX12_takeBack 43 = .ok (.iload 4, 2) := by decide +kernel
theorem dX12_takeBack_45 : decode cX12_takeBack 45 = .ok (.iaload, 1) := by decide +kernel
theorem dX12_takeBack_46 : decode cX12_takeBack 46 = .ok (.iastore, 1) := by decide +kernel
theorem dX12_takeBack_47 : decode cX12_takeBack 47 = .ok (.aload_n 0, 1) := by decide +kernel
theorem dX12_takeBack_48 : decode cX12_takeBack 48 = .ok (.getfield 269, 3) := by decide +kernel
theorem dX12_takeBack_51 : decode cX12_takeBack 51 = .ok (.iload 4, 2) := by decide +kernel
theorem dX12_takeBack_53 : decode cX12_takeBack 53 = .ok (.iconst 0, 1) := by decide +kernel
theorem dX12_takeBack_54 : decode cX12_takeBack 54 = .ok (.bastore, 1) := by decide +kernel
theorem dX12_takeBack_55 : decode cX12_takeBack 55 = .ok (.aload_n 0, 1) := by decide +kernel
theorem dX12_takeBack_56 : decode cX12_takeBack 56 = .ok (.getfield 193, 3) := by decide +kernel
theorem dX12_takeBack_59 : decode cX12_takeBack 59 = .ok (.iload_n 1, 1) := by decide +kernel
theorem dX12_takeBack_60 : decode cX12_takeBack 60 = .ok (.bipush 26, 2) := by decide +kernel
theorem dX12_takeBack_62 : decode cX12_takeBack 62 = .ok (.imul, 1) := by decide +kernel
theorem dX12_takeBack_63 : decode cX12_takeBack 63 = .ok (.iload_n 3, 1) := by decide +kernel
theorem dX12_takeBack_64 : decode cX12_takeBack 64 = .ok (.iadd, 1) := by decide +kernel
theorem dX12_takeBack_65 : decode cX12_takeBack 65 = .ok (.aload_n 0, 1) := by decide +kernel
theorem dX12_takeBack_66 : decode cX12_takeBack 66 = .ok (.getfield 259, 3) := by decide +kernel
theorem dX12_takeBack_69 : decode cX12_takeBack 69 = .ok (.iload 4, 2) := by decide +kernel
theorem dX12_takeBack_71 : decode cX12_takeBack 71 = .ok (.iaload, 1) := by decide +kernel
theorem dX12_takeBack_72 : decode cX12_takeBack 72 = .ok (.iastore, 1) := by decide +kernel
theorem dX12_takeBack_73 : decode cX12_takeBack 73 = .ok (.iinc 3 1, 3) := by decide +kernel
theorem dX12_takeBack_76 : decode cX12_takeBack 76 = .ok (.goto (-74), 3) := by decide +kernel
theorem dX12_takeBack_79 : decode cX12_takeBack 79 = .ok (.aload_n 0, 1) := by decide +kernel
theorem dX12_takeBack_80 : decode cX12_takeBack 80 = .ok (.getfield 287, 3) := by decide +kernel
theorem dX12_takeBack_83 : decode cX12_takeBack 83 = .ok (.aload_n 0, 1) := by decide +kernel
theorem dX12_takeBack_84 : decode cX12_takeBack 84 = .ok (.iload_n 1, 1) := by decide +kernel
theorem dX12_takeBack_85 : decode cX12_takeBack 85 = .ok (.iload_n 2, 1) := by decide +kernel
theorem dX12_takeBack_86 : decode cX12_takeBack 86 = .ok (.invokevirtual 360, 3) := by decide +kernel
theorem dX12_takeBack_89 : decode cX12_takeBack 89 = .ok (.iconst 0, 1) := by decide +kernel
theorem dX12_takeBack_90 : decode cX12_takeBack 90 = .ok (.iastore, 1) := by decide +kernel
theorem dX12_takeBack_91 : decode cX12_takeBack 91 = .ok (.return_, 1) := by decide +kernel
theorem dX12_takeBackTo_0 : decode cX12_takeBackTo 0 = .ok (.aload_n 0, 1) := by decide +kernel
theorem dX12_takeBackTo_1 : decode cX12_takeBackTo 1 = .ok (.getfield 202, 3) := by decide +kernel
theorem dX12_takeBackTo_4 : decode cX12_takeBackTo 4 = .ok (.iload_n 1, 1) := by decide +kernel
theorem dX12_takeBackTo_5 : decode cX12_takeBackTo 5 = .ok (.iaload, 1) := by decide +kernel
theorem dX12_takeBackTo_6 : decode cX12_takeBackTo 6 = .ok (.iconst 1, 1) := by decide +kernel
theorem dX12_takeBackTo_7 : decode cX12_takeBackTo 7 = .ok (.isub, 1) := by decide +kernel
theorem dX12_takeBackTo_8 : decode cX12_takeBackTo 8 = .ok (.istore 4, 2) := by decide +kernel
theorem dX12_takeBackTo_10 : decode cX12_takeBackTo 10 = .ok (.iload 4, 2) := by decide +kernel
theorem dX12_takeBackTo_12 : decode cX12_takeBackTo 12 = .ok (.iload_n 2, 1) := by decide +kernel
theorem dX12_takeBackTo_13 : decode cX12_takeBackTo 13 = .ok (.if_icmp .lt 37, 3) := by decide +kernel
theorem dX12_takeBackTo_16 : decode cX12_takeBackTo 16 = .ok (.aload_n 0, 1) := by decide +kernel
theorem dX12_takeBackTo_17 : decode cX12_takeBackTo 17 = .ok (.iload_n 1, 1) := by decide +kernel
theorem dX12_takeBackTo_18 : decode cX12_takeBackTo 18 = .ok (.iload 4, 2) := by decide +kernel
theorem dX12_takeBackTo_20 : decode cX12_takeBackTo 20 = .ok (.invokevirtual 373, 3) := by decide +kernel
theorem dX12_takeBackTo_23 : decode cX12_takeBackTo 23 = .ok (.iload_n 3, 1) := by decide +kernel
theorem dX12_takeBackTo_24 : decode cX12_takeBackTo 24 = .ok (.ifCond .eq 13, 3) := by decide +kernel
theorem dX12_takeBackTo_27 : decode cX12_takeBackTo 27 = .ok (.aload_n 0, 1) := by decide +kernel
theorem dX12_takeBackTo_28 : decode cX12_takeBackTo 28 = .ok (.iload_n 1, 1) := by decide +kernel
theorem dX12_takeBackTo_29 : decode cX12_takeBackTo 29 = .ok (.iload 4, 2) := by decide +kernel
theorem dX12_takeBackTo_31 : decode cX12_takeBackTo 31 = .ok (.invokevirtual 376, 3) := by decide +kernel
theorem dX12_takeBackTo_34 : decode cX12_takeBackTo 34 = .ok (.goto 10, 3) := by decide +kernel
theorem dX12_takeBackTo_37 : decode cX12_takeBackTo 37 = .ok (.aload_n 0, 1) := by decide +kernel
theorem dX12_takeBackTo_38 : decode cX12_takeBackTo 38 = .ok (.iload_n 1, 1) := by decide +kernel
theorem dX12_takeBackTo_39 : decode cX12_takeBackTo 39 = .ok (.iload 4, 2) := by decide +kernel
theorem dX12_takeBackTo_41 : decode cX12_takeBackTo 41 = .ok (.invokevirtual 379, 3) := by decide +kernel
theorem dX12_takeBackTo_44 : decode cX12_takeBackTo 44 = .ok (.iinc 4 (-1), 3) := by decide +kernel
theorem dX12_takeBackTo_47 : decode cX12_takeBackTo 47 = .ok (.goto (-37), 3) := by decide +kernel
theorem dX12_takeBackTo_50 : decode cX12_takeBackTo 50 = .ok (.aload_n 0, 1) := by decide +kernel
theorem dX12_takeBackTo_51 : decode cX12_takeBackTo 51 = .ok (.getfield 199, 3) := by decide +kernel
theorem dX12_takeBackTo_54 : decode cX12_takeBackTo 54 = .ok (.iload_n 1, 1) := by decide +kernel
theorem dX12_takeBackTo_55 : decode cX12_takeBackTo 55 = .ok (.iconst 0, 1) := by decide +kernel
theorem dX12_takeBackTo_56 : decode cX12_takeBackTo 56 = .ok (.iastore, 1) := by decide +kernel
theorem dX12_takeBackTo_57 : decode cX12_takeBackTo 57 = .ok (.return_, 1) := by decide +kernel
theorem dX12_takeTurn_0 : decode cX12_takeTurn 0 = .ok (.aload_n 0, 1) := by decide +kernel
theorem dX12_takeTurn_1 : decode cX12_takeTurn 1 = .ok (.getfield 187, 3) := by decide +kernel
theorem dX12_takeTurn_4 : decode cX12_takeTurn 4 = .ok (.iload_n 1, 1) := by decide +kernel
theorem dX12_takeTurn_5 : decode cX12_takeTurn 5 = .ok (.iaload, 1) := by decide +kernel
theorem dX12_takeTurn_6 : decode cX12_takeTurn 6 = .ok (.ifCond .eq 13, 3) := by decide +kernel
theorem dX12_takeTurn_9 : decode cX12_takeTurn 9 = .ok (.aload_n 0, 1) := by decide +kernel
theorem dX12_takeTurn_10 : decode cX12_takeTurn 10 = .ok (.getfield 187, 3) := by decide +kernel
theorem dX12_takeTurn_13 : decode cX12_takeTurn 13 = .ok (.iload_n 1, 1) := by decide +kernel
theorem dX12_takeTurn_14 : decode cX12_takeTurn 14 = .ok (.iaload, 1) := by decide +kernel
theorem dX12_takeTurn_15 : decode cX12_takeTurn 15 = .ok (.iconst 4, 1) := by decide +kernel
theorem dX12_takeTurn_16 : decode cX12_takeTurn 16 = .ok (.if_icmp .ne 5, 3) := by decide +kernel
theorem dX12_takeTurn_19 : decode cX12_takeTurn 19 = .ok (.iconst 2, 1) := by decide +kernel
theorem dX12_takeTurn_20 : decode cX12_takeTurn 20 = .ok (.ireturn, 1) := by decide +kernel
theorem dX12_takeTurn_21 : decode cX12_takeTurn 21 = .ok (.aload_n 0, 1) := by decide +kernel
theorem dX12_takeTurn_22 : decode cX12_takeTurn 22 = .ok (.getfield 187, 3) := by decide +kernel
theorem dX12_takeTurn_25 : decode cX12_takeTurn 25 = .ok (.iload_n 1, 1) := by decide +kernel
theorem dX12_takeTurn_26 : decode cX12_takeTurn 26 = .ok (.iaload, 1) := by decide +kernel
theorem dX12_takeTurn_27 : decode cX12_takeTurn 27 = .ok (.iconst 5, 1) := by decide +kernel
theorem dX12_takeTurn_28 : decode cX12_takeTurn 28 = .ok (.if_icmp .ne 5, 3) := by decide +kernel
theorem dX12_takeTurn_31 : decode cX12_takeTurn 31 = .ok (.iconst 5, 1) := by decide +kernel
theorem dX12_takeTurn_32 : decode cX12_takeTurn 32 = .ok (.ireturn, 1) := by decide +kernel
theorem dX12_takeTurn_33 : decode cX12_takeTurn 33 = .ok (.aload_n 0, 1) := by decide +kernel
theorem dX12_takeTurn_34 : decode cX12_takeTurn 34 = .ok (.getfield 187, 3) := by decide +kernel
theorem dX12_takeTurn_37 : decode cX12_takeTurn 37 = .ok (.iload_n 1, 1) := by decide +kernel
theorem dX12_takeTurn_38 : decode cX12_takeTurn 38 = .ok (.iaload, 1) := by decide +kernel
theorem dX12_takeTurn_39 : decode cX12_takeTurn 39 = .ok (.iconst 3, 1) := by decide +kernel
theorem dX12_takeTurn_40 : decode cX12_takeTurn 40 = .ok (.if_icmp .ne 46, 3) := by decide +kernel
theorem dX12_takeTurn_43 : decode cX12_takeTurn 43 = .ok (.aload_n 0, 1) := by decide +kernel
theorem dX12_takeTurn_44 : decode cX12_takeTurn 44 = .ok (.iload_n 1, 1) := by decide +kernel
theorem dX12_takeTurn_45 : decode cX12_takeTurn 45 = .ok (.invokevirtual 488, 3) := by decide +kernel
theorem dX12_takeTurn_48 : decode cX12_takeTurn 48 = .ok (.ifCond .ne 5, 3) := by decide +kernel
theorem dX12_takeTurn_51 : decode cX12_takeTurn 51 = .ok (.iconst 3, 1) := by decide +kernel
theorem dX12_takeTurn_52 : decode cX12_takeTurn 52 = .ok (.ireturn, 1) := by decide +kernel
theorem dX12_takeTurn_53 : decode cX12_takeTurn 53 = .ok (.aload_n 0, 1) := by decide +kernel
theorem dX12_takeTurn_54 : decode cX12_takeTurn 54 = .ok (.iload_n 1, 1) := by decide +kernel
theorem dX12_takeTurn_55 : decode cX12_takeTurn 55 = .ok (.invokevirtual 431, 3) := by decide +kernel
theorem dX12_takeTurn_58 : decode cX12_takeTurn 58 = .ok (.ifCond .eq 5, 3) := by decide +kernel
theorem dX12_takeTurn_61 : decode cX12_takeTurn 61 = .ok (.iconst 4, 1) := by decide +kernel
theorem dX12_takeTurn_62 : decode cX12_takeTurn 62 = .ok (.ireturn, 1) := by decide +kernel
theorem dX12_takeTurn_63 : decode cX12_takeTurn 63 = .ok (.aload_n 0, 1) := by decide +kernel
theorem dX12_takeTurn_64 : decode cX12_takeTurn 64 = .ok (.getfield 187, 3) := by decide +kernel
theorem dX12_takeTurn_67 : decode cX12_takeTurn 67 = .ok (.iload_n 1, 1) := by decide +kernel
theorem dX12_takeTurn_68 : decode cX12_takeTurn 68 = .ok (.iconst 2, 1) := by decide +kernel
theorem dX12_takeTurn_69 : decode cX12_takeTurn 69 = .ok (.iastore, 1) := by decide +kernel
theorem dX12_takeTurn_70 : decode cX12_takeTurn 70 = .ok (.aload_n 0, 1) := by decide +kernel
theorem dX12_takeTurn_71 : decode cX12_takeTurn 71 = .ok (.getfield 202, 3) := by decide +kernel
theorem dX12_takeTurn_74 : decode cX12_takeTurn 74 = .ok (.iload_n 1, 1) := by decide +kernel
theorem dX12_takeTurn_75 : decode cX12_takeTurn 75 = .ok (.iconst 1, 1) := by decide +kernel
theorem dX12_takeTurn_76 : decode cX12_takeTurn 76 = .ok (.iastore, 1) := by decide +kernel
theorem dX12_takeTurn_77 : decode cX12_takeTurn 77 = .ok (.aload_n 0, 1) := by decide +kernel
theorem dX12_takeTurn_78 : decode cX12_takeTurn 78 = .ok (.iload_n 1, 1) := by decide +kernel
theorem dX12_takeTurn_79 : decode cX12_takeTurn 79 = .ok (.iconst 0, 1) := by decide +kernel
theorem dX12_takeTurn_80 : decode cX12_takeTurn 80 = .ok (.invokevirtual 396, 3) := by decide +kernel
theorem dX12_takeTurn_83 : decode cX12_takeTurn 83 = .ok (.bipush 6, 2) := by decide +kernel
theorem dX12_takeTurn_85 : decode cX12_takeTurn 85 = .ok (.ireturn, 1) := by decide +kernel
theorem dX12_takeTurn_86 : decode cX12_takeTurn 86 = .ok (.iconst (-1), 1) := by decide +kernel
theorem dX12_takeTurn_87 : decode cX12_takeTurn 87 = .ok (.istore_n 2, 1) := by decide +kernel
theorem dX12_takeTurn_88 : decode cX12_takeTurn 88 = .ok (.iload_n 2, 1) := by decide +kernel
theorem dX12_takeTurn_89 : decode cX12_takeTurn 89 = .ok (.ifCond .ge 12, 3) := by decide +kernel
theorem dX12_takeTurn_92 : decode cX12_takeTurn 92 = .ok (.aload_n 0, 1) := by decide +kernel
theorem dX12_takeTurn_93 : decode cX12_takeTurn 93 = .ok (.iload_n 1, 1) := by decide +kernel
theorem dX12_takeTurn_94 : decode cX12_takeTurn 94 = .ok (.invokevirtual 491, 3) := by decide +kernel
theorem dX12_takeTurn_97 : decode cX12_takeTurn 97 = .ok (.istore_n 2, 1) := by decide +kernel
theorem dX12_takeTurn_98 : decode cX12_takeTurn 98 = .ok (.goto (-10), 3) := by decide +kernel
theorem dX12_takeTurn_101 : decode cX12_takeTurn 101 = .ok (.iload_n 2, 1) := by decide +kernel
theorem dX12_takeTurn_102 : decode cX12_takeTurn 102 = .ok (.ireturn, 1) := by decide +kernel
theorem dX12_thrown_0 : decode cX12_thrown 0 = .ok (.aload_n 0, 1) := by decide +kernel
theorem dX12_thrown_1 : decode cX12_thrown 1 = .ok (.getfield 1, 3) := by decide +kernel
theorem dX12_thrown_4 : decode cX12_thrown 4 = .ok (.ireturn, 1) := by decide +kernel
theorem dX12_token_0 : decode cX12_token 0 = .ok (.aload_n 0, 1) := by decide +kernel
theorem dX12_token_1 : decode cX12_token 1 = .ok (.aload_n 0, 1) := by decide +kernel
theorem dX12_token_2 : decode cX12_token 2 = .ok (.getfield 32, 3) := by decide +kernel
theorem dX12_token_5 : decode cX12_token 5 = .ok (.invokevirtual 35, 3) := by decide +kernel
theorem dX12_token_8 : decode cX12_token 8 = .ok (.bipush 10, 2) := by decide +kernel
theorem dX12_token_10 : decode cX12_token 10 = .ok (.if_icmp .eq 16, 3) := by decide +kernel
theorem dX12_token_13 : decode cX12_token 13 = .ok (.aload_n 0, 1) := by decide +kernel
theorem dX12_token_14 : decode cX12_token 14 = .ok (.aload_n 0, 1) := by decide +kernel
theorem dX12_token_15 : decode cX12_token 15 = .ok (.getfield 32, 3) := by decide +kernel
theorem dX12_token_18 : decode cX12_token 18 = .ok (.invokevirtual 35, 3) := by decide +kernel
theorem dX12_token_21 : decode cX12_token 21 = .ok (.bipush 32, 2) := by decide +kernel
theorem dX12_token_23 : decode cX12_token 23 = .ok (.if_icmp .ne 16, 3) := by decide +kernel
theorem dX12_token_26 : decode cX12_token 26 = .ok (.aload_n 0, 1) := by decide +kernel
theorem dX12_token_27 : decode cX12_token 27 = .ok (.dup, 1) := by decide +kernel
theorem dX12_token_28 : decode cX12_token 28 = .ok (.getfield 32, 3) := by decide +kernel
theorem dX12_token_31 : decode cX12_token 31 = .ok (.iconst 1, 1) := by decide +kernel
theorem dX12_token_32 : decode cX12_token 32 = .ok (.iadd, 1) := by decide +kernel
theorem dX12_token_33 : decode cX12_token 33 = .ok (.putfield 32, 3) := by decide +kernel
theorem dX12_token_36 : decode cX12_token 36 = .ok (.goto (-36), 3) := by decide +kernel
theorem dX12_token_39 : decode cX12_token 39 = .ok (.aload_n 0, 1) := by decide +kernel
theorem dX12_token_40 : decode cX12_token 40 = .ok (.aload_n 0, 1) := by decide +kernel
theorem dX12_token_41 : decode cX12_token 41 = .ok (.getfield 32, 3) := by decide +kernel
theorem dX12_token_44 : decode cX12_token 44 = .ok (.putfield 39, 3) := by decide +kernel
theorem dX12_token_47 : decode cX12_token 47 = .ok (.aload_n 0, 1) := by decide +kernel
theorem dX12_token_48 : decode cX12_token 48 = .ok (.aload_n 0, 1) := by decide +kernel
theorem dX12_token_49 : decode cX12_token 49 = .ok (.getfield 32, 3) := by decide +kernel
theorem dX12_token_52 : decode cX12_token 52 = .ok (.invokevirtual 35, 3) := by decide +kernel
theorem dX12_token_55 : decode cX12_token 55 = .ok (.istore_n 1, 1) := by decide +kernel
theorem dX12_token_56 : decode cX12_token 56 = .ok (.aload_n 0, 1) := by decide +kernel
theorem dX12_token_57 : decode cX12_token 57 = .ok (.iconst (-1), 1) := by decide +kernel
theorem dX12_token_58 : decode cX12_token 58 = .ok (.putfield 42, 3) := by decide +kernel
theorem dX12_token_61 : decode cX12_token 61 = .ok (.iload_n 1, 1) := by decide +kernel
theorem dX12_token_62 : decode cX12_token 62 = .ok (.ifCond .ge 20, 3) := by decide +kernel
theorem dX12_token_65 : decode cX12_token 65 = .ok (.aload_n 0, 1) := by decide +kernel
theorem dX12_token_66 : decode cX12_token 66 = .ok (.getfield 32, 3) := by decide +kernel
theorem dX12_token_69 : decode cX12_token 69 = .ok (.aload_n 0, 1) := by decide +kernel
theorem dX12_token_70 : decode cX12_token 70 = .ok (.getfield 14, 3) := by decide +kernel
theorem dX12_token_73 : decode cX12_token 73 = .ok (.if_icmp .lt 9, 3) := by decide +kernel
theorem dX12_token_76 : decode cX12_token 76 = .ok (.aload_n 0, 1) := by decide +kernel
theorem dX12_token_77 : decode cX12_token 77 = .ok (.iconst 0, 1) := by decide +kernel
theorem dX12_token_78 : decode cX12_token 78 = .ok (.putfield 42, 3) := by decide +kernel
theorem dX12_token_81 : decode cX12_token 81 = .ok (.return_, 1) := by decide +kernel
theorem dX12_token_82 : decode cX12_token 82 = .ok (.iload_n 1, 1) := by decide +kernel
theorem dX12_token_83 : decode cX12_token 83 = .ok (.invokestatic 45, 3) := by decide +kernel
theorem dX12_token_86 : decode cX12_token 86 = .ok (.ifCond .eq 108, 3) := by decide +kernel
theorem dX12_token_89 : decode cX12_token 89 = .ok (.aload_n 0, 1) := by decide +kernel
theorem dX12_token_90 : decode cX12_token 90 = .ok (.aload_n 0, 1) := by decide +kernel
theorem dX12_token_91 : decode cX12_token 91 = .ok (.getfield 32, 3) := by decide +kernel
theorem dX12_token_94 : decode cX12_token 94 = .ok (.invokevirtual 35, 3) := by decide +kernel
theorem dX12_token_97 : decode cX12_token 97 = .ok (.invokestatic 45, 3) := by decide +kernel
theorem dX12_token_100 : decode cX12_token 100 = .ok (.ifCond .eq 16, 3) := by decide +kernel
theorem dX12_token_103 : decode cX12_token 103 = .ok (.aload_n 0, 1) := by decide +kernel
theorem dX12_token_104 : decode cX12_token 104 = .ok (.dup, 1) := by decide +kernel
theorem dX12_token_105 : decode cX12_token 105 = .ok (.getfield 32, 3) := by decide +kernel
theorem dX12_token_108 : decode cX12_token 108 = .ok (.iconst 1, 1) := by decide +kernel
theorem dX12_token_109 : decode cX12_token 109 = .ok (.iadd, 1) := by decide +kernel
theorem dX12_token_110 : decode cX12_token 110 = .ok (.putfield 32, 3) := by decide +kernel
theorem dX12_token_113 : decode cX12_token 113 = .ok (.goto (-24), 3) := by decide +kernel
theorem dX12_token_116 : decode cX12_token 116 = .ok (.aload_n 0, 1) := by decide +kernel
theorem dX12_token_117 : decode cX12_token 117 = .ok (.getfield 32, 3) := by decide +kernel
theorem dX12_token_120 : decode cX12_token 120 = .ok (.aload_n 0, 1) := by decide +kernel
theorem dX12_token_121 : decode cX12_token 121 = .ok (.getfield 39, 3) := by decide +kernel
theorem dX12_token_124 : decode cX12_token 124 = .ok (.isub, 1) := by decide +kernel
theorem dX12_token_125 : decode cX12_token 125 = .ok (.istore_n 2, 1) := by decide +kernel
theorem dX12_token_126 : decode cX12_token 126 = .ok (.iload_n 2, 1) := by decide +kernel
theorem dX12_token_127 : decode cX12_token 127 = .ok (.iconst 1, 1) := by decide +kernel
theorem dX12_token_128 : decode cX12_token 128 = .ok (.if_icmp .ne 40, 3) := by decide +kernel
theorem dX12_token_131 : decode cX12_token 131 = .ok (.aload_n 0, 1) := by decide +kernel
theorem dX12_token_132 : decode cX12_token 132 = .ok (.iload_n 1, 1) := by decide +kernel
theorem dX12_token_133 : decode cX12_token 133 = .ok (.bipush 97, 2) := by decide +kernel
theorem dX12_token_135 : decode cX12_token 135 = .ok (.if_icmp .lt 7, 3) := by decide +kernel
theorem dX12_token_138 : decode cX12_token 138 = .ok (.iconst 1, 1) := by decide +kernel
theorem dX12_token_139 : decode cX12_token 139 = .ok (.goto 4, 3) := by decide +kernel
theorem dX12_token_142 : decode cX12_token 142 = .ok (.iconst 2, 1) := by decide +kernel
theorem dX12_token_143 : decode cX12_token 143 = .ok (.putfield 42, 3) := by decide +kernel
theorem dX12_token_146 : decode cX12_token 146 = .ok (.aload_n 0, 1) := by decide +kernel
theorem dX12_token_147 : decode cX12_token 147 = .ok (.iload_n 1, 1) := by decide +kernel
theorem dX12_token_148 : decode cX12_token 148 = .ok (.bipush 97, 2) := by decide +kernel
theorem dX12_token_150 : decode cX12_token 150 = .ok (.if_icmp .lt 10, 3) := by decide +kernel
theorem dX12_token_153 : decode cX12_token 153 = .ok (.iload_n 1, 1) := by decide +kernel
theorem dX12_token_154 : decode cX12_token 154 = .ok (.bipush 97, 2) := by decide +kernel
theorem dX12_token_156 : decode cX12_token 156 = .ok (.isub, 1) := by decide +kernel
theorem dX12_token_157 : decode cX12_token 157 = .ok (.goto 7, 3) := by decide +kernel
theorem dX12_token_160 : decode cX12_token 160 = .ok (.iload_n 1, 1) := by decide +kernel
theorem dX12_token_161 : decode cX12_token 161 = .ok (.bipush 65, 2) := by decide +kernel
theorem dX12_token_163 : decode cX12_token 163 = .ok (.isub, 1) := by decide +kernel
theorem dX12_token_164 : decode cX12_token 164 = .ok (.putfield 49, 3) := by decide +kernel
theorem dX12_token_167 : decode cX12_token 167 = .ok (.return_, 1) := by decide +kernel
theorem dX12_token_168 : decode cX12_token 168 = .ok (.aload_n 0, 1) := by decide +kernel
theorem dX12_token_169 : decode cX12_token 169 = .ok (.aload_n 0, 1) := by decide +kernel
theorem dX12_token_170 : decode cX12_token 170 = .ok (.aload_n 0, 1) := by decide +kernel
theorem dX12_token_171 : decode cX12_token 171 = .ok (.getfield 39, 3) := by decide +kernel
theorem dX12_token_174 : decode cX12_token 174 = .ok (.iload_n 2, 1) := by decide +kernel
theorem dX12_token_175 : decode cX12_token 175 = .ok (.invokevirtual 52, 3) := by decide +kernel
theorem dX12_token_178 : decode cX12_token 178 = .ok (.putfield 49, 3) := by decide +kernel
theorem dX12_token_181 : decode cX12_token 181 = .ok (.aload_n 0, 1) := by decide +kernel
theorem dX12_token_182 : decode cX12_token 182 = .ok (.getfield 49, 3) := by decide +kernel
theorem dX12_token_185 : decode cX12_token 185 = .ok (.ifCond .lt 8, 3) := by decide +kernel
theorem dX12_token_188 : decode cX12_token 188 = .ok (.aload_n 0, 1) := by decide +kernel
theorem dX12_token_189 : decode cX12_token 189 = .ok (.iconst 3, 1) := by decide +kernel
theorem dX12_token_190 : decode cX12_token 190 = .ok (.putfield 42, 3) := by decide +kernel
theorem dX12_token_193 : decode cX12_token 193 = .ok (.return_, 1) := by decide +kernel
theorem dX12_token_194 : decode cX12_token 194 = .ok (.iload_n 1, 1) := by decide +kernel
theorem dX12_token_195 : decode cX12_token 195 = .ok (.invokestatic 56, 3) := by decide +kernel
theorem dX12_token_198 : decode cX12_token 198 = .ok (.ifCond .eq 72, 3) := by decide +kernel
theorem dX12_token_201 : decode cX12_token 201 = .ok (.iconst 0, 1) := by decide +kernel
theorem dX12_token_202 : decode cX12_token 202 = .ok (.istore_n 2, 1) := by decide +kernel
theorem dX12_token_203 : decode cX12_token 203 = .ok (.aload_n 0, 1) := by decide +kernel
theorem dX12_token_204 : decode cX12_token 204 = .ok (.aload_n 0, 1) := by decide +kernel
theorem dX12_token_205 : decode cX12_token 205 = .ok (.getfield 32, 3) := by decide +kernel
theorem dX12_token_208 : decode cX12_token 208 = .ok (.invokevirtual 35, 3) := by decide +kernel
theorem dX12_token_211 : decode cX12_token 211 = .ok (.invokestatic 56, 3) := by decide +kernel
theorem dX12_token_214 : decode cX12_token 214 = .ok (.ifCond .eq 39, 3) := by decide +kernel
theorem dX12_token_217 : decode cX12_token 217 = .ok (.iload_n 2, 1) := by decide +kernel
theorem dX12_token_218 : decode cX12_token 218 = .ok (.ldc 59, 2) := by decide +kernel
theorem dX12_token_220 : decode cX12_token 220 = .ok (.if_icmp .gt 20, 3) := by decide +kernel
theorem dX12_token_223 : decode cX12_token 223 = .ok (.bipush 10, 2) := by decide +kernel
theorem dX12_token_225 : decode cX12_token 225 = .ok (.iload_n 2, 1) := by decide +kernel
theorem dX12_token_226 : decode cX12_token 226 = .ok (.imul, 1) := by decide +kernel
theorem dX12_token_227 : decode cX12_token 227 = .ok (.aload_n 0, 1) := by decide +kernel
theorem dX12_token_228 : decode cX12_token 228 = .ok (.aload_n 0, 1) := by decide +kernel
theorem dX12_token_229 : decode cX12_token 229 = .ok (.getfield 32, 3) := by decide +kernel
theorem dX12_token_232 : decode cX12_token 232 = .ok (.invokevirtual 35, 3) := by decide +kernel
theorem dX12_token_235 : decode cX12_token 235 = .ok (.iadd, 1) := by decide +kernel
theorem dX12_token_236 : decode cX12_token 236 = .ok (.bipush 48, 2) := by decide +kernel
theorem dX12_token_238 : decode cX12_token 238 = .ok (.isub, 1) := by decide +kernel
theorem dX12_token_239 : decode cX12_token 239 = .ok (.istore_n 2, 1) := by decide +kernel
theorem dX12_token_240 : decode cX12_token 240 = .ok (.aload_n 0, 1) := by decide +kernel
theorem dX12_token_241 : decode cX12_token 241 = .ok (.dup, 1) := by decide +kernel
theorem dX12_token_242 : decode cX12_token 242 = .ok (.getfield 32, 3) := by decide +kernel
theorem dX12_token_245 : decode cX12_token 245 = .ok (.iconst 1, 1) := by decide +kernel
theorem dX12_token_246 : decode cX12_token 246 = .ok (.iadd, 1) := by decide +kernel
theorem dX12_token_247 : decode cX12_token 247 = .ok (.putfield 32, 3) := by decide +kernel
theorem dX12_token_250 : decode cX12_token 250 = .ok (.goto (-47), 3) := by decide +kernel
theorem dX12_token_253 : decode cX12_token 253 = .ok (.aload_n 0, 1) := by decide +kernel
theorem dX12_token_254 : decode cX12_token 254 = .ok (.iload_n 2, 1) := by decide +kernel
theorem dX12_token_255 : decode cX12_token 255 = .ok (.putfield 49, 3) := by decide +kernel
theorem dX12_token_258 : decode cX12_token 258 = .ok (.iload_n 2, 1) := by decide +kernel
theorem dX12_token_259 : decode cX12_token 259 = .ok (.ldc 59, 2) := by decide +kernel
theorem dX12_token_261 : decode cX12_token 261 = .ok (.if_icmp .gt 8, 3) := by decide +kernel
theorem dX12_token_264 : decode cX12_token 264 = .ok (.aload_n 0, 1) := by decide +kernel
theorem dX12_token_265 : decode cX12_token 265 = .ok (.iconst 4, 1) := by decide +kernel
theorem dX12_token_266 : decode cX12_token 266 = .ok (.putfield 42, 3) := by decide +kernel
theorem dX12_token_269 : decode cX12_token 269 = .ok (.return_, 1) := by decide +kernel
theorem dX12_token_270 : decode cX12_token 270 = .ok (.aload_n 0, 1) := by decide +kernel
theorem dX12_token_271 : decode cX12_token 271 = .ok (.dup, 1) := by decide +kernel
theorem dX12_token_272 : decode cX12_token 272 = .ok (.getfield 32, 3) := by decide +kernel
theorem dX12_token_275 : decode cX12_token 275 = .ok (.iconst 1, 1) := by decide +kernel
theorem dX12_token_276 : decode cX12_token 276 = .ok (.iadd, 1) := by decide +kernel
theorem dX12_token_277 : decode cX12_token 277 = .ok (.putfield 32, 3) := by decide +kernel
theorem dX12_token_280 : decode cX12_token 280 = .ok (.aload_n 0, 1) := by decide +kernel
theorem dX12_token_281 : decode cX12_token 281 = .ok (.iload_n 1, 1) := by decide +kernel
theorem dX12_token_282 : decode cX12_token 282 = .ok (.putfield 49, 3) := by decide +kernel
theorem dX12_token_285 : decode cX12_token 285 = .ok (.iload_n 1, 1) := by decide +kernel
theorem dX12_token_286 : decode cX12_token 286 = .ok (.bipush 61, 2) := by decide +kernel
theorem dX12_token_288 : decode cX12_token 288 = .ok (.if_icmp .ne 41, 3) := by decide +kernel
theorem dX12_token_291 : decode cX12_token 291 = .ok (.aload_n 0, 1) := by decide +kernel
theorem dX12_token_292 : decode cX12_token 292 = .ok (.aload_n 0, 1) := by decide +kernel
theorem dX12_token_293 : decode cX12_token 293 = .ok (.getfield 32, 3) := by decide +kernel
theorem dX12_token_296 : decode cX12_token 296 = .ok (.invokevirtual 35, 3) := by decide +kernel
theorem dX12_token_299 : decode cX12_token 299 = .ok (.bipush 61, 2) := by decide +kernel
theorem dX12_token_301 : decode cX12_token 301 = .ok (.if_icmp .ne 28, 3) := by decide +kernel
theorem dX12_token_304 : decode cX12_token 304 = .ok (.aload_n 0, 1) := by decide +kernel
theorem dX12_token_305 : decode cX12_token 305 = .ok (.dup, 1) := by decide +kernel
theorem dX12_token_306 : decode cX12_token 306 = .ok (.getfield 32, 3) := by decide +kernel
theorem dX12_token_309 : decode cX12_token 309 = .ok (.iconst 1, 1) := by decide +kernel
theorem dX12_token_310 : decode cX12_token 310 = .ok (.iadd, 1) := by decide +kernel
theorem dX12_token_311 : decode cX12_token 311 = .ok (.putfield 32, 3) := by decide +kernel
theorem dX12_token_314 : decode cX12_token 314 = .ok (.aload_n 0, 1) := by decide +kernel
theorem dX12_token_315 : decode cX12_token 315 = .ok (.sipush 300, 3) := by decide +kernel
theorem dX12_token_318 : decode cX12_token 318 = .ok (.putfield 49, 3) := by decide +kernel
theorem dX12_token_321 : decode cX12_token 321 = .ok (.aload_n 0, 1) := by decide +kernel
theorem dX12_token_322 : decode cX12_token 322 = .ok (.iconst 5, 1) := by decide +kernel
theorem dX12_token_323 : decode cX12_token 323 = .ok (.putfield 42, 3) := by decide +kernel
theorem dX12_token_326 : decode cX12_token 326 = .ok (.goto 68, 3) := by decide +kernel
theorem dX12_token_329 : decode cX12_token 329 = .ok (.iload_n 1, 1) := by decide +kernel
theorem dX12_token_330 : decode cX12_token 330 = .ok (.bipush 123, 2) := by decide +kernel
theorem dX12_token_332 : decode cX12_token 332 = .ok (.if_icmp .eq 57, 3) := by decide +kernel
theorem dX12_token_335 : decode cX12_token 335 = .ok (.iload_n 1, 1) := by decide +kernel
theorem dX12_token_336 : decode cX12_token 336 = .ok (.bipush 125, 2) := by decide +kernel
theorem dX12_token_338 : decode cX12_token 338 = .ok (.if_icmp .eq 51, 3) := by decide +kernel
theorem dX12_token_341 : decode cX12_token 341 = .ok (.iload_n 1, 1) := by decide +kernel
theorem dX12_token_342 : decode cX12_token 342 = .ok (.bipush 40, 2) := by decide +kernel
theorem dX12_token_344 : decode cX12_token 344 = .ok (.if_icmp .eq 45, 3) := by decide +kernel
theorem dX12_token_347 : decode cX12_token 347 = .ok (.iload_n 1, 1) := by decide +kernel
theorem dX12_token_348 : decode cX12_token 348 = .ok (.bipush 41, 2) := by decide +kernel
theorem dX12_token_350 : decode cX12_token 350 = .ok (.if_icmp .eq 39, 3) := by decide +kernel
theorem dX12_token_353 : decode cX12_token 353 = .ok (.iload_n 1, 1) := by decide +kernel
theorem dX12_token_354 : decode cX12_token 354 = .ok (.bipush 59, 2) := by decide +kernel
theorem dX12_token_356 : decode cX12_token 356 = .ok (.if_icmp .eq 33, 3) := by decide +kernel
theorem dX12_token_359 : decode cX12_token 359 = .ok (.iload_n 1, 1) := by decide +kernel
theorem dX12_token_360 : decode cX12_token 360 = .ok (.bipush 61, 2) := by decide +kernel
theorem dX12_token_362 : decode cX12_token 362 = .ok (.if_icmp .eq 27, 3) := by decide +kernel
theorem dX12_token_365 : decode cX12_token 365 = .ok (.iload_n 1, 1) := by decide +kernel
theorem dX12_token_366 : decode cX12_token 366 = .ok (.bipush 60, 2) := by decide +kernel
theorem dX12_token_368 : decode cX12_token 368 = .ok (.if_icmp .eq 21, 3) := by decide +kernel
theorem dX12_token_371 : decode cX12_token 371 = .ok (.iload_n 1, 1) := by decide +kernel
theorem dX12_token_372 : decode cX12_token 372 = .ok (.bipush 43, 2) := by decide +kernel
theorem dX12_token_374 : decode cX12_token 374 = .ok (.if_icmp .eq 15, 3) := by decide +kernel
theorem dX12_token_377 : decode cX12_token 377 = .ok (.iload_n 1, 1) := by decide +kernel
theorem dX12_token_378 : decode cX12_token 378 = .ok (.bipush 45, 2) := by decide +kernel
theorem dX12_token_380 : decode cX12_token 380 = .ok (.if_icmp .eq 9, 3) := by decide +kernel
theorem dX12_token_383 : decode cX12_token 383 = .ok (.iload_n 1, 1) := by decide +kernel
theorem dX12_token_384 : decode cX12_token 384 = .ok (.bipush 42, 2) := by decide +kernel
theorem dX12_token_386 : decode cX12_token 386 = .ok (.if_icmp .ne 8, 3) := by decide +kernel
theorem dX12_token_389 : decode cX12_token 389 = .ok (.aload_n 0, 1) := by decide +kernel
theorem dX12_token_390 : decode cX12_token 390 = .ok (.iconst 5, 1) := by decide +kernel
theorem dX12_token_391 : decode cX12_token 391 = .ok (.putfield 42, 3) := by decide +kernel
theorem dX12_token_394 : decode cX12_token 394 = .ok (.return_, 1) := by decide +kernel
theorem dX12_tried_0 : decode cX12_tried 0 = .ok (.aload_n 0, 1) := by decide +kernel
theorem dX12_tried_1 : decode cX12_tried 1 = .ok (.bipush 20, 2) := by decide +kernel
theorem dX12_tried_3 : decode cX12_tried 3 = .ok (.iconst 0, 1) := by decide +kernel
theorem dX12_tried_4 : decode cX12_tried 4 = .ok (.iconst 0, 1) := by decide +kernel
theorem dX12_tried_5 : decode cX12_tried 5 = .ok (.invokevirtual 87, 3) := by decide +kernel
theorem dX12_tried_8 : decode cX12_tried 8 = .ok (.istore_n 1, 1) := by decide +kernel
theorem dX12_tried_9 : decode cX12_tried 9 = .ok (.aload_n 0, 1) := by decide +kernel
theorem dX12_tried_10 : decode cX12_tried 10 = .ok (.invokevirtual 119, 3) := by decide +kernel
theorem dX12_tried_13 : decode cX12_tried 13 = .ok (.aload_n 0, 1) := by decide +kernel
theorem dX12_tried_14 : decode cX12_tried 14 = .ok (.bipush 21, 2) := by decide +kernel
theorem dX12_tried_16 : decode cX12_tried 16 = .ok (.iconst 0, 1) := by decide +kernel
theorem dX12_tried_17 : decode cX12_tried 17 = .ok (.iconst 0, 1) := by decide +kernel
theorem dX12_tried_18 : decode cX12_tried 18 = .ok (.invokevirtual 87, 3) := by decide +kernel
theorem dX12_tried_21 : decode cX12_tried 21 = .ok (.istore_n 2, 1) := by decide +kernel
theorem dX12_tried_22 : decode cX12_tried 22 = .ok (.aload_n 0, 1) := by decide +kernel
theorem dX12_tried_23 : decode cX12_tried 23 = .ok (.bipush 12, 2) := by decide +kernel
theorem dX12_tried_25 : decode cX12_tried 25 = .ok (.iconst 0, 1) := by decide +kernel
theorem dX12_tried_26 : decode cX12_tried 26 = .ok (.iconst 0, 1) := by decide +kernel
theorem dX12_tried_27 : decode cX12_tried 27 = .ok (.invokevirtual 87, 3) := by decide +kernel
theorem dX12_tried_30 : decode cX12_tried 30 = .ok (.istore_n 3, 1) := by decide +kernel
theorem dX12_tried_31 : decode cX12_tried 31 = .ok (.aload_n 0, 1) := by decide +kernel
theorem dX12_tried_32 : decode cX12_tried 32 = .ok (.bipush 11, 2) := by decide +kernel
theorem dX12_tried_34 : decode cX12_tried 34 = .ok (.invokevirtual 122, 3) := by decide +kernel
theorem dX12_tried_37 : decode cX12_tried 37 = .ok (.ifCond .ne 12, 3) := by decide +kernel
theorem dX12_tried_40 : decode cX12_tried 40 = .ok (.aload_n 0, 1) := by decide +kernel
theorem dX12_tried_41 : decode cX12_tried 41 = .ok (.aload_n 0, 1) := by decide +kernel
theorem dX12_tried_42 : decode cX12_tried 42 = .ok (.getfield 39, 3) := by decide +kernel
theorem dX12_tried_45 : decode cX12_tried 45 = .ok (.invokevirtual 70, 3) := by decide +kernel
theorem dX12_tried_48 : decode cX12_tried 48 = .ok (.athrow, 1) := by decide +kernel
theorem dX12_tried_49 : decode cX12_tried 49 = .ok (.aload_n 0, 1) := by decide +kernel
theorem dX12_tried_50 : decode cX12_tried 50 = .ok (.invokevirtual 63, 3) := by decide +kernel
theorem dX12_tried_53 : decode cX12_tried 53 = .ok (.aload_n 0, 1) := by decide +kernel
theorem dX12_tried_54 : decode cX12_tried 54 = .ok (.getfield 42, 3) := by decide +kernel
theorem dX12_tried_57 : decode cX12_tried 57 = .ok (.iconst 2, 1) := by decide +kernel
theorem dX12_tried_58 : decode cX12_tried 58 = .ok (.if_icmp .eq 12, 3) := by decide +kernel
theorem dX12_tried_61 : decode cX12_tried 61 = .ok (.aload_n 0, 1) := by decide +kernel
theorem dX12_tried_62 : decode cX12_tried 62 = .ok (.aload_n 0, 1) := by decide +kernel
theorem dX12_tried_63 : decode cX12_tried 63 = .ok (.getfield 39, 3) := by decide +kernel
theorem dX12_tried_66 : decode cX12_tried 66 = .ok (.invokevirtual 70, 3) := by decide +kernel
theorem dX12_tried_69 : decode cX12_tried 69 = .ok (.athrow, 1) := by decide +kernel
theorem dX12_tried_70 : decode cX12_tried 70 = .ok (.aload_n 0, 1) := by decide +kernel
theorem dX12_tried_71 : decode cX12_tried 71 = .ok (.getfield 74, 3) := by decide +kernel
theorem dX12_tried_74 : decode cX12_tried 74 = .ok (.iconst 3, 1) := by decide +kernel
theorem dX12_tried_75 : decode cX12_tried 75 = .ok (.iload_n 1, 1) := by decide +kernel
theorem dX12_tried_76 : decode cX12_tried 76 = .ok (.imul, 1) := by decide +kernel
theorem dX12_tried_77 : decode cX12_tried 77 = .ok (.iconst 2, 1) := by decide +kernel
theorem dX12_tried_78 : decode cX12_tried 78 = .ok (.iadd, 1) := by decide +kernel
theorem dX12_tried_79 : decode cX12_tried 79 = .ok (.aload_n 0, 1) := by decide +kernel
theorem dX12_tried_80 : decode cX12_tried 80 = .ok (.getfield 49, 3) := by decide +kernel
theorem dX12_tried_83 : decode cX12_tried 83 = .ok (.iastore, 1) := by decide +kernel
theorem dX12_tried_84 : decode cX12_tried 84 = .ok (.aload_n 0, 1) := by decide +kernel
theorem dX12_tried_85 : decode cX12_tried 85 = .ok (.invokevirtual 63, 3) := by decide +kernel
theorem dX12_tried_88 : decode cX12_tried 88 = .ok (.aload_n 0, 1) := by decide +kernel
theorem dX12_tried_89 : decode cX12_tried 89 = .ok (.getfield 74, 3) := by decide +kernel
theorem dX12_tried_92 : decode cX12_tried 92 = .ok (.iconst 3, 1) := by decide +kernel
theorem dX12_tried_93 : decode cX12_tried 93 = .ok (.iload_n 1, 1) := by decide +kernel
theorem dX12_tried_94 : decode cX12_tried 94 = .ok (.imul, 1) := by decide +kernel
theorem dX12_tried_95 : decode cX12_tried 95 = .ok (.iconst 1, 1) := by decide +kernel
theorem dX12_tried_96 : decode cX12_tried 96 = .ok (.iadd, 1) := by decide +kernel
theorem dX12_tried_97 : decode cX12_tried 97 = .ok (.aload_n 0, 1) := by decide +kernel
theorem dX12_tried_98 : decode cX12_tried 98 = .ok (.getfield 78, 3) := by decide +kernel
theorem dX12_tried_101 : decode cX12_tried 101 = .ok (.iastore, 1) := by decide +kernel
theorem dX12_tried_102 : decode cX12_tried 102 = .ok (.aload_n 0, 1) := by decide +kernel
theorem dX12_tried_103 : decode cX12_tried 103 = .ok (.invokevirtual 119, 3) := by decide +kernel
theorem dX12_tried_106 : decode cX12_tried 106 = .ok (.aload_n 0, 1) := by decide +kernel
theorem dX12_tried_107 : decode cX12_tried 107 = .ok (.getfield 74, 3) := by decide +kernel
theorem dX12_tried_110 : decode cX12_tried 110 = .ok (.iconst 3, 1) := by decide +kernel
theorem dX12_tried_111 : decode cX12_tried 111 = .ok (.iload_n 3, 1) := by decide +kernel
theorem dX12_tried_112 : decode cX12_tried 112 = .ok (.imul, 1) := by decide +kernel
theorem dX12_tried_113 : decode cX12_tried 113 = .ok (.iconst 1, 1) := by decide +kernel
theorem dX12_tried_114 : decode cX12_tried 114 = .ok (.iadd, 1) := by decide +kernel
theorem dX12_tried_115 : decode cX12_tried 115 = .ok (.aload_n 0, 1) := by decide +kernel
theorem dX12_tried_116 : decode cX12_tried 116 = .ok (.getfield 78, 3) := by decide +kernel
theorem dX12_tried_119 : decode cX12_tried 119 = .ok (.iastore, 1) := by decide +kernel
theorem dX12_tried_120 : decode cX12_tried 120 = .ok (.return_, 1) := by decide +kernel
theorem dX12_turn_0 : decode cX12_turn 0 = .ok (.aload_n 0, 1) := by decide +kernel
theorem dX12_turn_1 : decode cX12_turn 1 = .ok (.iload_n 1, 1) := by decide +kernel
theorem dX12_turn_2 : decode cX12_turn 2 = .ok (.invokestatic 503, 3) := by decide +kernel
theorem dX12_turn_5 : decode cX12_turn 5 = .ok (.ifCond .ne 7, 3) := by decide +kernel
theorem dX12_turn_8 : decode cX12_turn 8 = .ok (.iconst 1, 1) := by decide +kernel
theorem dX12_turn_9 : decode cX12_turn 9 = .ok (.goto 18, 3) := by decide +kernel
theorem dX12_turn_12 : decode cX12_turn 12 = .ok (.aload_n 0, 1) := by decide +kernel
theorem dX12_turn_13 : decode cX12_turn 13 = .ok (.getfield 341, 3) := by decide +kernel
theorem dX12_turn_16 : decode cX12_turn 16 = .ok (.sipush 20000, 3) := by decide +kernel
theorem dX12_turn_19 : decode cX12_turn 19 = .ok (.if_icmp .ne 7, 3) := by decide +kernel
theorem dX12_turn_22 : decode cX12_turn 22 = .ok (.iconst 2, 1) := by decide +kernel
theorem dX12_turn_23 : decode cX12_turn 23 = .ok (.goto 4, 3) := by decide +kernel
theorem dX12_turn_26 : decode cX12_turn 26 = .ok (.iconst 0, 1) := by decide +kernel
theorem dX12_turn_27 : decode cX12_turn 27 = .ok (.invokevirtual 497, 3) := by decide +kernel
theorem dX12_turn_30 : decode cX12_turn 30 = .ok (.ifCond .eq 5, 3) := by decide +kernel
theorem dX12_turn_33 : decode cX12_turn 33 = .ok (.iconst 0, 1) := by decide +kernel
theorem dX12_turn_34 : decode cX12_turn 34 = .ok (.ireturn, 1) := by decide +kernel
theorem dX12_turn_35 : decode cX12_turn 35 = .ok (.aload_n 0, 1) := by decide +kernel
theorem dX12_turn_36 : decode cX12_turn 36 = .ok (.iload_n 1, 1) := by decide +kernel
theorem dX12_turn_37 : decode cX12_turn 37 = .ok (.invokevirtual 512, 3) := by decide +kernel
theorem dX12_turn_40 : decode cX12_turn 40 = .ok (.istore_n 2, 1) := by decide +kernel
theorem dX12_turn_41 : decode cX12_turn 41 = .ok (.aload_n 0, 1) := by decide +kernel
theorem dX12_turn_42 : decode cX12_turn 42 = .ok (.dup, 1) := by decide +kernel
theorem dX12_turn_43 : decode cX12_turn 43 = .ok (.getfield 341, 3) := by decide +kernel
theorem dX12_turn_46 : decode cX12_turn 46 = .ok (.iconst 1, 1) := by decide +kernel
theorem dX12_turn_47 : decode cX12_turn 47 = .ok (.iadd, 1) := by decide +kernel
theorem dX12_turn_48 : decode cX12_turn 48 = .ok (.putfield 341, 3) := by decide +kernel
theorem dX12_turn_51 : decode cX12_turn 51 = .ok (.iload_n 2, 1) := by decide +kernel
theorem dX12_turn_52 : decode cX12_turn 52 = .ok (.ireturn, 1) := by decide +kernel
theorem dX12_wakes_0 : decode cX12_wakes 0 = .ok (.iconst 0, 1) := by decide +kernel
theorem dX12_wakes_1 : decode cX12_wakes 1 = .ok (.istore_n 2, 1) := by decide +kernel
theorem dX12_wakes_2 : decode cX12_wakes 2 = .ok (.iload_n 2, 1) := by decide +kernel
theorem dX12_wakes_3 : decode cX12_wakes 3 = .ok (.bipush 26, 2) := by decide +kernel
theorem dX12_wakes_5 : decode cX12_wakes 5 = .ok (.if_icmp .ge 59, 3) := by decide +kernel
theorem dX12_wakes_8 : decode cX12_wakes 8 = .ok (.aload_n 0, 1) := by decide +kernel
theorem dX12_wakes_9 : decode cX12_wakes 9 = .ok (.iload_n 1, 1) := by decide +kernel
theorem dX12_wakes_10 : decode cX12_wakes 10 = .ok (.iconst 0, 1) := by decide +kernel
theorem dX12_wakes_11 : decode cX12_wakes 11 = .ok (.iload_n 2, 1) := by decide +kernel
theorem dX12_wakes_12 : decode cX12_wakes 12 = .ok (.invokevirtual 357, 3) := by decide +kernel
theorem dX12_wakes_15 : decode cX12_wakes 15 = .ok (.istore_n 3, 1) := by decide +kernel
theorem dX12_wakes_16 : decode cX12_wakes 16 = .ok (.aload_n 0, 1) := by decide +kernel
theorem dX12_wakes_17 : decode cX12_wakes 17 = .ok (.getfield 266, 3) := by decide +kernel
theorem dX12_wakes_20 : decode cX12_wakes 20 = .ok (.iload_n 3, 1) := by decide +kernel
theorem dX12_wakes_21 : decode cX12_wakes 21 = .ok (.baload, 1) := by decide +kernel
theorem dX12_wakes_22 : decode cX12_wakes 22 = .ok (.ifCond .eq 36, 3) := by decide +kernel
theorem dX12_wakes_25 : decode cX12_wakes 25 = .ok (.aload_n 0, 1) := by decide +kernel
theorem dX12_wakes_26 : decode cX12_wakes 26 = .ok (.getfield 151, 3) := by decide +kernel
theorem dX12_wakes_29 : decode cX12_wakes 29 = .ok (.iload_n 2, 1) := by decide +kernel
theorem dX12_wakes_30 : decode cX12_wakes 30 = .ok (.iaload, 1) := by decide +kernel
theorem dX12_wakes_31 : decode cX12_wakes 31 = .ok (.aload_n 0, 1) := by decide +kernel
theorem dX12_wakes_32 : decode cX12_wakes 32 = .ok (.getfield 272, 3) := by decide +kernel
theorem dX12_wakes_35 : decode cX12_wakes 35 = .ok (.iload_n 3, 1) := by decide +kernel
theorem dX12_wakes_36 : decode cX12_wakes 36 = .ok (.iaload, 1) := by decide +kernel
theorem dX12_wakes_37 : decode cX12_wakes 37 = .ok (.if_icmp .eq 21, 3) := by decide +kernel
theorem dX12_wakes_40 : decode cX12_wakes 40 = .ok (.aload_n 0, 1) := by decide +kernel
theorem dX12_wakes_41 : decode cX12_wakes 41 = .ok (.invokevirtual 369, 3) := by decide +kernel
theorem dX12_wakes_44 : decode cX12_wakes 44 = .ok (.ifCond .eq 12, 3) := by decide +kernel
theorem dX12_wakes_47 : decode cX12_wakes 47 = .ok (.aload_n 0, 1) := by decide +kernel
theorem dX12_wakes_48 : decode cX12_wakes 48 = .ok (.getfield 177, 3) := by decide +kernel
theorem dX12_wakes_51 : decode cX12_wakes 51 = .ok (.iload_n 2, 1) := by decide +kernel
theorem dX12_wakes_52 : decode cX12_wakes 52 = .ok (.iaload, 1) := by decide +kernel
theorem dX12_wakes_53 : decode cX12_wakes 53 = .ok (.ifCond .ge 5, 3) := by decide +kernel
theorem dX12_wakes_56 : decode cX12_wakes 56 = .ok (.iconst 1, 1) := by decide +kernel
theorem dX12_wakes_57 : decode cX12_wakes 57 = .ok (.ireturn, 1) := by decide +kernel
theorem dX12_wakes_58 : decode cX12_wakes 58 = .ok (.iinc 2 1, 3) := by decide +kernel
theorem dX12_wakes_61 : decode cX12_wakes 61 = .ok (.goto (-59), 3) := by decide +kernel
theorem dX12_wakes_64 : decode cX12_wakes 64 = .ok (.iconst 0, 1) := by decide +kernel
theorem dX12_wakes_65 : decode cX12_wakes 65 = .ok (.ireturn, 1) := by decide +kernel
theorem dX12_wins_0 : decode cX12_wins 0 = .ok (.aload_n 0, 1) := by decide +kernel
theorem dX12_wins_1 : decode cX12_wins 1 = .ok (.getfield 177, 3) := by decide +kernel
theorem dX12_wins_4 : decode cX12_wins 4 = .ok (.iload_n 2, 1) := by decide +kernel
theorem dX12_wins_5 : decode cX12_wins 5 = .ok (.iaload, 1) := by decide +kernel
theorem dX12_wins_6 : decode cX12_wins 6 = .ok (.istore_n 3, 1) := by decide +kernel
theorem dX12_wins_7 : decode cX12_wins 7 = .ok (.aload_n 0, 1) := by decide +kernel
theorem dX12_wins_8 : decode cX12_wins 8 = .ok (.getfield 332, 3) := by decide +kernel
theorem dX12_wins_11 : decode cX12_wins 11 = .ok (.iconst 3, 1) := by decide +kernel
theorem dX12_wins_12 : decode cX12_wins 12 = .ok (.if_icmp .ne 12, 3) := by decide +kernel
theorem dX12_wins_15 : decode cX12_wins 15 = .ok (.iload_n 3, 1) := by decide +kernel
theorem dX12_wins_16 : decode cX12_wins 16 = .ok (.ifCond .lt 8, 3) := by decide +kernel
theorem dX12_wins_19 : decode cX12_wins 19 = .ok (.iload_n 3, 1) := by decide +kernel
theorem dX12_wins_20 : decode cX12_wins 20 = .ok (.iload_n 1, 1) := by decide +kernel
theorem dX12_wins_21 : decode cX12_wins 21 = .ok (.if_icmp .ne 5, 3) := by decide +kernel
theorem dX12_wins_24 : decode cX12_wins 24 = .ok (.iconst 1, 1) := by decide +kernel
theorem dX12_wins_25 : decode cX12_wins 25 = .ok (.ireturn, 1) := by decide +kernel
theorem dX12_wins_26 : decode cX12_wins 26 = .ok (.aload_n 0, 1) := by decide +kernel
theorem dX12_wins_27 : decode cX12_wins 27 = .ok (.getfield 223, 3) := by decide +kernel
theorem dX12_wins_30 : decode cX12_wins 30 = .ok (.iload_n 3, 1) := by decide +kernel
theorem dX12_wins_31 : decode cX12_wins 31 = .ok (.iaload, 1) := by decide +kernel
theorem dX12_wins_32 : decode cX12_wins 32 = .ok (.aload_n 0, 1) := by decide +kernel
theorem dX12_wins_33 : decode cX12_wins 33 = .ok (.getfield 223, 3) := by decide +kernel
theorem dX12_wins_36 : decode cX12_wins 36 = .ok (.iload_n 1, 1) := by decide +kernel
theorem dX12_wins_37 : decode cX12_wins 37 = .ok (.iaload, 1) := by decide +kernel
theorem dX12_wins_38 : decode cX12_wins 38 = .ok (.if_icmp .le 11, 3) := by decide +kernel
theorem dX12_wins_41 : decode cX12_wins 41 = .ok (.aload_n 0, 1) := by decide +kernel
theorem dX12_wins_42 : decode cX12_wins 42 = .ok (.iload_n 3, 1) := by decide +kernel
theorem dX12_wins_43 : decode cX12_wins 43 = .ok (.iconst 0, 1) := by decide +kernel
theorem dX12_wins_44 : decode cX12_wins 44 = .ok (.invokevirtual 396, 3) := by decide +kernel
theorem dX12_wins_47 : decode cX12_wins 47 = .ok (.iconst 1, 1) := by decide +kernel
theorem dX12_wins_48 : decode cX12_wins 48 = .ok (.ireturn, 1) := by decide +kernel
theorem dX12_wins_49 : decode cX12_wins 49 = .ok (.aload_n 0, 1) := by decide +kernel
theorem dX12_wins_50 : decode cX12_wins 50 = .ok (.iload_n 1, 1) := by decide +kernel
theorem dX12_wins_51 : decode cX12_wins 51 = .ok (.iconst 0, 1) := by decide +kernel
theorem dX12_wins_52 : decode cX12_wins 52 = .ok (.invokevirtual 396, 3) := by decide +kernel
theorem dX12_wins_55 : decode cX12_wins 55 = .ok (.iconst 0, 1) := by decide +kernel
theorem dX12_wins_56 : decode cX12_wins 56 = .ok (.ireturn, 1) := by decide +kernel
theorem dX12_wordOf_0 : decode cX12_wordOf 0 = .ok (.iconst 0, 1) := by decide +kernel
theorem dX12_wordOf_1 : decode cX12_wordOf 1 = .ok (.istore_n 3, 1) := by decide +kernel
theorem dX12_wordOf_2 : decode cX12_wordOf 2 = .ok (.iconst 0, 1) := by decide +kernel
theorem dX12_wordOf_3 : decode cX12_wordOf 3 = .ok (.istore 4, 2) := by decide +kernel
theorem dX12_wordOf_5 : decode cX12_wordOf 5 = .ok (.iconst 0, 1) := by decide +kernel
theorem dX12_wordOf_6 : decode cX12_wordOf 6 = .ok (.istore 5, 2) := by decide +kernel
theorem dX12_wordOf_8 : decode cX12_wordOf 8 = .ok (.iload 5, 2) := by decide +kernel
theorem dX12_wordOf_10 : decode cX12_wordOf 10 = .ok (.ldc 21, 2) := by decide +kernel
theorem dX12_wordOf_12 : decode cX12_wordOf 12 = .ok (.invokevirtual 23, 3) := by decide +kernel
theorem dX12_wordOf_15 : decode cX12_wordOf 15 = .ok (.if_icmp .ge 105, 3) := by decide +kernel
theorem dX12_wordOf_18 : decode cX12_wordOf 18 = .ok (.ldc 21, 2) := by decide +kernel
theorem dX12_wordOf_20 : decode cX12_wordOf 20 = .ok (.iload 5, 2) := by decide +kernel
theorem dX12_wordOf_22 : decode cX12_wordOf 22 = .ok (.invokevirtual 28, 3) := by decide +kernel
theorem dX12_wordOf_25 : decode cX12_wordOf 25 = .ok (.bipush 32, 2) := by decide +kernel
theorem dX12_wordOf_27 : decode cX12_wordOf 27 = .ok (.if_icmp .eq 6, 3) := by decide +kernel
theorem dX12_wordOf_30 : decode cX12_wordOf 30 = .ok (.goto 84, 3) := by decide +kernel
theorem dX12_wordOf_33 : decode cX12_wordOf 33 = .ok (.iload 5, 2) := by decide +kernel
theorem dX12_wordOf_35 : decode cX12_wordOf 35 = .ok (.iload 4, 2) := by decide +kernel
theorem dX12_wordOf_37 : decode cX12_wordOf 37 = .ok (.isub, 1) := by decide +kernel
theorem dX12_wordOf_38 : decode cX12_wordOf 38 = .ok (.iload_n 2, 1) := by decide +kernel
theorem dX12_wordOf_39 : decode cX12_wordOf 39 = .ok (.if_icmp .ne 7, 3) := by decide +kernel
theorem dX12_wordOf_42 : decode cX12_wordOf 42 = .ok (.iconst 1, 1) := by decide +kernel
theorem dX12_wordOf_43 : decode cX12_wordOf 43 = .ok (.goto 4, 3) := by decide +kernel
theorem dX12_wordOf_46 : decode cX12_wordOf 46 = .ok (.iconst 0, 1) := by decide +kernel
theorem dX12_wordOf_47 : decode cX12_wordOf 47 = .ok (.istore 6, 2) := by decide +kernel
theorem dX12_wordOf_49 : decode cX12_wordOf 49 = .ok (.iconst 0, 1) := by decide +kernel
theorem dX12_wordOf_50 : decode cX12_wordOf 50 = .ok (.istore 7, 2) := by decide +kernel
theorem dX12_wordOf_52 : decode cX12_wordOf 52 = .ok (.iload 7, 2) := by decide +kernel
theorem dX12_wordOf_54 : decode cX12_wordOf 54 = .ok (.iload_n 2, 1) := by decide +kernel
theorem dX12_wordOf_55 : decode cX12_wordOf 55 = .ok (.if_icmp .ge 43, 3) := by decide +kernel
theorem dX12_wordOf_58 : decode cX12_wordOf 58 = .ok (.iload 6, 2) := by decide +kernel
theorem dX12_wordOf_60 : decode cX12_wordOf 60 = .ok (.ifCond .eq 38, 3) := by decide +kernel
theorem dX12_wordOf_63 : decode cX12_wordOf 63 = .ok (.ldc 21, 2) := by decide +kernel
theorem dX12_wordOf_65 : decode cX12_wordOf 65 = .ok (.iload 4, 2) := by decide +kernel
theorem dX12_wordOf_67 : decode cX12_wordOf 67 = .ok (.iload 7, 2) := by decide +kernel
theorem dX12_wordOf_69 : decode cX12_wordOf 69 = .ok (.iadd, 1) := by decide +kernel
theorem dX12_wordOf_70 : decode cX12_wordOf 70 = .ok (.invokevirtual 28, 3) := by decide +kernel
theorem dX12_wordOf_73 : decode cX12_wordOf 73 = .ok (.aload_n 0, 1) := by decide +kernel
theorem dX12_wordOf_74 : decode cX12_wordOf 74 = .ok (.getfield 17, 3) := by decide +kernel
theorem dX12_wordOf_77 : decode cX12_wordOf 77 = .ok (.iload_n 1, 1) := by decide +kernel
theorem dX12_wordOf_78 : decode cX12_wordOf 78 = .ok (.iload 7, 2) := by decide +kernel
theorem dX12_wordOf_80 : decode cX12_wordOf 80 = .ok (.iadd, 1) := by decide +kernel
theorem dX12_wordOf_81 : decode cX12_wordOf 81 = .ok (.baload, 1) := by decide +kernel
theorem dX12_wordOf_82 : decode cX12_wordOf 82 = .ok (.if_icmp .ne 7, 3) := by decide +kernel
theorem dX12_wordOf_85 : decode cX12_wordOf 85 = .ok (.iconst 1, 1) := by decide +kernel
theorem dX12_wordOf_86 : decode cX12_wordOf 86 = .ok (.goto 4, 3) := by decide +kernel
theorem dX12_wordOf_89 : decode cX12_wordOf 89 = .ok (.iconst 0, 1) := by decide +kernel
theorem dX12_wordOf_90 : decode cX12_wordOf 90 = .ok (.istore 6, 2) := by decide +kernel
theorem dX12_wordOf_92 : decode cX12_wordOf 92 = .ok (.iinc 7 1, 3) := by decide +kernel
theorem dX12_wordOf_95 : decode cX12_wordOf 95 = .ok (.goto (-43), 3) := by decide +kernel
theorem dX12_wordOf_98 : decode cX12_wordOf 98 = .ok (.iload 6, 2) := by decide +kernel
theorem dX12_wordOf_100 : decode cX12_wordOf 100 = .ok (.ifCond .eq 5, 3) := by decide +kernel
theorem dX12_wordOf_103 : decode cX12_wordOf 103 = .ok (.iload_n 3, 1) := by decide +kernel
theorem dX12_wordOf_104 : decode cX12_wordOf 104 = .ok (.ireturn, 1) := by decide +kernel
theorem dX12_wordOf_105 : decode cX12_wordOf 105 = .ok (.iinc 3 1, 3) := by decide +kernel
theorem dX12_wordOf_108 : decode cX12_wordOf 108 = .ok (.iload 5, 2) := by decide +kernel
theorem dX12_wordOf_110 : decode cX12_wordOf 110 = .ok (.iconst 1, 1) := by decide +kernel
theorem dX12_wordOf_111 : decode cX12_wordOf 111 = .ok (.iadd, 1) := by decide +kernel
theorem dX12_wordOf_112 : decode cX12_wordOf 112 = .ok (.istore 4, 2) := by decide +kernel
theorem dX12_wordOf_114 : decode cX12_wordOf 114 = .ok (.iinc 5 1, 3) := by decide +kernel
theorem dX12_wordOf_117 : decode cX12_wordOf 117 = .ok (.goto (-109), 3) := by decide +kernel
theorem dX12_wordOf_120 : decode cX12_wordOf 120 = .ok (.iconst (-1), 1) := by decide +kernel
theorem dX12_wordOf_121 : decode cX12_wordOf 121 = .ok (.ireturn, 1) := by decide +kernel
theorem dX12_write_0 : decode cX12_write 0 = .ok (.aload_n 0, 1) := by decide +kernel
theorem dX12_write_1 : decode cX12_write 1 = .ok (.getfield 332, 3) := by decide +kernel
theorem dX12_write_4 : decode cX12_write 4 = .ok (.iconst 3, 1) := by decide +kernel
theorem dX12_write_5 : decode cX12_write 5 = .ok (.if_icmp .ne 22, 3) := by decide +kernel
theorem dX12_write_8 : decode cX12_write 8 = .ok (.aload_n 0, 1) := by decide +kernel
theorem dX12_write_9 : decode cX12_write 9 = .ok (.iload_n 1, 1) := by decide +kernel
theorem dX12_write_10 : decode cX12_write 10 = .ok (.iload_n 2, 1) := by decide +kernel
theorem dX12_write_11 : decode cX12_write 11 = .ok (.invokevirtual 411, 3) := by decide +kernel
theorem dX12_write_14 : decode cX12_write 14 = .ok (.ifCond .eq 11, 3) := by decide +kernel
theorem dX12_write_17 : decode cX12_write 17 = .ok (.aload_n 0, 1) := by decide +kernel
theorem dX12_write_18 : decode cX12_write 18 = .ok (.iload_n 1, 1) := by decide +kernel
theorem dX12_write_19 : decode cX12_write 19 = .ok (.invokevirtual 408, 3) := by decide +kernel
theorem dX12_write_22 : decode cX12_write 22 = .ok (.ifCond .ne 5, 3) := by decide +kernel
theorem dX12_write_25 : decode cX12_write 25 = .ok (.iconst 0, 1) := by decide +kernel
theorem dX12_write_26 : decode cX12_write 26 = .ok (.ireturn, 1) := by decide +kernel
theorem dX12_write_27 : decode cX12_write 27 = .ok (.aload_n 0, 1) := by decide +kernel
theorem dX12_write_28 : decode cX12_write 28 = .ok (.iload_n 1, 1) := by decide +kernel
theorem dX12_write_29 : decode cX12_write 29 = .ok (.aload_n 0, 1) := by decide +kernel
theorem dX12_write_30 : decode cX12_write 30 = .ok (.getfield 202, 3) := by decide +kernel
theorem dX12_write_33 : decode cX12_write 33 = .ok (.iload_n 1, 1) := by decide +kernel
theorem dX12_write_34 : decode cX12_write 34 = .ok (.iaload, 1) := by decide +kernel
theorem dX12_write_35 : decode cX12_write 35 = .ok (.iconst 1, 1) := by decide +kernel
theorem dX12_write_36 : decode cX12_write 36 = .ok (.isub, 1) := by decide +kernel
theorem dX12_write_37 : decode cX12_write 37 = .ok (.iload_n 2, 1) := by decide +kernel
theorem dX12_write_38 : decode cX12_write 38 = .ok (.invokevirtual 357, 3) := by decide +kernel
theorem dX12_write_41 : decode cX12_write 41 = .ok (.istore 4, 2) := by decide +kernel
theorem dX12_write_43 : decode cX12_write 43 = .ok (.aload_n 0, 1) := by decide +kernel
theorem dX12_write_44 : decode cX12_write 44 = .ok (.invokevirtual 369, 3) := by decide +kernel
theorem dX12_write_47 : decode cX12_write 47 = .ok (.ifCond .ne 21, 3) := by decide +kernel
theorem dX12_write_50 : decode cX12_write 50 = .ok (.aload_n 0, 1) := by decide +kernel
theorem dX12_write_51 : decode cX12_write 51 = .ok (.getfield 269, 3) := by decide +kernel
theorem dX12_write_54 : decode cX12_write 54 = .ok (.iload 4, 2) := by decide +kernel
theorem dX12_write_56 : decode cX12_write 56 = .ok (.iconst 1, 1) := by decide +kernel
theorem dX12_write_57 : decode cX12_write 57 = .ok (.bastore, 1) := by decide +kernel
theorem dX12_write_58 : decode cX12_write 58 = .ok (.aload_n 0, 1) := by decide +kernel
theorem dX12_write_59 : decode cX12_write 59 = .ok (.getfield 281, 3) := by decide +kernel
theorem dX12_write_62 : decode cX12_write 62 = .ok (.iload 4, 2) := by decide +kernel
theorem dX12_write_64 : decode cX12_write 64 = .ok (.iload_n 3, 1) := by decide +kernel
theorem dX12_write_65 : decode cX12_write 65 = .ok (.iastore, 1) := by decide +kernel
theorem dX12_write_66 : decode cX12_write 66 = .ok (.iconst 1, 1) := by decide +kernel
theorem dX12_write_67 : decode cX12_write 67 = .ok (.ireturn, 1) := by decide +kernel
theorem dX12_write_68 : decode cX12_write 68 = .ok (.aload_n 0, 1) := by decide +kernel
theorem dX12_write_69 : decode cX12_write 69 = .ok (.getfield 269, 3) := by decide +kernel
theorem dX12_write_72 : decode cX12_write 72 = .ok (.iload 4, 2) := by decide +kernel
theorem dX12_write_74 : decode cX12_write 74 = .ok (.baload, 1) := by decide +kernel
theorem dX12_write_75 : decode cX12_write 75 = .ok (.ifCond .ne 24, 3) := by decide +kernel
theorem dX12_write_78 : decode cX12_write 78 = .ok (.aload_n 0, 1) := by decide +kernel
theorem dX12_write_79 : decode cX12_write 79 = .ok (.getfield 269, 3) := by decide +kernel
theorem dX12_write_82 : decode cX12_write 82 = .ok (.iload 4, 2) := by decide +kernel
theorem dX12_write_84 : decode cX12_write 84 = .ok (.iconst 1, 1) := by decide +kernel
theorem dX12_write_85 : decode cX12_write 85 = .ok (.bastore, 1) := by decide +kernel
theorem dX12_write_86 : decode cX12_write 86 = .ok (.aload_n 0, 1) := by decide +kernel
theorem dX12_write_87 : decode cX12_write 87 = .ok (.getfield 281, 3) := by decide +kernel
theorem dX12_write_90 : decode cX12_write 90 = .ok (.iload 4, 2) := by decide +kernel
theorem dX12_write_92 : decode cX12_write 92 = .ok (.aload_n 0, 1) := by decide +kernel
theorem dX12_write_93 : decode cX12_write 93 = .ok (.getfield 151, 3) := by decide +kernel
theorem dX12_write_96 : decode cX12_write 96 = .ok (.iload_n 2, 1) := by decide +kernel
theorem dX12_write_97 : decode cX12_write 97 = .ok (.iaload, 1) := by decide +kernel
theorem dX12_write_98 : decode cX12_write 98 = .ok (.iastore, 1) := by decide +kernel
theorem dX12_write_99 : decode cX12_write 99 = .ok (.aload_n 0, 1) := by decide +kernel
theorem dX12_write_100 : decode cX12_write 100 = .ok (.getfield 177, 3) := by decide +kernel
theorem dX12_write_103 : decode cX12_write 103 = .ok (.iload_n 2, 1) := by decide +kernel
theorem dX12_write_104 : decode cX12_write 104 = .ok (.iload_n 1, 1) := by decide +kernel
theorem dX12_write_105 : decode cX12_write 105 = .ok (.iastore, 1) := by decide +kernel
theorem dX12_write_106 : decode cX12_write 106 = .ok (.aload_n 0, 1) := by decide +kernel
theorem dX12_write_107 : decode cX12_write 107 = .ok (.getfield 151, 3) := by decide +kernel
theorem dX12_write_110 : decode cX12_write 110 = .ok (.iload_n 2, 1) := by decide +kernel
theorem dX12_write_111 : decode cX12_write 111 = .ok (.iload_n 3, 1) := by decide +kernel
theorem dX12_write_112 : decode cX12_write 112 = .ok (.iastore, 1) := by decide +kernel
theorem dX12_write_113 : decode cX12_write 113 = .ok (.iconst 1, 1) := by decide +kernel
theorem dX12_write_114 : decode cX12_write 114 = .ok (.ireturn, 1) := by decide +kernel
theorem dX12_writesOf_0 : decode cX12_writesOf 0 = .ok (.iconst 0, 1) := by decide +kernel
theorem dX12_writesOf_1 : decode cX12_writesOf 1 = .ok (.istore_n 2, 1) := by decide +kernel
theorem dX12_writesOf_2 : decode cX12_writesOf 2 = .ok (.iconst 0, 1) := by decide +kernel
theorem dX12_writesOf_3 : decode cX12_writesOf 3 = .ok (.istore_n 3, 1) := by decide +kernel
theorem dX12_writesOf_4 : decode cX12_writesOf 4 = .ok (.iload_n 3, 1) := by decide +kernel
theorem dX12_writesOf_5 : decode cX12_writesOf 5 = .ok (.bipush 26, 2) := by decide +kernel
theorem dX12_writesOf_7 : decode cX12_writesOf 7 = .ok (.if_icmp .ge 21, 3) := by decide +kernel
theorem dX12_writesOf_10 : decode cX12_writesOf 10 = .ok (.aload_n 0, 1) := by decide +kernel
theorem dX12_writesOf_11 : decode cX12_writesOf 11 = .ok (.iload_n 1, 1) := by decide +kernel
theorem dX12_writesOf_12 : decode cX12_writesOf 12 = .ok (.iload_n 3, 1) := by decide +kernel
theorem dX12_writesOf_13 : decode cX12_writesOf 13 = .ok (.invokevirtual 402, 3) := by decide +kernel
theorem dX12_writesOf_16 : decode cX12_writesOf 16 = .ok (.ifCond .lt 6, 3) := by decide +kernel
theorem dX12_writesOf_19 : decode cX12_writesOf 19 = .ok (.iinc 2 1, 3) := by decide +kernel
theorem dX12_writesOf_22 : decode cX12_writesOf 22 = .ok (.iinc 3 1, 3) := by decide +kernel
theorem dX12_writesOf_25 : decode cX12_writesOf 25 = .ok (.goto (-21), 3) := by decide +kernel
theorem dX12_writesOf_28 : decode cX12_writesOf 28 = .ok (.iload_n 2, 1) := by decide +kernel
theorem dX12_writesOf_29 : decode cX12_writesOf 29 = .ok (.ireturn, 1) := by decide +kernel
theorem dX12_writtenLevel_0 : decode cX12_writtenLevel 0 = .ok (.aload_n 0, 1) := by decide +kernel
theorem dX12_writtenLevel_1 : decode cX12_writtenLevel 1 = .ok (.getfield 202, 3) := by decide +kernel
theorem dX12_writtenLevel_4 : decode cX12_writtenLevel 4 = .ok (.iload_n 1, 1) := by decide +kernel
theorem dX12_writtenLevel_5 : decode cX12_writtenLevel 5 = .ok (.iaload, 1) := by decide +kernel
theorem dX12_writtenLevel_6 : decode cX12_writtenLevel 6 = .ok (.iconst 1, 1) := by decide +kernel
theorem dX12_writtenLevel_7 : decode cX12_writtenLevel 7 = .ok (.isub, 1) := by decide +kernel
theorem dX12_writtenLevel_8 : decode cX12_writtenLevel 8 = .ok (.istore_n 3, 1) := by decide +kernel
theorem dX12_writtenLevel_9 : decode cX12_writtenLevel 9 = .ok (.iload_n 3, 1) := by decide +kernel
theorem dX12_writtenLevel_10 : decode cX12_writtenLevel 10 = .ok (.ifCond .lt 26, 3) := by decide +kernel
theorem dX12_writtenLevel_13 : decode cX12_writtenLevel 13 = .ok (.aload_n 0, 1) := by decide +kernel
theorem dX12_writtenLevel_14 : decode cX12_writtenLevel 14 = .ok (.getfield 269, 3) := by decide +kernel
theorem dX12_writtenLevel_17 : decode cX12_writtenLevel 17 = .ok (.aload_n 0, 1) := by decide +kernel
theorem dX12_writtenLevel_18 : decode cX12_writtenLevel 18 = .ok (.iload_n 1, 1) := by decide +kernel
theorem dX12_writtenLevel_19 : decode cX12_writtenLevel 19 = .ok (.iload_n 3, 1) := by decide +kernel
theorem dX12_writtenLevel_20 : decode cX12_writtenLevel 20 = .ok (.iload_n 2, 1) := by decide +kernel
theorem dX12_writtenLevel_21 : decode cX12_writtenLevel 21 = .ok (.invokevirtual 357, 3) := by decide +kernel
theorem dX12_writtenLevel_24 : decode cX12_writtenLevel 24 = .ok (.baload, 1) := by decide +kernel
theorem dX12_writtenLevel_25 : decode cX12_writtenLevel 25 = .ok (.ifCond .eq 5, 3) := by decide +kernel
theorem dX12_writtenLevel_28 : decode cX12_writtenLevel 28 = .ok (.iload_n 3, 1) := by decide +kernel
theorem dX12_writtenLevel_29 : decode cX12_writtenLevel 29 = .ok (.ireturn, 1) := by decide +kernel
theorem dX12_writtenLevel_30 : decode cX12_writtenLevel 30 = .ok (.iinc 3 (-1), 3) := by decide +kernel
theorem dX12_writtenLevel_33 : decode cX12_writtenLevel 33 = .ok (.goto (-24), 3) := by decide +kernel
theorem dX12_writtenLevel_36 : decode cX12_writtenLevel 36 = .ok (.iconst (-1), 1) := by decide +kernel
theorem dX12_writtenLevel_37 : decode cX12_writtenLevel 37 = .ok (.ireturn, 1) := by decide +kernel
theorem dX12_wrong_0 : decode cX12_wrong 0 = .ok (.aload_n 0, 1) := by decide +kernel
theorem dX12_wrong_1 : decode cX12_wrong 1 = .ok (.iload_n 1, 1) := by decide +kernel
theorem dX12_wrong_2 : decode cX12_wrong 2 = .ok (.putfield 7, 3) := by decide +kernel
theorem dX12_wrong_5 : decode cX12_wrong 5 = .ok (.aload_n 0, 1) := by decide +kernel
theorem dX12_wrong_6 : decode cX12_wrong 6 = .ok (.getfield 10, 3) := by decide +kernel
theorem dX12_wrong_9 : decode cX12_wrong 9 = .ok (.areturn, 1) := by decide +kernel
theorem dX12_wrongLevel_0 : decode cX12_wrongLevel 0 = .ok (.iconst 0, 1) := by decide +kernel
theorem dX12_wrongLevel_1 : decode cX12_wrongLevel 1 = .ok (.istore_n 2, 1) := by decide +kernel
theorem dX12_wrongLevel_2 : decode cX12_wrongLevel 2 = .ok (.iload_n 2, 1) := by decide +kernel
theorem dX12_wrongLevel_3 : decode cX12_wrongLevel 3 = .ok (.aload_n 0, 1) := by decide +kernel
theorem dX12_wrongLevel_4 : decode cX12_wrongLevel 4 = .ok (.getfield 202, 3) := by decide +kernel
theorem dX12_wrongLevel_7 : decode cX12_wrongLevel 7 = .ok (.iload_n 1, 1) := by decide +kernel
theorem dX12_wrongLevel_8 : decode cX12_wrongLevel 8 = .ok (.iaload, 1) := by decide +kernel
theorem dX12_wrongLevel_9 : decode cX12_wrongLevel 9 = .ok (.if_icmp .ge 35, 3) := by decide +kernel
theorem dX12_wrongLevel_12 : decode cX12_wrongLevel 12 = .ok (.iconst 0, 1) := by decide +kernel
theorem dX12_wrongLevel_13 : decode cX12_wrongLevel 13 = .ok (.istore_n 3, 1) := by decide +kernel
theorem dX12_wrongLevel_14 : decode cX12_wrongLevel 14 = .ok (.iload_n 3, 1) := by decide +kernel
theorem dX12_wrongLevel_15 : decode cX12_wrongLevel 15 = .ok (.bipush 26, 2) := by decide +kernel
theorem dX12_wrongLevel_17 : decode cX12_wrongLevel 17 = .ok (.if_icmp .ge 21, 3) := by decide +kernel
theorem dX12_wrongLevel_20 : decode cX12_wrongLevel 20 = .ok (.aload_n 0, 1) := by decide +kernel
theorem dX12_wrongLevel_21 : decode cX12_wrongLevel 21 = .ok (.iload_n 1, 1) := by decide +kernel
theorem dX12_wrongLevel_22 : decode cX12_wrongLevel 22 = .ok (.iload_n 2, 1) := by decide +kernel
theorem dX12_wrongLevel_23 : decode cX12_wrongLevel 23 = .ok (.iload_n 3, 1) := by decide +kernel
theorem dX12_wrongLevel_24 : decode cX12_wrongLevel 24 = .ok (.invokevirtual 389, 3) := by decide +kernel
theorem dX12_wrongLevel_27 : decode cX12_wrongLevel 27 = .ok (.ifCond .eq 5, 3) := by decide +kernel
theorem dX12_wrongLevel_30 : decode cX12_wrongLevel 30 = .ok (.iload_n 2, 1) := by decide +kernel
theorem dX12_wrongLevel_31 : decode cX12_wrongLevel 31 = .ok (.ireturn, 1) := by decide +kernel
theorem dX12_wrongLevel_32 : decode cX12_wrongLevel 32 = .ok (.iinc 3 1, 3) := by decide +kernel
theorem dX12_wrongLevel_35 : decode cX12_wrongLevel 35 = .ok (.goto (-21), 3) := by decide +kernel
theorem dX12_wrongLevel_38 : decode cX12_wrongLevel 38 = .ok (.iinc 2 1, 3) := by decide +kernel
theorem dX12_wrongLevel_41 : decode cX12_wrongLevel 41 = .ok (.goto (-39), 3) := by decide +kernel
theorem dX12_wrongLevel_44 : decode cX12_wrongLevel 44 = .ok (.iconst (-1), 1) := by decide +kernel
theorem dX12_wrongLevel_45 : decode cX12_wrongLevel 45 = .ok (.ireturn, 1) := by decide +kernel
