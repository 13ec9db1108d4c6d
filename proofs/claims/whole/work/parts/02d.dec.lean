theorem dX8_sizeOf_60 : decode cX8_sizeOf 60 = .ok (.invokevirtual 282, 3) := by decide +kernel
theorem dX8_sizeOf_63 : decode cX8_sizeOf 63 = .ok (.imul, 1) := by decide +kernel
theorem dX8_sizeOf_64 : decode cX8_sizeOf 64 = .ok (.iadd, 1) := by decide +kernel
theorem dX8_sizeOf_65 : decode cX8_sizeOf 65 = .ok (.istore_n 3, 1) := by decide +kernel
theorem dX8_sizeOf_66 : decode cX8_sizeOf 66 = .ok (.aload_n 0, 1) := by decide +kernel
theorem dX8_sizeOf_67 : decode cX8_sizeOf 67 = .ok (.invokevirtual 286, 3) := by decide +kernel
theorem dX8_sizeOf_70 : decode cX8_sizeOf 70 = .ok (.ifCond .eq 16, 3) := by decide +kernel
theorem dX8_sizeOf_73 : decode cX8_sizeOf 73 = .ok (.iload_n 3, 1) := by decide +kernel
theorem dX8_sizeOf_74 : decode cX8_sizeOf 74 = .ok (.iconst 2, 1) := by decide +kernel
theorem dX8_sizeOf_75 : decode cX8_sizeOf 75 = .ok (.aload_n 0, 1) := by decide +kernel
theorem dX8_sizeOf_76 : decode cX8_sizeOf 76 = .ok (.aload_n 0, 1) := by decide +kernel
theorem dX8_sizeOf_77 : decode cX8_sizeOf 77 = .ok (.getfield 92, 3) := by decide +kernel
theorem dX8_sizeOf_80 : decode cX8_sizeOf 80 = .ok (.invokevirtual 282, 3) := by decide +kernel
theorem dX8_sizeOf_83 : decode cX8_sizeOf 83 = .ok (.imul, 1) := by decide +kernel
theorem dX8_sizeOf_84 : decode cX8_sizeOf 84 = .ok (.iadd, 1) := by decide +kernel
theorem dX8_sizeOf_85 : decode cX8_sizeOf 85 = .ok (.istore_n 3, 1) := by decide +kernel
theorem dX8_sizeOf_86 : decode cX8_sizeOf 86 = .ok (.iload_n 3, 1) := by decide +kernel
theorem dX8_sizeOf_87 : decode cX8_sizeOf 87 = .ok (.ireturn, 1) := by decide +kernel
theorem dX8_leaf_0 : decode cX8_leaf 0 = .ok (.aload_n 0, 1) := by decide +kernel
theorem dX8_leaf_1 : decode cX8_leaf 1 = .ok (.iload_n 1, 1) := by decide +kernel
theorem dX8_leaf_2 : decode cX8_leaf 2 = .ok (.invokevirtual 289, 3) := by decide +kernel
theorem dX8_leaf_5 : decode cX8_leaf 5 = .ok (.ifCond .ne 5, 3) := by decide +kernel
theorem dX8_leaf_8 : decode cX8_leaf 8 = .ok (.iconst (-1), 1) := by decide +kernel
theorem dX8_leaf_9 : decode cX8_leaf 9 = .ok (.ireturn, 1) := by decide +kernel
theorem dX8_leaf_10 : decode cX8_leaf 10 = .ok (.aload_n 0, 1) := by decide +kernel
theorem dX8_leaf_11 : decode cX8_leaf 11 = .ok (.iload_n 1, 1) := by decide +kernel
theorem dX8_leaf_12 : decode cX8_leaf 12 = .ok (.invokevirtual 292, 3) := by decide +kernel
theorem dX8_leaf_15 : decode cX8_leaf 15 = .ok (.iload_n 2, 1) := by decide +kernel
theorem dX8_leaf_16 : decode cX8_leaf 16 = .ok (.tableswitch 113 0 7 #[48, 53, 64, 84, 91, 96, 102, 108], 48) := by decide +kernel
theorem dX8_leaf_64 : decode cX8_leaf 64 = .ok (.aload_n 0, 1) := by decide +kernel
theorem dX8_leaf_65 : decode cX8_leaf 65 = .ok (.invokevirtual 286, 3) := by decide +kernel
theorem dX8_leaf_68 : decode cX8_leaf 68 = .ok (.ireturn, 1) := by decide +kernel
theorem dX8_leaf_69 : decode cX8_leaf 69 = .ok (.aload_n 0, 1) := by decide +kernel
theorem dX8_leaf_70 : decode cX8_leaf 70 = .ok (.aload_n 0, 1) := by decide +kernel
theorem dX8_leaf_71 : decode cX8_leaf 71 = .ok (.getfield 254, 3) := by decide +kernel
theorem dX8_leaf_74 : decode cX8_leaf 74 = .ok (.iconst 1, 1) := by decide +kernel
theorem dX8_leaf_75 : decode cX8_leaf 75 = .ok (.isub, 1) := by decide +kernel
theorem dX8_leaf_76 : decode cX8_leaf 76 = .ok (.invokevirtual 271, 3) := by decide +kernel
theorem dX8_leaf_79 : decode cX8_leaf 79 = .ok (.ireturn, 1) := by decide +kernel
theorem dX8_leaf_80 : decode cX8_leaf 80 = .ok (.aload_n 0, 1) := by decide +kernel
theorem dX8_leaf_81 : decode cX8_leaf 81 = .ok (.getfield 44, 3) := by decide +kernel
theorem dX8_leaf_84 : decode cX8_leaf 84 = .ok (.aload_n 0, 1) := by decide +kernel
theorem dX8_leaf_85 : decode cX8_leaf 85 = .ok (.getfield 50, 3) := by decide +kernel
theorem dX8_leaf_88 : decode cX8_leaf 88 = .ok (.iload_n 1, 1) := by decide +kernel
theorem dX8_leaf_89 : decode cX8_leaf 89 = .ok (.iaload, 1) := by decide +kernel
theorem dX8_leaf_90 : decode cX8_leaf 90 = .ok (.iaload, 1) := by decide +kernel
theorem dX8_leaf_91 : decode cX8_leaf 91 = .ok (.ifCond .ne 7, 3) := by decide +kernel
theorem dX8_leaf_94 : decode cX8_leaf 94 = .ok (.iconst 1, 1) := by decide +kernel
theorem dX8_leaf_95 : decode cX8_leaf 95 = .ok (.goto 4, 3) := by decide +kernel
theorem dX8_leaf_98 : decode cX8_leaf 98 = .ok (.iconst 0, 1) := by decide +kernel
theorem dX8_leaf_99 : decode cX8_leaf 99 = .ok (.ireturn, 1) := by decide +kernel
theorem dX8_leaf_100 : decode cX8_leaf 100 = .ok (.aload_n 0, 1) := by decide +kernel
theorem dX8_leaf_101 : decode cX8_leaf 101 = .ok (.getfield 254, 3) := by decide +kernel
theorem dX8_leaf_104 : decode cX8_leaf 104 = .ok (.iconst 1, 1) := by decide +kernel
theorem dX8_leaf_105 : decode cX8_leaf 105 = .ok (.isub, 1) := by decide +kernel
theorem dX8_leaf_106 : decode cX8_leaf 106 = .ok (.ireturn, 1) := by decide +kernel
theorem dX8_leaf_107 : decode cX8_leaf 107 = .ok (.aload_n 0, 1) := by decide +kernel
theorem dX8_leaf_108 : decode cX8_leaf 108 = .ok (.getfield 257, 3) := by decide +kernel
theorem dX8_leaf_111 : decode cX8_leaf 111 = .ok (.ireturn, 1) := by decide +kernel
theorem dX8_leaf_112 : decode cX8_leaf 112 = .ok (.aload_n 0, 1) := by decide +kernel
theorem dX8_leaf_113 : decode cX8_leaf 113 = .ok (.iconst 0, 1) := by decide +kernel
theorem dX8_leaf_114 : decode cX8_leaf 114 = .ok (.invokevirtual 278, 3) := by decide +kernel
theorem dX8_leaf_117 : decode cX8_leaf 117 = .ok (.ireturn, 1) := by decide +kernel
theorem dX8_leaf_118 : decode cX8_leaf 118 = .ok (.aload_n 0, 1) := by decide +kernel
theorem dX8_leaf_119 : decode cX8_leaf 119 = .ok (.iconst 1, 1) := by decide +kernel
theorem dX8_leaf_120 : decode cX8_leaf 120 = .ok (.invokevirtual 278, 3) := by decide +kernel
theorem dX8_leaf_123 : decode cX8_leaf 123 = .ok (.ireturn, 1) := by decide +kernel
theorem dX8_leaf_124 : decode cX8_leaf 124 = .ok (.aload_n 0, 1) := by decide +kernel
theorem dX8_leaf_125 : decode cX8_leaf 125 = .ok (.invokevirtual 295, 3) := by decide +kernel
theorem dX8_leaf_128 : decode cX8_leaf 128 = .ok (.ireturn, 1) := by decide +kernel
theorem dX8_leaf_129 : decode cX8_leaf 129 = .ok (.iconst (-1), 1) := by decide +kernel
theorem dX8_leaf_130 : decode cX8_leaf 130 = .ok (.ireturn, 1) := by decide +kernel
theorem dX8_isRow_0 : decode cX8_isRow 0 = .ok (.aload_n 0, 1) := by decide +kernel
theorem dX8_isRow_1 : decode cX8_isRow 1 = .ok (.iload_n 1, 1) := by decide +kernel
theorem dX8_isRow_2 : decode cX8_isRow 2 = .ok (.invokevirtual 289, 3) := by decide +kernel
theorem dX8_isRow_5 : decode cX8_isRow 5 = .ok (.ifCond .eq 7, 3) := by decide +kernel
theorem dX8_isRow_8 : decode cX8_isRow 8 = .ok (.iload_n 2, 1) := by decide +kernel
theorem dX8_isRow_9 : decode cX8_isRow 9 = .ok (.ifCond .ge 5, 3) := by decide +kernel
theorem dX8_isRow_12 : decode cX8_isRow 12 = .ok (.iconst 0, 1) := by decide +kernel
theorem dX8_isRow_13 : decode cX8_isRow 13 = .ok (.ireturn, 1) := by decide +kernel
theorem dX8_isRow_14 : decode cX8_isRow 14 = .ok (.aload_n 0, 1) := by decide +kernel
theorem dX8_isRow_15 : decode cX8_isRow 15 = .ok (.iload_n 1, 1) := by decide +kernel
theorem dX8_isRow_16 : decode cX8_isRow 16 = .ok (.invokevirtual 292, 3) := by decide +kernel
theorem dX8_isRow_19 : decode cX8_isRow 19 = .ok (.iload_n 2, 1) := by decide +kernel
theorem dX8_isRow_20 : decode cX8_isRow 20 = .ok (.aload_n 0, 1) := by decide +kernel
theorem dX8_isRow_21 : decode cX8_isRow 21 = .ok (.getfield 257, 3) := by decide +kernel
theorem dX8_isRow_24 : decode cX8_isRow 24 = .ok (.if_icmp .ge 7, 3) := by decide +kernel
theorem dX8_isRow_27 : decode cX8_isRow 27 = .ok (.iconst 1, 1) := by decide +kernel
theorem dX8_isRow_28 : decode cX8_isRow 28 = .ok (.goto 4, 3) := by decide +kernel
theorem dX8_isRow_31 : decode cX8_isRow 31 = .ok (.iconst 0, 1) := by decide +kernel
theorem dX8_isRow_32 : decode cX8_isRow 32 = .ok (.ireturn, 1) := by decide +kernel
theorem dX8_row_0 : decode cX8_row 0 = .ok (.aload_n 0, 1) := by decide +kernel
theorem dX8_row_1 : decode cX8_row 1 = .ok (.iload_n 1, 1) := by decide +kernel
theorem dX8_row_2 : decode cX8_row 2 = .ok (.iload_n 2, 1) := by decide +kernel
theorem dX8_row_3 : decode cX8_row 3 = .ok (.invokevirtual 298, 3) := by decide +kernel
theorem dX8_row_6 : decode cX8_row 6 = .ok (.ifCond .ne 5, 3) := by decide +kernel
theorem dX8_row_9 : decode cX8_row 9 = .ok (.iconst (-1), 1) := by decide +kernel
theorem dX8_row_10 : decode cX8_row 10 = .ok (.ireturn, 1) := by decide +kernel
theorem dX8_row_11 : decode cX8_row 11 = .ok (.iload_n 3, 1) := by decide +kernel
theorem dX8_row_12 : decode cX8_row 12 = .ok (.tableswitch 68 0 3 #[32, 39, 46, 61], 32) := by decide +kernel
theorem dX8_row_44 : decode cX8_row 44 = .ok (.aload_n 0, 1) := by decide +kernel
theorem dX8_row_45 : decode cX8_row 45 = .ok (.getfield 89, 3) := by decide +kernel
theorem dX8_row_48 : decode cX8_row 48 = .ok (.iload_n 2, 1) := by decide +kernel
theorem dX8_row_49 : decode cX8_row 49 = .ok (.iaload, 1) := by decide +kernel
theorem dX8_row_50 : decode cX8_row 50 = .ok (.ireturn, 1) := by decide +kernel
theorem dX8_row_51 : decode cX8_row 51 = .ok (.aload_n 0, 1) := by decide +kernel
theorem dX8_row_52 : decode cX8_row 52 = .ok (.getfield 92, 3) := by decide +kernel
theorem dX8_row_55 : decode cX8_row 55 = .ok (.iload_n 2, 1) := by decide +kernel
theorem dX8_row_56 : decode cX8_row 56 = .ok (.iaload, 1) := by decide +kernel
theorem dX8_row_57 : decode cX8_row 57 = .ok (.ireturn, 1) := by decide +kernel
theorem dX8_row_58 : decode cX8_row 58 = .ok (.aload_n 0, 1) := by decide +kernel
theorem dX8_row_59 : decode cX8_row 59 = .ok (.getfield 95, 3) := by decide +kernel
theorem dX8_row_62 : decode cX8_row 62 = .ok (.iload_n 2, 1) := by decide +kernel
theorem dX8_row_63 : decode cX8_row 63 = .ok (.baload, 1) := by decide +kernel
theorem dX8_row_64 : decode cX8_row 64 = .ok (.ifCond .eq 7, 3) := by decide +kernel
theorem dX8_row_67 : decode cX8_row 67 = .ok (.iconst 1, 1) := by decide +kernel
theorem dX8_row_68 : decode cX8_row 68 = .ok (.goto 4, 3) := by decide +kernel
theorem dX8_row_71 : decode cX8_row 71 = .ok (.iconst 0, 1) := by decide +kernel
theorem dX8_row_72 : decode cX8_row 72 = .ok (.ireturn, 1) := by decide +kernel
theorem dX8_row_73 : decode cX8_row 73 = .ok (.aload_n 0, 1) := by decide +kernel
theorem dX8_row_74 : decode cX8_row 74 = .ok (.getfield 102, 3) := by decide +kernel
theorem dX8_row_77 : decode cX8_row 77 = .ok (.iload_n 2, 1) := by decide +kernel
theorem dX8_row_78 : decode cX8_row 78 = .ok (.iaload, 1) := by decide +kernel
theorem dX8_row_79 : decode cX8_row 79 = .ok (.ireturn, 1) := by decide +kernel
theorem dX8_row_80 : decode cX8_row 80 = .ok (.iconst (-1), 1) := by decide +kernel
theorem dX8_row_81 : decode cX8_row 81 = .ok (.ireturn, 1) := by decide +kernel
theorem dX8_value_0 : decode cX8_value 0 = .ok (.aload_n 0, 1) := by decide +kernel
theorem dX8_value_1 : decode cX8_value 1 = .ok (.iload_n 1, 1) := by decide +kernel
theorem dX8_value_2 : decode cX8_value 2 = .ok (.iload_n 2, 1) := by decide +kernel
theorem dX8_value_3 : decode cX8_value 3 = .ok (.invokevirtual 298, 3) := by decide +kernel
theorem dX8_value_6 : decode cX8_value 6 = .ok (.ifCond .eq 21, 3) := by decide +kernel
theorem dX8_value_9 : decode cX8_value 9 = .ok (.aload_n 0, 1) := by decide +kernel
theorem dX8_value_10 : decode cX8_value 10 = .ok (.getfield 95, 3) := by decide +kernel
theorem dX8_value_13 : decode cX8_value 13 = .ok (.iload_n 2, 1) := by decide +kernel
theorem dX8_value_14 : decode cX8_value 14 = .ok (.baload, 1) := by decide +kernel
theorem dX8_value_15 : decode cX8_value 15 = .ok (.ifCond .eq 12, 3) := by decide +kernel
theorem dX8_value_18 : decode cX8_value 18 = .ok (.aload_n 0, 1) := by decide +kernel
theorem dX8_value_19 : decode cX8_value 19 = .ok (.getfield 99, 3) := by decide +kernel
theorem dX8_value_22 : decode cX8_value 22 = .ok (.iload_n 2, 1) := by decide +kernel
theorem dX8_value_23 : decode cX8_value 23 = .ok (.laload, 1) := by decide +kernel
theorem dX8_value_24 : decode cX8_value 24 = .ok (.goto 4, 3) := by decide +kernel
theorem dX8_value_27 : decode cX8_value 27 = .ok (.lconst 0, 1) := by decide +kernel
theorem dX8_value_28 : decode cX8_value 28 = .ok (.lreturn, 1) := by decide +kernel
theorem dX8_lays_0 : decode cX8_lays 0 = .ok (.aload_n 0, 1) := by decide +kernel
theorem dX8_lays_1 : decode cX8_lays 1 = .ok (.getfield 120, 3) := by decide +kernel
theorem dX8_lays_4 : decode cX8_lays 4 = .ok (.aload_n 0, 1) := by decide +kernel
theorem dX8_lays_5 : decode cX8_lays 5 = .ok (.getfield 301, 3) := by decide +kernel
theorem dX8_lays_8 : decode cX8_lays 8 = .ok (.iload_n 1, 1) := by decide +kernel
theorem dX8_lays_9 : decode cX8_lays 9 = .ok (.iastore, 1) := by decide +kernel
theorem dX8_lays_10 : decode cX8_lays 10 = .ok (.aload_n 0, 1) := by decide +kernel
theorem dX8_lays_11 : decode cX8_lays 11 = .ok (.dup, 1) := by decide +kernel
theorem dX8_lays_12 : decode cX8_lays 12 = .ok (.getfield 301, 3) := by decide +kernel
theorem dX8_lays_15 : decode cX8_lays 15 = .ok (.iconst 1, 1) := by decide +kernel
theorem dX8_lays_16 : decode cX8_lays 16 = .ok (.iadd, 1) := by decide +kernel
theorem dX8_lays_17 : decode cX8_lays 17 = .ok (.putfield 301, 3) := by decide +kernel
theorem dX8_lays_20 : decode cX8_lays 20 = .ok (.return_, 1) := by decide +kernel
theorem dX8_laysWord_0 : decode cX8_laysWord 0 = .ok (.lconst 1, 1) := by decide +kernel
theorem dX8_laysWord_1 : decode cX8_laysWord 1 = .ok (.lstore_n 3, 1) := by decide +kernel
theorem dX8_laysWord_2 : decode cX8_laysWord 2 = .ok (.lload_n 3, 1) := by decide +kernel
theorem dX8_laysWord_3 : decode cX8_laysWord 3 = .ok (.ldc2_w 156, 3) := by decide +kernel
theorem dX8_laysWord_6 : decode cX8_laysWord 6 = .ok (.lmul, 1) := by decide +kernel
theorem dX8_laysWord_7 : decode cX8_laysWord 7 = .ok (.lload_n 1, 1) := by decide +kernel
theorem dX8_laysWord_8 : decode cX8_laysWord 8 = .ok (.lcmp, 1) := by decide +kernel
theorem dX8_laysWord_9 : decode cX8_laysWord 9 = .ok (.ifCond .gt 12, 3) := by decide +kernel
theorem dX8_laysWord_12 : decode cX8_laysWord 12 = .ok (.lload_n 3, 1) := by decide +kernel
theorem dX8_laysWord_13 : decode cX8_laysWord 13 = .ok (.ldc2_w 156, 3) := by decide +kernel
theorem dX8_laysWord_16 : decode cX8_laysWord 16 = .ok (.lmul, 1) := by decide +kernel
theorem dX8_laysWord_17 : decode cX8_laysWord 17 = .ok (.lstore_n 3, 1) := by decide +kernel
theorem dX8_laysWord_18 : decode cX8_laysWord 18 = .ok (.goto (-16), 3) := by decide +kernel
theorem dX8_laysWord_21 : decode cX8_laysWord 21 = .ok (.lload_n 3, 1) := by decide +kernel
theorem dX8_laysWord_22 : decode cX8_laysWord 22 = .ok (.lstore 5, 2) := by decide +kernel
theorem dX8_laysWord_24 : decode cX8_laysWord 24 = .ok (.lload 5, 2) := by decide +kernel
theorem dX8_laysWord_26 : decode cX8_laysWord 26 = .ok (.lconst 0, 1) := by decide +kernel
theorem dX8_laysWord_27 : decode cX8_laysWord 27 = .ok (.lcmp, 1) := by decide +kernel
theorem dX8_laysWord_28 : decode cX8_laysWord 28 = .ok (.ifCond .le 30, 3) := by decide +kernel
theorem dX8_laysWord_31 : decode cX8_laysWord 31 = .ok (.aload_n 0, 1) := by decide +kernel
theorem dX8_laysWord_32 : decode cX8_laysWord 32 = .ok (.bipush 96, 2) := by decide +kernel
theorem dX8_laysWord_34 : decode cX8_laysWord 34 = .ok (.lload_n 1, 1) := by decide +kernel
theorem dX8_laysWord_35 : decode cX8_laysWord 35 = .ok (.lload 5, 2) := by decide +kernel
theorem dX8_laysWord_37 : decode cX8_laysWord 37 = .ok (.ldiv, 1) := by decide +kernel
theorem dX8_laysWord_38 : decode cX8_laysWord 38 = .ok (.ldc2_w 156, 3) := by decide +kernel
theorem dX8_laysWord_41 : decode cX8_laysWord 41 = .ok (.lrem, 1) := by decide +kernel
theorem dX8_laysWord_42 : decode cX8_laysWord 42 = .ok (.l2i, 1) := by decide +kernel
theorem dX8_laysWord_43 : decode cX8_laysWord 43 = .ok (.iadd, 1) := by decide +kernel
theorem dX8_laysWord_44 : decode cX8_laysWord 44 = .ok (.invokevirtual 304, 3) := by decide +kernel
theorem dX8_laysWord_47 : decode cX8_laysWord 47 = .ok (.lload 5, 2) := by decide +kernel
theorem dX8_laysWord_49 : decode cX8_laysWord 49 = .ok (.ldc2_w 156, 3) := by decide +kernel
theorem dX8_laysWord_52 : decode cX8_laysWord 52 = .ok (.ldiv, 1) := by decide +kernel
theorem dX8_laysWord_53 : decode cX8_laysWord 53 = .ok (.lstore 5, 2) := by decide +kernel
theorem dX8_laysWord_55 : decode cX8_laysWord 55 = .ok (.goto (-31), 3) := by decide +kernel
theorem dX8_laysWord_58 : decode cX8_laysWord 58 = .ok (.return_, 1) := by decide +kernel
theorem dX8_laysNumber_0 : decode cX8_laysNumber 0 = .ok (.lload_n 1, 1) := by decide +kernel
theorem dX8_laysNumber_1 : decode cX8_laysNumber 1 = .ok (.lconst 0, 1) := by decide +kernel
theorem dX8_laysNumber_2 : decode cX8_laysNumber 2 = .ok (.lcmp, 1) := by decide +kernel
theorem dX8_laysNumber_3 : decode cX8_laysNumber 3 = .ok (.ifCond .ge 9, 3) := by decide +kernel
theorem dX8_laysNumber_6 : decode cX8_laysNumber 6 = .ok (.aload_n 0, 1) := by decide +kernel
theorem dX8_laysNumber_7 : decode cX8_laysNumber 7 = .ok (.bipush 45, 2) := by decide +kernel
theorem dX8_laysNumber_9 : decode cX8_laysNumber 9 = .ok (.invokevirtual 304, 3) := by decide +kernel
theorem dX8_laysNumber_12 : decode cX8_laysNumber 12 = .ok (.lload_n 1, 1) := by decide +kernel
theorem dX8_laysNumber_13 : decode cX8_laysNumber 13 = .ok (.lconst 0, 1) := by decide +kernel
theorem dX8_laysNumber_14 : decode cX8_laysNumber 14 = .ok (.lcmp, 1) := by decide +kernel
theorem dX8_laysNumber_15 : decode cX8_laysNumber 15 = .ok (.ifCond .ge 8, 3) := by decide +kernel
theorem dX8_laysNumber_18 : decode cX8_laysNumber 18 = .ok (.lload_n 1, 1) := by decide +kernel
theorem dX8_laysNumber_19 : decode cX8_laysNumber 19 = .ok (.lneg, 1) := by decide +kernel
theorem dX8_laysNumber_20 : decode cX8_laysNumber 20 = .ok (.goto 4, 3) := by decide +kernel
theorem dX8_laysNumber_23 : decode cX8_laysNumber 23 = .ok (.lload_n 1, 1) := by decide +kernel
theorem dX8_laysNumber_24 : decode cX8_laysNumber 24 = .ok (.lstore_n 3, 1) := by decide +kernel
theorem dX8_laysNumber_25 : decode cX8_laysNumber 25 = .ok (.lconst 1, 1) := by decide +kernel
theorem dX8_laysNumber_26 : decode cX8_laysNumber 26 = .ok (.lstore 5, 2) := by decide +kernel
theorem dX8_laysNumber_28 : decode cX8_laysNumber 28 = .ok (.lload 5, 2) := by decide +kernel
theorem dX8_laysNumber_30 : decode cX8_laysNumber 30 = .ok (.ldc2_w 227, 3) := by decide +kernel
theorem dX8_laysNumber_33 : decode cX8_laysNumber 33 = .ok (.lmul, 1) := by decide +kernel
theorem dX8_laysNumber_34 : decode cX8_laysNumber 34 = .ok (.lload_n 3, 1) := by decide +kernel
theorem dX8_laysNumber_35 : decode cX8_laysNumber 35 = .ok (.lcmp, 1) := by decide +kernel
theorem dX8_laysNumber_36 : decode cX8_laysNumber 36 = .ok (.ifCond .gt 14, 3) := by decide +kernel
theorem dX8_laysNumber_39 : decode cX8_laysNumber 39 = .ok (.lload 5, 2) := by decide +kernel
theorem dX8_laysNumber_41 : decode cX8_laysNumber 41 = .ok (.ldc2_w 227, 3) := by decide +kernel
theorem dX8_laysNumber_44 : decode cX8_laysNumber 44 = .ok (.lmul, 1) := by decide +kernel
theorem dX8_laysNumber_45 : decode cX8_laysNumber 45 = .ok (.lstore 5, 2) := by decide +kernel
theorem dX8_laysNumber_47 : decode cX8_laysNumber 47 = .ok (.goto (-19), 3) := by decide +kernel
theorem dX8_laysNumber_50 : decode cX8_laysNumber 50 = .ok (.lload 5, 2) := by decide +kernel
theorem dX8_laysNumber_52 : decode cX8_laysNumber 52 = .ok (.lstore 7, 2) := by decide +kernel
theorem dX8_laysNumber_54 : decode cX8_laysNumber 54 = .ok (.lload 7, 2) := by decide +kernel
theorem dX8_laysNumber_56 : decode cX8_laysNumber 56 = .ok (.lconst 0, 1) := by decide +kernel
theorem dX8_laysNumber_57 : decode cX8_laysNumber 57 = .ok (.lcmp, 1) := by decide +kernel
theorem dX8_laysNumber_58 : decode cX8_laysNumber 58 = .ok (.ifCond .le 30, 3) := by decide +kernel
theorem dX8_laysNumber_61 : decode cX8_laysNumber 61 = .ok (.aload_n 0, 1) := by decide +kernel
theorem dX8_laysNumber_62 : decode cX8_laysNumber 62 = .ok (.bipush 48, 2) := by decide +kernel
theorem dX8_laysNumber_64 : decode cX8_laysNumber 64 = .ok (.lload_n 3, 1) := by decide +kernel
theorem dX8_laysNumber_65 : decode cX8_laysNumber 65 = .ok (.lload 7, 2) := by decide +kernel
theorem dX8_laysNumber_67 : decode cX8_laysNumber 67 = .ok (.ldiv, 1) := by decide +kernel
theorem dX8_laysNumber_68 : decode cX8_laysNumber 68 = .ok (.ldc2_w 227, 3) := by decide +kernel
theorem dX8_laysNumber_71 : decode cX8_laysNumber 71 = .ok (.lrem, 1) := by decide +kernel
theorem dX8_laysNumber_72 : decode cX8_laysNumber 72 = .ok (.l2i, 1) := by decide +kernel
theorem dX8_laysNumber_73 : decode cX8_laysNumber 73 = .ok (.iadd, 1) := by decide +kernel
theorem dX8_laysNumber_74 : decode cX8_laysNumber 74 = .ok (.invokevirtual 304, 3) := by decide +kernel
theorem dX8_laysNumber_77 : decode cX8_laysNumber 77 = .ok (.lload 7, 2) := by decide +kernel
theorem dX8_laysNumber_79 : decode cX8_laysNumber 79 = .ok (.ldc2_w 227, 3) := by decide +kernel
theorem dX8_laysNumber_82 : decode cX8_laysNumber 82 = .ok (.ldiv, 1) := by decide +kernel
theorem dX8_laysNumber_83 : decode cX8_laysNumber 83 = .ok (.lstore 7, 2) := by decide +kernel
theorem dX8_laysNumber_85 : decode cX8_laysNumber 85 = .ok (.goto (-31), 3) := by decide +kernel
theorem dX8_laysNumber_88 : decode cX8_laysNumber 88 = .ok (.return_, 1) := by decide +kernel
theorem dX8_text_0 : decode cX8_text 0 = .ok (.aload_n 0, 1) := by decide +kernel
theorem dX8_text_1 : decode cX8_text 1 = .ok (.iload_n 1, 1) := by decide +kernel
theorem dX8_text_2 : decode cX8_text 2 = .ok (.invokevirtual 251, 3) := by decide +kernel
theorem dX8_text_5 : decode cX8_text 5 = .ok (.ifCond .ne 5, 3) := by decide +kernel
theorem dX8_text_8 : decode cX8_text 8 = .ok (.iconst (-1), 1) := by decide +kernel
theorem dX8_text_9 : decode cX8_text 9 = .ok (.ireturn, 1) := by decide +kernel
theorem dX8_text_10 : decode cX8_text 10 = .ok (.iconst 0, 1) := by decide +kernel
theorem dX8_text_11 : decode cX8_text 11 = .ok (.istore_n 3, 1) := by decide +kernel
theorem dX8_text_12 : decode cX8_text 12 = .ok (.iload_n 3, 1) := by decide +kernel
theorem dX8_text_13 : decode cX8_text 13 = .ok (.aload_n 0, 1) := by decide +kernel
theorem dX8_text_14 : decode cX8_text 14 = .ok (.getfield 208, 3) := by decide +kernel
theorem dX8_text_17 : decode cX8_text 17 = .ok (.if_icmp .ge 16, 3) := by decide +kernel
theorem dX8_text_20 : decode cX8_text 20 = .ok (.aload_n 0, 1) := by decide +kernel
theorem dX8_text_21 : decode cX8_text 21 = .ok (.getfield 123, 3) := by decide +kernel
theorem dX8_text_24 : decode cX8_text 24 = .ok (.iload_n 3, 1) := by decide +kernel
theorem dX8_text_25 : decode cX8_text 25 = .ok (.iconst 0, 1) := by decide +kernel
theorem dX8_text_26 : decode cX8_text 26 = .ok (.bastore, 1) := by decide +kernel
theorem dX8_text_27 : decode cX8_text 27 = .ok (.iinc 3 1, 3) := by decide +kernel
theorem dX8_text_30 : decode cX8_text 30 = .ok (.goto (-18), 3) := by decide +kernel
theorem dX8_text_33 : decode cX8_text 33 = .ok (.iconst 0, 1) := by decide +kernel
theorem dX8_text_34 : decode cX8_text 34 = .ok (.istore_n 3, 1) := by decide +kernel
theorem dX8_text_35 : decode cX8_text 35 = .ok (.iload_n 3, 1) := by decide +kernel
theorem dX8_text_36 : decode cX8_text 36 = .ok (.aload_n 0, 1) := by decide +kernel
theorem dX8_text_37 : decode cX8_text 37 = .ok (.getfield 211, 3) := by decide +kernel
theorem dX8_text_40 : decode cX8_text 40 = .ok (.if_icmp .ge 52, 3) := by decide +kernel
theorem dX8_text_43 : decode cX8_text 43 = .ok (.iload_n 2, 1) := by decide +kernel
theorem dX8_text_44 : decode cX8_text 44 = .ok (.iload_n 3, 1) := by decide +kernel
theorem dX8_text_45 : decode cX8_text 45 = .ok (.ishr, 1) := by decide +kernel
theorem dX8_text_46 : decode cX8_text 46 = .ok (.iconst 1, 1) := by decide +kernel
theorem dX8_text_47 : decode cX8_text 47 = .ok (.iand, 1) := by decide +kernel
theorem dX8_text_48 : decode cX8_text 48 = .ok (.iconst 1, 1) := by decide +kernel
theorem dX8_text_49 : decode cX8_text 49 = .ok (.if_icmp .ne 37, 3) := by decide +kernel
theorem dX8_text_52 : decode cX8_text 52 = .ok (.aload_n 0, 1) := by decide +kernel
theorem dX8_text_53 : decode cX8_text 53 = .ok (.getfield 50, 3) := by decide +kernel
theorem dX8_text_56 : decode cX8_text 56 = .ok (.iload_n 3, 1) := by decide +kernel
theorem dX8_text_57 : decode cX8_text 57 = .ok (.iaload, 1) := by decide +kernel
theorem dX8_text_58 : decode cX8_text 58 = .ok (.istore 4, 2) := by decide +kernel
theorem dX8_text_60 : decode cX8_text 60 = .ok (.iload 4, 2) := by decide +kernel
theorem dX8_text_62 : decode cX8_text 62 = .ok (.iconst (-1), 1) := by decide +kernel
theorem dX8_text_63 : decode cX8_text 63 = .ok (.if_icmp .eq 23, 3) := by decide +kernel
theorem dX8_text_66 : decode cX8_text 66 = .ok (.aload_n 0, 1) := by decide +kernel
theorem dX8_text_67 : decode cX8_text 67 = .ok (.getfield 123, 3) := by decide +kernel
theorem dX8_text_70 : decode cX8_text 70 = .ok (.iload 4, 2) := by decide +kernel
theorem dX8_text_72 : decode cX8_text 72 = .ok (.iconst 1, 1) := by decide +kernel
theorem dX8_text_73 : decode cX8_text 73 = .ok (.bastore, 1) := by decide +kernel
theorem dX8_text_74 : decode cX8_text 74 = .ok (.aload_n 0, 1) := by decide +kernel
theorem dX8_text_75 : decode cX8_text 75 = .ok (.getfield 37, 3) := by decide +kernel
theorem dX8_text_78 : decode cX8_text 78 = .ok (.iload 4, 2) := by decide +kernel
theorem dX8_text_80 : decode cX8_text 80 = .ok (.iaload, 1) := by decide +kernel
theorem dX8_text_81 : decode cX8_text 81 = .ok (.istore 4, 2) := by decide +kernel
theorem dX8_text_83 : decode cX8_text 83 = .ok (.goto (-23), 3) := by decide +kernel
theorem dX8_text_86 : decode cX8_text 86 = .ok (.iinc 3 1, 3) := by decide +kernel
theorem dX8_text_89 : decode cX8_text 89 = .ok (.goto (-54), 3) := by decide +kernel
theorem dX8_text_92 : decode cX8_text 92 = .ok (.aload_n 0, 1) := by decide +kernel
theorem dX8_text_93 : decode cX8_text 93 = .ok (.iconst 0, 1) := by decide +kernel
theorem dX8_text_94 : decode cX8_text 94 = .ok (.putfield 301, 3) := by decide +kernel
theorem dX8_text_97 : decode cX8_text 97 = .ok (.iconst 0, 1) := by decide +kernel
theorem dX8_text_98 : decode cX8_text 98 = .ok (.istore_n 3, 1) := by decide +kernel
theorem dX8_text_99 : decode cX8_text 99 = .ok (.aload_n 0, 1) := by decide +kernel
theorem dX8_text_100 : decode cX8_text 100 = .ok (.getfield 105, 3) := by decide +kernel
theorem dX8_text_103 : decode cX8_text 103 = .ok (.iconst 0, 1) := by decide +kernel
theorem dX8_text_104 : decode cX8_text 104 = .ok (.aload_n 0, 1) := by decide +kernel
theorem dX8_text_105 : decode cX8_text 105 = .ok (.getfield 74, 3) := by decide +kernel
theorem dX8_text_108 : decode cX8_text 108 = .ok (.iload_n 1, 1) := by decide +kernel
theorem dX8_text_109 : decode cX8_text 109 = .ok (.iaload, 1) := by decide +kernel
theorem dX8_text_110 : decode cX8_text 110 = .ok (.iastore, 1) := by decide +kernel
theorem dX8_text_111 : decode cX8_text 111 = .ok (.aload_n 0, 1) := by decide +kernel
theorem dX8_text_112 : decode cX8_text 112 = .ok (.getfield 126, 3) := by decide +kernel
theorem dX8_text_115 : decode cX8_text 115 = .ok (.iconst 0, 1) := by decide +kernel
theorem dX8_text_116 : decode cX8_text 116 = .ok (.iconst 0, 1) := by decide +kernel
theorem dX8_text_117 : decode cX8_text 117 = .ok (.iastore, 1) := by decide +kernel
theorem dX8_text_118 : decode cX8_text 118 = .ok (.aload_n 0, 1) := by decide +kernel
theorem dX8_text_119 : decode cX8_text 119 = .ok (.getfield 108, 3) := by decide +kernel
theorem dX8_text_122 : decode cX8_text 122 = .ok (.iconst 0, 1) := by decide +kernel
theorem dX8_text_123 : decode cX8_text 123 = .ok (.aload_n 0, 1) := by decide +kernel
theorem dX8_text_124 : decode cX8_text 124 = .ok (.getfield 74, 3) := by decide +kernel
theorem dX8_text_127 : decode cX8_text 127 = .ok (.iload_n 1, 1) := by decide +kernel
theorem dX8_text_128 : decode cX8_text 128 = .ok (.iaload, 1) := by decide +kernel
theorem dX8_text_129 : decode cX8_text 129 = .ok (.iconst 1, 1) := by decide +kernel
theorem dX8_text_130 : decode cX8_text 130 = .ok (.iadd, 1) := by decide +kernel
theorem dX8_text_131 : decode cX8_text 131 = .ok (.iastore, 1) := by decide +kernel
theorem dX8_text_132 : decode cX8_text 132 = .ok (.iload_n 3, 1) := by decide +kernel
theorem dX8_text_133 : decode cX8_text 133 = .ok (.ifCond .lt 302, 3) := by decide +kernel
theorem dX8_text_136 : decode cX8_text 136 = .ok (.aload_n 0, 1) := by decide +kernel
theorem dX8_text_137 : decode cX8_text 137 = .ok (.getfield 126, 3) := by decide +kernel
theorem dX8_text_140 : decode cX8_text 140 = .ok (.iload_n 3, 1) := by decide +kernel
theorem dX8_text_141 : decode cX8_text 141 = .ok (.iaload, 1) := by decide +kernel
theorem dX8_text_142 : decode cX8_text 142 = .ok (.istore 4, 2) := by decide +kernel
theorem dX8_text_144 : decode cX8_text 144 = .ok (.iload 4, 2) := by decide +kernel
theorem dX8_text_146 : decode cX8_text 146 = .ok (.aload_n 0, 1) := by decide +kernel
theorem dX8_text_147 : decode cX8_text 147 = .ok (.getfield 208, 3) := by decide +kernel
theorem dX8_text_150 : decode cX8_text 150 = .ok (.if_icmp .ne 28, 3) := by decide +kernel
theorem dX8_text_153 : decode cX8_text 153 = .ok (.iinc 3 (-1), 3) := by decide +kernel
theorem dX8_text_156 : decode cX8_text 156 = .ok (.iload_n 3, 1) := by decide +kernel
theorem dX8_text_157 : decode cX8_text 157 = .ok (.ifCond .ge 6, 3) := by decide +kernel
theorem dX8_text_160 : decode cX8_text 160 = .ok (.goto (-28), 3) := by decide +kernel
theorem dX8_text_163 : decode cX8_text 163 = .ok (.aload_n 0, 1) := by decide +kernel
theorem dX8_text_164 : decode cX8_text 164 = .ok (.bipush 93, 2) := by decide +kernel
theorem dX8_text_166 : decode cX8_text 166 = .ok (.invokevirtual 304, 3) := by decide +kernel
theorem dX8_text_169 : decode cX8_text 169 = .ok (.aload_n 0, 1) := by decide +kernel
theorem dX8_text_170 : decode cX8_text 170 = .ok (.bipush 59, 2) := by decide +kernel
theorem dX8_text_172 : decode cX8_text 172 = .ok (.invokevirtual 304, 3) := by decide +kernel
theorem dX8_text_175 : decode cX8_text 175 = .ok (.goto (-43), 3) := by decide +kernel
theorem dX8_text_178 : decode cX8_text 178 = .ok (.aload_n 0, 1) := by decide +kernel
theorem dX8_text_179 : decode cX8_text 179 = .ok (.getfield 108, 3) := by decide +kernel
theorem dX8_text_182 : decode cX8_text 182 = .ok (.iload_n 3, 1) := by decide +kernel
theorem dX8_text_183 : decode cX8_text 183 = .ok (.iaload, 1) := by decide +kernel
theorem dX8_text_184 : decode cX8_text 184 = .ok (.istore 5, 2) := by decide +kernel
theorem dX8_text_186 : decode cX8_text 186 = .ok (.aload_n 0, 1) := by decide +kernel
theorem dX8_text_187 : decode cX8_text 187 = .ok (.getfield 123, 3) := by decide +kernel
theorem dX8_text_190 : decode cX8_text 190 = .ok (.iload 4, 2) := by decide +kernel
theorem dX8_text_192 : decode cX8_text 192 = .ok (.baload, 1) := by decide +kernel
theorem dX8_text_193 : decode cX8_text 193 = .ok (.ifCond .eq 28, 3) := by decide +kernel
theorem dX8_text_196 : decode cX8_text 196 = .ok (.aload_n 0, 1) := by decide +kernel
theorem dX8_text_197 : decode cX8_text 197 = .ok (.getfield 37, 3) := by decide +kernel
theorem dX8_text_200 : decode cX8_text 200 = .ok (.iload 4, 2) := by decide +kernel
theorem dX8_text_202 : decode cX8_text 202 = .ok (.iaload, 1) := by decide +kernel
theorem dX8_text_203 : decode cX8_text 203 = .ok (.aload_n 0, 1) := by decide +kernel
theorem dX8_text_204 : decode cX8_text 204 = .ok (.getfield 77, 3) := by decide +kernel
theorem dX8_text_207 : decode cX8_text 207 = .ok (.aload_n 0, 1) := by decide +kernel
theorem dX8_text_208 : decode cX8_text 208 = .ok (.getfield 105, 3) := by decide +kernel
theorem dX8_text_211 : decode cX8_text 211 = .ok (.iload_n 3, 1) := by decide +kernel
theorem dX8_text_212 : decode cX8_text 212 = .ok (.iaload, 1) := by decide +kernel
theorem dX8_text_213 : decode cX8_text 213 = .ok (.iaload, 1) := by decide +kernel
theorem dX8_text_214 : decode cX8_text 214 = .ok (.if_icmp .ne 7, 3) := by decide +kernel
theorem dX8_text_217 : decode cX8_text 217 = .ok (.iconst 1, 1) := by decide +kernel
theorem dX8_text_218 : decode cX8_text 218 = .ok (.goto 4, 3) := by decide +kernel
theorem dX8_text_221 : decode cX8_text 221 = .ok (.iconst 0, 1) := by decide +kernel
theorem dX8_text_222 : decode cX8_text 222 = .ok (.istore 6, 2) := by decide +kernel
theorem dX8_text_224 : decode cX8_text 224 = .ok (.iload 5, 2) := by decide +kernel
theorem dX8_text_226 : decode cX8_text 226 = .ok (.aload_n 0, 1) := by decide +kernel
theorem dX8_text_227 : decode cX8_text 227 = .ok (.getfield 74, 3) := by decide +kernel
theorem dX8_text_230 : decode cX8_text 230 = .ok (.iload_n 1, 1) := by decide +kernel
theorem dX8_text_231 : decode cX8_text 231 = .ok (.iconst 1, 1) := by decide +kernel
theorem dX8_text_232 : decode cX8_text 232 = .ok (.iadd, 1) := by decide +kernel
theorem dX8_text_233 : decode cX8_text 233 = .ok (.iaload, 1) := by decide +kernel
theorem dX8_text_234 : decode cX8_text 234 = .ok (.if_icmp .ge 42, 3) := by decide +kernel
theorem dX8_text_237 : decode cX8_text 237 = .ok (.iload 6, 2) := by decide +kernel
theorem dX8_text_239 : decode cX8_text 239 = .ok (.ifCond .eq 31, 3) := by decide +kernel
theorem dX8_text_242 : decode cX8_text 242 = .ok (.aload_n 0, 1) := by decide +kernel
theorem dX8_text_243 : decode cX8_text 243 = .ok (.getfield 80, 3) := by decide +kernel
theorem dX8_text_246 : decode cX8_text 246 = .ok (.iload 5, 2) := by decide +kernel
theorem dX8_text_248 : decode cX8_text 248 = .ok (.iaload, 1) := by decide +kernel
theorem dX8_text_249 : decode cX8_text 249 = .ok (.aload_n 0, 1) := by decide +kernel
theorem dX8_text_250 : decode cX8_text 250 = .ok (.getfield 105, 3) := by decide +kernel
theorem dX8_text_253 : decode cX8_text 253 = .ok (.iload_n 3, 1) := by decide +kernel
theorem dX8_text_254 : decode cX8_text 254 = .ok (.iaload, 1) := by decide +kernel
theorem dX8_text_255 : decode cX8_text 255 = .ok (.if_icmp .ne 15, 3) := by decide +kernel
theorem dX8_text_258 : decode cX8_text 258 = .ok (.aload_n 0, 1) := by decide +kernel
theorem dX8_text_259 : decode cX8_text 259 = .ok (.getfield 77, 3) := by decide +kernel
theorem dX8_text_262 : decode cX8_text 262 = .ok (.iload 5, 2) := by decide +kernel
theorem dX8_text_264 : decode cX8_text 264 = .ok (.iaload, 1) := by decide +kernel
theorem dX8_text_265 : decode cX8_text 265 = .ok (.iload 4, 2) := by decide +kernel
theorem dX8_text_267 : decode cX8_text 267 = .ok (.if_icmp .eq 9, 3) := by decide +kernel
theorem dX8_text_270 : decode cX8_text 270 = .ok (.iinc 5 1, 3) := by decide +kernel
theorem dX8_text_273 : decode cX8_text 273 = .ok (.goto (-49), 3) := by decide +kernel
theorem dX8_text_276 : decode cX8_text 276 = .ok (.iload 5, 2) := by decide +kernel
theorem dX8_text_278 : decode cX8_text 278 = .ok (.aload_n 0, 1) := by decide +kernel
theorem dX8_text_279 : decode cX8_text 279 = .ok (.getfield 74, 3) := by decide +kernel
theorem dX8_text_282 : decode cX8_text 282 = .ok (.iload_n 1, 1) := by decide +kernel
theorem dX8_text_283 : decode cX8_text 283 = .ok (.iconst 1, 1) := by decide +kernel
theorem dX8_text_284 : decode cX8_text 284 = .ok (.iadd, 1) := by decide +kernel
theorem dX8_text_285 : decode cX8_text 285 = .ok (.iaload, 1) := by decide +kernel
theorem dX8_text_286 : decode cX8_text 286 = .ok (.if_icmp .ne 30, 3) := by decide +kernel
theorem dX8_text_289 : decode cX8_text 289 = .ok (.aload_n 0, 1) := by decide +kernel
theorem dX8_text_290 : decode cX8_text 290 = .ok (.getfield 126, 3) := by decide +kernel
theorem dX8_text_293 : decode cX8_text 293 = .ok (.iload_n 3, 1) := by decide +kernel
theorem dX8_text_294 : decode cX8_text 294 = .ok (.dup2, 1) := by decide +kernel
theorem dX8_text_295 : decode cX8_text 295 = .ok (.iaload, 1) := by decide +kernel
theorem dX8_text_296 : decode cX8_text 296 = .ok (.iconst 1, 1) := by decide +kernel
theorem dX8_text_297 : decode cX8_text 297 = .ok (.iadd, 1) := by decide +kernel
theorem dX8_text_298 : decode cX8_text 298 = .ok (.iastore, 1) := by decide +kernel
theorem dX8_text_299 : decode cX8_text 299 = .ok (.aload_n 0, 1) := by decide +kernel
theorem dX8_text_300 : decode cX8_text 300 = .ok (.getfield 108, 3) := by decide +kernel
theorem dX8_text_303 : decode cX8_text 303 = .ok (.iload_n 3, 1) := by decide +kernel
theorem dX8_text_304 : decode cX8_text 304 = .ok (.aload_n 0, 1) := by decide +kernel
theorem dX8_text_305 : decode cX8_text 305 = .ok (.getfield 105, 3) := by decide +kernel
theorem dX8_text_308 : decode cX8_text 308 = .ok (.iload_n 3, 1) := by decide +kernel
theorem dX8_text_309 : decode cX8_text 309 = .ok (.iaload, 1) := by decide +kernel
theorem dX8_text_310 : decode cX8_text 310 = .ok (.iconst 1, 1) := by decide +kernel
theorem dX8_text_311 : decode cX8_text 311 = .ok (.iadd, 1) := by decide +kernel
theorem dX8_text_312 : decode cX8_text 312 = .ok (.iastore, 1) := by decide +kernel
theorem dX8_text_313 : decode cX8_text 313 = .ok (.goto (-181), 3) := by decide +kernel
theorem dX8_text_316 : decode cX8_text 316 = .ok (.aload_n 0, 1) := by decide +kernel
theorem dX8_text_317 : decode cX8_text 317 = .ok (.getfield 108, 3) := by decide +kernel
theorem dX8_text_320 : decode cX8_text 320 = .ok (.iload_n 3, 1) := by decide +kernel
theorem dX8_text_321 : decode cX8_text 321 = .ok (.iload 5, 2) := by decide +kernel
theorem dX8_text_323 : decode cX8_text 323 = .ok (.iconst 1, 1) := by decide +kernel
theorem dX8_text_324 : decode cX8_text 324 = .ok (.iadd, 1) := by decide +kernel
theorem dX8_text_325 : decode cX8_text 325 = .ok (.iastore, 1) := by decide +kernel
theorem dX8_text_326 : decode cX8_text 326 = .ok (.aload_n 0, 1) := by decide +kernel
theorem dX8_text_327 : decode cX8_text 327 = .ok (.aload_n 0, 1) := by decide +kernel
theorem dX8_text_328 : decode cX8_text 328 = .ok (.getfield 40, 3) := by decide +kernel
theorem dX8_text_331 : decode cX8_text 331 = .ok (.iload 4, 2) := by decide +kernel
theorem dX8_text_333 : decode cX8_text 333 = .ok (.laload, 1) := by decide +kernel
theorem dX8_text_334 : decode cX8_text 334 = .ok (.invokevirtual 307, 3) := by decide +kernel
theorem dX8_text_337 : decode cX8_text 337 = .ok (.aload_n 0, 1) := by decide +kernel
theorem dX8_text_338 : decode cX8_text 338 = .ok (.bipush 58, 2) := by decide +kernel
theorem dX8_text_340 : decode cX8_text 340 = .ok (.invokevirtual 304, 3) := by decide +kernel
theorem dX8_text_343 : decode cX8_text 343 = .ok (.aload_n 0, 1) := by decide +kernel
theorem dX8_text_344 : decode cX8_text 344 = .ok (.getfield 44, 3) := by decide +kernel
theorem dX8_text_347 : decode cX8_text 347 = .ok (.iload 4, 2) := by decide +kernel
theorem dX8_text_349 : decode cX8_text 349 = .ok (.iaload, 1) := by decide +kernel
theorem dX8_text_350 : decode cX8_text 350 = .ok (.iconst 2, 1) := by decide +kernel
theorem dX8_text_351 : decode cX8_text 351 = .ok (.if_icmp .ne 40, 3) := by decide +kernel
theorem dX8_text_354 : decode cX8_text 354 = .ok (.aload_n 0, 1) := by decide +kernel
theorem dX8_text_355 : decode cX8_text 355 = .ok (.bipush 91, 2) := by decide +kernel
theorem dX8_text_357 : decode cX8_text 357 = .ok (.invokevirtual 304, 3) := by decide +kernel
theorem dX8_text_360 : decode cX8_text 360 = .ok (.iinc 3 1, 3) := by decide +kernel
theorem dX8_text_363 : decode cX8_text 363 = .ok (.aload_n 0, 1) := by decide +kernel
theorem dX8_text_364 : decode cX8_text 364 = .ok (.getfield 105, 3) := by decide +kernel
theorem dX8_text_367 : decode cX8_text 367 = .ok (.iload_n 3, 1) := by decide +kernel
theorem dX8_text_368 : decode cX8_text 368 = .ok (.iload 5, 2) := by decide +kernel
theorem dX8_text_370 : decode cX8_text 370 = .ok (.iastore, 1) := by decide +kernel
theorem dX8_text_371 : decode cX8_text 371 = .ok (.aload_n 0, 1) := by decide +kernel
theorem dX8_text_372 : decode cX8_text 372 = .ok (.getfield 126, 3) := by decide +kernel
theorem dX8_text_375 : decode cX8_text 375 = .ok (.iload_n 3, 1) := by decide +kernel
theorem dX8_text_376 : decode cX8_text 376 = .ok (.iconst 0, 1) := by decide +kernel
theorem dX8_text_377 : decode cX8_text 377 = .ok (.iastore, 1) := by decide +kernel
theorem dX8_text_378 : decode cX8_text 378 = .ok (.aload_n 0, 1) := by decide +kernel
theorem dX8_text_379 : decode cX8_text 379 = .ok (.getfield 108, 3) := by decide +kernel
theorem dX8_text_382 : decode cX8_text 382 = .ok (.iload_n 3, 1) := by decide +kernel
theorem dX8_text_383 : decode cX8_text 383 = .ok (.iload 5, 2) := by decide +kernel
theorem dX8_text_385 : decode cX8_text 385 = .ok (.iconst 1, 1) := by decide +kernel
theorem dX8_text_386 : decode cX8_text 386 = .ok (.iadd, 1) := by decide +kernel
theorem dX8_text_387 : decode cX8_text 387 = .ok (.iastore, 1) := by decide +kernel
theorem dX8_text_388 : decode cX8_text 388 = .ok (.goto (-256), 3) := by decide +kernel
theorem dX8_text_391 : decode cX8_text 391 = .ok (.aload_n 0, 1) := by decide +kernel
theorem dX8_text_392 : decode cX8_text 392 = .ok (.getfield 44, 3) := by decide +kernel
theorem dX8_text_395 : decode cX8_text 395 = .ok (.iload 4, 2) := by decide +kernel
theorem dX8_text_397 : decode cX8_text 397 = .ok (.iaload, 1) := by decide +kernel
theorem dX8_text_398 : decode cX8_text 398 = .ok (.ifCond .ne 17, 3) := by decide +kernel
theorem dX8_text_401 : decode cX8_text 401 = .ok (.aload_n 0, 1) := by decide +kernel
theorem dX8_text_402 : decode cX8_text 402 = .ok (.aload_n 0, 1) := by decide +kernel
theorem dX8_text_403 : decode cX8_text 403 = .ok (.getfield 83, 3) := by decide +kernel
theorem dX8_text_406 : decode cX8_text 406 = .ok (.iload 5, 2) := by decide +kernel
theorem dX8_text_408 : decode cX8_text 408 = .ok (.laload, 1) := by decide +kernel
theorem dX8_text_409 : decode cX8_text 409 = .ok (.invokevirtual 311, 3) := by decide +kernel
theorem dX8_text_412 : decode cX8_text 412 = .ok (.goto 14, 3) := by decide +kernel
theorem dX8_text_415 : decode cX8_text 415 = .ok (.aload_n 0, 1) := by decide +kernel
theorem dX8_text_416 : decode cX8_text 416 = .ok (.aload_n 0, 1) := by decide +kernel
theorem dX8_text_417 : decode cX8_text 417 = .ok (.getfield 83, 3) := by decide +kernel
theorem dX8_text_420 : decode cX8_text 420 = .ok (.iload 5, 2) := by decide +kernel
theorem dX8_text_422 : decode cX8_text 422 = .ok (.laload, 1) := by decide +kernel
theorem dX8_text_423 : decode cX8_text 423 = .ok (.invokevirtual 307, 3) := by decide +kernel
theorem dX8_text_426 : decode cX8_text 426 = .ok (.aload_n 0, 1) := by decide +kernel
theorem dX8_text_427 : decode cX8_text 427 = .ok (.bipush 59, 2) := by decide +kernel
theorem dX8_text_429 : decode cX8_text 429 = .ok (.invokevirtual 304, 3) := by decide +kernel
theorem dX8_text_432 : decode cX8_text 432 = .ok (.goto (-300), 3) := by decide +kernel
theorem dX8_text_435 : decode cX8_text 435 = .ok (.aload_n 0, 1) := by decide +kernel
theorem dX8_text_436 : decode cX8_text 436 = .ok (.getfield 301, 3) := by decide +kernel
theorem dX8_text_439 : decode cX8_text 439 = .ok (.ireturn, 1) := by decide +kernel
theorem dX8_at_0 : decode cX8_at 0 = .ok (.iload_n 1, 1) := by decide +kernel
theorem dX8_at_1 : decode cX8_at 1 = .ok (.ifCond .lt 20, 3) := by decide +kernel
theorem dX8_at_4 : decode cX8_at 4 = .ok (.iload_n 1, 1) := by decide +kernel
theorem dX8_at_5 : decode cX8_at 5 = .ok (.aload_n 0, 1) := by decide +kernel
theorem dX8_at_6 : decode cX8_at 6 = .ok (.getfield 301, 3) := by decide +kernel
theorem dX8_at_9 : decode cX8_at 9 = .ok (.if_icmp .ge 12, 3) := by decide +kernel
theorem dX8_at_12 : decode cX8_at 12 = .ok (.aload_n 0, 1) := by decide +kernel
theorem dX8_at_13 : decode cX8_at 13 = .ok (.getfield 120, 3) := by decide +kernel
theorem dX8_at_16 : decode cX8_at 16 = .ok (.iload_n 1, 1) := by decide +kernel
theorem dX8_at_17 : decode cX8_at 17 = .ok (.iaload, 1) := by decide +kernel
theorem dX8_at_18 : decode cX8_at 18 = .ok (.goto 4, 3) := by decide +kernel
theorem dX8_at_21 : decode cX8_at 21 = .ok (.iconst (-1), 1) := by decide +kernel
theorem dX8_at_22 : decode cX8_at 22 = .ok (.ireturn, 1) := by decide +kernel
theorem dX8_among_0 : decode cX8_among 0 = .ok (.aload_n 0, 1) := by decide +kernel
theorem dX8_among_1 : decode cX8_among 1 = .ok (.iload_n 1, 1) := by decide +kernel
theorem dX8_among_2 : decode cX8_among 2 = .ok (.invokevirtual 289, 3) := by decide +kernel
theorem dX8_among_5 : decode cX8_among 5 = .ok (.ifCond .ne 5, 3) := by decide +kernel
theorem dX8_among_8 : decode cX8_among 8 = .ok (.iconst (-1), 1) := by decide +kernel
theorem dX8_among_9 : decode cX8_among 9 = .ok (.ireturn, 1) := by decide +kernel
theorem dX8_among_10 : decode cX8_among 10 = .ok (.aload_n 0, 1) := by decide +kernel
theorem dX8_among_11 : decode cX8_among 11 = .ok (.iload_n 1, 1) := by decide +kernel
theorem dX8_among_12 : decode cX8_among 12 = .ok (.invokevirtual 292, 3) := by decide +kernel
theorem dX8_among_15 : decode cX8_among 15 = .ok (.iconst 0, 1) := by decide +kernel
theorem dX8_among_16 : decode cX8_among 16 = .ok (.istore 6, 2) := by decide +kernel
theorem dX8_among_18 : decode cX8_among 18 = .ok (.iconst 0, 1) := by decide +kernel
theorem dX8_among_19 : decode cX8_among 19 = .ok (.istore 7, 2) := by decide +kernel
theorem dX8_among_21 : decode cX8_among 21 = .ok (.iload 7, 2) := by decide +kernel
theorem dX8_among_23 : decode cX8_among 23 = .ok (.aload_n 0, 1) := by decide +kernel
theorem dX8_among_24 : decode cX8_among 24 = .ok (.getfield 257, 3) := by decide +kernel
theorem dX8_among_27 : decode cX8_among 27 = .ok (.if_icmp .ge 47, 3) := by decide +kernel
theorem dX8_among_30 : decode cX8_among 30 = .ok (.aload_n 0, 1) := by decide +kernel
theorem dX8_among_31 : decode cX8_among 31 = .ok (.getfield 95, 3) := by decide +kernel
theorem dX8_among_34 : decode cX8_among 34 = .ok (.iload 7, 2) := by decide +kernel
theorem dX8_among_36 : decode cX8_among 36 = .ok (.baload, 1) := by decide +kernel
theorem dX8_among_37 : decode cX8_among 37 = .ok (.ifCond .eq 31, 3) := by decide +kernel
theorem dX8_among_40 : decode cX8_among 40 = .ok (.aload_n 0, 1) := by decide +kernel
theorem dX8_among_41 : decode cX8_among 41 = .ok (.getfield 99, 3) := by decide +kernel
theorem dX8_among_44 : decode cX8_among 44 = .ok (.iload 7, 2) := by decide +kernel
theorem dX8_among_46 : decode cX8_among 46 = .ok (.laload, 1) := by decide +kernel
theorem dX8_among_47 : decode cX8_among 47 = .ok (.lload_n 2, 1) := by decide +kernel
theorem dX8_among_48 : decode cX8_among 48 = .ok (.lcmp, 1) := by decide +kernel
theorem dX8_among_49 : decode cX8_among 49 = .ok (.ifCond .lt 19, 3) := by decide +kernel
theorem dX8_among_52 : decode cX8_among 52 = .ok (.aload_n 0, 1) := by decide +kernel
theorem dX8_among_53 : decode cX8_among 53 = .ok (.getfield 99, 3) := by decide +kernel
theorem dX8_among_56 : decode cX8_among 56 = .ok (.iload 7, 2) := by decide +kernel
theorem dX8_among_58 : decode cX8_among 58 = .ok (.laload, 1) := by decide +kernel
theorem dX8_among_59 : decode cX8_among 59 = .ok (.lload 4, 2) := by decide +kernel
theorem dX8_among_61 : decode cX8_among 61 = .ok (.lcmp, 1) := by decide +kernel
theorem dX8_among_62 : decode cX8_among 62 = .ok (.ifCond .gt 6, 3) := by decide +kernel
theorem dX8_among_65 : decode cX8_among 65 = .ok (.iinc 6 1, 3) := by decide +kernel
theorem dX8_among_68 : decode cX8_among 68 = .ok (.iinc 7 1, 3) := by decide +kernel
theorem dX8_among_71 : decode cX8_among 71 = .ok (.goto (-50), 3) := by decide +kernel
theorem dX8_among_74 : decode cX8_among 74 = .ok (.iload 6, 2) := by decide +kernel
theorem dX8_among_76 : decode cX8_among 76 = .ok (.ireturn, 1) := by decide +kernel
theorem dX8_papers_0 : decode cX8_papers 0 = .ok (.aload_n 0, 1) := by decide +kernel
theorem dX8_papers_1 : decode cX8_papers 1 = .ok (.iload_n 1, 1) := by decide +kernel
theorem dX8_papers_2 : decode cX8_papers 2 = .ok (.invokevirtual 289, 3) := by decide +kernel
theorem dX8_papers_5 : decode cX8_papers 5 = .ok (.ifCond .ne 5, 3) := by decide +kernel
theorem dX8_papers_8 : decode cX8_papers 8 = .ok (.iconst (-1), 1) := by decide +kernel
theorem dX8_papers_9 : decode cX8_papers 9 = .ok (.ireturn, 1) := by decide +kernel
theorem dX8_papers_10 : decode cX8_papers 10 = .ok (.aload_n 0, 1) := by decide +kernel
theorem dX8_papers_11 : decode cX8_papers 11 = .ok (.iload_n 1, 1) := by decide +kernel
theorem dX8_papers_12 : decode cX8_papers 12 = .ok (.invokevirtual 292, 3) := by decide +kernel
theorem dX8_papers_15 : decode cX8_papers 15 = .ok (.iconst 0, 1) := by decide +kernel
theorem dX8_papers_16 : decode cX8_papers 16 = .ok (.istore 6, 2) := by decide +kernel
theorem dX8_papers_18 : decode cX8_papers 18 = .ok (.iconst (-1), 1) := by decide +kernel
theorem dX8_papers_19 : decode cX8_papers 19 = .ok (.istore 7, 2) := by decide +kernel
theorem dX8_papers_21 : decode cX8_papers 21 = .ok (.iconst 0, 1) := by decide +kernel
theorem dX8_papers_22 : decode cX8_papers 22 = .ok (.istore 8, 2) := by decide +kernel
theorem dX8_papers_24 : decode cX8_papers 24 = .ok (.iload 8, 2) := by decide +kernel
theorem dX8_papers_26 : decode cX8_papers 26 = .ok (.aload_n 0, 1) := by decide +kernel
theorem dX8_papers_27 : decode cX8_papers 27 = .ok (.getfield 257, 3) := by decide +kernel
theorem dX8_papers_30 : decode cX8_papers 30 = .ok (.if_icmp .ge 71, 3) := by decide +kernel
theorem dX8_papers_33 : decode cX8_papers 33 = .ok (.aload_n 0, 1) := by decide +kernel
theorem dX8_papers_34 : decode cX8_papers 34 = .ok (.getfield 95, 3) := by decide +kernel
theorem dX8_papers_37 : decode cX8_papers 37 = .ok (.iload 8, 2) := by decide +kernel
theorem dX8_papers_39 : decode cX8_papers 39 = .ok (.baload, 1) := by decide +kernel
theorem dX8_papers_40 : decode cX8_papers 40 = .ok (.ifCond .eq 55, 3) := by decide +kernel
theorem dX8_papers_43 : decode cX8_papers 43 = .ok (.aload_n 0, 1) := by decide +kernel
theorem dX8_papers_44 : decode cX8_papers 44 = .ok (.getfield 99, 3) := by decide +kernel
theorem dX8_papers_47 : decode cX8_papers 47 = .ok (.iload 8, 2) := by decide +kernel
theorem dX8_papers_49 : decode cX8_papers 49 = .ok (.laload, 1) := by decide +kernel
theorem dX8_papers_50 : decode cX8_papers 50 = .ok (.lload_n 2, 1) := by decide +kernel
theorem dX8_papers_51 : decode cX8_papers 51 = .ok (.lcmp, 1) := by decide +kernel
theorem dX8_papers_52 : decode cX8_papers 52 = .ok (.ifCond .lt 43, 3) := by decide +kernel
theorem dX8_papers_55 : decode cX8_papers 55 = .ok (.aload_n 0, 1) := by decide +kernel
theorem dX8_papers_56 : decode cX8_papers 56 = .ok (.getfield 99, 3) := by decide +kernel
theorem dX8_papers_59 : decode cX8_papers 59 = .ok (.iload 8, 2) := by decide +kernel
theorem dX8_papers_61 : decode cX8_papers 61 = .ok (.laload, 1) := by decide +kernel
theorem dX8_papers_62 : decode cX8_papers 62 = .ok (.lload 4, 2) := by decide +kernel
theorem dX8_papers_64 : decode cX8_papers 64 = .ok (.lcmp, 1) := by decide +kernel
theorem dX8_papers_65 : decode cX8_papers 65 = .ok (.ifCond .gt 30, 3) := by decide +kernel
theorem dX8_papers_68 : decode cX8_papers 68 = .ok (.aload_n 0, 1) := by decide +kernel
theorem dX8_papers_69 : decode cX8_papers 69 = .ok (.getfield 102, 3) := by decide +kernel
theorem dX8_papers_72 : decode cX8_papers 72 = .ok (.iload 8, 2) := by decide +kernel
theorem dX8_papers_74 : decode cX8_papers 74 = .ok (.iaload, 1) := by decide +kernel
theorem dX8_papers_75 : decode cX8_papers 75 = .ok (.iload 7, 2) := by decide +kernel
theorem dX8_papers_77 : decode cX8_papers 77 = .ok (.if_icmp .ne 6, 3) := by decide +kernel
theorem dX8_papers_80 : decode cX8_papers 80 = .ok (.goto 15, 3) := by decide +kernel
theorem dX8_papers_83 : decode cX8_papers 83 = .ok (.aload_n 0, 1) := by decide +kernel
theorem dX8_papers_84 : decode cX8_papers 84 = .ok (.getfield 102, 3) := by decide +kernel
theorem dX8_papers_87 : decode cX8_papers 87 = .ok (.iload 8, 2) := by decide +kernel
theorem dX8_papers_89 : decode cX8_papers 89 = .ok (.iaload, 1) := by decide +kernel
theorem dX8_papers_90 : decode cX8_papers 90 = .ok (.istore 7, 2) := by decide +kernel
theorem dX8_papers_92 : decode cX8_papers 92 = .ok (.iinc 6 1, 3) := by decide +kernel
theorem dX8_papers_95 : decode cX8_papers 95 = .ok (.iinc 8 1, 3) := by decide +kernel
theorem dX8_papers_98 : decode cX8_papers 98 = .ok (.goto (-74), 3) := by decide +kernel
theorem dX8_papers_101 : decode cX8_papers 101 = .ok (.iload 6, 2) := by decide +kernel
theorem dX8_papers_103 : decode cX8_papers 103 = .ok (.ireturn, 1) := by decide +kernel
theorem dX8_sum_0 : decode cX8_sum 0 = .ok (.aload_n 0, 1) := by decide +kernel
theorem dX8_sum_1 : decode cX8_sum 1 = .ok (.iload_n 1, 1) := by decide +kernel
theorem dX8_sum_2 : decode cX8_sum 2 = .ok (.invokevirtual 289, 3) := by decide +kernel
theorem dX8_sum_5 : decode cX8_sum 5 = .ok (.ifCond .eq 30, 3) := by decide +kernel
theorem dX8_sum_8 : decode cX8_sum 8 = .ok (.aload_n 0, 1) := by decide +kernel
theorem dX8_sum_9 : decode cX8_sum 9 = .ok (.getfield 44, 3) := by decide +kernel
theorem dX8_sum_12 : decode cX8_sum 12 = .ok (.aload_n 0, 1) := by decide +kernel
theorem dX8_sum_13 : decode cX8_sum 13 = .ok (.getfield 50, 3) := by decide +kernel
theorem dX8_sum_16 : decode cX8_sum 16 = .ok (.iload_n 1, 1) := by decide +kernel
theorem dX8_sum_17 : decode cX8_sum 17 = .ok (.iaload, 1) := by decide +kernel
theorem dX8_sum_18 : decode cX8_sum 18 = .ok (.iaload, 1) := by decide +kernel
theorem dX8_sum_19 : decode cX8_sum 19 = .ok (.ifCond .ne 16, 3) := by decide +kernel
theorem dX8_sum_22 : decode cX8_sum 22 = .ok (.iload_n 2, 1) := by decide +kernel
theorem dX8_sum_23 : decode cX8_sum 23 = .ok (.iconst (-1), 1) := by decide +kernel
theorem dX8_sum_24 : decode cX8_sum 24 = .ok (.if_icmp .eq 13, 3) := by decide +kernel
theorem dX8_sum_27 : decode cX8_sum 27 = .ok (.aload_n 0, 1) := by decide +kernel
theorem dX8_sum_28 : decode cX8_sum 28 = .ok (.iload_n 2, 1) := by decide +kernel
theorem dX8_sum_29 : decode cX8_sum 29 = .ok (.invokevirtual 251, 3) := by decide +kernel
theorem dX8_sum_32 : decode cX8_sum 32 = .ok (.ifCond .ne 5, 3) := by decide +kernel
theorem dX8_sum_35 : decode cX8_sum 35 = .ok (.lconst 0, 1) := by decide +kernel
theorem dX8_sum_36 : decode cX8_sum 36 = .ok (.lreturn, 1) := by decide +kernel
theorem dX8_sum_37 : decode cX8_sum 37 = .ok (.aload_n 0, 1) := by decide +kernel
theorem dX8_sum_38 : decode cX8_sum 38 = .ok (.iload_n 1, 1) := by decide +kernel
theorem dX8_sum_39 : decode cX8_sum 39 = .ok (.invokevirtual 292, 3) := by decide +kernel
theorem dX8_sum_42 : decode cX8_sum 42 = .ok (.lconst 0, 1) := by decide +kernel
theorem dX8_sum_43 : decode cX8_sum 43 = .ok (.lstore_n 3, 1) := by decide +kernel
theorem dX8_sum_44 : decode cX8_sum 44 = .ok (.iconst 0, 1) := by decide +kernel
theorem dX8_sum_45 : decode cX8_sum 45 = .ok (.istore 5, 2) := by decide +kernel
theorem dX8_sum_47 : decode cX8_sum 47 = .ok (.iload 5, 2) := by decide +kernel
theorem dX8_sum_49 : decode cX8_sum 49 = .ok (.aload_n 0, 1) := by decide +kernel
theorem dX8_sum_50 : decode cX8_sum 50 = .ok (.getfield 257, 3) := by decide +kernel
theorem dX8_sum_53 : decode cX8_sum 53 = .ok (.if_icmp .ge 45, 3) := by decide +kernel
theorem dX8_sum_56 : decode cX8_sum 56 = .ok (.aload_n 0, 1) := by decide +kernel
theorem dX8_sum_57 : decode cX8_sum 57 = .ok (.getfield 95, 3) := by decide +kernel
theorem dX8_sum_60 : decode cX8_sum 60 = .ok (.iload 5, 2) := by decide +kernel
theorem dX8_sum_62 : decode cX8_sum 62 = .ok (.baload, 1) := by decide +kernel
theorem dX8_sum_63 : decode cX8_sum 63 = .ok (.ifCond .eq 29, 3) := by decide +kernel
theorem dX8_sum_66 : decode cX8_sum 66 = .ok (.iload_n 2, 1) := by decide +kernel
theorem dX8_sum_67 : decode cX8_sum 67 = .ok (.iconst (-1), 1) := by decide +kernel
theorem dX8_sum_68 : decode cX8_sum 68 = .ok (.if_icmp .eq 14, 3) := by decide +kernel
theorem dX8_sum_71 : decode cX8_sum 71 = .ok (.aload_n 0, 1) := by decide +kernel
theorem dX8_sum_72 : decode cX8_sum 72 = .ok (.getfield 102, 3) := by decide +kernel
theorem dX8_sum_75 : decode cX8_sum 75 = .ok (.iload 5, 2) := by decide +kernel
theorem dX8_sum_77 : decode cX8_sum 77 = .ok (.iaload, 1) := by decide +kernel
theorem dX8_sum_78 : decode cX8_sum 78 = .ok (.iload_n 2, 1) := by decide +kernel
theorem dX8_sum_79 : decode cX8_sum 79 = .ok (.if_icmp .ne 13, 3) := by decide +kernel
theorem dX8_sum_82 : decode cX8_sum 82 = .ok (.lload_n 3, 1) := by decide +kernel
theorem dX8_sum_83 : decode cX8_sum 83 = .ok (.aload_n 0, 1) := by decide +kernel
theorem dX8_sum_84 : decode cX8_sum 84 = .ok (.getfield 99, 3) := by decide +kernel
theorem dX8_sum_87 : decode cX8_sum 87 = .ok (.iload 5, 2) := by decide +kernel
theorem dX8_sum_89 : decode cX8_sum 89 = .ok (.laload, 1) := by decide +kernel
theorem dX8_sum_90 : decode cX8_sum 90 = .ok (.ladd, 1) := by decide +kernel
theorem dX8_sum_91 : decode cX8_sum 91 = .ok (.lstore_n 3, 1) := by decide +kernel
theorem dX8_sum_92 : decode cX8_sum 92 = .ok (.iinc 5 1, 3) := by decide +kernel
theorem dX8_sum_95 : decode cX8_sum 95 = .ok (.goto (-48), 3) := by decide +kernel
theorem dX8_sum_98 : decode cX8_sum 98 = .ok (.lload_n 3, 1) := by decide +kernel
theorem dX8_sum_99 : decode cX8_sum 99 = .ok (.lreturn, 1) := by decide +kernel
theorem dX8_isOn_0 : decode cX8_isOn 0 = .ok (.aload_n 0, 1) := by decide +kernel
theorem dX8_isOn_1 : decode cX8_isOn 1 = .ok (.getfield 50, 3) := by decide +kernel
theorem dX8_isOn_4 : decode cX8_isOn 4 = .ok (.iload_n 2, 1) := by decide +kernel
theorem dX8_isOn_5 : decode cX8_isOn 5 = .ok (.iaload, 1) := by decide +kernel
theorem dX8_isOn_6 : decode cX8_isOn 6 = .ok (.istore_n 3, 1) := by decide +kernel
theorem dX8_isOn_7 : decode cX8_isOn 7 = .ok (.iload_n 3, 1) := by decide +kernel
theorem dX8_isOn_8 : decode cX8_isOn 8 = .ok (.iconst (-1), 1) := by decide +kernel
theorem dX8_isOn_9 : decode cX8_isOn 9 = .ok (.if_icmp .eq 20, 3) := by decide +kernel
theorem dX8_isOn_12 : decode cX8_isOn 12 = .ok (.iload_n 3, 1) := by decide +kernel
theorem dX8_isOn_13 : decode cX8_isOn 13 = .ok (.iload_n 1, 1) := by decide +kernel
theorem dX8_isOn_14 : decode cX8_isOn 14 = .ok (.if_icmp .ne 5, 3) := by decide +kernel
theorem dX8_isOn_17 : decode cX8_isOn 17 = .ok (.iconst 1, 1) := by decide +kernel
theorem dX8_isOn_18 : decode cX8_isOn 18 = .ok (.ireturn, 1) := by decide +kernel
theorem dX8_isOn_19 : decode cX8_isOn 19 = .ok (.aload_n 0, 1) := by decide +kernel
theorem dX8_isOn_20 : decode cX8_isOn 20 = .ok (.getfield 37, 3) := by decide +kernel
theorem dX8_isOn_23 : decode cX8_isOn 23 = .ok (.iload_n 3, 1) := by decide +kernel
theorem dX8_isOn_24 : decode cX8_isOn 24 = .ok (.iaload, 1) := by decide +kernel
theorem dX8_isOn_25 : decode cX8_isOn 25 = .ok (.istore_n 3, 1) := by decide +kernel
theorem dX8_isOn_26 : decode cX8_isOn 26 = .ok (.goto (-19), 3) := by decide +kernel
theorem dX8_isOn_29 : decode cX8_isOn 29 = .ok (.iconst 0, 1) := by decide +kernel
theorem dX8_isOn_30 : decode cX8_isOn 30 = .ok (.ireturn, 1) := by decide +kernel
theorem dX8_has_0 : decode cX8_has 0 = .ok (.iload_n 1, 1) := by decide +kernel
theorem dX8_has_1 : decode cX8_has 1 = .ok (.istore 6, 2) := by decide +kernel
theorem dX8_has_3 : decode cX8_has 3 = .ok (.iload 6, 2) := by decide +kernel
theorem dX8_has_5 : decode cX8_has 5 = .ok (.iload_n 2, 1) := by decide +kernel
theorem dX8_has_6 : decode cX8_has 6 = .ok (.if_icmp .ge 71, 3) := by decide +kernel
theorem dX8_has_9 : decode cX8_has 9 = .ok (.aload_n 0, 1) := by decide +kernel
theorem dX8_has_10 : decode cX8_has 10 = .ok (.getfield 77, 3) := by decide +kernel
theorem dX8_has_13 : decode cX8_has 13 = .ok (.iload 6, 2) := by decide +kernel
theorem dX8_has_15 : decode cX8_has 15 = .ok (.iaload, 1) := by decide +kernel
theorem dX8_has_16 : decode cX8_has 16 = .ok (.aload_n 0, 1) := by decide +kernel
theorem dX8_has_17 : decode cX8_has 17 = .ok (.getfield 50, 3) := by decide +kernel
theorem dX8_has_20 : decode cX8_has 20 = .ok (.iload_n 3, 1) := by decide +kernel
theorem dX8_has_21 : decode cX8_has 21 = .ok (.iaload, 1) := by decide +kernel
theorem dX8_has_22 : decode cX8_has 22 = .ok (.if_icmp .ne 49, 3) := by decide +kernel
theorem dX8_has_25 : decode cX8_has 25 = .ok (.aload_n 0, 1) := by decide +kernel
theorem dX8_has_26 : decode cX8_has 26 = .ok (.getfield 83, 3) := by decide +kernel
theorem dX8_has_29 : decode cX8_has 29 = .ok (.iload 6, 2) := by decide +kernel
theorem dX8_has_31 : decode cX8_has 31 = .ok (.laload, 1) := by decide +kernel
theorem dX8_has_32 : decode cX8_has 32 = .ok (.lload 4, 2) := by decide +kernel
theorem dX8_has_34 : decode cX8_has 34 = .ok (.lcmp, 1) := by decide +kernel
theorem dX8_has_35 : decode cX8_has 35 = .ok (.ifCond .eq 6, 3) := by decide +kernel
theorem dX8_has_38 : decode cX8_has 38 = .ok (.goto 33, 3) := by decide +kernel
theorem dX8_has_41 : decode cX8_has 41 = .ok (.iload 6, 2) := by decide +kernel
theorem dX8_has_43 : decode cX8_has 43 = .ok (.istore 7, 2) := by decide +kernel
theorem dX8_has_45 : decode cX8_has 45 = .ok (.iload 7, 2) := by decide +kernel
theorem dX8_has_47 : decode cX8_has 47 = .ok (.iconst (-1), 1) := by decide +kernel
theorem dX8_has_48 : decode cX8_has 48 = .ok (.if_icmp .eq 23, 3) := by decide +kernel
theorem dX8_has_51 : decode cX8_has 51 = .ok (.iload 7, 2) := by decide +kernel
theorem dX8_has_53 : decode cX8_has 53 = .ok (.iload_n 1, 1) := by decide +kernel
theorem dX8_has_54 : decode cX8_has 54 = .ok (.if_icmp .ne 5, 3) := by decide +kernel
theorem dX8_has_57 : decode cX8_has 57 = .ok (.iconst 1, 1) := by decide +kernel
theorem dX8_has_58 : decode cX8_has 58 = .ok (.ireturn, 1) := by decide +kernel
theorem dX8_has_59 : decode cX8_has 59 = .ok (.aload_n 0, 1) := by decide +kernel
theorem dX8_has_60 : decode cX8_has 60 = .ok (.getfield 80, 3) := by decide +kernel
theorem dX8_has_63 : decode cX8_has 63 = .ok (.iload 7, 2) := by decide +kernel
theorem dX8_has_65 : decode cX8_has 65 = .ok (.iaload, 1) := by decide +kernel
theorem dX8_has_66 : decode cX8_has 66 = .ok (.istore 7, 2) := by decide +kernel
theorem dX8_has_68 : decode cX8_has 68 = .ok (.goto (-23), 3) := by decide +kernel
theorem dX8_has_71 : decode cX8_has 71 = .ok (.iinc 6 1, 3) := by decide +kernel
theorem dX8_has_74 : decode cX8_has 74 = .ok (.goto (-71), 3) := by decide +kernel
theorem dX8_has_77 : decode cX8_has 77 = .ok (.iconst 0, 1) := by decide +kernel
theorem dX8_has_78 : decode cX8_has 78 = .ok (.ireturn, 1) := by decide +kernel
theorem dX8_both_0 : decode cX8_both 0 = .ok (.aload_n 0, 1) := by decide +kernel
theorem dX8_both_1 : decode cX8_both 1 = .ok (.iload_n 1, 1) := by decide +kernel
theorem dX8_both_2 : decode cX8_both 2 = .ok (.invokevirtual 289, 3) := by decide +kernel
theorem dX8_both_5 : decode cX8_both 5 = .ok (.ifCond .eq 12, 3) := by decide +kernel
theorem dX8_both_8 : decode cX8_both 8 = .ok (.aload_n 0, 1) := by decide +kernel
theorem dX8_both_9 : decode cX8_both 9 = .ok (.iload 4, 2) := by decide +kernel
theorem dX8_both_11 : decode cX8_both 11 = .ok (.invokevirtual 289, 3) := by decide +kernel
theorem dX8_both_14 : decode cX8_both 14 = .ok (.ifCond .ne 5, 3) := by decide +kernel
theorem dX8_both_17 : decode cX8_both 17 = .ok (.iconst (-1), 1) := by decide +kernel
theorem dX8_both_18 : decode cX8_both 18 = .ok (.ireturn, 1) := by decide +kernel
theorem dX8_both_19 : decode cX8_both 19 = .ok (.iconst (-1), 1) := by decide +kernel
theorem dX8_both_20 : decode cX8_both 20 = .ok (.istore 7, 2) := by decide +kernel
theorem dX8_both_22 : decode cX8_both 22 = .ok (.aload_n 0, 1) := by decide +kernel
theorem dX8_both_23 : decode cX8_both 23 = .ok (.getfield 50, 3) := by decide +kernel
theorem dX8_both_26 : decode cX8_both 26 = .ok (.iload_n 1, 1) := by decide +kernel
theorem dX8_both_27 : decode cX8_both 27 = .ok (.iaload, 1) := by decide +kernel
theorem dX8_both_28 : decode cX8_both 28 = .ok (.istore 8, 2) := by decide +kernel
theorem dX8_both_30 : decode cX8_both 30 = .ok (.iload 8, 2) := by decide +kernel
theorem dX8_both_32 : decode cX8_both 32 = .ok (.iconst (-1), 1) := by decide +kernel
theorem dX8_both_33 : decode cX8_both 33 = .ok (.if_icmp .eq 47, 3) := by decide +kernel
theorem dX8_both_36 : decode cX8_both 36 = .ok (.iload 7, 2) := by decide +kernel
theorem dX8_both_38 : decode cX8_both 38 = .ok (.iconst (-1), 1) := by decide +kernel
theorem dX8_both_39 : decode cX8_both 39 = .ok (.if_icmp .ne 41, 3) := by decide +kernel
theorem dX8_both_42 : decode cX8_both 42 = .ok (.aload_n 0, 1) := by decide +kernel
theorem dX8_both_43 : decode cX8_both 43 = .ok (.getfield 47, 3) := by decide +kernel
theorem dX8_both_46 : decode cX8_both 46 = .ok (.iload 8, 2) := by decide +kernel
theorem dX8_both_48 : decode cX8_both 48 = .ok (.iaload, 1) := by decide +kernel
theorem dX8_both_49 : decode cX8_both 49 = .ok (.iconst 2, 1) := by decide +kernel
theorem dX8_both_50 : decode cX8_both 50 = .ok (.if_icmp .ne 18, 3) := by decide +kernel
theorem dX8_both_53 : decode cX8_both 53 = .ok (.aload_n 0, 1) := by decide +kernel
theorem dX8_both_54 : decode cX8_both 54 = .ok (.iload 8, 2) := by decide +kernel
theorem dX8_both_56 : decode cX8_both 56 = .ok (.iload 4, 2) := by decide +kernel
theorem dX8_both_58 : decode cX8_both 58 = .ok (.invokevirtual 314, 3) := by decide +kernel
theorem dX8_both_61 : decode cX8_both 61 = .ok (.ifCond .eq 7, 3) := by decide +kernel
theorem dX8_both_64 : decode cX8_both 64 = .ok (.iload 8, 2) := by decide +kernel
theorem dX8_both_66 : decode cX8_both 66 = .ok (.istore 7, 2) := by decide +kernel
theorem dX8_both_68 : decode cX8_both 68 = .ok (.aload_n 0, 1) := by decide +kernel
theorem dX8_both_69 : decode cX8_both 69 = .ok (.getfield 37, 3) := by decide +kernel
theorem dX8_both_72 : decode cX8_both 72 = .ok (.iload 8, 2) := by decide +kernel
theorem dX8_both_74 : decode cX8_both 74 = .ok (.iaload, 1) := by decide +kernel
theorem dX8_both_75 : decode cX8_both 75 = .ok (.istore 8, 2) := by decide +kernel
theorem dX8_both_77 : decode cX8_both 77 = .ok (.goto (-47), 3) := by decide +kernel
theorem dX8_both_80 : decode cX8_both 80 = .ok (.iconst 0, 1) := by decide +kernel
theorem dX8_both_81 : decode cX8_both 81 = .ok (.istore 8, 2) := by decide +kernel
theorem dX8_both_83 : decode cX8_both 83 = .ok (.iconst 0, 1) := by decide +kernel
theorem dX8_both_84 : decode cX8_both 84 = .ok (.istore 9, 2) := by decide +kernel
theorem dX8_both_86 : decode cX8_both 86 = .ok (.iload 9, 2) := by decide +kernel
theorem dX8_both_88 : decode cX8_both 88 = .ok (.aload_n 0, 1) := by decide +kernel
theorem dX8_both_89 : decode cX8_both 89 = .ok (.getfield 214, 3) := by decide +kernel
theorem dX8_both_92 : decode cX8_both 92 = .ok (.if_icmp .ge 95, 3) := by decide +kernel
theorem dX8_both_95 : decode cX8_both 95 = .ok (.aload_n 0, 1) := by decide +kernel
theorem dX8_both_96 : decode cX8_both 96 = .ok (.getfield 74, 3) := by decide +kernel
theorem dX8_both_99 : decode cX8_both 99 = .ok (.iload 9, 2) := by decide +kernel
theorem dX8_both_101 : decode cX8_both 101 = .ok (.iaload, 1) := by decide +kernel
theorem dX8_both_102 : decode cX8_both 102 = .ok (.istore 10, 2) := by decide +kernel
theorem dX8_both_104 : decode cX8_both 104 = .ok (.iload 10, 2) := by decide +kernel
theorem dX8_both_106 : decode cX8_both 106 = .ok (.aload_n 0, 1) := by decide +kernel
theorem dX8_both_107 : decode cX8_both 107 = .ok (.getfield 74, 3) := by decide +kernel
theorem dX8_both_110 : decode cX8_both 110 = .ok (.iload 9, 2) := by decide +kernel
theorem dX8_both_112 : decode cX8_both 112 = .ok (.iconst 1, 1) := by decide +kernel
theorem dX8_both_113 : decode cX8_both 113 = .ok (.iadd, 1) := by decide +kernel
theorem dX8_both_114 : decode cX8_both 114 = .ok (.iaload, 1) := by decide +kernel
theorem dX8_both_115 : decode cX8_both 115 = .ok (.if_icmp .ge 66, 3) := by decide +kernel
theorem dX8_both_118 : decode cX8_both 118 = .ok (.aload_n 0, 1) := by decide +kernel
theorem dX8_both_119 : decode cX8_both 119 = .ok (.getfield 77, 3) := by decide +kernel
theorem dX8_both_122 : decode cX8_both 122 = .ok (.iload 10, 2) := by decide +kernel
theorem dX8_both_124 : decode cX8_both 124 = .ok (.iaload, 1) := by decide +kernel
theorem dX8_both_125 : decode cX8_both 125 = .ok (.iload 7, 2) := by decide +kernel
theorem dX8_both_127 : decode cX8_both 127 = .ok (.if_icmp .ne 48, 3) := by decide +kernel
theorem dX8_both_130 : decode cX8_both 130 = .ok (.aload_n 0, 1) := by decide +kernel
theorem dX8_both_131 : decode cX8_both 131 = .ok (.iload 10, 2) := by decide +kernel
theorem dX8_both_133 : decode cX8_both 133 = .ok (.aload_n 0, 1) := by decide +kernel
theorem dX8_both_134 : decode cX8_both 134 = .ok (.getfield 74, 3) := by decide +kernel
theorem dX8_both_137 : decode cX8_both 137 = .ok (.iload 9, 2) := by decide +kernel
theorem dX8_both_139 : decode cX8_both 139 = .ok (.iconst 1, 1) := by decide +kernel
theorem dX8_both_140 : decode cX8_both 140 = .ok (.iadd, 1) := by decide +kernel
theorem dX8_both_141 : decode cX8_both 141 = .ok (.iaload, 1) := by decide +kernel
theorem dX8_both_142 : decode cX8_both 142 = .ok (.iload_n 1, 1) := by decide +kernel
theorem dX8_both_143 : decode cX8_both 143 = .ok (.lload_n 2, 1) := by decide +kernel
theorem dX8_both_144 : decode cX8_both 144 = .ok (.invokevirtual 317, 3) := by decide +kernel
theorem dX8_both_147 : decode cX8_both 147 = .ok (.ifCond .eq 28, 3) := by decide +kernel
theorem dX8_both_150 : decode cX8_both 150 = .ok (.aload_n 0, 1) := by decide +kernel
theorem dX8_both_151 : decode cX8_both 151 = .ok (.iload 10, 2) := by decide +kernel
theorem dX8_both_153 : decode cX8_both 153 = .ok (.aload_n 0, 1) := by decide +kernel
theorem dX8_both_154 : decode cX8_both 154 = .ok (.getfield 74, 3) := by decide +kernel
theorem dX8_both_157 : decode cX8_both 157 = .ok (.iload 9, 2) := by decide +kernel
theorem dX8_both_159 : decode cX8_both 159 = .ok (.iconst 1, 1) := by decide +kernel
theorem dX8_both_160 : decode cX8_both 160 = .ok (.iadd, 1) := by decide +kernel
theorem dX8_both_161 : decode cX8_both 161 = .ok (.iaload, 1) := by decide +kernel
theorem dX8_both_162 : decode cX8_both 162 = .ok (.iload 4, 2) := by decide +kernel
theorem dX8_both_164 : decode cX8_both 164 = .ok (.lload 5, 2) := by decide +kernel
theorem dX8_both_166 : decode cX8_both 166 = .ok (.invokevirtual 317, 3) := by decide +kernel
theorem dX8_both_169 : decode cX8_both 169 = .ok (.ifCond .eq 6, 3) := by decide +kernel
theorem dX8_both_172 : decode cX8_both 172 = .ok (.iinc 8 1, 3) := by decide +kernel
theorem dX8_both_175 : decode cX8_both 175 = .ok (.iinc 10 1, 3) := by decide +kernel
theorem dX8_both_178 : decode cX8_both 178 = .ok (.goto (-74), 3) := by decide +kernel
theorem dX8_both_181 : decode cX8_both 181 = .ok (.iinc 9 1, 3) := by decide +kernel
theorem dX8_both_184 : decode cX8_both 184 = .ok (.goto (-98), 3) := by decide +kernel
theorem dX8_both_187 : decode cX8_both 187 = .ok (.iload 8, 2) := by decide +kernel
theorem dX8_both_189 : decode cX8_both 189 = .ok (.ireturn, 1) := by decide +kernel
theorem dX8_rows_0 : decode cX8_rows 0 = .ok (.aload_n 0, 1) := by decide +kernel
theorem dX8_rows_1 : decode cX8_rows 1 = .ok (.iload_n 1, 1) := by decide +kernel
theorem dX8_rows_2 : decode cX8_rows 2 = .ok (.invokevirtual 289, 3) := by decide +kernel
theorem dX8_rows_5 : decode cX8_rows 5 = .ok (.ifCond .ne 5, 3) := by decide +kernel
theorem dX8_rows_8 : decode cX8_rows 8 = .ok (.iconst (-1), 1) := by decide +kernel
theorem dX8_rows_9 : decode cX8_rows 9 = .ok (.ireturn, 1) := by decide +kernel
theorem dX8_rows_10 : decode cX8_rows 10 = .ok (.aload_n 0, 1) := by decide +kernel
theorem dX8_rows_11 : decode cX8_rows 11 = .ok (.iload_n 1, 1) := by decide +kernel
theorem dX8_rows_12 : decode cX8_rows 12 = .ok (.invokevirtual 292, 3) := by decide +kernel
theorem dX8_rows_15 : decode cX8_rows 15 = .ok (.iconst 0, 1) := by decide +kernel
theorem dX8_rows_16 : decode cX8_rows 16 = .ok (.istore 4, 2) := by decide +kernel
theorem dX8_rows_18 : decode cX8_rows 18 = .ok (.iconst 0, 1) := by decide +kernel
theorem dX8_rows_19 : decode cX8_rows 19 = .ok (.istore 5, 2) := by decide +kernel
theorem dX8_rows_21 : decode cX8_rows 21 = .ok (.iload 5, 2) := by decide +kernel
theorem dX8_rows_23 : decode cX8_rows 23 = .ok (.aload_n 0, 1) := by decide +kernel
theorem dX8_rows_24 : decode cX8_rows 24 = .ok (.getfield 257, 3) := by decide +kernel
theorem dX8_rows_27 : decode cX8_rows 27 = .ok (.if_icmp .ge 44, 3) := by decide +kernel
theorem dX8_rows_30 : decode cX8_rows 30 = .ok (.iload_n 2, 1) := by decide +kernel
theorem dX8_rows_31 : decode cX8_rows 31 = .ok (.iconst (-1), 1) := by decide +kernel
theorem dX8_rows_32 : decode cX8_rows 32 = .ok (.if_icmp .eq 14, 3) := by decide +kernel
theorem dX8_rows_35 : decode cX8_rows 35 = .ok (.aload_n 0, 1) := by decide +kernel
theorem dX8_rows_36 : decode cX8_rows 36 = .ok (.getfield 89, 3) := by decide +kernel
theorem dX8_rows_39 : decode cX8_rows 39 = .ok (.iload 5, 2) := by decide +kernel
theorem dX8_rows_41 : decode cX8_rows 41 = .ok (.iaload, 1) := by decide +kernel
theorem dX8_rows_42 : decode cX8_rows 42 = .ok (.iload_n 2, 1) := by decide +kernel
theorem dX8_rows_43 : decode cX8_rows 43 = .ok (.if_icmp .ne 22, 3) := by decide +kernel
theorem dX8_rows_46 : decode cX8_rows 46 = .ok (.iload_n 3, 1) := by decide +kernel
theorem dX8_rows_47 : decode cX8_rows 47 = .ok (.iconst (-1), 1) := by decide +kernel
theorem dX8_rows_48 : decode cX8_rows 48 = .ok (.if_icmp .eq 14, 3) := by decide +kernel
theorem dX8_rows_51 : decode cX8_rows 51 = .ok (.aload_n 0, 1) := by decide +kernel
theorem dX8_rows_52 : decode cX8_rows 52 = .ok (.getfield 92, 3) := by decide +kernel
theorem dX8_rows_55 : decode cX8_rows 55 = .ok (.iload 5, 2) := by decide +kernel
theorem dX8_rows_57 : decode cX8_rows 57 = .ok (.iaload, 1) := by decide +kernel
theorem dX8_rows_58 : decode cX8_rows 58 = .ok (.iload_n 3, 1) := by decide +kernel
theorem dX8_rows_59 : decode cX8_rows 59 = .ok (.if_icmp .ne 6, 3) := by decide +kernel
theorem dX8_rows_62 : decode cX8_rows 62 = .ok (.iinc 4 1, 3) := by decide +kernel
theorem dX8_rows_65 : decode cX8_rows 65 = .ok (.iinc 5 1, 3) := by decide +kernel
theorem dX8_rows_68 : decode cX8_rows 68 = .ok (.goto (-47), 3) := by decide +kernel
theorem dX8_rows_71 : decode cX8_rows 71 = .ok (.iload 4, 2) := by decide +kernel
theorem dX8_rows_73 : decode cX8_rows 73 = .ok (.ireturn, 1) := by decide +kernel
theorem dJ9_abs_067f4_0 : decode cJ9_abs_067f4 0 = .ok (.lload_n 0, 1) := by decide +kernel
theorem dJ9_abs_067f4_1 : decode cJ9_abs_067f4 1 = .ok (.lconst 0, 1) := by decide +kernel
theorem dJ9_abs_067f4_2 : decode cJ9_abs_067f4 2 = .ok (.lcmp, 1) := by decide +kernel
theorem dJ9_abs_067f4_3 : decode cJ9_abs_067f4 3 = .ok (.ifCond .ge 8, 3) := by decide +kernel
theorem dJ9_abs_067f4_6 : decode cJ9_abs_067f4 6 = .ok (.lload_n 0, 1) := by decide +kernel
theorem dJ9_abs_067f4_7 : decode cJ9_abs_067f4 7 = .ok (.lneg, 1) := by decide +kernel
theorem dJ9_abs_067f4_8 : decode cJ9_abs_067f4 8 = .ok (.goto 4, 3) := by decide +kernel
theorem dJ9_abs_067f4_11 : decode cJ9_abs_067f4 11 = .ok (.lload_n 0, 1) := by decide +kernel
theorem dJ9_abs_067f4_12 : decode cJ9_abs_067f4 12 = .ok (.lreturn, 1) := by decide +kernel
theorem dJ9_max_7cf53_0 : decode cJ9_max_7cf53 0 = .ok (.iload_n 0, 1) := by decide +kernel
theorem dJ9_max_7cf53_1 : decode cJ9_max_7cf53 1 = .ok (.iload_n 1, 1) := by decide +kernel
theorem dJ9_max_7cf53_2 : decode cJ9_max_7cf53 2 = .ok (.if_icmp .lt 7, 3) := by decide +kernel
theorem dJ9_max_7cf53_5 : decode cJ9_max_7cf53 5 = .ok (.iload_n 0, 1) := by decide +kernel
theorem dJ9_max_7cf53_6 : decode cJ9_max_7cf53 6 = .ok (.goto 4, 3) := by decide +kernel
theorem dJ9_max_7cf53_9 : decode cJ9_max_7cf53 9 = .ok (.iload_n 1, 1) := by decide +kernel
theorem dJ9_max_7cf53_10 : decode cJ9_max_7cf53 10 = .ok (.ireturn, 1) := by decide +kernel
theorem dJ9_min_7cf53_0 : decode cJ9_min_7cf53 0 = .ok (.iload_n 0, 1) := by decide +kernel
theorem dJ9_min_7cf53_1 : decode cJ9_min_7cf53 1 = .ok (.iload_n 1, 1) := by decide +kernel
theorem dJ9_min_7cf53_2 : decode cJ9_min_7cf53 2 = .ok (.if_icmp .gt 7, 3) := by decide +kernel
theorem dJ9_min_7cf53_5 : decode cJ9_min_7cf53 5 = .ok (.iload_n 0, 1) := by decide +kernel
theorem dJ9_min_7cf53_6 : decode cJ9_min_7cf53 6 = .ok (.goto 4, 3) := by decide +kernel
theorem dJ9_min_7cf53_9 : decode cJ9_min_7cf53 9 = .ok (.iload_n 1, 1) := by decide +kernel
theorem dJ9_min_7cf53_10 : decode cJ9_min_7cf53 10 = .ok (.ireturn, 1) := by decide +kernel
theorem dJ7_copyOf_59c91_0 : decode cJ7_copyOf_59c91 0 = .ok (.iload_n 1, 1) := by decide +kernel
theorem dJ7_copyOf_59c91_1 : decode cJ7_copyOf_59c91 1 = .ok (.aload_n 0, 1) := by decide +kernel
theorem dJ7_copyOf_59c91_2 : decode cJ7_copyOf_59c91 2 = .ok (.arraylength, 1) := by decide +kernel
theorem dJ7_copyOf_59c91_3 : decode cJ7_copyOf_59c91 3 = .ok (.if_icmp .ne 11, 3) := by decide +kernel
theorem dJ7_copyOf_59c91_6 : decode cJ7_copyOf_59c91 6 = .ok (.aload_n 0, 1) := by decide +kernel
theorem dJ7_copyOf_59c91_7 : decode cJ7_copyOf_59c91 7 = .ok (.invokevirtual 316, 3) := by decide +kernel
theorem dJ7_copyOf_59c91_10 : decode cJ7_copyOf_59c91 10 = .ok (.checkcast 317, 3) := by decide +kernel
theorem dJ7_copyOf_59c91_13 : decode cJ7_copyOf_59c91 13 = .ok (.areturn, 1) := by decide +kernel
theorem dJ7_copyOf_59c91_14 : decode cJ7_copyOf_59c91 14 = .ok (.iload_n 1, 1) := by decide +kernel
theorem dJ7_copyOf_59c91_15 : decode cJ7_copyOf_59c91 15 = .ok (.newarray .int, 2) := by decide +kernel
theorem dJ7_copyOf_59c91_17 : decode cJ7_copyOf_59c91 17 = .ok (.astore_n 2, 1) := by decide +kernel
theorem dJ7_copyOf_59c91_18 : decode cJ7_copyOf_59c91 18 = .ok (.aload_n 0, 1) := by decide +kernel
theorem dJ7_copyOf_59c91_19 : decode cJ7_copyOf_59c91 19 = .ok (.iconst 0, 1) := by decide +kernel
theorem dJ7_copyOf_59c91_20 : decode cJ7_copyOf_59c91 20 = .ok (.aload_n 2, 1) := by decide +kernel
theorem dJ7_copyOf_59c91_21 : decode cJ7_copyOf_59c91 21 = .ok (.iconst 0, 1) := by decide +kernel
theorem dJ7_copyOf_59c91_22 : decode cJ7_copyOf_59c91 22 = .ok (.aload_n 0, 1) := by decide +kernel
theorem dJ7_copyOf_59c91_23 : decode cJ7_copyOf_59c91 23 = .ok (.arraylength, 1) := by decide +kernel
theorem dJ7_copyOf_59c91_24 : decode cJ7_copyOf_59c91 24 = .ok (.iload_n 1, 1) := by decide +kernel
theorem dJ7_copyOf_59c91_25 : decode cJ7_copyOf_59c91 25 = .ok (.invokestatic 304, 3) := by decide +kernel
theorem dJ7_copyOf_59c91_28 : decode cJ7_copyOf_59c91 28 = .ok (.invokestatic 150, 3) := by decide +kernel
theorem dJ7_copyOf_59c91_31 : decode cJ7_copyOf_59c91 31 = .ok (.aload_n 2, 1) := by decide +kernel
theorem dJ7_copyOf_59c91_32 : decode cJ7_copyOf_59c91 32 = .ok (.areturn, 1) := by decide +kernel
theorem dJ7_copyOf_c38d5_0 : decode cJ7_copyOf_c38d5 0 = .ok (.iload_n 1, 1) := by decide +kernel
theorem dJ7_copyOf_c38d5_1 : decode cJ7_copyOf_c38d5 1 = .ok (.aload_n 0, 1) := by decide +kernel
theorem dJ7_copyOf_c38d5_2 : decode cJ7_copyOf_c38d5 2 = .ok (.arraylength, 1) := by decide +kernel
theorem dJ7_copyOf_c38d5_3 : decode cJ7_copyOf_c38d5 3 = .ok (.if_icmp .ne 11, 3) := by decide +kernel
theorem dJ7_copyOf_c38d5_6 : decode cJ7_copyOf_c38d5 6 = .ok (.aload_n 0, 1) := by decide +kernel
theorem dJ7_copyOf_c38d5_7 : decode cJ7_copyOf_c38d5 7 = .ok (.invokevirtual 319, 3) := by decide +kernel
theorem dJ7_copyOf_c38d5_10 : decode cJ7_copyOf_c38d5 10 = .ok (.checkcast 320, 3) := by decide +kernel
theorem dJ7_copyOf_c38d5_13 : decode cJ7_copyOf_c38d5 13 = .ok (.areturn, 1) := by decide +kernel
theorem dJ7_copyOf_c38d5_14 : decode cJ7_copyOf_c38d5 14 = .ok (.iload_n 1, 1) := by decide +kernel
theorem dJ7_copyOf_c38d5_15 : decode cJ7_copyOf_c38d5 15 = .ok (.newarray .long, 2) := by decide +kernel
theorem dJ7_copyOf_c38d5_17 : decode cJ7_copyOf_c38d5 17 = .ok (.astore_n 2, 1) := by decide +kernel
theorem dJ7_copyOf_c38d5_18 : decode cJ7_copyOf_c38d5 18 = .ok (.aload_n 0, 1) := by decide +kernel
theorem dJ7_copyOf_c38d5_19 : decode cJ7_copyOf_c38d5 19 = .ok (.iconst 0, 1) := by decide +kernel
theorem dJ7_copyOf_c38d5_20 : decode cJ7_copyOf_c38d5 20 = .ok (.aload_n 2, 1) := by decide +kernel
theorem dJ7_copyOf_c38d5_21 : decode cJ7_copyOf_c38d5 21 = .ok (.iconst 0, 1) := by decide +kernel
theorem dJ7_copyOf_c38d5_22 : decode cJ7_copyOf_c38d5 22 = .ok (.aload_n 0, 1) := by decide +kernel
theorem dJ7_copyOf_c38d5_23 : decode cJ7_copyOf_c38d5 23 = .ok (.arraylength, 1) := by decide +kernel
theorem dJ7_copyOf_c38d5_24 : decode cJ7_copyOf_c38d5 24 = .ok (.iload_n 1, 1) := by decide +kernel
theorem dJ7_copyOf_c38d5_25 : decode cJ7_copyOf_c38d5 25 = .ok (.invokestatic 304, 3) := by decide +kernel
theorem dJ7_copyOf_c38d5_28 : decode cJ7_copyOf_c38d5 28 = .ok (.invokestatic 150, 3) := by decide +kernel
theorem dJ7_copyOf_c38d5_31 : decode cJ7_copyOf_c38d5 31 = .ok (.aload_n 2, 1) := by decide +kernel
theorem dJ7_copyOf_c38d5_32 : decode cJ7_copyOf_c38d5 32 = .ok (.areturn, 1) := by decide +kernel
theorem dL_law_0 : decode cL_law 0 = .ok (.new 7, 3) := by decide +kernel
theorem dL_law_3 : decode cL_law 3 = .ok (.dup, 1) := by decide +kernel
theorem dL_law_4 : decode cL_law 4 = .ok (.invokespecial 9, 3) := by decide +kernel
theorem dL_law_7 : decode cL_law 7 = .ok (.astore_n 1, 1) := by decide +kernel
theorem dL_law_8 : decode cL_law 8 = .ok (.new 10, 3) := by decide +kernel
theorem dL_law_11 : decode cL_law 11 = .ok (.dup, 1) := by decide +kernel
theorem dL_law_12 : decode cL_law 12 = .ok (.invokespecial 12, 3) := by decide +kernel
theorem dL_law_15 : decode cL_law 15 = .ok (.astore_n 2, 1) := by decide +kernel
theorem dL_law_16 : decode cL_law 16 = .ok (.iconst 0, 1) := by decide +kernel
theorem dL_law_17 : decode cL_law 17 = .ok (.istore_n 3, 1) := by decide +kernel
theorem dL_law_18 : decode cL_law 18 = .ok (.iload_n 3, 1) := by decide +kernel
theorem dL_law_19 : decode cL_law 19 = .ok (.aload_n 0, 1) := by decide +kernel
theorem dL_law_20 : decode cL_law 20 = .ok (.arraylength, 1) := by decide +kernel
theorem dL_law_21 : decode cL_law 21 = .ok (.bipush 7, 2) := by decide +kernel
theorem dL_law_23 : decode cL_law 23 = .ok (.isub, 1) := by decide +kernel
theorem dL_law_24 : decode cL_law 24 = .ok (.if_icmp .gt 816, 3) := by decide +kernel
theorem dL_law_27 : decode cL_law 27 = .ok (.aload_n 0, 1) := by decide +kernel
theorem dL_law_28 : decode cL_law 28 = .ok (.iload_n 3, 1) := by decide +kernel
theorem dL_law_29 : decode cL_law 29 = .ok (.iaload, 1) := by decide +kernel
theorem dL_law_30 : decode cL_law 30 = .ok (.bipush 15, 2) := by decide +kernel
theorem dL_law_32 : decode cL_law 32 = .ok (.iand, 1) := by decide +kernel
theorem dL_law_33 : decode cL_law 33 = .ok (.tableswitch 801 0 15 #[79, 142, 165, 178, 191, 214, 237, 270, 313, 347, 380, 403, 506, 609, 643, 758], 79) := by decide +kernel
theorem dL_law_112 : decode cL_law 112 = .ok (.aload_n 1, 1) := by decide +kernel
theorem dL_law_113 : decode cL_law 113 = .ok (.aload_n 0, 1) := by decide +kernel
theorem dL_law_114 : decode cL_law 114 = .ok (.iload_n 3, 1) := by decide +kernel
theorem dL_law_115 : decode cL_law 115 = .ok (.iconst 1, 1) := by decide +kernel
theorem dL_law_116 : decode cL_law 116 = .ok (.iadd, 1) := by decide +kernel
theorem dL_law_117 : decode cL_law 117 = .ok (.iaload, 1) := by decide +kernel
theorem dL_law_118 : decode cL_law 118 = .ok (.aload_n 0, 1) := by decide +kernel
theorem dL_law_119 : decode cL_law 119 = .ok (.iload_n 3, 1) := by decide +kernel
theorem dL_law_120 : decode cL_law 120 = .ok (.iconst 2, 1) := by decide +kernel
theorem dL_law_121 : decode cL_law 121 = .ok (.iadd, 1) := by decide +kernel
theorem dL_law_122 : decode cL_law 122 = .ok (.iaload, 1) := by decide +kernel
theorem dL_law_123 : decode cL_law 123 = .ok (.aload_n 0, 1) := by decide +kernel
theorem dL_law_124 : decode cL_law 124 = .ok (.iload_n 3, 1) := by decide +kernel
theorem dL_law_125 : decode cL_law 125 = .ok (.iconst 3, 1) := by decide +kernel
theorem dL_law_126 : decode cL_law 126 = .ok (.iadd, 1) := by decide +kernel
theorem dL_law_127 : decode cL_law 127 = .ok (.iaload, 1) := by decide +kernel
theorem dL_law_128 : decode cL_law 128 = .ok (.aload_n 0, 1) := by decide +kernel
theorem dL_law_129 : decode cL_law 129 = .ok (.iload_n 3, 1) := by decide +kernel
theorem dL_law_130 : decode cL_law 130 = .ok (.iconst 4, 1) := by decide +kernel
theorem dL_law_131 : decode cL_law 131 = .ok (.iadd, 1) := by decide +kernel
theorem dL_law_132 : decode cL_law 132 = .ok (.iaload, 1) := by decide +kernel
theorem dL_law_133 : decode cL_law 133 = .ok (.aload_n 0, 1) := by decide +kernel
theorem dL_law_134 : decode cL_law 134 = .ok (.iload_n 3, 1) := by decide +kernel
theorem dL_law_135 : decode cL_law 135 = .ok (.iconst 5, 1) := by decide +kernel
theorem dL_law_136 : decode cL_law 136 = .ok (.iadd, 1) := by decide +kernel
theorem dL_law_137 : decode cL_law 137 = .ok (.iaload, 1) := by decide +kernel
theorem dL_law_138 : decode cL_law 138 = .ok (.invokevirtual 13, 3) := by decide +kernel
theorem dL_law_141 : decode cL_law 141 = .ok (.aload_n 2, 1) := by decide +kernel
theorem dL_law_142 : decode cL_law 142 = .ok (.aload_n 0, 1) := by decide +kernel
theorem dL_law_143 : decode cL_law 143 = .ok (.iload_n 3, 1) := by decide +kernel
theorem dL_law_144 : decode cL_law 144 = .ok (.iconst 1, 1) := by decide +kernel
theorem dL_law_145 : decode cL_law 145 = .ok (.iadd, 1) := by decide +kernel
theorem dL_law_146 : decode cL_law 146 = .ok (.iaload, 1) := by decide +kernel
theorem dL_law_147 : decode cL_law 147 = .ok (.aload_n 0, 1) := by decide +kernel
theorem dL_law_148 : decode cL_law 148 = .ok (.iload_n 3, 1) := by decide +kernel
theorem dL_law_149 : decode cL_law 149 = .ok (.iconst 2, 1) := by decide +kernel
theorem dL_law_150 : decode cL_law 150 = .ok (.iadd, 1) := by decide +kernel
theorem dL_law_151 : decode cL_law 151 = .ok (.iaload, 1) := by decide +kernel
theorem dL_law_152 : decode cL_law 152 = .ok (.aload_n 0, 1) := by decide +kernel
theorem dL_law_153 : decode cL_law 153 = .ok (.iload_n 3, 1) := by decide +kernel
theorem dL_law_154 : decode cL_law 154 = .ok (.iconst 3, 1) := by decide +kernel
theorem dL_law_155 : decode cL_law 155 = .ok (.iadd, 1) := by decide +kernel
theorem dL_law_156 : decode cL_law 156 = .ok (.iaload, 1) := by decide +kernel
theorem dL_law_157 : decode cL_law 157 = .ok (.aload_n 0, 1) := by decide +kernel
theorem dL_law_158 : decode cL_law 158 = .ok (.iload_n 3, 1) := by decide +kernel
theorem dL_law_159 : decode cL_law 159 = .ok (.iconst 4, 1) := by decide +kernel
theorem dL_law_160 : decode cL_law 160 = .ok (.iadd, 1) := by decide +kernel
theorem dL_law_161 : decode cL_law 161 = .ok (.iaload, 1) := by decide +kernel
theorem dL_law_162 : decode cL_law 162 = .ok (.aload_n 0, 1) := by decide +kernel
theorem dL_law_163 : decode cL_law 163 = .ok (.iload_n 3, 1) := by decide +kernel
theorem dL_law_164 : decode cL_law 164 = .ok (.iconst 5, 1) := by decide +kernel
theorem dL_law_165 : decode cL_law 165 = .ok (.iadd, 1) := by decide +kernel
theorem dL_law_166 : decode cL_law 166 = .ok (.iaload, 1) := by decide +kernel
theorem dL_law_167 : decode cL_law 167 = .ok (.invokevirtual 17, 3) := by decide +kernel
theorem dL_law_170 : decode cL_law 170 = .ok (.if_icmp .eq 664, 3) := by decide +kernel
theorem dL_law_173 : decode cL_law 173 = .ok (.iconst 0, 1) := by decide +kernel
theorem dL_law_174 : decode cL_law 174 = .ok (.ireturn, 1) := by decide +kernel
theorem dL_law_175 : decode cL_law 175 = .ok (.aload_n 1, 1) := by decide +kernel
theorem dL_law_176 : decode cL_law 176 = .ok (.aload_n 0, 1) := by decide +kernel
theorem dL_law_177 : decode cL_law 177 = .ok (.iload_n 3, 1) := by decide +kernel
theorem dL_law_178 : decode cL_law 178 = .ok (.iconst 1, 1) := by decide +kernel
theorem dL_law_179 : decode cL_law 179 = .ok (.iadd, 1) := by decide +kernel
theorem dL_law_180 : decode cL_law 180 = .ok (.iaload, 1) := by decide +kernel
theorem dL_law_181 : decode cL_law 181 = .ok (.invokevirtual 18, 3) := by decide +kernel
theorem dL_law_184 : decode cL_law 184 = .ok (.aload_n 2, 1) := by decide +kernel
theorem dL_law_185 : decode cL_law 185 = .ok (.aload_n 0, 1) := by decide +kernel
theorem dL_law_186 : decode cL_law 186 = .ok (.iload_n 3, 1) := by decide +kernel
theorem dL_law_187 : decode cL_law 187 = .ok (.iconst 1, 1) := by decide +kernel
theorem dL_law_188 : decode cL_law 188 = .ok (.iadd, 1) := by decide +kernel
theorem dL_law_189 : decode cL_law 189 = .ok (.iaload, 1) := by decide +kernel
theorem dL_law_190 : decode cL_law 190 = .ok (.invokevirtual 22, 3) := by decide +kernel
theorem dL_law_193 : decode cL_law 193 = .ok (.if_icmp .eq 641, 3) := by decide +kernel
theorem dL_law_196 : decode cL_law 196 = .ok (.iconst 0, 1) := by decide +kernel
theorem dL_law_197 : decode cL_law 197 = .ok (.ireturn, 1) := by decide +kernel
theorem dL_law_198 : decode cL_law 198 = .ok (.aload_n 1, 1) := by decide +kernel
theorem dL_law_199 : decode cL_law 199 = .ok (.invokevirtual 23, 3) := by decide +kernel
theorem dL_law_202 : decode cL_law 202 = .ok (.aload_n 2, 1) := by decide +kernel
theorem dL_law_203 : decode cL_law 203 = .ok (.invokevirtual 27, 3) := by decide +kernel
theorem dL_law_206 : decode cL_law 206 = .ok (.if_icmp .eq 628, 3) := by decide +kernel
theorem dL_law_209 : decode cL_law 209 = .ok (.iconst 0, 1) := by decide +kernel
theorem dL_law_210 : decode cL_law 210 = .ok (.ireturn, 1) := by decide +kernel
theorem dL_law_211 : decode cL_law 211 = .ok (.aload_n 1, 1) := by decide +kernel
theorem dL_law_212 : decode cL_law 212 = .ok (.invokevirtual 28, 3) := by decide +kernel
theorem dL_law_215 : decode cL_law 215 = .ok (.aload_n 2, 1) := by decide +kernel
theorem dL_law_216 : decode cL_law 216 = .ok (.invokevirtual 31, 3) := by decide +kernel
theorem dL_law_219 : decode cL_law 219 = .ok (.if_icmp .eq 615, 3) := by decide +kernel
theorem dL_law_222 : decode cL_law 222 = .ok (.iconst 0, 1) := by decide +kernel
theorem dL_law_223 : decode cL_law 223 = .ok (.ireturn, 1) := by decide +kernel
theorem dL_law_224 : decode cL_law 224 = .ok (.aload_n 1, 1) := by decide +kernel
theorem dL_law_225 : decode cL_law 225 = .ok (.aload_n 0, 1) := by decide +kernel
theorem dL_law_226 : decode cL_law 226 = .ok (.iload_n 3, 1) := by decide +kernel
theorem dL_law_227 : decode cL_law 227 = .ok (.iconst 1, 1) := by decide +kernel
theorem dL_law_228 : decode cL_law 228 = .ok (.iadd, 1) := by decide +kernel
theorem dL_law_229 : decode cL_law 229 = .ok (.iaload, 1) := by decide +kernel
theorem dL_law_230 : decode cL_law 230 = .ok (.invokevirtual 32, 3) := by decide +kernel
theorem dL_law_233 : decode cL_law 233 = .ok (.aload_n 2, 1) := by decide +kernel
theorem dL_law_234 : decode cL_law 234 = .ok (.aload_n 0, 1) := by decide +kernel
theorem dL_law_235 : decode cL_law 235 = .ok (.iload_n 3, 1) := by decide +kernel
theorem dL_law_236 : decode cL_law 236 = .ok (.iconst 1, 1) := by decide +kernel
theorem dL_law_237 : decode cL_law 237 = .ok (.iadd, 1) := by decide +kernel
theorem dL_law_238 : decode cL_law 238 = .ok (.iaload, 1) := by decide +kernel
theorem dL_law_239 : decode cL_law 239 = .ok (.invokevirtual 36, 3) := by decide +kernel
theorem dL_law_242 : decode cL_law 242 = .ok (.if_icmp .eq 592, 3) := by decide +kernel
theorem dL_law_245 : decode cL_law 245 = .ok (.iconst 0, 1) := by decide +kernel
theorem dL_law_246 : decode cL_law 246 = .ok (.ireturn, 1) := by decide +kernel
theorem dL_law_247 : decode cL_law 247 = .ok (.aload_n 1, 1) := by decide +kernel
theorem dL_law_248 : decode cL_law 248 = .ok (.aload_n 0, 1) := by decide +kernel
theorem dL_law_249 : decode cL_law 249 = .ok (.iload_n 3, 1) := by decide +kernel
theorem dL_law_250 : decode cL_law 250 = .ok (.iconst 1, 1) := by decide +kernel
theorem dL_law_251 : decode cL_law 251 = .ok (.iadd, 1) := by decide +kernel
theorem dL_law_252 : decode cL_law 252 = .ok (.iaload, 1) := by decide +kernel
theorem dL_law_253 : decode cL_law 253 = .ok (.invokevirtual 37, 3) := by decide +kernel
theorem dL_law_256 : decode cL_law 256 = .ok (.aload_n 2, 1) := by decide +kernel
theorem dL_law_257 : decode cL_law 257 = .ok (.aload_n 0, 1) := by decide +kernel
theorem dL_law_258 : decode cL_law 258 = .ok (.iload_n 3, 1) := by decide +kernel
theorem dL_law_259 : decode cL_law 259 = .ok (.iconst 1, 1) := by decide +kernel
theorem dL_law_260 : decode cL_law 260 = .ok (.iadd, 1) := by decide +kernel
theorem dL_law_261 : decode cL_law 261 = .ok (.iaload, 1) := by decide +kernel
theorem dL_law_262 : decode cL_law 262 = .ok (.invokevirtual 40, 3) := by decide +kernel
theorem dL_law_265 : decode cL_law 265 = .ok (.if_icmp .eq 569, 3) := by decide +kernel
theorem dL_law_268 : decode cL_law 268 = .ok (.iconst 0, 1) := by decide +kernel
theorem dL_law_269 : decode cL_law 269 = .ok (.ireturn, 1) := by decide +kernel
theorem dL_law_270 : decode cL_law 270 = .ok (.aload_n 1, 1) := by decide +kernel
theorem dL_law_271 : decode cL_law 271 = .ok (.aload_n 0, 1) := by decide +kernel
theorem dL_law_272 : decode cL_law 272 = .ok (.iload_n 3, 1) := by decide +kernel
theorem dL_law_273 : decode cL_law 273 = .ok (.iconst 1, 1) := by decide +kernel
theorem dL_law_274 : decode cL_law 274 = .ok (.iadd, 1) := by decide +kernel
theorem dL_law_275 : decode cL_law 275 = .ok (.iaload, 1) := by decide +kernel
theorem dL_law_276 : decode cL_law 276 = .ok (.aload_n 0, 1) := by decide +kernel
theorem dL_law_277 : decode cL_law 277 = .ok (.iload_n 3, 1) := by decide +kernel
theorem dL_law_278 : decode cL_law 278 = .ok (.iconst 2, 1) := by decide +kernel
theorem dL_law_279 : decode cL_law 279 = .ok (.iadd, 1) := by decide +kernel
theorem dL_law_280 : decode cL_law 280 = .ok (.iaload, 1) := by decide +kernel
theorem dL_law_281 : decode cL_law 281 = .ok (.invokevirtual 41, 3) := by decide +kernel
theorem dL_law_284 : decode cL_law 284 = .ok (.aload_n 2, 1) := by decide +kernel
theorem dL_law_285 : decode cL_law 285 = .ok (.aload_n 0, 1) := by decide +kernel
theorem dL_law_286 : decode cL_law 286 = .ok (.iload_n 3, 1) := by decide +kernel
theorem dL_law_287 : decode cL_law 287 = .ok (.iconst 1, 1) := by decide +kernel
theorem dL_law_288 : decode cL_law 288 = .ok (.iadd, 1) := by decide +kernel
theorem dL_law_289 : decode cL_law 289 = .ok (.iaload, 1) := by decide +kernel
theorem dL_law_290 : decode cL_law 290 = .ok (.aload_n 0, 1) := by decide +kernel
theorem dL_law_291 : decode cL_law 291 = .ok (.iload_n 3, 1) := by decide +kernel
theorem dL_law_292 : decode cL_law 292 = .ok (.iconst 2, 1) := by decide +kernel
theorem dL_law_293 : decode cL_law 293 = .ok (.iadd, 1) := by decide +kernel
theorem dL_law_294 : decode cL_law 294 = .ok (.iaload, 1) := by decide +kernel
theorem dL_law_295 : decode cL_law 295 = .ok (.invokevirtual 45, 3) := by decide +kernel
theorem dL_law_298 : decode cL_law 298 = .ok (.if_icmp .eq 536, 3) := by decide +kernel
theorem dL_law_301 : decode cL_law 301 = .ok (.iconst 0, 1) := by decide +kernel
theorem dL_law_302 : decode cL_law 302 = .ok (.ireturn, 1) := by decide +kernel
theorem dL_law_303 : decode cL_law 303 = .ok (.aload_n 1, 1) := by decide +kernel
theorem dL_law_304 : decode cL_law 304 = .ok (.aload_n 0, 1) := by decide +kernel
theorem dL_law_305 : decode cL_law 305 = .ok (.iload_n 3, 1) := by decide +kernel
theorem dL_law_306 : decode cL_law 306 = .ok (.iconst 1, 1) := by decide +kernel
theorem dL_law_307 : decode cL_law 307 = .ok (.iadd, 1) := by decide +kernel
theorem dL_law_308 : decode cL_law 308 = .ok (.iaload, 1) := by decide +kernel
theorem dL_law_309 : decode cL_law 309 = .ok (.aload_n 0, 1) := by decide +kernel
theorem dL_law_310 : decode cL_law 310 = .ok (.iload_n 3, 1) := by decide +kernel
theorem dL_law_311 : decode cL_law 311 = .ok (.iconst 2, 1) := by decide +kernel
theorem dL_law_312 : decode cL_law 312 = .ok (.iadd, 1) := by decide +kernel
theorem dL_law_313 : decode cL_law 313 = .ok (.iaload, 1) := by decide +kernel
theorem dL_law_314 : decode cL_law 314 = .ok (.aload_n 0, 1) := by decide +kernel
theorem dL_law_315 : decode cL_law 315 = .ok (.iload_n 3, 1) := by decide +kernel
theorem dL_law_316 : decode cL_law 316 = .ok (.iconst 3, 1) := by decide +kernel
theorem dL_law_317 : decode cL_law 317 = .ok (.iadd, 1) := by decide +kernel
theorem dL_law_318 : decode cL_law 318 = .ok (.iaload, 1) := by decide +kernel
theorem dL_law_319 : decode cL_law 319 = .ok (.invokevirtual 46, 3) := by decide +kernel
theorem dL_law_322 : decode cL_law 322 = .ok (.aload_n 2, 1) := by decide +kernel
theorem dL_law_323 : decode cL_law 323 = .ok (.aload_n 0, 1) := by decide +kernel
theorem dL_law_324 : decode cL_law 324 = .ok (.iload_n 3, 1) := by decide +kernel
theorem dL_law_325 : decode cL_law 325 = .ok (.iconst 1, 1) := by decide +kernel
theorem dL_law_326 : decode cL_law 326 = .ok (.iadd, 1) := by decide +kernel
theorem dL_law_327 : decode cL_law 327 = .ok (.iaload, 1) := by decide +kernel
theorem dL_law_328 : decode cL_law 328 = .ok (.aload_n 0, 1) := by decide +kernel
theorem dL_law_329 : decode cL_law 329 = .ok (.iload_n 3, 1) := by decide +kernel
theorem dL_law_330 : decode cL_law 330 = .ok (.iconst 2, 1) := by decide +kernel
theorem dL_law_331 : decode cL_law 331 = .ok (.iadd, 1) := by decide +kernel
theorem dL_law_332 : decode cL_law 332 = .ok (.iaload, 1) := by decide +kernel
theorem dL_law_333 : decode cL_law 333 = .ok (.aload_n 0, 1) := by decide +kernel
theorem dL_law_334 : decode cL_law 334 = .ok (.iload_n 3, 1) := by decide +kernel
theorem dL_law_335 : decode cL_law 335 = .ok (.iconst 3, 1) := by decide +kernel
theorem dL_law_336 : decode cL_law 336 = .ok (.iadd, 1) := by decide +kernel
theorem dL_law_337 : decode cL_law 337 = .ok (.iaload, 1) := by decide +kernel
theorem dL_law_338 : decode cL_law 338 = .ok (.invokevirtual 50, 3) := by decide +kernel
theorem dL_law_341 : decode cL_law 341 = .ok (.if_icmp .eq 493, 3) := by decide +kernel
theorem dL_law_344 : decode cL_law 344 = .ok (.iconst 0, 1) := by decide +kernel
theorem dL_law_345 : decode cL_law 345 = .ok (.ireturn, 1) := by decide +kernel
theorem dL_law_346 : decode cL_law 346 = .ok (.aload_n 1, 1) := by decide +kernel
theorem dL_law_347 : decode cL_law 347 = .ok (.aload_n 0, 1) := by decide +kernel
theorem dL_law_348 : decode cL_law 348 = .ok (.iload_n 3, 1) := by decide +kernel
theorem dL_law_349 : decode cL_law 349 = .ok (.iconst 1, 1) := by decide +kernel
theorem dL_law_350 : decode cL_law 350 = .ok (.iadd, 1) := by decide +kernel
theorem dL_law_351 : decode cL_law 351 = .ok (.iaload, 1) := by decide +kernel
theorem dL_law_352 : decode cL_law 352 = .ok (.aload_n 0, 1) := by decide +kernel
theorem dL_law_353 : decode cL_law 353 = .ok (.iload_n 3, 1) := by decide +kernel
theorem dL_law_354 : decode cL_law 354 = .ok (.iconst 2, 1) := by decide +kernel
theorem dL_law_355 : decode cL_law 355 = .ok (.iadd, 1) := by decide +kernel
theorem dL_law_356 : decode cL_law 356 = .ok (.iaload, 1) := by decide +kernel
theorem dL_law_357 : decode cL_law 357 = .ok (.invokevirtual 51, 3) := by decide +kernel
theorem dL_law_360 : decode cL_law 360 = .ok (.aload_n 2, 1) := by decide +kernel
theorem dL_law_361 : decode cL_law 361 = .ok (.aload_n 0, 1) := by decide +kernel
theorem dL_law_362 : decode cL_law 362 = .ok (.iload_n 3, 1) := by decide +kernel
theorem dL_law_363 : decode cL_law 363 = .ok (.iconst 1, 1) := by decide +kernel
theorem dL_law_364 : decode cL_law 364 = .ok (.iadd, 1) := by decide +kernel
theorem dL_law_365 : decode cL_law 365 = .ok (.iaload, 1) := by decide +kernel
theorem dL_law_366 : decode cL_law 366 = .ok (.aload_n 0, 1) := by decide +kernel
theorem dL_law_367 : decode cL_law 367 = .ok (.iload_n 3, 1) := by decide +kernel
theorem dL_law_368 : decode cL_law 368 = .ok (.iconst 2, 1) := by decide +kernel
theorem dL_law_369 : decode cL_law 369 = .ok (.iadd, 1) := by decide +kernel
theorem dL_law_370 : decode cL_law 370 = .ok (.iaload, 1) := by decide +kernel
theorem dL_law_371 : decode cL_law 371 = .ok (.invokevirtual 55, 3) := by decide +kernel
theorem dL_law_374 : decode cL_law 374 = .ok (.lcmp, 1) := by decide +kernel
theorem dL_law_375 : decode cL_law 375 = .ok (.ifCond .eq 459, 3) := by decide +kernel
theorem dL_law_378 : decode cL_law 378 = .ok (.iconst 0, 1) := by decide +kernel
theorem dL_law_379 : decode cL_law 379 = .ok (.ireturn, 1) := by decide +kernel
theorem dL_law_380 : decode cL_law 380 = .ok (.aload_n 1, 1) := by decide +kernel
theorem dL_law_381 : decode cL_law 381 = .ok (.aload_n 0, 1) := by decide +kernel
theorem dL_law_382 : decode cL_law 382 = .ok (.iload_n 3, 1) := by decide +kernel
theorem dL_law_383 : decode cL_law 383 = .ok (.iconst 1, 1) := by decide +kernel
theorem dL_law_384 : decode cL_law 384 = .ok (.iadd, 1) := by decide +kernel
theorem dL_law_385 : decode cL_law 385 = .ok (.iaload, 1) := by decide +kernel
theorem dL_law_386 : decode cL_law 386 = .ok (.aload_n 0, 1) := by decide +kernel
theorem dL_law_387 : decode cL_law 387 = .ok (.iload_n 3, 1) := by decide +kernel
theorem dL_law_388 : decode cL_law 388 = .ok (.iconst 2, 1) := by decide +kernel
theorem dL_law_389 : decode cL_law 389 = .ok (.iadd, 1) := by decide +kernel
theorem dL_law_390 : decode cL_law 390 = .ok (.iaload, 1) := by decide +kernel
theorem dL_law_391 : decode cL_law 391 = .ok (.invokevirtual 56, 3) := by decide +kernel
theorem dL_law_394 : decode cL_law 394 = .ok (.aload_n 2, 1) := by decide +kernel
theorem dL_law_395 : decode cL_law 395 = .ok (.aload_n 0, 1) := by decide +kernel
theorem dL_law_396 : decode cL_law 396 = .ok (.iload_n 3, 1) := by decide +kernel
theorem dL_law_397 : decode cL_law 397 = .ok (.iconst 1, 1) := by decide +kernel
theorem dL_law_398 : decode cL_law 398 = .ok (.iadd, 1) := by decide +kernel
theorem dL_law_399 : decode cL_law 399 = .ok (.iaload, 1) := by decide +kernel
theorem dL_law_400 : decode cL_law 400 = .ok (.aload_n 0, 1) := by decide +kernel
theorem dL_law_401 : decode cL_law 401 = .ok (.iload_n 3, 1) := by decide +kernel
theorem dL_law_402 : decode cL_law 402 = .ok (.iconst 2, 1) := by decide +kernel
theorem dL_law_403 : decode cL_law 403 = .ok (.iadd, 1) := by decide +kernel
theorem dL_law_404 : decode cL_law 404 = .ok (.iaload, 1) := by decide +kernel
theorem dL_law_405 : decode cL_law 405 = .ok (.invokevirtual 59, 3) := by decide +kernel
theorem dL_law_408 : decode cL_law 408 = .ok (.if_icmp .eq 426, 3) := by decide +kernel
theorem dL_law_411 : decode cL_law 411 = .ok (.iconst 0, 1) := by decide +kernel
theorem dL_law_412 : decode cL_law 412 = .ok (.ireturn, 1) := by decide +kernel
theorem dL_law_413 : decode cL_law 413 = .ok (.aload_n 1, 1) := by decide +kernel
theorem dL_law_414 : decode cL_law 414 = .ok (.aload_n 0, 1) := by decide +kernel
theorem dL_law_415 : decode cL_law 415 = .ok (.iload_n 3, 1) := by decide +kernel
theorem dL_law_416 : decode cL_law 416 = .ok (.iconst 1, 1) := by decide +kernel
theorem dL_law_417 : decode cL_law 417 = .ok (.iadd, 1) := by decide +kernel
theorem dL_law_418 : decode cL_law 418 = .ok (.iaload, 1) := by decide +kernel
theorem dL_law_419 : decode cL_law 419 = .ok (.invokevirtual 60, 3) := by decide +kernel
theorem dL_law_422 : decode cL_law 422 = .ok (.aload_n 2, 1) := by decide +kernel
theorem dL_law_423 : decode cL_law 423 = .ok (.aload_n 0, 1) := by decide +kernel
theorem dL_law_424 : decode cL_law 424 = .ok (.iload_n 3, 1) := by decide +kernel
theorem dL_law_425 : decode cL_law 425 = .ok (.iconst 1, 1) := by decide +kernel
theorem dL_law_426 : decode cL_law 426 = .ok (.iadd, 1) := by decide +kernel
theorem dL_law_427 : decode cL_law 427 = .ok (.iaload, 1) := by decide +kernel
theorem dL_law_428 : decode cL_law 428 = .ok (.invokevirtual 63, 3) := by decide +kernel
theorem dL_law_431 : decode cL_law 431 = .ok (.if_icmp .eq 403, 3) := by decide +kernel
theorem dL_law_434 : decode cL_law 434 = .ok (.iconst 0, 1) := by decide +kernel
theorem dL_law_435 : decode cL_law 435 = .ok (.ireturn, 1) := by decide +kernel
theorem dL_law_436 : decode cL_law 436 = .ok (.aload_n 1, 1) := by decide +kernel
theorem dL_law_437 : decode cL_law 437 = .ok (.aload_n 0, 1) := by decide +kernel
theorem dL_law_438 : decode cL_law 438 = .ok (.iload_n 3, 1) := by decide +kernel
theorem dL_law_439 : decode cL_law 439 = .ok (.iconst 1, 1) := by decide +kernel
theorem dL_law_440 : decode cL_law 440 = .ok (.iadd, 1) := by decide +kernel
theorem dL_law_441 : decode cL_law 441 = .ok (.iaload, 1) := by decide +kernel
theorem dL_law_442 : decode cL_law 442 = .ok (.aload_n 0, 1) := by decide +kernel
theorem dL_law_443 : decode cL_law 443 = .ok (.iload_n 3, 1) := by decide +kernel
theorem dL_law_444 : decode cL_law 444 = .ok (.iconst 2, 1) := by decide +kernel
theorem dL_law_445 : decode cL_law 445 = .ok (.iadd, 1) := by decide +kernel
theorem dL_law_446 : decode cL_law 446 = .ok (.iaload, 1) := by decide +kernel
theorem dL_law_447 : decode cL_law 447 = .ok (.i2l, 1) := by decide +kernel
theorem dL_law_448 : decode cL_law 448 = .ok (.bipush 32, 2) := by decide +kernel
theorem dL_law_450 : decode cL_law 450 = .ok (.lshl, 1) := by decide +kernel
theorem dL_law_451 : decode cL_law 451 = .ok (.aload_n 0, 1) := by decide +kernel
theorem dL_law_452 : decode cL_law 452 = .ok (.iload_n 3, 1) := by decide +kernel
theorem dL_law_453 : decode cL_law 453 = .ok (.iconst 3, 1) := by decide +kernel
theorem dL_law_454 : decode cL_law 454 = .ok (.iadd, 1) := by decide +kernel
theorem dL_law_455 : decode cL_law 455 = .ok (.iaload, 1) := by decide +kernel
theorem dL_law_456 : decode cL_law 456 = .ok (.i2l, 1) := by decide +kernel
theorem dL_law_457 : decode cL_law 457 = .ok (.ldc2_w 64, 3) := by decide +kernel
theorem dL_law_460 : decode cL_law 460 = .ok (.land, 1) := by decide +kernel
theorem dL_law_461 : decode cL_law 461 = .ok (.lor, 1) := by decide +kernel
theorem dL_law_462 : decode cL_law 462 = .ok (.aload_n 0, 1) := by decide +kernel
theorem dL_law_463 : decode cL_law 463 = .ok (.iload_n 3, 1) := by decide +kernel
theorem dL_law_464 : decode cL_law 464 = .ok (.iconst 4, 1) := by decide +kernel
theorem dL_law_465 : decode cL_law 465 = .ok (.iadd, 1) := by decide +kernel
theorem dL_law_466 : decode cL_law 466 = .ok (.iaload, 1) := by decide +kernel
theorem dL_law_467 : decode cL_law 467 = .ok (.i2l, 1) := by decide +kernel
theorem dL_law_468 : decode cL_law 468 = .ok (.bipush 32, 2) := by decide +kernel
theorem dL_law_470 : decode cL_law 470 = .ok (.lshl, 1) := by decide +kernel
theorem dL_law_471 : decode cL_law 471 = .ok (.aload_n 0, 1) := by decide +kernel
theorem dL_law_472 : decode cL_law 472 = .ok (.iload_n 3, 1) := by decide +kernel
theorem dL_law_473 : decode cL_law 473 = .ok (.iconst 5, 1) := by decide +kernel
theorem dL_law_474 : decode cL_law 474 = .ok (.iadd, 1) := by decide +kernel
theorem dL_law_475 : decode cL_law 475 = .ok (.iaload, 1) := by decide +kernel
theorem dL_law_476 : decode cL_law 476 = .ok (.i2l, 1) := by decide +kernel
theorem dL_law_477 : decode cL_law 477 = .ok (.ldc2_w 64, 3) := by decide +kernel
theorem dL_law_480 : decode cL_law 480 = .ok (.land, 1) := by decide +kernel
theorem dL_law_481 : decode cL_law 481 = .ok (.lor, 1) := by decide +kernel
theorem dL_law_482 : decode cL_law 482 = .ok (.invokevirtual 66, 3) := by decide +kernel
theorem dL_law_485 : decode cL_law 485 = .ok (.aload_n 2, 1) := by decide +kernel
theorem dL_law_486 : decode cL_law 486 = .ok (.aload_n 0, 1) := by decide +kernel
theorem dL_law_487 : decode cL_law 487 = .ok (.iload_n 3, 1) := by decide +kernel
theorem dL_law_488 : decode cL_law 488 = .ok (.iconst 1, 1) := by decide +kernel
theorem dL_law_489 : decode cL_law 489 = .ok (.iadd, 1) := by decide +kernel
theorem dL_law_490 : decode cL_law 490 = .ok (.iaload, 1) := by decide +kernel
theorem dL_law_491 : decode cL_law 491 = .ok (.aload_n 0, 1) := by decide +kernel
theorem dL_law_492 : decode cL_law 492 = .ok (.iload_n 3, 1) := by decide +kernel
theorem dL_law_493 : decode cL_law 493 = .ok (.iconst 2, 1) := by decide +kernel
theorem dL_law_494 : decode cL_law 494 = .ok (.iadd, 1) := by decide +kernel
theorem dL_law_495 : decode cL_law 495 = .ok (.iaload, 1) := by decide +kernel
theorem dL_law_496 : decode cL_law 496 = .ok (.i2l, 1) := by decide +kernel
theorem dL_law_497 : decode cL_law 497 = .ok (.bipush 32, 2) := by decide +kernel
theorem dL_law_499 : decode cL_law 499 = .ok (.lshl, 1) := by decide +kernel
theorem dL_law_500 : decode cL_law 500 = .ok (.aload_n 0, 1) := by decide +kernel
theorem dL_law_501 : decode cL_law 501 = .ok (.iload_n 3, 1) := by decide +kernel
theorem dL_law_502 : decode cL_law 502 = .ok (.iconst 3, 1) := by decide +kernel
theorem dL_law_503 : decode cL_law 503 = .ok (.iadd, 1) := by decide +kernel
theorem dL_law_504 : decode cL_law 504 = .ok (.iaload, 1) := by decide +kernel
theorem dL_law_505 : decode cL_law 505 = .ok (.i2l, 1) := by decide +kernel
theorem dL_law_506 : decode cL_law 506 = .ok (.ldc2_w 64, 3) := by decide +kernel
theorem dL_law_509 : decode cL_law 509 = .ok (.land, 1) := by decide +kernel
theorem dL_law_510 : decode cL_law 510 = .ok (.lor, 1) := by decide +kernel
theorem dL_law_511 : decode cL_law 511 = .ok (.aload_n 0, 1) := by decide +kernel
theorem dL_law_512 : decode cL_law 512 = .ok (.iload_n 3, 1) := by decide +kernel
theorem dL_law_513 : decode cL_law 513 = .ok (.iconst 4, 1) := by decide +kernel
theorem dL_law_514 : decode cL_law 514 = .ok (.iadd, 1) := by decide +kernel
theorem dL_law_515 : decode cL_law 515 = .ok (.iaload, 1) := by decide +kernel
theorem dL_law_516 : decode cL_law 516 = .ok (.i2l, 1) := by decide +kernel
theorem dL_law_517 : decode cL_law 517 = .ok (.bipush 32, 2) := by decide +kernel
theorem dL_law_519 : decode cL_law 519 = .ok (.lshl, 1) := by decide +kernel
theorem dL_law_520 : decode cL_law 520 = .ok (.aload_n 0, 1) := by decide +kernel
theorem dL_law_521 : decode cL_law 521 = .ok (.iload_n 3, 1) := by decide +kernel
theorem dL_law_522 : decode cL_law 522 = .ok (.iconst 5, 1) := by decide +kernel
theorem dL_law_523 : decode cL_law 523 = .ok (.iadd, 1) := by decide +kernel
theorem dL_law_524 : decode cL_law 524 = .ok (.iaload, 1) := by decide +kernel
theorem dL_law_525 : decode cL_law 525 = .ok (.i2l, 1) := by decide +kernel
theorem dL_law_526 : decode cL_law 526 = .ok (.ldc2_w 64, 3) := by decide +kernel
theorem dL_law_529 : decode cL_law 529 = .ok (.land, 1) := by decide +kernel
theorem dL_law_530 : decode cL_law 530 = .ok (.lor, 1) := by decide +kernel
theorem dL_law_531 : decode cL_law 531 = .ok (.invokevirtual 70, 3) := by decide +kernel
theorem dL_law_534 : decode cL_law 534 = .ok (.if_icmp .eq 300, 3) := by decide +kernel
theorem dL_law_537 : decode cL_law 537 = .ok (.iconst 0, 1) := by decide +kernel
theorem dL_law_538 : decode cL_law 538 = .ok (.ireturn, 1) := by decide +kernel
theorem dL_law_539 : decode cL_law 539 = .ok (.aload_n 1, 1) := by decide +kernel
theorem dL_law_540 : decode cL_law 540 = .ok (.aload_n 0, 1) := by decide +kernel
theorem dL_law_541 : decode cL_law 541 = .ok (.iload_n 3, 1) := by decide +kernel
theorem dL_law_542 : decode cL_law 542 = .ok (.iconst 1, 1) := by decide +kernel
theorem dL_law_543 : decode cL_law 543 = .ok (.iadd, 1) := by decide +kernel
theorem dL_law_544 : decode cL_law 544 = .ok (.iaload, 1) := by decide +kernel
theorem dL_law_545 : decode cL_law 545 = .ok (.aload_n 0, 1) := by decide +kernel
theorem dL_law_546 : decode cL_law 546 = .ok (.iload_n 3, 1) := by decide +kernel
theorem dL_law_547 : decode cL_law 547 = .ok (.iconst 2, 1) := by decide +kernel
theorem dL_law_548 : decode cL_law 548 = .ok (.iadd, 1) := by decide +kernel
theorem dL_law_549 : decode cL_law 549 = .ok (.iaload, 1) := by decide +kernel
theorem dL_law_550 : decode cL_law 550 = .ok (.i2l, 1) := by decide +kernel
theorem dL_law_551 : decode cL_law 551 = .ok (.bipush 32, 2) := by decide +kernel
theorem dL_law_553 : decode cL_law 553 = .ok (.lshl, 1) := by decide +kernel
theorem dL_law_554 : decode cL_law 554 = .ok (.aload_n 0, 1) := by decide +kernel
theorem dL_law_555 : decode cL_law 555 = .ok (.iload_n 3, 1) := by decide +kernel
theorem dL_law_556 : decode cL_law 556 = .ok (.iconst 3, 1) := by decide +kernel
theorem dL_law_557 : decode cL_law 557 = .ok (.iadd, 1) := by decide +kernel
theorem dL_law_558 : decode cL_law 558 = .ok (.iaload, 1) := by decide +kernel
theorem dL_law_559 : decode cL_law 559 = .ok (.i2l, 1) := by decide +kernel
theorem dL_law_560 : decode cL_law 560 = .ok (.ldc2_w 64, 3) := by decide +kernel
theorem dL_law_563 : decode cL_law 563 = .ok (.land, 1) := by decide +kernel
theorem dL_law_564 : decode cL_law 564 = .ok (.lor, 1) := by decide +kernel
theorem dL_law_565 : decode cL_law 565 = .ok (.aload_n 0, 1) := by decide +kernel
theorem dL_law_566 : decode cL_law 566 = .ok (.iload_n 3, 1) := by decide +kernel
theorem dL_law_567 : decode cL_law 567 = .ok (.iconst 4, 1) := by decide +kernel
theorem dL_law_568 : decode cL_law 568 = .ok (.iadd, 1) := by decide +kernel
theorem dL_law_569 : decode cL_law 569 = .ok (.iaload, 1) := by decide +kernel
theorem dL_law_570 : decode cL_law 570 = .ok (.i2l, 1) := by decide +kernel
theorem dL_law_571 : decode cL_law 571 = .ok (.bipush 32, 2) := by decide +kernel
theorem dL_law_573 : decode cL_law 573 = .ok (.lshl, 1) := by decide +kernel
theorem dL_law_574 : decode cL_law 574 = .ok (.aload_n 0, 1) := by decide +kernel
theorem dL_law_575 : decode cL_law 575 = .ok (.iload_n 3, 1) := by decide +kernel
theorem dL_law_576 : decode cL_law 576 = .ok (.iconst 5, 1) := by decide +kernel
theorem dL_law_577 : decode cL_law 577 = .ok (.iadd, 1) := by decide +kernel
theorem dL_law_578 : decode cL_law 578 = .ok (.iaload, 1) := by decide +kernel
theorem dL_law_579 : decode cL_law 579 = .ok (.i2l, 1) := by decide +kernel
theorem dL_law_580 : decode cL_law 580 = .ok (.ldc2_w 64, 3) := by decide +kernel
theorem dL_law_583 : decode cL_law 583 = .ok (.land, 1) := by decide +kernel
theorem dL_law_584 : decode cL_law 584 = .ok (.lor, 1) := by decide +kernel
theorem dL_law_585 : decode cL_law 585 = .ok (.invokevirtual 71, 3) := by decide +kernel
theorem dL_law_588 : decode cL_law 588 = .ok (.aload_n 2, 1) := by decide +kernel
theorem dL_law_589 : decode cL_law 589 = .ok (.aload_n 0, 1) := by decide +kernel
theorem dL_law_590 : decode cL_law 590 = .ok (.iload_n 3, 1) := by decide +kernel
theorem dL_law_591 : decode cL_law 591 = .ok (.iconst 1, 1) := by decide +kernel
theorem dL_law_592 : decode cL_law 592 = .ok (.iadd, 1) := by decide +kernel
theorem dL_law_593 : decode cL_law 593 = .ok (.iaload, 1) := by decide +kernel
theorem dL_law_594 : decode cL_law 594 = .ok (.aload_n 0, 1) := by decide +kernel
theorem dL_law_595 : decode cL_law 595 = .ok (.iload_n 3, 1) := by decide +kernel
theorem dL_law_596 : decode cL_law 596 = .ok (.iconst 2, 1) := by decide +kernel
theorem dL_law_597 : decode cL_law 597 = .ok (.iadd, 1) := by decide +kernel
theorem dL_law_598 : decode cL_law 598 = .ok (.iaload, 1) := by decide +kernel
theorem dL_law_599 : decode cL_law 599 = .ok (.i2l, 1) := by decide +kernel
theorem dL_law_600 : decode cL_law 600 = .ok (.bipush 32, 2) := by decide +kernel
theorem dL_law_602 : decode cL_law 602 = .ok (.lshl, 1) := by decide +kernel
theorem dL_law_603 : decode cL_law 603 = .ok (.aload_n 0, 1) := by decide +kernel
theorem dL_law_604 : decode cL_law 604 = .ok (.iload_n 3, 1) := by decide +kernel
theorem dL_law_605 : decode cL_law 605 = .ok (.iconst 3, 1) := by decide +kernel
theorem dL_law_606 : decode cL_law 606 = .ok (.iadd, 1) := by decide +kernel
theorem dL_law_607 : decode cL_law 607 = .ok (.iaload, 1) := by decide +kernel
theorem dL_law_608 : decode cL_law 608 = .ok (.i2l, 1) := by decide +kernel
theorem dL_law_609 : decode cL_law 609 = .ok (.ldc2_w 64, 3) := by decide +kernel
theorem dL_law_612 : decode cL_law 612 = .ok (.land, 1) := by decide +kernel
theorem dL_law_613 : decode cL_law 613 = .ok (.lor, 1) := by decide +kernel
theorem dL_law_614 : decode cL_law 614 = .ok (.aload_n 0, 1) := by decide +kernel
theorem dL_law_615 : decode cL_law 615 = .ok (.iload_n 3, 1) := by decide +kernel
theorem dL_law_616 : decode cL_law 616 = .ok (.iconst 4, 1) := by decide +kernel
theorem dL_law_617 : decode cL_law 617 = .ok (.iadd, 1) := by decide +kernel
theorem dL_law_618 : decode cL_law 618 = .ok (.iaload, 1) := by decide +kernel
theorem dL_law_619 : decode cL_law 619 = .ok (.i2l, 1) := by decide +kernel
theorem dL_law_620 : decode cL_law 620 = .ok (.bipush 32, 2) := by decide +kernel
theorem dL_law_622 : decode cL_law 622 = .ok (.lshl, 1) := by decide +kernel
theorem dL_law_623 : decode cL_law 623 = .ok (.aload_n 0, 1) := by decide +kernel
theorem dL_law_624 : decode cL_law 624 = .ok (.iload_n 3, 1) := by decide +kernel
theorem dL_law_625 : decode cL_law 625 = .ok (.iconst 5, 1) := by decide +kernel
theorem dL_law_626 : decode cL_law 626 = .ok (.iadd, 1) := by decide +kernel
theorem dL_law_627 : decode cL_law 627 = .ok (.iaload, 1) := by decide +kernel
theorem dL_law_628 : decode cL_law 628 = .ok (.i2l, 1) := by decide +kernel
theorem dL_law_629 : decode cL_law 629 = .ok (.ldc2_w 64, 3) := by decide +kernel
theorem dL_law_632 : decode cL_law 632 = .ok (.land, 1) := by decide +kernel
theorem dL_law_633 : decode cL_law 633 = .ok (.lor, 1) := by decide +kernel
theorem dL_law_634 : decode cL_law 634 = .ok (.invokevirtual 74, 3) := by decide +kernel
theorem dL_law_637 : decode cL_law 637 = .ok (.if_icmp .eq 197, 3) := by decide +kernel
theorem dL_law_640 : decode cL_law 640 = .ok (.iconst 0, 1) := by decide +kernel
theorem dL_law_641 : decode cL_law 641 = .ok (.ireturn, 1) := by decide +kernel
theorem dL_law_642 : decode cL_law 642 = .ok (.aload_n 1, 1) := by decide +kernel
theorem dL_law_643 : decode cL_law 643 = .ok (.aload_n 0, 1) := by decide +kernel
theorem dL_law_644 : decode cL_law 644 = .ok (.iload_n 3, 1) := by decide +kernel
theorem dL_law_645 : decode cL_law 645 = .ok (.iconst 1, 1) := by decide +kernel
theorem dL_law_646 : decode cL_law 646 = .ok (.iadd, 1) := by decide +kernel
theorem dL_law_647 : decode cL_law 647 = .ok (.iaload, 1) := by decide +kernel
theorem dL_law_648 : decode cL_law 648 = .ok (.aload_n 0, 1) := by decide +kernel
theorem dL_law_649 : decode cL_law 649 = .ok (.iload_n 3, 1) := by decide +kernel
theorem dL_law_650 : decode cL_law 650 = .ok (.iconst 2, 1) := by decide +kernel
theorem dL_law_651 : decode cL_law 651 = .ok (.iadd, 1) := by decide +kernel
theorem dL_law_652 : decode cL_law 652 = .ok (.iaload, 1) := by decide +kernel
theorem dL_law_653 : decode cL_law 653 = .ok (.invokevirtual 75, 3) := by decide +kernel
theorem dL_law_656 : decode cL_law 656 = .ok (.aload_n 2, 1) := by decide +kernel
theorem dL_law_657 : decode cL_law 657 = .ok (.aload_n 0, 1) := by decide +kernel
theorem dL_law_658 : decode cL_law 658 = .ok (.iload_n 3, 1) := by decide +kernel
theorem dL_law_659 : decode cL_law 659 = .ok (.iconst 1, 1) := by decide +kernel
theorem dL_law_660 : decode cL_law 660 = .ok (.iadd, 1) := by decide +kernel
theorem dL_law_661 : decode cL_law 661 = .ok (.iaload, 1) := by decide +kernel
theorem dL_law_662 : decode cL_law 662 = .ok (.aload_n 0, 1) := by decide +kernel
theorem dL_law_663 : decode cL_law 663 = .ok (.iload_n 3, 1) := by decide +kernel
theorem dL_law_664 : decode cL_law 664 = .ok (.iconst 2, 1) := by decide +kernel
theorem dL_law_665 : decode cL_law 665 = .ok (.iadd, 1) := by decide +kernel
theorem dL_law_666 : decode cL_law 666 = .ok (.iaload, 1) := by decide +kernel
theorem dL_law_667 : decode cL_law 667 = .ok (.invokevirtual 78, 3) := by decide +kernel
theorem dL_law_670 : decode cL_law 670 = .ok (.lcmp, 1) := by decide +kernel
theorem dL_law_671 : decode cL_law 671 = .ok (.ifCond .eq 163, 3) := by decide +kernel
theorem dL_law_674 : decode cL_law 674 = .ok (.iconst 0, 1) := by decide +kernel
theorem dL_law_675 : decode cL_law 675 = .ok (.ireturn, 1) := by decide +kernel
theorem dL_law_676 : decode cL_law 676 = .ok (.aload_n 1, 1) := by decide +kernel
theorem dL_law_677 : decode cL_law 677 = .ok (.aload_n 0, 1) := by decide +kernel
theorem dL_law_678 : decode cL_law 678 = .ok (.iload_n 3, 1) := by decide +kernel
theorem dL_law_679 : decode cL_law 679 = .ok (.iconst 1, 1) := by decide +kernel
theorem dL_law_680 : decode cL_law 680 = .ok (.iadd, 1) := by decide +kernel
theorem dL_law_681 : decode cL_law 681 = .ok (.iaload, 1) := by decide +kernel
theorem dL_law_682 : decode cL_law 682 = .ok (.aload_n 0, 1) := by decide +kernel
theorem dL_law_683 : decode cL_law 683 = .ok (.iload_n 3, 1) := by decide +kernel
theorem dL_law_684 : decode cL_law 684 = .ok (.iconst 2, 1) := by decide +kernel
theorem dL_law_685 : decode cL_law 685 = .ok (.iadd, 1) := by decide +kernel
theorem dL_law_686 : decode cL_law 686 = .ok (.iaload, 1) := by decide +kernel
theorem dL_law_687 : decode cL_law 687 = .ok (.i2l, 1) := by decide +kernel
theorem dL_law_688 : decode cL_law 688 = .ok (.bipush 32, 2) := by decide +kernel
theorem dL_law_690 : decode cL_law 690 = .ok (.lshl, 1) := by decide +kernel
theorem dL_law_691 : decode cL_law 691 = .ok (.aload_n 0, 1) := by decide +kernel
theorem dL_law_692 : decode cL_law 692 = .ok (.iload_n 3, 1) := by decide +kernel
theorem dL_law_693 : decode cL_law 693 = .ok (.iconst 3, 1) := by decide +kernel
theorem dL_law_694 : decode cL_law 694 = .ok (.iadd, 1) := by decide +kernel
theorem dL_law_695 : decode cL_law 695 = .ok (.iaload, 1) := by decide +kernel
theorem dL_law_696 : decode cL_law 696 = .ok (.i2l, 1) := by decide +kernel
theorem dL_law_697 : decode cL_law 697 = .ok (.ldc2_w 64, 3) := by decide +kernel
theorem dL_law_700 : decode cL_law 700 = .ok (.land, 1) := by decide +kernel
theorem dL_law_701 : decode cL_law 701 = .ok (.lor, 1) := by decide +kernel
theorem dL_law_702 : decode cL_law 702 = .ok (.aload_n 0, 1) := by decide +kernel
theorem dL_law_703 : decode cL_law 703 = .ok (.iload_n 3, 1) := by decide +kernel
theorem dL_law_704 : decode cL_law 704 = .ok (.iconst 4, 1) := by decide +kernel
theorem dL_law_705 : decode cL_law 705 = .ok (.iadd, 1) := by decide +kernel
theorem dL_law_706 : decode cL_law 706 = .ok (.iaload, 1) := by decide +kernel
theorem dL_law_707 : decode cL_law 707 = .ok (.aload_n 0, 1) := by decide +kernel
theorem dL_law_708 : decode cL_law 708 = .ok (.iload_n 3, 1) := by decide +kernel
theorem dL_law_709 : decode cL_law 709 = .ok (.iconst 5, 1) := by decide +kernel
theorem dL_law_710 : decode cL_law 710 = .ok (.iadd, 1) := by decide +kernel
theorem dL_law_711 : decode cL_law 711 = .ok (.iaload, 1) := by decide +kernel
theorem dL_law_712 : decode cL_law 712 = .ok (.i2l, 1) := by decide +kernel
theorem dL_law_713 : decode cL_law 713 = .ok (.bipush 32, 2) := by decide +kernel
theorem dL_law_715 : decode cL_law 715 = .ok (.lshl, 1) := by decide +kernel
theorem dL_law_716 : decode cL_law 716 = .ok (.aload_n 0, 1) := by decide +kernel
theorem dL_law_717 : decode cL_law 717 = .ok (.iload_n 3, 1) := by decide +kernel
theorem dL_law_718 : decode cL_law 718 = .ok (.bipush 6, 2) := by decide +kernel
theorem dL_law_720 : decode cL_law 720 = .ok (.iadd, 1) := by decide +kernel
theorem dL_law_721 : decode cL_law 721 = .ok (.iaload, 1) := by decide +kernel
theorem dL_law_722 : decode cL_law 722 = .ok (.i2l, 1) := by decide +kernel
theorem dL_law_723 : decode cL_law 723 = .ok (.ldc2_w 64, 3) := by decide +kernel
theorem dL_law_726 : decode cL_law 726 = .ok (.land, 1) := by decide +kernel
theorem dL_law_727 : decode cL_law 727 = .ok (.lor, 1) := by decide +kernel
theorem dL_law_728 : decode cL_law 728 = .ok (.invokevirtual 79, 3) := by decide +kernel
theorem dL_law_731 : decode cL_law 731 = .ok (.aload_n 2, 1) := by decide +kernel
theorem dL_law_732 : decode cL_law 732 = .ok (.aload_n 0, 1) := by decide +kernel
theorem dL_law_733 : decode cL_law 733 = .ok (.iload_n 3, 1) := by decide +kernel
theorem dL_law_734 : decode cL_law 734 = .ok (.iconst 1, 1) := by decide +kernel
theorem dL_law_735 : decode cL_law 735 = .ok (.iadd, 1) := by decide +kernel
theorem dL_law_736 : decode cL_law 736 = .ok (.iaload, 1) := by decide +kernel
theorem dL_law_737 : decode cL_law 737 = .ok (.aload_n 0, 1) := by decide +kernel
theorem dL_law_738 : decode cL_law 738 = .ok (.iload_n 3, 1) := by decide +kernel
theorem dL_law_739 : decode cL_law 739 = .ok (.iconst 2, 1) := by decide +kernel
theorem dL_law_740 : decode cL_law 740 = .ok (.iadd, 1) := by decide +kernel
theorem dL_law_741 : decode cL_law 741 = .ok (.iaload, 1) := by decide +kernel
theorem dL_law_742 : decode cL_law 742 = .ok (.i2l, 1) := by decide +kernel
theorem dL_law_743 : decode cL_law 743 = .ok (.bipush 32, 2) := by decide +kernel
theorem dL_law_745 : decode cL_law 745 = .ok (.lshl, 1) := by decide +kernel
theorem dL_law_746 : decode cL_law 746 = .ok (.aload_n 0, 1) := by decide +kernel
theorem dL_law_747 : decode cL_law 747 = .ok (.iload_n 3, 1) := by decide +kernel
theorem dL_law_748 : decode cL_law 748 = .ok (.iconst 3, 1) := by decide +kernel
theorem dL_law_749 : decode cL_law 749 = .ok (.iadd, 1) := by decide +kernel
theorem dL_law_750 : decode cL_law 750 = .ok (.iaload, 1) := by decide +kernel
theorem dL_law_751 : decode cL_law 751 = .ok (.i2l, 1) := by decide +kernel
theorem dL_law_752 : decode cL_law 752 = .ok (.ldc2_w 64, 3) := by decide +kernel
theorem dL_law_755 : decode cL_law 755 = .ok (.land, 1) := by decide +kernel
theorem dL_law_756 : decode cL_law 756 = .ok (.lor, 1) := by decide +kernel
theorem dL_law_757 : decode cL_law 757 = .ok (.aload_n 0, 1) := by decide +kernel
theorem dL_law_758 : decode cL_law 758 = .ok (.iload_n 3, 1) := by decide +kernel
theorem dL_law_759 : decode cL_law 759 = .ok (.iconst 4, 1) := by decide +kernel
theorem dL_law_760 : decode cL_law 760 = .ok (.iadd, 1) := by decide +kernel
theorem dL_law_761 : decode cL_law 761 = .ok (.iaload, 1) := by decide +kernel
theorem dL_law_762 : decode cL_law 762 = .ok (.aload_n 0, 1) := by decide +kernel
theorem dL_law_763 : decode cL_law 763 = .ok (.iload_n 3, 1) := by decide +kernel
theorem dL_law_764 : decode cL_law 764 = .ok (.iconst 5, 1) := by decide +kernel
theorem dL_law_765 : decode cL_law 765 = .ok (.iadd, 1) := by decide +kernel
theorem dL_law_766 : decode cL_law 766 = .ok (.iaload, 1) := by decide +kernel
theorem dL_law_767 : decode cL_law 767 = .ok (.i2l, 1) := by decide +kernel
theorem dL_law_768 : decode cL_law 768 = .ok (.bipush 32, 2) := by decide +kernel
theorem dL_law_770 : decode cL_law 770 = .ok (.lshl, 1) := by decide +kernel
theorem dL_law_771 : decode cL_law 771 = .ok (.aload_n 0, 1) := by decide +kernel
theorem dL_law_772 : decode cL_law 772 = .ok (.iload_n 3, 1) := by decide +kernel
theorem dL_law_773 : decode cL_law 773 = .ok (.bipush 6, 2) := by decide +kernel
theorem dL_law_775 : decode cL_law 775 = .ok (.iadd, 1) := by decide +kernel
theorem dL_law_776 : decode cL_law 776 = .ok (.iaload, 1) := by decide +kernel
theorem dL_law_777 : decode cL_law 777 = .ok (.i2l, 1) := by decide +kernel
theorem dL_law_778 : decode cL_law 778 = .ok (.ldc2_w 64, 3) := by decide +kernel
theorem dL_law_781 : decode cL_law 781 = .ok (.land, 1) := by decide +kernel
theorem dL_law_782 : decode cL_law 782 = .ok (.lor, 1) := by decide +kernel
theorem dL_law_783 : decode cL_law 783 = .ok (.invokevirtual 83, 3) := by decide +kernel
theorem dL_law_786 : decode cL_law 786 = .ok (.if_icmp .eq 48, 3) := by decide +kernel
theorem dL_law_789 : decode cL_law 789 = .ok (.iconst 0, 1) := by decide +kernel
theorem dL_law_790 : decode cL_law 790 = .ok (.ireturn, 1) := by decide +kernel
theorem dL_law_791 : decode cL_law 791 = .ok (.aload_n 1, 1) := by decide +kernel
theorem dL_law_792 : decode cL_law 792 = .ok (.aload_n 0, 1) := by decide +kernel
theorem dL_law_793 : decode cL_law 793 = .ok (.iload_n 3, 1) := by decide +kernel
theorem dL_law_794 : decode cL_law 794 = .ok (.iconst 1, 1) := by decide +kernel
theorem dL_law_795 : decode cL_law 795 = .ok (.iadd, 1) := by decide +kernel
theorem dL_law_796 : decode cL_law 796 = .ok (.iaload, 1) := by decide +kernel
theorem dL_law_797 : decode cL_law 797 = .ok (.aload_n 0, 1) := by decide +kernel
theorem dL_law_798 : decode cL_law 798 = .ok (.iload_n 3, 1) := by decide +kernel
theorem dL_law_799 : decode cL_law 799 = .ok (.iconst 2, 1) := by decide +kernel
theorem dL_law_800 : decode cL_law 800 = .ok (.iadd, 1) := by decide +kernel
theorem dL_law_801 : decode cL_law 801 = .ok (.iaload, 1) := by decide +kernel
theorem dL_law_802 : decode cL_law 802 = .ok (.aload_n 0, 1) := by decide +kernel
theorem dL_law_803 : decode cL_law 803 = .ok (.iload_n 3, 1) := by decide +kernel
theorem dL_law_804 : decode cL_law 804 = .ok (.iconst 3, 1) := by decide +kernel
theorem dL_law_805 : decode cL_law 805 = .ok (.iadd, 1) := by decide +kernel
theorem dL_law_806 : decode cL_law 806 = .ok (.iaload, 1) := by decide +kernel
theorem dL_law_807 : decode cL_law 807 = .ok (.invokevirtual 84, 3) := by decide +kernel
theorem dL_law_810 : decode cL_law 810 = .ok (.aload_n 2, 1) := by decide +kernel
theorem dL_law_811 : decode cL_law 811 = .ok (.aload_n 0, 1) := by decide +kernel
theorem dL_law_812 : decode cL_law 812 = .ok (.iload_n 3, 1) := by decide +kernel
theorem dL_law_813 : decode cL_law 813 = .ok (.iconst 1, 1) := by decide +kernel
theorem dL_law_814 : decode cL_law 814 = .ok (.iadd, 1) := by decide +kernel
theorem dL_law_815 : decode cL_law 815 = .ok (.iaload, 1) := by decide +kernel
theorem dL_law_816 : decode cL_law 816 = .ok (.aload_n 0, 1) := by decide +kernel
theorem dL_law_817 : decode cL_law 817 = .ok (.iload_n 3, 1) := by decide +kernel
theorem dL_law_818 : decode cL_law 818 = .ok (.iconst 2, 1) := by decide +kernel
theorem dL_law_819 : decode cL_law 819 = .ok (.iadd, 1) := by decide +kernel
theorem dL_law_820 : decode cL_law 820 = .ok (.iaload, 1) := by decide +kernel
theorem dL_law_821 : decode cL_law 821 = .ok (.aload_n 0, 1) := by decide +kernel
theorem dL_law_822 : decode cL_law 822 = .ok (.iload_n 3, 1) := by decide +kernel
theorem dL_law_823 : decode cL_law 823 = .ok (.iconst 3, 1) := by decide +kernel
theorem dL_law_824 : decode cL_law 824 = .ok (.iadd, 1) := by decide +kernel
theorem dL_law_825 : decode cL_law 825 = .ok (.iaload, 1) := by decide +kernel
theorem dL_law_826 : decode cL_law 826 = .ok (.invokevirtual 87, 3) := by decide +kernel
theorem dL_law_829 : decode cL_law 829 = .ok (.if_icmp .eq 5, 3) := by decide +kernel
theorem dL_law_832 : decode cL_law 832 = .ok (.iconst 0, 1) := by decide +kernel
theorem dL_law_833 : decode cL_law 833 = .ok (.ireturn, 1) := by decide +kernel
theorem dL_law_834 : decode cL_law 834 = .ok (.iinc 3 7, 3) := by decide +kernel
theorem dL_law_837 : decode cL_law 837 = .ok (.goto (-819), 3) := by decide +kernel
theorem dL_law_840 : decode cL_law 840 = .ok (.iconst 1, 1) := by decide +kernel
theorem dL_law_841 : decode cL_law 841 = .ok (.ireturn, 1) := by decide +kernel
