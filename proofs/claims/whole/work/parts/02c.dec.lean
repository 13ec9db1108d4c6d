theorem dX8_word_51 : decode cX8_word 51 = .ok (.aload_n 0, 1) := by decide +kernel
theorem dX8_word_52 : decode cX8_word 52 = .ok (.getfield 132, 3) := by decide +kernel
theorem dX8_word_55 : decode cX8_word 55 = .ok (.ifCond .ne 59, 3) := by decide +kernel
theorem dX8_word_58 : decode cX8_word 58 = .ok (.iload_n 3, 1) := by decide +kernel
theorem dX8_word_59 : decode cX8_word 59 = .ok (.bipush 8, 2) := by decide +kernel
theorem dX8_word_61 : decode cX8_word 61 = .ok (.if_icmp .ne 14, 3) := by decide +kernel
theorem dX8_word_64 : decode cX8_word 64 = .ok (.aload_n 0, 1) := by decide +kernel
theorem dX8_word_65 : decode cX8_word 65 = .ok (.iconst 1, 1) := by decide +kernel
theorem dX8_word_66 : decode cX8_word 66 = .ok (.aload_n 0, 1) := by decide +kernel
theorem dX8_word_67 : decode cX8_word 67 = .ok (.getfield 138, 3) := by decide +kernel
theorem dX8_word_70 : decode cX8_word 70 = .ok (.invokevirtual 148, 3) := by decide +kernel
theorem dX8_word_73 : decode cX8_word 73 = .ok (.lconst 0, 1) := by decide +kernel
theorem dX8_word_74 : decode cX8_word 74 = .ok (.lreturn, 1) := by decide +kernel
theorem dX8_word_75 : decode cX8_word 75 = .ok (.ldc2_w 156, 3) := by decide +kernel
theorem dX8_word_78 : decode cX8_word 78 = .ok (.lload_n 1, 1) := by decide +kernel
theorem dX8_word_79 : decode cX8_word 79 = .ok (.lmul, 1) := by decide +kernel
theorem dX8_word_80 : decode cX8_word 80 = .ok (.aload_n 0, 1) := by decide +kernel
theorem dX8_word_81 : decode cX8_word 81 = .ok (.getfield 7, 3) := by decide +kernel
theorem dX8_word_84 : decode cX8_word 84 = .ok (.aload_n 0, 1) := by decide +kernel
theorem dX8_word_85 : decode cX8_word 85 = .ok (.getfield 138, 3) := by decide +kernel
theorem dX8_word_88 : decode cX8_word 88 = .ok (.iaload, 1) := by decide +kernel
theorem dX8_word_89 : decode cX8_word 89 = .ok (.i2l, 1) := by decide +kernel
theorem dX8_word_90 : decode cX8_word 90 = .ok (.ladd, 1) := by decide +kernel
theorem dX8_word_91 : decode cX8_word 91 = .ok (.ldc2_w 158, 3) := by decide +kernel
theorem dX8_word_94 : decode cX8_word 94 = .ok (.lsub, 1) := by decide +kernel
theorem dX8_word_95 : decode cX8_word 95 = .ok (.lconst 1, 1) := by decide +kernel
theorem dX8_word_96 : decode cX8_word 96 = .ok (.ladd, 1) := by decide +kernel
theorem dX8_word_97 : decode cX8_word 97 = .ok (.lstore_n 1, 1) := by decide +kernel
theorem dX8_word_98 : decode cX8_word 98 = .ok (.iinc 3 1, 3) := by decide +kernel
theorem dX8_word_101 : decode cX8_word 101 = .ok (.aload_n 0, 1) := by decide +kernel
theorem dX8_word_102 : decode cX8_word 102 = .ok (.dup, 1) := by decide +kernel
theorem dX8_word_103 : decode cX8_word 103 = .ok (.getfield 138, 3) := by decide +kernel
theorem dX8_word_106 : decode cX8_word 106 = .ok (.iconst 1, 1) := by decide +kernel
theorem dX8_word_107 : decode cX8_word 107 = .ok (.iadd, 1) := by decide +kernel
theorem dX8_word_108 : decode cX8_word 108 = .ok (.putfield 138, 3) := by decide +kernel
theorem dX8_word_111 : decode cX8_word 111 = .ok (.goto (-86), 3) := by decide +kernel
theorem dX8_word_114 : decode cX8_word 114 = .ok (.lload_n 1, 1) := by decide +kernel
theorem dX8_word_115 : decode cX8_word 115 = .ok (.lreturn, 1) := by decide +kernel
theorem dX8_whole_0 : decode cX8_whole 0 = .ok (.aload_n 0, 1) := by decide +kernel
theorem dX8_whole_1 : decode cX8_whole 1 = .ok (.invokevirtual 144, 3) := by decide +kernel
theorem dX8_whole_4 : decode cX8_whole 4 = .ok (.invokestatic 152, 3) := by decide +kernel
theorem dX8_whole_7 : decode cX8_whole 7 = .ok (.ifCond .ne 14, 3) := by decide +kernel
theorem dX8_whole_10 : decode cX8_whole 10 = .ok (.aload_n 0, 1) := by decide +kernel
theorem dX8_whole_11 : decode cX8_whole 11 = .ok (.iconst 1, 1) := by decide +kernel
theorem dX8_whole_12 : decode cX8_whole 12 = .ok (.aload_n 0, 1) := by decide +kernel
theorem dX8_whole_13 : decode cX8_whole 13 = .ok (.getfield 138, 3) := by decide +kernel
theorem dX8_whole_16 : decode cX8_whole 16 = .ok (.invokevirtual 148, 3) := by decide +kernel
theorem dX8_whole_19 : decode cX8_whole 19 = .ok (.lconst 0, 1) := by decide +kernel
theorem dX8_whole_20 : decode cX8_whole 20 = .ok (.lreturn, 1) := by decide +kernel
theorem dX8_whole_21 : decode cX8_whole 21 = .ok (.lconst 0, 1) := by decide +kernel
theorem dX8_whole_22 : decode cX8_whole 22 = .ok (.lstore_n 1, 1) := by decide +kernel
theorem dX8_whole_23 : decode cX8_whole 23 = .ok (.iconst 0, 1) := by decide +kernel
theorem dX8_whole_24 : decode cX8_whole 24 = .ok (.istore_n 3, 1) := by decide +kernel
theorem dX8_whole_25 : decode cX8_whole 25 = .ok (.aload_n 0, 1) := by decide +kernel
theorem dX8_whole_26 : decode cX8_whole 26 = .ok (.getfield 138, 3) := by decide +kernel
theorem dX8_whole_29 : decode cX8_whole 29 = .ok (.aload_n 0, 1) := by decide +kernel
theorem dX8_whole_30 : decode cX8_whole 30 = .ok (.getfield 141, 3) := by decide +kernel
theorem dX8_whole_33 : decode cX8_whole 33 = .ok (.if_icmp .ge 63, 3) := by decide +kernel
theorem dX8_whole_36 : decode cX8_whole 36 = .ok (.aload_n 0, 1) := by decide +kernel
theorem dX8_whole_37 : decode cX8_whole 37 = .ok (.getfield 7, 3) := by decide +kernel
theorem dX8_whole_40 : decode cX8_whole 40 = .ok (.aload_n 0, 1) := by decide +kernel
theorem dX8_whole_41 : decode cX8_whole 41 = .ok (.getfield 138, 3) := by decide +kernel
theorem dX8_whole_44 : decode cX8_whole 44 = .ok (.iaload, 1) := by decide +kernel
theorem dX8_whole_45 : decode cX8_whole 45 = .ok (.invokestatic 152, 3) := by decide +kernel
theorem dX8_whole_48 : decode cX8_whole 48 = .ok (.ifCond .eq 48, 3) := by decide +kernel
theorem dX8_whole_51 : decode cX8_whole 51 = .ok (.iload_n 3, 1) := by decide +kernel
theorem dX8_whole_52 : decode cX8_whole 52 = .ok (.bipush 8, 2) := by decide +kernel
theorem dX8_whole_54 : decode cX8_whole 54 = .ok (.if_icmp .ge 26, 3) := by decide +kernel
theorem dX8_whole_57 : decode cX8_whole 57 = .ok (.ldc2_w 156, 3) := by decide +kernel
theorem dX8_whole_60 : decode cX8_whole 60 = .ok (.lload_n 1, 1) := by decide +kernel
theorem dX8_whole_61 : decode cX8_whole 61 = .ok (.lmul, 1) := by decide +kernel
theorem dX8_whole_62 : decode cX8_whole 62 = .ok (.aload_n 0, 1) := by decide +kernel
theorem dX8_whole_63 : decode cX8_whole 63 = .ok (.getfield 7, 3) := by decide +kernel
theorem dX8_whole_66 : decode cX8_whole 66 = .ok (.aload_n 0, 1) := by decide +kernel
theorem dX8_whole_67 : decode cX8_whole 67 = .ok (.getfield 138, 3) := by decide +kernel
theorem dX8_whole_70 : decode cX8_whole 70 = .ok (.iaload, 1) := by decide +kernel
theorem dX8_whole_71 : decode cX8_whole 71 = .ok (.i2l, 1) := by decide +kernel
theorem dX8_whole_72 : decode cX8_whole 72 = .ok (.ladd, 1) := by decide +kernel
theorem dX8_whole_73 : decode cX8_whole 73 = .ok (.ldc2_w 158, 3) := by decide +kernel
theorem dX8_whole_76 : decode cX8_whole 76 = .ok (.lsub, 1) := by decide +kernel
theorem dX8_whole_77 : decode cX8_whole 77 = .ok (.lconst 1, 1) := by decide +kernel
theorem dX8_whole_78 : decode cX8_whole 78 = .ok (.ladd, 1) := by decide +kernel
theorem dX8_whole_79 : decode cX8_whole 79 = .ok (.lstore_n 1, 1) := by decide +kernel
theorem dX8_whole_80 : decode cX8_whole 80 = .ok (.iinc 3 1, 3) := by decide +kernel
theorem dX8_whole_83 : decode cX8_whole 83 = .ok (.aload_n 0, 1) := by decide +kernel
theorem dX8_whole_84 : decode cX8_whole 84 = .ok (.dup, 1) := by decide +kernel
theorem dX8_whole_85 : decode cX8_whole 85 = .ok (.getfield 138, 3) := by decide +kernel
theorem dX8_whole_88 : decode cX8_whole 88 = .ok (.iconst 1, 1) := by decide +kernel
theorem dX8_whole_89 : decode cX8_whole 89 = .ok (.iadd, 1) := by decide +kernel
theorem dX8_whole_90 : decode cX8_whole 90 = .ok (.putfield 138, 3) := by decide +kernel
theorem dX8_whole_93 : decode cX8_whole 93 = .ok (.goto (-68), 3) := by decide +kernel
theorem dX8_whole_96 : decode cX8_whole 96 = .ok (.iload_n 3, 1) := by decide +kernel
theorem dX8_whole_97 : decode cX8_whole 97 = .ok (.bipush 8, 2) := by decide +kernel
theorem dX8_whole_99 : decode cX8_whole 99 = .ok (.if_icmp .le 9, 3) := by decide +kernel
theorem dX8_whole_102 : decode cX8_whole 102 = .ok (.ldc2_w 160, 3) := by decide +kernel
theorem dX8_whole_105 : decode cX8_whole 105 = .ok (.goto 4, 3) := by decide +kernel
theorem dX8_whole_108 : decode cX8_whole 108 = .ok (.lload_n 1, 1) := by decide +kernel
theorem dX8_whole_109 : decode cX8_whole 109 = .ok (.lreturn, 1) := by decide +kernel
theorem dX8_packed_0 : decode cX8_packed 0 = .ok (.ldc2_w 156, 3) := by decide +kernel
theorem dX8_packed_3 : decode cX8_packed 3 = .ok (.ldc2_w 156, 3) := by decide +kernel
theorem dX8_packed_6 : decode cX8_packed 6 = .ok (.iload_n 0, 1) := by decide +kernel
theorem dX8_packed_7 : decode cX8_packed 7 = .ok (.bipush 97, 2) := by decide +kernel
theorem dX8_packed_9 : decode cX8_packed 9 = .ok (.isub, 1) := by decide +kernel
theorem dX8_packed_10 : decode cX8_packed 10 = .ok (.i2l, 1) := by decide +kernel
theorem dX8_packed_11 : decode cX8_packed 11 = .ok (.lconst 1, 1) := by decide +kernel
theorem dX8_packed_12 : decode cX8_packed 12 = .ok (.ladd, 1) := by decide +kernel
theorem dX8_packed_13 : decode cX8_packed 13 = .ok (.lmul, 1) := by decide +kernel
theorem dX8_packed_14 : decode cX8_packed 14 = .ok (.iload_n 1, 1) := by decide +kernel
theorem dX8_packed_15 : decode cX8_packed 15 = .ok (.i2l, 1) := by decide +kernel
theorem dX8_packed_16 : decode cX8_packed 16 = .ok (.ladd, 1) := by decide +kernel
theorem dX8_packed_17 : decode cX8_packed 17 = .ok (.ldc2_w 158, 3) := by decide +kernel
theorem dX8_packed_20 : decode cX8_packed 20 = .ok (.lsub, 1) := by decide +kernel
theorem dX8_packed_21 : decode cX8_packed 21 = .ok (.lconst 1, 1) := by decide +kernel
theorem dX8_packed_22 : decode cX8_packed 22 = .ok (.ladd, 1) := by decide +kernel
theorem dX8_packed_23 : decode cX8_packed 23 = .ok (.lmul, 1) := by decide +kernel
theorem dX8_packed_24 : decode cX8_packed 24 = .ok (.iload_n 2, 1) := by decide +kernel
theorem dX8_packed_25 : decode cX8_packed 25 = .ok (.i2l, 1) := by decide +kernel
theorem dX8_packed_26 : decode cX8_packed 26 = .ok (.ladd, 1) := by decide +kernel
theorem dX8_packed_27 : decode cX8_packed 27 = .ok (.ldc2_w 158, 3) := by decide +kernel
theorem dX8_packed_30 : decode cX8_packed 30 = .ok (.lsub, 1) := by decide +kernel
theorem dX8_packed_31 : decode cX8_packed 31 = .ok (.lconst 1, 1) := by decide +kernel
theorem dX8_packed_32 : decode cX8_packed 32 = .ok (.ladd, 1) := by decide +kernel
theorem dX8_packed_33 : decode cX8_packed 33 = .ok (.lstore 4, 2) := by decide +kernel
theorem dX8_packed_35 : decode cX8_packed 35 = .ok (.iload_n 3, 1) := by decide +kernel
theorem dX8_packed_36 : decode cX8_packed 36 = .ok (.bipush 32, 2) := by decide +kernel
theorem dX8_packed_38 : decode cX8_packed 38 = .ok (.if_icmp .ne 8, 3) := by decide +kernel
theorem dX8_packed_41 : decode cX8_packed 41 = .ok (.lload 4, 2) := by decide +kernel
theorem dX8_packed_43 : decode cX8_packed 43 = .ok (.goto 18, 3) := by decide +kernel
theorem dX8_packed_46 : decode cX8_packed 46 = .ok (.ldc2_w 156, 3) := by decide +kernel
theorem dX8_packed_49 : decode cX8_packed 49 = .ok (.lload 4, 2) := by decide +kernel
theorem dX8_packed_51 : decode cX8_packed 51 = .ok (.lmul, 1) := by decide +kernel
theorem dX8_packed_52 : decode cX8_packed 52 = .ok (.iload_n 3, 1) := by decide +kernel
theorem dX8_packed_53 : decode cX8_packed 53 = .ok (.i2l, 1) := by decide +kernel
theorem dX8_packed_54 : decode cX8_packed 54 = .ok (.ladd, 1) := by decide +kernel
theorem dX8_packed_55 : decode cX8_packed 55 = .ok (.ldc2_w 158, 3) := by decide +kernel
theorem dX8_packed_58 : decode cX8_packed 58 = .ok (.lsub, 1) := by decide +kernel
theorem dX8_packed_59 : decode cX8_packed 59 = .ok (.lconst 1, 1) := by decide +kernel
theorem dX8_packed_60 : decode cX8_packed 60 = .ok (.ladd, 1) := by decide +kernel
theorem dX8_packed_61 : decode cX8_packed 61 = .ok (.lreturn, 1) := by decide +kernel
theorem dX8_isOwn_0 : decode cX8_isOwn 0 = .ok (.lload_n 1, 1) := by decide +kernel
theorem dX8_isOwn_1 : decode cX8_isOwn 1 = .ok (.aload_n 0, 1) := by decide +kernel
theorem dX8_isOwn_2 : decode cX8_isOwn 2 = .ok (.getfield 21, 3) := by decide +kernel
theorem dX8_isOwn_5 : decode cX8_isOwn 5 = .ok (.lcmp, 1) := by decide +kernel
theorem dX8_isOwn_6 : decode cX8_isOwn 6 = .ok (.ifCond .eq 39, 3) := by decide +kernel
theorem dX8_isOwn_9 : decode cX8_isOwn 9 = .ok (.lload_n 1, 1) := by decide +kernel
theorem dX8_isOwn_10 : decode cX8_isOwn 10 = .ok (.aload_n 0, 1) := by decide +kernel
theorem dX8_isOwn_11 : decode cX8_isOwn 11 = .ok (.getfield 25, 3) := by decide +kernel
theorem dX8_isOwn_14 : decode cX8_isOwn 14 = .ok (.lcmp, 1) := by decide +kernel
theorem dX8_isOwn_15 : decode cX8_isOwn 15 = .ok (.ifCond .eq 30, 3) := by decide +kernel
theorem dX8_isOwn_18 : decode cX8_isOwn 18 = .ok (.lload_n 1, 1) := by decide +kernel
theorem dX8_isOwn_19 : decode cX8_isOwn 19 = .ok (.aload_n 0, 1) := by decide +kernel
theorem dX8_isOwn_20 : decode cX8_isOwn 20 = .ok (.getfield 28, 3) := by decide +kernel
theorem dX8_isOwn_23 : decode cX8_isOwn 23 = .ok (.lcmp, 1) := by decide +kernel
theorem dX8_isOwn_24 : decode cX8_isOwn 24 = .ok (.ifCond .eq 21, 3) := by decide +kernel
theorem dX8_isOwn_27 : decode cX8_isOwn 27 = .ok (.lload_n 1, 1) := by decide +kernel
theorem dX8_isOwn_28 : decode cX8_isOwn 28 = .ok (.aload_n 0, 1) := by decide +kernel
theorem dX8_isOwn_29 : decode cX8_isOwn 29 = .ok (.getfield 31, 3) := by decide +kernel
theorem dX8_isOwn_32 : decode cX8_isOwn 32 = .ok (.lcmp, 1) := by decide +kernel
theorem dX8_isOwn_33 : decode cX8_isOwn 33 = .ok (.ifCond .eq 12, 3) := by decide +kernel
theorem dX8_isOwn_36 : decode cX8_isOwn 36 = .ok (.lload_n 1, 1) := by decide +kernel
theorem dX8_isOwn_37 : decode cX8_isOwn 37 = .ok (.aload_n 0, 1) := by decide +kernel
theorem dX8_isOwn_38 : decode cX8_isOwn 38 = .ok (.getfield 34, 3) := by decide +kernel
theorem dX8_isOwn_41 : decode cX8_isOwn 41 = .ok (.lcmp, 1) := by decide +kernel
theorem dX8_isOwn_42 : decode cX8_isOwn 42 = .ok (.ifCond .ne 7, 3) := by decide +kernel
theorem dX8_isOwn_45 : decode cX8_isOwn 45 = .ok (.iconst 1, 1) := by decide +kernel
theorem dX8_isOwn_46 : decode cX8_isOwn 46 = .ok (.goto 4, 3) := by decide +kernel
theorem dX8_isOwn_49 : decode cX8_isOwn 49 = .ok (.iconst 0, 1) := by decide +kernel
theorem dX8_isOwn_50 : decode cX8_isOwn 50 = .ok (.ireturn, 1) := by decide +kernel
theorem dX8_begins_0 : decode cX8_begins 0 = .ok (.aload_n 0, 1) := by decide +kernel
theorem dX8_begins_1 : decode cX8_begins 1 = .ok (.iconst 0, 1) := by decide +kernel
theorem dX8_begins_2 : decode cX8_begins 2 = .ok (.putfield 138, 3) := by decide +kernel
theorem dX8_begins_5 : decode cX8_begins 5 = .ok (.aload_n 0, 1) := by decide +kernel
theorem dX8_begins_6 : decode cX8_begins 6 = .ok (.aload_n 0, 1) := by decide +kernel
theorem dX8_begins_7 : decode cX8_begins 7 = .ok (.getfield 129, 3) := by decide +kernel
theorem dX8_begins_10 : decode cX8_begins 10 = .ok (.putfield 141, 3) := by decide +kernel
theorem dX8_begins_13 : decode cX8_begins 13 = .ok (.aload_n 0, 1) := by decide +kernel
theorem dX8_begins_14 : decode cX8_begins 14 = .ok (.iconst 0, 1) := by decide +kernel
theorem dX8_begins_15 : decode cX8_begins 15 = .ok (.putfield 129, 3) := by decide +kernel
theorem dX8_begins_18 : decode cX8_begins 18 = .ok (.aload_n 0, 1) := by decide +kernel
theorem dX8_begins_19 : decode cX8_begins 19 = .ok (.iconst 0, 1) := by decide +kernel
theorem dX8_begins_20 : decode cX8_begins 20 = .ok (.putfield 132, 3) := by decide +kernel
theorem dX8_begins_23 : decode cX8_begins 23 = .ok (.aload_n 0, 1) := by decide +kernel
theorem dX8_begins_24 : decode cX8_begins 24 = .ok (.iconst (-1), 1) := by decide +kernel
theorem dX8_begins_25 : decode cX8_begins 25 = .ok (.putfield 135, 3) := by decide +kernel
theorem dX8_begins_28 : decode cX8_begins 28 = .ok (.return_, 1) := by decide +kernel
theorem dX8_told_0 : decode cX8_told 0 = .ok (.aload_n 0, 1) := by decide +kernel
theorem dX8_told_1 : decode cX8_told 1 = .ok (.aload_n 0, 1) := by decide +kernel
theorem dX8_told_2 : decode cX8_told 2 = .ok (.getfield 132, 3) := by decide +kernel
theorem dX8_told_5 : decode cX8_told 5 = .ok (.putfield 162, 3) := by decide +kernel
theorem dX8_told_8 : decode cX8_told 8 = .ok (.aload_n 0, 1) := by decide +kernel
theorem dX8_told_9 : decode cX8_told 9 = .ok (.aload_n 0, 1) := by decide +kernel
theorem dX8_told_10 : decode cX8_told 10 = .ok (.getfield 135, 3) := by decide +kernel
theorem dX8_told_13 : decode cX8_told 13 = .ok (.putfield 13, 3) := by decide +kernel
theorem dX8_told_16 : decode cX8_told 16 = .ok (.return_, 1) := by decide +kernel
theorem dX8_marks_0 : decode cX8_marks 0 = .ok (.aload_n 0, 1) := by decide +kernel
theorem dX8_marks_1 : decode cX8_marks 1 = .ok (.invokevirtual 144, 3) := by decide +kernel
theorem dX8_marks_4 : decode cX8_marks 4 = .ok (.pop, 1) := by decide +kernel
theorem dX8_marks_5 : decode cX8_marks 5 = .ok (.aload_n 0, 1) := by decide +kernel
theorem dX8_marks_6 : decode cX8_marks 6 = .ok (.getfield 138, 3) := by decide +kernel
theorem dX8_marks_9 : decode cX8_marks 9 = .ok (.istore_n 2, 1) := by decide +kernel
theorem dX8_marks_10 : decode cX8_marks 10 = .ok (.aload_n 0, 1) := by decide +kernel
theorem dX8_marks_11 : decode cX8_marks 11 = .ok (.invokevirtual 165, 3) := by decide +kernel
theorem dX8_marks_14 : decode cX8_marks 14 = .ok (.lstore_n 3, 1) := by decide +kernel
theorem dX8_marks_15 : decode cX8_marks 15 = .ok (.aload_n 0, 1) := by decide +kernel
theorem dX8_marks_16 : decode cX8_marks 16 = .ok (.getfield 132, 3) := by decide +kernel
theorem dX8_marks_19 : decode cX8_marks 19 = .ok (.ifCond .ne 36, 3) := by decide +kernel
theorem dX8_marks_22 : decode cX8_marks 22 = .ok (.lload_n 3, 1) := by decide +kernel
theorem dX8_marks_23 : decode cX8_marks 23 = .ok (.aload_n 0, 1) := by decide +kernel
theorem dX8_marks_24 : decode cX8_marks 24 = .ok (.getfield 28, 3) := by decide +kernel
theorem dX8_marks_27 : decode cX8_marks 27 = .ok (.lcmp, 1) := by decide +kernel
theorem dX8_marks_28 : decode cX8_marks 28 = .ok (.ifCond .eq 27, 3) := by decide +kernel
theorem dX8_marks_31 : decode cX8_marks 31 = .ok (.lload_n 3, 1) := by decide +kernel
theorem dX8_marks_32 : decode cX8_marks 32 = .ok (.aload_n 0, 1) := by decide +kernel
theorem dX8_marks_33 : decode cX8_marks 33 = .ok (.getfield 31, 3) := by decide +kernel
theorem dX8_marks_36 : decode cX8_marks 36 = .ok (.lcmp, 1) := by decide +kernel
theorem dX8_marks_37 : decode cX8_marks 37 = .ok (.ifCond .eq 18, 3) := by decide +kernel
theorem dX8_marks_40 : decode cX8_marks 40 = .ok (.lload_n 3, 1) := by decide +kernel
theorem dX8_marks_41 : decode cX8_marks 41 = .ok (.aload_n 0, 1) := by decide +kernel
theorem dX8_marks_42 : decode cX8_marks 42 = .ok (.getfield 34, 3) := by decide +kernel
theorem dX8_marks_45 : decode cX8_marks 45 = .ok (.lcmp, 1) := by decide +kernel
theorem dX8_marks_46 : decode cX8_marks 46 = .ok (.ifCond .eq 9, 3) := by decide +kernel
theorem dX8_marks_49 : decode cX8_marks 49 = .ok (.aload_n 0, 1) := by decide +kernel
theorem dX8_marks_50 : decode cX8_marks 50 = .ok (.iconst 1, 1) := by decide +kernel
theorem dX8_marks_51 : decode cX8_marks 51 = .ok (.iload_n 2, 1) := by decide +kernel
theorem dX8_marks_52 : decode cX8_marks 52 = .ok (.invokevirtual 148, 3) := by decide +kernel
theorem dX8_marks_55 : decode cX8_marks 55 = .ok (.aload_n 0, 1) := by decide +kernel
theorem dX8_marks_56 : decode cX8_marks 56 = .ok (.getfield 62, 3) := by decide +kernel
theorem dX8_marks_59 : decode cX8_marks 59 = .ok (.iload_n 1, 1) := by decide +kernel
theorem dX8_marks_60 : decode cX8_marks 60 = .ok (.lload_n 3, 1) := by decide +kernel
theorem dX8_marks_61 : decode cX8_marks 61 = .ok (.aload_n 0, 1) := by decide +kernel
theorem dX8_marks_62 : decode cX8_marks 62 = .ok (.getfield 28, 3) := by decide +kernel
theorem dX8_marks_65 : decode cX8_marks 65 = .ok (.lcmp, 1) := by decide +kernel
theorem dX8_marks_66 : decode cX8_marks 66 = .ok (.ifCond .ne 7, 3) := by decide +kernel
theorem dX8_marks_69 : decode cX8_marks 69 = .ok (.iconst 0, 1) := by decide +kernel
theorem dX8_marks_70 : decode cX8_marks 70 = .ok (.goto 17, 3) := by decide +kernel
theorem dX8_marks_73 : decode cX8_marks 73 = .ok (.lload_n 3, 1) := by decide +kernel
theorem dX8_marks_74 : decode cX8_marks 74 = .ok (.aload_n 0, 1) := by decide +kernel
theorem dX8_marks_75 : decode cX8_marks 75 = .ok (.getfield 31, 3) := by decide +kernel
theorem dX8_marks_78 : decode cX8_marks 78 = .ok (.lcmp, 1) := by decide +kernel
theorem dX8_marks_79 : decode cX8_marks 79 = .ok (.ifCond .ne 7, 3) := by decide +kernel
theorem dX8_marks_82 : decode cX8_marks 82 = .ok (.iconst 1, 1) := by decide +kernel
theorem dX8_marks_83 : decode cX8_marks 83 = .ok (.goto 4, 3) := by decide +kernel
theorem dX8_marks_86 : decode cX8_marks 86 = .ok (.iconst 2, 1) := by decide +kernel
theorem dX8_marks_87 : decode cX8_marks 87 = .ok (.iastore, 1) := by decide +kernel
theorem dX8_marks_88 : decode cX8_marks 88 = .ok (.aload_n 0, 1) := by decide +kernel
theorem dX8_marks_89 : decode cX8_marks 89 = .ok (.getfield 132, 3) := by decide +kernel
theorem dX8_marks_92 : decode cX8_marks 92 = .ok (.ifCond .ne 9, 3) := by decide +kernel
theorem dX8_marks_95 : decode cX8_marks 95 = .ok (.aload_n 0, 1) := by decide +kernel
theorem dX8_marks_96 : decode cX8_marks 96 = .ok (.bipush 59, 2) := by decide +kernel
theorem dX8_marks_98 : decode cX8_marks 98 = .ok (.invokevirtual 169, 3) := by decide +kernel
theorem dX8_marks_101 : decode cX8_marks 101 = .ok (.return_, 1) := by decide +kernel
theorem dX8_field_0 : decode cX8_field 0 = .ok (.aload_n 0, 1) := by decide +kernel
theorem dX8_field_1 : decode cX8_field 1 = .ok (.invokevirtual 144, 3) := by decide +kernel
theorem dX8_field_4 : decode cX8_field 4 = .ok (.pop, 1) := by decide +kernel
theorem dX8_field_5 : decode cX8_field 5 = .ok (.aload_n 0, 1) := by decide +kernel
theorem dX8_field_6 : decode cX8_field 6 = .ok (.getfield 138, 3) := by decide +kernel
theorem dX8_field_9 : decode cX8_field 9 = .ok (.istore_n 1, 1) := by decide +kernel
theorem dX8_field_10 : decode cX8_field 10 = .ok (.aload_n 0, 1) := by decide +kernel
theorem dX8_field_11 : decode cX8_field 11 = .ok (.invokevirtual 173, 3) := by decide +kernel
theorem dX8_field_14 : decode cX8_field 14 = .ok (.lstore_n 2, 1) := by decide +kernel
theorem dX8_field_15 : decode cX8_field 15 = .ok (.aload_n 0, 1) := by decide +kernel
theorem dX8_field_16 : decode cX8_field 16 = .ok (.getfield 132, 3) := by decide +kernel
theorem dX8_field_19 : decode cX8_field 19 = .ok (.ifCond .ne 17, 3) := by decide +kernel
theorem dX8_field_22 : decode cX8_field 22 = .ok (.aload_n 0, 1) := by decide +kernel
theorem dX8_field_23 : decode cX8_field 23 = .ok (.lload_n 2, 1) := by decide +kernel
theorem dX8_field_24 : decode cX8_field 24 = .ok (.invokevirtual 176, 3) := by decide +kernel
theorem dX8_field_27 : decode cX8_field 27 = .ok (.ifCond .eq 9, 3) := by decide +kernel
theorem dX8_field_30 : decode cX8_field 30 = .ok (.aload_n 0, 1) := by decide +kernel
theorem dX8_field_31 : decode cX8_field 31 = .ok (.iconst 1, 1) := by decide +kernel
theorem dX8_field_32 : decode cX8_field 32 = .ok (.iload_n 1, 1) := by decide +kernel
theorem dX8_field_33 : decode cX8_field 33 = .ok (.invokevirtual 148, 3) := by decide +kernel
theorem dX8_field_36 : decode cX8_field 36 = .ok (.aload_n 0, 1) := by decide +kernel
theorem dX8_field_37 : decode cX8_field 37 = .ok (.getfield 68, 3) := by decide +kernel
theorem dX8_field_40 : decode cX8_field 40 = .ok (.aload_n 0, 1) := by decide +kernel
theorem dX8_field_41 : decode cX8_field 41 = .ok (.getfield 180, 3) := by decide +kernel
theorem dX8_field_44 : decode cX8_field 44 = .ok (.iaload, 1) := by decide +kernel
theorem dX8_field_45 : decode cX8_field 45 = .ok (.istore 4, 2) := by decide +kernel
theorem dX8_field_47 : decode cX8_field 47 = .ok (.iconst 0, 1) := by decide +kernel
theorem dX8_field_48 : decode cX8_field 48 = .ok (.istore 5, 2) := by decide +kernel
theorem dX8_field_50 : decode cX8_field 50 = .ok (.iload 5, 2) := by decide +kernel
theorem dX8_field_52 : decode cX8_field 52 = .ok (.aload_n 0, 1) := by decide +kernel
theorem dX8_field_53 : decode cX8_field 53 = .ok (.getfield 183, 3) := by decide +kernel
theorem dX8_field_56 : decode cX8_field 56 = .ok (.if_icmp .ge 46, 3) := by decide +kernel
theorem dX8_field_59 : decode cX8_field 59 = .ok (.aload_n 0, 1) := by decide +kernel
theorem dX8_field_60 : decode cX8_field 60 = .ok (.getfield 132, 3) := by decide +kernel
theorem dX8_field_63 : decode cX8_field 63 = .ok (.ifCond .ne 39, 3) := by decide +kernel
theorem dX8_field_66 : decode cX8_field 66 = .ok (.aload_n 0, 1) := by decide +kernel
theorem dX8_field_67 : decode cX8_field 67 = .ok (.getfield 53, 3) := by decide +kernel
theorem dX8_field_70 : decode cX8_field 70 = .ok (.iload 5, 2) := by decide +kernel
theorem dX8_field_72 : decode cX8_field 72 = .ok (.iaload, 1) := by decide +kernel
theorem dX8_field_73 : decode cX8_field 73 = .ok (.iload 4, 2) := by decide +kernel
theorem dX8_field_75 : decode cX8_field 75 = .ok (.if_icmp .ne 21, 3) := by decide +kernel
theorem dX8_field_78 : decode cX8_field 78 = .ok (.aload_n 0, 1) := by decide +kernel
theorem dX8_field_79 : decode cX8_field 79 = .ok (.getfield 56, 3) := by decide +kernel
theorem dX8_field_82 : decode cX8_field 82 = .ok (.iload 5, 2) := by decide +kernel
theorem dX8_field_84 : decode cX8_field 84 = .ok (.laload, 1) := by decide +kernel
theorem dX8_field_85 : decode cX8_field 85 = .ok (.lload_n 2, 1) := by decide +kernel
theorem dX8_field_86 : decode cX8_field 86 = .ok (.lcmp, 1) := by decide +kernel
theorem dX8_field_87 : decode cX8_field 87 = .ok (.ifCond .ne 9, 3) := by decide +kernel
theorem dX8_field_90 : decode cX8_field 90 = .ok (.aload_n 0, 1) := by decide +kernel
theorem dX8_field_91 : decode cX8_field 91 = .ok (.iconst 2, 1) := by decide +kernel
theorem dX8_field_92 : decode cX8_field 92 = .ok (.iload_n 1, 1) := by decide +kernel
theorem dX8_field_93 : decode cX8_field 93 = .ok (.invokevirtual 148, 3) := by decide +kernel
theorem dX8_field_96 : decode cX8_field 96 = .ok (.iinc 5 1, 3) := by decide +kernel
theorem dX8_field_99 : decode cX8_field 99 = .ok (.goto (-49), 3) := by decide +kernel
theorem dX8_field_102 : decode cX8_field 102 = .ok (.aload_n 0, 1) := by decide +kernel
theorem dX8_field_103 : decode cX8_field 103 = .ok (.getfield 132, 3) := by decide +kernel
theorem dX8_field_106 : decode cX8_field 106 = .ok (.ifCond .eq 4, 3) := by decide +kernel
theorem dX8_field_109 : decode cX8_field 109 = .ok (.return_, 1) := by decide +kernel
theorem dX8_field_110 : decode cX8_field 110 = .ok (.aload_n 0, 1) := by decide +kernel
theorem dX8_field_111 : decode cX8_field 111 = .ok (.getfield 183, 3) := by decide +kernel
theorem dX8_field_114 : decode cX8_field 114 = .ok (.istore 5, 2) := by decide +kernel
theorem dX8_field_116 : decode cX8_field 116 = .ok (.aload_n 0, 1) := by decide +kernel
theorem dX8_field_117 : decode cX8_field 117 = .ok (.dup, 1) := by decide +kernel
theorem dX8_field_118 : decode cX8_field 118 = .ok (.getfield 183, 3) := by decide +kernel
theorem dX8_field_121 : decode cX8_field 121 = .ok (.iconst 1, 1) := by decide +kernel
theorem dX8_field_122 : decode cX8_field 122 = .ok (.iadd, 1) := by decide +kernel
theorem dX8_field_123 : decode cX8_field 123 = .ok (.putfield 183, 3) := by decide +kernel
theorem dX8_field_126 : decode cX8_field 126 = .ok (.aload_n 0, 1) := by decide +kernel
theorem dX8_field_127 : decode cX8_field 127 = .ok (.getfield 71, 3) := by decide +kernel
theorem dX8_field_130 : decode cX8_field 130 = .ok (.aload_n 0, 1) := by decide +kernel
theorem dX8_field_131 : decode cX8_field 131 = .ok (.getfield 180, 3) := by decide +kernel
theorem dX8_field_134 : decode cX8_field 134 = .ok (.dup2, 1) := by decide +kernel
theorem dX8_field_135 : decode cX8_field 135 = .ok (.iaload, 1) := by decide +kernel
theorem dX8_field_136 : decode cX8_field 136 = .ok (.iconst 1, 1) := by decide +kernel
theorem dX8_field_137 : decode cX8_field 137 = .ok (.iadd, 1) := by decide +kernel
theorem dX8_field_138 : decode cX8_field 138 = .ok (.iastore, 1) := by decide +kernel
theorem dX8_field_139 : decode cX8_field 139 = .ok (.aload_n 0, 1) := by decide +kernel
theorem dX8_field_140 : decode cX8_field 140 = .ok (.getfield 53, 3) := by decide +kernel
theorem dX8_field_143 : decode cX8_field 143 = .ok (.iload 5, 2) := by decide +kernel
theorem dX8_field_145 : decode cX8_field 145 = .ok (.iload 4, 2) := by decide +kernel
theorem dX8_field_147 : decode cX8_field 147 = .ok (.iastore, 1) := by decide +kernel
theorem dX8_field_148 : decode cX8_field 148 = .ok (.aload_n 0, 1) := by decide +kernel
theorem dX8_field_149 : decode cX8_field 149 = .ok (.getfield 56, 3) := by decide +kernel
theorem dX8_field_152 : decode cX8_field 152 = .ok (.iload 5, 2) := by decide +kernel
theorem dX8_field_154 : decode cX8_field 154 = .ok (.lload_n 2, 1) := by decide +kernel
theorem dX8_field_155 : decode cX8_field 155 = .ok (.lastore, 1) := by decide +kernel
theorem dX8_field_156 : decode cX8_field 156 = .ok (.aload_n 0, 1) := by decide +kernel
theorem dX8_field_157 : decode cX8_field 157 = .ok (.invokevirtual 144, 3) := by decide +kernel
theorem dX8_field_160 : decode cX8_field 160 = .ok (.istore 6, 2) := by decide +kernel
theorem dX8_field_162 : decode cX8_field 162 = .ok (.aload_n 0, 1) := by decide +kernel
theorem dX8_field_163 : decode cX8_field 163 = .ok (.getfield 138, 3) := by decide +kernel
theorem dX8_field_166 : decode cX8_field 166 = .ok (.istore_n 1, 1) := by decide +kernel
theorem dX8_field_167 : decode cX8_field 167 = .ok (.iload 6, 2) := by decide +kernel
theorem dX8_field_169 : decode cX8_field 169 = .ok (.bipush 91, 2) := by decide +kernel
theorem dX8_field_171 : decode cX8_field 171 = .ok (.if_icmp .ne 78, 3) := by decide +kernel
theorem dX8_field_174 : decode cX8_field 174 = .ok (.aload_n 0, 1) := by decide +kernel
theorem dX8_field_175 : decode cX8_field 175 = .ok (.getfield 180, 3) := by decide +kernel
theorem dX8_field_178 : decode cX8_field 178 = .ok (.iconst 4, 1) := by decide +kernel
theorem dX8_field_179 : decode cX8_field 179 = .ok (.if_icmp .ne 12, 3) := by decide +kernel
theorem dX8_field_182 : decode cX8_field 182 = .ok (.aload_n 0, 1) := by decide +kernel
theorem dX8_field_183 : decode cX8_field 183 = .ok (.iconst 3, 1) := by decide +kernel
theorem dX8_field_184 : decode cX8_field 184 = .ok (.aload_n 0, 1) := by decide +kernel
theorem dX8_field_185 : decode cX8_field 185 = .ok (.getfield 138, 3) := by decide +kernel
theorem dX8_field_188 : decode cX8_field 188 = .ok (.invokevirtual 148, 3) := by decide +kernel
theorem dX8_field_191 : decode cX8_field 191 = .ok (.aload_n 0, 1) := by decide +kernel
theorem dX8_field_192 : decode cX8_field 192 = .ok (.getfield 132, 3) := by decide +kernel
theorem dX8_field_195 : decode cX8_field 195 = .ok (.ifCond .eq 4, 3) := by decide +kernel
theorem dX8_field_198 : decode cX8_field 198 = .ok (.return_, 1) := by decide +kernel
theorem dX8_field_199 : decode cX8_field 199 = .ok (.aload_n 0, 1) := by decide +kernel
theorem dX8_field_200 : decode cX8_field 200 = .ok (.dup, 1) := by decide +kernel
theorem dX8_field_201 : decode cX8_field 201 = .ok (.getfield 138, 3) := by decide +kernel
theorem dX8_field_204 : decode cX8_field 204 = .ok (.iconst 1, 1) := by decide +kernel
theorem dX8_field_205 : decode cX8_field 205 = .ok (.iadd, 1) := by decide +kernel
theorem dX8_field_206 : decode cX8_field 206 = .ok (.putfield 138, 3) := by decide +kernel
theorem dX8_field_209 : decode cX8_field 209 = .ok (.aload_n 0, 1) := by decide +kernel
theorem dX8_field_210 : decode cX8_field 210 = .ok (.getfield 59, 3) := by decide +kernel
theorem dX8_field_213 : decode cX8_field 213 = .ok (.iload 5, 2) := by decide +kernel
theorem dX8_field_215 : decode cX8_field 215 = .ok (.iconst 2, 1) := by decide +kernel
theorem dX8_field_216 : decode cX8_field 216 = .ok (.iastore, 1) := by decide +kernel
theorem dX8_field_217 : decode cX8_field 217 = .ok (.aload_n 0, 1) := by decide +kernel
theorem dX8_field_218 : decode cX8_field 218 = .ok (.dup, 1) := by decide +kernel
theorem dX8_field_219 : decode cX8_field 219 = .ok (.getfield 180, 3) := by decide +kernel
theorem dX8_field_222 : decode cX8_field 222 = .ok (.iconst 1, 1) := by decide +kernel
theorem dX8_field_223 : decode cX8_field 223 = .ok (.iadd, 1) := by decide +kernel
theorem dX8_field_224 : decode cX8_field 224 = .ok (.putfield 180, 3) := by decide +kernel
theorem dX8_field_227 : decode cX8_field 227 = .ok (.aload_n 0, 1) := by decide +kernel
theorem dX8_field_228 : decode cX8_field 228 = .ok (.getfield 68, 3) := by decide +kernel
theorem dX8_field_231 : decode cX8_field 231 = .ok (.aload_n 0, 1) := by decide +kernel
theorem dX8_field_232 : decode cX8_field 232 = .ok (.getfield 180, 3) := by decide +kernel
theorem dX8_field_235 : decode cX8_field 235 = .ok (.iload 5, 2) := by decide +kernel
theorem dX8_field_237 : decode cX8_field 237 = .ok (.iastore, 1) := by decide +kernel
theorem dX8_field_238 : decode cX8_field 238 = .ok (.aload_n 0, 1) := by decide +kernel
theorem dX8_field_239 : decode cX8_field 239 = .ok (.getfield 71, 3) := by decide +kernel
theorem dX8_field_242 : decode cX8_field 242 = .ok (.aload_n 0, 1) := by decide +kernel
theorem dX8_field_243 : decode cX8_field 243 = .ok (.getfield 180, 3) := by decide +kernel
theorem dX8_field_246 : decode cX8_field 246 = .ok (.iconst 0, 1) := by decide +kernel
theorem dX8_field_247 : decode cX8_field 247 = .ok (.iastore, 1) := by decide +kernel
theorem dX8_field_248 : decode cX8_field 248 = .ok (.return_, 1) := by decide +kernel
theorem dX8_field_249 : decode cX8_field 249 = .ok (.aload_n 0, 1) := by decide +kernel
theorem dX8_field_250 : decode cX8_field 250 = .ok (.invokevirtual 165, 3) := by decide +kernel
theorem dX8_field_253 : decode cX8_field 253 = .ok (.lstore_n 2, 1) := by decide +kernel
theorem dX8_field_254 : decode cX8_field 254 = .ok (.aload_n 0, 1) := by decide +kernel
theorem dX8_field_255 : decode cX8_field 255 = .ok (.getfield 132, 3) := by decide +kernel
theorem dX8_field_258 : decode cX8_field 258 = .ok (.ifCond .ne 27, 3) := by decide +kernel
theorem dX8_field_261 : decode cX8_field 261 = .ok (.lload_n 2, 1) := by decide +kernel
theorem dX8_field_262 : decode cX8_field 262 = .ok (.aload_n 0, 1) := by decide +kernel
theorem dX8_field_263 : decode cX8_field 263 = .ok (.getfield 21, 3) := by decide +kernel
theorem dX8_field_266 : decode cX8_field 266 = .ok (.lcmp, 1) := by decide +kernel
theorem dX8_field_267 : decode cX8_field 267 = .ok (.ifCond .eq 18, 3) := by decide +kernel
theorem dX8_field_270 : decode cX8_field 270 = .ok (.lload_n 2, 1) := by decide +kernel
theorem dX8_field_271 : decode cX8_field 271 = .ok (.aload_n 0, 1) := by decide +kernel
theorem dX8_field_272 : decode cX8_field 272 = .ok (.getfield 25, 3) := by decide +kernel
theorem dX8_field_275 : decode cX8_field 275 = .ok (.lcmp, 1) := by decide +kernel
theorem dX8_field_276 : decode cX8_field 276 = .ok (.ifCond .eq 9, 3) := by decide +kernel
theorem dX8_field_279 : decode cX8_field 279 = .ok (.aload_n 0, 1) := by decide +kernel
theorem dX8_field_280 : decode cX8_field 280 = .ok (.iconst 1, 1) := by decide +kernel
theorem dX8_field_281 : decode cX8_field 281 = .ok (.iload_n 1, 1) := by decide +kernel
theorem dX8_field_282 : decode cX8_field 282 = .ok (.invokevirtual 148, 3) := by decide +kernel
theorem dX8_field_285 : decode cX8_field 285 = .ok (.aload_n 0, 1) := by decide +kernel
theorem dX8_field_286 : decode cX8_field 286 = .ok (.getfield 132, 3) := by decide +kernel
theorem dX8_field_289 : decode cX8_field 289 = .ok (.ifCond .ne 18, 3) := by decide +kernel
theorem dX8_field_292 : decode cX8_field 292 = .ok (.aload_n 0, 1) := by decide +kernel
theorem dX8_field_293 : decode cX8_field 293 = .ok (.getfield 186, 3) := by decide +kernel
theorem dX8_field_296 : decode cX8_field 296 = .ok (.bipush 12, 2) := by decide +kernel
theorem dX8_field_298 : decode cX8_field 298 = .ok (.if_icmp .ne 9, 3) := by decide +kernel
theorem dX8_field_301 : decode cX8_field 301 = .ok (.aload_n 0, 1) := by decide +kernel
theorem dX8_field_302 : decode cX8_field 302 = .ok (.iconst 3, 1) := by decide +kernel
theorem dX8_field_303 : decode cX8_field 303 = .ok (.iload_n 1, 1) := by decide +kernel
theorem dX8_field_304 : decode cX8_field 304 = .ok (.invokevirtual 148, 3) := by decide +kernel
theorem dX8_field_307 : decode cX8_field 307 = .ok (.aload_n 0, 1) := by decide +kernel
theorem dX8_field_308 : decode cX8_field 308 = .ok (.getfield 132, 3) := by decide +kernel
theorem dX8_field_311 : decode cX8_field 311 = .ok (.ifCond .eq 4, 3) := by decide +kernel
theorem dX8_field_314 : decode cX8_field 314 = .ok (.return_, 1) := by decide +kernel
theorem dX8_field_315 : decode cX8_field 315 = .ok (.aload_n 0, 1) := by decide +kernel
theorem dX8_field_316 : decode cX8_field 316 = .ok (.getfield 59, 3) := by decide +kernel
theorem dX8_field_319 : decode cX8_field 319 = .ok (.iload 5, 2) := by decide +kernel
theorem dX8_field_321 : decode cX8_field 321 = .ok (.lload_n 2, 1) := by decide +kernel
theorem dX8_field_322 : decode cX8_field 322 = .ok (.aload_n 0, 1) := by decide +kernel
theorem dX8_field_323 : decode cX8_field 323 = .ok (.getfield 21, 3) := by decide +kernel
theorem dX8_field_326 : decode cX8_field 326 = .ok (.lcmp, 1) := by decide +kernel
theorem dX8_field_327 : decode cX8_field 327 = .ok (.ifCond .ne 7, 3) := by decide +kernel
theorem dX8_field_330 : decode cX8_field 330 = .ok (.iconst 0, 1) := by decide +kernel
theorem dX8_field_331 : decode cX8_field 331 = .ok (.goto 4, 3) := by decide +kernel
theorem dX8_field_334 : decode cX8_field 334 = .ok (.iconst 1, 1) := by decide +kernel
theorem dX8_field_335 : decode cX8_field 335 = .ok (.iastore, 1) := by decide +kernel
theorem dX8_field_336 : decode cX8_field 336 = .ok (.aload_n 0, 1) := by decide +kernel
theorem dX8_field_337 : decode cX8_field 337 = .ok (.getfield 65, 3) := by decide +kernel
theorem dX8_field_340 : decode cX8_field 340 = .ok (.aload_n 0, 1) := by decide +kernel
theorem dX8_field_341 : decode cX8_field 341 = .ok (.getfield 186, 3) := by decide +kernel
theorem dX8_field_344 : decode cX8_field 344 = .ok (.iload 5, 2) := by decide +kernel
theorem dX8_field_346 : decode cX8_field 346 = .ok (.iastore, 1) := by decide +kernel
theorem dX8_field_347 : decode cX8_field 347 = .ok (.aload_n 0, 1) := by decide +kernel
theorem dX8_field_348 : decode cX8_field 348 = .ok (.dup, 1) := by decide +kernel
theorem dX8_field_349 : decode cX8_field 349 = .ok (.getfield 186, 3) := by decide +kernel
theorem dX8_field_352 : decode cX8_field 352 = .ok (.iconst 1, 1) := by decide +kernel
theorem dX8_field_353 : decode cX8_field 353 = .ok (.iadd, 1) := by decide +kernel
theorem dX8_field_354 : decode cX8_field 354 = .ok (.putfield 186, 3) := by decide +kernel
theorem dX8_field_357 : decode cX8_field 357 = .ok (.aload_n 0, 1) := by decide +kernel
theorem dX8_field_358 : decode cX8_field 358 = .ok (.iload 5, 2) := by decide +kernel
theorem dX8_field_360 : decode cX8_field 360 = .ok (.invokevirtual 189, 3) := by decide +kernel
theorem dX8_field_363 : decode cX8_field 363 = .ok (.return_, 1) := by decide +kernel
theorem dX8_readsShape_0 : decode cX8_readsShape 0 = .ok (.aload_n 0, 1) := by decide +kernel
theorem dX8_readsShape_1 : decode cX8_readsShape 1 = .ok (.iconst 0, 1) := by decide +kernel
theorem dX8_readsShape_2 : decode cX8_readsShape 2 = .ok (.putfield 183, 3) := by decide +kernel
theorem dX8_readsShape_5 : decode cX8_readsShape 5 = .ok (.aload_n 0, 1) := by decide +kernel
theorem dX8_readsShape_6 : decode cX8_readsShape 6 = .ok (.iconst 0, 1) := by decide +kernel
theorem dX8_readsShape_7 : decode cX8_readsShape 7 = .ok (.putfield 186, 3) := by decide +kernel
theorem dX8_readsShape_10 : decode cX8_readsShape 10 = .ok (.aload_n 0, 1) := by decide +kernel
theorem dX8_readsShape_11 : decode cX8_readsShape 11 = .ok (.iconst 0, 1) := by decide +kernel
theorem dX8_readsShape_12 : decode cX8_readsShape 12 = .ok (.putfield 180, 3) := by decide +kernel
theorem dX8_readsShape_15 : decode cX8_readsShape 15 = .ok (.aload_n 0, 1) := by decide +kernel
theorem dX8_readsShape_16 : decode cX8_readsShape 16 = .ok (.getfield 68, 3) := by decide +kernel
theorem dX8_readsShape_19 : decode cX8_readsShape 19 = .ok (.iconst 0, 1) := by decide +kernel
theorem dX8_readsShape_20 : decode cX8_readsShape 20 = .ok (.iconst (-1), 1) := by decide +kernel
theorem dX8_readsShape_21 : decode cX8_readsShape 21 = .ok (.iastore, 1) := by decide +kernel
theorem dX8_readsShape_22 : decode cX8_readsShape 22 = .ok (.aload_n 0, 1) := by decide +kernel
theorem dX8_readsShape_23 : decode cX8_readsShape 23 = .ok (.getfield 71, 3) := by decide +kernel
theorem dX8_readsShape_26 : decode cX8_readsShape 26 = .ok (.iconst 0, 1) := by decide +kernel
theorem dX8_readsShape_27 : decode cX8_readsShape 27 = .ok (.iconst 0, 1) := by decide +kernel
theorem dX8_readsShape_28 : decode cX8_readsShape 28 = .ok (.iastore, 1) := by decide +kernel
theorem dX8_readsShape_29 : decode cX8_readsShape 29 = .ok (.iconst 1, 1) := by decide +kernel
theorem dX8_readsShape_30 : decode cX8_readsShape 30 = .ok (.istore_n 1, 1) := by decide +kernel
theorem dX8_readsShape_31 : decode cX8_readsShape 31 = .ok (.iload_n 1, 1) := by decide +kernel
theorem dX8_readsShape_32 : decode cX8_readsShape 32 = .ok (.ifCond .eq 148, 3) := by decide +kernel
theorem dX8_readsShape_35 : decode cX8_readsShape 35 = .ok (.aload_n 0, 1) := by decide +kernel
theorem dX8_readsShape_36 : decode cX8_readsShape 36 = .ok (.getfield 132, 3) := by decide +kernel
theorem dX8_readsShape_39 : decode cX8_readsShape 39 = .ok (.ifCond .ne 141, 3) := by decide +kernel
theorem dX8_readsShape_42 : decode cX8_readsShape 42 = .ok (.aload_n 0, 1) := by decide +kernel
theorem dX8_readsShape_43 : decode cX8_readsShape 43 = .ok (.invokevirtual 144, 3) := by decide +kernel
theorem dX8_readsShape_46 : decode cX8_readsShape 46 = .ok (.istore_n 2, 1) := by decide +kernel
theorem dX8_readsShape_47 : decode cX8_readsShape 47 = .ok (.iload_n 2, 1) := by decide +kernel
theorem dX8_readsShape_48 : decode cX8_readsShape 48 = .ok (.iconst (-1), 1) := by decide +kernel
theorem dX8_readsShape_49 : decode cX8_readsShape 49 = .ok (.if_icmp .ne 45, 3) := by decide +kernel
theorem dX8_readsShape_52 : decode cX8_readsShape 52 = .ok (.iconst 0, 1) := by decide +kernel
theorem dX8_readsShape_53 : decode cX8_readsShape 53 = .ok (.istore_n 1, 1) := by decide +kernel
theorem dX8_readsShape_54 : decode cX8_readsShape 54 = .ok (.aload_n 0, 1) := by decide +kernel
theorem dX8_readsShape_55 : decode cX8_readsShape 55 = .ok (.getfield 180, 3) := by decide +kernel
theorem dX8_readsShape_58 : decode cX8_readsShape 58 = .ok (.ifCond .le 15, 3) := by decide +kernel
theorem dX8_readsShape_61 : decode cX8_readsShape 61 = .ok (.aload_n 0, 1) := by decide +kernel
theorem dX8_readsShape_62 : decode cX8_readsShape 62 = .ok (.iconst 1, 1) := by decide +kernel
theorem dX8_readsShape_63 : decode cX8_readsShape 63 = .ok (.aload_n 0, 1) := by decide +kernel
theorem dX8_readsShape_64 : decode cX8_readsShape 64 = .ok (.getfield 138, 3) := by decide +kernel
theorem dX8_readsShape_67 : decode cX8_readsShape 67 = .ok (.invokevirtual 148, 3) := by decide +kernel
theorem dX8_readsShape_70 : decode cX8_readsShape 70 = .ok (.goto 107, 3) := by decide +kernel
theorem dX8_readsShape_73 : decode cX8_readsShape 73 = .ok (.aload_n 0, 1) := by decide +kernel
theorem dX8_readsShape_74 : decode cX8_readsShape 74 = .ok (.getfield 71, 3) := by decide +kernel
theorem dX8_readsShape_77 : decode cX8_readsShape 77 = .ok (.iconst 0, 1) := by decide +kernel
theorem dX8_readsShape_78 : decode cX8_readsShape 78 = .ok (.iaload, 1) := by decide +kernel
theorem dX8_readsShape_79 : decode cX8_readsShape 79 = .ok (.ifCond .ne 98, 3) := by decide +kernel
theorem dX8_readsShape_82 : decode cX8_readsShape 82 = .ok (.aload_n 0, 1) := by decide +kernel
theorem dX8_readsShape_83 : decode cX8_readsShape 83 = .ok (.iconst 3, 1) := by decide +kernel
theorem dX8_readsShape_84 : decode cX8_readsShape 84 = .ok (.aload_n 0, 1) := by decide +kernel
theorem dX8_readsShape_85 : decode cX8_readsShape 85 = .ok (.getfield 138, 3) := by decide +kernel
theorem dX8_readsShape_88 : decode cX8_readsShape 88 = .ok (.invokevirtual 148, 3) := by decide +kernel
theorem dX8_readsShape_91 : decode cX8_readsShape 91 = .ok (.goto 86, 3) := by decide +kernel
theorem dX8_readsShape_94 : decode cX8_readsShape 94 = .ok (.iload_n 2, 1) := by decide +kernel
theorem dX8_readsShape_95 : decode cX8_readsShape 95 = .ok (.bipush 93, 2) := by decide +kernel
theorem dX8_readsShape_97 : decode cX8_readsShape 97 = .ok (.if_icmp .ne 76, 3) := by decide +kernel
theorem dX8_readsShape_100 : decode cX8_readsShape 100 = .ok (.aload_n 0, 1) := by decide +kernel
theorem dX8_readsShape_101 : decode cX8_readsShape 101 = .ok (.getfield 180, 3) := by decide +kernel
theorem dX8_readsShape_104 : decode cX8_readsShape 104 = .ok (.ifCond .le 69, 3) := by decide +kernel
theorem dX8_readsShape_107 : decode cX8_readsShape 107 = .ok (.aload_n 0, 1) := by decide +kernel
theorem dX8_readsShape_108 : decode cX8_readsShape 108 = .ok (.getfield 71, 3) := by decide +kernel
theorem dX8_readsShape_111 : decode cX8_readsShape 111 = .ok (.aload_n 0, 1) := by decide +kernel
theorem dX8_readsShape_112 : decode cX8_readsShape 112 = .ok (.getfield 180, 3) := by decide +kernel
theorem dX8_readsShape_115 : decode cX8_readsShape 115 = .ok (.iaload, 1) := by decide +kernel
theorem dX8_readsShape_116 : decode cX8_readsShape 116 = .ok (.ifCond .ne 12, 3) := by decide +kernel
theorem dX8_readsShape_119 : decode cX8_readsShape 119 = .ok (.aload_n 0, 1) := by decide +kernel
theorem dX8_readsShape_120 : decode cX8_readsShape 120 = .ok (.iconst 3, 1) := by decide +kernel
theorem dX8_readsShape_121 : decode cX8_readsShape 121 = .ok (.aload_n 0, 1) := by decide +kernel
theorem dX8_readsShape_122 : decode cX8_readsShape 122 = .ok (.getfield 138, 3) := by decide +kernel
theorem dX8_readsShape_125 : decode cX8_readsShape 125 = .ok (.invokevirtual 148, 3) := by decide +kernel
theorem dX8_readsShape_128 : decode cX8_readsShape 128 = .ok (.aload_n 0, 1) := by decide +kernel
theorem dX8_readsShape_129 : decode cX8_readsShape 129 = .ok (.dup, 1) := by decide +kernel
theorem dX8_readsShape_130 : decode cX8_readsShape 130 = .ok (.getfield 138, 3) := by decide +kernel
theorem dX8_readsShape_133 : decode cX8_readsShape 133 = .ok (.iconst 1, 1) := by decide +kernel
theorem dX8_readsShape_134 : decode cX8_readsShape 134 = .ok (.iadd, 1) := by decide +kernel
theorem dX8_readsShape_135 : decode cX8_readsShape 135 = .ok (.putfield 138, 3) := by decide +kernel
theorem dX8_readsShape_138 : decode cX8_readsShape 138 = .ok (.aload_n 0, 1) := by decide +kernel
theorem dX8_readsShape_139 : decode cX8_readsShape 139 = .ok (.getfield 68, 3) := by decide +kernel
theorem dX8_readsShape_142 : decode cX8_readsShape 142 = .ok (.aload_n 0, 1) := by decide +kernel
theorem dX8_readsShape_143 : decode cX8_readsShape 143 = .ok (.getfield 180, 3) := by decide +kernel
theorem dX8_readsShape_146 : decode cX8_readsShape 146 = .ok (.iaload, 1) := by decide +kernel
theorem dX8_readsShape_147 : decode cX8_readsShape 147 = .ok (.istore_n 3, 1) := by decide +kernel
theorem dX8_readsShape_148 : decode cX8_readsShape 148 = .ok (.aload_n 0, 1) := by decide +kernel
theorem dX8_readsShape_149 : decode cX8_readsShape 149 = .ok (.dup, 1) := by decide +kernel
theorem dX8_readsShape_150 : decode cX8_readsShape 150 = .ok (.getfield 180, 3) := by decide +kernel
theorem dX8_readsShape_153 : decode cX8_readsShape 153 = .ok (.iconst 1, 1) := by decide +kernel
theorem dX8_readsShape_154 : decode cX8_readsShape 154 = .ok (.isub, 1) := by decide +kernel
theorem dX8_readsShape_155 : decode cX8_readsShape 155 = .ok (.putfield 180, 3) := by decide +kernel
theorem dX8_readsShape_158 : decode cX8_readsShape 158 = .ok (.aload_n 0, 1) := by decide +kernel
theorem dX8_readsShape_159 : decode cX8_readsShape 159 = .ok (.getfield 132, 3) := by decide +kernel
theorem dX8_readsShape_162 : decode cX8_readsShape 162 = .ok (.ifCond .ne 8, 3) := by decide +kernel
theorem dX8_readsShape_165 : decode cX8_readsShape 165 = .ok (.aload_n 0, 1) := by decide +kernel
theorem dX8_readsShape_166 : decode cX8_readsShape 166 = .ok (.iload_n 3, 1) := by decide +kernel
theorem dX8_readsShape_167 : decode cX8_readsShape 167 = .ok (.invokevirtual 189, 3) := by decide +kernel
theorem dX8_readsShape_170 : decode cX8_readsShape 170 = .ok (.goto 7, 3) := by decide +kernel
theorem dX8_readsShape_173 : decode cX8_readsShape 173 = .ok (.aload_n 0, 1) := by decide +kernel
theorem dX8_readsShape_174 : decode cX8_readsShape 174 = .ok (.invokevirtual 192, 3) := by decide +kernel
theorem dX8_readsShape_177 : decode cX8_readsShape 177 = .ok (.goto (-146), 3) := by decide +kernel
theorem dX8_readsShape_180 : decode cX8_readsShape 180 = .ok (.return_, 1) := by decide +kernel
theorem dX8_shape_0 : decode cX8_shape 0 = .ok (.aload_n 0, 1) := by decide +kernel
theorem dX8_shape_1 : decode cX8_shape 1 = .ok (.invokevirtual 195, 3) := by decide +kernel
theorem dX8_shape_4 : decode cX8_shape 4 = .ok (.aload_n 0, 1) := by decide +kernel
theorem dX8_shape_5 : decode cX8_shape 5 = .ok (.invokevirtual 198, 3) := by decide +kernel
theorem dX8_shape_8 : decode cX8_shape 8 = .ok (.aload_n 0, 1) := by decide +kernel
theorem dX8_shape_9 : decode cX8_shape 9 = .ok (.invokevirtual 201, 3) := by decide +kernel
theorem dX8_shape_12 : decode cX8_shape 12 = .ok (.aload_n 0, 1) := by decide +kernel
theorem dX8_shape_13 : decode cX8_shape 13 = .ok (.getfield 132, 3) := by decide +kernel
theorem dX8_shape_16 : decode cX8_shape 16 = .ok (.ifCond .eq 5, 3) := by decide +kernel
theorem dX8_shape_19 : decode cX8_shape 19 = .ok (.iconst (-1), 1) := by decide +kernel
theorem dX8_shape_20 : decode cX8_shape 20 = .ok (.ireturn, 1) := by decide +kernel
theorem dX8_shape_21 : decode cX8_shape 21 = .ok (.aload_n 0, 1) := by decide +kernel
theorem dX8_shape_22 : decode cX8_shape 22 = .ok (.iconst 1, 1) := by decide +kernel
theorem dX8_shape_23 : decode cX8_shape 23 = .ok (.putfield 204, 3) := by decide +kernel
theorem dX8_shape_26 : decode cX8_shape 26 = .ok (.aload_n 0, 1) := by decide +kernel
theorem dX8_shape_27 : decode cX8_shape 27 = .ok (.aload_n 0, 1) := by decide +kernel
theorem dX8_shape_28 : decode cX8_shape 28 = .ok (.getfield 183, 3) := by decide +kernel
theorem dX8_shape_31 : decode cX8_shape 31 = .ok (.putfield 208, 3) := by decide +kernel
theorem dX8_shape_34 : decode cX8_shape 34 = .ok (.aload_n 0, 1) := by decide +kernel
theorem dX8_shape_35 : decode cX8_shape 35 = .ok (.aload_n 0, 1) := by decide +kernel
theorem dX8_shape_36 : decode cX8_shape 36 = .ok (.getfield 186, 3) := by decide +kernel
theorem dX8_shape_39 : decode cX8_shape 39 = .ok (.putfield 211, 3) := by decide +kernel
theorem dX8_shape_42 : decode cX8_shape 42 = .ok (.iconst 0, 1) := by decide +kernel
theorem dX8_shape_43 : decode cX8_shape 43 = .ok (.istore_n 1, 1) := by decide +kernel
theorem dX8_shape_44 : decode cX8_shape 44 = .ok (.iload_n 1, 1) := by decide +kernel
theorem dX8_shape_45 : decode cX8_shape 45 = .ok (.aload_n 0, 1) := by decide +kernel
theorem dX8_shape_46 : decode cX8_shape 46 = .ok (.getfield 208, 3) := by decide +kernel
theorem dX8_shape_49 : decode cX8_shape 49 = .ok (.if_icmp .ge 57, 3) := by decide +kernel
theorem dX8_shape_52 : decode cX8_shape 52 = .ok (.aload_n 0, 1) := by decide +kernel
theorem dX8_shape_53 : decode cX8_shape 53 = .ok (.getfield 37, 3) := by decide +kernel
theorem dX8_shape_56 : decode cX8_shape 56 = .ok (.iload_n 1, 1) := by decide +kernel
theorem dX8_shape_57 : decode cX8_shape 57 = .ok (.aload_n 0, 1) := by decide +kernel
theorem dX8_shape_58 : decode cX8_shape 58 = .ok (.getfield 53, 3) := by decide +kernel
theorem dX8_shape_61 : decode cX8_shape 61 = .ok (.iload_n 1, 1) := by decide +kernel
theorem dX8_shape_62 : decode cX8_shape 62 = .ok (.iaload, 1) := by decide +kernel
theorem dX8_shape_63 : decode cX8_shape 63 = .ok (.iastore, 1) := by decide +kernel
theorem dX8_shape_64 : decode cX8_shape 64 = .ok (.aload_n 0, 1) := by decide +kernel
theorem dX8_shape_65 : decode cX8_shape 65 = .ok (.getfield 40, 3) := by decide +kernel
theorem dX8_shape_68 : decode cX8_shape 68 = .ok (.iload_n 1, 1) := by decide +kernel
theorem dX8_shape_69 : decode cX8_shape 69 = .ok (.aload_n 0, 1) := by decide +kernel
theorem dX8_shape_70 : decode cX8_shape 70 = .ok (.getfield 56, 3) := by decide +kernel
theorem dX8_shape_73 : decode cX8_shape 73 = .ok (.iload_n 1, 1) := by decide +kernel
theorem dX8_shape_74 : decode cX8_shape 74 = .ok (.laload, 1) := by decide +kernel
theorem dX8_shape_75 : decode cX8_shape 75 = .ok (.lastore, 1) := by decide +kernel
theorem dX8_shape_76 : decode cX8_shape 76 = .ok (.aload_n 0, 1) := by decide +kernel
theorem dX8_shape_77 : decode cX8_shape 77 = .ok (.getfield 44, 3) := by decide +kernel
theorem dX8_shape_80 : decode cX8_shape 80 = .ok (.iload_n 1, 1) := by decide +kernel
theorem dX8_shape_81 : decode cX8_shape 81 = .ok (.aload_n 0, 1) := by decide +kernel
theorem dX8_shape_82 : decode cX8_shape 82 = .ok (.getfield 59, 3) := by decide +kernel
theorem dX8_shape_85 : decode cX8_shape 85 = .ok (.iload_n 1, 1) := by decide +kernel
theorem dX8_shape_86 : decode cX8_shape 86 = .ok (.iaload, 1) := by decide +kernel
theorem dX8_shape_87 : decode cX8_shape 87 = .ok (.iastore, 1) := by decide +kernel
theorem dX8_shape_88 : decode cX8_shape 88 = .ok (.aload_n 0, 1) := by decide +kernel
theorem dX8_shape_89 : decode cX8_shape 89 = .ok (.getfield 47, 3) := by decide +kernel
theorem dX8_shape_92 : decode cX8_shape 92 = .ok (.iload_n 1, 1) := by decide +kernel
theorem dX8_shape_93 : decode cX8_shape 93 = .ok (.aload_n 0, 1) := by decide +kernel
theorem dX8_shape_94 : decode cX8_shape 94 = .ok (.getfield 62, 3) := by decide +kernel
theorem dX8_shape_97 : decode cX8_shape 97 = .ok (.iload_n 1, 1) := by decide +kernel
theorem dX8_shape_98 : decode cX8_shape 98 = .ok (.iaload, 1) := by decide +kernel
theorem dX8_shape_99 : decode cX8_shape 99 = .ok (.iastore, 1) := by decide +kernel
theorem dX8_shape_100 : decode cX8_shape 100 = .ok (.iinc 1 1, 3) := by decide +kernel
theorem dX8_shape_103 : decode cX8_shape 103 = .ok (.goto (-59), 3) := by decide +kernel
theorem dX8_shape_106 : decode cX8_shape 106 = .ok (.iconst 0, 1) := by decide +kernel
theorem dX8_shape_107 : decode cX8_shape 107 = .ok (.istore_n 1, 1) := by decide +kernel
theorem dX8_shape_108 : decode cX8_shape 108 = .ok (.iload_n 1, 1) := by decide +kernel
theorem dX8_shape_109 : decode cX8_shape 109 = .ok (.aload_n 0, 1) := by decide +kernel
theorem dX8_shape_110 : decode cX8_shape 110 = .ok (.getfield 211, 3) := by decide +kernel
theorem dX8_shape_113 : decode cX8_shape 113 = .ok (.if_icmp .ge 21, 3) := by decide +kernel
theorem dX8_shape_116 : decode cX8_shape 116 = .ok (.aload_n 0, 1) := by decide +kernel
theorem dX8_shape_117 : decode cX8_shape 117 = .ok (.getfield 50, 3) := by decide +kernel
theorem dX8_shape_120 : decode cX8_shape 120 = .ok (.iload_n 1, 1) := by decide +kernel
theorem dX8_shape_121 : decode cX8_shape 121 = .ok (.aload_n 0, 1) := by decide +kernel
theorem dX8_shape_122 : decode cX8_shape 122 = .ok (.getfield 65, 3) := by decide +kernel
theorem dX8_shape_125 : decode cX8_shape 125 = .ok (.iload_n 1, 1) := by decide +kernel
theorem dX8_shape_126 : decode cX8_shape 126 = .ok (.iaload, 1) := by decide +kernel
theorem dX8_shape_127 : decode cX8_shape 127 = .ok (.iastore, 1) := by decide +kernel
theorem dX8_shape_128 : decode cX8_shape 128 = .ok (.iinc 1 1, 3) := by decide +kernel
theorem dX8_shape_131 : decode cX8_shape 131 = .ok (.goto (-23), 3) := by decide +kernel
theorem dX8_shape_134 : decode cX8_shape 134 = .ok (.aload_n 0, 1) := by decide +kernel
theorem dX8_shape_135 : decode cX8_shape 135 = .ok (.iconst 0, 1) := by decide +kernel
theorem dX8_shape_136 : decode cX8_shape 136 = .ok (.putfield 214, 3) := by decide +kernel
theorem dX8_shape_139 : decode cX8_shape 139 = .ok (.aload_n 0, 1) := by decide +kernel
theorem dX8_shape_140 : decode cX8_shape 140 = .ok (.getfield 211, 3) := by decide +kernel
theorem dX8_shape_143 : decode cX8_shape 143 = .ok (.ireturn, 1) := by decide +kernel
theorem dX8_fieldOf_0 : decode cX8_fieldOf 0 = .ok (.iconst 0, 1) := by decide +kernel
theorem dX8_fieldOf_1 : decode cX8_fieldOf 1 = .ok (.istore 4, 2) := by decide +kernel
theorem dX8_fieldOf_3 : decode cX8_fieldOf 3 = .ok (.iload 4, 2) := by decide +kernel
theorem dX8_fieldOf_5 : decode cX8_fieldOf 5 = .ok (.aload_n 0, 1) := by decide +kernel
theorem dX8_fieldOf_6 : decode cX8_fieldOf 6 = .ok (.getfield 208, 3) := by decide +kernel
theorem dX8_fieldOf_9 : decode cX8_fieldOf 9 = .ok (.if_icmp .ge 35, 3) := by decide +kernel
theorem dX8_fieldOf_12 : decode cX8_fieldOf 12 = .ok (.aload_n 0, 1) := by decide +kernel
theorem dX8_fieldOf_13 : decode cX8_fieldOf 13 = .ok (.getfield 37, 3) := by decide +kernel
theorem dX8_fieldOf_16 : decode cX8_fieldOf 16 = .ok (.iload 4, 2) := by decide +kernel
theorem dX8_fieldOf_18 : decode cX8_fieldOf 18 = .ok (.iaload, 1) := by decide +kernel
theorem dX8_fieldOf_19 : decode cX8_fieldOf 19 = .ok (.iload_n 1, 1) := by decide +kernel
theorem dX8_fieldOf_20 : decode cX8_fieldOf 20 = .ok (.if_icmp .ne 18, 3) := by decide +kernel
theorem dX8_fieldOf_23 : decode cX8_fieldOf 23 = .ok (.aload_n 0, 1) := by decide +kernel
theorem dX8_fieldOf_24 : decode cX8_fieldOf 24 = .ok (.getfield 40, 3) := by decide +kernel
theorem dX8_fieldOf_27 : decode cX8_fieldOf 27 = .ok (.iload 4, 2) := by decide +kernel
theorem dX8_fieldOf_29 : decode cX8_fieldOf 29 = .ok (.laload, 1) := by decide +kernel
theorem dX8_fieldOf_30 : decode cX8_fieldOf 30 = .ok (.lload_n 2, 1) := by decide +kernel
theorem dX8_fieldOf_31 : decode cX8_fieldOf 31 = .ok (.lcmp, 1) := by decide +kernel
theorem dX8_fieldOf_32 : decode cX8_fieldOf 32 = .ok (.ifCond .ne 6, 3) := by decide +kernel
theorem dX8_fieldOf_35 : decode cX8_fieldOf 35 = .ok (.iload 4, 2) := by decide +kernel
theorem dX8_fieldOf_37 : decode cX8_fieldOf 37 = .ok (.ireturn, 1) := by decide +kernel
theorem dX8_fieldOf_38 : decode cX8_fieldOf 38 = .ok (.iinc 4 1, 3) := by decide +kernel
theorem dX8_fieldOf_41 : decode cX8_fieldOf 41 = .ok (.goto (-38), 3) := by decide +kernel
theorem dX8_fieldOf_44 : decode cX8_fieldOf 44 = .ok (.iconst (-1), 1) := by decide +kernel
theorem dX8_fieldOf_45 : decode cX8_fieldOf 45 = .ok (.ireturn, 1) := by decide +kernel
theorem dX8_hasNode_0 : decode cX8_hasNode 0 = .ok (.iload_n 1, 1) := by decide +kernel
theorem dX8_hasNode_1 : decode cX8_hasNode 1 = .ok (.iconst 1, 1) := by decide +kernel
theorem dX8_hasNode_2 : decode cX8_hasNode 2 = .ok (.iadd, 1) := by decide +kernel
theorem dX8_hasNode_3 : decode cX8_hasNode 3 = .ok (.istore_n 3, 1) := by decide +kernel
theorem dX8_hasNode_4 : decode cX8_hasNode 4 = .ok (.iload_n 3, 1) := by decide +kernel
theorem dX8_hasNode_5 : decode cX8_hasNode 5 = .ok (.aload_n 0, 1) := by decide +kernel
theorem dX8_hasNode_6 : decode cX8_hasNode 6 = .ok (.getfield 217, 3) := by decide +kernel
theorem dX8_hasNode_9 : decode cX8_hasNode 9 = .ok (.if_icmp .ge 31, 3) := by decide +kernel
theorem dX8_hasNode_12 : decode cX8_hasNode 12 = .ok (.aload_n 0, 1) := by decide +kernel
theorem dX8_hasNode_13 : decode cX8_hasNode 13 = .ok (.getfield 80, 3) := by decide +kernel
theorem dX8_hasNode_16 : decode cX8_hasNode 16 = .ok (.iload_n 3, 1) := by decide +kernel
theorem dX8_hasNode_17 : decode cX8_hasNode 17 = .ok (.iaload, 1) := by decide +kernel
theorem dX8_hasNode_18 : decode cX8_hasNode 18 = .ok (.iload_n 1, 1) := by decide +kernel
theorem dX8_hasNode_19 : decode cX8_hasNode 19 = .ok (.if_icmp .ne 15, 3) := by decide +kernel
theorem dX8_hasNode_22 : decode cX8_hasNode 22 = .ok (.aload_n 0, 1) := by decide +kernel
theorem dX8_hasNode_23 : decode cX8_hasNode 23 = .ok (.getfield 77, 3) := by decide +kernel
theorem dX8_hasNode_26 : decode cX8_hasNode 26 = .ok (.iload_n 3, 1) := by decide +kernel
theorem dX8_hasNode_27 : decode cX8_hasNode 27 = .ok (.iaload, 1) := by decide +kernel
theorem dX8_hasNode_28 : decode cX8_hasNode 28 = .ok (.iload_n 2, 1) := by decide +kernel
theorem dX8_hasNode_29 : decode cX8_hasNode 29 = .ok (.if_icmp .ne 5, 3) := by decide +kernel
theorem dX8_hasNode_32 : decode cX8_hasNode 32 = .ok (.iconst 1, 1) := by decide +kernel
theorem dX8_hasNode_33 : decode cX8_hasNode 33 = .ok (.ireturn, 1) := by decide +kernel
theorem dX8_hasNode_34 : decode cX8_hasNode 34 = .ok (.iinc 3 1, 3) := by decide +kernel
theorem dX8_hasNode_37 : decode cX8_hasNode 37 = .ok (.goto (-33), 3) := by decide +kernel
theorem dX8_hasNode_40 : decode cX8_hasNode 40 = .ok (.iconst 0, 1) := by decide +kernel
theorem dX8_hasNode_41 : decode cX8_hasNode 41 = .ok (.ireturn, 1) := by decide +kernel
theorem dX8_node_0 : decode cX8_node 0 = .ok (.aload_n 0, 1) := by decide +kernel
theorem dX8_node_1 : decode cX8_node 1 = .ok (.getfield 77, 3) := by decide +kernel
theorem dX8_node_4 : decode cX8_node 4 = .ok (.aload_n 0, 1) := by decide +kernel
theorem dX8_node_5 : decode cX8_node 5 = .ok (.getfield 217, 3) := by decide +kernel
theorem dX8_node_8 : decode cX8_node 8 = .ok (.iload_n 1, 1) := by decide +kernel
theorem dX8_node_9 : decode cX8_node 9 = .ok (.iastore, 1) := by decide +kernel
theorem dX8_node_10 : decode cX8_node 10 = .ok (.aload_n 0, 1) := by decide +kernel
theorem dX8_node_11 : decode cX8_node 11 = .ok (.getfield 80, 3) := by decide +kernel
theorem dX8_node_14 : decode cX8_node 14 = .ok (.aload_n 0, 1) := by decide +kernel
theorem dX8_node_15 : decode cX8_node 15 = .ok (.getfield 217, 3) := by decide +kernel
theorem dX8_node_18 : decode cX8_node 18 = .ok (.iload_n 2, 1) := by decide +kernel
theorem dX8_node_19 : decode cX8_node 19 = .ok (.iastore, 1) := by decide +kernel
theorem dX8_node_20 : decode cX8_node 20 = .ok (.aload_n 0, 1) := by decide +kernel
theorem dX8_node_21 : decode cX8_node 21 = .ok (.getfield 83, 3) := by decide +kernel
theorem dX8_node_24 : decode cX8_node 24 = .ok (.aload_n 0, 1) := by decide +kernel
theorem dX8_node_25 : decode cX8_node 25 = .ok (.getfield 217, 3) := by decide +kernel
theorem dX8_node_28 : decode cX8_node 28 = .ok (.lload_n 3, 1) := by decide +kernel
theorem dX8_node_29 : decode cX8_node 29 = .ok (.lastore, 1) := by decide +kernel
theorem dX8_node_30 : decode cX8_node 30 = .ok (.aload_n 0, 1) := by decide +kernel
theorem dX8_node_31 : decode cX8_node 31 = .ok (.dup, 1) := by decide +kernel
theorem dX8_node_32 : decode cX8_node 32 = .ok (.getfield 217, 3) := by decide +kernel
theorem dX8_node_35 : decode cX8_node 35 = .ok (.iconst 1, 1) := by decide +kernel
theorem dX8_node_36 : decode cX8_node 36 = .ok (.iadd, 1) := by decide +kernel
theorem dX8_node_37 : decode cX8_node 37 = .ok (.putfield 217, 3) := by decide +kernel
theorem dX8_node_40 : decode cX8_node 40 = .ok (.aload_n 0, 1) := by decide +kernel
theorem dX8_node_41 : decode cX8_node 41 = .ok (.getfield 217, 3) := by decide +kernel
theorem dX8_node_44 : decode cX8_node 44 = .ok (.iconst 1, 1) := by decide +kernel
theorem dX8_node_45 : decode cX8_node 45 = .ok (.isub, 1) := by decide +kernel
theorem dX8_node_46 : decode cX8_node 46 = .ok (.ireturn, 1) := by decide +kernel
theorem dX8_lacks_0 : decode cX8_lacks 0 = .ok (.iconst 0, 1) := by decide +kernel
theorem dX8_lacks_1 : decode cX8_lacks 1 = .ok (.istore_n 2, 1) := by decide +kernel
theorem dX8_lacks_2 : decode cX8_lacks 2 = .ok (.iload_n 2, 1) := by decide +kernel
theorem dX8_lacks_3 : decode cX8_lacks 3 = .ok (.aload_n 0, 1) := by decide +kernel
theorem dX8_lacks_4 : decode cX8_lacks 4 = .ok (.getfield 208, 3) := by decide +kernel
theorem dX8_lacks_7 : decode cX8_lacks 7 = .ok (.if_icmp .ge 44, 3) := by decide +kernel
theorem dX8_lacks_10 : decode cX8_lacks 10 = .ok (.aload_n 0, 1) := by decide +kernel
theorem dX8_lacks_11 : decode cX8_lacks 11 = .ok (.getfield 37, 3) := by decide +kernel
theorem dX8_lacks_14 : decode cX8_lacks 14 = .ok (.iload_n 2, 1) := by decide +kernel
theorem dX8_lacks_15 : decode cX8_lacks 15 = .ok (.iaload, 1) := by decide +kernel
theorem dX8_lacks_16 : decode cX8_lacks 16 = .ok (.aload_n 0, 1) := by decide +kernel
theorem dX8_lacks_17 : decode cX8_lacks 17 = .ok (.getfield 77, 3) := by decide +kernel
theorem dX8_lacks_20 : decode cX8_lacks 20 = .ok (.iload_n 1, 1) := by decide +kernel
theorem dX8_lacks_21 : decode cX8_lacks 21 = .ok (.iaload, 1) := by decide +kernel
theorem dX8_lacks_22 : decode cX8_lacks 22 = .ok (.if_icmp .ne 23, 3) := by decide +kernel
theorem dX8_lacks_25 : decode cX8_lacks 25 = .ok (.aload_n 0, 1) := by decide +kernel
theorem dX8_lacks_26 : decode cX8_lacks 26 = .ok (.getfield 47, 3) := by decide +kernel
theorem dX8_lacks_29 : decode cX8_lacks 29 = .ok (.iload_n 2, 1) := by decide +kernel
theorem dX8_lacks_30 : decode cX8_lacks 30 = .ok (.iaload, 1) := by decide +kernel
theorem dX8_lacks_31 : decode cX8_lacks 31 = .ok (.ifCond .ne 14, 3) := by decide +kernel
theorem dX8_lacks_34 : decode cX8_lacks 34 = .ok (.aload_n 0, 1) := by decide +kernel
theorem dX8_lacks_35 : decode cX8_lacks 35 = .ok (.iload_n 1, 1) := by decide +kernel
theorem dX8_lacks_36 : decode cX8_lacks 36 = .ok (.iload_n 2, 1) := by decide +kernel
theorem dX8_lacks_37 : decode cX8_lacks 37 = .ok (.invokevirtual 220, 3) := by decide +kernel
theorem dX8_lacks_40 : decode cX8_lacks 40 = .ok (.ifCond .ne 5, 3) := by decide +kernel
theorem dX8_lacks_43 : decode cX8_lacks 43 = .ok (.iconst 1, 1) := by decide +kernel
theorem dX8_lacks_44 : decode cX8_lacks 44 = .ok (.ireturn, 1) := by decide +kernel
theorem dX8_lacks_45 : decode cX8_lacks 45 = .ok (.iinc 2 1, 3) := by decide +kernel
theorem dX8_lacks_48 : decode cX8_lacks 48 = .ok (.goto (-46), 3) := by decide +kernel
theorem dX8_lacks_51 : decode cX8_lacks 51 = .ok (.iconst 0, 1) := by decide +kernel
theorem dX8_lacks_52 : decode cX8_lacks 52 = .ok (.ireturn, 1) := by decide +kernel
theorem dX8_number_0 : decode cX8_number 0 = .ok (.aload_n 0, 1) := by decide +kernel
theorem dX8_number_1 : decode cX8_number 1 = .ok (.getfield 7, 3) := by decide +kernel
theorem dX8_number_4 : decode cX8_number 4 = .ok (.aload_n 0, 1) := by decide +kernel
theorem dX8_number_5 : decode cX8_number 5 = .ok (.getfield 138, 3) := by decide +kernel
theorem dX8_number_8 : decode cX8_number 8 = .ok (.iaload, 1) := by decide +kernel
theorem dX8_number_9 : decode cX8_number 9 = .ok (.bipush 45, 2) := by decide +kernel
theorem dX8_number_11 : decode cX8_number 11 = .ok (.if_icmp .ne 7, 3) := by decide +kernel
theorem dX8_number_14 : decode cX8_number 14 = .ok (.iconst 1, 1) := by decide +kernel
theorem dX8_number_15 : decode cX8_number 15 = .ok (.goto 4, 3) := by decide +kernel
theorem dX8_number_18 : decode cX8_number 18 = .ok (.iconst 0, 1) := by decide +kernel
theorem dX8_number_19 : decode cX8_number 19 = .ok (.istore_n 1, 1) := by decide +kernel
theorem dX8_number_20 : decode cX8_number 20 = .ok (.iload_n 1, 1) := by decide +kernel
theorem dX8_number_21 : decode cX8_number 21 = .ok (.ifCond .eq 13, 3) := by decide +kernel
theorem dX8_number_24 : decode cX8_number 24 = .ok (.aload_n 0, 1) := by decide +kernel
theorem dX8_number_25 : decode cX8_number 25 = .ok (.dup, 1) := by decide +kernel
theorem dX8_number_26 : decode cX8_number 26 = .ok (.getfield 138, 3) := by decide +kernel
theorem dX8_number_29 : decode cX8_number 29 = .ok (.iconst 1, 1) := by decide +kernel
theorem dX8_number_30 : decode cX8_number 30 = .ok (.iadd, 1) := by decide +kernel
theorem dX8_number_31 : decode cX8_number 31 = .ok (.putfield 138, 3) := by decide +kernel
theorem dX8_number_34 : decode cX8_number 34 = .ok (.aload_n 0, 1) := by decide +kernel
theorem dX8_number_35 : decode cX8_number 35 = .ok (.getfield 138, 3) := by decide +kernel
theorem dX8_number_38 : decode cX8_number 38 = .ok (.istore_n 2, 1) := by decide +kernel
theorem dX8_number_39 : decode cX8_number 39 = .ok (.lconst 0, 1) := by decide +kernel
theorem dX8_number_40 : decode cX8_number 40 = .ok (.lstore_n 3, 1) := by decide +kernel
theorem dX8_number_41 : decode cX8_number 41 = .ok (.aload_n 0, 1) := by decide +kernel
theorem dX8_number_42 : decode cX8_number 42 = .ok (.getfield 138, 3) := by decide +kernel
theorem dX8_number_45 : decode cX8_number 45 = .ok (.aload_n 0, 1) := by decide +kernel
theorem dX8_number_46 : decode cX8_number 46 = .ok (.getfield 141, 3) := by decide +kernel
theorem dX8_number_49 : decode cX8_number 49 = .ok (.if_icmp .ge 74, 3) := by decide +kernel
theorem dX8_number_52 : decode cX8_number 52 = .ok (.aload_n 0, 1) := by decide +kernel
theorem dX8_number_53 : decode cX8_number 53 = .ok (.getfield 7, 3) := by decide +kernel
theorem dX8_number_56 : decode cX8_number 56 = .ok (.aload_n 0, 1) := by decide +kernel
theorem dX8_number_57 : decode cX8_number 57 = .ok (.getfield 138, 3) := by decide +kernel
theorem dX8_number_60 : decode cX8_number 60 = .ok (.iaload, 1) := by decide +kernel
theorem dX8_number_61 : decode cX8_number 61 = .ok (.invokestatic 224, 3) := by decide +kernel
theorem dX8_number_64 : decode cX8_number 64 = .ok (.ifCond .eq 59, 3) := by decide +kernel
theorem dX8_number_67 : decode cX8_number 67 = .ok (.aload_n 0, 1) := by decide +kernel
theorem dX8_number_68 : decode cX8_number 68 = .ok (.getfield 138, 3) := by decide +kernel
theorem dX8_number_71 : decode cX8_number 71 = .ok (.iload_n 2, 1) := by decide +kernel
theorem dX8_number_72 : decode cX8_number 72 = .ok (.isub, 1) := by decide +kernel
theorem dX8_number_73 : decode cX8_number 73 = .ok (.bipush 6, 2) := by decide +kernel
theorem dX8_number_75 : decode cX8_number 75 = .ok (.if_icmp .ne 14, 3) := by decide +kernel
theorem dX8_number_78 : decode cX8_number 78 = .ok (.aload_n 0, 1) := by decide +kernel
theorem dX8_number_79 : decode cX8_number 79 = .ok (.iconst 1, 1) := by decide +kernel
theorem dX8_number_80 : decode cX8_number 80 = .ok (.aload_n 0, 1) := by decide +kernel
theorem dX8_number_81 : decode cX8_number 81 = .ok (.getfield 138, 3) := by decide +kernel
theorem dX8_number_84 : decode cX8_number 84 = .ok (.invokevirtual 148, 3) := by decide +kernel
theorem dX8_number_87 : decode cX8_number 87 = .ok (.lconst 0, 1) := by decide +kernel
theorem dX8_number_88 : decode cX8_number 88 = .ok (.lreturn, 1) := by decide +kernel
theorem dX8_number_89 : decode cX8_number 89 = .ok (.ldc2_w 227, 3) := by decide +kernel
theorem dX8_number_92 : decode cX8_number 92 = .ok (.lload_n 3, 1) := by decide +kernel
theorem dX8_number_93 : decode cX8_number 93 = .ok (.lmul, 1) := by decide +kernel
theorem dX8_number_94 : decode cX8_number 94 = .ok (.aload_n 0, 1) := by decide +kernel
theorem dX8_number_95 : decode cX8_number 95 = .ok (.getfield 7, 3) := by decide +kernel
theorem dX8_number_98 : decode cX8_number 98 = .ok (.aload_n 0, 1) := by decide +kernel
theorem dX8_number_99 : decode cX8_number 99 = .ok (.getfield 138, 3) := by decide +kernel
theorem dX8_number_102 : decode cX8_number 102 = .ok (.iaload, 1) := by decide +kernel
theorem dX8_number_103 : decode cX8_number 103 = .ok (.i2l, 1) := by decide +kernel
theorem dX8_number_104 : decode cX8_number 104 = .ok (.ladd, 1) := by decide +kernel
theorem dX8_number_105 : decode cX8_number 105 = .ok (.ldc2_w 229, 3) := by decide +kernel
theorem dX8_number_108 : decode cX8_number 108 = .ok (.lsub, 1) := by decide +kernel
theorem dX8_number_109 : decode cX8_number 109 = .ok (.lstore_n 3, 1) := by decide +kernel
theorem dX8_number_110 : decode cX8_number 110 = .ok (.aload_n 0, 1) := by decide +kernel
theorem dX8_number_111 : decode cX8_number 111 = .ok (.dup, 1) := by decide +kernel
theorem dX8_number_112 : decode cX8_number 112 = .ok (.getfield 138, 3) := by decide +kernel
theorem dX8_number_115 : decode cX8_number 115 = .ok (.iconst 1, 1) := by decide +kernel
theorem dX8_number_116 : decode cX8_number 116 = .ok (.iadd, 1) := by decide +kernel
theorem dX8_number_117 : decode cX8_number 117 = .ok (.putfield 138, 3) := by decide +kernel
theorem dX8_number_120 : decode cX8_number 120 = .ok (.goto (-79), 3) := by decide +kernel
theorem dX8_number_123 : decode cX8_number 123 = .ok (.aload_n 0, 1) := by decide +kernel
theorem dX8_number_124 : decode cX8_number 124 = .ok (.getfield 138, 3) := by decide +kernel
theorem dX8_number_127 : decode cX8_number 127 = .ok (.iload_n 2, 1) := by decide +kernel
theorem dX8_number_128 : decode cX8_number 128 = .ok (.if_icmp .ne 12, 3) := by decide +kernel
theorem dX8_number_131 : decode cX8_number 131 = .ok (.aload_n 0, 1) := by decide +kernel
theorem dX8_number_132 : decode cX8_number 132 = .ok (.iconst 1, 1) := by decide +kernel
theorem dX8_number_133 : decode cX8_number 133 = .ok (.aload_n 0, 1) := by decide +kernel
theorem dX8_number_134 : decode cX8_number 134 = .ok (.getfield 138, 3) := by decide +kernel
theorem dX8_number_137 : decode cX8_number 137 = .ok (.invokevirtual 148, 3) := by decide +kernel
theorem dX8_number_140 : decode cX8_number 140 = .ok (.iload_n 1, 1) := by decide +kernel
theorem dX8_number_141 : decode cX8_number 141 = .ok (.ifCond .eq 8, 3) := by decide +kernel
theorem dX8_number_144 : decode cX8_number 144 = .ok (.lload_n 3, 1) := by decide +kernel
theorem dX8_number_145 : decode cX8_number 145 = .ok (.lneg, 1) := by decide +kernel
theorem dX8_number_146 : decode cX8_number 146 = .ok (.goto 4, 3) := by decide +kernel
theorem dX8_number_149 : decode cX8_number 149 = .ok (.lload_n 3, 1) := by decide +kernel
theorem dX8_number_150 : decode cX8_number 150 = .ok (.lreturn, 1) := by decide +kernel
theorem dX8_entry_0 : decode cX8_entry 0 = .ok (.aload_n 0, 1) := by decide +kernel
theorem dX8_entry_1 : decode cX8_entry 1 = .ok (.invokevirtual 144, 3) := by decide +kernel
theorem dX8_entry_4 : decode cX8_entry 4 = .ok (.pop, 1) := by decide +kernel
theorem dX8_entry_5 : decode cX8_entry 5 = .ok (.aload_n 0, 1) := by decide +kernel
theorem dX8_entry_6 : decode cX8_entry 6 = .ok (.getfield 138, 3) := by decide +kernel
theorem dX8_entry_9 : decode cX8_entry 9 = .ok (.istore_n 1, 1) := by decide +kernel
theorem dX8_entry_10 : decode cX8_entry 10 = .ok (.aload_n 0, 1) := by decide +kernel
theorem dX8_entry_11 : decode cX8_entry 11 = .ok (.invokevirtual 165, 3) := by decide +kernel
theorem dX8_entry_14 : decode cX8_entry 14 = .ok (.lstore_n 2, 1) := by decide +kernel
theorem dX8_entry_15 : decode cX8_entry 15 = .ok (.aload_n 0, 1) := by decide +kernel
theorem dX8_entry_16 : decode cX8_entry 16 = .ok (.getfield 132, 3) := by decide +kernel
theorem dX8_entry_19 : decode cX8_entry 19 = .ok (.ifCond .eq 4, 3) := by decide +kernel
theorem dX8_entry_22 : decode cX8_entry 22 = .ok (.return_, 1) := by decide +kernel
theorem dX8_entry_23 : decode cX8_entry 23 = .ok (.aload_n 0, 1) := by decide +kernel
theorem dX8_entry_24 : decode cX8_entry 24 = .ok (.getfield 68, 3) := by decide +kernel
theorem dX8_entry_27 : decode cX8_entry 27 = .ok (.aload_n 0, 1) := by decide +kernel
theorem dX8_entry_28 : decode cX8_entry 28 = .ok (.getfield 180, 3) := by decide +kernel
theorem dX8_entry_31 : decode cX8_entry 31 = .ok (.iaload, 1) := by decide +kernel
theorem dX8_entry_32 : decode cX8_entry 32 = .ok (.istore 4, 2) := by decide +kernel
theorem dX8_entry_34 : decode cX8_entry 34 = .ok (.aload_n 0, 1) := by decide +kernel
theorem dX8_entry_35 : decode cX8_entry 35 = .ok (.aload_n 0, 1) := by decide +kernel
theorem dX8_entry_36 : decode cX8_entry 36 = .ok (.getfield 77, 3) := by decide +kernel
theorem dX8_entry_39 : decode cX8_entry 39 = .ok (.iload 4, 2) := by decide +kernel
theorem dX8_entry_41 : decode cX8_entry 41 = .ok (.iaload, 1) := by decide +kernel
theorem dX8_entry_42 : decode cX8_entry 42 = .ok (.lload_n 2, 1) := by decide +kernel
theorem dX8_entry_43 : decode cX8_entry 43 = .ok (.invokevirtual 231, 3) := by decide +kernel
theorem dX8_entry_46 : decode cX8_entry 46 = .ok (.istore 5, 2) := by decide +kernel
theorem dX8_entry_48 : decode cX8_entry 48 = .ok (.iload 5, 2) := by decide +kernel
theorem dX8_entry_50 : decode cX8_entry 50 = .ok (.iconst (-1), 1) := by decide +kernel
theorem dX8_entry_51 : decode cX8_entry 51 = .ok (.if_icmp .ne 12, 3) := by decide +kernel
theorem dX8_entry_54 : decode cX8_entry 54 = .ok (.aload_n 0, 1) := by decide +kernel
theorem dX8_entry_55 : decode cX8_entry 55 = .ok (.iconst 2, 1) := by decide +kernel
theorem dX8_entry_56 : decode cX8_entry 56 = .ok (.iload_n 1, 1) := by decide +kernel
theorem dX8_entry_57 : decode cX8_entry 57 = .ok (.invokevirtual 148, 3) := by decide +kernel
theorem dX8_entry_60 : decode cX8_entry 60 = .ok (.goto 31, 3) := by decide +kernel
theorem dX8_entry_63 : decode cX8_entry 63 = .ok (.aload_n 0, 1) := by decide +kernel
theorem dX8_entry_64 : decode cX8_entry 64 = .ok (.getfield 47, 3) := by decide +kernel
theorem dX8_entry_67 : decode cX8_entry 67 = .ok (.iload 5, 2) := by decide +kernel
theorem dX8_entry_69 : decode cX8_entry 69 = .ok (.iaload, 1) := by decide +kernel
theorem dX8_entry_70 : decode cX8_entry 70 = .ok (.iconst 2, 1) := by decide +kernel
theorem dX8_entry_71 : decode cX8_entry 71 = .ok (.if_icmp .eq 20, 3) := by decide +kernel
theorem dX8_entry_74 : decode cX8_entry 74 = .ok (.aload_n 0, 1) := by decide +kernel
theorem dX8_entry_75 : decode cX8_entry 75 = .ok (.iload 4, 2) := by decide +kernel
theorem dX8_entry_77 : decode cX8_entry 77 = .ok (.iload 5, 2) := by decide +kernel
theorem dX8_entry_79 : decode cX8_entry 79 = .ok (.invokevirtual 220, 3) := by decide +kernel
theorem dX8_entry_82 : decode cX8_entry 82 = .ok (.ifCond .eq 9, 3) := by decide +kernel
theorem dX8_entry_85 : decode cX8_entry 85 = .ok (.aload_n 0, 1) := by decide +kernel
theorem dX8_entry_86 : decode cX8_entry 86 = .ok (.iconst 3, 1) := by decide +kernel
theorem dX8_entry_87 : decode cX8_entry 87 = .ok (.iload_n 1, 1) := by decide +kernel
theorem dX8_entry_88 : decode cX8_entry 88 = .ok (.invokevirtual 148, 3) := by decide +kernel
theorem dX8_entry_91 : decode cX8_entry 91 = .ok (.aload_n 0, 1) := by decide +kernel
theorem dX8_entry_92 : decode cX8_entry 92 = .ok (.getfield 132, 3) := by decide +kernel
theorem dX8_entry_95 : decode cX8_entry 95 = .ok (.ifCond .ne 9, 3) := by decide +kernel
theorem dX8_entry_98 : decode cX8_entry 98 = .ok (.aload_n 0, 1) := by decide +kernel
theorem dX8_entry_99 : decode cX8_entry 99 = .ok (.bipush 58, 2) := by decide +kernel
theorem dX8_entry_101 : decode cX8_entry 101 = .ok (.invokevirtual 169, 3) := by decide +kernel
theorem dX8_entry_104 : decode cX8_entry 104 = .ok (.aload_n 0, 1) := by decide +kernel
theorem dX8_entry_105 : decode cX8_entry 105 = .ok (.getfield 132, 3) := by decide +kernel
theorem dX8_entry_108 : decode cX8_entry 108 = .ok (.ifCond .eq 4, 3) := by decide +kernel
theorem dX8_entry_111 : decode cX8_entry 111 = .ok (.return_, 1) := by decide +kernel
theorem dX8_entry_112 : decode cX8_entry 112 = .ok (.aload_n 0, 1) := by decide +kernel
theorem dX8_entry_113 : decode cX8_entry 113 = .ok (.invokevirtual 144, 3) := by decide +kernel
theorem dX8_entry_116 : decode cX8_entry 116 = .ok (.istore 6, 2) := by decide +kernel
theorem dX8_entry_118 : decode cX8_entry 118 = .ok (.iload 6, 2) := by decide +kernel
theorem dX8_entry_120 : decode cX8_entry 120 = .ok (.invokestatic 224, 3) := by decide +kernel
theorem dX8_entry_123 : decode cX8_entry 123 = .ok (.ifCond .ne 10, 3) := by decide +kernel
theorem dX8_entry_126 : decode cX8_entry 126 = .ok (.iload 6, 2) := by decide +kernel
theorem dX8_entry_128 : decode cX8_entry 128 = .ok (.bipush 45, 2) := by decide +kernel
theorem dX8_entry_130 : decode cX8_entry 130 = .ok (.if_icmp .ne 7, 3) := by decide +kernel
theorem dX8_entry_133 : decode cX8_entry 133 = .ok (.iconst 0, 1) := by decide +kernel
theorem dX8_entry_134 : decode cX8_entry 134 = .ok (.goto 27, 3) := by decide +kernel
theorem dX8_entry_137 : decode cX8_entry 137 = .ok (.iload 6, 2) := by decide +kernel
theorem dX8_entry_139 : decode cX8_entry 139 = .ok (.invokestatic 152, 3) := by decide +kernel
theorem dX8_entry_142 : decode cX8_entry 142 = .ok (.ifCond .eq 7, 3) := by decide +kernel
theorem dX8_entry_145 : decode cX8_entry 145 = .ok (.iconst 1, 1) := by decide +kernel
theorem dX8_entry_146 : decode cX8_entry 146 = .ok (.goto 15, 3) := by decide +kernel
theorem dX8_entry_149 : decode cX8_entry 149 = .ok (.iload 6, 2) := by decide +kernel
theorem dX8_entry_151 : decode cX8_entry 151 = .ok (.bipush 91, 2) := by decide +kernel
theorem dX8_entry_153 : decode cX8_entry 153 = .ok (.if_icmp .ne 7, 3) := by decide +kernel
theorem dX8_entry_156 : decode cX8_entry 156 = .ok (.iconst 2, 1) := by decide +kernel
theorem dX8_entry_157 : decode cX8_entry 157 = .ok (.goto 4, 3) := by decide +kernel
theorem dX8_entry_160 : decode cX8_entry 160 = .ok (.iconst (-1), 1) := by decide +kernel
theorem dX8_entry_161 : decode cX8_entry 161 = .ok (.istore 7, 2) := by decide +kernel
theorem dX8_entry_163 : decode cX8_entry 163 = .ok (.iload 7, 2) := by decide +kernel
theorem dX8_entry_165 : decode cX8_entry 165 = .ok (.iconst (-1), 1) := by decide +kernel
theorem dX8_entry_166 : decode cX8_entry 166 = .ok (.if_icmp .ne 15, 3) := by decide +kernel
theorem dX8_entry_169 : decode cX8_entry 169 = .ok (.aload_n 0, 1) := by decide +kernel
theorem dX8_entry_170 : decode cX8_entry 170 = .ok (.iconst 1, 1) := by decide +kernel
theorem dX8_entry_171 : decode cX8_entry 171 = .ok (.aload_n 0, 1) := by decide +kernel
theorem dX8_entry_172 : decode cX8_entry 172 = .ok (.getfield 138, 3) := by decide +kernel
theorem dX8_entry_175 : decode cX8_entry 175 = .ok (.invokevirtual 148, 3) := by decide +kernel
theorem dX8_entry_178 : decode cX8_entry 178 = .ok (.goto 24, 3) := by decide +kernel
theorem dX8_entry_181 : decode cX8_entry 181 = .ok (.iload 7, 2) := by decide +kernel
theorem dX8_entry_183 : decode cX8_entry 183 = .ok (.aload_n 0, 1) := by decide +kernel
theorem dX8_entry_184 : decode cX8_entry 184 = .ok (.getfield 44, 3) := by decide +kernel
theorem dX8_entry_187 : decode cX8_entry 187 = .ok (.iload 5, 2) := by decide +kernel
theorem dX8_entry_189 : decode cX8_entry 189 = .ok (.iaload, 1) := by decide +kernel
theorem dX8_entry_190 : decode cX8_entry 190 = .ok (.if_icmp .eq 12, 3) := by decide +kernel
theorem dX8_entry_193 : decode cX8_entry 193 = .ok (.aload_n 0, 1) := by decide +kernel
theorem dX8_entry_194 : decode cX8_entry 194 = .ok (.iconst 5, 1) := by decide +kernel
theorem dX8_entry_195 : decode cX8_entry 195 = .ok (.aload_n 0, 1) := by decide +kernel
theorem dX8_entry_196 : decode cX8_entry 196 = .ok (.getfield 138, 3) := by decide +kernel
theorem dX8_entry_199 : decode cX8_entry 199 = .ok (.invokevirtual 148, 3) := by decide +kernel
theorem dX8_entry_202 : decode cX8_entry 202 = .ok (.aload_n 0, 1) := by decide +kernel
theorem dX8_entry_203 : decode cX8_entry 203 = .ok (.getfield 132, 3) := by decide +kernel
theorem dX8_entry_206 : decode cX8_entry 206 = .ok (.ifCond .eq 4, 3) := by decide +kernel
theorem dX8_entry_209 : decode cX8_entry 209 = .ok (.return_, 1) := by decide +kernel
theorem dX8_entry_210 : decode cX8_entry 210 = .ok (.iload 7, 2) := by decide +kernel
theorem dX8_entry_212 : decode cX8_entry 212 = .ok (.iconst 2, 1) := by decide +kernel
theorem dX8_entry_213 : decode cX8_entry 213 = .ok (.if_icmp .ne 42, 3) := by decide +kernel
theorem dX8_entry_216 : decode cX8_entry 216 = .ok (.aload_n 0, 1) := by decide +kernel
theorem dX8_entry_217 : decode cX8_entry 217 = .ok (.dup, 1) := by decide +kernel
theorem dX8_entry_218 : decode cX8_entry 218 = .ok (.getfield 138, 3) := by decide +kernel
theorem dX8_entry_221 : decode cX8_entry 221 = .ok (.iconst 1, 1) := by decide +kernel
theorem dX8_entry_222 : decode cX8_entry 222 = .ok (.iadd, 1) := by decide +kernel
theorem dX8_entry_223 : decode cX8_entry 223 = .ok (.putfield 138, 3) := by decide +kernel
theorem dX8_entry_226 : decode cX8_entry 226 = .ok (.aload_n 0, 1) := by decide +kernel
theorem dX8_entry_227 : decode cX8_entry 227 = .ok (.dup, 1) := by decide +kernel
theorem dX8_entry_228 : decode cX8_entry 228 = .ok (.getfield 180, 3) := by decide +kernel
theorem dX8_entry_231 : decode cX8_entry 231 = .ok (.iconst 1, 1) := by decide +kernel
theorem dX8_entry_232 : decode cX8_entry 232 = .ok (.iadd, 1) := by decide +kernel
theorem dX8_entry_233 : decode cX8_entry 233 = .ok (.putfield 180, 3) := by decide +kernel
theorem dX8_entry_236 : decode cX8_entry 236 = .ok (.aload_n 0, 1) := by decide +kernel
theorem dX8_entry_237 : decode cX8_entry 237 = .ok (.getfield 68, 3) := by decide +kernel
theorem dX8_entry_240 : decode cX8_entry 240 = .ok (.aload_n 0, 1) := by decide +kernel
theorem dX8_entry_241 : decode cX8_entry 241 = .ok (.getfield 180, 3) := by decide +kernel
theorem dX8_entry_244 : decode cX8_entry 244 = .ok (.aload_n 0, 1) := by decide +kernel
theorem dX8_entry_245 : decode cX8_entry 245 = .ok (.iload 5, 2) := by decide +kernel
theorem dX8_entry_247 : decode cX8_entry 247 = .ok (.iload 4, 2) := by decide +kernel
theorem dX8_entry_249 : decode cX8_entry 249 = .ok (.lconst 0, 1) := by decide +kernel
theorem dX8_entry_250 : decode cX8_entry 250 = .ok (.invokevirtual 235, 3) := by decide +kernel
theorem dX8_entry_253 : decode cX8_entry 253 = .ok (.iastore, 1) := by decide +kernel
theorem dX8_entry_254 : decode cX8_entry 254 = .ok (.return_, 1) := by decide +kernel
theorem dX8_entry_255 : decode cX8_entry 255 = .ok (.iload 7, 2) := by decide +kernel
theorem dX8_entry_257 : decode cX8_entry 257 = .ok (.ifCond .ne 10, 3) := by decide +kernel
theorem dX8_entry_260 : decode cX8_entry 260 = .ok (.aload_n 0, 1) := by decide +kernel
theorem dX8_entry_261 : decode cX8_entry 261 = .ok (.invokevirtual 239, 3) := by decide +kernel
theorem dX8_entry_264 : decode cX8_entry 264 = .ok (.goto 7, 3) := by decide +kernel
theorem dX8_entry_267 : decode cX8_entry 267 = .ok (.aload_n 0, 1) := by decide +kernel
theorem dX8_entry_268 : decode cX8_entry 268 = .ok (.invokevirtual 173, 3) := by decide +kernel
theorem dX8_entry_271 : decode cX8_entry 271 = .ok (.lstore 8, 2) := by decide +kernel
theorem dX8_entry_273 : decode cX8_entry 273 = .ok (.aload_n 0, 1) := by decide +kernel
theorem dX8_entry_274 : decode cX8_entry 274 = .ok (.getfield 132, 3) := by decide +kernel
theorem dX8_entry_277 : decode cX8_entry 277 = .ok (.ifCond .eq 4, 3) := by decide +kernel
theorem dX8_entry_280 : decode cX8_entry 280 = .ok (.return_, 1) := by decide +kernel
theorem dX8_entry_281 : decode cX8_entry 281 = .ok (.aload_n 0, 1) := by decide +kernel
theorem dX8_entry_282 : decode cX8_entry 282 = .ok (.iload 5, 2) := by decide +kernel
theorem dX8_entry_284 : decode cX8_entry 284 = .ok (.iload 4, 2) := by decide +kernel
theorem dX8_entry_286 : decode cX8_entry 286 = .ok (.lload 8, 2) := by decide +kernel
theorem dX8_entry_288 : decode cX8_entry 288 = .ok (.invokevirtual 235, 3) := by decide +kernel
theorem dX8_entry_291 : decode cX8_entry 291 = .ok (.pop, 1) := by decide +kernel
theorem dX8_entry_292 : decode cX8_entry 292 = .ok (.aload_n 0, 1) := by decide +kernel
theorem dX8_entry_293 : decode cX8_entry 293 = .ok (.bipush 59, 2) := by decide +kernel
theorem dX8_entry_295 : decode cX8_entry 295 = .ok (.invokevirtual 169, 3) := by decide +kernel
theorem dX8_entry_298 : decode cX8_entry 298 = .ok (.return_, 1) := by decide +kernel
theorem dX8_readsPaper_0 : decode cX8_readsPaper 0 = .ok (.aload_n 0, 1) := by decide +kernel
theorem dX8_readsPaper_1 : decode cX8_readsPaper 1 = .ok (.iconst 0, 1) := by decide +kernel
theorem dX8_readsPaper_2 : decode cX8_readsPaper 2 = .ok (.putfield 180, 3) := by decide +kernel
theorem dX8_readsPaper_5 : decode cX8_readsPaper 5 = .ok (.aload_n 0, 1) := by decide +kernel
theorem dX8_readsPaper_6 : decode cX8_readsPaper 6 = .ok (.aload_n 0, 1) := by decide +kernel
theorem dX8_readsPaper_7 : decode cX8_readsPaper 7 = .ok (.getfield 74, 3) := by decide +kernel
theorem dX8_readsPaper_10 : decode cX8_readsPaper 10 = .ok (.aload_n 0, 1) := by decide +kernel
theorem dX8_readsPaper_11 : decode cX8_readsPaper 11 = .ok (.getfield 214, 3) := by decide +kernel
theorem dX8_readsPaper_14 : decode cX8_readsPaper 14 = .ok (.iaload, 1) := by decide +kernel
theorem dX8_readsPaper_15 : decode cX8_readsPaper 15 = .ok (.putfield 217, 3) := by decide +kernel
theorem dX8_readsPaper_18 : decode cX8_readsPaper 18 = .ok (.aload_n 0, 1) := by decide +kernel
theorem dX8_readsPaper_19 : decode cX8_readsPaper 19 = .ok (.getfield 68, 3) := by decide +kernel
theorem dX8_readsPaper_22 : decode cX8_readsPaper 22 = .ok (.iconst 0, 1) := by decide +kernel
theorem dX8_readsPaper_23 : decode cX8_readsPaper 23 = .ok (.aload_n 0, 1) := by decide +kernel
theorem dX8_readsPaper_24 : decode cX8_readsPaper 24 = .ok (.iconst (-1), 1) := by decide +kernel
theorem dX8_readsPaper_25 : decode cX8_readsPaper 25 = .ok (.iconst (-1), 1) := by decide +kernel
theorem dX8_readsPaper_26 : decode cX8_readsPaper 26 = .ok (.lconst 0, 1) := by decide +kernel
theorem dX8_readsPaper_27 : decode cX8_readsPaper 27 = .ok (.invokevirtual 235, 3) := by decide +kernel
theorem dX8_readsPaper_30 : decode cX8_readsPaper 30 = .ok (.iastore, 1) := by decide +kernel
theorem dX8_readsPaper_31 : decode cX8_readsPaper 31 = .ok (.iconst 1, 1) := by decide +kernel
theorem dX8_readsPaper_32 : decode cX8_readsPaper 32 = .ok (.istore_n 1, 1) := by decide +kernel
theorem dX8_readsPaper_33 : decode cX8_readsPaper 33 = .ok (.iload_n 1, 1) := by decide +kernel
theorem dX8_readsPaper_34 : decode cX8_readsPaper 34 = .ok (.ifCond .eq 147, 3) := by decide +kernel
theorem dX8_readsPaper_37 : decode cX8_readsPaper 37 = .ok (.aload_n 0, 1) := by decide +kernel
theorem dX8_readsPaper_38 : decode cX8_readsPaper 38 = .ok (.getfield 132, 3) := by decide +kernel
theorem dX8_readsPaper_41 : decode cX8_readsPaper 41 = .ok (.ifCond .ne 140, 3) := by decide +kernel
theorem dX8_readsPaper_44 : decode cX8_readsPaper 44 = .ok (.aload_n 0, 1) := by decide +kernel
theorem dX8_readsPaper_45 : decode cX8_readsPaper 45 = .ok (.invokevirtual 144, 3) := by decide +kernel
theorem dX8_readsPaper_48 : decode cX8_readsPaper 48 = .ok (.istore_n 2, 1) := by decide +kernel
theorem dX8_readsPaper_49 : decode cX8_readsPaper 49 = .ok (.iload_n 2, 1) := by decide +kernel
theorem dX8_readsPaper_50 : decode cX8_readsPaper 50 = .ok (.iconst (-1), 1) := by decide +kernel
theorem dX8_readsPaper_51 : decode cX8_readsPaper 51 = .ok (.if_icmp .ne 49, 3) := by decide +kernel
theorem dX8_readsPaper_54 : decode cX8_readsPaper 54 = .ok (.iconst 0, 1) := by decide +kernel
theorem dX8_readsPaper_55 : decode cX8_readsPaper 55 = .ok (.istore_n 1, 1) := by decide +kernel
theorem dX8_readsPaper_56 : decode cX8_readsPaper 56 = .ok (.aload_n 0, 1) := by decide +kernel
theorem dX8_readsPaper_57 : decode cX8_readsPaper 57 = .ok (.getfield 180, 3) := by decide +kernel
theorem dX8_readsPaper_60 : decode cX8_readsPaper 60 = .ok (.ifCond .le 15, 3) := by decide +kernel
theorem dX8_readsPaper_63 : decode cX8_readsPaper 63 = .ok (.aload_n 0, 1) := by decide +kernel
theorem dX8_readsPaper_64 : decode cX8_readsPaper 64 = .ok (.iconst 1, 1) := by decide +kernel
theorem dX8_readsPaper_65 : decode cX8_readsPaper 65 = .ok (.aload_n 0, 1) := by decide +kernel
theorem dX8_readsPaper_66 : decode cX8_readsPaper 66 = .ok (.getfield 138, 3) := by decide +kernel
theorem dX8_readsPaper_69 : decode cX8_readsPaper 69 = .ok (.invokevirtual 148, 3) := by decide +kernel
theorem dX8_readsPaper_72 : decode cX8_readsPaper 72 = .ok (.goto 106, 3) := by decide +kernel
theorem dX8_readsPaper_75 : decode cX8_readsPaper 75 = .ok (.aload_n 0, 1) := by decide +kernel
theorem dX8_readsPaper_76 : decode cX8_readsPaper 76 = .ok (.aload_n 0, 1) := by decide +kernel
theorem dX8_readsPaper_77 : decode cX8_readsPaper 77 = .ok (.getfield 68, 3) := by decide +kernel
theorem dX8_readsPaper_80 : decode cX8_readsPaper 80 = .ok (.iconst 0, 1) := by decide +kernel
theorem dX8_readsPaper_81 : decode cX8_readsPaper 81 = .ok (.iaload, 1) := by decide +kernel
theorem dX8_readsPaper_82 : decode cX8_readsPaper 82 = .ok (.invokevirtual 242, 3) := by decide +kernel
theorem dX8_readsPaper_85 : decode cX8_readsPaper 85 = .ok (.ifCond .eq 93, 3) := by decide +kernel
theorem dX8_readsPaper_88 : decode cX8_readsPaper 88 = .ok (.aload_n 0, 1) := by decide +kernel
theorem dX8_readsPaper_89 : decode cX8_readsPaper 89 = .ok (.iconst 4, 1) := by decide +kernel
theorem dX8_readsPaper_90 : decode cX8_readsPaper 90 = .ok (.aload_n 0, 1) := by decide +kernel
theorem dX8_readsPaper_91 : decode cX8_readsPaper 91 = .ok (.getfield 138, 3) := by decide +kernel
theorem dX8_readsPaper_94 : decode cX8_readsPaper 94 = .ok (.invokevirtual 148, 3) := by decide +kernel
theorem dX8_readsPaper_97 : decode cX8_readsPaper 97 = .ok (.goto 81, 3) := by decide +kernel
theorem dX8_readsPaper_100 : decode cX8_readsPaper 100 = .ok (.iload_n 2, 1) := by decide +kernel
theorem dX8_readsPaper_101 : decode cX8_readsPaper 101 = .ok (.bipush 93, 2) := by decide +kernel
theorem dX8_readsPaper_103 : decode cX8_readsPaper 103 = .ok (.if_icmp .ne 71, 3) := by decide +kernel
theorem dX8_readsPaper_106 : decode cX8_readsPaper 106 = .ok (.aload_n 0, 1) := by decide +kernel
theorem dX8_readsPaper_107 : decode cX8_readsPaper 107 = .ok (.getfield 180, 3) := by decide +kernel
theorem dX8_readsPaper_110 : decode cX8_readsPaper 110 = .ok (.ifCond .le 64, 3) := by decide +kernel
theorem dX8_readsPaper_113 : decode cX8_readsPaper 113 = .ok (.aload_n 0, 1) := by decide +kernel
theorem dX8_readsPaper_114 : decode cX8_readsPaper 114 = .ok (.aload_n 0, 1) := by decide +kernel
theorem dX8_readsPaper_115 : decode cX8_readsPaper 115 = .ok (.getfield 68, 3) := by decide +kernel
theorem dX8_readsPaper_118 : decode cX8_readsPaper 118 = .ok (.aload_n 0, 1) := by decide +kernel
theorem dX8_readsPaper_119 : decode cX8_readsPaper 119 = .ok (.getfield 180, 3) := by decide +kernel
theorem dX8_readsPaper_122 : decode cX8_readsPaper 122 = .ok (.iaload, 1) := by decide +kernel
theorem dX8_readsPaper_123 : decode cX8_readsPaper 123 = .ok (.invokevirtual 242, 3) := by decide +kernel
theorem dX8_readsPaper_126 : decode cX8_readsPaper 126 = .ok (.ifCond .eq 12, 3) := by decide +kernel
theorem dX8_readsPaper_129 : decode cX8_readsPaper 129 = .ok (.aload_n 0, 1) := by decide +kernel
theorem dX8_readsPaper_130 : decode cX8_readsPaper 130 = .ok (.iconst 4, 1) := by decide +kernel
theorem dX8_readsPaper_131 : decode cX8_readsPaper 131 = .ok (.aload_n 0, 1) := by decide +kernel
theorem dX8_readsPaper_132 : decode cX8_readsPaper 132 = .ok (.getfield 138, 3) := by decide +kernel
theorem dX8_readsPaper_135 : decode cX8_readsPaper 135 = .ok (.invokevirtual 148, 3) := by decide +kernel
theorem dX8_readsPaper_138 : decode cX8_readsPaper 138 = .ok (.aload_n 0, 1) := by decide +kernel
theorem dX8_readsPaper_139 : decode cX8_readsPaper 139 = .ok (.dup, 1) := by decide +kernel
theorem dX8_readsPaper_140 : decode cX8_readsPaper 140 = .ok (.getfield 138, 3) := by decide +kernel
theorem dX8_readsPaper_143 : decode cX8_readsPaper 143 = .ok (.iconst 1, 1) := by decide +kernel
theorem dX8_readsPaper_144 : decode cX8_readsPaper 144 = .ok (.iadd, 1) := by decide +kernel
theorem dX8_readsPaper_145 : decode cX8_readsPaper 145 = .ok (.putfield 138, 3) := by decide +kernel
theorem dX8_readsPaper_148 : decode cX8_readsPaper 148 = .ok (.aload_n 0, 1) := by decide +kernel
theorem dX8_readsPaper_149 : decode cX8_readsPaper 149 = .ok (.dup, 1) := by decide +kernel
theorem dX8_readsPaper_150 : decode cX8_readsPaper 150 = .ok (.getfield 180, 3) := by decide +kernel
theorem dX8_readsPaper_153 : decode cX8_readsPaper 153 = .ok (.iconst 1, 1) := by decide +kernel
theorem dX8_readsPaper_154 : decode cX8_readsPaper 154 = .ok (.isub, 1) := by decide +kernel
theorem dX8_readsPaper_155 : decode cX8_readsPaper 155 = .ok (.putfield 180, 3) := by decide +kernel
theorem dX8_readsPaper_158 : decode cX8_readsPaper 158 = .ok (.aload_n 0, 1) := by decide +kernel
theorem dX8_readsPaper_159 : decode cX8_readsPaper 159 = .ok (.getfield 132, 3) := by decide +kernel
theorem dX8_readsPaper_162 : decode cX8_readsPaper 162 = .ok (.ifCond .ne 16, 3) := by decide +kernel
theorem dX8_readsPaper_165 : decode cX8_readsPaper 165 = .ok (.aload_n 0, 1) := by decide +kernel
theorem dX8_readsPaper_166 : decode cX8_readsPaper 166 = .ok (.bipush 59, 2) := by decide +kernel
theorem dX8_readsPaper_168 : decode cX8_readsPaper 168 = .ok (.invokevirtual 169, 3) := by decide +kernel
theorem dX8_readsPaper_171 : decode cX8_readsPaper 171 = .ok (.goto 7, 3) := by decide +kernel
theorem dX8_readsPaper_174 : decode cX8_readsPaper 174 = .ok (.aload_n 0, 1) := by decide +kernel
theorem dX8_readsPaper_175 : decode cX8_readsPaper 175 = .ok (.invokevirtual 245, 3) := by decide +kernel
theorem dX8_readsPaper_178 : decode cX8_readsPaper 178 = .ok (.goto (-145), 3) := by decide +kernel
theorem dX8_readsPaper_181 : decode cX8_readsPaper 181 = .ok (.return_, 1) := by decide +kernel
theorem dX8_paper_0 : decode cX8_paper 0 = .ok (.aload_n 0, 1) := by decide +kernel
theorem dX8_paper_1 : decode cX8_paper 1 = .ok (.getfield 204, 3) := by decide +kernel
theorem dX8_paper_4 : decode cX8_paper 4 = .ok (.ifCond .eq 12, 3) := by decide +kernel
theorem dX8_paper_7 : decode cX8_paper 7 = .ok (.aload_n 0, 1) := by decide +kernel
theorem dX8_paper_8 : decode cX8_paper 8 = .ok (.getfield 214, 3) := by decide +kernel
theorem dX8_paper_11 : decode cX8_paper 11 = .ok (.bipush 30, 2) := by decide +kernel
theorem dX8_paper_13 : decode cX8_paper 13 = .ok (.if_icmp .ne 11, 3) := by decide +kernel
theorem dX8_paper_16 : decode cX8_paper 16 = .ok (.aload_n 0, 1) := by decide +kernel
theorem dX8_paper_17 : decode cX8_paper 17 = .ok (.iconst 0, 1) := by decide +kernel
theorem dX8_paper_18 : decode cX8_paper 18 = .ok (.putfield 129, 3) := by decide +kernel
theorem dX8_paper_21 : decode cX8_paper 21 = .ok (.bipush (-2), 2) := by decide +kernel
theorem dX8_paper_23 : decode cX8_paper 23 = .ok (.ireturn, 1) := by decide +kernel
theorem dX8_paper_24 : decode cX8_paper 24 = .ok (.aload_n 0, 1) := by decide +kernel
theorem dX8_paper_25 : decode cX8_paper 25 = .ok (.invokevirtual 195, 3) := by decide +kernel
theorem dX8_paper_28 : decode cX8_paper 28 = .ok (.aload_n 0, 1) := by decide +kernel
theorem dX8_paper_29 : decode cX8_paper 29 = .ok (.getfield 214, 3) := by decide +kernel
theorem dX8_paper_32 : decode cX8_paper 32 = .ok (.ifCond .ne 10, 3) := by decide +kernel
theorem dX8_paper_35 : decode cX8_paper 35 = .ok (.aload_n 0, 1) := by decide +kernel
theorem dX8_paper_36 : decode cX8_paper 36 = .ok (.getfield 74, 3) := by decide +kernel
theorem dX8_paper_39 : decode cX8_paper 39 = .ok (.iconst 0, 1) := by decide +kernel
theorem dX8_paper_40 : decode cX8_paper 40 = .ok (.iconst 0, 1) := by decide +kernel
theorem dX8_paper_41 : decode cX8_paper 41 = .ok (.iastore, 1) := by decide +kernel
theorem dX8_paper_42 : decode cX8_paper 42 = .ok (.aload_n 0, 1) := by decide +kernel
theorem dX8_paper_43 : decode cX8_paper 43 = .ok (.invokevirtual 248, 3) := by decide +kernel
theorem dX8_paper_46 : decode cX8_paper 46 = .ok (.aload_n 0, 1) := by decide +kernel
theorem dX8_paper_47 : decode cX8_paper 47 = .ok (.invokevirtual 201, 3) := by decide +kernel
theorem dX8_paper_50 : decode cX8_paper 50 = .ok (.aload_n 0, 1) := by decide +kernel
theorem dX8_paper_51 : decode cX8_paper 51 = .ok (.getfield 132, 3) := by decide +kernel
theorem dX8_paper_54 : decode cX8_paper 54 = .ok (.ifCond .eq 5, 3) := by decide +kernel
theorem dX8_paper_57 : decode cX8_paper 57 = .ok (.iconst (-1), 1) := by decide +kernel
theorem dX8_paper_58 : decode cX8_paper 58 = .ok (.ireturn, 1) := by decide +kernel
theorem dX8_paper_59 : decode cX8_paper 59 = .ok (.aload_n 0, 1) := by decide +kernel
theorem dX8_paper_60 : decode cX8_paper 60 = .ok (.dup, 1) := by decide +kernel
theorem dX8_paper_61 : decode cX8_paper 61 = .ok (.getfield 214, 3) := by decide +kernel
theorem dX8_paper_64 : decode cX8_paper 64 = .ok (.iconst 1, 1) := by decide +kernel
theorem dX8_paper_65 : decode cX8_paper 65 = .ok (.iadd, 1) := by decide +kernel
theorem dX8_paper_66 : decode cX8_paper 66 = .ok (.putfield 214, 3) := by decide +kernel
theorem dX8_paper_69 : decode cX8_paper 69 = .ok (.aload_n 0, 1) := by decide +kernel
theorem dX8_paper_70 : decode cX8_paper 70 = .ok (.getfield 74, 3) := by decide +kernel
theorem dX8_paper_73 : decode cX8_paper 73 = .ok (.aload_n 0, 1) := by decide +kernel
theorem dX8_paper_74 : decode cX8_paper 74 = .ok (.getfield 214, 3) := by decide +kernel
theorem dX8_paper_77 : decode cX8_paper 77 = .ok (.aload_n 0, 1) := by decide +kernel
theorem dX8_paper_78 : decode cX8_paper 78 = .ok (.getfield 217, 3) := by decide +kernel
theorem dX8_paper_81 : decode cX8_paper 81 = .ok (.iastore, 1) := by decide +kernel
theorem dX8_paper_82 : decode cX8_paper 82 = .ok (.aload_n 0, 1) := by decide +kernel
theorem dX8_paper_83 : decode cX8_paper 83 = .ok (.getfield 214, 3) := by decide +kernel
theorem dX8_paper_86 : decode cX8_paper 86 = .ok (.ireturn, 1) := by decide +kernel
theorem dX8_fault_0 : decode cX8_fault 0 = .ok (.iload_n 1, 1) := by decide +kernel
theorem dX8_fault_1 : decode cX8_fault 1 = .ok (.ifCond .ne 10, 3) := by decide +kernel
theorem dX8_fault_4 : decode cX8_fault 4 = .ok (.aload_n 0, 1) := by decide +kernel
theorem dX8_fault_5 : decode cX8_fault 5 = .ok (.getfield 162, 3) := by decide +kernel
theorem dX8_fault_8 : decode cX8_fault 8 = .ok (.goto 16, 3) := by decide +kernel
theorem dX8_fault_11 : decode cX8_fault 11 = .ok (.iload_n 1, 1) := by decide +kernel
theorem dX8_fault_12 : decode cX8_fault 12 = .ok (.iconst 1, 1) := by decide +kernel
theorem dX8_fault_13 : decode cX8_fault 13 = .ok (.if_icmp .ne 10, 3) := by decide +kernel
theorem dX8_fault_16 : decode cX8_fault 16 = .ok (.aload_n 0, 1) := by decide +kernel
theorem dX8_fault_17 : decode cX8_fault 17 = .ok (.getfield 13, 3) := by decide +kernel
theorem dX8_fault_20 : decode cX8_fault 20 = .ok (.goto 4, 3) := by decide +kernel
theorem dX8_fault_23 : decode cX8_fault 23 = .ok (.iconst (-1), 1) := by decide +kernel
theorem dX8_fault_24 : decode cX8_fault 24 = .ok (.ireturn, 1) := by decide +kernel
theorem dX8_isPaper_0 : decode cX8_isPaper 0 = .ok (.iload_n 1, 1) := by decide +kernel
theorem dX8_isPaper_1 : decode cX8_isPaper 1 = .ok (.ifCond .lt 15, 3) := by decide +kernel
theorem dX8_isPaper_4 : decode cX8_isPaper 4 = .ok (.iload_n 1, 1) := by decide +kernel
theorem dX8_isPaper_5 : decode cX8_isPaper 5 = .ok (.aload_n 0, 1) := by decide +kernel
theorem dX8_isPaper_6 : decode cX8_isPaper 6 = .ok (.getfield 214, 3) := by decide +kernel
theorem dX8_isPaper_9 : decode cX8_isPaper 9 = .ok (.if_icmp .ge 7, 3) := by decide +kernel
theorem dX8_isPaper_12 : decode cX8_isPaper 12 = .ok (.iconst 1, 1) := by decide +kernel
theorem dX8_isPaper_13 : decode cX8_isPaper 13 = .ok (.goto 4, 3) := by decide +kernel
theorem dX8_isPaper_16 : decode cX8_isPaper 16 = .ok (.iconst 0, 1) := by decide +kernel
theorem dX8_isPaper_17 : decode cX8_isPaper 17 = .ok (.ireturn, 1) := by decide +kernel
theorem dX8_drop_0 : decode cX8_drop 0 = .ok (.aload_n 0, 1) := by decide +kernel
theorem dX8_drop_1 : decode cX8_drop 1 = .ok (.iload_n 1, 1) := by decide +kernel
theorem dX8_drop_2 : decode cX8_drop 2 = .ok (.invokevirtual 251, 3) := by decide +kernel
theorem dX8_drop_5 : decode cX8_drop 5 = .ok (.ifCond .ne 5, 3) := by decide +kernel
theorem dX8_drop_8 : decode cX8_drop 8 = .ok (.iconst (-1), 1) := by decide +kernel
theorem dX8_drop_9 : decode cX8_drop 9 = .ok (.ireturn, 1) := by decide +kernel
theorem dX8_drop_10 : decode cX8_drop 10 = .ok (.aload_n 0, 1) := by decide +kernel
theorem dX8_drop_11 : decode cX8_drop 11 = .ok (.getfield 74, 3) := by decide +kernel
theorem dX8_drop_14 : decode cX8_drop 14 = .ok (.iload_n 1, 1) := by decide +kernel
theorem dX8_drop_15 : decode cX8_drop 15 = .ok (.iconst 1, 1) := by decide +kernel
theorem dX8_drop_16 : decode cX8_drop 16 = .ok (.iadd, 1) := by decide +kernel
theorem dX8_drop_17 : decode cX8_drop 17 = .ok (.iaload, 1) := by decide +kernel
theorem dX8_drop_18 : decode cX8_drop 18 = .ok (.aload_n 0, 1) := by decide +kernel
theorem dX8_drop_19 : decode cX8_drop 19 = .ok (.getfield 74, 3) := by decide +kernel
theorem dX8_drop_22 : decode cX8_drop 22 = .ok (.iload_n 1, 1) := by decide +kernel
theorem dX8_drop_23 : decode cX8_drop 23 = .ok (.iaload, 1) := by decide +kernel
theorem dX8_drop_24 : decode cX8_drop 24 = .ok (.isub, 1) := by decide +kernel
theorem dX8_drop_25 : decode cX8_drop 25 = .ok (.istore_n 2, 1) := by decide +kernel
theorem dX8_drop_26 : decode cX8_drop 26 = .ok (.aload_n 0, 1) := by decide +kernel
theorem dX8_drop_27 : decode cX8_drop 27 = .ok (.getfield 74, 3) := by decide +kernel
theorem dX8_drop_30 : decode cX8_drop 30 = .ok (.iload_n 1, 1) := by decide +kernel
theorem dX8_drop_31 : decode cX8_drop 31 = .ok (.iconst 1, 1) := by decide +kernel
theorem dX8_drop_32 : decode cX8_drop 32 = .ok (.iadd, 1) := by decide +kernel
theorem dX8_drop_33 : decode cX8_drop 33 = .ok (.iaload, 1) := by decide +kernel
theorem dX8_drop_34 : decode cX8_drop 34 = .ok (.istore_n 3, 1) := by decide +kernel
theorem dX8_drop_35 : decode cX8_drop 35 = .ok (.iload_n 3, 1) := by decide +kernel
theorem dX8_drop_36 : decode cX8_drop 36 = .ok (.aload_n 0, 1) := by decide +kernel
theorem dX8_drop_37 : decode cX8_drop 37 = .ok (.getfield 74, 3) := by decide +kernel
theorem dX8_drop_40 : decode cX8_drop 40 = .ok (.aload_n 0, 1) := by decide +kernel
theorem dX8_drop_41 : decode cX8_drop 41 = .ok (.getfield 214, 3) := by decide +kernel
theorem dX8_drop_44 : decode cX8_drop 44 = .ok (.iaload, 1) := by decide +kernel
theorem dX8_drop_45 : decode cX8_drop 45 = .ok (.if_icmp .ge 67, 3) := by decide +kernel
theorem dX8_drop_48 : decode cX8_drop 48 = .ok (.aload_n 0, 1) := by decide +kernel
theorem dX8_drop_49 : decode cX8_drop 49 = .ok (.getfield 77, 3) := by decide +kernel
theorem dX8_drop_52 : decode cX8_drop 52 = .ok (.iload_n 3, 1) := by decide +kernel
theorem dX8_drop_53 : decode cX8_drop 53 = .ok (.iload_n 2, 1) := by decide +kernel
theorem dX8_drop_54 : decode cX8_drop 54 = .ok (.isub, 1) := by decide +kernel
theorem dX8_drop_55 : decode cX8_drop 55 = .ok (.aload_n 0, 1) := by decide +kernel
theorem dX8_drop_56 : decode cX8_drop 56 = .ok (.getfield 77, 3) := by decide +kernel
theorem dX8_drop_59 : decode cX8_drop 59 = .ok (.iload_n 3, 1) := by decide +kernel
theorem dX8_drop_60 : decode cX8_drop 60 = .ok (.iaload, 1) := by decide +kernel
theorem dX8_drop_61 : decode cX8_drop 61 = .ok (.iastore, 1) := by decide +kernel
theorem dX8_drop_62 : decode cX8_drop 62 = .ok (.aload_n 0, 1) := by decide +kernel
theorem dX8_drop_63 : decode cX8_drop 63 = .ok (.getfield 80, 3) := by decide +kernel
theorem dX8_drop_66 : decode cX8_drop 66 = .ok (.iload_n 3, 1) := by decide +kernel
theorem dX8_drop_67 : decode cX8_drop 67 = .ok (.iload_n 2, 1) := by decide +kernel
theorem dX8_drop_68 : decode cX8_drop 68 = .ok (.isub, 1) := by decide +kernel
theorem dX8_drop_69 : decode cX8_drop 69 = .ok (.aload_n 0, 1) := by decide +kernel
theorem dX8_drop_70 : decode cX8_drop 70 = .ok (.getfield 80, 3) := by decide +kernel
theorem dX8_drop_73 : decode cX8_drop 73 = .ok (.iload_n 3, 1) := by decide +kernel
theorem dX8_drop_74 : decode cX8_drop 74 = .ok (.iaload, 1) := by decide +kernel
theorem dX8_drop_75 : decode cX8_drop 75 = .ok (.iconst (-1), 1) := by decide +kernel
theorem dX8_drop_76 : decode cX8_drop 76 = .ok (.if_icmp .ne 7, 3) := by decide +kernel
theorem dX8_drop_79 : decode cX8_drop 79 = .ok (.iconst (-1), 1) := by decide +kernel
theorem dX8_drop_80 : decode cX8_drop 80 = .ok (.goto 11, 3) := by decide +kernel
theorem dX8_drop_83 : decode cX8_drop 83 = .ok (.aload_n 0, 1) := by decide +kernel
theorem dX8_drop_84 : decode cX8_drop 84 = .ok (.getfield 80, 3) := by decide +kernel
theorem dX8_drop_87 : decode cX8_drop 87 = .ok (.iload_n 3, 1) := by decide +kernel
theorem dX8_drop_88 : decode cX8_drop 88 = .ok (.iaload, 1) := by decide +kernel
theorem dX8_drop_89 : decode cX8_drop 89 = .ok (.iload_n 2, 1) := by decide +kernel
theorem dX8_drop_90 : decode cX8_drop 90 = .ok (.isub, 1) := by decide +kernel
theorem dX8_drop_91 : decode cX8_drop 91 = .ok (.iastore, 1) := by decide +kernel
theorem dX8_drop_92 : decode cX8_drop 92 = .ok (.aload_n 0, 1) := by decide +kernel
theorem dX8_drop_93 : decode cX8_drop 93 = .ok (.getfield 83, 3) := by decide +kernel
theorem dX8_drop_96 : decode cX8_drop 96 = .ok (.iload_n 3, 1) := by decide +kernel
theorem dX8_drop_97 : decode cX8_drop 97 = .ok (.iload_n 2, 1) := by decide +kernel
theorem dX8_drop_98 : decode cX8_drop 98 = .ok (.isub, 1) := by decide +kernel
theorem dX8_drop_99 : decode cX8_drop 99 = .ok (.aload_n 0, 1) := by decide +kernel
theorem dX8_drop_100 : decode cX8_drop 100 = .ok (.getfield 83, 3) := by decide +kernel
theorem dX8_drop_103 : decode cX8_drop 103 = .ok (.iload_n 3, 1) := by decide +kernel
theorem dX8_drop_104 : decode cX8_drop 104 = .ok (.laload, 1) := by decide +kernel
theorem dX8_drop_105 : decode cX8_drop 105 = .ok (.lastore, 1) := by decide +kernel
theorem dX8_drop_106 : decode cX8_drop 106 = .ok (.iinc 3 1, 3) := by decide +kernel
theorem dX8_drop_109 : decode cX8_drop 109 = .ok (.goto (-74), 3) := by decide +kernel
theorem dX8_drop_112 : decode cX8_drop 112 = .ok (.iload_n 1, 1) := by decide +kernel
theorem dX8_drop_113 : decode cX8_drop 113 = .ok (.iconst 1, 1) := by decide +kernel
theorem dX8_drop_114 : decode cX8_drop 114 = .ok (.iadd, 1) := by decide +kernel
theorem dX8_drop_115 : decode cX8_drop 115 = .ok (.istore_n 3, 1) := by decide +kernel
theorem dX8_drop_116 : decode cX8_drop 116 = .ok (.iload_n 3, 1) := by decide +kernel
theorem dX8_drop_117 : decode cX8_drop 117 = .ok (.aload_n 0, 1) := by decide +kernel
theorem dX8_drop_118 : decode cX8_drop 118 = .ok (.getfield 214, 3) := by decide +kernel
theorem dX8_drop_121 : decode cX8_drop 121 = .ok (.if_icmp .ge 25, 3) := by decide +kernel
theorem dX8_drop_124 : decode cX8_drop 124 = .ok (.aload_n 0, 1) := by decide +kernel
theorem dX8_drop_125 : decode cX8_drop 125 = .ok (.getfield 74, 3) := by decide +kernel
theorem dX8_drop_128 : decode cX8_drop 128 = .ok (.iload_n 3, 1) := by decide +kernel
theorem dX8_drop_129 : decode cX8_drop 129 = .ok (.aload_n 0, 1) := by decide +kernel
theorem dX8_drop_130 : decode cX8_drop 130 = .ok (.getfield 74, 3) := by decide +kernel
theorem dX8_drop_133 : decode cX8_drop 133 = .ok (.iload_n 3, 1) := by decide +kernel
theorem dX8_drop_134 : decode cX8_drop 134 = .ok (.iconst 1, 1) := by decide +kernel
theorem dX8_drop_135 : decode cX8_drop 135 = .ok (.iadd, 1) := by decide +kernel
theorem dX8_drop_136 : decode cX8_drop 136 = .ok (.iaload, 1) := by decide +kernel
theorem dX8_drop_137 : decode cX8_drop 137 = .ok (.iload_n 2, 1) := by decide +kernel
theorem dX8_drop_138 : decode cX8_drop 138 = .ok (.isub, 1) := by decide +kernel
theorem dX8_drop_139 : decode cX8_drop 139 = .ok (.iastore, 1) := by decide +kernel
theorem dX8_drop_140 : decode cX8_drop 140 = .ok (.iinc 3 1, 3) := by decide +kernel
theorem dX8_drop_143 : decode cX8_drop 143 = .ok (.goto (-27), 3) := by decide +kernel
theorem dX8_drop_146 : decode cX8_drop 146 = .ok (.aload_n 0, 1) := by decide +kernel
theorem dX8_drop_147 : decode cX8_drop 147 = .ok (.dup, 1) := by decide +kernel
theorem dX8_drop_148 : decode cX8_drop 148 = .ok (.getfield 214, 3) := by decide +kernel
theorem dX8_drop_151 : decode cX8_drop 151 = .ok (.iconst 1, 1) := by decide +kernel
theorem dX8_drop_152 : decode cX8_drop 152 = .ok (.isub, 1) := by decide +kernel
theorem dX8_drop_153 : decode cX8_drop 153 = .ok (.putfield 214, 3) := by decide +kernel
theorem dX8_drop_156 : decode cX8_drop 156 = .ok (.aload_n 0, 1) := by decide +kernel
theorem dX8_drop_157 : decode cX8_drop 157 = .ok (.getfield 214, 3) := by decide +kernel
theorem dX8_drop_160 : decode cX8_drop 160 = .ok (.ireturn, 1) := by decide +kernel
theorem dX8_roadOf_0 : decode cX8_roadOf 0 = .ok (.aload_n 0, 1) := by decide +kernel
theorem dX8_roadOf_1 : decode cX8_roadOf 1 = .ok (.iconst 0, 1) := by decide +kernel
theorem dX8_roadOf_2 : decode cX8_roadOf 2 = .ok (.putfield 254, 3) := by decide +kernel
theorem dX8_roadOf_5 : decode cX8_roadOf 5 = .ok (.aload_n 0, 1) := by decide +kernel
theorem dX8_roadOf_6 : decode cX8_roadOf 6 = .ok (.getfield 50, 3) := by decide +kernel
theorem dX8_roadOf_9 : decode cX8_roadOf 9 = .ok (.iload_n 1, 1) := by decide +kernel
theorem dX8_roadOf_10 : decode cX8_roadOf 10 = .ok (.iaload, 1) := by decide +kernel
theorem dX8_roadOf_11 : decode cX8_roadOf 11 = .ok (.istore_n 2, 1) := by decide +kernel
theorem dX8_roadOf_12 : decode cX8_roadOf 12 = .ok (.iload_n 2, 1) := by decide +kernel
theorem dX8_roadOf_13 : decode cX8_roadOf 13 = .ok (.iconst (-1), 1) := by decide +kernel
theorem dX8_roadOf_14 : decode cX8_roadOf 14 = .ok (.if_icmp .eq 23, 3) := by decide +kernel
theorem dX8_roadOf_17 : decode cX8_roadOf 17 = .ok (.aload_n 0, 1) := by decide +kernel
theorem dX8_roadOf_18 : decode cX8_roadOf 18 = .ok (.dup, 1) := by decide +kernel
theorem dX8_roadOf_19 : decode cX8_roadOf 19 = .ok (.getfield 254, 3) := by decide +kernel
theorem dX8_roadOf_22 : decode cX8_roadOf 22 = .ok (.iconst 1, 1) := by decide +kernel
theorem dX8_roadOf_23 : decode cX8_roadOf 23 = .ok (.iadd, 1) := by decide +kernel
theorem dX8_roadOf_24 : decode cX8_roadOf 24 = .ok (.putfield 254, 3) := by decide +kernel
theorem dX8_roadOf_27 : decode cX8_roadOf 27 = .ok (.aload_n 0, 1) := by decide +kernel
theorem dX8_roadOf_28 : decode cX8_roadOf 28 = .ok (.getfield 37, 3) := by decide +kernel
theorem dX8_roadOf_31 : decode cX8_roadOf 31 = .ok (.iload_n 2, 1) := by decide +kernel
theorem dX8_roadOf_32 : decode cX8_roadOf 32 = .ok (.iaload, 1) := by decide +kernel
theorem dX8_roadOf_33 : decode cX8_roadOf 33 = .ok (.istore_n 2, 1) := by decide +kernel
theorem dX8_roadOf_34 : decode cX8_roadOf 34 = .ok (.goto (-22), 3) := by decide +kernel
theorem dX8_roadOf_37 : decode cX8_roadOf 37 = .ok (.aload_n 0, 1) := by decide +kernel
theorem dX8_roadOf_38 : decode cX8_roadOf 38 = .ok (.getfield 254, 3) := by decide +kernel
theorem dX8_roadOf_41 : decode cX8_roadOf 41 = .ok (.istore_n 2, 1) := by decide +kernel
theorem dX8_roadOf_42 : decode cX8_roadOf 42 = .ok (.aload_n 0, 1) := by decide +kernel
theorem dX8_roadOf_43 : decode cX8_roadOf 43 = .ok (.getfield 50, 3) := by decide +kernel
theorem dX8_roadOf_46 : decode cX8_roadOf 46 = .ok (.iload_n 1, 1) := by decide +kernel
theorem dX8_roadOf_47 : decode cX8_roadOf 47 = .ok (.iaload, 1) := by decide +kernel
theorem dX8_roadOf_48 : decode cX8_roadOf 48 = .ok (.istore_n 3, 1) := by decide +kernel
theorem dX8_roadOf_49 : decode cX8_roadOf 49 = .ok (.iload_n 3, 1) := by decide +kernel
theorem dX8_roadOf_50 : decode cX8_roadOf 50 = .ok (.iconst (-1), 1) := by decide +kernel
theorem dX8_roadOf_51 : decode cX8_roadOf 51 = .ok (.if_icmp .eq 23, 3) := by decide +kernel
theorem dX8_roadOf_54 : decode cX8_roadOf 54 = .ok (.iinc 2 (-1), 3) := by decide +kernel
theorem dX8_roadOf_57 : decode cX8_roadOf 57 = .ok (.aload_n 0, 1) := by decide +kernel
theorem dX8_roadOf_58 : decode cX8_roadOf 58 = .ok (.getfield 86, 3) := by decide +kernel
theorem dX8_roadOf_61 : decode cX8_roadOf 61 = .ok (.iload_n 2, 1) := by decide +kernel
theorem dX8_roadOf_62 : decode cX8_roadOf 62 = .ok (.iload_n 3, 1) := by decide +kernel
theorem dX8_roadOf_63 : decode cX8_roadOf 63 = .ok (.iastore, 1) := by decide +kernel
theorem dX8_roadOf_64 : decode cX8_roadOf 64 = .ok (.aload_n 0, 1) := by decide +kernel
theorem dX8_roadOf_65 : decode cX8_roadOf 65 = .ok (.getfield 37, 3) := by decide +kernel
theorem dX8_roadOf_68 : decode cX8_roadOf 68 = .ok (.iload_n 3, 1) := by decide +kernel
theorem dX8_roadOf_69 : decode cX8_roadOf 69 = .ok (.iaload, 1) := by decide +kernel
theorem dX8_roadOf_70 : decode cX8_roadOf 70 = .ok (.istore_n 3, 1) := by decide +kernel
theorem dX8_roadOf_71 : decode cX8_roadOf 71 = .ok (.goto (-22), 3) := by decide +kernel
theorem dX8_roadOf_74 : decode cX8_roadOf 74 = .ok (.return_, 1) := by decide +kernel
theorem dX8_manyUpTo_0 : decode cX8_manyUpTo 0 = .ok (.iconst 0, 1) := by decide +kernel
theorem dX8_manyUpTo_1 : decode cX8_manyUpTo 1 = .ok (.istore_n 2, 1) := by decide +kernel
theorem dX8_manyUpTo_2 : decode cX8_manyUpTo 2 = .ok (.iconst 0, 1) := by decide +kernel
theorem dX8_manyUpTo_3 : decode cX8_manyUpTo 3 = .ok (.istore_n 3, 1) := by decide +kernel
theorem dX8_manyUpTo_4 : decode cX8_manyUpTo 4 = .ok (.iload_n 3, 1) := by decide +kernel
theorem dX8_manyUpTo_5 : decode cX8_manyUpTo 5 = .ok (.iload_n 1, 1) := by decide +kernel
theorem dX8_manyUpTo_6 : decode cX8_manyUpTo 6 = .ok (.if_icmp .gt 27, 3) := by decide +kernel
theorem dX8_manyUpTo_9 : decode cX8_manyUpTo 9 = .ok (.aload_n 0, 1) := by decide +kernel
theorem dX8_manyUpTo_10 : decode cX8_manyUpTo 10 = .ok (.getfield 47, 3) := by decide +kernel
theorem dX8_manyUpTo_13 : decode cX8_manyUpTo 13 = .ok (.aload_n 0, 1) := by decide +kernel
theorem dX8_manyUpTo_14 : decode cX8_manyUpTo 14 = .ok (.getfield 86, 3) := by decide +kernel
theorem dX8_manyUpTo_17 : decode cX8_manyUpTo 17 = .ok (.iload_n 3, 1) := by decide +kernel
theorem dX8_manyUpTo_18 : decode cX8_manyUpTo 18 = .ok (.iaload, 1) := by decide +kernel
theorem dX8_manyUpTo_19 : decode cX8_manyUpTo 19 = .ok (.iaload, 1) := by decide +kernel
theorem dX8_manyUpTo_20 : decode cX8_manyUpTo 20 = .ok (.iconst 2, 1) := by decide +kernel
theorem dX8_manyUpTo_21 : decode cX8_manyUpTo 21 = .ok (.if_icmp .ne 6, 3) := by decide +kernel
theorem dX8_manyUpTo_24 : decode cX8_manyUpTo 24 = .ok (.iinc 2 1, 3) := by decide +kernel
theorem dX8_manyUpTo_27 : decode cX8_manyUpTo 27 = .ok (.iinc 3 1, 3) := by decide +kernel
theorem dX8_manyUpTo_30 : decode cX8_manyUpTo 30 = .ok (.goto (-26), 3) := by decide +kernel
theorem dX8_manyUpTo_33 : decode cX8_manyUpTo 33 = .ok (.iload_n 2, 1) := by decide +kernel
theorem dX8_manyUpTo_34 : decode cX8_manyUpTo 34 = .ok (.ireturn, 1) := by decide +kernel
theorem dX8_putsRow_0 : decode cX8_putsRow 0 = .ok (.aload_n 0, 1) := by decide +kernel
theorem dX8_putsRow_1 : decode cX8_putsRow 1 = .ok (.getfield 89, 3) := by decide +kernel
theorem dX8_putsRow_4 : decode cX8_putsRow 4 = .ok (.aload_n 0, 1) := by decide +kernel
theorem dX8_putsRow_5 : decode cX8_putsRow 5 = .ok (.getfield 257, 3) := by decide +kernel
theorem dX8_putsRow_8 : decode cX8_putsRow 8 = .ok (.iload_n 1, 1) := by decide +kernel
theorem dX8_putsRow_9 : decode cX8_putsRow 9 = .ok (.iastore, 1) := by decide +kernel
theorem dX8_putsRow_10 : decode cX8_putsRow 10 = .ok (.aload_n 0, 1) := by decide +kernel
theorem dX8_putsRow_11 : decode cX8_putsRow 11 = .ok (.getfield 92, 3) := by decide +kernel
theorem dX8_putsRow_14 : decode cX8_putsRow 14 = .ok (.aload_n 0, 1) := by decide +kernel
theorem dX8_putsRow_15 : decode cX8_putsRow 15 = .ok (.getfield 257, 3) := by decide +kernel
theorem dX8_putsRow_18 : decode cX8_putsRow 18 = .ok (.iload_n 2, 1) := by decide +kernel
theorem dX8_putsRow_19 : decode cX8_putsRow 19 = .ok (.iastore, 1) := by decide +kernel
theorem dX8_putsRow_20 : decode cX8_putsRow 20 = .ok (.aload_n 0, 1) := by decide +kernel
theorem dX8_putsRow_21 : decode cX8_putsRow 21 = .ok (.getfield 95, 3) := by decide +kernel
theorem dX8_putsRow_24 : decode cX8_putsRow 24 = .ok (.aload_n 0, 1) := by decide +kernel
theorem dX8_putsRow_25 : decode cX8_putsRow 25 = .ok (.getfield 257, 3) := by decide +kernel
theorem dX8_putsRow_28 : decode cX8_putsRow 28 = .ok (.iload_n 3, 1) := by decide +kernel
theorem dX8_putsRow_29 : decode cX8_putsRow 29 = .ok (.bastore, 1) := by decide +kernel
theorem dX8_putsRow_30 : decode cX8_putsRow 30 = .ok (.aload_n 0, 1) := by decide +kernel
theorem dX8_putsRow_31 : decode cX8_putsRow 31 = .ok (.getfield 99, 3) := by decide +kernel
theorem dX8_putsRow_34 : decode cX8_putsRow 34 = .ok (.aload_n 0, 1) := by decide +kernel
theorem dX8_putsRow_35 : decode cX8_putsRow 35 = .ok (.getfield 257, 3) := by decide +kernel
theorem dX8_putsRow_38 : decode cX8_putsRow 38 = .ok (.lload 4, 2) := by decide +kernel
theorem dX8_putsRow_40 : decode cX8_putsRow 40 = .ok (.lastore, 1) := by decide +kernel
theorem dX8_putsRow_41 : decode cX8_putsRow 41 = .ok (.aload_n 0, 1) := by decide +kernel
theorem dX8_putsRow_42 : decode cX8_putsRow 42 = .ok (.getfield 102, 3) := by decide +kernel
theorem dX8_putsRow_45 : decode cX8_putsRow 45 = .ok (.aload_n 0, 1) := by decide +kernel
theorem dX8_putsRow_46 : decode cX8_putsRow 46 = .ok (.getfield 257, 3) := by decide +kernel
theorem dX8_putsRow_49 : decode cX8_putsRow 49 = .ok (.iload 6, 2) := by decide +kernel
theorem dX8_putsRow_51 : decode cX8_putsRow 51 = .ok (.iastore, 1) := by decide +kernel
theorem dX8_putsRow_52 : decode cX8_putsRow 52 = .ok (.aload_n 0, 1) := by decide +kernel
theorem dX8_putsRow_53 : decode cX8_putsRow 53 = .ok (.dup, 1) := by decide +kernel
theorem dX8_putsRow_54 : decode cX8_putsRow 54 = .ok (.getfield 257, 3) := by decide +kernel
theorem dX8_putsRow_57 : decode cX8_putsRow 57 = .ok (.iconst 1, 1) := by decide +kernel
theorem dX8_putsRow_58 : decode cX8_putsRow 58 = .ok (.iadd, 1) := by decide +kernel
theorem dX8_putsRow_59 : decode cX8_putsRow 59 = .ok (.putfield 257, 3) := by decide +kernel
theorem dX8_putsRow_62 : decode cX8_putsRow 62 = .ok (.return_, 1) := by decide +kernel
theorem dX8_steps_0 : decode cX8_steps 0 = .ok (.aload_n 0, 1) := by decide +kernel
theorem dX8_steps_1 : decode cX8_steps 1 = .ok (.getfield 105, 3) := by decide +kernel
theorem dX8_steps_4 : decode cX8_steps 4 = .ok (.iload_n 1, 1) := by decide +kernel
theorem dX8_steps_5 : decode cX8_steps 5 = .ok (.iload_n 2, 1) := by decide +kernel
theorem dX8_steps_6 : decode cX8_steps 6 = .ok (.iastore, 1) := by decide +kernel
theorem dX8_steps_7 : decode cX8_steps 7 = .ok (.aload_n 0, 1) := by decide +kernel
theorem dX8_steps_8 : decode cX8_steps 8 = .ok (.getfield 108, 3) := by decide +kernel
theorem dX8_steps_11 : decode cX8_steps 11 = .ok (.iload_n 1, 1) := by decide +kernel
theorem dX8_steps_12 : decode cX8_steps 12 = .ok (.iload_n 2, 1) := by decide +kernel
theorem dX8_steps_13 : decode cX8_steps 13 = .ok (.iconst 1, 1) := by decide +kernel
theorem dX8_steps_14 : decode cX8_steps 14 = .ok (.iadd, 1) := by decide +kernel
theorem dX8_steps_15 : decode cX8_steps 15 = .ok (.iastore, 1) := by decide +kernel
theorem dX8_steps_16 : decode cX8_steps 16 = .ok (.aload_n 0, 1) := by decide +kernel
theorem dX8_steps_17 : decode cX8_steps 17 = .ok (.getfield 111, 3) := by decide +kernel
theorem dX8_steps_20 : decode cX8_steps 20 = .ok (.iload_n 1, 1) := by decide +kernel
theorem dX8_steps_21 : decode cX8_steps 21 = .ok (.iconst 0, 1) := by decide +kernel
theorem dX8_steps_22 : decode cX8_steps 22 = .ok (.iastore, 1) := by decide +kernel
theorem dX8_steps_23 : decode cX8_steps 23 = .ok (.aload_n 0, 1) := by decide +kernel
theorem dX8_steps_24 : decode cX8_steps 24 = .ok (.getfield 114, 3) := by decide +kernel
theorem dX8_steps_27 : decode cX8_steps 27 = .ok (.iload_n 1, 1) := by decide +kernel
theorem dX8_steps_28 : decode cX8_steps 28 = .ok (.iload_n 3, 1) := by decide +kernel
theorem dX8_steps_29 : decode cX8_steps 29 = .ok (.iastore, 1) := by decide +kernel
theorem dX8_steps_30 : decode cX8_steps 30 = .ok (.aload_n 0, 1) := by decide +kernel
theorem dX8_steps_31 : decode cX8_steps 31 = .ok (.getfield 117, 3) := by decide +kernel
theorem dX8_steps_34 : decode cX8_steps 34 = .ok (.iload_n 1, 1) := by decide +kernel
theorem dX8_steps_35 : decode cX8_steps 35 = .ok (.iload 4, 2) := by decide +kernel
theorem dX8_steps_37 : decode cX8_steps 37 = .ok (.iastore, 1) := by decide +kernel
theorem dX8_steps_38 : decode cX8_steps 38 = .ok (.return_, 1) := by decide +kernel
theorem dX8_table_0 : decode cX8_table 0 = .ok (.aload_n 0, 1) := by decide +kernel
theorem dX8_table_1 : decode cX8_table 1 = .ok (.iload_n 1, 1) := by decide +kernel
theorem dX8_table_2 : decode cX8_table 2 = .ok (.invokevirtual 260, 3) := by decide +kernel
theorem dX8_table_5 : decode cX8_table 5 = .ok (.aload_n 0, 1) := by decide +kernel
theorem dX8_table_6 : decode cX8_table 6 = .ok (.iconst 0, 1) := by decide +kernel
theorem dX8_table_7 : decode cX8_table 7 = .ok (.putfield 257, 3) := by decide +kernel
theorem dX8_table_10 : decode cX8_table 10 = .ok (.iconst 0, 1) := by decide +kernel
theorem dX8_table_11 : decode cX8_table 11 = .ok (.istore_n 2, 1) := by decide +kernel
theorem dX8_table_12 : decode cX8_table 12 = .ok (.iload_n 2, 1) := by decide +kernel
theorem dX8_table_13 : decode cX8_table 13 = .ok (.aload_n 0, 1) := by decide +kernel
theorem dX8_table_14 : decode cX8_table 14 = .ok (.getfield 214, 3) := by decide +kernel
theorem dX8_table_17 : decode cX8_table 17 = .ok (.if_icmp .ge 254, 3) := by decide +kernel
theorem dX8_table_20 : decode cX8_table 20 = .ok (.iconst 0, 1) := by decide +kernel
theorem dX8_table_21 : decode cX8_table 21 = .ok (.istore_n 3, 1) := by decide +kernel
theorem dX8_table_22 : decode cX8_table 22 = .ok (.aload_n 0, 1) := by decide +kernel
theorem dX8_table_23 : decode cX8_table 23 = .ok (.iconst 0, 1) := by decide +kernel
theorem dX8_table_24 : decode cX8_table 24 = .ok (.aload_n 0, 1) := by decide +kernel
theorem dX8_table_25 : decode cX8_table 25 = .ok (.getfield 74, 3) := by decide +kernel
theorem dX8_table_28 : decode cX8_table 28 = .ok (.iload_n 2, 1) := by decide +kernel
theorem dX8_table_29 : decode cX8_table 29 = .ok (.iaload, 1) := by decide +kernel
theorem dX8_table_30 : decode cX8_table 30 = .ok (.iconst 0, 1) := by decide +kernel
theorem dX8_table_31 : decode cX8_table 31 = .ok (.iconst 0, 1) := by decide +kernel
theorem dX8_table_32 : decode cX8_table 32 = .ok (.invokevirtual 263, 3) := by decide +kernel
theorem dX8_table_35 : decode cX8_table 35 = .ok (.iload_n 3, 1) := by decide +kernel
theorem dX8_table_36 : decode cX8_table 36 = .ok (.ifCond .lt 229, 3) := by decide +kernel
theorem dX8_table_39 : decode cX8_table 39 = .ok (.aload_n 0, 1) := by decide +kernel
theorem dX8_table_40 : decode cX8_table 40 = .ok (.getfield 108, 3) := by decide +kernel
theorem dX8_table_43 : decode cX8_table 43 = .ok (.iload_n 3, 1) := by decide +kernel
theorem dX8_table_44 : decode cX8_table 44 = .ok (.iaload, 1) := by decide +kernel
theorem dX8_table_45 : decode cX8_table 45 = .ok (.istore 4, 2) := by decide +kernel
theorem dX8_table_47 : decode cX8_table 47 = .ok (.iload 4, 2) := by decide +kernel
theorem dX8_table_49 : decode cX8_table 49 = .ok (.aload_n 0, 1) := by decide +kernel
theorem dX8_table_50 : decode cX8_table 50 = .ok (.getfield 74, 3) := by decide +kernel
theorem dX8_table_53 : decode cX8_table 53 = .ok (.iload_n 2, 1) := by decide +kernel
theorem dX8_table_54 : decode cX8_table 54 = .ok (.iconst 1, 1) := by decide +kernel
theorem dX8_table_55 : decode cX8_table 55 = .ok (.iadd, 1) := by decide +kernel
theorem dX8_table_56 : decode cX8_table 56 = .ok (.iaload, 1) := by decide +kernel
theorem dX8_table_57 : decode cX8_table 57 = .ok (.if_icmp .ge 41, 3) := by decide +kernel
theorem dX8_table_60 : decode cX8_table 60 = .ok (.aload_n 0, 1) := by decide +kernel
theorem dX8_table_61 : decode cX8_table 61 = .ok (.getfield 80, 3) := by decide +kernel
theorem dX8_table_64 : decode cX8_table 64 = .ok (.iload 4, 2) := by decide +kernel
theorem dX8_table_66 : decode cX8_table 66 = .ok (.iaload, 1) := by decide +kernel
theorem dX8_table_67 : decode cX8_table 67 = .ok (.aload_n 0, 1) := by decide +kernel
theorem dX8_table_68 : decode cX8_table 68 = .ok (.getfield 105, 3) := by decide +kernel
theorem dX8_table_71 : decode cX8_table 71 = .ok (.iload_n 3, 1) := by decide +kernel
theorem dX8_table_72 : decode cX8_table 72 = .ok (.iaload, 1) := by decide +kernel
theorem dX8_table_73 : decode cX8_table 73 = .ok (.if_icmp .ne 19, 3) := by decide +kernel
theorem dX8_table_76 : decode cX8_table 76 = .ok (.aload_n 0, 1) := by decide +kernel
theorem dX8_table_77 : decode cX8_table 77 = .ok (.getfield 77, 3) := by decide +kernel
theorem dX8_table_80 : decode cX8_table 80 = .ok (.iload 4, 2) := by decide +kernel
theorem dX8_table_82 : decode cX8_table 82 = .ok (.iaload, 1) := by decide +kernel
theorem dX8_table_83 : decode cX8_table 83 = .ok (.aload_n 0, 1) := by decide +kernel
theorem dX8_table_84 : decode cX8_table 84 = .ok (.getfield 86, 3) := by decide +kernel
theorem dX8_table_87 : decode cX8_table 87 = .ok (.iload_n 3, 1) := by decide +kernel
theorem dX8_table_88 : decode cX8_table 88 = .ok (.iaload, 1) := by decide +kernel
theorem dX8_table_89 : decode cX8_table 89 = .ok (.if_icmp .eq 9, 3) := by decide +kernel
theorem dX8_table_92 : decode cX8_table 92 = .ok (.iinc 4 1, 3) := by decide +kernel
theorem dX8_table_95 : decode cX8_table 95 = .ok (.goto (-48), 3) := by decide +kernel
theorem dX8_table_98 : decode cX8_table 98 = .ok (.iload 4, 2) := by decide +kernel
theorem dX8_table_100 : decode cX8_table 100 = .ok (.aload_n 0, 1) := by decide +kernel
theorem dX8_table_101 : decode cX8_table 101 = .ok (.getfield 74, 3) := by decide +kernel
theorem dX8_table_104 : decode cX8_table 104 = .ok (.iload_n 2, 1) := by decide +kernel
theorem dX8_table_105 : decode cX8_table 105 = .ok (.iconst 1, 1) := by decide +kernel
theorem dX8_table_106 : decode cX8_table 106 = .ok (.iadd, 1) := by decide +kernel
theorem dX8_table_107 : decode cX8_table 107 = .ok (.iaload, 1) := by decide +kernel
theorem dX8_table_108 : decode cX8_table 108 = .ok (.if_icmp .ne 37, 3) := by decide +kernel
theorem dX8_table_111 : decode cX8_table 111 = .ok (.aload_n 0, 1) := by decide +kernel
theorem dX8_table_112 : decode cX8_table 112 = .ok (.getfield 111, 3) := by decide +kernel
theorem dX8_table_115 : decode cX8_table 115 = .ok (.iload_n 3, 1) := by decide +kernel
theorem dX8_table_116 : decode cX8_table 116 = .ok (.iaload, 1) := by decide +kernel
theorem dX8_table_117 : decode cX8_table 117 = .ok (.ifCond .ne 22, 3) := by decide +kernel
theorem dX8_table_120 : decode cX8_table 120 = .ok (.aload_n 0, 1) := by decide +kernel
theorem dX8_table_121 : decode cX8_table 121 = .ok (.aload_n 0, 1) := by decide +kernel
theorem dX8_table_122 : decode cX8_table 122 = .ok (.getfield 117, 3) := by decide +kernel
theorem dX8_table_125 : decode cX8_table 125 = .ok (.iload_n 3, 1) := by decide +kernel
theorem dX8_table_126 : decode cX8_table 126 = .ok (.iaload, 1) := by decide +kernel
theorem dX8_table_127 : decode cX8_table 127 = .ok (.aload_n 0, 1) := by decide +kernel
theorem dX8_table_128 : decode cX8_table 128 = .ok (.getfield 114, 3) := by decide +kernel
theorem dX8_table_131 : decode cX8_table 131 = .ok (.iload_n 3, 1) := by decide +kernel
theorem dX8_table_132 : decode cX8_table 132 = .ok (.iaload, 1) := by decide +kernel
theorem dX8_table_133 : decode cX8_table 133 = .ok (.iconst 0, 1) := by decide +kernel
theorem dX8_table_134 : decode cX8_table 134 = .ok (.lconst 0, 1) := by decide +kernel
theorem dX8_table_135 : decode cX8_table 135 = .ok (.iload_n 2, 1) := by decide +kernel
theorem dX8_table_136 : decode cX8_table 136 = .ok (.invokevirtual 267, 3) := by decide +kernel
theorem dX8_table_139 : decode cX8_table 139 = .ok (.iinc 3 (-1), 3) := by decide +kernel
theorem dX8_table_142 : decode cX8_table 142 = .ok (.goto (-107), 3) := by decide +kernel
theorem dX8_table_145 : decode cX8_table 145 = .ok (.aload_n 0, 1) := by decide +kernel
theorem dX8_table_146 : decode cX8_table 146 = .ok (.getfield 108, 3) := by decide +kernel
theorem dX8_table_149 : decode cX8_table 149 = .ok (.iload_n 3, 1) := by decide +kernel
theorem dX8_table_150 : decode cX8_table 150 = .ok (.iload 4, 2) := by decide +kernel
theorem dX8_table_152 : decode cX8_table 152 = .ok (.iconst 1, 1) := by decide +kernel
theorem dX8_table_153 : decode cX8_table 153 = .ok (.iadd, 1) := by decide +kernel
theorem dX8_table_154 : decode cX8_table 154 = .ok (.iastore, 1) := by decide +kernel
theorem dX8_table_155 : decode cX8_table 155 = .ok (.aload_n 0, 1) := by decide +kernel
theorem dX8_table_156 : decode cX8_table 156 = .ok (.getfield 111, 3) := by decide +kernel
theorem dX8_table_159 : decode cX8_table 159 = .ok (.iload_n 3, 1) := by decide +kernel
theorem dX8_table_160 : decode cX8_table 160 = .ok (.iaload, 1) := by decide +kernel
theorem dX8_table_161 : decode cX8_table 161 = .ok (.ifCond .ne 12, 3) := by decide +kernel
theorem dX8_table_164 : decode cX8_table 164 = .ok (.aload_n 0, 1) := by decide +kernel
theorem dX8_table_165 : decode cX8_table 165 = .ok (.getfield 117, 3) := by decide +kernel
theorem dX8_table_168 : decode cX8_table 168 = .ok (.iload_n 3, 1) := by decide +kernel
theorem dX8_table_169 : decode cX8_table 169 = .ok (.iaload, 1) := by decide +kernel
theorem dX8_table_170 : decode cX8_table 170 = .ok (.goto 8, 3) := by decide +kernel
theorem dX8_table_173 : decode cX8_table 173 = .ok (.aload_n 0, 1) := by decide +kernel
theorem dX8_table_174 : decode cX8_table 174 = .ok (.iload_n 3, 1) := by decide +kernel
theorem dX8_table_175 : decode cX8_table 175 = .ok (.invokevirtual 271, 3) := by decide +kernel
theorem dX8_table_178 : decode cX8_table 178 = .ok (.istore 5, 2) := by decide +kernel
theorem dX8_table_180 : decode cX8_table 180 = .ok (.aload_n 0, 1) := by decide +kernel
theorem dX8_table_181 : decode cX8_table 181 = .ok (.getfield 111, 3) := by decide +kernel
theorem dX8_table_184 : decode cX8_table 184 = .ok (.iload_n 3, 1) := by decide +kernel
theorem dX8_table_185 : decode cX8_table 185 = .ok (.dup2, 1) := by decide +kernel
theorem dX8_table_186 : decode cX8_table 186 = .ok (.iaload, 1) := by decide +kernel
theorem dX8_table_187 : decode cX8_table 187 = .ok (.iconst 1, 1) := by decide +kernel
theorem dX8_table_188 : decode cX8_table 188 = .ok (.iadd, 1) := by decide +kernel
theorem dX8_table_189 : decode cX8_table 189 = .ok (.iastore, 1) := by decide +kernel
theorem dX8_table_190 : decode cX8_table 190 = .ok (.aload_n 0, 1) := by decide +kernel
theorem dX8_table_191 : decode cX8_table 191 = .ok (.getfield 114, 3) := by decide +kernel
theorem dX8_table_194 : decode cX8_table 194 = .ok (.iload_n 3, 1) := by decide +kernel
theorem dX8_table_195 : decode cX8_table 195 = .ok (.iaload, 1) := by decide +kernel
theorem dX8_table_196 : decode cX8_table 196 = .ok (.aload_n 0, 1) := by decide +kernel
theorem dX8_table_197 : decode cX8_table 197 = .ok (.getfield 47, 3) := by decide +kernel
theorem dX8_table_200 : decode cX8_table 200 = .ok (.aload_n 0, 1) := by decide +kernel
theorem dX8_table_201 : decode cX8_table 201 = .ok (.getfield 86, 3) := by decide +kernel
theorem dX8_table_204 : decode cX8_table 204 = .ok (.iload_n 3, 1) := by decide +kernel
theorem dX8_table_205 : decode cX8_table 205 = .ok (.iaload, 1) := by decide +kernel
theorem dX8_table_206 : decode cX8_table 206 = .ok (.iaload, 1) := by decide +kernel
theorem dX8_table_207 : decode cX8_table 207 = .ok (.ifCond .ne 7, 3) := by decide +kernel
theorem dX8_table_210 : decode cX8_table 210 = .ok (.iconst 0, 1) := by decide +kernel
theorem dX8_table_211 : decode cX8_table 211 = .ok (.goto 4, 3) := by decide +kernel
theorem dX8_table_214 : decode cX8_table 214 = .ok (.iconst 1, 1) := by decide +kernel
theorem dX8_table_215 : decode cX8_table 215 = .ok (.iadd, 1) := by decide +kernel
theorem dX8_table_216 : decode cX8_table 216 = .ok (.istore 6, 2) := by decide +kernel
theorem dX8_table_218 : decode cX8_table 218 = .ok (.iload_n 3, 1) := by decide +kernel
theorem dX8_table_219 : decode cX8_table 219 = .ok (.aload_n 0, 1) := by decide +kernel
theorem dX8_table_220 : decode cX8_table 220 = .ok (.getfield 254, 3) := by decide +kernel
theorem dX8_table_223 : decode cX8_table 223 = .ok (.iconst 1, 1) := by decide +kernel
theorem dX8_table_224 : decode cX8_table 224 = .ok (.isub, 1) := by decide +kernel
theorem dX8_table_225 : decode cX8_table 225 = .ok (.if_icmp .ne 23, 3) := by decide +kernel
theorem dX8_table_228 : decode cX8_table 228 = .ok (.aload_n 0, 1) := by decide +kernel
theorem dX8_table_229 : decode cX8_table 229 = .ok (.iload 5, 2) := by decide +kernel
theorem dX8_table_231 : decode cX8_table 231 = .ok (.iload 6, 2) := by decide +kernel
theorem dX8_table_233 : decode cX8_table 233 = .ok (.iconst 1, 1) := by decide +kernel
theorem dX8_table_234 : decode cX8_table 234 = .ok (.aload_n 0, 1) := by decide +kernel
theorem dX8_table_235 : decode cX8_table 235 = .ok (.getfield 83, 3) := by decide +kernel
theorem dX8_table_238 : decode cX8_table 238 = .ok (.iload 4, 2) := by decide +kernel
theorem dX8_table_240 : decode cX8_table 240 = .ok (.laload, 1) := by decide +kernel
theorem dX8_table_241 : decode cX8_table 241 = .ok (.iload_n 2, 1) := by decide +kernel
theorem dX8_table_242 : decode cX8_table 242 = .ok (.invokevirtual 267, 3) := by decide +kernel
theorem dX8_table_245 : decode cX8_table 245 = .ok (.goto 17, 3) := by decide +kernel
theorem dX8_table_248 : decode cX8_table 248 = .ok (.iinc 3 1, 3) := by decide +kernel
theorem dX8_table_251 : decode cX8_table 251 = .ok (.aload_n 0, 1) := by decide +kernel
theorem dX8_table_252 : decode cX8_table 252 = .ok (.iload_n 3, 1) := by decide +kernel
theorem dX8_table_253 : decode cX8_table 253 = .ok (.iload 4, 2) := by decide +kernel
theorem dX8_table_255 : decode cX8_table 255 = .ok (.iload 6, 2) := by decide +kernel
theorem dX8_table_257 : decode cX8_table 257 = .ok (.iload 5, 2) := by decide +kernel
theorem dX8_table_259 : decode cX8_table 259 = .ok (.invokevirtual 263, 3) := by decide +kernel
theorem dX8_table_262 : decode cX8_table 262 = .ok (.goto (-227), 3) := by decide +kernel
theorem dX8_table_265 : decode cX8_table 265 = .ok (.iinc 2 1, 3) := by decide +kernel
theorem dX8_table_268 : decode cX8_table 268 = .ok (.goto (-256), 3) := by decide +kernel
theorem dX8_table_271 : decode cX8_table 271 = .ok (.return_, 1) := by decide +kernel
theorem dX8_isLeaf_0 : decode cX8_isLeaf 0 = .ok (.aload_n 0, 1) := by decide +kernel
theorem dX8_isLeaf_1 : decode cX8_isLeaf 1 = .ok (.getfield 204, 3) := by decide +kernel
theorem dX8_isLeaf_4 : decode cX8_isLeaf 4 = .ok (.ifCond .eq 19, 3) := by decide +kernel
theorem dX8_isLeaf_7 : decode cX8_isLeaf 7 = .ok (.iload_n 1, 1) := by decide +kernel
theorem dX8_isLeaf_8 : decode cX8_isLeaf 8 = .ok (.ifCond .lt 15, 3) := by decide +kernel
theorem dX8_isLeaf_11 : decode cX8_isLeaf 11 = .ok (.iload_n 1, 1) := by decide +kernel
theorem dX8_isLeaf_12 : decode cX8_isLeaf 12 = .ok (.aload_n 0, 1) := by decide +kernel
theorem dX8_isLeaf_13 : decode cX8_isLeaf 13 = .ok (.getfield 211, 3) := by decide +kernel
theorem dX8_isLeaf_16 : decode cX8_isLeaf 16 = .ok (.if_icmp .ge 7, 3) := by decide +kernel
theorem dX8_isLeaf_19 : decode cX8_isLeaf 19 = .ok (.iconst 1, 1) := by decide +kernel
theorem dX8_isLeaf_20 : decode cX8_isLeaf 20 = .ok (.goto 4, 3) := by decide +kernel
theorem dX8_isLeaf_23 : decode cX8_isLeaf 23 = .ok (.iconst 0, 1) := by decide +kernel
theorem dX8_isLeaf_24 : decode cX8_isLeaf 24 = .ok (.ireturn, 1) := by decide +kernel
theorem dX8_isFirstValue_0 : decode cX8_isFirstValue 0 = .ok (.iconst 0, 1) := by decide +kernel
theorem dX8_isFirstValue_1 : decode cX8_isFirstValue 1 = .ok (.istore_n 2, 1) := by decide +kernel
theorem dX8_isFirstValue_2 : decode cX8_isFirstValue 2 = .ok (.iload_n 2, 1) := by decide +kernel
theorem dX8_isFirstValue_3 : decode cX8_isFirstValue 3 = .ok (.iload_n 1, 1) := by decide +kernel
theorem dX8_isFirstValue_4 : decode cX8_isFirstValue 4 = .ok (.if_icmp .ge 36, 3) := by decide +kernel
theorem dX8_isFirstValue_7 : decode cX8_isFirstValue 7 = .ok (.aload_n 0, 1) := by decide +kernel
theorem dX8_isFirstValue_8 : decode cX8_isFirstValue 8 = .ok (.getfield 95, 3) := by decide +kernel
theorem dX8_isFirstValue_11 : decode cX8_isFirstValue 11 = .ok (.iload_n 2, 1) := by decide +kernel
theorem dX8_isFirstValue_12 : decode cX8_isFirstValue 12 = .ok (.baload, 1) := by decide +kernel
theorem dX8_isFirstValue_13 : decode cX8_isFirstValue 13 = .ok (.ifCond .eq 21, 3) := by decide +kernel
theorem dX8_isFirstValue_16 : decode cX8_isFirstValue 16 = .ok (.aload_n 0, 1) := by decide +kernel
theorem dX8_isFirstValue_17 : decode cX8_isFirstValue 17 = .ok (.getfield 99, 3) := by decide +kernel
theorem dX8_isFirstValue_20 : decode cX8_isFirstValue 20 = .ok (.iload_n 2, 1) := by decide +kernel
theorem dX8_isFirstValue_21 : decode cX8_isFirstValue 21 = .ok (.laload, 1) := by decide +kernel
theorem dX8_isFirstValue_22 : decode cX8_isFirstValue 22 = .ok (.aload_n 0, 1) := by decide +kernel
theorem dX8_isFirstValue_23 : decode cX8_isFirstValue 23 = .ok (.getfield 99, 3) := by decide +kernel
theorem dX8_isFirstValue_26 : decode cX8_isFirstValue 26 = .ok (.iload_n 1, 1) := by decide +kernel
theorem dX8_isFirstValue_27 : decode cX8_isFirstValue 27 = .ok (.laload, 1) := by decide +kernel
theorem dX8_isFirstValue_28 : decode cX8_isFirstValue 28 = .ok (.lcmp, 1) := by decide +kernel
theorem dX8_isFirstValue_29 : decode cX8_isFirstValue 29 = .ok (.ifCond .ne 5, 3) := by decide +kernel
theorem dX8_isFirstValue_32 : decode cX8_isFirstValue 32 = .ok (.iconst 0, 1) := by decide +kernel
theorem dX8_isFirstValue_33 : decode cX8_isFirstValue 33 = .ok (.ireturn, 1) := by decide +kernel
theorem dX8_isFirstValue_34 : decode cX8_isFirstValue 34 = .ok (.iinc 2 1, 3) := by decide +kernel
theorem dX8_isFirstValue_37 : decode cX8_isFirstValue 37 = .ok (.goto (-35), 3) := by decide +kernel
theorem dX8_isFirstValue_40 : decode cX8_isFirstValue 40 = .ok (.iconst 1, 1) := by decide +kernel
theorem dX8_isFirstValue_41 : decode cX8_isFirstValue 41 = .ok (.ireturn, 1) := by decide +kernel
theorem dX8_values_0 : decode cX8_values 0 = .ok (.iconst 0, 1) := by decide +kernel
theorem dX8_values_1 : decode cX8_values 1 = .ok (.istore_n 2, 1) := by decide +kernel
theorem dX8_values_2 : decode cX8_values 2 = .ok (.iconst 0, 1) := by decide +kernel
theorem dX8_values_3 : decode cX8_values 3 = .ok (.istore_n 3, 1) := by decide +kernel
theorem dX8_values_4 : decode cX8_values 4 = .ok (.iload_n 3, 1) := by decide +kernel
theorem dX8_values_5 : decode cX8_values 5 = .ok (.aload_n 0, 1) := by decide +kernel
theorem dX8_values_6 : decode cX8_values 6 = .ok (.getfield 257, 3) := by decide +kernel
theorem dX8_values_9 : decode cX8_values 9 = .ok (.if_icmp .ge 33, 3) := by decide +kernel
theorem dX8_values_12 : decode cX8_values 12 = .ok (.aload_n 0, 1) := by decide +kernel
theorem dX8_values_13 : decode cX8_values 13 = .ok (.getfield 95, 3) := by decide +kernel
theorem dX8_values_16 : decode cX8_values 16 = .ok (.iload_n 3, 1) := by decide +kernel
theorem dX8_values_17 : decode cX8_values 17 = .ok (.baload, 1) := by decide +kernel
theorem dX8_values_18 : decode cX8_values 18 = .ok (.ifCond .eq 18, 3) := by decide +kernel
theorem dX8_values_21 : decode cX8_values 21 = .ok (.iload_n 1, 1) := by decide +kernel
theorem dX8_values_22 : decode cX8_values 22 = .ok (.ifCond .eq 11, 3) := by decide +kernel
theorem dX8_values_25 : decode cX8_values 25 = .ok (.aload_n 0, 1) := by decide +kernel
theorem dX8_values_26 : decode cX8_values 26 = .ok (.iload_n 3, 1) := by decide +kernel
theorem dX8_values_27 : decode cX8_values 27 = .ok (.invokevirtual 275, 3) := by decide +kernel
theorem dX8_values_30 : decode cX8_values 30 = .ok (.ifCond .eq 6, 3) := by decide +kernel
theorem dX8_values_33 : decode cX8_values 33 = .ok (.iinc 2 1, 3) := by decide +kernel
theorem dX8_values_36 : decode cX8_values 36 = .ok (.iinc 3 1, 3) := by decide +kernel
theorem dX8_values_39 : decode cX8_values 39 = .ok (.goto (-35), 3) := by decide +kernel
theorem dX8_values_42 : decode cX8_values 42 = .ok (.iload_n 2, 1) := by decide +kernel
theorem dX8_values_43 : decode cX8_values 43 = .ok (.ireturn, 1) := by decide +kernel
theorem dX8_runs_0 : decode cX8_runs 0 = .ok (.iconst 0, 1) := by decide +kernel
theorem dX8_runs_1 : decode cX8_runs 1 = .ok (.istore_n 2, 1) := by decide +kernel
theorem dX8_runs_2 : decode cX8_runs 2 = .ok (.iconst 0, 1) := by decide +kernel
theorem dX8_runs_3 : decode cX8_runs 3 = .ok (.istore_n 3, 1) := by decide +kernel
theorem dX8_runs_4 : decode cX8_runs 4 = .ok (.iload_n 3, 1) := by decide +kernel
theorem dX8_runs_5 : decode cX8_runs 5 = .ok (.aload_n 0, 1) := by decide +kernel
theorem dX8_runs_6 : decode cX8_runs 6 = .ok (.getfield 257, 3) := by decide +kernel
theorem dX8_runs_9 : decode cX8_runs 9 = .ok (.if_icmp .ge 27, 3) := by decide +kernel
theorem dX8_runs_12 : decode cX8_runs 12 = .ok (.iload_n 3, 1) := by decide +kernel
theorem dX8_runs_13 : decode cX8_runs 13 = .ok (.ifCond .eq 14, 3) := by decide +kernel
theorem dX8_runs_16 : decode cX8_runs 16 = .ok (.aload_n 1, 1) := by decide +kernel
theorem dX8_runs_17 : decode cX8_runs 17 = .ok (.iload_n 3, 1) := by decide +kernel
theorem dX8_runs_18 : decode cX8_runs 18 = .ok (.iaload, 1) := by decide +kernel
theorem dX8_runs_19 : decode cX8_runs 19 = .ok (.aload_n 1, 1) := by decide +kernel
theorem dX8_runs_20 : decode cX8_runs 20 = .ok (.iload_n 3, 1) := by decide +kernel
theorem dX8_runs_21 : decode cX8_runs 21 = .ok (.iconst 1, 1) := by decide +kernel
theorem dX8_runs_22 : decode cX8_runs 22 = .ok (.isub, 1) := by decide +kernel
theorem dX8_runs_23 : decode cX8_runs 23 = .ok (.iaload, 1) := by decide +kernel
theorem dX8_runs_24 : decode cX8_runs 24 = .ok (.if_icmp .eq 6, 3) := by decide +kernel
theorem dX8_runs_27 : decode cX8_runs 27 = .ok (.iinc 2 1, 3) := by decide +kernel
theorem dX8_runs_30 : decode cX8_runs 30 = .ok (.iinc 3 1, 3) := by decide +kernel
theorem dX8_runs_33 : decode cX8_runs 33 = .ok (.goto (-29), 3) := by decide +kernel
theorem dX8_runs_36 : decode cX8_runs 36 = .ok (.iload_n 2, 1) := by decide +kernel
theorem dX8_runs_37 : decode cX8_runs 37 = .ok (.ireturn, 1) := by decide +kernel
theorem dX8_deepOf_0 : decode cX8_deepOf 0 = .ok (.iconst 0, 1) := by decide +kernel
theorem dX8_deepOf_1 : decode cX8_deepOf 1 = .ok (.istore_n 1, 1) := by decide +kernel
theorem dX8_deepOf_2 : decode cX8_deepOf 2 = .ok (.iconst 0, 1) := by decide +kernel
theorem dX8_deepOf_3 : decode cX8_deepOf 3 = .ok (.istore_n 2, 1) := by decide +kernel
theorem dX8_deepOf_4 : decode cX8_deepOf 4 = .ok (.iload_n 2, 1) := by decide +kernel
theorem dX8_deepOf_5 : decode cX8_deepOf 5 = .ok (.aload_n 0, 1) := by decide +kernel
theorem dX8_deepOf_6 : decode cX8_deepOf 6 = .ok (.getfield 254, 3) := by decide +kernel
theorem dX8_deepOf_9 : decode cX8_deepOf 9 = .ok (.if_icmp .ge 26, 3) := by decide +kernel
theorem dX8_deepOf_12 : decode cX8_deepOf 12 = .ok (.aload_n 0, 1) := by decide +kernel
theorem dX8_deepOf_13 : decode cX8_deepOf 13 = .ok (.getfield 47, 3) := by decide +kernel
theorem dX8_deepOf_16 : decode cX8_deepOf 16 = .ok (.aload_n 0, 1) := by decide +kernel
theorem dX8_deepOf_17 : decode cX8_deepOf 17 = .ok (.getfield 86, 3) := by decide +kernel
theorem dX8_deepOf_20 : decode cX8_deepOf 20 = .ok (.iload_n 2, 1) := by decide +kernel
theorem dX8_deepOf_21 : decode cX8_deepOf 21 = .ok (.iaload, 1) := by decide +kernel
theorem dX8_deepOf_22 : decode cX8_deepOf 22 = .ok (.iaload, 1) := by decide +kernel
theorem dX8_deepOf_23 : decode cX8_deepOf 23 = .ok (.ifCond .eq 6, 3) := by decide +kernel
theorem dX8_deepOf_26 : decode cX8_deepOf 26 = .ok (.iinc 1 1, 3) := by decide +kernel
theorem dX8_deepOf_29 : decode cX8_deepOf 29 = .ok (.iinc 2 1, 3) := by decide +kernel
theorem dX8_deepOf_32 : decode cX8_deepOf 32 = .ok (.goto (-28), 3) := by decide +kernel
theorem dX8_deepOf_35 : decode cX8_deepOf 35 = .ok (.iload_n 1, 1) := by decide +kernel
theorem dX8_deepOf_36 : decode cX8_deepOf 36 = .ok (.ireturn, 1) := by decide +kernel
theorem dX8_sizeOf_0 : decode cX8_sizeOf 0 = .ok (.aload_n 0, 1) := by decide +kernel
theorem dX8_sizeOf_1 : decode cX8_sizeOf 1 = .ok (.iconst 1, 1) := by decide +kernel
theorem dX8_sizeOf_2 : decode cX8_sizeOf 2 = .ok (.invokevirtual 278, 3) := by decide +kernel
theorem dX8_sizeOf_5 : decode cX8_sizeOf 5 = .ok (.istore_n 1, 1) := by decide +kernel
theorem dX8_sizeOf_6 : decode cX8_sizeOf 6 = .ok (.iconst 0, 1) := by decide +kernel
theorem dX8_sizeOf_7 : decode cX8_sizeOf 7 = .ok (.istore_n 2, 1) := by decide +kernel
theorem dX8_sizeOf_8 : decode cX8_sizeOf 8 = .ok (.iconst 1, 1) := by decide +kernel
theorem dX8_sizeOf_9 : decode cX8_sizeOf 9 = .ok (.iload_n 2, 1) := by decide +kernel
theorem dX8_sizeOf_10 : decode cX8_sizeOf 10 = .ok (.ishl, 1) := by decide +kernel
theorem dX8_sizeOf_11 : decode cX8_sizeOf 11 = .ok (.iload_n 1, 1) := by decide +kernel
theorem dX8_sizeOf_12 : decode cX8_sizeOf 12 = .ok (.if_icmp .ge 9, 3) := by decide +kernel
theorem dX8_sizeOf_15 : decode cX8_sizeOf 15 = .ok (.iinc 2 1, 3) := by decide +kernel
theorem dX8_sizeOf_18 : decode cX8_sizeOf 18 = .ok (.goto (-10), 3) := by decide +kernel
theorem dX8_sizeOf_21 : decode cX8_sizeOf 21 = .ok (.bipush 8, 2) := by decide +kernel
theorem dX8_sizeOf_23 : decode cX8_sizeOf 23 = .ok (.iload_n 1, 1) := by decide +kernel
theorem dX8_sizeOf_24 : decode cX8_sizeOf 24 = .ok (.imul, 1) := by decide +kernel
theorem dX8_sizeOf_25 : decode cX8_sizeOf 25 = .ok (.iload_n 2, 1) := by decide +kernel
theorem dX8_sizeOf_26 : decode cX8_sizeOf 26 = .ok (.aload_n 0, 1) := by decide +kernel
theorem dX8_sizeOf_27 : decode cX8_sizeOf 27 = .ok (.iconst 0, 1) := by decide +kernel
theorem dX8_sizeOf_28 : decode cX8_sizeOf 28 = .ok (.invokevirtual 278, 3) := by decide +kernel
theorem dX8_sizeOf_31 : decode cX8_sizeOf 31 = .ok (.imul, 1) := by decide +kernel
theorem dX8_sizeOf_32 : decode cX8_sizeOf 32 = .ok (.bipush 7, 2) := by decide +kernel
theorem dX8_sizeOf_34 : decode cX8_sizeOf 34 = .ok (.iadd, 1) := by decide +kernel
theorem dX8_sizeOf_35 : decode cX8_sizeOf 35 = .ok (.bipush 8, 2) := by decide +kernel
theorem dX8_sizeOf_37 : decode cX8_sizeOf 37 = .ok (.idiv, 1) := by decide +kernel
theorem dX8_sizeOf_38 : decode cX8_sizeOf 38 = .ok (.iadd, 1) := by decide +kernel
theorem dX8_sizeOf_39 : decode cX8_sizeOf 39 = .ok (.istore_n 3, 1) := by decide +kernel
theorem dX8_sizeOf_40 : decode cX8_sizeOf 40 = .ok (.aload_n 0, 1) := by decide +kernel
theorem dX8_sizeOf_41 : decode cX8_sizeOf 41 = .ok (.aload_n 0, 1) := by decide +kernel
theorem dX8_sizeOf_42 : decode cX8_sizeOf 42 = .ok (.getfield 254, 3) := by decide +kernel
theorem dX8_sizeOf_45 : decode cX8_sizeOf 45 = .ok (.iconst 1, 1) := by decide +kernel
theorem dX8_sizeOf_46 : decode cX8_sizeOf 46 = .ok (.isub, 1) := by decide +kernel
theorem dX8_sizeOf_47 : decode cX8_sizeOf 47 = .ok (.invokevirtual 271, 3) := by decide +kernel
theorem dX8_sizeOf_50 : decode cX8_sizeOf 50 = .ok (.ifCond .eq 16, 3) := by decide +kernel
theorem dX8_sizeOf_53 : decode cX8_sizeOf 53 = .ok (.iload_n 3, 1) := by decide +kernel
theorem dX8_sizeOf_54 : decode cX8_sizeOf 54 = .ok (.iconst 2, 1) := by decide +kernel
theorem dX8_sizeOf_55 : decode cX8_sizeOf 55 = .ok (.aload_n 0, 1) := by decide +kernel
theorem dX8_sizeOf_56 : decode cX8_sizeOf 56 = .ok (.aload_n 0, 1) := by decide +kernel
theorem dX8_sizeOf_57 : decode cX8_sizeOf 57 = .ok (.getfield 89, 3) := by decide +kernel
