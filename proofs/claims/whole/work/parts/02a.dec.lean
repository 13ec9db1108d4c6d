theorem dX0_init_0 : decode cX0_init 0 = .ok (.aload_n 0, 1) := by decide +kernel
theorem dX0_init_1 : decode cX0_init 1 = .ok (.invokespecial 3, 3) := by decide +kernel
theorem dX0_init_4 : decode cX0_init 4 = .ok (.aload_n 0, 1) := by decide +kernel
theorem dX0_init_5 : decode cX0_init 5 = .ok (.aload_n 1, 1) := by decide +kernel
theorem dX0_init_6 : decode cX0_init 6 = .ok (.putfield 9, 3) := by decide +kernel
theorem dX0_init_9 : decode cX0_init 9 = .ok (.aload_n 0, 1) := by decide +kernel
theorem dX0_init_10 : decode cX0_init 10 = .ok (.aload_n 2, 1) := by decide +kernel
theorem dX0_init_11 : decode cX0_init 11 = .ok (.putfield 15, 3) := by decide +kernel
theorem dX0_init_14 : decode cX0_init 14 = .ok (.aload_n 0, 1) := by decide +kernel
theorem dX0_init_15 : decode cX0_init 15 = .ok (.aload_n 3, 1) := by decide +kernel
theorem dX0_init_16 : decode cX0_init 16 = .ok (.putfield 19, 3) := by decide +kernel
theorem dX0_init_19 : decode cX0_init 19 = .ok (.aload_n 0, 1) := by decide +kernel
theorem dX0_init_20 : decode cX0_init 20 = .ok (.iload 4, 2) := by decide +kernel
theorem dX0_init_22 : decode cX0_init 22 = .ok (.putfield 23, 3) := by decide +kernel
theorem dX0_init_25 : decode cX0_init 25 = .ok (.aload_n 0, 1) := by decide +kernel
theorem dX0_init_26 : decode cX0_init 26 = .ok (.bipush 66, 2) := by decide +kernel
theorem dX0_init_28 : decode cX0_init 28 = .ok (.newarray .boolean, 2) := by decide +kernel
theorem dX0_init_30 : decode cX0_init 30 = .ok (.putfield 27, 3) := by decide +kernel
theorem dX0_init_33 : decode cX0_init 33 = .ok (.aload_n 0, 1) := by decide +kernel
theorem dX0_init_34 : decode cX0_init 34 = .ok (.iconst 5, 1) := by decide +kernel
theorem dX0_init_35 : decode cX0_init 35 = .ok (.newarray .int, 2) := by decide +kernel
theorem dX0_init_37 : decode cX0_init 37 = .ok (.putfield 31, 3) := by decide +kernel
theorem dX0_init_40 : decode cX0_init 40 = .ok (.aload_n 0, 1) := by decide +kernel
theorem dX0_init_41 : decode cX0_init 41 = .ok (.iconst (-1), 1) := by decide +kernel
theorem dX0_init_42 : decode cX0_init 42 = .ok (.putfield 35, 3) := by decide +kernel
theorem dX0_init_45 : decode cX0_init 45 = .ok (.aload_n 0, 1) := by decide +kernel
theorem dX0_init_46 : decode cX0_init 46 = .ok (.iconst 0, 1) := by decide +kernel
theorem dX0_init_47 : decode cX0_init 47 = .ok (.putfield 38, 3) := by decide +kernel
theorem dX0_init_50 : decode cX0_init 50 = .ok (.return_, 1) := by decide +kernel
theorem dX0_readAll_0 : decode cX0_readAll 0 = .ok (.aload_n 0, 1) := by decide +kernel
theorem dX0_readAll_1 : decode cX0_readAll 1 = .ok (.getfield 9, 3) := by decide +kernel
theorem dX0_readAll_4 : decode cX0_readAll 4 = .ok (.invokevirtual 41, 3) := by decide +kernel
theorem dX0_readAll_7 : decode cX0_readAll 7 = .ok (.iconst 1, 1) := by decide +kernel
theorem dX0_readAll_8 : decode cX0_readAll 8 = .ok (.istore_n 1, 1) := by decide +kernel
theorem dX0_readAll_9 : decode cX0_readAll 9 = .ok (.iconst 0, 1) := by decide +kernel
theorem dX0_readAll_10 : decode cX0_readAll 10 = .ok (.istore_n 2, 1) := by decide +kernel
theorem dX0_readAll_11 : decode cX0_readAll 11 = .ok (.iload_n 2, 1) := by decide +kernel
theorem dX0_readAll_12 : decode cX0_readAll 12 = .ok (.sipush 400, 3) := by decide +kernel
theorem dX0_readAll_15 : decode cX0_readAll 15 = .ok (.if_icmp .gt 52, 3) := by decide +kernel
theorem dX0_readAll_18 : decode cX0_readAll 18 = .ok (.iload_n 1, 1) := by decide +kernel
theorem dX0_readAll_19 : decode cX0_readAll 19 = .ok (.ifCond .eq 48, 3) := by decide +kernel
theorem dX0_readAll_22 : decode cX0_readAll 22 = .ok (.aload_n 0, 1) := by decide +kernel
theorem dX0_readAll_23 : decode cX0_readAll 23 = .ok (.getfield 9, 3) := by decide +kernel
theorem dX0_readAll_26 : decode cX0_readAll 26 = .ok (.invokevirtual 46, 3) := by decide +kernel
theorem dX0_readAll_29 : decode cX0_readAll 29 = .ok (.istore_n 3, 1) := by decide +kernel
theorem dX0_readAll_30 : decode cX0_readAll 30 = .ok (.iload_n 3, 1) := by decide +kernel
theorem dX0_readAll_31 : decode cX0_readAll 31 = .ok (.iconst (-1), 1) := by decide +kernel
theorem dX0_readAll_32 : decode cX0_readAll 32 = .ok (.if_icmp .ne 11, 3) := by decide +kernel
theorem dX0_readAll_35 : decode cX0_readAll 35 = .ok (.aload_n 0, 1) := by decide +kernel
theorem dX0_readAll_36 : decode cX0_readAll 36 = .ok (.invokevirtual 50, 3) := by decide +kernel
theorem dX0_readAll_39 : decode cX0_readAll 39 = .ok (.istore_n 1, 1) := by decide +kernel
theorem dX0_readAll_40 : decode cX0_readAll 40 = .ok (.goto 21, 3) := by decide +kernel
theorem dX0_readAll_43 : decode cX0_readAll 43 = .ok (.iload_n 3, 1) := by decide +kernel
theorem dX0_readAll_44 : decode cX0_readAll 44 = .ok (.bipush 93, 2) := by decide +kernel
theorem dX0_readAll_46 : decode cX0_readAll 46 = .ok (.if_icmp .ne 10, 3) := by decide +kernel
theorem dX0_readAll_49 : decode cX0_readAll 49 = .ok (.aload_n 0, 1) := by decide +kernel
theorem dX0_readAll_50 : decode cX0_readAll 50 = .ok (.invokevirtual 54, 3) := by decide +kernel
theorem dX0_readAll_53 : decode cX0_readAll 53 = .ok (.goto 7, 3) := by decide +kernel
theorem dX0_readAll_56 : decode cX0_readAll 56 = .ok (.aload_n 0, 1) := by decide +kernel
theorem dX0_readAll_57 : decode cX0_readAll 57 = .ok (.invokevirtual 57, 3) := by decide +kernel
theorem dX0_readAll_60 : decode cX0_readAll 60 = .ok (.istore_n 1, 1) := by decide +kernel
theorem dX0_readAll_61 : decode cX0_readAll 61 = .ok (.iinc 2 1, 3) := by decide +kernel
theorem dX0_readAll_64 : decode cX0_readAll 64 = .ok (.goto (-53), 3) := by decide +kernel
theorem dX0_readAll_67 : decode cX0_readAll 67 = .ok (.aload_n 0, 1) := by decide +kernel
theorem dX0_readAll_68 : decode cX0_readAll 68 = .ok (.getfield 9, 3) := by decide +kernel
theorem dX0_readAll_71 : decode cX0_readAll 71 = .ok (.getfield 60, 3) := by decide +kernel
theorem dX0_readAll_74 : decode cX0_readAll 74 = .ok (.ifCond .ne 7, 3) := by decide +kernel
theorem dX0_readAll_77 : decode cX0_readAll 77 = .ok (.iconst 1, 1) := by decide +kernel
theorem dX0_readAll_78 : decode cX0_readAll 78 = .ok (.goto 4, 3) := by decide +kernel
theorem dX0_readAll_81 : decode cX0_readAll 81 = .ok (.iconst 0, 1) := by decide +kernel
theorem dX0_readAll_82 : decode cX0_readAll 82 = .ok (.ireturn, 1) := by decide +kernel
theorem dX0_readEnd_0 : decode cX0_readEnd 0 = .ok (.aload_n 0, 1) := by decide +kernel
theorem dX0_readEnd_1 : decode cX0_readEnd 1 = .ok (.getfield 35, 3) := by decide +kernel
theorem dX0_readEnd_4 : decode cX0_readEnd 4 = .ok (.iconst (-1), 1) := by decide +kernel
theorem dX0_readEnd_5 : decode cX0_readEnd 5 = .ok (.if_icmp .eq 12, 3) := by decide +kernel
theorem dX0_readEnd_8 : decode cX0_readEnd 8 = .ok (.aload_n 0, 1) := by decide +kernel
theorem dX0_readEnd_9 : decode cX0_readEnd 9 = .ok (.getfield 9, 3) := by decide +kernel
theorem dX0_readEnd_12 : decode cX0_readEnd 12 = .ok (.iconst 1, 1) := by decide +kernel
theorem dX0_readEnd_13 : decode cX0_readEnd 13 = .ok (.invokevirtual 63, 3) := by decide +kernel
theorem dX0_readEnd_16 : decode cX0_readEnd 16 = .ok (.ireturn, 1) := by decide +kernel
theorem dX0_readEnd_17 : decode cX0_readEnd 17 = .ok (.aload_n 0, 1) := by decide +kernel
theorem dX0_readEnd_18 : decode cX0_readEnd 18 = .ok (.invokevirtual 67, 3) := by decide +kernel
theorem dX0_readEnd_21 : decode cX0_readEnd 21 = .ok (.pop, 1) := by decide +kernel
theorem dX0_readEnd_22 : decode cX0_readEnd 22 = .ok (.iconst 0, 1) := by decide +kernel
theorem dX0_readEnd_23 : decode cX0_readEnd 23 = .ok (.ireturn, 1) := by decide +kernel
theorem dX0_readClose_0 : decode cX0_readClose 0 = .ok (.aload_n 0, 1) := by decide +kernel
theorem dX0_readClose_1 : decode cX0_readClose 1 = .ok (.getfield 15, 3) := by decide +kernel
theorem dX0_readClose_4 : decode cX0_readClose 4 = .ok (.aload_n 0, 1) := by decide +kernel
theorem dX0_readClose_5 : decode cX0_readClose 5 = .ok (.getfield 35, 3) := by decide +kernel
theorem dX0_readClose_8 : decode cX0_readClose 8 = .ok (.invokevirtual 70, 3) := by decide +kernel
theorem dX0_readClose_11 : decode cX0_readClose 11 = .ok (.ifCond .ne 12, 3) := by decide +kernel
theorem dX0_readClose_14 : decode cX0_readClose 14 = .ok (.aload_n 0, 1) := by decide +kernel
theorem dX0_readClose_15 : decode cX0_readClose 15 = .ok (.getfield 9, 3) := by decide +kernel
theorem dX0_readClose_18 : decode cX0_readClose 18 = .ok (.iconst 1, 1) := by decide +kernel
theorem dX0_readClose_19 : decode cX0_readClose 19 = .ok (.invokevirtual 63, 3) := by decide +kernel
theorem dX0_readClose_22 : decode cX0_readClose 22 = .ok (.ireturn, 1) := by decide +kernel
theorem dX0_readClose_23 : decode cX0_readClose 23 = .ok (.aload_n 0, 1) := by decide +kernel
theorem dX0_readClose_24 : decode cX0_readClose 24 = .ok (.invokevirtual 67, 3) := by decide +kernel
theorem dX0_readClose_27 : decode cX0_readClose 27 = .ok (.ifCond .ne 5, 3) := by decide +kernel
theorem dX0_readClose_30 : decode cX0_readClose 30 = .ok (.iconst 0, 1) := by decide +kernel
theorem dX0_readClose_31 : decode cX0_readClose 31 = .ok (.ireturn, 1) := by decide +kernel
theorem dX0_readClose_32 : decode cX0_readClose 32 = .ok (.aload_n 0, 1) := by decide +kernel
theorem dX0_readClose_33 : decode cX0_readClose 33 = .ok (.getfield 9, 3) := by decide +kernel
theorem dX0_readClose_36 : decode cX0_readClose 36 = .ok (.dup, 1) := by decide +kernel
theorem dX0_readClose_37 : decode cX0_readClose 37 = .ok (.getfield 75, 3) := by decide +kernel
theorem dX0_readClose_40 : decode cX0_readClose 40 = .ok (.iconst 1, 1) := by decide +kernel
theorem dX0_readClose_41 : decode cX0_readClose 41 = .ok (.iadd, 1) := by decide +kernel
theorem dX0_readClose_42 : decode cX0_readClose 42 = .ok (.putfield 75, 3) := by decide +kernel
theorem dX0_readClose_45 : decode cX0_readClose 45 = .ok (.aload_n 0, 1) := by decide +kernel
theorem dX0_readClose_46 : decode cX0_readClose 46 = .ok (.aload_n 0, 1) := by decide +kernel
theorem dX0_readClose_47 : decode cX0_readClose 47 = .ok (.getfield 15, 3) := by decide +kernel
theorem dX0_readClose_50 : decode cX0_readClose 50 = .ok (.getfield 78, 3) := by decide +kernel
theorem dX0_readClose_53 : decode cX0_readClose 53 = .ok (.aload_n 0, 1) := by decide +kernel
theorem dX0_readClose_54 : decode cX0_readClose 54 = .ok (.getfield 35, 3) := by decide +kernel
theorem dX0_readClose_57 : decode cX0_readClose 57 = .ok (.iaload, 1) := by decide +kernel
theorem dX0_readClose_58 : decode cX0_readClose 58 = .ok (.putfield 35, 3) := by decide +kernel
theorem dX0_readClose_61 : decode cX0_readClose 61 = .ok (.aload_n 0, 1) := by decide +kernel
theorem dX0_readClose_62 : decode cX0_readClose 62 = .ok (.dup, 1) := by decide +kernel
theorem dX0_readClose_63 : decode cX0_readClose 63 = .ok (.getfield 38, 3) := by decide +kernel
theorem dX0_readClose_66 : decode cX0_readClose 66 = .ok (.iconst 1, 1) := by decide +kernel
theorem dX0_readClose_67 : decode cX0_readClose 67 = .ok (.isub, 1) := by decide +kernel
theorem dX0_readClose_68 : decode cX0_readClose 68 = .ok (.putfield 38, 3) := by decide +kernel
theorem dX0_readClose_71 : decode cX0_readClose 71 = .ok (.aload_n 0, 1) := by decide +kernel
theorem dX0_readClose_72 : decode cX0_readClose 72 = .ok (.getfield 9, 3) := by decide +kernel
theorem dX0_readClose_75 : decode cX0_readClose 75 = .ok (.bipush 59, 2) := by decide +kernel
theorem dX0_readClose_77 : decode cX0_readClose 77 = .ok (.invokevirtual 81, 3) := by decide +kernel
theorem dX0_readClose_80 : decode cX0_readClose 80 = .ok (.ireturn, 1) := by decide +kernel
theorem dX0_readEntry_0 : decode cX0_readEntry 0 = .ok (.aload_n 0, 1) := by decide +kernel
theorem dX0_readEntry_1 : decode cX0_readEntry 1 = .ok (.invokevirtual 84, 3) := by decide +kernel
theorem dX0_readEntry_4 : decode cX0_readEntry 4 = .ok (.istore_n 1, 1) := by decide +kernel
theorem dX0_readEntry_5 : decode cX0_readEntry 5 = .ok (.aload_n 0, 1) := by decide +kernel
theorem dX0_readEntry_6 : decode cX0_readEntry 6 = .ok (.getfield 15, 3) := by decide +kernel
theorem dX0_readEntry_9 : decode cX0_readEntry 9 = .ok (.iload_n 1, 1) := by decide +kernel
theorem dX0_readEntry_10 : decode cX0_readEntry 10 = .ok (.invokevirtual 70, 3) := by decide +kernel
theorem dX0_readEntry_13 : decode cX0_readEntry 13 = .ok (.ifCond .eq 15, 3) := by decide +kernel
theorem dX0_readEntry_16 : decode cX0_readEntry 16 = .ok (.aload_n 0, 1) := by decide +kernel
theorem dX0_readEntry_17 : decode cX0_readEntry 17 = .ok (.getfield 9, 3) := by decide +kernel
theorem dX0_readEntry_20 : decode cX0_readEntry 20 = .ok (.bipush 58, 2) := by decide +kernel
theorem dX0_readEntry_22 : decode cX0_readEntry 22 = .ok (.invokevirtual 81, 3) := by decide +kernel
theorem dX0_readEntry_25 : decode cX0_readEntry 25 = .ok (.ifCond .ne 5, 3) := by decide +kernel
theorem dX0_readEntry_28 : decode cX0_readEntry 28 = .ok (.iconst 0, 1) := by decide +kernel
theorem dX0_readEntry_29 : decode cX0_readEntry 29 = .ok (.ireturn, 1) := by decide +kernel
theorem dX0_readEntry_30 : decode cX0_readEntry 30 = .ok (.aload_n 0, 1) := by decide +kernel
theorem dX0_readEntry_31 : decode cX0_readEntry 31 = .ok (.getfield 9, 3) := by decide +kernel
theorem dX0_readEntry_34 : decode cX0_readEntry 34 = .ok (.invokevirtual 46, 3) := by decide +kernel
theorem dX0_readEntry_37 : decode cX0_readEntry 37 = .ok (.invokestatic 87, 3) := by decide +kernel
theorem dX0_readEntry_40 : decode cX0_readEntry 40 = .ok (.istore_n 2, 1) := by decide +kernel
theorem dX0_readEntry_41 : decode cX0_readEntry 41 = .ok (.iload_n 2, 1) := by decide +kernel
theorem dX0_readEntry_42 : decode cX0_readEntry 42 = .ok (.aload_n 0, 1) := by decide +kernel
theorem dX0_readEntry_43 : decode cX0_readEntry 43 = .ok (.getfield 15, 3) := by decide +kernel
theorem dX0_readEntry_46 : decode cX0_readEntry 46 = .ok (.getfield 91, 3) := by decide +kernel
theorem dX0_readEntry_49 : decode cX0_readEntry 49 = .ok (.iload_n 1, 1) := by decide +kernel
theorem dX0_readEntry_50 : decode cX0_readEntry 50 = .ok (.iaload, 1) := by decide +kernel
theorem dX0_readEntry_51 : decode cX0_readEntry 51 = .ok (.if_icmp .eq 21, 3) := by decide +kernel
theorem dX0_readEntry_54 : decode cX0_readEntry 54 = .ok (.aload_n 0, 1) := by decide +kernel
theorem dX0_readEntry_55 : decode cX0_readEntry 55 = .ok (.getfield 9, 3) := by decide +kernel
theorem dX0_readEntry_58 : decode cX0_readEntry 58 = .ok (.iload_n 2, 1) := by decide +kernel
theorem dX0_readEntry_59 : decode cX0_readEntry 59 = .ok (.iconst (-1), 1) := by decide +kernel
theorem dX0_readEntry_60 : decode cX0_readEntry 60 = .ok (.if_icmp .ne 7, 3) := by decide +kernel
theorem dX0_readEntry_63 : decode cX0_readEntry 63 = .ok (.iconst 1, 1) := by decide +kernel
theorem dX0_readEntry_64 : decode cX0_readEntry 64 = .ok (.goto 4, 3) := by decide +kernel
theorem dX0_readEntry_67 : decode cX0_readEntry 67 = .ok (.iconst 5, 1) := by decide +kernel
theorem dX0_readEntry_68 : decode cX0_readEntry 68 = .ok (.invokevirtual 63, 3) := by decide +kernel
theorem dX0_readEntry_71 : decode cX0_readEntry 71 = .ok (.ireturn, 1) := by decide +kernel
theorem dX0_readEntry_72 : decode cX0_readEntry 72 = .ok (.aload_n 0, 1) := by decide +kernel
theorem dX0_readEntry_73 : decode cX0_readEntry 73 = .ok (.getfield 27, 3) := by decide +kernel
theorem dX0_readEntry_76 : decode cX0_readEntry 76 = .ok (.iload_n 1, 1) := by decide +kernel
theorem dX0_readEntry_77 : decode cX0_readEntry 77 = .ok (.baload, 1) := by decide +kernel
theorem dX0_readEntry_78 : decode cX0_readEntry 78 = .ok (.ifCond .eq 15, 3) := by decide +kernel
theorem dX0_readEntry_81 : decode cX0_readEntry 81 = .ok (.aload_n 0, 1) := by decide +kernel
theorem dX0_readEntry_82 : decode cX0_readEntry 82 = .ok (.getfield 15, 3) := by decide +kernel
theorem dX0_readEntry_85 : decode cX0_readEntry 85 = .ok (.getfield 94, 3) := by decide +kernel
theorem dX0_readEntry_88 : decode cX0_readEntry 88 = .ok (.iload_n 1, 1) := by decide +kernel
theorem dX0_readEntry_89 : decode cX0_readEntry 89 = .ok (.iaload, 1) := by decide +kernel
theorem dX0_readEntry_90 : decode cX0_readEntry 90 = .ok (.goto 7, 3) := by decide +kernel
theorem dX0_readEntry_93 : decode cX0_readEntry 93 = .ok (.aload_n 0, 1) := by decide +kernel
theorem dX0_readEntry_94 : decode cX0_readEntry 94 = .ok (.invokevirtual 97, 3) := by decide +kernel
theorem dX0_readEntry_97 : decode cX0_readEntry 97 = .ok (.istore_n 3, 1) := by decide +kernel
theorem dX0_readEntry_98 : decode cX0_readEntry 98 = .ok (.aload_n 0, 1) := by decide +kernel
theorem dX0_readEntry_99 : decode cX0_readEntry 99 = .ok (.getfield 27, 3) := by decide +kernel
theorem dX0_readEntry_102 : decode cX0_readEntry 102 = .ok (.iload_n 1, 1) := by decide +kernel
theorem dX0_readEntry_103 : decode cX0_readEntry 103 = .ok (.iconst 1, 1) := by decide +kernel
theorem dX0_readEntry_104 : decode cX0_readEntry 104 = .ok (.bastore, 1) := by decide +kernel
theorem dX0_readEntry_105 : decode cX0_readEntry 105 = .ok (.iload_n 2, 1) := by decide +kernel
theorem dX0_readEntry_106 : decode cX0_readEntry 106 = .ok (.lookupswitch 40 #[(1, 26), (2, 33)], 26) := by decide +kernel
theorem dX0_readEntry_132 : decode cX0_readEntry 132 = .ok (.aload_n 0, 1) := by decide +kernel
theorem dX0_readEntry_133 : decode cX0_readEntry 133 = .ok (.iload_n 1, 1) := by decide +kernel
theorem dX0_readEntry_134 : decode cX0_readEntry 134 = .ok (.iload_n 3, 1) := by decide +kernel
theorem dX0_readEntry_135 : decode cX0_readEntry 135 = .ok (.invokevirtual 100, 3) := by decide +kernel
theorem dX0_readEntry_138 : decode cX0_readEntry 138 = .ok (.ireturn, 1) := by decide +kernel
theorem dX0_readEntry_139 : decode cX0_readEntry 139 = .ok (.aload_n 0, 1) := by decide +kernel
theorem dX0_readEntry_140 : decode cX0_readEntry 140 = .ok (.iload_n 1, 1) := by decide +kernel
theorem dX0_readEntry_141 : decode cX0_readEntry 141 = .ok (.iload_n 3, 1) := by decide +kernel
theorem dX0_readEntry_142 : decode cX0_readEntry 142 = .ok (.invokevirtual 104, 3) := by decide +kernel
theorem dX0_readEntry_145 : decode cX0_readEntry 145 = .ok (.ireturn, 1) := by decide +kernel
theorem dX0_readEntry_146 : decode cX0_readEntry 146 = .ok (.aload_n 0, 1) := by decide +kernel
theorem dX0_readEntry_147 : decode cX0_readEntry 147 = .ok (.iload_n 1, 1) := by decide +kernel
theorem dX0_readEntry_148 : decode cX0_readEntry 148 = .ok (.iload_n 3, 1) := by decide +kernel
theorem dX0_readEntry_149 : decode cX0_readEntry 149 = .ok (.invokevirtual 107, 3) := by decide +kernel
theorem dX0_readEntry_152 : decode cX0_readEntry 152 = .ok (.ireturn, 1) := by decide +kernel
theorem dX0_readName_0 : decode cX0_readName 0 = .ok (.aload_n 0, 1) := by decide +kernel
theorem dX0_readName_1 : decode cX0_readName 1 = .ok (.getfield 9, 3) := by decide +kernel
theorem dX0_readName_4 : decode cX0_readName 4 = .ok (.invokevirtual 110, 3) := by decide +kernel
theorem dX0_readName_7 : decode cX0_readName 7 = .ok (.aload_n 0, 1) := by decide +kernel
theorem dX0_readName_8 : decode cX0_readName 8 = .ok (.getfield 15, 3) := by decide +kernel
theorem dX0_readName_11 : decode cX0_readName 11 = .ok (.aload_n 0, 1) := by decide +kernel
theorem dX0_readName_12 : decode cX0_readName 12 = .ok (.getfield 35, 3) := by decide +kernel
theorem dX0_readName_15 : decode cX0_readName 15 = .ok (.aload_n 0, 1) := by decide +kernel
theorem dX0_readName_16 : decode cX0_readName 16 = .ok (.getfield 9, 3) := by decide +kernel
theorem dX0_readName_19 : decode cX0_readName 19 = .ok (.getfield 113, 3) := by decide +kernel
theorem dX0_readName_22 : decode cX0_readName 22 = .ok (.invokevirtual 117, 3) := by decide +kernel
theorem dX0_readName_25 : decode cX0_readName 25 = .ok (.istore_n 1, 1) := by decide +kernel
theorem dX0_readName_26 : decode cX0_readName 26 = .ok (.aload_n 0, 1) := by decide +kernel
theorem dX0_readName_27 : decode cX0_readName 27 = .ok (.getfield 9, 3) := by decide +kernel
theorem dX0_readName_30 : decode cX0_readName 30 = .ok (.getfield 121, 3) := by decide +kernel
theorem dX0_readName_33 : decode cX0_readName 33 = .ok (.ifCond .ne 14, 3) := by decide +kernel
theorem dX0_readName_36 : decode cX0_readName 36 = .ok (.aload_n 0, 1) := by decide +kernel
theorem dX0_readName_37 : decode cX0_readName 37 = .ok (.getfield 9, 3) := by decide +kernel
theorem dX0_readName_40 : decode cX0_readName 40 = .ok (.iconst 1, 1) := by decide +kernel
theorem dX0_readName_41 : decode cX0_readName 41 = .ok (.invokevirtual 63, 3) := by decide +kernel
theorem dX0_readName_44 : decode cX0_readName 44 = .ok (.pop, 1) := by decide +kernel
theorem dX0_readName_45 : decode cX0_readName 45 = .ok (.iconst (-1), 1) := by decide +kernel
theorem dX0_readName_46 : decode cX0_readName 46 = .ok (.ireturn, 1) := by decide +kernel
theorem dX0_readName_47 : decode cX0_readName 47 = .ok (.aload_n 0, 1) := by decide +kernel
theorem dX0_readName_48 : decode cX0_readName 48 = .ok (.getfield 15, 3) := by decide +kernel
theorem dX0_readName_51 : decode cX0_readName 51 = .ok (.iload_n 1, 1) := by decide +kernel
theorem dX0_readName_52 : decode cX0_readName 52 = .ok (.invokevirtual 70, 3) := by decide +kernel
theorem dX0_readName_55 : decode cX0_readName 55 = .ok (.ifCond .ne 21, 3) := by decide +kernel
theorem dX0_readName_58 : decode cX0_readName 58 = .ok (.aload_n 0, 1) := by decide +kernel
theorem dX0_readName_59 : decode cX0_readName 59 = .ok (.getfield 9, 3) := by decide +kernel
theorem dX0_readName_62 : decode cX0_readName 62 = .ok (.iconst 2, 1) := by decide +kernel
theorem dX0_readName_63 : decode cX0_readName 63 = .ok (.aload_n 0, 1) := by decide +kernel
theorem dX0_readName_64 : decode cX0_readName 64 = .ok (.getfield 9, 3) := by decide +kernel
theorem dX0_readName_67 : decode cX0_readName 67 = .ok (.getfield 124, 3) := by decide +kernel
theorem dX0_readName_70 : decode cX0_readName 70 = .ok (.invokevirtual 127, 3) := by decide +kernel
theorem dX0_readName_73 : decode cX0_readName 73 = .ok (.pop, 1) := by decide +kernel
theorem dX0_readName_74 : decode cX0_readName 74 = .ok (.iconst (-1), 1) := by decide +kernel
theorem dX0_readName_75 : decode cX0_readName 75 = .ok (.ireturn, 1) := by decide +kernel
theorem dX0_readName_76 : decode cX0_readName 76 = .ok (.aload_n 0, 1) := by decide +kernel
theorem dX0_readName_77 : decode cX0_readName 77 = .ok (.getfield 27, 3) := by decide +kernel
theorem dX0_readName_80 : decode cX0_readName 80 = .ok (.iload_n 1, 1) := by decide +kernel
theorem dX0_readName_81 : decode cX0_readName 81 = .ok (.baload, 1) := by decide +kernel
theorem dX0_readName_82 : decode cX0_readName 82 = .ok (.ifCond .eq 34, 3) := by decide +kernel
theorem dX0_readName_85 : decode cX0_readName 85 = .ok (.aload_n 0, 1) := by decide +kernel
theorem dX0_readName_86 : decode cX0_readName 86 = .ok (.getfield 15, 3) := by decide +kernel
theorem dX0_readName_89 : decode cX0_readName 89 = .ok (.getfield 130, 3) := by decide +kernel
theorem dX0_readName_92 : decode cX0_readName 92 = .ok (.iload_n 1, 1) := by decide +kernel
theorem dX0_readName_93 : decode cX0_readName 93 = .ok (.iaload, 1) := by decide +kernel
theorem dX0_readName_94 : decode cX0_readName 94 = .ok (.iconst 3, 1) := by decide +kernel
theorem dX0_readName_95 : decode cX0_readName 95 = .ok (.if_icmp .eq 21, 3) := by decide +kernel
theorem dX0_readName_98 : decode cX0_readName 98 = .ok (.aload_n 0, 1) := by decide +kernel
theorem dX0_readName_99 : decode cX0_readName 99 = .ok (.getfield 9, 3) := by decide +kernel
theorem dX0_readName_102 : decode cX0_readName 102 = .ok (.iconst 3, 1) := by decide +kernel
theorem dX0_readName_103 : decode cX0_readName 103 = .ok (.aload_n 0, 1) := by decide +kernel
theorem dX0_readName_104 : decode cX0_readName 104 = .ok (.getfield 9, 3) := by decide +kernel
theorem dX0_readName_107 : decode cX0_readName 107 = .ok (.getfield 124, 3) := by decide +kernel
theorem dX0_readName_110 : decode cX0_readName 110 = .ok (.invokevirtual 127, 3) := by decide +kernel
theorem dX0_readName_113 : decode cX0_readName 113 = .ok (.pop, 1) := by decide +kernel
theorem dX0_readName_114 : decode cX0_readName 114 = .ok (.iconst (-1), 1) := by decide +kernel
theorem dX0_readName_115 : decode cX0_readName 115 = .ok (.ireturn, 1) := by decide +kernel
theorem dX0_readName_116 : decode cX0_readName 116 = .ok (.iload_n 1, 1) := by decide +kernel
theorem dX0_readName_117 : decode cX0_readName 117 = .ok (.ireturn, 1) := by decide +kernel
theorem dX0_kindBegunBy_0 : decode cX0_kindBegunBy 0 = .ok (.iload_n 0, 1) := by decide +kernel
theorem dX0_kindBegunBy_1 : decode cX0_kindBegunBy 1 = .ok (.bipush 45, 2) := by decide +kernel
theorem dX0_kindBegunBy_3 : decode cX0_kindBegunBy 3 = .ok (.if_icmp .eq 10, 3) := by decide +kernel
theorem dX0_kindBegunBy_6 : decode cX0_kindBegunBy 6 = .ok (.iload_n 0, 1) := by decide +kernel
theorem dX0_kindBegunBy_7 : decode cX0_kindBegunBy 7 = .ok (.invokestatic 133, 3) := by decide +kernel
theorem dX0_kindBegunBy_10 : decode cX0_kindBegunBy 10 = .ok (.ifCond .eq 5, 3) := by decide +kernel
theorem dX0_kindBegunBy_13 : decode cX0_kindBegunBy 13 = .ok (.iconst 1, 1) := by decide +kernel
theorem dX0_kindBegunBy_14 : decode cX0_kindBegunBy 14 = .ok (.ireturn, 1) := by decide +kernel
theorem dX0_kindBegunBy_15 : decode cX0_kindBegunBy 15 = .ok (.iload_n 0, 1) := by decide +kernel
theorem dX0_kindBegunBy_16 : decode cX0_kindBegunBy 16 = .ok (.invokestatic 136, 3) := by decide +kernel
theorem dX0_kindBegunBy_19 : decode cX0_kindBegunBy 19 = .ok (.ifCond .eq 5, 3) := by decide +kernel
theorem dX0_kindBegunBy_22 : decode cX0_kindBegunBy 22 = .ok (.iconst 2, 1) := by decide +kernel
theorem dX0_kindBegunBy_23 : decode cX0_kindBegunBy 23 = .ok (.ireturn, 1) := by decide +kernel
theorem dX0_kindBegunBy_24 : decode cX0_kindBegunBy 24 = .ok (.iload_n 0, 1) := by decide +kernel
theorem dX0_kindBegunBy_25 : decode cX0_kindBegunBy 25 = .ok (.bipush 91, 2) := by decide +kernel
theorem dX0_kindBegunBy_27 : decode cX0_kindBegunBy 27 = .ok (.if_icmp .ne 7, 3) := by decide +kernel
theorem dX0_kindBegunBy_30 : decode cX0_kindBegunBy 30 = .ok (.iconst 3, 1) := by decide +kernel
theorem dX0_kindBegunBy_31 : decode cX0_kindBegunBy 31 = .ok (.goto 4, 3) := by decide +kernel
theorem dX0_kindBegunBy_34 : decode cX0_kindBegunBy 34 = .ok (.iconst (-1), 1) := by decide +kernel
theorem dX0_kindBegunBy_35 : decode cX0_kindBegunBy 35 = .ok (.ireturn, 1) := by decide +kernel
theorem dX0_readNumber_0 : decode cX0_readNumber 0 = .ok (.aload_n 0, 1) := by decide +kernel
theorem dX0_readNumber_1 : decode cX0_readNumber 1 = .ok (.getfield 9, 3) := by decide +kernel
theorem dX0_readNumber_4 : decode cX0_readNumber 4 = .ok (.invokevirtual 139, 3) := by decide +kernel
theorem dX0_readNumber_7 : decode cX0_readNumber 7 = .ok (.bipush 45, 2) := by decide +kernel
theorem dX0_readNumber_9 : decode cX0_readNumber 9 = .ok (.if_icmp .ne 7, 3) := by decide +kernel
theorem dX0_readNumber_12 : decode cX0_readNumber 12 = .ok (.iconst 1, 1) := by decide +kernel
theorem dX0_readNumber_13 : decode cX0_readNumber 13 = .ok (.goto 4, 3) := by decide +kernel
theorem dX0_readNumber_16 : decode cX0_readNumber 16 = .ok (.iconst 0, 1) := by decide +kernel
theorem dX0_readNumber_17 : decode cX0_readNumber 17 = .ok (.istore_n 3, 1) := by decide +kernel
theorem dX0_readNumber_18 : decode cX0_readNumber 18 = .ok (.iload_n 3, 1) := by decide +kernel
theorem dX0_readNumber_19 : decode cX0_readNumber 19 = .ok (.ifCond .eq 16, 3) := by decide +kernel
theorem dX0_readNumber_22 : decode cX0_readNumber 22 = .ok (.aload_n 0, 1) := by decide +kernel
theorem dX0_readNumber_23 : decode cX0_readNumber 23 = .ok (.getfield 9, 3) := by decide +kernel
theorem dX0_readNumber_26 : decode cX0_readNumber 26 = .ok (.dup, 1) := by decide +kernel
theorem dX0_readNumber_27 : decode cX0_readNumber 27 = .ok (.getfield 75, 3) := by decide +kernel
theorem dX0_readNumber_30 : decode cX0_readNumber 30 = .ok (.iconst 1, 1) := by decide +kernel
theorem dX0_readNumber_31 : decode cX0_readNumber 31 = .ok (.iadd, 1) := by decide +kernel
theorem dX0_readNumber_32 : decode cX0_readNumber 32 = .ok (.putfield 75, 3) := by decide +kernel
theorem dX0_readNumber_35 : decode cX0_readNumber 35 = .ok (.iconst 0, 1) := by decide +kernel
theorem dX0_readNumber_36 : decode cX0_readNumber 36 = .ok (.istore 4, 2) := by decide +kernel
theorem dX0_readNumber_38 : decode cX0_readNumber 38 = .ok (.lconst 0, 1) := by decide +kernel
theorem dX0_readNumber_39 : decode cX0_readNumber 39 = .ok (.lstore 5, 2) := by decide +kernel
theorem dX0_readNumber_41 : decode cX0_readNumber 41 = .ok (.iload 4, 2) := by decide +kernel
theorem dX0_readNumber_43 : decode cX0_readNumber 43 = .ok (.bipush 6, 2) := by decide +kernel
theorem dX0_readNumber_45 : decode cX0_readNumber 45 = .ok (.if_icmp .ge 55, 3) := by decide +kernel
theorem dX0_readNumber_48 : decode cX0_readNumber 48 = .ok (.aload_n 0, 1) := by decide +kernel
theorem dX0_readNumber_49 : decode cX0_readNumber 49 = .ok (.getfield 9, 3) := by decide +kernel
theorem dX0_readNumber_52 : decode cX0_readNumber 52 = .ok (.invokevirtual 139, 3) := by decide +kernel
theorem dX0_readNumber_55 : decode cX0_readNumber 55 = .ok (.invokestatic 133, 3) := by decide +kernel
theorem dX0_readNumber_58 : decode cX0_readNumber 58 = .ok (.ifCond .eq 42, 3) := by decide +kernel
theorem dX0_readNumber_61 : decode cX0_readNumber 61 = .ok (.lload 5, 2) := by decide +kernel
theorem dX0_readNumber_63 : decode cX0_readNumber 63 = .ok (.ldc2_w 142, 3) := by decide +kernel
theorem dX0_readNumber_66 : decode cX0_readNumber 66 = .ok (.lmul, 1) := by decide +kernel
theorem dX0_readNumber_67 : decode cX0_readNumber 67 = .ok (.aload_n 0, 1) := by decide +kernel
theorem dX0_readNumber_68 : decode cX0_readNumber 68 = .ok (.getfield 9, 3) := by decide +kernel
theorem dX0_readNumber_71 : decode cX0_readNumber 71 = .ok (.invokevirtual 139, 3) := by decide +kernel
theorem dX0_readNumber_74 : decode cX0_readNumber 74 = .ok (.bipush 48, 2) := by decide +kernel
theorem dX0_readNumber_76 : decode cX0_readNumber 76 = .ok (.isub, 1) := by decide +kernel
theorem dX0_readNumber_77 : decode cX0_readNumber 77 = .ok (.i2l, 1) := by decide +kernel
theorem dX0_readNumber_78 : decode cX0_readNumber 78 = .ok (.ladd, 1) := by decide +kernel
theorem dX0_readNumber_79 : decode cX0_readNumber 79 = .ok (.lstore 5, 2) := by decide +kernel
theorem dX0_readNumber_81 : decode cX0_readNumber 81 = .ok (.aload_n 0, 1) := by decide +kernel
theorem dX0_readNumber_82 : decode cX0_readNumber 82 = .ok (.getfield 9, 3) := by decide +kernel
theorem dX0_readNumber_85 : decode cX0_readNumber 85 = .ok (.dup, 1) := by decide +kernel
theorem dX0_readNumber_86 : decode cX0_readNumber 86 = .ok (.getfield 75, 3) := by decide +kernel
theorem dX0_readNumber_89 : decode cX0_readNumber 89 = .ok (.iconst 1, 1) := by decide +kernel
theorem dX0_readNumber_90 : decode cX0_readNumber 90 = .ok (.iadd, 1) := by decide +kernel
theorem dX0_readNumber_91 : decode cX0_readNumber 91 = .ok (.putfield 75, 3) := by decide +kernel
theorem dX0_readNumber_94 : decode cX0_readNumber 94 = .ok (.iinc 4 1, 3) := by decide +kernel
theorem dX0_readNumber_97 : decode cX0_readNumber 97 = .ok (.goto (-56), 3) := by decide +kernel
theorem dX0_readNumber_100 : decode cX0_readNumber 100 = .ok (.iload 4, 2) := by decide +kernel
theorem dX0_readNumber_102 : decode cX0_readNumber 102 = .ok (.ifCond .eq 16, 3) := by decide +kernel
theorem dX0_readNumber_105 : decode cX0_readNumber 105 = .ok (.aload_n 0, 1) := by decide +kernel
theorem dX0_readNumber_106 : decode cX0_readNumber 106 = .ok (.getfield 9, 3) := by decide +kernel
theorem dX0_readNumber_109 : decode cX0_readNumber 109 = .ok (.invokevirtual 139, 3) := by decide +kernel
theorem dX0_readNumber_112 : decode cX0_readNumber 112 = .ok (.invokestatic 133, 3) := by decide +kernel
theorem dX0_readNumber_115 : decode cX0_readNumber 115 = .ok (.ifCond .eq 12, 3) := by decide +kernel
theorem dX0_readNumber_118 : decode cX0_readNumber 118 = .ok (.aload_n 0, 1) := by decide +kernel
theorem dX0_readNumber_119 : decode cX0_readNumber 119 = .ok (.getfield 9, 3) := by decide +kernel
theorem dX0_readNumber_122 : decode cX0_readNumber 122 = .ok (.iconst 1, 1) := by decide +kernel
theorem dX0_readNumber_123 : decode cX0_readNumber 123 = .ok (.invokevirtual 63, 3) := by decide +kernel
theorem dX0_readNumber_126 : decode cX0_readNumber 126 = .ok (.ireturn, 1) := by decide +kernel
theorem dX0_readNumber_127 : decode cX0_readNumber 127 = .ok (.aload_n 0, 1) := by decide +kernel
theorem dX0_readNumber_128 : decode cX0_readNumber 128 = .ok (.aload_n 0, 1) := by decide +kernel
theorem dX0_readNumber_129 : decode cX0_readNumber 129 = .ok (.getfield 15, 3) := by decide +kernel
theorem dX0_readNumber_132 : decode cX0_readNumber 132 = .ok (.getfield 144, 3) := by decide +kernel
theorem dX0_readNumber_135 : decode cX0_readNumber 135 = .ok (.iload_n 1, 1) := by decide +kernel
theorem dX0_readNumber_136 : decode cX0_readNumber 136 = .ok (.iaload, 1) := by decide +kernel
theorem dX0_readNumber_137 : decode cX0_readNumber 137 = .ok (.iload_n 2, 1) := by decide +kernel
theorem dX0_readNumber_138 : decode cX0_readNumber 138 = .ok (.aload_n 0, 1) := by decide +kernel
theorem dX0_readNumber_139 : decode cX0_readNumber 139 = .ok (.getfield 15, 3) := by decide +kernel
theorem dX0_readNumber_142 : decode cX0_readNumber 142 = .ok (.getfield 147, 3) := by decide +kernel
theorem dX0_readNumber_145 : decode cX0_readNumber 145 = .ok (.iload_n 1, 1) := by decide +kernel
theorem dX0_readNumber_146 : decode cX0_readNumber 146 = .ok (.iaload, 1) := by decide +kernel
theorem dX0_readNumber_147 : decode cX0_readNumber 147 = .ok (.iload_n 3, 1) := by decide +kernel
theorem dX0_readNumber_148 : decode cX0_readNumber 148 = .ok (.ifCond .eq 9, 3) := by decide +kernel
theorem dX0_readNumber_151 : decode cX0_readNumber 151 = .ok (.lload 5, 2) := by decide +kernel
theorem dX0_readNumber_153 : decode cX0_readNumber 153 = .ok (.lneg, 1) := by decide +kernel
theorem dX0_readNumber_154 : decode cX0_readNumber 154 = .ok (.goto 5, 3) := by decide +kernel
theorem dX0_readNumber_157 : decode cX0_readNumber 157 = .ok (.lload 5, 2) := by decide +kernel
theorem dX0_readNumber_159 : decode cX0_readNumber 159 = .ok (.invokevirtual 150, 3) := by decide +kernel
theorem dX0_readNumber_162 : decode cX0_readNumber 162 = .ok (.aload_n 0, 1) := by decide +kernel
theorem dX0_readNumber_163 : decode cX0_readNumber 163 = .ok (.getfield 9, 3) := by decide +kernel
theorem dX0_readNumber_166 : decode cX0_readNumber 166 = .ok (.bipush 59, 2) := by decide +kernel
theorem dX0_readNumber_168 : decode cX0_readNumber 168 = .ok (.invokevirtual 81, 3) := by decide +kernel
theorem dX0_readNumber_171 : decode cX0_readNumber 171 = .ok (.ireturn, 1) := by decide +kernel
theorem dX0_readLetters_0 : decode cX0_readLetters 0 = .ok (.aload_n 0, 1) := by decide +kernel
theorem dX0_readLetters_1 : decode cX0_readLetters 1 = .ok (.getfield 9, 3) := by decide +kernel
theorem dX0_readLetters_4 : decode cX0_readLetters 4 = .ok (.invokevirtual 110, 3) := by decide +kernel
theorem dX0_readLetters_7 : decode cX0_readLetters 7 = .ok (.aload_n 0, 1) := by decide +kernel
theorem dX0_readLetters_8 : decode cX0_readLetters 8 = .ok (.getfield 9, 3) := by decide +kernel
theorem dX0_readLetters_11 : decode cX0_readLetters 11 = .ok (.getfield 121, 3) := by decide +kernel
theorem dX0_readLetters_14 : decode cX0_readLetters 14 = .ok (.bipush 8, 2) := by decide +kernel
theorem dX0_readLetters_16 : decode cX0_readLetters 16 = .ok (.if_icmp .le 11, 3) := by decide +kernel
theorem dX0_readLetters_19 : decode cX0_readLetters 19 = .ok (.aload_n 0, 1) := by decide +kernel
theorem dX0_readLetters_20 : decode cX0_readLetters 20 = .ok (.getfield 9, 3) := by decide +kernel
theorem dX0_readLetters_23 : decode cX0_readLetters 23 = .ok (.invokevirtual 154, 3) := by decide +kernel
theorem dX0_readLetters_26 : decode cX0_readLetters 26 = .ok (.ireturn, 1) := by decide +kernel
theorem dX0_readLetters_27 : decode cX0_readLetters 27 = .ok (.aload_n 0, 1) := by decide +kernel
theorem dX0_readLetters_28 : decode cX0_readLetters 28 = .ok (.aload_n 0, 1) := by decide +kernel
theorem dX0_readLetters_29 : decode cX0_readLetters 29 = .ok (.getfield 15, 3) := by decide +kernel
theorem dX0_readLetters_32 : decode cX0_readLetters 32 = .ok (.getfield 144, 3) := by decide +kernel
theorem dX0_readLetters_35 : decode cX0_readLetters 35 = .ok (.iload_n 1, 1) := by decide +kernel
theorem dX0_readLetters_36 : decode cX0_readLetters 36 = .ok (.iaload, 1) := by decide +kernel
theorem dX0_readLetters_37 : decode cX0_readLetters 37 = .ok (.iload_n 2, 1) := by decide +kernel
theorem dX0_readLetters_38 : decode cX0_readLetters 38 = .ok (.aload_n 0, 1) := by decide +kernel
theorem dX0_readLetters_39 : decode cX0_readLetters 39 = .ok (.getfield 15, 3) := by decide +kernel
theorem dX0_readLetters_42 : decode cX0_readLetters 42 = .ok (.getfield 147, 3) := by decide +kernel
theorem dX0_readLetters_45 : decode cX0_readLetters 45 = .ok (.iload_n 1, 1) := by decide +kernel
theorem dX0_readLetters_46 : decode cX0_readLetters 46 = .ok (.iaload, 1) := by decide +kernel
theorem dX0_readLetters_47 : decode cX0_readLetters 47 = .ok (.aload_n 0, 1) := by decide +kernel
theorem dX0_readLetters_48 : decode cX0_readLetters 48 = .ok (.getfield 9, 3) := by decide +kernel
theorem dX0_readLetters_51 : decode cX0_readLetters 51 = .ok (.getfield 113, 3) := by decide +kernel
theorem dX0_readLetters_54 : decode cX0_readLetters 54 = .ok (.invokevirtual 150, 3) := by decide +kernel
theorem dX0_readLetters_57 : decode cX0_readLetters 57 = .ok (.aload_n 0, 1) := by decide +kernel
theorem dX0_readLetters_58 : decode cX0_readLetters 58 = .ok (.getfield 9, 3) := by decide +kernel
theorem dX0_readLetters_61 : decode cX0_readLetters 61 = .ok (.bipush 59, 2) := by decide +kernel
theorem dX0_readLetters_63 : decode cX0_readLetters 63 = .ok (.invokevirtual 81, 3) := by decide +kernel
theorem dX0_readLetters_66 : decode cX0_readLetters 66 = .ok (.ireturn, 1) := by decide +kernel
theorem dX0_readOpen_0 : decode cX0_readOpen 0 = .ok (.aload_n 0, 1) := by decide +kernel
theorem dX0_readOpen_1 : decode cX0_readOpen 1 = .ok (.getfield 38, 3) := by decide +kernel
theorem dX0_readOpen_4 : decode cX0_readOpen 4 = .ok (.iconst 4, 1) := by decide +kernel
theorem dX0_readOpen_5 : decode cX0_readOpen 5 = .ok (.if_icmp .lt 12, 3) := by decide +kernel
theorem dX0_readOpen_8 : decode cX0_readOpen 8 = .ok (.aload_n 0, 1) := by decide +kernel
theorem dX0_readOpen_9 : decode cX0_readOpen 9 = .ok (.getfield 9, 3) := by decide +kernel
theorem dX0_readOpen_12 : decode cX0_readOpen 12 = .ok (.iconst 1, 1) := by decide +kernel
theorem dX0_readOpen_13 : decode cX0_readOpen 13 = .ok (.invokevirtual 63, 3) := by decide +kernel
theorem dX0_readOpen_16 : decode cX0_readOpen 16 = .ok (.ireturn, 1) := by decide +kernel
theorem dX0_readOpen_17 : decode cX0_readOpen 17 = .ok (.aload_n 0, 1) := by decide +kernel
theorem dX0_readOpen_18 : decode cX0_readOpen 18 = .ok (.getfield 9, 3) := by decide +kernel
theorem dX0_readOpen_21 : decode cX0_readOpen 21 = .ok (.dup, 1) := by decide +kernel
theorem dX0_readOpen_22 : decode cX0_readOpen 22 = .ok (.getfield 75, 3) := by decide +kernel
theorem dX0_readOpen_25 : decode cX0_readOpen 25 = .ok (.iconst 1, 1) := by decide +kernel
theorem dX0_readOpen_26 : decode cX0_readOpen 26 = .ok (.iadd, 1) := by decide +kernel
theorem dX0_readOpen_27 : decode cX0_readOpen 27 = .ok (.putfield 75, 3) := by decide +kernel
theorem dX0_readOpen_30 : decode cX0_readOpen 30 = .ok (.aload_n 0, 1) := by decide +kernel
theorem dX0_readOpen_31 : decode cX0_readOpen 31 = .ok (.iload_n 1, 1) := by decide +kernel
theorem dX0_readOpen_32 : decode cX0_readOpen 32 = .ok (.putfield 35, 3) := by decide +kernel
theorem dX0_readOpen_35 : decode cX0_readOpen 35 = .ok (.aload_n 0, 1) := by decide +kernel
theorem dX0_readOpen_36 : decode cX0_readOpen 36 = .ok (.dup, 1) := by decide +kernel
theorem dX0_readOpen_37 : decode cX0_readOpen 37 = .ok (.getfield 38, 3) := by decide +kernel
theorem dX0_readOpen_40 : decode cX0_readOpen 40 = .ok (.iconst 1, 1) := by decide +kernel
theorem dX0_readOpen_41 : decode cX0_readOpen 41 = .ok (.iadd, 1) := by decide +kernel
theorem dX0_readOpen_42 : decode cX0_readOpen 42 = .ok (.putfield 38, 3) := by decide +kernel
theorem dX0_readOpen_45 : decode cX0_readOpen 45 = .ok (.aload_n 0, 1) := by decide +kernel
theorem dX0_readOpen_46 : decode cX0_readOpen 46 = .ok (.getfield 31, 3) := by decide +kernel
theorem dX0_readOpen_49 : decode cX0_readOpen 49 = .ok (.aload_n 0, 1) := by decide +kernel
theorem dX0_readOpen_50 : decode cX0_readOpen 50 = .ok (.getfield 38, 3) := by decide +kernel
theorem dX0_readOpen_53 : decode cX0_readOpen 53 = .ok (.iload_n 2, 1) := by decide +kernel
theorem dX0_readOpen_54 : decode cX0_readOpen 54 = .ok (.iastore, 1) := by decide +kernel
theorem dX0_readOpen_55 : decode cX0_readOpen 55 = .ok (.iload_n 1, 1) := by decide +kernel
theorem dX0_readOpen_56 : decode cX0_readOpen 56 = .ok (.iconst 1, 1) := by decide +kernel
theorem dX0_readOpen_57 : decode cX0_readOpen 57 = .ok (.iadd, 1) := by decide +kernel
theorem dX0_readOpen_58 : decode cX0_readOpen 58 = .ok (.istore_n 3, 1) := by decide +kernel
theorem dX0_readOpen_59 : decode cX0_readOpen 59 = .ok (.iload_n 3, 1) := by decide +kernel
theorem dX0_readOpen_60 : decode cX0_readOpen 60 = .ok (.aload_n 0, 1) := by decide +kernel
theorem dX0_readOpen_61 : decode cX0_readOpen 61 = .ok (.getfield 15, 3) := by decide +kernel
theorem dX0_readOpen_64 : decode cX0_readOpen 64 = .ok (.getfield 157, 3) := by decide +kernel
theorem dX0_readOpen_67 : decode cX0_readOpen 67 = .ok (.iload_n 1, 1) := by decide +kernel
theorem dX0_readOpen_68 : decode cX0_readOpen 68 = .ok (.iaload, 1) := by decide +kernel
theorem dX0_readOpen_69 : decode cX0_readOpen 69 = .ok (.if_icmp .ge 22, 3) := by decide +kernel
theorem dX0_readOpen_72 : decode cX0_readOpen 72 = .ok (.iload_n 3, 1) := by decide +kernel
theorem dX0_readOpen_73 : decode cX0_readOpen 73 = .ok (.bipush 66, 2) := by decide +kernel
theorem dX0_readOpen_75 : decode cX0_readOpen 75 = .ok (.if_icmp .ge 16, 3) := by decide +kernel
theorem dX0_readOpen_78 : decode cX0_readOpen 78 = .ok (.aload_n 0, 1) := by decide +kernel
theorem dX0_readOpen_79 : decode cX0_readOpen 79 = .ok (.getfield 27, 3) := by decide +kernel
theorem dX0_readOpen_82 : decode cX0_readOpen 82 = .ok (.iload_n 3, 1) := by decide +kernel
theorem dX0_readOpen_83 : decode cX0_readOpen 83 = .ok (.iconst 0, 1) := by decide +kernel
theorem dX0_readOpen_84 : decode cX0_readOpen 84 = .ok (.bastore, 1) := by decide +kernel
theorem dX0_readOpen_85 : decode cX0_readOpen 85 = .ok (.iinc 3 1, 3) := by decide +kernel
theorem dX0_readOpen_88 : decode cX0_readOpen 88 = .ok (.goto (-29), 3) := by decide +kernel
theorem dX0_readOpen_91 : decode cX0_readOpen 91 = .ok (.iconst 1, 1) := by decide +kernel
theorem dX0_readOpen_92 : decode cX0_readOpen 92 = .ok (.ireturn, 1) := by decide +kernel
theorem dX0_levelHere_0 : decode cX0_levelHere 0 = .ok (.aload_n 0, 1) := by decide +kernel
theorem dX0_levelHere_1 : decode cX0_levelHere 1 = .ok (.getfield 38, 3) := by decide +kernel
theorem dX0_levelHere_4 : decode cX0_levelHere 4 = .ok (.ifCond .lt 23, 3) := by decide +kernel
theorem dX0_levelHere_7 : decode cX0_levelHere 7 = .ok (.aload_n 0, 1) := by decide +kernel
theorem dX0_levelHere_8 : decode cX0_levelHere 8 = .ok (.getfield 38, 3) := by decide +kernel
theorem dX0_levelHere_11 : decode cX0_levelHere 11 = .ok (.iconst 4, 1) := by decide +kernel
theorem dX0_levelHere_12 : decode cX0_levelHere 12 = .ok (.if_icmp .gt 15, 3) := by decide +kernel
theorem dX0_levelHere_15 : decode cX0_levelHere 15 = .ok (.aload_n 0, 1) := by decide +kernel
theorem dX0_levelHere_16 : decode cX0_levelHere 16 = .ok (.getfield 31, 3) := by decide +kernel
theorem dX0_levelHere_19 : decode cX0_levelHere 19 = .ok (.aload_n 0, 1) := by decide +kernel
theorem dX0_levelHere_20 : decode cX0_levelHere 20 = .ok (.getfield 38, 3) := by decide +kernel
theorem dX0_levelHere_23 : decode cX0_levelHere 23 = .ok (.iaload, 1) := by decide +kernel
theorem dX0_levelHere_24 : decode cX0_levelHere 24 = .ok (.goto 4, 3) := by decide +kernel
theorem dX0_levelHere_27 : decode cX0_levelHere 27 = .ok (.iconst 0, 1) := by decide +kernel
theorem dX0_levelHere_28 : decode cX0_levelHere 28 = .ok (.ireturn, 1) := by decide +kernel
theorem dX0_layLacking_0 : decode cX0_layLacking 0 = .ok (.iconst 0, 1) := by decide +kernel
theorem dX0_layLacking_1 : decode cX0_layLacking 1 = .ok (.istore_n 1, 1) := by decide +kernel
theorem dX0_layLacking_2 : decode cX0_layLacking 2 = .ok (.iload_n 1, 1) := by decide +kernel
theorem dX0_layLacking_3 : decode cX0_layLacking 3 = .ok (.aload_n 0, 1) := by decide +kernel
theorem dX0_layLacking_4 : decode cX0_layLacking 4 = .ok (.getfield 15, 3) := by decide +kernel
theorem dX0_layLacking_7 : decode cX0_layLacking 7 = .ok (.getfield 160, 3) := by decide +kernel
theorem dX0_layLacking_10 : decode cX0_layLacking 10 = .ok (.if_icmp .ge 61, 3) := by decide +kernel
theorem dX0_layLacking_13 : decode cX0_layLacking 13 = .ok (.aload_n 0, 1) := by decide +kernel
theorem dX0_layLacking_14 : decode cX0_layLacking 14 = .ok (.getfield 15, 3) := by decide +kernel
theorem dX0_layLacking_17 : decode cX0_layLacking 17 = .ok (.getfield 78, 3) := by decide +kernel
theorem dX0_layLacking_20 : decode cX0_layLacking 20 = .ok (.iload_n 1, 1) := by decide +kernel
theorem dX0_layLacking_21 : decode cX0_layLacking 21 = .ok (.iaload, 1) := by decide +kernel
theorem dX0_layLacking_22 : decode cX0_layLacking 22 = .ok (.aload_n 0, 1) := by decide +kernel
theorem dX0_layLacking_23 : decode cX0_layLacking 23 = .ok (.getfield 35, 3) := by decide +kernel
theorem dX0_layLacking_26 : decode cX0_layLacking 26 = .ok (.if_icmp .ne 39, 3) := by decide +kernel
theorem dX0_layLacking_29 : decode cX0_layLacking 29 = .ok (.aload_n 0, 1) := by decide +kernel
theorem dX0_layLacking_30 : decode cX0_layLacking 30 = .ok (.getfield 27, 3) := by decide +kernel
theorem dX0_layLacking_33 : decode cX0_layLacking 33 = .ok (.iload_n 1, 1) := by decide +kernel
theorem dX0_layLacking_34 : decode cX0_layLacking 34 = .ok (.baload, 1) := by decide +kernel
theorem dX0_layLacking_35 : decode cX0_layLacking 35 = .ok (.ifCond .ne 30, 3) := by decide +kernel
theorem dX0_layLacking_38 : decode cX0_layLacking 38 = .ok (.aload_n 0, 1) := by decide +kernel
theorem dX0_layLacking_39 : decode cX0_layLacking 39 = .ok (.getfield 15, 3) := by decide +kernel
theorem dX0_layLacking_42 : decode cX0_layLacking 42 = .ok (.getfield 130, 3) := by decide +kernel
theorem dX0_layLacking_45 : decode cX0_layLacking 45 = .ok (.iload_n 1, 1) := by decide +kernel
theorem dX0_layLacking_46 : decode cX0_layLacking 46 = .ok (.iaload, 1) := by decide +kernel
theorem dX0_layLacking_47 : decode cX0_layLacking 47 = .ok (.iconst 1, 1) := by decide +kernel
theorem dX0_layLacking_48 : decode cX0_layLacking 48 = .ok (.if_icmp .ne 12, 3) := by decide +kernel
theorem dX0_layLacking_51 : decode cX0_layLacking 51 = .ok (.aload_n 0, 1) := by decide +kernel
theorem dX0_layLacking_52 : decode cX0_layLacking 52 = .ok (.getfield 9, 3) := by decide +kernel
theorem dX0_layLacking_55 : decode cX0_layLacking 55 = .ok (.iconst 4, 1) := by decide +kernel
theorem dX0_layLacking_56 : decode cX0_layLacking 56 = .ok (.invokevirtual 63, 3) := by decide +kernel
theorem dX0_layLacking_59 : decode cX0_layLacking 59 = .ok (.ireturn, 1) := by decide +kernel
theorem dX0_layLacking_60 : decode cX0_layLacking 60 = .ok (.aload_n 0, 1) := by decide +kernel
theorem dX0_layLacking_61 : decode cX0_layLacking 61 = .ok (.iload_n 1, 1) := by decide +kernel
theorem dX0_layLacking_62 : decode cX0_layLacking 62 = .ok (.invokevirtual 163, 3) := by decide +kernel
theorem dX0_layLacking_65 : decode cX0_layLacking 65 = .ok (.iinc 1 1, 3) := by decide +kernel
theorem dX0_layLacking_68 : decode cX0_layLacking 68 = .ok (.goto (-66), 3) := by decide +kernel
theorem dX0_layLacking_71 : decode cX0_layLacking 71 = .ok (.iconst 1, 1) := by decide +kernel
theorem dX0_layLacking_72 : decode cX0_layLacking 72 = .ok (.ireturn, 1) := by decide +kernel
theorem dX0_layLackingLeaves_0 : decode cX0_layLackingLeaves 0 = .ok (.iconst 0, 1) := by decide +kernel
theorem dX0_layLackingLeaves_1 : decode cX0_layLackingLeaves 1 = .ok (.istore_n 2, 1) := by decide +kernel
theorem dX0_layLackingLeaves_2 : decode cX0_layLackingLeaves 2 = .ok (.iload_n 2, 1) := by decide +kernel
theorem dX0_layLackingLeaves_3 : decode cX0_layLackingLeaves 3 = .ok (.aload_n 0, 1) := by decide +kernel
theorem dX0_layLackingLeaves_4 : decode cX0_layLackingLeaves 4 = .ok (.getfield 15, 3) := by decide +kernel
theorem dX0_layLackingLeaves_7 : decode cX0_layLackingLeaves 7 = .ok (.getfield 167, 3) := by decide +kernel
theorem dX0_layLackingLeaves_10 : decode cX0_layLackingLeaves 10 = .ok (.if_icmp .ge 49, 3) := by decide +kernel
theorem dX0_layLackingLeaves_13 : decode cX0_layLackingLeaves 13 = .ok (.aload_n 0, 1) := by decide +kernel
theorem dX0_layLackingLeaves_14 : decode cX0_layLackingLeaves 14 = .ok (.getfield 15, 3) := by decide +kernel
theorem dX0_layLackingLeaves_17 : decode cX0_layLackingLeaves 17 = .ok (.iload_n 1, 1) := by decide +kernel
theorem dX0_layLackingLeaves_18 : decode cX0_layLackingLeaves 18 = .ok (.aload_n 0, 1) := by decide +kernel
theorem dX0_layLackingLeaves_19 : decode cX0_layLackingLeaves 19 = .ok (.getfield 15, 3) := by decide +kernel
theorem dX0_layLackingLeaves_22 : decode cX0_layLackingLeaves 22 = .ok (.iload_n 2, 1) := by decide +kernel
theorem dX0_layLackingLeaves_23 : decode cX0_layLackingLeaves 23 = .ok (.invokevirtual 170, 3) := by decide +kernel
theorem dX0_layLackingLeaves_26 : decode cX0_layLackingLeaves 26 = .ok (.invokevirtual 173, 3) := by decide +kernel
theorem dX0_layLackingLeaves_29 : decode cX0_layLackingLeaves 29 = .ok (.ifCond .eq 24, 3) := by decide +kernel
theorem dX0_layLackingLeaves_32 : decode cX0_layLackingLeaves 32 = .ok (.aload_n 0, 1) := by decide +kernel
theorem dX0_layLackingLeaves_33 : decode cX0_layLackingLeaves 33 = .ok (.iload_n 2, 1) := by decide +kernel
theorem dX0_layLackingLeaves_34 : decode cX0_layLackingLeaves 34 = .ok (.aload_n 0, 1) := by decide +kernel
theorem dX0_layLackingLeaves_35 : decode cX0_layLackingLeaves 35 = .ok (.invokevirtual 97, 3) := by decide +kernel
theorem dX0_layLackingLeaves_38 : decode cX0_layLackingLeaves 38 = .ok (.aload_n 0, 1) := by decide +kernel
theorem dX0_layLackingLeaves_39 : decode cX0_layLackingLeaves 39 = .ok (.getfield 15, 3) := by decide +kernel
theorem dX0_layLackingLeaves_42 : decode cX0_layLackingLeaves 42 = .ok (.aload_n 0, 1) := by decide +kernel
theorem dX0_layLackingLeaves_43 : decode cX0_layLackingLeaves 43 = .ok (.getfield 35, 3) := by decide +kernel
theorem dX0_layLackingLeaves_46 : decode cX0_layLackingLeaves 46 = .ok (.invokevirtual 176, 3) := by decide +kernel
theorem dX0_layLackingLeaves_49 : decode cX0_layLackingLeaves 49 = .ok (.lconst 0, 1) := by decide +kernel
theorem dX0_layLackingLeaves_50 : decode cX0_layLackingLeaves 50 = .ok (.invokevirtual 150, 3) := by decide +kernel
theorem dX0_layLackingLeaves_53 : decode cX0_layLackingLeaves 53 = .ok (.iinc 2 1, 3) := by decide +kernel
theorem dX0_layLackingLeaves_56 : decode cX0_layLackingLeaves 56 = .ok (.goto (-54), 3) := by decide +kernel
theorem dX0_layLackingLeaves_59 : decode cX0_layLackingLeaves 59 = .ok (.return_, 1) := by decide +kernel
theorem dX0_lay_0 : decode cX0_lay 0 = .ok (.iload_n 1, 1) := by decide +kernel
theorem dX0_lay_1 : decode cX0_lay 1 = .ok (.ifCond .lt 21, 3) := by decide +kernel
theorem dX0_lay_4 : decode cX0_lay 4 = .ok (.iload_n 1, 1) := by decide +kernel
theorem dX0_lay_5 : decode cX0_lay 5 = .ok (.aload_n 0, 1) := by decide +kernel
theorem dX0_lay_6 : decode cX0_lay 6 = .ok (.getfield 19, 3) := by decide +kernel
theorem dX0_lay_9 : decode cX0_lay 9 = .ok (.arraylength, 1) := by decide +kernel
theorem dX0_lay_10 : decode cX0_lay 10 = .ok (.if_icmp .ge 12, 3) := by decide +kernel
theorem dX0_lay_13 : decode cX0_lay 13 = .ok (.aload_n 0, 1) := by decide +kernel
theorem dX0_lay_14 : decode cX0_lay 14 = .ok (.getfield 19, 3) := by decide +kernel
theorem dX0_lay_17 : decode cX0_lay 17 = .ok (.iload_n 1, 1) := by decide +kernel
theorem dX0_lay_18 : decode cX0_lay 18 = .ok (.aaload, 1) := by decide +kernel
theorem dX0_lay_19 : decode cX0_lay 19 = .ok (.goto 4, 3) := by decide +kernel
theorem dX0_lay_22 : decode cX0_lay 22 = .ok (.aconst_null, 1) := by decide +kernel
theorem dX0_lay_23 : decode cX0_lay 23 = .ok (.astore 6, 2) := by decide +kernel
theorem dX0_lay_25 : decode cX0_lay 25 = .ok (.aload 6, 2) := by decide +kernel
theorem dX0_lay_27 : decode cX0_lay 27 = .ok (.ifnull 16, 3) := by decide +kernel
theorem dX0_lay_30 : decode cX0_lay 30 = .ok (.aload 6, 2) := by decide +kernel
theorem dX0_lay_32 : decode cX0_lay 32 = .ok (.aload_n 0, 1) := by decide +kernel
theorem dX0_lay_33 : decode cX0_lay 33 = .ok (.getfield 23, 3) := by decide +kernel
theorem dX0_lay_36 : decode cX0_lay 36 = .ok (.iload_n 2, 1) := by decide +kernel
theorem dX0_lay_37 : decode cX0_lay 37 = .ok (.iload_n 3, 1) := by decide +kernel
theorem dX0_lay_38 : decode cX0_lay 38 = .ok (.lload 4, 2) := by decide +kernel
theorem dX0_lay_40 : decode cX0_lay 40 = .ok (.invokevirtual 179, 3) := by decide +kernel
theorem dX0_lay_43 : decode cX0_lay 43 = .ok (.return_, 1) := by decide +kernel
theorem dX1_init_0 : decode cX1_init 0 = .ok (.aload_n 0, 1) := by decide +kernel
theorem dX1_init_1 : decode cX1_init 1 = .ok (.invokespecial 3, 3) := by decide +kernel
theorem dX1_init_4 : decode cX1_init 4 = .ok (.aload_n 0, 1) := by decide +kernel
theorem dX1_init_5 : decode cX1_init 5 = .ok (.bipush 66, 2) := by decide +kernel
theorem dX1_init_7 : decode cX1_init 7 = .ok (.newarray .long, 2) := by decide +kernel
theorem dX1_init_9 : decode cX1_init 9 = .ok (.putfield 9, 3) := by decide +kernel
theorem dX1_init_12 : decode cX1_init 12 = .ok (.aload_n 0, 1) := by decide +kernel
theorem dX1_init_13 : decode cX1_init 13 = .ok (.bipush 66, 2) := by decide +kernel
theorem dX1_init_15 : decode cX1_init 15 = .ok (.newarray .int, 2) := by decide +kernel
theorem dX1_init_17 : decode cX1_init 17 = .ok (.putfield 15, 3) := by decide +kernel
theorem dX1_init_20 : decode cX1_init 20 = .ok (.aload_n 0, 1) := by decide +kernel
theorem dX1_init_21 : decode cX1_init 21 = .ok (.bipush 66, 2) := by decide +kernel
theorem dX1_init_23 : decode cX1_init 23 = .ok (.newarray .int, 2) := by decide +kernel
theorem dX1_init_25 : decode cX1_init 25 = .ok (.putfield 19, 3) := by decide +kernel
theorem dX1_init_28 : decode cX1_init 28 = .ok (.aload_n 0, 1) := by decide +kernel
theorem dX1_init_29 : decode cX1_init 29 = .ok (.bipush 66, 2) := by decide +kernel
theorem dX1_init_31 : decode cX1_init 31 = .ok (.newarray .int, 2) := by decide +kernel
theorem dX1_init_33 : decode cX1_init 33 = .ok (.putfield 22, 3) := by decide +kernel
theorem dX1_init_36 : decode cX1_init 36 = .ok (.aload_n 0, 1) := by decide +kernel
theorem dX1_init_37 : decode cX1_init 37 = .ok (.bipush 66, 2) := by decide +kernel
theorem dX1_init_39 : decode cX1_init 39 = .ok (.newarray .int, 2) := by decide +kernel
theorem dX1_init_41 : decode cX1_init 41 = .ok (.putfield 25, 3) := by decide +kernel
theorem dX1_init_44 : decode cX1_init 44 = .ok (.aload_n 0, 1) := by decide +kernel
theorem dX1_init_45 : decode cX1_init 45 = .ok (.bipush 66, 2) := by decide +kernel
theorem dX1_init_47 : decode cX1_init 47 = .ok (.newarray .int, 2) := by decide +kernel
theorem dX1_init_49 : decode cX1_init 49 = .ok (.putfield 28, 3) := by decide +kernel
theorem dX1_init_52 : decode cX1_init 52 = .ok (.aload_n 0, 1) := by decide +kernel
theorem dX1_init_53 : decode cX1_init 53 = .ok (.bipush 66, 2) := by decide +kernel
theorem dX1_init_55 : decode cX1_init 55 = .ok (.newarray .int, 2) := by decide +kernel
theorem dX1_init_57 : decode cX1_init 57 = .ok (.putfield 31, 3) := by decide +kernel
theorem dX1_init_60 : decode cX1_init 60 = .ok (.aload_n 0, 1) := by decide +kernel
theorem dX1_init_61 : decode cX1_init 61 = .ok (.bipush 66, 2) := by decide +kernel
theorem dX1_init_63 : decode cX1_init 63 = .ok (.newarray .int, 2) := by decide +kernel
theorem dX1_init_65 : decode cX1_init 65 = .ok (.putfield 34, 3) := by decide +kernel
theorem dX1_init_68 : decode cX1_init 68 = .ok (.aload_n 0, 1) := by decide +kernel
theorem dX1_init_69 : decode cX1_init 69 = .ok (.bipush 66, 2) := by decide +kernel
theorem dX1_init_71 : decode cX1_init 71 = .ok (.newarray .int, 2) := by decide +kernel
theorem dX1_init_73 : decode cX1_init 73 = .ok (.putfield 37, 3) := by decide +kernel
theorem dX1_init_76 : decode cX1_init 76 = .ok (.aload_n 0, 1) := by decide +kernel
theorem dX1_init_77 : decode cX1_init 77 = .ok (.bipush 12, 2) := by decide +kernel
theorem dX1_init_79 : decode cX1_init 79 = .ok (.newarray .int, 2) := by decide +kernel
theorem dX1_init_81 : decode cX1_init 81 = .ok (.putfield 40, 3) := by decide +kernel
theorem dX1_init_84 : decode cX1_init 84 = .ok (.aload_n 0, 1) := by decide +kernel
theorem dX1_init_85 : decode cX1_init 85 = .ok (.iconst 0, 1) := by decide +kernel
theorem dX1_init_86 : decode cX1_init 86 = .ok (.putfield 43, 3) := by decide +kernel
theorem dX1_init_89 : decode cX1_init 89 = .ok (.aload_n 0, 1) := by decide +kernel
theorem dX1_init_90 : decode cX1_init 90 = .ok (.iconst 0, 1) := by decide +kernel
theorem dX1_init_91 : decode cX1_init 91 = .ok (.putfield 47, 3) := by decide +kernel
theorem dX1_init_94 : decode cX1_init 94 = .ok (.return_, 1) := by decide +kernel
theorem dX1_clear_0 : decode cX1_clear 0 = .ok (.aload_n 0, 1) := by decide +kernel
theorem dX1_clear_1 : decode cX1_clear 1 = .ok (.iconst 0, 1) := by decide +kernel
theorem dX1_clear_2 : decode cX1_clear 2 = .ok (.putfield 43, 3) := by decide +kernel
theorem dX1_clear_5 : decode cX1_clear 5 = .ok (.aload_n 0, 1) := by decide +kernel
theorem dX1_clear_6 : decode cX1_clear 6 = .ok (.iconst 0, 1) := by decide +kernel
theorem dX1_clear_7 : decode cX1_clear 7 = .ok (.putfield 47, 3) := by decide +kernel
theorem dX1_clear_10 : decode cX1_clear 10 = .ok (.return_, 1) := by decide +kernel
theorem dX1_isField_0 : decode cX1_isField 0 = .ok (.iload_n 1, 1) := by decide +kernel
theorem dX1_isField_1 : decode cX1_isField 1 = .ok (.ifCond .lt 21, 3) := by decide +kernel
theorem dX1_isField_4 : decode cX1_isField 4 = .ok (.iload_n 1, 1) := by decide +kernel
theorem dX1_isField_5 : decode cX1_isField 5 = .ok (.aload_n 0, 1) := by decide +kernel
theorem dX1_isField_6 : decode cX1_isField 6 = .ok (.getfield 43, 3) := by decide +kernel
theorem dX1_isField_9 : decode cX1_isField 9 = .ok (.if_icmp .ge 13, 3) := by decide +kernel
theorem dX1_isField_12 : decode cX1_isField 12 = .ok (.iload_n 1, 1) := by decide +kernel
theorem dX1_isField_13 : decode cX1_isField 13 = .ok (.bipush 66, 2) := by decide +kernel
theorem dX1_isField_15 : decode cX1_isField 15 = .ok (.if_icmp .ge 7, 3) := by decide +kernel
theorem dX1_isField_18 : decode cX1_isField 18 = .ok (.iconst 1, 1) := by decide +kernel
theorem dX1_isField_19 : decode cX1_isField 19 = .ok (.goto 4, 3) := by decide +kernel
theorem dX1_isField_22 : decode cX1_isField 22 = .ok (.iconst 0, 1) := by decide +kernel
theorem dX1_isField_23 : decode cX1_isField 23 = .ok (.ireturn, 1) := by decide +kernel
theorem dX1_fieldOfLeaf_0 : decode cX1_fieldOfLeaf 0 = .ok (.iload_n 1, 1) := by decide +kernel
theorem dX1_fieldOfLeaf_1 : decode cX1_fieldOfLeaf 1 = .ok (.ifCond .lt 26, 3) := by decide +kernel
theorem dX1_fieldOfLeaf_4 : decode cX1_fieldOfLeaf 4 = .ok (.iload_n 1, 1) := by decide +kernel
theorem dX1_fieldOfLeaf_5 : decode cX1_fieldOfLeaf 5 = .ok (.aload_n 0, 1) := by decide +kernel
theorem dX1_fieldOfLeaf_6 : decode cX1_fieldOfLeaf 6 = .ok (.getfield 47, 3) := by decide +kernel
theorem dX1_fieldOfLeaf_9 : decode cX1_fieldOfLeaf 9 = .ok (.if_icmp .ge 18, 3) := by decide +kernel
theorem dX1_fieldOfLeaf_12 : decode cX1_fieldOfLeaf 12 = .ok (.iload_n 1, 1) := by decide +kernel
theorem dX1_fieldOfLeaf_13 : decode cX1_fieldOfLeaf 13 = .ok (.bipush 12, 2) := by decide +kernel
theorem dX1_fieldOfLeaf_15 : decode cX1_fieldOfLeaf 15 = .ok (.if_icmp .ge 12, 3) := by decide +kernel
theorem dX1_fieldOfLeaf_18 : decode cX1_fieldOfLeaf 18 = .ok (.aload_n 0, 1) := by decide +kernel
theorem dX1_fieldOfLeaf_19 : decode cX1_fieldOfLeaf 19 = .ok (.getfield 40, 3) := by decide +kernel
theorem dX1_fieldOfLeaf_22 : decode cX1_fieldOfLeaf 22 = .ok (.iload_n 1, 1) := by decide +kernel
theorem dX1_fieldOfLeaf_23 : decode cX1_fieldOfLeaf 23 = .ok (.iaload, 1) := by decide +kernel
theorem dX1_fieldOfLeaf_24 : decode cX1_fieldOfLeaf 24 = .ok (.goto 4, 3) := by decide +kernel
theorem dX1_fieldOfLeaf_27 : decode cX1_fieldOfLeaf 27 = .ok (.iconst (-1), 1) := by decide +kernel
theorem dX1_fieldOfLeaf_28 : decode cX1_fieldOfLeaf 28 = .ok (.ireturn, 1) := by decide +kernel
theorem dX1_add_0 : decode cX1_add 0 = .ok (.aload_n 0, 1) := by decide +kernel
theorem dX1_add_1 : decode cX1_add 1 = .ok (.getfield 43, 3) := by decide +kernel
theorem dX1_add_4 : decode cX1_add 4 = .ok (.bipush 66, 2) := by decide +kernel
theorem dX1_add_6 : decode cX1_add 6 = .ok (.if_icmp .lt 5, 3) := by decide +kernel
theorem dX1_add_9 : decode cX1_add 9 = .ok (.iconst (-1), 1) := by decide +kernel
theorem dX1_add_10 : decode cX1_add 10 = .ok (.ireturn, 1) := by decide +kernel
theorem dX1_add_11 : decode cX1_add 11 = .ok (.aload_n 0, 1) := by decide +kernel
theorem dX1_add_12 : decode cX1_add 12 = .ok (.getfield 43, 3) := by decide +kernel
theorem dX1_add_15 : decode cX1_add 15 = .ok (.istore 4, 2) := by decide +kernel
theorem dX1_add_17 : decode cX1_add 17 = .ok (.aload_n 0, 1) := by decide +kernel
theorem dX1_add_18 : decode cX1_add 18 = .ok (.dup, 1) := by decide +kernel
theorem dX1_add_19 : decode cX1_add 19 = .ok (.getfield 43, 3) := by decide +kernel
theorem dX1_add_22 : decode cX1_add 22 = .ok (.iconst 1, 1) := by decide +kernel
theorem dX1_add_23 : decode cX1_add 23 = .ok (.iadd, 1) := by decide +kernel
theorem dX1_add_24 : decode cX1_add 24 = .ok (.putfield 43, 3) := by decide +kernel
theorem dX1_add_27 : decode cX1_add 27 = .ok (.aload_n 0, 1) := by decide +kernel
theorem dX1_add_28 : decode cX1_add 28 = .ok (.getfield 9, 3) := by decide +kernel
theorem dX1_add_31 : decode cX1_add 31 = .ok (.iload 4, 2) := by decide +kernel
theorem dX1_add_33 : decode cX1_add 33 = .ok (.lload_n 1, 1) := by decide +kernel
theorem dX1_add_34 : decode cX1_add 34 = .ok (.lastore, 1) := by decide +kernel
theorem dX1_add_35 : decode cX1_add 35 = .ok (.aload_n 0, 1) := by decide +kernel
theorem dX1_add_36 : decode cX1_add 36 = .ok (.getfield 22, 3) := by decide +kernel
theorem dX1_add_39 : decode cX1_add 39 = .ok (.iload 4, 2) := by decide +kernel
theorem dX1_add_41 : decode cX1_add 41 = .ok (.iload_n 3, 1) := by decide +kernel
theorem dX1_add_42 : decode cX1_add 42 = .ok (.iastore, 1) := by decide +kernel
theorem dX1_add_43 : decode cX1_add 43 = .ok (.aload_n 0, 1) := by decide +kernel
theorem dX1_add_44 : decode cX1_add 44 = .ok (.getfield 15, 3) := by decide +kernel
theorem dX1_add_47 : decode cX1_add 47 = .ok (.iload 4, 2) := by decide +kernel
theorem dX1_add_49 : decode cX1_add 49 = .ok (.iconst 3, 1) := by decide +kernel
theorem dX1_add_50 : decode cX1_add 50 = .ok (.iastore, 1) := by decide +kernel
theorem dX1_add_51 : decode cX1_add 51 = .ok (.aload_n 0, 1) := by decide +kernel
theorem dX1_add_52 : decode cX1_add 52 = .ok (.getfield 19, 3) := by decide +kernel
theorem dX1_add_55 : decode cX1_add 55 = .ok (.iload 4, 2) := by decide +kernel
theorem dX1_add_57 : decode cX1_add 57 = .ok (.iconst 1, 1) := by decide +kernel
theorem dX1_add_58 : decode cX1_add 58 = .ok (.iastore, 1) := by decide +kernel
theorem dX1_add_59 : decode cX1_add 59 = .ok (.aload_n 0, 1) := by decide +kernel
theorem dX1_add_60 : decode cX1_add 60 = .ok (.getfield 25, 3) := by decide +kernel
theorem dX1_add_63 : decode cX1_add 63 = .ok (.iload 4, 2) := by decide +kernel
theorem dX1_add_65 : decode cX1_add 65 = .ok (.aload_n 0, 1) := by decide +kernel
theorem dX1_add_66 : decode cX1_add 66 = .ok (.getfield 43, 3) := by decide +kernel
theorem dX1_add_69 : decode cX1_add 69 = .ok (.iastore, 1) := by decide +kernel
theorem dX1_add_70 : decode cX1_add 70 = .ok (.aload_n 0, 1) := by decide +kernel
theorem dX1_add_71 : decode cX1_add 71 = .ok (.getfield 37, 3) := by decide +kernel
theorem dX1_add_74 : decode cX1_add 74 = .ok (.iload 4, 2) := by decide +kernel
theorem dX1_add_76 : decode cX1_add 76 = .ok (.iconst (-1), 1) := by decide +kernel
theorem dX1_add_77 : decode cX1_add 77 = .ok (.iastore, 1) := by decide +kernel
theorem dX1_add_78 : decode cX1_add 78 = .ok (.iload 4, 2) := by decide +kernel
theorem dX1_add_80 : decode cX1_add 80 = .ok (.ireturn, 1) := by decide +kernel
theorem dX1_makeLeaf_0 : decode cX1_makeLeaf 0 = .ok (.aload_n 0, 1) := by decide +kernel
theorem dX1_makeLeaf_1 : decode cX1_makeLeaf 1 = .ok (.getfield 47, 3) := by decide +kernel
theorem dX1_makeLeaf_4 : decode cX1_makeLeaf 4 = .ok (.bipush 12, 2) := by decide +kernel
theorem dX1_makeLeaf_6 : decode cX1_makeLeaf 6 = .ok (.if_icmp .ge 11, 3) := by decide +kernel
theorem dX1_makeLeaf_9 : decode cX1_makeLeaf 9 = .ok (.aload_n 0, 1) := by decide +kernel
theorem dX1_makeLeaf_10 : decode cX1_makeLeaf 10 = .ok (.iload_n 1, 1) := by decide +kernel
theorem dX1_makeLeaf_11 : decode cX1_makeLeaf 11 = .ok (.invokevirtual 50, 3) := by decide +kernel
theorem dX1_makeLeaf_14 : decode cX1_makeLeaf 14 = .ok (.ifCond .ne 5, 3) := by decide +kernel
theorem dX1_makeLeaf_17 : decode cX1_makeLeaf 17 = .ok (.iconst 0, 1) := by decide +kernel
theorem dX1_makeLeaf_18 : decode cX1_makeLeaf 18 = .ok (.ireturn, 1) := by decide +kernel
theorem dX1_makeLeaf_19 : decode cX1_makeLeaf 19 = .ok (.aload_n 0, 1) := by decide +kernel
theorem dX1_makeLeaf_20 : decode cX1_makeLeaf 20 = .ok (.getfield 15, 3) := by decide +kernel
theorem dX1_makeLeaf_23 : decode cX1_makeLeaf 23 = .ok (.iload_n 1, 1) := by decide +kernel
theorem dX1_makeLeaf_24 : decode cX1_makeLeaf 24 = .ok (.iload_n 2, 1) := by decide +kernel
theorem dX1_makeLeaf_25 : decode cX1_makeLeaf 25 = .ok (.iastore, 1) := by decide +kernel
theorem dX1_makeLeaf_26 : decode cX1_makeLeaf 26 = .ok (.aload_n 0, 1) := by decide +kernel
theorem dX1_makeLeaf_27 : decode cX1_makeLeaf 27 = .ok (.getfield 37, 3) := by decide +kernel
theorem dX1_makeLeaf_30 : decode cX1_makeLeaf 30 = .ok (.iload_n 1, 1) := by decide +kernel
theorem dX1_makeLeaf_31 : decode cX1_makeLeaf 31 = .ok (.aload_n 0, 1) := by decide +kernel
theorem dX1_makeLeaf_32 : decode cX1_makeLeaf 32 = .ok (.getfield 47, 3) := by decide +kernel
theorem dX1_makeLeaf_35 : decode cX1_makeLeaf 35 = .ok (.iastore, 1) := by decide +kernel
theorem dX1_makeLeaf_36 : decode cX1_makeLeaf 36 = .ok (.aload_n 0, 1) := by decide +kernel
theorem dX1_makeLeaf_37 : decode cX1_makeLeaf 37 = .ok (.getfield 40, 3) := by decide +kernel
theorem dX1_makeLeaf_40 : decode cX1_makeLeaf 40 = .ok (.aload_n 0, 1) := by decide +kernel
theorem dX1_makeLeaf_41 : decode cX1_makeLeaf 41 = .ok (.getfield 47, 3) := by decide +kernel
theorem dX1_makeLeaf_44 : decode cX1_makeLeaf 44 = .ok (.iload_n 1, 1) := by decide +kernel
theorem dX1_makeLeaf_45 : decode cX1_makeLeaf 45 = .ok (.iastore, 1) := by decide +kernel
theorem dX1_makeLeaf_46 : decode cX1_makeLeaf 46 = .ok (.aload_n 0, 1) := by decide +kernel
theorem dX1_makeLeaf_47 : decode cX1_makeLeaf 47 = .ok (.dup, 1) := by decide +kernel
theorem dX1_makeLeaf_48 : decode cX1_makeLeaf 48 = .ok (.getfield 47, 3) := by decide +kernel
theorem dX1_makeLeaf_51 : decode cX1_makeLeaf 51 = .ok (.iconst 1, 1) := by decide +kernel
theorem dX1_makeLeaf_52 : decode cX1_makeLeaf 52 = .ok (.iadd, 1) := by decide +kernel
theorem dX1_makeLeaf_53 : decode cX1_makeLeaf 53 = .ok (.putfield 47, 3) := by decide +kernel
theorem dX1_makeLeaf_56 : decode cX1_makeLeaf 56 = .ok (.iconst 1, 1) := by decide +kernel
theorem dX1_makeLeaf_57 : decode cX1_makeLeaf 57 = .ok (.ireturn, 1) := by decide +kernel
theorem dX1_find_0 : decode cX1_find 0 = .ok (.iconst 0, 1) := by decide +kernel
theorem dX1_find_1 : decode cX1_find 1 = .ok (.istore 4, 2) := by decide +kernel
theorem dX1_find_3 : decode cX1_find 3 = .ok (.iload 4, 2) := by decide +kernel
theorem dX1_find_5 : decode cX1_find 5 = .ok (.aload_n 0, 1) := by decide +kernel
theorem dX1_find_6 : decode cX1_find 6 = .ok (.getfield 43, 3) := by decide +kernel
theorem dX1_find_9 : decode cX1_find 9 = .ok (.if_icmp .ge 35, 3) := by decide +kernel
theorem dX1_find_12 : decode cX1_find 12 = .ok (.aload_n 0, 1) := by decide +kernel
theorem dX1_find_13 : decode cX1_find 13 = .ok (.getfield 22, 3) := by decide +kernel
theorem dX1_find_16 : decode cX1_find 16 = .ok (.iload 4, 2) := by decide +kernel
theorem dX1_find_18 : decode cX1_find 18 = .ok (.iaload, 1) := by decide +kernel
theorem dX1_find_19 : decode cX1_find 19 = .ok (.iload_n 1, 1) := by decide +kernel
theorem dX1_find_20 : decode cX1_find 20 = .ok (.if_icmp .ne 18, 3) := by decide +kernel
theorem dX1_find_23 : decode cX1_find 23 = .ok (.aload_n 0, 1) := by decide +kernel
theorem dX1_find_24 : decode cX1_find 24 = .ok (.getfield 9, 3) := by decide +kernel
theorem dX1_find_27 : decode cX1_find 27 = .ok (.iload 4, 2) := by decide +kernel
theorem dX1_find_29 : decode cX1_find 29 = .ok (.laload, 1) := by decide +kernel
theorem dX1_find_30 : decode cX1_find 30 = .ok (.lload_n 2, 1) := by decide +kernel
theorem dX1_find_31 : decode cX1_find 31 = .ok (.lcmp, 1) := by decide +kernel
theorem dX1_find_32 : decode cX1_find 32 = .ok (.ifCond .ne 6, 3) := by decide +kernel
theorem dX1_find_35 : decode cX1_find 35 = .ok (.iload 4, 2) := by decide +kernel
theorem dX1_find_37 : decode cX1_find 37 = .ok (.ireturn, 1) := by decide +kernel
theorem dX1_find_38 : decode cX1_find 38 = .ok (.iinc 4 1, 3) := by decide +kernel
theorem dX1_find_41 : decode cX1_find 41 = .ok (.goto (-38), 3) := by decide +kernel
theorem dX1_find_44 : decode cX1_find 44 = .ok (.iconst (-1), 1) := by decide +kernel
theorem dX1_find_45 : decode cX1_find 45 = .ok (.ireturn, 1) := by decide +kernel
theorem dX1_measure_0 : decode cX1_measure 0 = .ok (.iconst 0, 1) := by decide +kernel
theorem dX1_measure_1 : decode cX1_measure 1 = .ok (.istore_n 1, 1) := by decide +kernel
theorem dX1_measure_2 : decode cX1_measure 2 = .ok (.iload_n 1, 1) := by decide +kernel
theorem dX1_measure_3 : decode cX1_measure 3 = .ok (.aload_n 0, 1) := by decide +kernel
theorem dX1_measure_4 : decode cX1_measure 4 = .ok (.getfield 43, 3) := by decide +kernel
theorem dX1_measure_7 : decode cX1_measure 7 = .ok (.if_icmp .ge 107, 3) := by decide +kernel
theorem dX1_measure_10 : decode cX1_measure 10 = .ok (.aload_n 0, 1) := by decide +kernel
theorem dX1_measure_11 : decode cX1_measure 11 = .ok (.getfield 22, 3) := by decide +kernel
theorem dX1_measure_14 : decode cX1_measure 14 = .ok (.iload_n 1, 1) := by decide +kernel
theorem dX1_measure_15 : decode cX1_measure 15 = .ok (.iaload, 1) := by decide +kernel
theorem dX1_measure_16 : decode cX1_measure 16 = .ok (.istore_n 2, 1) := by decide +kernel
theorem dX1_measure_17 : decode cX1_measure 17 = .ok (.aload_n 0, 1) := by decide +kernel
theorem dX1_measure_18 : decode cX1_measure 18 = .ok (.iload_n 2, 1) := by decide +kernel
theorem dX1_measure_19 : decode cX1_measure 19 = .ok (.invokevirtual 50, 3) := by decide +kernel
theorem dX1_measure_22 : decode cX1_measure 22 = .ok (.istore_n 3, 1) := by decide +kernel
theorem dX1_measure_23 : decode cX1_measure 23 = .ok (.aload_n 0, 1) := by decide +kernel
theorem dX1_measure_24 : decode cX1_measure 24 = .ok (.getfield 28, 3) := by decide +kernel
theorem dX1_measure_27 : decode cX1_measure 27 = .ok (.iload_n 1, 1) := by decide +kernel
theorem dX1_measure_28 : decode cX1_measure 28 = .ok (.aload_n 0, 1) := by decide +kernel
theorem dX1_measure_29 : decode cX1_measure 29 = .ok (.iload_n 2, 1) := by decide +kernel
theorem dX1_measure_30 : decode cX1_measure 30 = .ok (.invokevirtual 54, 3) := by decide +kernel
theorem dX1_measure_33 : decode cX1_measure 33 = .ok (.aload_n 0, 1) := by decide +kernel
theorem dX1_measure_34 : decode cX1_measure 34 = .ok (.getfield 19, 3) := by decide +kernel
theorem dX1_measure_37 : decode cX1_measure 37 = .ok (.iload_n 1, 1) := by decide +kernel
theorem dX1_measure_38 : decode cX1_measure 38 = .ok (.iaload, 1) := by decide +kernel
theorem dX1_measure_39 : decode cX1_measure 39 = .ok (.iconst 1, 1) := by decide +kernel
theorem dX1_measure_40 : decode cX1_measure 40 = .ok (.if_icmp .ne 7, 3) := by decide +kernel
theorem dX1_measure_43 : decode cX1_measure 43 = .ok (.iconst 0, 1) := by decide +kernel
theorem dX1_measure_44 : decode cX1_measure 44 = .ok (.goto 4, 3) := by decide +kernel
theorem dX1_measure_47 : decode cX1_measure 47 = .ok (.iconst 1, 1) := by decide +kernel
theorem dX1_measure_48 : decode cX1_measure 48 = .ok (.iadd, 1) := by decide +kernel
theorem dX1_measure_49 : decode cX1_measure 49 = .ok (.iastore, 1) := by decide +kernel
theorem dX1_measure_50 : decode cX1_measure 50 = .ok (.aload_n 0, 1) := by decide +kernel
theorem dX1_measure_51 : decode cX1_measure 51 = .ok (.getfield 31, 3) := by decide +kernel
theorem dX1_measure_54 : decode cX1_measure 54 = .ok (.iload_n 1, 1) := by decide +kernel
theorem dX1_measure_55 : decode cX1_measure 55 = .ok (.iload_n 3, 1) := by decide +kernel
theorem dX1_measure_56 : decode cX1_measure 56 = .ok (.ifCond .eq 12, 3) := by decide +kernel
theorem dX1_measure_59 : decode cX1_measure 59 = .ok (.aload_n 0, 1) := by decide +kernel
theorem dX1_measure_60 : decode cX1_measure 60 = .ok (.getfield 31, 3) := by decide +kernel
theorem dX1_measure_63 : decode cX1_measure 63 = .ok (.iload_n 2, 1) := by decide +kernel
theorem dX1_measure_64 : decode cX1_measure 64 = .ok (.iaload, 1) := by decide +kernel
theorem dX1_measure_65 : decode cX1_measure 65 = .ok (.goto 4, 3) := by decide +kernel
theorem dX1_measure_68 : decode cX1_measure 68 = .ok (.iconst 0, 1) := by decide +kernel
theorem dX1_measure_69 : decode cX1_measure 69 = .ok (.aload_n 0, 1) := by decide +kernel
theorem dX1_measure_70 : decode cX1_measure 70 = .ok (.getfield 19, 3) := by decide +kernel
theorem dX1_measure_73 : decode cX1_measure 73 = .ok (.iload_n 1, 1) := by decide +kernel
theorem dX1_measure_74 : decode cX1_measure 74 = .ok (.iaload, 1) := by decide +kernel
theorem dX1_measure_75 : decode cX1_measure 75 = .ok (.iconst 3, 1) := by decide +kernel
theorem dX1_measure_76 : decode cX1_measure 76 = .ok (.if_icmp .ne 7, 3) := by decide +kernel
theorem dX1_measure_79 : decode cX1_measure 79 = .ok (.iconst 1, 1) := by decide +kernel
theorem dX1_measure_80 : decode cX1_measure 80 = .ok (.goto 4, 3) := by decide +kernel
theorem dX1_measure_83 : decode cX1_measure 83 = .ok (.iconst 0, 1) := by decide +kernel
theorem dX1_measure_84 : decode cX1_measure 84 = .ok (.iadd, 1) := by decide +kernel
theorem dX1_measure_85 : decode cX1_measure 85 = .ok (.iastore, 1) := by decide +kernel
theorem dX1_measure_86 : decode cX1_measure 86 = .ok (.aload_n 0, 1) := by decide +kernel
theorem dX1_measure_87 : decode cX1_measure 87 = .ok (.getfield 34, 3) := by decide +kernel
theorem dX1_measure_90 : decode cX1_measure 90 = .ok (.iload_n 1, 1) := by decide +kernel
theorem dX1_measure_91 : decode cX1_measure 91 = .ok (.iload_n 3, 1) := by decide +kernel
theorem dX1_measure_92 : decode cX1_measure 92 = .ok (.ifCond .eq 14, 3) := by decide +kernel
theorem dX1_measure_95 : decode cX1_measure 95 = .ok (.aload_n 0, 1) := by decide +kernel
theorem dX1_measure_96 : decode cX1_measure 96 = .ok (.getfield 34, 3) := by decide +kernel
theorem dX1_measure_99 : decode cX1_measure 99 = .ok (.iload_n 2, 1) := by decide +kernel
theorem dX1_measure_100 : decode cX1_measure 100 = .ok (.iaload, 1) := by decide +kernel
theorem dX1_measure_101 : decode cX1_measure 101 = .ok (.iconst 1, 1) := by decide +kernel
theorem dX1_measure_102 : decode cX1_measure 102 = .ok (.iadd, 1) := by decide +kernel
theorem dX1_measure_103 : decode cX1_measure 103 = .ok (.goto 4, 3) := by decide +kernel
theorem dX1_measure_106 : decode cX1_measure 106 = .ok (.iconst 0, 1) := by decide +kernel
theorem dX1_measure_107 : decode cX1_measure 107 = .ok (.iastore, 1) := by decide +kernel
theorem dX1_measure_108 : decode cX1_measure 108 = .ok (.iinc 1 1, 3) := by decide +kernel
theorem dX1_measure_111 : decode cX1_measure 111 = .ok (.goto (-109), 3) := by decide +kernel
theorem dX1_measure_114 : decode cX1_measure 114 = .ok (.return_, 1) := by decide +kernel
theorem dX1_deepUpTo_0 : decode cX1_deepUpTo 0 = .ok (.aload_n 0, 1) := by decide +kernel
theorem dX1_deepUpTo_1 : decode cX1_deepUpTo 1 = .ok (.iload_n 1, 1) := by decide +kernel
theorem dX1_deepUpTo_2 : decode cX1_deepUpTo 2 = .ok (.invokevirtual 50, 3) := by decide +kernel
theorem dX1_deepUpTo_5 : decode cX1_deepUpTo 5 = .ok (.ifCond .eq 12, 3) := by decide +kernel
theorem dX1_deepUpTo_8 : decode cX1_deepUpTo 8 = .ok (.aload_n 0, 1) := by decide +kernel
theorem dX1_deepUpTo_9 : decode cX1_deepUpTo 9 = .ok (.getfield 28, 3) := by decide +kernel
theorem dX1_deepUpTo_12 : decode cX1_deepUpTo 12 = .ok (.iload_n 1, 1) := by decide +kernel
theorem dX1_deepUpTo_13 : decode cX1_deepUpTo 13 = .ok (.iaload, 1) := by decide +kernel
theorem dX1_deepUpTo_14 : decode cX1_deepUpTo 14 = .ok (.goto 4, 3) := by decide +kernel
theorem dX1_deepUpTo_17 : decode cX1_deepUpTo 17 = .ok (.iconst 0, 1) := by decide +kernel
theorem dX1_deepUpTo_18 : decode cX1_deepUpTo 18 = .ok (.ireturn, 1) := by decide +kernel
theorem dX1_isOnRoad_0 : decode cX1_isOnRoad 0 = .ok (.aload_n 0, 1) := by decide +kernel
theorem dX1_isOnRoad_1 : decode cX1_isOnRoad 1 = .ok (.iload_n 1, 1) := by decide +kernel
theorem dX1_isOnRoad_2 : decode cX1_isOnRoad 2 = .ok (.invokevirtual 50, 3) := by decide +kernel
theorem dX1_isOnRoad_5 : decode cX1_isOnRoad 5 = .ok (.ifCond .eq 22, 3) := by decide +kernel
theorem dX1_isOnRoad_8 : decode cX1_isOnRoad 8 = .ok (.iload_n 2, 1) := by decide +kernel
theorem dX1_isOnRoad_9 : decode cX1_isOnRoad 9 = .ok (.iload_n 1, 1) := by decide +kernel
theorem dX1_isOnRoad_10 : decode cX1_isOnRoad 10 = .ok (.if_icmp .lt 17, 3) := by decide +kernel
theorem dX1_isOnRoad_13 : decode cX1_isOnRoad 13 = .ok (.iload_n 2, 1) := by decide +kernel
theorem dX1_isOnRoad_14 : decode cX1_isOnRoad 14 = .ok (.aload_n 0, 1) := by decide +kernel
theorem dX1_isOnRoad_15 : decode cX1_isOnRoad 15 = .ok (.getfield 25, 3) := by decide +kernel
theorem dX1_isOnRoad_18 : decode cX1_isOnRoad 18 = .ok (.iload_n 1, 1) := by decide +kernel
theorem dX1_isOnRoad_19 : decode cX1_isOnRoad 19 = .ok (.iaload, 1) := by decide +kernel
theorem dX1_isOnRoad_20 : decode cX1_isOnRoad 20 = .ok (.if_icmp .ge 7, 3) := by decide +kernel
theorem dX1_isOnRoad_23 : decode cX1_isOnRoad 23 = .ok (.iconst 1, 1) := by decide +kernel
theorem dX1_isOnRoad_24 : decode cX1_isOnRoad 24 = .ok (.goto 4, 3) := by decide +kernel
theorem dX1_isOnRoad_27 : decode cX1_isOnRoad 27 = .ok (.iconst 0, 1) := by decide +kernel
theorem dX1_isOnRoad_28 : decode cX1_isOnRoad 28 = .ok (.ireturn, 1) := by decide +kernel
theorem dX1_sharedMany_0 : decode cX1_sharedMany 0 = .ok (.aload_n 0, 1) := by decide +kernel
theorem dX1_sharedMany_1 : decode cX1_sharedMany 1 = .ok (.iload_n 1, 1) := by decide +kernel
theorem dX1_sharedMany_2 : decode cX1_sharedMany 2 = .ok (.invokevirtual 58, 3) := by decide +kernel
theorem dX1_sharedMany_5 : decode cX1_sharedMany 5 = .ok (.istore_n 3, 1) := by decide +kernel
theorem dX1_sharedMany_6 : decode cX1_sharedMany 6 = .ok (.aload_n 0, 1) := by decide +kernel
theorem dX1_sharedMany_7 : decode cX1_sharedMany 7 = .ok (.iload_n 2, 1) := by decide +kernel
theorem dX1_sharedMany_8 : decode cX1_sharedMany 8 = .ok (.invokevirtual 58, 3) := by decide +kernel
theorem dX1_sharedMany_11 : decode cX1_sharedMany 11 = .ok (.istore 4, 2) := by decide +kernel
theorem dX1_sharedMany_13 : decode cX1_sharedMany 13 = .ok (.iconst 0, 1) := by decide +kernel
theorem dX1_sharedMany_14 : decode cX1_sharedMany 14 = .ok (.istore 5, 2) := by decide +kernel
theorem dX1_sharedMany_16 : decode cX1_sharedMany 16 = .ok (.iconst 0, 1) := by decide +kernel
theorem dX1_sharedMany_17 : decode cX1_sharedMany 17 = .ok (.istore 6, 2) := by decide +kernel
theorem dX1_sharedMany_19 : decode cX1_sharedMany 19 = .ok (.iload 6, 2) := by decide +kernel
theorem dX1_sharedMany_21 : decode cX1_sharedMany 21 = .ok (.aload_n 0, 1) := by decide +kernel
theorem dX1_sharedMany_22 : decode cX1_sharedMany 22 = .ok (.getfield 43, 3) := by decide +kernel
theorem dX1_sharedMany_25 : decode cX1_sharedMany 25 = .ok (.if_icmp .ge 44, 3) := by decide +kernel
theorem dX1_sharedMany_28 : decode cX1_sharedMany 28 = .ok (.aload_n 0, 1) := by decide +kernel
theorem dX1_sharedMany_29 : decode cX1_sharedMany 29 = .ok (.iload 6, 2) := by decide +kernel
theorem dX1_sharedMany_31 : decode cX1_sharedMany 31 = .ok (.iload_n 3, 1) := by decide +kernel
theorem dX1_sharedMany_32 : decode cX1_sharedMany 32 = .ok (.invokevirtual 61, 3) := by decide +kernel
theorem dX1_sharedMany_35 : decode cX1_sharedMany 35 = .ok (.ifCond .eq 28, 3) := by decide +kernel
theorem dX1_sharedMany_38 : decode cX1_sharedMany 38 = .ok (.aload_n 0, 1) := by decide +kernel
theorem dX1_sharedMany_39 : decode cX1_sharedMany 39 = .ok (.iload 6, 2) := by decide +kernel
theorem dX1_sharedMany_41 : decode cX1_sharedMany 41 = .ok (.iload 4, 2) := by decide +kernel
theorem dX1_sharedMany_43 : decode cX1_sharedMany 43 = .ok (.invokevirtual 61, 3) := by decide +kernel
theorem dX1_sharedMany_46 : decode cX1_sharedMany 46 = .ok (.ifCond .eq 17, 3) := by decide +kernel
theorem dX1_sharedMany_49 : decode cX1_sharedMany 49 = .ok (.iload 5, 2) := by decide +kernel
theorem dX1_sharedMany_51 : decode cX1_sharedMany 51 = .ok (.aload_n 0, 1) := by decide +kernel
theorem dX1_sharedMany_52 : decode cX1_sharedMany 52 = .ok (.getfield 31, 3) := by decide +kernel
theorem dX1_sharedMany_55 : decode cX1_sharedMany 55 = .ok (.iload 6, 2) := by decide +kernel
theorem dX1_sharedMany_57 : decode cX1_sharedMany 57 = .ok (.iaload, 1) := by decide +kernel
theorem dX1_sharedMany_58 : decode cX1_sharedMany 58 = .ok (.invokestatic 65, 3) := by decide +kernel
theorem dX1_sharedMany_61 : decode cX1_sharedMany 61 = .ok (.istore 5, 2) := by decide +kernel
theorem dX1_sharedMany_63 : decode cX1_sharedMany 63 = .ok (.iinc 6 1, 3) := by decide +kernel
theorem dX1_sharedMany_66 : decode cX1_sharedMany 66 = .ok (.goto (-47), 3) := by decide +kernel
theorem dX1_sharedMany_69 : decode cX1_sharedMany 69 = .ok (.iload 5, 2) := by decide +kernel
theorem dX1_sharedMany_71 : decode cX1_sharedMany 71 = .ok (.ireturn, 1) := by decide +kernel
theorem dX2_init_0 : decode cX2_init 0 = .ok (.aload_n 0, 1) := by decide +kernel
theorem dX2_init_1 : decode cX2_init 1 = .ok (.invokespecial 3, 3) := by decide +kernel
theorem dX2_init_4 : decode cX2_init 4 = .ok (.aload_n 0, 1) := by decide +kernel
theorem dX2_init_5 : decode cX2_init 5 = .ok (.aload_n 1, 1) := by decide +kernel
theorem dX2_init_6 : decode cX2_init 6 = .ok (.putfield 9, 3) := by decide +kernel
theorem dX2_init_9 : decode cX2_init 9 = .ok (.aload_n 0, 1) := by decide +kernel
theorem dX2_init_10 : decode cX2_init 10 = .ok (.aload_n 2, 1) := by decide +kernel
theorem dX2_init_11 : decode cX2_init 11 = .ok (.putfield 15, 3) := by decide +kernel
theorem dX2_init_14 : decode cX2_init 14 = .ok (.aload_n 0, 1) := by decide +kernel
theorem dX2_init_15 : decode cX2_init 15 = .ok (.iconst (-1), 1) := by decide +kernel
theorem dX2_init_16 : decode cX2_init 16 = .ok (.putfield 19, 3) := by decide +kernel
theorem dX2_init_19 : decode cX2_init 19 = .ok (.aload_n 0, 1) := by decide +kernel
theorem dX2_init_20 : decode cX2_init 20 = .ok (.iconst 0, 1) := by decide +kernel
theorem dX2_init_21 : decode cX2_init 21 = .ok (.putfield 23, 3) := by decide +kernel
theorem dX2_init_24 : decode cX2_init 24 = .ok (.return_, 1) := by decide +kernel
theorem dX2_readAll_0 : decode cX2_readAll 0 = .ok (.aload_n 0, 1) := by decide +kernel
theorem dX2_readAll_1 : decode cX2_readAll 1 = .ok (.getfield 9, 3) := by decide +kernel
theorem dX2_readAll_4 : decode cX2_readAll 4 = .ok (.invokevirtual 26, 3) := by decide +kernel
theorem dX2_readAll_7 : decode cX2_readAll 7 = .ok (.aload_n 0, 1) := by decide +kernel
theorem dX2_readAll_8 : decode cX2_readAll 8 = .ok (.getfield 15, 3) := by decide +kernel
theorem dX2_readAll_11 : decode cX2_readAll 11 = .ok (.invokevirtual 31, 3) := by decide +kernel
theorem dX2_readAll_14 : decode cX2_readAll 14 = .ok (.iconst 1, 1) := by decide +kernel
theorem dX2_readAll_15 : decode cX2_readAll 15 = .ok (.istore_n 1, 1) := by decide +kernel
theorem dX2_readAll_16 : decode cX2_readAll 16 = .ok (.iconst 0, 1) := by decide +kernel
theorem dX2_readAll_17 : decode cX2_readAll 17 = .ok (.istore_n 2, 1) := by decide +kernel
theorem dX2_readAll_18 : decode cX2_readAll 18 = .ok (.iload_n 2, 1) := by decide +kernel
theorem dX2_readAll_19 : decode cX2_readAll 19 = .ok (.sipush 400, 3) := by decide +kernel
theorem dX2_readAll_22 : decode cX2_readAll 22 = .ok (.if_icmp .gt 52, 3) := by decide +kernel
theorem dX2_readAll_25 : decode cX2_readAll 25 = .ok (.iload_n 1, 1) := by decide +kernel
theorem dX2_readAll_26 : decode cX2_readAll 26 = .ok (.ifCond .eq 48, 3) := by decide +kernel
theorem dX2_readAll_29 : decode cX2_readAll 29 = .ok (.aload_n 0, 1) := by decide +kernel
theorem dX2_readAll_30 : decode cX2_readAll 30 = .ok (.getfield 9, 3) := by decide +kernel
theorem dX2_readAll_33 : decode cX2_readAll 33 = .ok (.invokevirtual 36, 3) := by decide +kernel
theorem dX2_readAll_36 : decode cX2_readAll 36 = .ok (.istore_n 3, 1) := by decide +kernel
theorem dX2_readAll_37 : decode cX2_readAll 37 = .ok (.iload_n 3, 1) := by decide +kernel
theorem dX2_readAll_38 : decode cX2_readAll 38 = .ok (.iconst (-1), 1) := by decide +kernel
theorem dX2_readAll_39 : decode cX2_readAll 39 = .ok (.if_icmp .ne 11, 3) := by decide +kernel
theorem dX2_readAll_42 : decode cX2_readAll 42 = .ok (.aload_n 0, 1) := by decide +kernel
theorem dX2_readAll_43 : decode cX2_readAll 43 = .ok (.invokevirtual 40, 3) := by decide +kernel
theorem dX2_readAll_46 : decode cX2_readAll 46 = .ok (.istore_n 1, 1) := by decide +kernel
theorem dX2_readAll_47 : decode cX2_readAll 47 = .ok (.goto 21, 3) := by decide +kernel
theorem dX2_readAll_50 : decode cX2_readAll 50 = .ok (.iload_n 3, 1) := by decide +kernel
theorem dX2_readAll_51 : decode cX2_readAll 51 = .ok (.bipush 93, 2) := by decide +kernel
theorem dX2_readAll_53 : decode cX2_readAll 53 = .ok (.if_icmp .ne 10, 3) := by decide +kernel
theorem dX2_readAll_56 : decode cX2_readAll 56 = .ok (.aload_n 0, 1) := by decide +kernel
theorem dX2_readAll_57 : decode cX2_readAll 57 = .ok (.invokevirtual 44, 3) := by decide +kernel
theorem dX2_readAll_60 : decode cX2_readAll 60 = .ok (.goto 7, 3) := by decide +kernel
theorem dX2_readAll_63 : decode cX2_readAll 63 = .ok (.aload_n 0, 1) := by decide +kernel
theorem dX2_readAll_64 : decode cX2_readAll 64 = .ok (.invokevirtual 47, 3) := by decide +kernel
theorem dX2_readAll_67 : decode cX2_readAll 67 = .ok (.istore_n 1, 1) := by decide +kernel
theorem dX2_readAll_68 : decode cX2_readAll 68 = .ok (.iinc 2 1, 3) := by decide +kernel
theorem dX2_readAll_71 : decode cX2_readAll 71 = .ok (.goto (-53), 3) := by decide +kernel
theorem dX2_readAll_74 : decode cX2_readAll 74 = .ok (.aload_n 0, 1) := by decide +kernel
theorem dX2_readAll_75 : decode cX2_readAll 75 = .ok (.getfield 15, 3) := by decide +kernel
theorem dX2_readAll_78 : decode cX2_readAll 78 = .ok (.invokevirtual 50, 3) := by decide +kernel
theorem dX2_readAll_81 : decode cX2_readAll 81 = .ok (.aload_n 0, 1) := by decide +kernel
theorem dX2_readAll_82 : decode cX2_readAll 82 = .ok (.getfield 9, 3) := by decide +kernel
theorem dX2_readAll_85 : decode cX2_readAll 85 = .ok (.getfield 53, 3) := by decide +kernel
theorem dX2_readAll_88 : decode cX2_readAll 88 = .ok (.ifCond .ne 7, 3) := by decide +kernel
theorem dX2_readAll_91 : decode cX2_readAll 91 = .ok (.iconst 1, 1) := by decide +kernel
theorem dX2_readAll_92 : decode cX2_readAll 92 = .ok (.goto 4, 3) := by decide +kernel
theorem dX2_readAll_95 : decode cX2_readAll 95 = .ok (.iconst 0, 1) := by decide +kernel
theorem dX2_readAll_96 : decode cX2_readAll 96 = .ok (.ireturn, 1) := by decide +kernel
theorem dX2_readEnd_0 : decode cX2_readEnd 0 = .ok (.aload_n 0, 1) := by decide +kernel
theorem dX2_readEnd_1 : decode cX2_readEnd 1 = .ok (.getfield 19, 3) := by decide +kernel
theorem dX2_readEnd_4 : decode cX2_readEnd 4 = .ok (.iconst (-1), 1) := by decide +kernel
theorem dX2_readEnd_5 : decode cX2_readEnd 5 = .ok (.if_icmp .eq 12, 3) := by decide +kernel
theorem dX2_readEnd_8 : decode cX2_readEnd 8 = .ok (.aload_n 0, 1) := by decide +kernel
theorem dX2_readEnd_9 : decode cX2_readEnd 9 = .ok (.getfield 9, 3) := by decide +kernel
theorem dX2_readEnd_12 : decode cX2_readEnd 12 = .ok (.iconst 1, 1) := by decide +kernel
theorem dX2_readEnd_13 : decode cX2_readEnd 13 = .ok (.invokevirtual 56, 3) := by decide +kernel
theorem dX2_readEnd_16 : decode cX2_readEnd 16 = .ok (.ireturn, 1) := by decide +kernel
theorem dX2_readEnd_17 : decode cX2_readEnd 17 = .ok (.aload_n 0, 1) := by decide +kernel
theorem dX2_readEnd_18 : decode cX2_readEnd 18 = .ok (.getfield 15, 3) := by decide +kernel
theorem dX2_readEnd_21 : decode cX2_readEnd 21 = .ok (.getfield 60, 3) := by decide +kernel
theorem dX2_readEnd_24 : decode cX2_readEnd 24 = .ok (.ifCond .ne 12, 3) := by decide +kernel
theorem dX2_readEnd_27 : decode cX2_readEnd 27 = .ok (.aload_n 0, 1) := by decide +kernel
theorem dX2_readEnd_28 : decode cX2_readEnd 28 = .ok (.getfield 9, 3) := by decide +kernel
theorem dX2_readEnd_31 : decode cX2_readEnd 31 = .ok (.iconst 3, 1) := by decide +kernel
theorem dX2_readEnd_32 : decode cX2_readEnd 32 = .ok (.invokevirtual 56, 3) := by decide +kernel
theorem dX2_readEnd_35 : decode cX2_readEnd 35 = .ok (.ireturn, 1) := by decide +kernel
theorem dX2_readEnd_36 : decode cX2_readEnd 36 = .ok (.iconst 0, 1) := by decide +kernel
theorem dX2_readEnd_37 : decode cX2_readEnd 37 = .ok (.ireturn, 1) := by decide +kernel
theorem dX2_readClose_0 : decode cX2_readClose 0 = .ok (.aload_n 0, 1) := by decide +kernel
theorem dX2_readClose_1 : decode cX2_readClose 1 = .ok (.getfield 15, 3) := by decide +kernel
theorem dX2_readClose_4 : decode cX2_readClose 4 = .ok (.aload_n 0, 1) := by decide +kernel
theorem dX2_readClose_5 : decode cX2_readClose 5 = .ok (.getfield 19, 3) := by decide +kernel
theorem dX2_readClose_8 : decode cX2_readClose 8 = .ok (.invokevirtual 63, 3) := by decide +kernel
theorem dX2_readClose_11 : decode cX2_readClose 11 = .ok (.ifCond .ne 12, 3) := by decide +kernel
theorem dX2_readClose_14 : decode cX2_readClose 14 = .ok (.aload_n 0, 1) := by decide +kernel
theorem dX2_readClose_15 : decode cX2_readClose 15 = .ok (.getfield 9, 3) := by decide +kernel
theorem dX2_readClose_18 : decode cX2_readClose 18 = .ok (.iconst 1, 1) := by decide +kernel
theorem dX2_readClose_19 : decode cX2_readClose 19 = .ok (.invokevirtual 56, 3) := by decide +kernel
theorem dX2_readClose_22 : decode cX2_readClose 22 = .ok (.ireturn, 1) := by decide +kernel
theorem dX2_readClose_23 : decode cX2_readClose 23 = .ok (.aload_n 0, 1) := by decide +kernel
theorem dX2_readClose_24 : decode cX2_readClose 24 = .ok (.getfield 15, 3) := by decide +kernel
theorem dX2_readClose_27 : decode cX2_readClose 27 = .ok (.getfield 60, 3) := by decide +kernel
theorem dX2_readClose_30 : decode cX2_readClose 30 = .ok (.aload_n 0, 1) := by decide +kernel
theorem dX2_readClose_31 : decode cX2_readClose 31 = .ok (.getfield 19, 3) := by decide +kernel
theorem dX2_readClose_34 : decode cX2_readClose 34 = .ok (.iconst 1, 1) := by decide +kernel
theorem dX2_readClose_35 : decode cX2_readClose 35 = .ok (.iadd, 1) := by decide +kernel
theorem dX2_readClose_36 : decode cX2_readClose 36 = .ok (.if_icmp .ne 12, 3) := by decide +kernel
theorem dX2_readClose_39 : decode cX2_readClose 39 = .ok (.aload_n 0, 1) := by decide +kernel
theorem dX2_readClose_40 : decode cX2_readClose 40 = .ok (.getfield 9, 3) := by decide +kernel
theorem dX2_readClose_43 : decode cX2_readClose 43 = .ok (.iconst 3, 1) := by decide +kernel
theorem dX2_readClose_44 : decode cX2_readClose 44 = .ok (.invokevirtual 56, 3) := by decide +kernel
theorem dX2_readClose_47 : decode cX2_readClose 47 = .ok (.ireturn, 1) := by decide +kernel
theorem dX2_readClose_48 : decode cX2_readClose 48 = .ok (.aload_n 0, 1) := by decide +kernel
theorem dX2_readClose_49 : decode cX2_readClose 49 = .ok (.getfield 9, 3) := by decide +kernel
theorem dX2_readClose_52 : decode cX2_readClose 52 = .ok (.dup, 1) := by decide +kernel
theorem dX2_readClose_53 : decode cX2_readClose 53 = .ok (.getfield 66, 3) := by decide +kernel
theorem dX2_readClose_56 : decode cX2_readClose 56 = .ok (.iconst 1, 1) := by decide +kernel
theorem dX2_readClose_57 : decode cX2_readClose 57 = .ok (.iadd, 1) := by decide +kernel
theorem dX2_readClose_58 : decode cX2_readClose 58 = .ok (.putfield 66, 3) := by decide +kernel
theorem dX2_readClose_61 : decode cX2_readClose 61 = .ok (.aload_n 0, 1) := by decide +kernel
theorem dX2_readClose_62 : decode cX2_readClose 62 = .ok (.getfield 19, 3) := by decide +kernel
theorem dX2_readClose_65 : decode cX2_readClose 65 = .ok (.istore_n 1, 1) := by decide +kernel
theorem dX2_readClose_66 : decode cX2_readClose 66 = .ok (.aload_n 0, 1) := by decide +kernel
theorem dX2_readClose_67 : decode cX2_readClose 67 = .ok (.getfield 15, 3) := by decide +kernel
theorem dX2_readClose_70 : decode cX2_readClose 70 = .ok (.getfield 69, 3) := by decide +kernel
theorem dX2_readClose_73 : decode cX2_readClose 73 = .ok (.iload_n 1, 1) := by decide +kernel
theorem dX2_readClose_74 : decode cX2_readClose 74 = .ok (.aload_n 0, 1) := by decide +kernel
theorem dX2_readClose_75 : decode cX2_readClose 75 = .ok (.getfield 15, 3) := by decide +kernel
theorem dX2_readClose_78 : decode cX2_readClose 78 = .ok (.getfield 60, 3) := by decide +kernel
theorem dX2_readClose_81 : decode cX2_readClose 81 = .ok (.iastore, 1) := by decide +kernel
theorem dX2_readClose_82 : decode cX2_readClose 82 = .ok (.aload_n 0, 1) := by decide +kernel
theorem dX2_readClose_83 : decode cX2_readClose 83 = .ok (.aload_n 0, 1) := by decide +kernel
theorem dX2_readClose_84 : decode cX2_readClose 84 = .ok (.getfield 15, 3) := by decide +kernel
theorem dX2_readClose_87 : decode cX2_readClose 87 = .ok (.getfield 73, 3) := by decide +kernel
theorem dX2_readClose_90 : decode cX2_readClose 90 = .ok (.iload_n 1, 1) := by decide +kernel
theorem dX2_readClose_91 : decode cX2_readClose 91 = .ok (.iaload, 1) := by decide +kernel
theorem dX2_readClose_92 : decode cX2_readClose 92 = .ok (.putfield 19, 3) := by decide +kernel
theorem dX2_readClose_95 : decode cX2_readClose 95 = .ok (.aload_n 0, 1) := by decide +kernel
theorem dX2_readClose_96 : decode cX2_readClose 96 = .ok (.dup, 1) := by decide +kernel
theorem dX2_readClose_97 : decode cX2_readClose 97 = .ok (.getfield 23, 3) := by decide +kernel
theorem dX2_readClose_100 : decode cX2_readClose 100 = .ok (.iconst 1, 1) := by decide +kernel
theorem dX2_readClose_101 : decode cX2_readClose 101 = .ok (.isub, 1) := by decide +kernel
theorem dX2_readClose_102 : decode cX2_readClose 102 = .ok (.putfield 23, 3) := by decide +kernel
theorem dX2_readClose_105 : decode cX2_readClose 105 = .ok (.aload_n 0, 1) := by decide +kernel
theorem dX2_readClose_106 : decode cX2_readClose 106 = .ok (.iload_n 1, 1) := by decide +kernel
theorem dX2_readClose_107 : decode cX2_readClose 107 = .ok (.invokevirtual 76, 3) := by decide +kernel
theorem dX2_readClose_110 : decode cX2_readClose 110 = .ok (.ireturn, 1) := by decide +kernel
theorem dX2_readField_0 : decode cX2_readField 0 = .ok (.aload_n 0, 1) := by decide +kernel
theorem dX2_readField_1 : decode cX2_readField 1 = .ok (.invokevirtual 79, 3) := by decide +kernel
theorem dX2_readField_4 : decode cX2_readField 4 = .ok (.ifCond .ne 5, 3) := by decide +kernel
theorem dX2_readField_7 : decode cX2_readField 7 = .ok (.iconst 0, 1) := by decide +kernel
theorem dX2_readField_8 : decode cX2_readField 8 = .ok (.ireturn, 1) := by decide +kernel
theorem dX2_readField_9 : decode cX2_readField 9 = .ok (.aload_n 0, 1) := by decide +kernel
theorem dX2_readField_10 : decode cX2_readField 10 = .ok (.getfield 15, 3) := by decide +kernel
theorem dX2_readField_13 : decode cX2_readField 13 = .ok (.aload_n 0, 1) := by decide +kernel
theorem dX2_readField_14 : decode cX2_readField 14 = .ok (.getfield 9, 3) := by decide +kernel
theorem dX2_readField_17 : decode cX2_readField 17 = .ok (.getfield 82, 3) := by decide +kernel
theorem dX2_readField_20 : decode cX2_readField 20 = .ok (.aload_n 0, 1) := by decide +kernel
theorem dX2_readField_21 : decode cX2_readField 21 = .ok (.getfield 19, 3) := by decide +kernel
theorem dX2_readField_24 : decode cX2_readField 24 = .ok (.invokevirtual 86, 3) := by decide +kernel
theorem dX2_readField_27 : decode cX2_readField 27 = .ok (.istore_n 1, 1) := by decide +kernel
theorem dX2_readField_28 : decode cX2_readField 28 = .ok (.iload_n 1, 1) := by decide +kernel
theorem dX2_readField_29 : decode cX2_readField 29 = .ok (.iconst (-1), 1) := by decide +kernel
theorem dX2_readField_30 : decode cX2_readField 30 = .ok (.if_icmp .ne 19, 3) := by decide +kernel
theorem dX2_readField_33 : decode cX2_readField 33 = .ok (.aload_n 0, 1) := by decide +kernel
theorem dX2_readField_34 : decode cX2_readField 34 = .ok (.getfield 9, 3) := by decide +kernel
theorem dX2_readField_37 : decode cX2_readField 37 = .ok (.iconst 3, 1) := by decide +kernel
theorem dX2_readField_38 : decode cX2_readField 38 = .ok (.aload_n 0, 1) := by decide +kernel
theorem dX2_readField_39 : decode cX2_readField 39 = .ok (.getfield 9, 3) := by decide +kernel
theorem dX2_readField_42 : decode cX2_readField 42 = .ok (.getfield 90, 3) := by decide +kernel
theorem dX2_readField_45 : decode cX2_readField 45 = .ok (.invokevirtual 93, 3) := by decide +kernel
theorem dX2_readField_48 : decode cX2_readField 48 = .ok (.ireturn, 1) := by decide +kernel
theorem dX2_readField_49 : decode cX2_readField 49 = .ok (.aload_n 0, 1) := by decide +kernel
theorem dX2_readField_50 : decode cX2_readField 50 = .ok (.getfield 9, 3) := by decide +kernel
theorem dX2_readField_53 : decode cX2_readField 53 = .ok (.invokevirtual 36, 3) := by decide +kernel
theorem dX2_readField_56 : decode cX2_readField 56 = .ok (.bipush 91, 2) := by decide +kernel
theorem dX2_readField_58 : decode cX2_readField 58 = .ok (.if_icmp .ne 11, 3) := by decide +kernel
theorem dX2_readField_61 : decode cX2_readField 61 = .ok (.aload_n 0, 1) := by decide +kernel
theorem dX2_readField_62 : decode cX2_readField 62 = .ok (.iload_n 1, 1) := by decide +kernel
theorem dX2_readField_63 : decode cX2_readField 63 = .ok (.invokevirtual 97, 3) := by decide +kernel
theorem dX2_readField_66 : decode cX2_readField 66 = .ok (.goto 8, 3) := by decide +kernel
theorem dX2_readField_69 : decode cX2_readField 69 = .ok (.aload_n 0, 1) := by decide +kernel
theorem dX2_readField_70 : decode cX2_readField 70 = .ok (.iload_n 1, 1) := by decide +kernel
theorem dX2_readField_71 : decode cX2_readField 71 = .ok (.invokevirtual 100, 3) := by decide +kernel
theorem dX2_readField_74 : decode cX2_readField 74 = .ok (.ireturn, 1) := by decide +kernel
theorem dX2_readName_0 : decode cX2_readName 0 = .ok (.aload_n 0, 1) := by decide +kernel
theorem dX2_readName_1 : decode cX2_readName 1 = .ok (.getfield 9, 3) := by decide +kernel
theorem dX2_readName_4 : decode cX2_readName 4 = .ok (.invokevirtual 103, 3) := by decide +kernel
theorem dX2_readName_7 : decode cX2_readName 7 = .ok (.aload_n 0, 1) := by decide +kernel
theorem dX2_readName_8 : decode cX2_readName 8 = .ok (.getfield 9, 3) := by decide +kernel
theorem dX2_readName_11 : decode cX2_readName 11 = .ok (.getfield 106, 3) := by decide +kernel
theorem dX2_readName_14 : decode cX2_readName 14 = .ok (.ifCond .eq 16, 3) := by decide +kernel
theorem dX2_readName_17 : decode cX2_readName 17 = .ok (.aload_n 0, 1) := by decide +kernel
theorem dX2_readName_18 : decode cX2_readName 18 = .ok (.getfield 9, 3) := by decide +kernel
theorem dX2_readName_21 : decode cX2_readName 21 = .ok (.getfield 82, 3) := by decide +kernel
theorem dX2_readName_24 : decode cX2_readName 24 = .ok (.invokestatic 109, 3) := by decide +kernel
theorem dX2_readName_27 : decode cX2_readName 27 = .ok (.ifCond .eq 19, 3) := by decide +kernel
theorem dX2_readName_30 : decode cX2_readName 30 = .ok (.aload_n 0, 1) := by decide +kernel
theorem dX2_readName_31 : decode cX2_readName 31 = .ok (.getfield 9, 3) := by decide +kernel
theorem dX2_readName_34 : decode cX2_readName 34 = .ok (.iconst 1, 1) := by decide +kernel
theorem dX2_readName_35 : decode cX2_readName 35 = .ok (.aload_n 0, 1) := by decide +kernel
theorem dX2_readName_36 : decode cX2_readName 36 = .ok (.getfield 9, 3) := by decide +kernel
theorem dX2_readName_39 : decode cX2_readName 39 = .ok (.getfield 90, 3) := by decide +kernel
theorem dX2_readName_42 : decode cX2_readName 42 = .ok (.invokevirtual 93, 3) := by decide +kernel
theorem dX2_readName_45 : decode cX2_readName 45 = .ok (.ireturn, 1) := by decide +kernel
theorem dX2_readName_46 : decode cX2_readName 46 = .ok (.aload_n 0, 1) := by decide +kernel
theorem dX2_readName_47 : decode cX2_readName 47 = .ok (.getfield 9, 3) := by decide +kernel
theorem dX2_readName_50 : decode cX2_readName 50 = .ok (.getfield 106, 3) := by decide +kernel
theorem dX2_readName_53 : decode cX2_readName 53 = .ok (.bipush 8, 2) := by decide +kernel
theorem dX2_readName_55 : decode cX2_readName 55 = .ok (.if_icmp .le 11, 3) := by decide +kernel
theorem dX2_readName_58 : decode cX2_readName 58 = .ok (.aload_n 0, 1) := by decide +kernel
theorem dX2_readName_59 : decode cX2_readName 59 = .ok (.getfield 9, 3) := by decide +kernel
theorem dX2_readName_62 : decode cX2_readName 62 = .ok (.invokevirtual 113, 3) := by decide +kernel
theorem dX2_readName_65 : decode cX2_readName 65 = .ok (.ireturn, 1) := by decide +kernel
theorem dX2_readName_66 : decode cX2_readName 66 = .ok (.aload_n 0, 1) := by decide +kernel
theorem dX2_readName_67 : decode cX2_readName 67 = .ok (.getfield 15, 3) := by decide +kernel
theorem dX2_readName_70 : decode cX2_readName 70 = .ok (.aload_n 0, 1) := by decide +kernel
theorem dX2_readName_71 : decode cX2_readName 71 = .ok (.getfield 19, 3) := by decide +kernel
theorem dX2_readName_74 : decode cX2_readName 74 = .ok (.aload_n 0, 1) := by decide +kernel
theorem dX2_readName_75 : decode cX2_readName 75 = .ok (.getfield 9, 3) := by decide +kernel
theorem dX2_readName_78 : decode cX2_readName 78 = .ok (.getfield 82, 3) := by decide +kernel
theorem dX2_readName_81 : decode cX2_readName 81 = .ok (.invokevirtual 116, 3) := by decide +kernel
theorem dX2_readName_84 : decode cX2_readName 84 = .ok (.iconst (-1), 1) := by decide +kernel
theorem dX2_readName_85 : decode cX2_readName 85 = .ok (.if_icmp .eq 19, 3) := by decide +kernel
theorem dX2_readName_88 : decode cX2_readName 88 = .ok (.aload_n 0, 1) := by decide +kernel
theorem dX2_readName_89 : decode cX2_readName 89 = .ok (.getfield 9, 3) := by decide +kernel
theorem dX2_readName_92 : decode cX2_readName 92 = .ok (.iconst 2, 1) := by decide +kernel
theorem dX2_readName_93 : decode cX2_readName 93 = .ok (.aload_n 0, 1) := by decide +kernel
theorem dX2_readName_94 : decode cX2_readName 94 = .ok (.getfield 9, 3) := by decide +kernel
theorem dX2_readName_97 : decode cX2_readName 97 = .ok (.getfield 90, 3) := by decide +kernel
theorem dX2_readName_100 : decode cX2_readName 100 = .ok (.invokevirtual 93, 3) := by decide +kernel
theorem dX2_readName_103 : decode cX2_readName 103 = .ok (.ireturn, 1) := by decide +kernel
theorem dX2_readName_104 : decode cX2_readName 104 = .ok (.iconst 1, 1) := by decide +kernel
theorem dX2_readName_105 : decode cX2_readName 105 = .ok (.ireturn, 1) := by decide +kernel
theorem dX2_readOpen_0 : decode cX2_readOpen 0 = .ok (.aload_n 0, 1) := by decide +kernel
theorem dX2_readOpen_1 : decode cX2_readOpen 1 = .ok (.getfield 23, 3) := by decide +kernel
theorem dX2_readOpen_4 : decode cX2_readOpen 4 = .ok (.iconst 4, 1) := by decide +kernel
theorem dX2_readOpen_5 : decode cX2_readOpen 5 = .ok (.if_icmp .lt 12, 3) := by decide +kernel
theorem dX2_readOpen_8 : decode cX2_readOpen 8 = .ok (.aload_n 0, 1) := by decide +kernel
theorem dX2_readOpen_9 : decode cX2_readOpen 9 = .ok (.getfield 9, 3) := by decide +kernel
theorem dX2_readOpen_12 : decode cX2_readOpen 12 = .ok (.iconst 3, 1) := by decide +kernel
theorem dX2_readOpen_13 : decode cX2_readOpen 13 = .ok (.invokevirtual 56, 3) := by decide +kernel
theorem dX2_readOpen_16 : decode cX2_readOpen 16 = .ok (.ireturn, 1) := by decide +kernel
theorem dX2_readOpen_17 : decode cX2_readOpen 17 = .ok (.aload_n 0, 1) := by decide +kernel
theorem dX2_readOpen_18 : decode cX2_readOpen 18 = .ok (.getfield 9, 3) := by decide +kernel
theorem dX2_readOpen_21 : decode cX2_readOpen 21 = .ok (.dup, 1) := by decide +kernel
theorem dX2_readOpen_22 : decode cX2_readOpen 22 = .ok (.getfield 66, 3) := by decide +kernel
theorem dX2_readOpen_25 : decode cX2_readOpen 25 = .ok (.iconst 1, 1) := by decide +kernel
theorem dX2_readOpen_26 : decode cX2_readOpen 26 = .ok (.iadd, 1) := by decide +kernel
theorem dX2_readOpen_27 : decode cX2_readOpen 27 = .ok (.putfield 66, 3) := by decide +kernel
theorem dX2_readOpen_30 : decode cX2_readOpen 30 = .ok (.aload_n 0, 1) := by decide +kernel
theorem dX2_readOpen_31 : decode cX2_readOpen 31 = .ok (.iload_n 1, 1) := by decide +kernel
theorem dX2_readOpen_32 : decode cX2_readOpen 32 = .ok (.putfield 19, 3) := by decide +kernel
theorem dX2_readOpen_35 : decode cX2_readOpen 35 = .ok (.aload_n 0, 1) := by decide +kernel
theorem dX2_readOpen_36 : decode cX2_readOpen 36 = .ok (.dup, 1) := by decide +kernel
theorem dX2_readOpen_37 : decode cX2_readOpen 37 = .ok (.getfield 23, 3) := by decide +kernel
theorem dX2_readOpen_40 : decode cX2_readOpen 40 = .ok (.iconst 1, 1) := by decide +kernel
theorem dX2_readOpen_41 : decode cX2_readOpen 41 = .ok (.iadd, 1) := by decide +kernel
theorem dX2_readOpen_42 : decode cX2_readOpen 42 = .ok (.putfield 23, 3) := by decide +kernel
theorem dX2_readOpen_45 : decode cX2_readOpen 45 = .ok (.iconst 1, 1) := by decide +kernel
theorem dX2_readOpen_46 : decode cX2_readOpen 46 = .ok (.ireturn, 1) := by decide +kernel
theorem dX2_readLeaf_0 : decode cX2_readLeaf 0 = .ok (.aload_n 0, 1) := by decide +kernel
theorem dX2_readLeaf_1 : decode cX2_readLeaf 1 = .ok (.getfield 9, 3) := by decide +kernel
theorem dX2_readLeaf_4 : decode cX2_readLeaf 4 = .ok (.invokevirtual 103, 3) := by decide +kernel
theorem dX2_readLeaf_7 : decode cX2_readLeaf 7 = .ok (.aload_n 0, 1) := by decide +kernel
theorem dX2_readLeaf_8 : decode cX2_readLeaf 8 = .ok (.getfield 9, 3) := by decide +kernel
theorem dX2_readLeaf_11 : decode cX2_readLeaf 11 = .ok (.getfield 82, 3) := by decide +kernel
theorem dX2_readLeaf_14 : decode cX2_readLeaf 14 = .ok (.ldc2_w 120, 3) := by decide +kernel
theorem dX2_readLeaf_17 : decode cX2_readLeaf 17 = .ok (.lcmp, 1) := by decide +kernel
theorem dX2_readLeaf_18 : decode cX2_readLeaf 18 = .ok (.ifCond .ne 7, 3) := by decide +kernel
theorem dX2_readLeaf_21 : decode cX2_readLeaf 21 = .ok (.iconst 1, 1) := by decide +kernel
theorem dX2_readLeaf_22 : decode cX2_readLeaf 22 = .ok (.goto 4, 3) := by decide +kernel
theorem dX2_readLeaf_25 : decode cX2_readLeaf 25 = .ok (.iconst 0, 1) := by decide +kernel
theorem dX2_readLeaf_26 : decode cX2_readLeaf 26 = .ok (.istore_n 2, 1) := by decide +kernel
theorem dX2_readLeaf_27 : decode cX2_readLeaf 27 = .ok (.iload_n 2, 1) := by decide +kernel
theorem dX2_readLeaf_28 : decode cX2_readLeaf 28 = .ok (.ifCond .ne 33, 3) := by decide +kernel
theorem dX2_readLeaf_31 : decode cX2_readLeaf 31 = .ok (.aload_n 0, 1) := by decide +kernel
theorem dX2_readLeaf_32 : decode cX2_readLeaf 32 = .ok (.getfield 9, 3) := by decide +kernel
theorem dX2_readLeaf_35 : decode cX2_readLeaf 35 = .ok (.getfield 82, 3) := by decide +kernel
theorem dX2_readLeaf_38 : decode cX2_readLeaf 38 = .ok (.ldc2_w 122, 3) := by decide +kernel
theorem dX2_readLeaf_41 : decode cX2_readLeaf 41 = .ok (.lcmp, 1) := by decide +kernel
theorem dX2_readLeaf_42 : decode cX2_readLeaf 42 = .ok (.ifCond .eq 19, 3) := by decide +kernel
theorem dX2_readLeaf_45 : decode cX2_readLeaf 45 = .ok (.aload_n 0, 1) := by decide +kernel
theorem dX2_readLeaf_46 : decode cX2_readLeaf 46 = .ok (.getfield 9, 3) := by decide +kernel
theorem dX2_readLeaf_49 : decode cX2_readLeaf 49 = .ok (.iconst 1, 1) := by decide +kernel
theorem dX2_readLeaf_50 : decode cX2_readLeaf 50 = .ok (.aload_n 0, 1) := by decide +kernel
theorem dX2_readLeaf_51 : decode cX2_readLeaf 51 = .ok (.getfield 9, 3) := by decide +kernel
theorem dX2_readLeaf_54 : decode cX2_readLeaf 54 = .ok (.getfield 90, 3) := by decide +kernel
theorem dX2_readLeaf_57 : decode cX2_readLeaf 57 = .ok (.invokevirtual 93, 3) := by decide +kernel
theorem dX2_readLeaf_60 : decode cX2_readLeaf 60 = .ok (.ireturn, 1) := by decide +kernel
theorem dX2_readLeaf_61 : decode cX2_readLeaf 61 = .ok (.aload_n 0, 1) := by decide +kernel
theorem dX2_readLeaf_62 : decode cX2_readLeaf 62 = .ok (.getfield 15, 3) := by decide +kernel
theorem dX2_readLeaf_65 : decode cX2_readLeaf 65 = .ok (.iload_n 1, 1) := by decide +kernel
theorem dX2_readLeaf_66 : decode cX2_readLeaf 66 = .ok (.iload_n 2, 1) := by decide +kernel
theorem dX2_readLeaf_67 : decode cX2_readLeaf 67 = .ok (.ifCond .eq 7, 3) := by decide +kernel
theorem dX2_readLeaf_70 : decode cX2_readLeaf 70 = .ok (.iconst 1, 1) := by decide +kernel
theorem dX2_readLeaf_71 : decode cX2_readLeaf 71 = .ok (.goto 4, 3) := by decide +kernel
theorem dX2_readLeaf_74 : decode cX2_readLeaf 74 = .ok (.iconst 2, 1) := by decide +kernel
theorem dX2_readLeaf_75 : decode cX2_readLeaf 75 = .ok (.invokevirtual 124, 3) := by decide +kernel
theorem dX2_readLeaf_78 : decode cX2_readLeaf 78 = .ok (.ifCond .ne 19, 3) := by decide +kernel
theorem dX2_readLeaf_81 : decode cX2_readLeaf 81 = .ok (.aload_n 0, 1) := by decide +kernel
theorem dX2_readLeaf_82 : decode cX2_readLeaf 82 = .ok (.getfield 9, 3) := by decide +kernel
theorem dX2_readLeaf_85 : decode cX2_readLeaf 85 = .ok (.iconst 3, 1) := by decide +kernel
theorem dX2_readLeaf_86 : decode cX2_readLeaf 86 = .ok (.aload_n 0, 1) := by decide +kernel
theorem dX2_readLeaf_87 : decode cX2_readLeaf 87 = .ok (.getfield 9, 3) := by decide +kernel
theorem dX2_readLeaf_90 : decode cX2_readLeaf 90 = .ok (.getfield 90, 3) := by decide +kernel
theorem dX2_readLeaf_93 : decode cX2_readLeaf 93 = .ok (.invokevirtual 93, 3) := by decide +kernel
theorem dX2_readLeaf_96 : decode cX2_readLeaf 96 = .ok (.ireturn, 1) := by decide +kernel
theorem dX2_readLeaf_97 : decode cX2_readLeaf 97 = .ok (.aload_n 0, 1) := by decide +kernel
theorem dX2_readLeaf_98 : decode cX2_readLeaf 98 = .ok (.iload_n 1, 1) := by decide +kernel
theorem dX2_readLeaf_99 : decode cX2_readLeaf 99 = .ok (.invokevirtual 76, 3) := by decide +kernel
theorem dX2_readLeaf_102 : decode cX2_readLeaf 102 = .ok (.ireturn, 1) := by decide +kernel
theorem dX2_readMark_0 : decode cX2_readMark 0 = .ok (.aload_n 0, 1) := by decide +kernel
theorem dX2_readMark_1 : decode cX2_readMark 1 = .ok (.getfield 9, 3) := by decide +kernel
theorem dX2_readMark_4 : decode cX2_readMark 4 = .ok (.invokevirtual 103, 3) := by decide +kernel
theorem dX2_readMark_7 : decode cX2_readMark 7 = .ok (.aload_n 0, 1) := by decide +kernel
theorem dX2_readMark_8 : decode cX2_readMark 8 = .ok (.getfield 9, 3) := by decide +kernel
theorem dX2_readMark_11 : decode cX2_readMark 11 = .ok (.getfield 82, 3) := by decide +kernel
theorem dX2_readMark_14 : decode cX2_readMark 14 = .ok (.invokestatic 127, 3) := by decide +kernel
theorem dX2_readMark_17 : decode cX2_readMark 17 = .ok (.istore_n 2, 1) := by decide +kernel
theorem dX2_readMark_18 : decode cX2_readMark 18 = .ok (.iload_n 2, 1) := by decide +kernel
theorem dX2_readMark_19 : decode cX2_readMark 19 = .ok (.iconst (-1), 1) := by decide +kernel
theorem dX2_readMark_20 : decode cX2_readMark 20 = .ok (.if_icmp .eq 14, 3) := by decide +kernel
theorem dX2_readMark_23 : decode cX2_readMark 23 = .ok (.aload_n 0, 1) := by decide +kernel
theorem dX2_readMark_24 : decode cX2_readMark 24 = .ok (.getfield 15, 3) := by decide +kernel
theorem dX2_readMark_27 : decode cX2_readMark 27 = .ok (.iload_n 1, 1) := by decide +kernel
theorem dX2_readMark_28 : decode cX2_readMark 28 = .ok (.invokevirtual 63, 3) := by decide +kernel
theorem dX2_readMark_31 : decode cX2_readMark 31 = .ok (.ifCond .ne 19, 3) := by decide +kernel
theorem dX2_readMark_34 : decode cX2_readMark 34 = .ok (.aload_n 0, 1) := by decide +kernel
theorem dX2_readMark_35 : decode cX2_readMark 35 = .ok (.getfield 9, 3) := by decide +kernel
theorem dX2_readMark_38 : decode cX2_readMark 38 = .ok (.iconst 1, 1) := by decide +kernel
theorem dX2_readMark_39 : decode cX2_readMark 39 = .ok (.aload_n 0, 1) := by decide +kernel
theorem dX2_readMark_40 : decode cX2_readMark 40 = .ok (.getfield 9, 3) := by decide +kernel
theorem dX2_readMark_43 : decode cX2_readMark 43 = .ok (.getfield 90, 3) := by decide +kernel
theorem dX2_readMark_46 : decode cX2_readMark 46 = .ok (.invokevirtual 93, 3) := by decide +kernel
theorem dX2_readMark_49 : decode cX2_readMark 49 = .ok (.ireturn, 1) := by decide +kernel
theorem dX2_readMark_50 : decode cX2_readMark 50 = .ok (.aload_n 0, 1) := by decide +kernel
theorem dX2_readMark_51 : decode cX2_readMark 51 = .ok (.getfield 15, 3) := by decide +kernel
theorem dX2_readMark_54 : decode cX2_readMark 54 = .ok (.getfield 131, 3) := by decide +kernel
theorem dX2_readMark_57 : decode cX2_readMark 57 = .ok (.iload_n 1, 1) := by decide +kernel
theorem dX2_readMark_58 : decode cX2_readMark 58 = .ok (.iload_n 2, 1) := by decide +kernel
theorem dX2_readMark_59 : decode cX2_readMark 59 = .ok (.iastore, 1) := by decide +kernel
theorem dX2_readMark_60 : decode cX2_readMark 60 = .ok (.aload_n 0, 1) := by decide +kernel
theorem dX2_readMark_61 : decode cX2_readMark 61 = .ok (.getfield 9, 3) := by decide +kernel
theorem dX2_readMark_64 : decode cX2_readMark 64 = .ok (.bipush 59, 2) := by decide +kernel
theorem dX2_readMark_66 : decode cX2_readMark 66 = .ok (.invokevirtual 134, 3) := by decide +kernel
theorem dX2_readMark_69 : decode cX2_readMark 69 = .ok (.ireturn, 1) := by decide +kernel
theorem dX2_markOf_0 : decode cX2_markOf 0 = .ok (.lload_n 0, 1) := by decide +kernel
theorem dX2_markOf_1 : decode cX2_markOf 1 = .ok (.ldc2_w 137, 3) := by decide +kernel
theorem dX2_markOf_4 : decode cX2_markOf 4 = .ok (.lcmp, 1) := by decide +kernel
theorem dX2_markOf_5 : decode cX2_markOf 5 = .ok (.ifCond .ne 5, 3) := by decide +kernel
theorem dX2_markOf_8 : decode cX2_markOf 8 = .ok (.iconst 1, 1) := by decide +kernel
theorem dX2_markOf_9 : decode cX2_markOf 9 = .ok (.ireturn, 1) := by decide +kernel
theorem dX2_markOf_10 : decode cX2_markOf 10 = .ok (.lload_n 0, 1) := by decide +kernel
theorem dX2_markOf_11 : decode cX2_markOf 11 = .ok (.ldc2_w 139, 3) := by decide +kernel
theorem dX2_markOf_14 : decode cX2_markOf 14 = .ok (.lcmp, 1) := by decide +kernel
theorem dX2_markOf_15 : decode cX2_markOf 15 = .ok (.ifCond .ne 5, 3) := by decide +kernel
theorem dX2_markOf_18 : decode cX2_markOf 18 = .ok (.iconst 2, 1) := by decide +kernel
theorem dX2_markOf_19 : decode cX2_markOf 19 = .ok (.ireturn, 1) := by decide +kernel
theorem dX2_markOf_20 : decode cX2_markOf 20 = .ok (.lload_n 0, 1) := by decide +kernel
theorem dX2_markOf_21 : decode cX2_markOf 21 = .ok (.ldc2_w 141, 3) := by decide +kernel
theorem dX2_markOf_24 : decode cX2_markOf 24 = .ok (.lcmp, 1) := by decide +kernel
theorem dX2_markOf_25 : decode cX2_markOf 25 = .ok (.ifCond .ne 7, 3) := by decide +kernel
theorem dX2_markOf_28 : decode cX2_markOf 28 = .ok (.iconst 3, 1) := by decide +kernel
theorem dX2_markOf_29 : decode cX2_markOf 29 = .ok (.goto 4, 3) := by decide +kernel
theorem dX2_markOf_32 : decode cX2_markOf 32 = .ok (.iconst (-1), 1) := by decide +kernel
theorem dX2_markOf_33 : decode cX2_markOf 33 = .ok (.ireturn, 1) := by decide +kernel
theorem dX2_isKeyWord_0 : decode cX2_isKeyWord 0 = .ok (.lload_n 0, 1) := by decide +kernel
theorem dX2_isKeyWord_1 : decode cX2_isKeyWord 1 = .ok (.ldc2_w 120, 3) := by decide +kernel
theorem dX2_isKeyWord_4 : decode cX2_isKeyWord 4 = .ok (.lcmp, 1) := by decide +kernel
theorem dX2_isKeyWord_5 : decode cX2_isKeyWord 5 = .ok (.ifCond .eq 19, 3) := by decide +kernel
theorem dX2_isKeyWord_8 : decode cX2_isKeyWord 8 = .ok (.lload_n 0, 1) := by decide +kernel
theorem dX2_isKeyWord_9 : decode cX2_isKeyWord 9 = .ok (.ldc2_w 122, 3) := by decide +kernel
theorem dX2_isKeyWord_12 : decode cX2_isKeyWord 12 = .ok (.lcmp, 1) := by decide +kernel
theorem dX2_isKeyWord_13 : decode cX2_isKeyWord 13 = .ok (.ifCond .eq 11, 3) := by decide +kernel
theorem dX2_isKeyWord_16 : decode cX2_isKeyWord 16 = .ok (.lload_n 0, 1) := by decide +kernel
theorem dX2_isKeyWord_17 : decode cX2_isKeyWord 17 = .ok (.invokestatic 127, 3) := by decide +kernel
theorem dX2_isKeyWord_20 : decode cX2_isKeyWord 20 = .ok (.iconst (-1), 1) := by decide +kernel
theorem dX2_isKeyWord_21 : decode cX2_isKeyWord 21 = .ok (.if_icmp .eq 7, 3) := by decide +kernel
theorem dX2_isKeyWord_24 : decode cX2_isKeyWord 24 = .ok (.iconst 1, 1) := by decide +kernel
theorem dX2_isKeyWord_25 : decode cX2_isKeyWord 25 = .ok (.goto 4, 3) := by decide +kernel
theorem dX2_isKeyWord_28 : decode cX2_isKeyWord 28 = .ok (.iconst 0, 1) := by decide +kernel
theorem dX2_isKeyWord_29 : decode cX2_isKeyWord 29 = .ok (.ireturn, 1) := by decide +kernel
theorem dX3_init_0 : decode cX3_init 0 = .ok (.aload_n 0, 1) := by decide +kernel
theorem dX3_init_1 : decode cX3_init 1 = .ok (.invokespecial 3, 3) := by decide +kernel
theorem dX3_init_4 : decode cX3_init 4 = .ok (.aload_n 0, 1) := by decide +kernel
theorem dX3_init_5 : decode cX3_init 5 = .ok (.bipush 16, 2) := by decide +kernel
theorem dX3_init_7 : decode cX3_init 7 = .ok (.newarray .int, 2) := by decide +kernel
theorem dX3_init_9 : decode cX3_init 9 = .ok (.putfield 9, 3) := by decide +kernel
theorem dX3_init_12 : decode cX3_init 12 = .ok (.aload_n 0, 1) := by decide +kernel
theorem dX3_init_13 : decode cX3_init 13 = .ok (.bipush 16, 2) := by decide +kernel
theorem dX3_init_15 : decode cX3_init 15 = .ok (.newarray .int, 2) := by decide +kernel
theorem dX3_init_17 : decode cX3_init 17 = .ok (.putfield 15, 3) := by decide +kernel
theorem dX3_init_20 : decode cX3_init 20 = .ok (.aload_n 0, 1) := by decide +kernel
theorem dX3_init_21 : decode cX3_init 21 = .ok (.bipush 16, 2) := by decide +kernel
theorem dX3_init_23 : decode cX3_init 23 = .ok (.newarray .int, 2) := by decide +kernel
theorem dX3_init_25 : decode cX3_init 25 = .ok (.putfield 18, 3) := by decide +kernel
theorem dX3_init_28 : decode cX3_init 28 = .ok (.aload_n 0, 1) := by decide +kernel
theorem dX3_init_29 : decode cX3_init 29 = .ok (.bipush 16, 2) := by decide +kernel
theorem dX3_init_31 : decode cX3_init 31 = .ok (.newarray .long, 2) := by decide +kernel
theorem dX3_init_33 : decode cX3_init 33 = .ok (.putfield 21, 3) := by decide +kernel
theorem dX3_init_36 : decode cX3_init 36 = .ok (.aload_n 0, 1) := by decide +kernel
theorem dX3_init_37 : decode cX3_init 37 = .ok (.iconst 0, 1) := by decide +kernel
theorem dX3_init_38 : decode cX3_init 38 = .ok (.putfield 25, 3) := by decide +kernel
theorem dX3_init_41 : decode cX3_init 41 = .ok (.aload_n 0, 1) := by decide +kernel
theorem dX3_init_42 : decode cX3_init 42 = .ok (.iconst 0, 1) := by decide +kernel
theorem dX3_init_43 : decode cX3_init 43 = .ok (.putfield 29, 3) := by decide +kernel
theorem dX3_init_46 : decode cX3_init 46 = .ok (.aload_n 0, 1) := by decide +kernel
theorem dX3_init_47 : decode cX3_init 47 = .ok (.iconst 0, 1) := by decide +kernel
theorem dX3_init_48 : decode cX3_init 48 = .ok (.putfield 32, 3) := by decide +kernel
theorem dX3_init_51 : decode cX3_init 51 = .ok (.aload_n 0, 1) := by decide +kernel
theorem dX3_init_52 : decode cX3_init 52 = .ok (.iconst 0, 1) := by decide +kernel
theorem dX3_init_53 : decode cX3_init 53 = .ok (.putfield 35, 3) := by decide +kernel
theorem dX3_init_56 : decode cX3_init 56 = .ok (.aload_n 0, 1) := by decide +kernel
theorem dX3_init_57 : decode cX3_init 57 = .ok (.iconst 0, 1) := by decide +kernel
theorem dX3_init_58 : decode cX3_init 58 = .ok (.putfield 39, 3) := by decide +kernel
theorem dX3_init_61 : decode cX3_init 61 = .ok (.return_, 1) := by decide +kernel
theorem dX3_begin_0 : decode cX3_begin 0 = .ok (.aload_n 0, 1) := by decide +kernel
theorem dX3_begin_1 : decode cX3_begin 1 = .ok (.iconst 0, 1) := by decide +kernel
theorem dX3_begin_2 : decode cX3_begin 2 = .ok (.putfield 25, 3) := by decide +kernel
theorem dX3_begin_5 : decode cX3_begin 5 = .ok (.aload_n 0, 1) := by decide +kernel
theorem dX3_begin_6 : decode cX3_begin 6 = .ok (.iload_n 1, 1) := by decide +kernel
theorem dX3_begin_7 : decode cX3_begin 7 = .ok (.putfield 29, 3) := by decide +kernel
theorem dX3_begin_10 : decode cX3_begin 10 = .ok (.aload_n 0, 1) := by decide +kernel
theorem dX3_begin_11 : decode cX3_begin 11 = .ok (.iload_n 2, 1) := by decide +kernel
theorem dX3_begin_12 : decode cX3_begin 12 = .ok (.putfield 32, 3) := by decide +kernel
theorem dX3_begin_15 : decode cX3_begin 15 = .ok (.aload_n 0, 1) := by decide +kernel
theorem dX3_begin_16 : decode cX3_begin 16 = .ok (.iload_n 3, 1) := by decide +kernel
theorem dX3_begin_17 : decode cX3_begin 17 = .ok (.putfield 35, 3) := by decide +kernel
theorem dX3_begin_20 : decode cX3_begin 20 = .ok (.aload_n 0, 1) := by decide +kernel
theorem dX3_begin_21 : decode cX3_begin 21 = .ok (.iload 4, 2) := by decide +kernel
theorem dX3_begin_23 : decode cX3_begin 23 = .ok (.putfield 39, 3) := by decide +kernel
theorem dX3_begin_26 : decode cX3_begin 26 = .ok (.return_, 1) := by decide +kernel
theorem dX3_add_0 : decode cX3_add 0 = .ok (.aload_n 0, 1) := by decide +kernel
theorem dX3_add_1 : decode cX3_add 1 = .ok (.getfield 25, 3) := by decide +kernel
theorem dX3_add_4 : decode cX3_add 4 = .ok (.sipush 3000, 3) := by decide +kernel
theorem dX3_add_7 : decode cX3_add 7 = .ok (.if_icmp .lt 4, 3) := by decide +kernel
theorem dX3_add_10 : decode cX3_add 10 = .ok (.return_, 1) := by decide +kernel
theorem dX3_add_11 : decode cX3_add 11 = .ok (.aload_n 0, 1) := by decide +kernel
theorem dX3_add_12 : decode cX3_add 12 = .ok (.getfield 25, 3) := by decide +kernel
theorem dX3_add_15 : decode cX3_add 15 = .ok (.aload_n 0, 1) := by decide +kernel
theorem dX3_add_16 : decode cX3_add 16 = .ok (.getfield 9, 3) := by decide +kernel
theorem dX3_add_19 : decode cX3_add 19 = .ok (.arraylength, 1) := by decide +kernel
theorem dX3_add_20 : decode cX3_add 20 = .ok (.if_icmp .lt 71, 3) := by decide +kernel
theorem dX3_add_23 : decode cX3_add 23 = .ok (.aload_n 0, 1) := by decide +kernel
theorem dX3_add_24 : decode cX3_add 24 = .ok (.getfield 25, 3) := by decide +kernel
theorem dX3_add_27 : decode cX3_add 27 = .ok (.aload_n 0, 1) := by decide +kernel
theorem dX3_add_28 : decode cX3_add 28 = .ok (.getfield 25, 3) := by decide +kernel
theorem dX3_add_31 : decode cX3_add 31 = .ok (.iconst 2, 1) := by decide +kernel
theorem dX3_add_32 : decode cX3_add 32 = .ok (.idiv, 1) := by decide +kernel
theorem dX3_add_33 : decode cX3_add 33 = .ok (.iadd, 1) := by decide +kernel
theorem dX3_add_34 : decode cX3_add 34 = .ok (.bipush 16, 2) := by decide +kernel
theorem dX3_add_36 : decode cX3_add 36 = .ok (.iadd, 1) := by decide +kernel
theorem dX3_add_37 : decode cX3_add 37 = .ok (.istore 6, 2) := by decide +kernel
theorem dX3_add_39 : decode cX3_add 39 = .ok (.aload_n 0, 1) := by decide +kernel
theorem dX3_add_40 : decode cX3_add 40 = .ok (.aload_n 0, 1) := by decide +kernel
theorem dX3_add_41 : decode cX3_add 41 = .ok (.getfield 9, 3) := by decide +kernel
theorem dX3_add_44 : decode cX3_add 44 = .ok (.iload 6, 2) := by decide +kernel
theorem dX3_add_46 : decode cX3_add 46 = .ok (.invokestatic 42, 3) := by decide +kernel
theorem dX3_add_49 : decode cX3_add 49 = .ok (.putfield 9, 3) := by decide +kernel
theorem dX3_add_52 : decode cX3_add 52 = .ok (.aload_n 0, 1) := by decide +kernel
theorem dX3_add_53 : decode cX3_add 53 = .ok (.aload_n 0, 1) := by decide +kernel
theorem dX3_add_54 : decode cX3_add 54 = .ok (.getfield 15, 3) := by decide +kernel
theorem dX3_add_57 : decode cX3_add 57 = .ok (.iload 6, 2) := by decide +kernel
theorem dX3_add_59 : decode cX3_add 59 = .ok (.invokestatic 42, 3) := by decide +kernel
theorem dX3_add_62 : decode cX3_add 62 = .ok (.putfield 15, 3) := by decide +kernel
theorem dX3_add_65 : decode cX3_add 65 = .ok (.aload_n 0, 1) := by decide +kernel
theorem dX3_add_66 : decode cX3_add 66 = .ok (.aload_n 0, 1) := by decide +kernel
theorem dX3_add_67 : decode cX3_add 67 = .ok (.getfield 18, 3) := by decide +kernel
theorem dX3_add_70 : decode cX3_add 70 = .ok (.iload 6, 2) := by decide +kernel
theorem dX3_add_72 : decode cX3_add 72 = .ok (.invokestatic 42, 3) := by decide +kernel
theorem dX3_add_75 : decode cX3_add 75 = .ok (.putfield 18, 3) := by decide +kernel
theorem dX3_add_78 : decode cX3_add 78 = .ok (.aload_n 0, 1) := by decide +kernel
theorem dX3_add_79 : decode cX3_add 79 = .ok (.aload_n 0, 1) := by decide +kernel
theorem dX3_add_80 : decode cX3_add 80 = .ok (.getfield 21, 3) := by decide +kernel
theorem dX3_add_83 : decode cX3_add 83 = .ok (.iload 6, 2) := by decide +kernel
theorem dX3_add_85 : decode cX3_add 85 = .ok (.invokestatic 48, 3) := by decide +kernel
theorem dX3_add_88 : decode cX3_add 88 = .ok (.putfield 21, 3) := by decide +kernel
theorem dX3_add_91 : decode cX3_add 91 = .ok (.aload_n 0, 1) := by decide +kernel
theorem dX3_add_92 : decode cX3_add 92 = .ok (.getfield 9, 3) := by decide +kernel
theorem dX3_add_95 : decode cX3_add 95 = .ok (.aload_n 0, 1) := by decide +kernel
theorem dX3_add_96 : decode cX3_add 96 = .ok (.getfield 25, 3) := by decide +kernel
theorem dX3_add_99 : decode cX3_add 99 = .ok (.iload_n 2, 1) := by decide +kernel
theorem dX3_add_100 : decode cX3_add 100 = .ok (.iastore, 1) := by decide +kernel
theorem dX3_add_101 : decode cX3_add 101 = .ok (.aload_n 0, 1) := by decide +kernel
theorem dX3_add_102 : decode cX3_add 102 = .ok (.getfield 15, 3) := by decide +kernel
theorem dX3_add_105 : decode cX3_add 105 = .ok (.aload_n 0, 1) := by decide +kernel
theorem dX3_add_106 : decode cX3_add 106 = .ok (.getfield 25, 3) := by decide +kernel
theorem dX3_add_109 : decode cX3_add 109 = .ok (.iload_n 3, 1) := by decide +kernel
theorem dX3_add_110 : decode cX3_add 110 = .ok (.iastore, 1) := by decide +kernel
theorem dX3_add_111 : decode cX3_add 111 = .ok (.aload_n 0, 1) := by decide +kernel
theorem dX3_add_112 : decode cX3_add 112 = .ok (.getfield 18, 3) := by decide +kernel
theorem dX3_add_115 : decode cX3_add 115 = .ok (.aload_n 0, 1) := by decide +kernel
theorem dX3_add_116 : decode cX3_add 116 = .ok (.getfield 25, 3) := by decide +kernel
theorem dX3_add_119 : decode cX3_add 119 = .ok (.iload_n 1, 1) := by decide +kernel
theorem dX3_add_120 : decode cX3_add 120 = .ok (.iastore, 1) := by decide +kernel
theorem dX3_add_121 : decode cX3_add 121 = .ok (.aload_n 0, 1) := by decide +kernel
theorem dX3_add_122 : decode cX3_add 122 = .ok (.getfield 21, 3) := by decide +kernel
theorem dX3_add_125 : decode cX3_add 125 = .ok (.aload_n 0, 1) := by decide +kernel
theorem dX3_add_126 : decode cX3_add 126 = .ok (.getfield 25, 3) := by decide +kernel
theorem dX3_add_129 : decode cX3_add 129 = .ok (.lload 4, 2) := by decide +kernel
theorem dX3_add_131 : decode cX3_add 131 = .ok (.lastore, 1) := by decide +kernel
theorem dX3_add_132 : decode cX3_add 132 = .ok (.aload_n 0, 1) := by decide +kernel
theorem dX3_add_133 : decode cX3_add 133 = .ok (.dup, 1) := by decide +kernel
theorem dX3_add_134 : decode cX3_add 134 = .ok (.getfield 25, 3) := by decide +kernel
theorem dX3_add_137 : decode cX3_add 137 = .ok (.iconst 1, 1) := by decide +kernel
theorem dX3_add_138 : decode cX3_add 138 = .ok (.iadd, 1) := by decide +kernel
theorem dX3_add_139 : decode cX3_add 139 = .ok (.putfield 25, 3) := by decide +kernel
theorem dX3_add_142 : decode cX3_add 142 = .ok (.return_, 1) := by decide +kernel
theorem dX3_forget_0 : decode cX3_forget 0 = .ok (.iconst 0, 1) := by decide +kernel
theorem dX3_forget_1 : decode cX3_forget 1 = .ok (.istore_n 2, 1) := by decide +kernel
theorem dX3_forget_2 : decode cX3_forget 2 = .ok (.iconst 0, 1) := by decide +kernel
theorem dX3_forget_3 : decode cX3_forget 3 = .ok (.istore_n 3, 1) := by decide +kernel
theorem dX3_forget_4 : decode cX3_forget 4 = .ok (.iload_n 3, 1) := by decide +kernel
theorem dX3_forget_5 : decode cX3_forget 5 = .ok (.aload_n 0, 1) := by decide +kernel
theorem dX3_forget_6 : decode cX3_forget 6 = .ok (.getfield 25, 3) := by decide +kernel
theorem dX3_forget_9 : decode cX3_forget 9 = .ok (.if_icmp .ge 91, 3) := by decide +kernel
theorem dX3_forget_12 : decode cX3_forget 12 = .ok (.aload_n 0, 1) := by decide +kernel
theorem dX3_forget_13 : decode cX3_forget 13 = .ok (.getfield 18, 3) := by decide +kernel
theorem dX3_forget_16 : decode cX3_forget 16 = .ok (.iload_n 3, 1) := by decide +kernel
theorem dX3_forget_17 : decode cX3_forget 17 = .ok (.iaload, 1) := by decide +kernel
theorem dX3_forget_18 : decode cX3_forget 18 = .ok (.iload_n 1, 1) := by decide +kernel
theorem dX3_forget_19 : decode cX3_forget 19 = .ok (.if_icmp .eq 75, 3) := by decide +kernel
theorem dX3_forget_22 : decode cX3_forget 22 = .ok (.aload_n 0, 1) := by decide +kernel
theorem dX3_forget_23 : decode cX3_forget 23 = .ok (.getfield 9, 3) := by decide +kernel
theorem dX3_forget_26 : decode cX3_forget 26 = .ok (.iload_n 2, 1) := by decide +kernel
theorem dX3_forget_27 : decode cX3_forget 27 = .ok (.aload_n 0, 1) := by decide +kernel
theorem dX3_forget_28 : decode cX3_forget 28 = .ok (.getfield 9, 3) := by decide +kernel
theorem dX3_forget_31 : decode cX3_forget 31 = .ok (.iload_n 3, 1) := by decide +kernel
theorem dX3_forget_32 : decode cX3_forget 32 = .ok (.iaload, 1) := by decide +kernel
theorem dX3_forget_33 : decode cX3_forget 33 = .ok (.iastore, 1) := by decide +kernel
theorem dX3_forget_34 : decode cX3_forget 34 = .ok (.aload_n 0, 1) := by decide +kernel
theorem dX3_forget_35 : decode cX3_forget 35 = .ok (.getfield 15, 3) := by decide +kernel
theorem dX3_forget_38 : decode cX3_forget 38 = .ok (.iload_n 2, 1) := by decide +kernel
theorem dX3_forget_39 : decode cX3_forget 39 = .ok (.aload_n 0, 1) := by decide +kernel
theorem dX3_forget_40 : decode cX3_forget 40 = .ok (.getfield 15, 3) := by decide +kernel
theorem dX3_forget_43 : decode cX3_forget 43 = .ok (.iload_n 3, 1) := by decide +kernel
theorem dX3_forget_44 : decode cX3_forget 44 = .ok (.iaload, 1) := by decide +kernel
theorem dX3_forget_45 : decode cX3_forget 45 = .ok (.iastore, 1) := by decide +kernel
theorem dX3_forget_46 : decode cX3_forget 46 = .ok (.aload_n 0, 1) := by decide +kernel
theorem dX3_forget_47 : decode cX3_forget 47 = .ok (.getfield 18, 3) := by decide +kernel
theorem dX3_forget_50 : decode cX3_forget 50 = .ok (.iload_n 2, 1) := by decide +kernel
theorem dX3_forget_51 : decode cX3_forget 51 = .ok (.aload_n 0, 1) := by decide +kernel
theorem dX3_forget_52 : decode cX3_forget 52 = .ok (.getfield 18, 3) := by decide +kernel
theorem dX3_forget_55 : decode cX3_forget 55 = .ok (.iload_n 3, 1) := by decide +kernel
theorem dX3_forget_56 : decode cX3_forget 56 = .ok (.iaload, 1) := by decide +kernel
theorem dX3_forget_57 : decode cX3_forget 57 = .ok (.iload_n 1, 1) := by decide +kernel
theorem dX3_forget_58 : decode cX3_forget 58 = .ok (.if_icmp .le 14, 3) := by decide +kernel
theorem dX3_forget_61 : decode cX3_forget 61 = .ok (.aload_n 0, 1) := by decide +kernel
theorem dX3_forget_62 : decode cX3_forget 62 = .ok (.getfield 18, 3) := by decide +kernel
theorem dX3_forget_65 : decode cX3_forget 65 = .ok (.iload_n 3, 1) := by decide +kernel
theorem dX3_forget_66 : decode cX3_forget 66 = .ok (.iaload, 1) := by decide +kernel
theorem dX3_forget_67 : decode cX3_forget 67 = .ok (.iconst 1, 1) := by decide +kernel
theorem dX3_forget_68 : decode cX3_forget 68 = .ok (.isub, 1) := by decide +kernel
theorem dX3_forget_69 : decode cX3_forget 69 = .ok (.goto 9, 3) := by decide +kernel
theorem dX3_forget_72 : decode cX3_forget 72 = .ok (.aload_n 0, 1) := by decide +kernel
theorem dX3_forget_73 : decode cX3_forget 73 = .ok (.getfield 18, 3) := by decide +kernel
theorem dX3_forget_76 : decode cX3_forget 76 = .ok (.iload_n 3, 1) := by decide +kernel
theorem dX3_forget_77 : decode cX3_forget 77 = .ok (.iaload, 1) := by decide +kernel
theorem dX3_forget_78 : decode cX3_forget 78 = .ok (.iastore, 1) := by decide +kernel
theorem dX3_forget_79 : decode cX3_forget 79 = .ok (.aload_n 0, 1) := by decide +kernel
theorem dX3_forget_80 : decode cX3_forget 80 = .ok (.getfield 21, 3) := by decide +kernel
theorem dX3_forget_83 : decode cX3_forget 83 = .ok (.iload_n 2, 1) := by decide +kernel
theorem dX3_forget_84 : decode cX3_forget 84 = .ok (.aload_n 0, 1) := by decide +kernel
theorem dX3_forget_85 : decode cX3_forget 85 = .ok (.getfield 21, 3) := by decide +kernel
theorem dX3_forget_88 : decode cX3_forget 88 = .ok (.iload_n 3, 1) := by decide +kernel
theorem dX3_forget_89 : decode cX3_forget 89 = .ok (.laload, 1) := by decide +kernel
theorem dX3_forget_90 : decode cX3_forget 90 = .ok (.lastore, 1) := by decide +kernel
theorem dX3_forget_91 : decode cX3_forget 91 = .ok (.iinc 2 1, 3) := by decide +kernel
theorem dX3_forget_94 : decode cX3_forget 94 = .ok (.iinc 3 1, 3) := by decide +kernel
theorem dX3_forget_97 : decode cX3_forget 97 = .ok (.goto (-93), 3) := by decide +kernel
theorem dX3_forget_100 : decode cX3_forget 100 = .ok (.aload_n 0, 1) := by decide +kernel
theorem dX3_forget_101 : decode cX3_forget 101 = .ok (.iload_n 2, 1) := by decide +kernel
theorem dX3_forget_102 : decode cX3_forget 102 = .ok (.putfield 25, 3) := by decide +kernel
theorem dX3_forget_105 : decode cX3_forget 105 = .ok (.return_, 1) := by decide +kernel
theorem dX3_isRow_0 : decode cX3_isRow 0 = .ok (.iload_n 1, 1) := by decide +kernel
theorem dX3_isRow_1 : decode cX3_isRow 1 = .ok (.ifCond .lt 15, 3) := by decide +kernel
theorem dX3_isRow_4 : decode cX3_isRow 4 = .ok (.iload_n 1, 1) := by decide +kernel
theorem dX3_isRow_5 : decode cX3_isRow 5 = .ok (.aload_n 0, 1) := by decide +kernel
theorem dX3_isRow_6 : decode cX3_isRow 6 = .ok (.getfield 25, 3) := by decide +kernel
theorem dX3_isRow_9 : decode cX3_isRow 9 = .ok (.if_icmp .ge 7, 3) := by decide +kernel
theorem dX3_isRow_12 : decode cX3_isRow 12 = .ok (.iconst 1, 1) := by decide +kernel
theorem dX3_isRow_13 : decode cX3_isRow 13 = .ok (.goto 4, 3) := by decide +kernel
theorem dX3_isRow_16 : decode cX3_isRow 16 = .ok (.iconst 0, 1) := by decide +kernel
theorem dX3_isRow_17 : decode cX3_isRow 17 = .ok (.ireturn, 1) := by decide +kernel
theorem dX3_hasValue_0 : decode cX3_hasValue 0 = .ok (.aload_n 0, 1) := by decide +kernel
theorem dX3_hasValue_1 : decode cX3_hasValue 1 = .ok (.iload_n 1, 1) := by decide +kernel
theorem dX3_hasValue_2 : decode cX3_hasValue 2 = .ok (.invokevirtual 51, 3) := by decide +kernel
theorem dX3_hasValue_5 : decode cX3_hasValue 5 = .ok (.ifCond .eq 20, 3) := by decide +kernel
theorem dX3_hasValue_8 : decode cX3_hasValue 8 = .ok (.aload_n 0, 1) := by decide +kernel
theorem dX3_hasValue_9 : decode cX3_hasValue 9 = .ok (.getfield 15, 3) := by decide +kernel
theorem dX3_hasValue_12 : decode cX3_hasValue 12 = .ok (.iload_n 1, 1) := by decide +kernel
theorem dX3_hasValue_13 : decode cX3_hasValue 13 = .ok (.iaload, 1) := by decide +kernel
theorem dX3_hasValue_14 : decode cX3_hasValue 14 = .ok (.aload_n 0, 1) := by decide +kernel
theorem dX3_hasValue_15 : decode cX3_hasValue 15 = .ok (.getfield 29, 3) := by decide +kernel
theorem dX3_hasValue_18 : decode cX3_hasValue 18 = .ok (.if_icmp .ne 7, 3) := by decide +kernel
theorem dX3_hasValue_21 : decode cX3_hasValue 21 = .ok (.iconst 1, 1) := by decide +kernel
theorem dX3_hasValue_22 : decode cX3_hasValue 22 = .ok (.goto 4, 3) := by decide +kernel
theorem dX3_hasValue_25 : decode cX3_hasValue 25 = .ok (.iconst 0, 1) := by decide +kernel
theorem dX3_hasValue_26 : decode cX3_hasValue 26 = .ok (.ireturn, 1) := by decide +kernel
theorem dX3_hasLevel_0 : decode cX3_hasLevel 0 = .ok (.aload_n 0, 1) := by decide +kernel
theorem dX3_hasLevel_1 : decode cX3_hasLevel 1 = .ok (.iload_n 1, 1) := by decide +kernel
theorem dX3_hasLevel_2 : decode cX3_hasLevel 2 = .ok (.invokevirtual 51, 3) := by decide +kernel
theorem dX3_hasLevel_5 : decode cX3_hasLevel 5 = .ok (.ifCond .eq 17, 3) := by decide +kernel
theorem dX3_hasLevel_8 : decode cX3_hasLevel 8 = .ok (.aload_n 0, 1) := by decide +kernel
theorem dX3_hasLevel_9 : decode cX3_hasLevel 9 = .ok (.getfield 9, 3) := by decide +kernel
theorem dX3_hasLevel_12 : decode cX3_hasLevel 12 = .ok (.iload_n 1, 1) := by decide +kernel
theorem dX3_hasLevel_13 : decode cX3_hasLevel 13 = .ok (.iaload, 1) := by decide +kernel
theorem dX3_hasLevel_14 : decode cX3_hasLevel 14 = .ok (.iload_n 2, 1) := by decide +kernel
theorem dX3_hasLevel_15 : decode cX3_hasLevel 15 = .ok (.if_icmp .ne 7, 3) := by decide +kernel
theorem dX3_hasLevel_18 : decode cX3_hasLevel 18 = .ok (.iconst 1, 1) := by decide +kernel
theorem dX3_hasLevel_19 : decode cX3_hasLevel 19 = .ok (.goto 4, 3) := by decide +kernel
theorem dX3_hasLevel_22 : decode cX3_hasLevel 22 = .ok (.iconst 0, 1) := by decide +kernel
theorem dX3_hasLevel_23 : decode cX3_hasLevel 23 = .ok (.ireturn, 1) := by decide +kernel
theorem dX3_hasValueWithin_0 : decode cX3_hasValueWithin 0 = .ok (.aload_n 0, 1) := by decide +kernel
theorem dX3_hasValueWithin_1 : decode cX3_hasValueWithin 1 = .ok (.iload_n 1, 1) := by decide +kernel
theorem dX3_hasValueWithin_2 : decode cX3_hasValueWithin 2 = .ok (.invokevirtual 55, 3) := by decide +kernel
theorem dX3_hasValueWithin_5 : decode cX3_hasValueWithin 5 = .ok (.ifCond .eq 30, 3) := by decide +kernel
theorem dX3_hasValueWithin_8 : decode cX3_hasValueWithin 8 = .ok (.aload_n 0, 1) := by decide +kernel
theorem dX3_hasValueWithin_9 : decode cX3_hasValueWithin 9 = .ok (.getfield 21, 3) := by decide +kernel
theorem dX3_hasValueWithin_12 : decode cX3_hasValueWithin 12 = .ok (.iload_n 1, 1) := by decide +kernel
theorem dX3_hasValueWithin_13 : decode cX3_hasValueWithin 13 = .ok (.laload, 1) := by decide +kernel
theorem dX3_hasValueWithin_14 : decode cX3_hasValueWithin 14 = .ok (.lload_n 2, 1) := by decide +kernel
theorem dX3_hasValueWithin_15 : decode cX3_hasValueWithin 15 = .ok (.lcmp, 1) := by decide +kernel
theorem dX3_hasValueWithin_16 : decode cX3_hasValueWithin 16 = .ok (.ifCond .lt 19, 3) := by decide +kernel
theorem dX3_hasValueWithin_19 : decode cX3_hasValueWithin 19 = .ok (.aload_n 0, 1) := by decide +kernel
theorem dX3_hasValueWithin_20 : decode cX3_hasValueWithin 20 = .ok (.getfield 21, 3) := by decide +kernel
theorem dX3_hasValueWithin_23 : decode cX3_hasValueWithin 23 = .ok (.iload_n 1, 1) := by decide +kernel
theorem dX3_hasValueWithin_24 : decode cX3_hasValueWithin 24 = .ok (.laload, 1) := by decide +kernel
theorem dX3_hasValueWithin_25 : decode cX3_hasValueWithin 25 = .ok (.lload 4, 2) := by decide +kernel
theorem dX3_hasValueWithin_27 : decode cX3_hasValueWithin 27 = .ok (.lcmp, 1) := by decide +kernel
theorem dX3_hasValueWithin_28 : decode cX3_hasValueWithin 28 = .ok (.ifCond .gt 7, 3) := by decide +kernel
theorem dX3_hasValueWithin_31 : decode cX3_hasValueWithin 31 = .ok (.iconst 1, 1) := by decide +kernel
theorem dX3_hasValueWithin_32 : decode cX3_hasValueWithin 32 = .ok (.goto 4, 3) := by decide +kernel
theorem dX3_hasValueWithin_35 : decode cX3_hasValueWithin 35 = .ok (.iconst 0, 1) := by decide +kernel
theorem dX3_hasValueWithin_36 : decode cX3_hasValueWithin 36 = .ok (.ireturn, 1) := by decide +kernel
theorem dX3_firstRowOf_0 : decode cX3_firstRowOf 0 = .ok (.iconst 0, 1) := by decide +kernel
theorem dX3_firstRowOf_1 : decode cX3_firstRowOf 1 = .ok (.istore_n 2, 1) := by decide +kernel
theorem dX3_firstRowOf_2 : decode cX3_firstRowOf 2 = .ok (.iload_n 2, 1) := by decide +kernel
theorem dX3_firstRowOf_3 : decode cX3_firstRowOf 3 = .ok (.aload_n 0, 1) := by decide +kernel
theorem dX3_firstRowOf_4 : decode cX3_firstRowOf 4 = .ok (.getfield 25, 3) := by decide +kernel
theorem dX3_firstRowOf_7 : decode cX3_firstRowOf 7 = .ok (.if_icmp .ge 21, 3) := by decide +kernel
theorem dX3_firstRowOf_10 : decode cX3_firstRowOf 10 = .ok (.aload_n 0, 1) := by decide +kernel
theorem dX3_firstRowOf_11 : decode cX3_firstRowOf 11 = .ok (.getfield 18, 3) := by decide +kernel
theorem dX3_firstRowOf_14 : decode cX3_firstRowOf 14 = .ok (.iload_n 2, 1) := by decide +kernel
theorem dX3_firstRowOf_15 : decode cX3_firstRowOf 15 = .ok (.iaload, 1) := by decide +kernel
theorem dX3_firstRowOf_16 : decode cX3_firstRowOf 16 = .ok (.iload_n 1, 1) := by decide +kernel
theorem dX3_firstRowOf_17 : decode cX3_firstRowOf 17 = .ok (.if_icmp .ne 5, 3) := by decide +kernel
theorem dX3_firstRowOf_20 : decode cX3_firstRowOf 20 = .ok (.iload_n 2, 1) := by decide +kernel
theorem dX3_firstRowOf_21 : decode cX3_firstRowOf 21 = .ok (.ireturn, 1) := by decide +kernel
theorem dX3_firstRowOf_22 : decode cX3_firstRowOf 22 = .ok (.iinc 2 1, 3) := by decide +kernel
theorem dX3_firstRowOf_25 : decode cX3_firstRowOf 25 = .ok (.goto (-23), 3) := by decide +kernel
theorem dX3_firstRowOf_28 : decode cX3_firstRowOf 28 = .ok (.iconst (-1), 1) := by decide +kernel
theorem dX3_firstRowOf_29 : decode cX3_firstRowOf 29 = .ok (.ireturn, 1) := by decide +kernel
theorem dX3_countValues_0 : decode cX3_countValues 0 = .ok (.iconst 0, 1) := by decide +kernel
theorem dX3_countValues_1 : decode cX3_countValues 1 = .ok (.istore_n 1, 1) := by decide +kernel
theorem dX3_countValues_2 : decode cX3_countValues 2 = .ok (.iconst 0, 1) := by decide +kernel
theorem dX3_countValues_3 : decode cX3_countValues 3 = .ok (.istore_n 2, 1) := by decide +kernel
theorem dX3_countValues_4 : decode cX3_countValues 4 = .ok (.iload_n 2, 1) := by decide +kernel
theorem dX3_countValues_5 : decode cX3_countValues 5 = .ok (.aload_n 0, 1) := by decide +kernel
theorem dX3_countValues_6 : decode cX3_countValues 6 = .ok (.getfield 25, 3) := by decide +kernel
theorem dX3_countValues_9 : decode cX3_countValues 9 = .ok (.if_icmp .ge 20, 3) := by decide +kernel
theorem dX3_countValues_12 : decode cX3_countValues 12 = .ok (.aload_n 0, 1) := by decide +kernel
theorem dX3_countValues_13 : decode cX3_countValues 13 = .ok (.iload_n 2, 1) := by decide +kernel
theorem dX3_countValues_14 : decode cX3_countValues 14 = .ok (.invokevirtual 55, 3) := by decide +kernel
theorem dX3_countValues_17 : decode cX3_countValues 17 = .ok (.ifCond .eq 6, 3) := by decide +kernel
theorem dX3_countValues_20 : decode cX3_countValues 20 = .ok (.iinc 1 1, 3) := by decide +kernel
theorem dX3_countValues_23 : decode cX3_countValues 23 = .ok (.iinc 2 1, 3) := by decide +kernel
theorem dX3_countValues_26 : decode cX3_countValues 26 = .ok (.goto (-22), 3) := by decide +kernel
theorem dX3_countValues_29 : decode cX3_countValues 29 = .ok (.iload_n 1, 1) := by decide +kernel
theorem dX3_countValues_30 : decode cX3_countValues 30 = .ok (.ireturn, 1) := by decide +kernel
theorem dX3_countUnlike_0 : decode cX3_countUnlike 0 = .ok (.iconst 0, 1) := by decide +kernel
theorem dX3_countUnlike_1 : decode cX3_countUnlike 1 = .ok (.istore_n 1, 1) := by decide +kernel
theorem dX3_countUnlike_2 : decode cX3_countUnlike 2 = .ok (.iconst 0, 1) := by decide +kernel
theorem dX3_countUnlike_3 : decode cX3_countUnlike 3 = .ok (.istore_n 2, 1) := by decide +kernel
theorem dX3_countUnlike_4 : decode cX3_countUnlike 4 = .ok (.iload_n 2, 1) := by decide +kernel
theorem dX3_countUnlike_5 : decode cX3_countUnlike 5 = .ok (.aload_n 0, 1) := by decide +kernel
theorem dX3_countUnlike_6 : decode cX3_countUnlike 6 = .ok (.getfield 25, 3) := by decide +kernel
theorem dX3_countUnlike_9 : decode cX3_countUnlike 9 = .ok (.if_icmp .ge 28, 3) := by decide +kernel
theorem dX3_countUnlike_12 : decode cX3_countUnlike 12 = .ok (.aload_n 0, 1) := by decide +kernel
theorem dX3_countUnlike_13 : decode cX3_countUnlike 13 = .ok (.iload_n 2, 1) := by decide +kernel
theorem dX3_countUnlike_14 : decode cX3_countUnlike 14 = .ok (.invokevirtual 55, 3) := by decide +kernel
theorem dX3_countUnlike_17 : decode cX3_countUnlike 17 = .ok (.ifCond .eq 14, 3) := by decide +kernel
theorem dX3_countUnlike_20 : decode cX3_countUnlike 20 = .ok (.aload_n 0, 1) := by decide +kernel
theorem dX3_countUnlike_21 : decode cX3_countUnlike 21 = .ok (.iload_n 2, 1) := by decide +kernel
theorem dX3_countUnlike_22 : decode cX3_countUnlike 22 = .ok (.invokevirtual 58, 3) := by decide +kernel
theorem dX3_countUnlike_25 : decode cX3_countUnlike 25 = .ok (.ifCond .ne 6, 3) := by decide +kernel
theorem dX3_countUnlike_28 : decode cX3_countUnlike 28 = .ok (.iinc 1 1, 3) := by decide +kernel
theorem dX3_countUnlike_31 : decode cX3_countUnlike 31 = .ok (.iinc 2 1, 3) := by decide +kernel
theorem dX3_countUnlike_34 : decode cX3_countUnlike 34 = .ok (.goto (-30), 3) := by decide +kernel
theorem dX3_countUnlike_37 : decode cX3_countUnlike 37 = .ok (.iload_n 1, 1) := by decide +kernel
theorem dX3_countUnlike_38 : decode cX3_countUnlike 38 = .ok (.ireturn, 1) := by decide +kernel
theorem dX3_hasValueAhead_0 : decode cX3_hasValueAhead 0 = .ok (.iconst 0, 1) := by decide +kernel
theorem dX3_hasValueAhead_1 : decode cX3_hasValueAhead 1 = .ok (.istore_n 2, 1) := by decide +kernel
theorem dX3_hasValueAhead_2 : decode cX3_hasValueAhead 2 = .ok (.iload_n 2, 1) := by decide +kernel
theorem dX3_hasValueAhead_3 : decode cX3_hasValueAhead 3 = .ok (.iload_n 1, 1) := by decide +kernel
theorem dX3_hasValueAhead_4 : decode cX3_hasValueAhead 4 = .ok (.if_icmp .ge 35, 3) := by decide +kernel
theorem dX3_hasValueAhead_7 : decode cX3_hasValueAhead 7 = .ok (.aload_n 0, 1) := by decide +kernel
theorem dX3_hasValueAhead_8 : decode cX3_hasValueAhead 8 = .ok (.getfield 21, 3) := by decide +kernel
theorem dX3_hasValueAhead_11 : decode cX3_hasValueAhead 11 = .ok (.iload_n 2, 1) := by decide +kernel
theorem dX3_hasValueAhead_12 : decode cX3_hasValueAhead 12 = .ok (.laload, 1) := by decide +kernel
theorem dX3_hasValueAhead_13 : decode cX3_hasValueAhead 13 = .ok (.aload_n 0, 1) := by decide +kernel
theorem dX3_hasValueAhead_14 : decode cX3_hasValueAhead 14 = .ok (.getfield 21, 3) := by decide +kernel
theorem dX3_hasValueAhead_17 : decode cX3_hasValueAhead 17 = .ok (.iload_n 1, 1) := by decide +kernel
theorem dX3_hasValueAhead_18 : decode cX3_hasValueAhead 18 = .ok (.laload, 1) := by decide +kernel
theorem dX3_hasValueAhead_19 : decode cX3_hasValueAhead 19 = .ok (.lcmp, 1) := by decide +kernel
theorem dX3_hasValueAhead_20 : decode cX3_hasValueAhead 20 = .ok (.ifCond .ne 13, 3) := by decide +kernel
theorem dX3_hasValueAhead_23 : decode cX3_hasValueAhead 23 = .ok (.aload_n 0, 1) := by decide +kernel
theorem dX3_hasValueAhead_24 : decode cX3_hasValueAhead 24 = .ok (.iload_n 2, 1) := by decide +kernel
theorem dX3_hasValueAhead_25 : decode cX3_hasValueAhead 25 = .ok (.invokevirtual 55, 3) := by decide +kernel
theorem dX3_hasValueAhead_28 : decode cX3_hasValueAhead 28 = .ok (.ifCond .eq 5, 3) := by decide +kernel
theorem dX3_hasValueAhead_31 : decode cX3_hasValueAhead 31 = .ok (.iconst 1, 1) := by decide +kernel
theorem dX3_hasValueAhead_32 : decode cX3_hasValueAhead 32 = .ok (.ireturn, 1) := by decide +kernel
theorem dX3_hasValueAhead_33 : decode cX3_hasValueAhead 33 = .ok (.iinc 2 1, 3) := by decide +kernel
theorem dX3_hasValueAhead_36 : decode cX3_hasValueAhead 36 = .ok (.goto (-34), 3) := by decide +kernel
theorem dX3_hasValueAhead_39 : decode cX3_hasValueAhead 39 = .ok (.iconst 0, 1) := by decide +kernel
theorem dX3_hasValueAhead_40 : decode cX3_hasValueAhead 40 = .ok (.ireturn, 1) := by decide +kernel
theorem dX3_measureSize_0 : decode cX3_measureSize 0 = .ok (.aload_n 0, 1) := by decide +kernel
theorem dX3_measureSize_1 : decode cX3_measureSize 1 = .ok (.invokevirtual 61, 3) := by decide +kernel
theorem dX3_measureSize_4 : decode cX3_measureSize 4 = .ok (.istore_n 1, 1) := by decide +kernel
theorem dX3_measureSize_5 : decode cX3_measureSize 5 = .ok (.iconst 0, 1) := by decide +kernel
theorem dX3_measureSize_6 : decode cX3_measureSize 6 = .ok (.istore_n 2, 1) := by decide +kernel
theorem dX3_measureSize_7 : decode cX3_measureSize 7 = .ok (.iload_n 2, 1) := by decide +kernel
theorem dX3_measureSize_8 : decode cX3_measureSize 8 = .ok (.bipush 30, 2) := by decide +kernel
theorem dX3_measureSize_10 : decode cX3_measureSize 10 = .ok (.if_icmp .ge 16, 3) := by decide +kernel
theorem dX3_measureSize_13 : decode cX3_measureSize 13 = .ok (.iconst 1, 1) := by decide +kernel
theorem dX3_measureSize_14 : decode cX3_measureSize 14 = .ok (.iload_n 2, 1) := by decide +kernel
theorem dX3_measureSize_15 : decode cX3_measureSize 15 = .ok (.ishl, 1) := by decide +kernel
theorem dX3_measureSize_16 : decode cX3_measureSize 16 = .ok (.iload_n 1, 1) := by decide +kernel
theorem dX3_measureSize_17 : decode cX3_measureSize 17 = .ok (.if_icmp .ge 9, 3) := by decide +kernel
theorem dX3_measureSize_20 : decode cX3_measureSize 20 = .ok (.iinc 2 1, 3) := by decide +kernel
theorem dX3_measureSize_23 : decode cX3_measureSize 23 = .ok (.goto (-16), 3) := by decide +kernel
theorem dX3_measureSize_26 : decode cX3_measureSize 26 = .ok (.aload_n 0, 1) := by decide +kernel
theorem dX3_measureSize_27 : decode cX3_measureSize 27 = .ok (.getfield 32, 3) := by decide +kernel
theorem dX3_measureSize_30 : decode cX3_measureSize 30 = .ok (.ifCond .ne 7, 3) := by decide +kernel
theorem dX3_measureSize_33 : decode cX3_measureSize 33 = .ok (.iconst 0, 1) := by decide +kernel
theorem dX3_measureSize_34 : decode cX3_measureSize 34 = .ok (.goto 13, 3) := by decide +kernel
theorem dX3_measureSize_37 : decode cX3_measureSize 37 = .ok (.iconst 2, 1) := by decide +kernel
theorem dX3_measureSize_38 : decode cX3_measureSize 38 = .ok (.aload_n 0, 1) := by decide +kernel
theorem dX3_measureSize_39 : decode cX3_measureSize 39 = .ok (.aload_n 0, 1) := by decide +kernel
theorem dX3_measureSize_40 : decode cX3_measureSize 40 = .ok (.getfield 9, 3) := by decide +kernel
theorem dX3_measureSize_43 : decode cX3_measureSize 43 = .ok (.invokevirtual 65, 3) := by decide +kernel
theorem dX3_measureSize_46 : decode cX3_measureSize 46 = .ok (.imul, 1) := by decide +kernel
theorem dX3_measureSize_47 : decode cX3_measureSize 47 = .ok (.istore_n 3, 1) := by decide +kernel
theorem dX3_measureSize_48 : decode cX3_measureSize 48 = .ok (.aload_n 0, 1) := by decide +kernel
theorem dX3_measureSize_49 : decode cX3_measureSize 49 = .ok (.getfield 29, 3) := by decide +kernel
theorem dX3_measureSize_52 : decode cX3_measureSize 52 = .ok (.ifCond .ne 7, 3) := by decide +kernel
theorem dX3_measureSize_55 : decode cX3_measureSize 55 = .ok (.iconst 0, 1) := by decide +kernel
theorem dX3_measureSize_56 : decode cX3_measureSize 56 = .ok (.goto 13, 3) := by decide +kernel
theorem dX3_measureSize_59 : decode cX3_measureSize 59 = .ok (.iconst 2, 1) := by decide +kernel
theorem dX3_measureSize_60 : decode cX3_measureSize 60 = .ok (.aload_n 0, 1) := by decide +kernel
theorem dX3_measureSize_61 : decode cX3_measureSize 61 = .ok (.aload_n 0, 1) := by decide +kernel
theorem dX3_measureSize_62 : decode cX3_measureSize 62 = .ok (.getfield 15, 3) := by decide +kernel
theorem dX3_measureSize_65 : decode cX3_measureSize 65 = .ok (.invokevirtual 65, 3) := by decide +kernel
theorem dX3_measureSize_68 : decode cX3_measureSize 68 = .ok (.imul, 1) := by decide +kernel
theorem dX3_measureSize_69 : decode cX3_measureSize 69 = .ok (.istore 4, 2) := by decide +kernel
theorem dX3_measureSize_71 : decode cX3_measureSize 71 = .ok (.iload_n 3, 1) := by decide +kernel
theorem dX3_measureSize_72 : decode cX3_measureSize 72 = .ok (.iload 4, 2) := by decide +kernel
theorem dX3_measureSize_74 : decode cX3_measureSize 74 = .ok (.iadd, 1) := by decide +kernel
theorem dX3_measureSize_75 : decode cX3_measureSize 75 = .ok (.bipush 8, 2) := by decide +kernel
theorem dX3_measureSize_77 : decode cX3_measureSize 77 = .ok (.iload_n 1, 1) := by decide +kernel
theorem dX3_measureSize_78 : decode cX3_measureSize 78 = .ok (.imul, 1) := by decide +kernel
theorem dX3_measureSize_79 : decode cX3_measureSize 79 = .ok (.iadd, 1) := by decide +kernel
theorem dX3_measureSize_80 : decode cX3_measureSize 80 = .ok (.iload_n 2, 1) := by decide +kernel
theorem dX3_measureSize_81 : decode cX3_measureSize 81 = .ok (.aload_n 0, 1) := by decide +kernel
theorem dX3_measureSize_82 : decode cX3_measureSize 82 = .ok (.invokevirtual 69, 3) := by decide +kernel
theorem dX3_measureSize_85 : decode cX3_measureSize 85 = .ok (.imul, 1) := by decide +kernel
theorem dX3_measureSize_86 : decode cX3_measureSize 86 = .ok (.bipush 7, 2) := by decide +kernel
theorem dX3_measureSize_88 : decode cX3_measureSize 88 = .ok (.iadd, 1) := by decide +kernel
theorem dX3_measureSize_89 : decode cX3_measureSize 89 = .ok (.bipush 8, 2) := by decide +kernel
theorem dX3_measureSize_91 : decode cX3_measureSize 91 = .ok (.idiv, 1) := by decide +kernel
theorem dX3_measureSize_92 : decode cX3_measureSize 92 = .ok (.iadd, 1) := by decide +kernel
theorem dX3_measureSize_93 : decode cX3_measureSize 93 = .ok (.ireturn, 1) := by decide +kernel
theorem dX3_countRuns_0 : decode cX3_countRuns 0 = .ok (.iconst 0, 1) := by decide +kernel
theorem dX3_countRuns_1 : decode cX3_countRuns 1 = .ok (.istore_n 2, 1) := by decide +kernel
theorem dX3_countRuns_2 : decode cX3_countRuns 2 = .ok (.iconst 0, 1) := by decide +kernel
theorem dX3_countRuns_3 : decode cX3_countRuns 3 = .ok (.istore_n 3, 1) := by decide +kernel
theorem dX3_countRuns_4 : decode cX3_countRuns 4 = .ok (.iload_n 3, 1) := by decide +kernel
theorem dX3_countRuns_5 : decode cX3_countRuns 5 = .ok (.aload_n 0, 1) := by decide +kernel
theorem dX3_countRuns_6 : decode cX3_countRuns 6 = .ok (.getfield 25, 3) := by decide +kernel
theorem dX3_countRuns_9 : decode cX3_countRuns 9 = .ok (.if_icmp .ge 33, 3) := by decide +kernel
theorem dX3_countRuns_12 : decode cX3_countRuns 12 = .ok (.iload_n 3, 1) := by decide +kernel
theorem dX3_countRuns_13 : decode cX3_countRuns 13 = .ok (.aload_n 1, 1) := by decide +kernel
theorem dX3_countRuns_14 : decode cX3_countRuns 14 = .ok (.arraylength, 1) := by decide +kernel
theorem dX3_countRuns_15 : decode cX3_countRuns 15 = .ok (.if_icmp .ge 27, 3) := by decide +kernel
theorem dX3_countRuns_18 : decode cX3_countRuns 18 = .ok (.iload_n 3, 1) := by decide +kernel
theorem dX3_countRuns_19 : decode cX3_countRuns 19 = .ok (.ifCond .eq 14, 3) := by decide +kernel
theorem dX3_countRuns_22 : decode cX3_countRuns 22 = .ok (.aload_n 1, 1) := by decide +kernel
theorem dX3_countRuns_23 : decode cX3_countRuns 23 = .ok (.iload_n 3, 1) := by decide +kernel
theorem dX3_countRuns_24 : decode cX3_countRuns 24 = .ok (.iaload, 1) := by decide +kernel
theorem dX3_countRuns_25 : decode cX3_countRuns 25 = .ok (.aload_n 1, 1) := by decide +kernel
theorem dX3_countRuns_26 : decode cX3_countRuns 26 = .ok (.iload_n 3, 1) := by decide +kernel
theorem dX3_countRuns_27 : decode cX3_countRuns 27 = .ok (.iconst 1, 1) := by decide +kernel
theorem dX3_countRuns_28 : decode cX3_countRuns 28 = .ok (.isub, 1) := by decide +kernel
theorem dX3_countRuns_29 : decode cX3_countRuns 29 = .ok (.iaload, 1) := by decide +kernel
theorem dX3_countRuns_30 : decode cX3_countRuns 30 = .ok (.if_icmp .eq 6, 3) := by decide +kernel
theorem dX3_countRuns_33 : decode cX3_countRuns 33 = .ok (.iinc 2 1, 3) := by decide +kernel
theorem dX3_countRuns_36 : decode cX3_countRuns 36 = .ok (.iinc 3 1, 3) := by decide +kernel
theorem dX3_countRuns_39 : decode cX3_countRuns 39 = .ok (.goto (-35), 3) := by decide +kernel
theorem dX3_countRuns_42 : decode cX3_countRuns 42 = .ok (.iload_n 2, 1) := by decide +kernel
theorem dX3_countRuns_43 : decode cX3_countRuns 43 = .ok (.ireturn, 1) := by decide +kernel
theorem dX3_stretchEnd_0 : decode cX3_stretchEnd 0 = .ok (.iload_n 1, 1) := by decide +kernel
theorem dX3_stretchEnd_1 : decode cX3_stretchEnd 1 = .ok (.iconst 1, 1) := by decide +kernel
theorem dX3_stretchEnd_2 : decode cX3_stretchEnd 2 = .ok (.iadd, 1) := by decide +kernel
theorem dX3_stretchEnd_3 : decode cX3_stretchEnd 3 = .ok (.istore_n 3, 1) := by decide +kernel
theorem dX3_stretchEnd_4 : decode cX3_stretchEnd 4 = .ok (.iload_n 3, 1) := by decide +kernel
theorem dX3_stretchEnd_5 : decode cX3_stretchEnd 5 = .ok (.aload_n 0, 1) := by decide +kernel
theorem dX3_stretchEnd_6 : decode cX3_stretchEnd 6 = .ok (.getfield 25, 3) := by decide +kernel
theorem dX3_stretchEnd_9 : decode cX3_stretchEnd 9 = .ok (.if_icmp .ge 21, 3) := by decide +kernel
theorem dX3_stretchEnd_12 : decode cX3_stretchEnd 12 = .ok (.aload_n 0, 1) := by decide +kernel
theorem dX3_stretchEnd_13 : decode cX3_stretchEnd 13 = .ok (.getfield 9, 3) := by decide +kernel
theorem dX3_stretchEnd_16 : decode cX3_stretchEnd 16 = .ok (.iload_n 3, 1) := by decide +kernel
theorem dX3_stretchEnd_17 : decode cX3_stretchEnd 17 = .ok (.iaload, 1) := by decide +kernel
