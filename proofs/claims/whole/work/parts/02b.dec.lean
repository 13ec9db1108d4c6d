theorem dX3_stretchEnd_18 : decode cX3_stretchEnd 18 = .ok (.iload_n 2, 1) := by decide +kernel
theorem dX3_stretchEnd_19 : decode cX3_stretchEnd 19 = .ok (.if_icmp .gt 5, 3) := by decide +kernel
theorem dX3_stretchEnd_22 : decode cX3_stretchEnd 22 = .ok (.iload_n 3, 1) := by decide +kernel
theorem dX3_stretchEnd_23 : decode cX3_stretchEnd 23 = .ok (.ireturn, 1) := by decide +kernel
theorem dX3_stretchEnd_24 : decode cX3_stretchEnd 24 = .ok (.iinc 3 1, 3) := by decide +kernel
theorem dX3_stretchEnd_27 : decode cX3_stretchEnd 27 = .ok (.goto (-23), 3) := by decide +kernel
theorem dX3_stretchEnd_30 : decode cX3_stretchEnd 30 = .ok (.aload_n 0, 1) := by decide +kernel
theorem dX3_stretchEnd_31 : decode cX3_stretchEnd 31 = .ok (.getfield 25, 3) := by decide +kernel
theorem dX3_stretchEnd_34 : decode cX3_stretchEnd 34 = .ok (.ireturn, 1) := by decide +kernel
theorem dX3_holdsInStretch_0 : decode cX3_holdsInStretch 0 = .ok (.aload_n 0, 1) := by decide +kernel
theorem dX3_holdsInStretch_1 : decode cX3_holdsInStretch 1 = .ok (.iload_n 1, 1) := by decide +kernel
theorem dX3_holdsInStretch_2 : decode cX3_holdsInStretch 2 = .ok (.iload_n 2, 1) := by decide +kernel
theorem dX3_holdsInStretch_3 : decode cX3_holdsInStretch 3 = .ok (.invokevirtual 72, 3) := by decide +kernel
theorem dX3_holdsInStretch_6 : decode cX3_holdsInStretch 6 = .ok (.istore 5, 2) := by decide +kernel
theorem dX3_holdsInStretch_8 : decode cX3_holdsInStretch 8 = .ok (.iload_n 1, 1) := by decide +kernel
theorem dX3_holdsInStretch_9 : decode cX3_holdsInStretch 9 = .ok (.istore 6, 2) := by decide +kernel
theorem dX3_holdsInStretch_11 : decode cX3_holdsInStretch 11 = .ok (.iload 6, 2) := by decide +kernel
theorem dX3_holdsInStretch_13 : decode cX3_holdsInStretch 13 = .ok (.iload 5, 2) := by decide +kernel
theorem dX3_holdsInStretch_15 : decode cX3_holdsInStretch 15 = .ok (.if_icmp .ge 22, 3) := by decide +kernel
theorem dX3_holdsInStretch_18 : decode cX3_holdsInStretch 18 = .ok (.aload_n 0, 1) := by decide +kernel
theorem dX3_holdsInStretch_19 : decode cX3_holdsInStretch 19 = .ok (.iload 6, 2) := by decide +kernel
theorem dX3_holdsInStretch_21 : decode cX3_holdsInStretch 21 = .ok (.lload_n 3, 1) := by decide +kernel
theorem dX3_holdsInStretch_22 : decode cX3_holdsInStretch 22 = .ok (.lload_n 3, 1) := by decide +kernel
theorem dX3_holdsInStretch_23 : decode cX3_holdsInStretch 23 = .ok (.invokevirtual 76, 3) := by decide +kernel
theorem dX3_holdsInStretch_26 : decode cX3_holdsInStretch 26 = .ok (.ifCond .eq 5, 3) := by decide +kernel
theorem dX3_holdsInStretch_29 : decode cX3_holdsInStretch 29 = .ok (.iconst 1, 1) := by decide +kernel
theorem dX3_holdsInStretch_30 : decode cX3_holdsInStretch 30 = .ok (.ireturn, 1) := by decide +kernel
theorem dX3_holdsInStretch_31 : decode cX3_holdsInStretch 31 = .ok (.iinc 6 1, 3) := by decide +kernel
theorem dX3_holdsInStretch_34 : decode cX3_holdsInStretch 34 = .ok (.goto (-23), 3) := by decide +kernel
theorem dX3_holdsInStretch_37 : decode cX3_holdsInStretch 37 = .ok (.iconst 0, 1) := by decide +kernel
theorem dX3_holdsInStretch_38 : decode cX3_holdsInStretch 38 = .ok (.ireturn, 1) := by decide +kernel
theorem dX4_init_0 : decode cX4_init 0 = .ok (.aload_n 0, 1) := by decide +kernel
theorem dX4_init_1 : decode cX4_init 1 = .ok (.invokespecial 3, 3) := by decide +kernel
theorem dX4_init_4 : decode cX4_init 4 = .ok (.aload_n 0, 1) := by decide +kernel
theorem dX4_init_5 : decode cX4_init 5 = .ok (.sipush 400, 3) := by decide +kernel
theorem dX4_init_8 : decode cX4_init 8 = .ok (.newarray .byte, 2) := by decide +kernel
theorem dX4_init_10 : decode cX4_init 10 = .ok (.putfield 9, 3) := by decide +kernel
theorem dX4_init_13 : decode cX4_init 13 = .ok (.aload_n 0, 1) := by decide +kernel
theorem dX4_init_14 : decode cX4_init 14 = .ok (.iconst 0, 1) := by decide +kernel
theorem dX4_init_15 : decode cX4_init 15 = .ok (.putfield 15, 3) := by decide +kernel
theorem dX4_init_18 : decode cX4_init 18 = .ok (.aload_n 0, 1) := by decide +kernel
theorem dX4_init_19 : decode cX4_init 19 = .ok (.iconst 0, 1) := by decide +kernel
theorem dX4_init_20 : decode cX4_init 20 = .ok (.putfield 19, 3) := by decide +kernel
theorem dX4_init_23 : decode cX4_init 23 = .ok (.aload_n 0, 1) := by decide +kernel
theorem dX4_init_24 : decode cX4_init 24 = .ok (.iconst 0, 1) := by decide +kernel
theorem dX4_init_25 : decode cX4_init 25 = .ok (.putfield 22, 3) := by decide +kernel
theorem dX4_init_28 : decode cX4_init 28 = .ok (.aload_n 0, 1) := by decide +kernel
theorem dX4_init_29 : decode cX4_init 29 = .ok (.iconst (-1), 1) := by decide +kernel
theorem dX4_init_30 : decode cX4_init 30 = .ok (.putfield 25, 3) := by decide +kernel
theorem dX4_init_33 : decode cX4_init 33 = .ok (.aload_n 0, 1) := by decide +kernel
theorem dX4_init_34 : decode cX4_init 34 = .ok (.iconst 0, 1) := by decide +kernel
theorem dX4_init_35 : decode cX4_init 35 = .ok (.putfield 28, 3) := by decide +kernel
theorem dX4_init_38 : decode cX4_init 38 = .ok (.aload_n 0, 1) := by decide +kernel
theorem dX4_init_39 : decode cX4_init 39 = .ok (.iconst 0, 1) := by decide +kernel
theorem dX4_init_40 : decode cX4_init 40 = .ok (.putfield 31, 3) := by decide +kernel
theorem dX4_init_43 : decode cX4_init 43 = .ok (.aload_n 0, 1) := by decide +kernel
theorem dX4_init_44 : decode cX4_init 44 = .ok (.lconst 0, 1) := by decide +kernel
theorem dX4_init_45 : decode cX4_init 45 = .ok (.putfield 34, 3) := by decide +kernel
theorem dX4_init_48 : decode cX4_init 48 = .ok (.return_, 1) := by decide +kernel
theorem dX4_put_0 : decode cX4_put 0 = .ok (.bipush 24, 2) := by decide +kernel
theorem dX4_put_2 : decode cX4_put 2 = .ok (.istore_n 2, 1) := by decide +kernel
theorem dX4_put_3 : decode cX4_put 3 = .ok (.iload_n 2, 1) := by decide +kernel
theorem dX4_put_4 : decode cX4_put 4 = .ok (.ifCond .lt 42, 3) := by decide +kernel
theorem dX4_put_7 : decode cX4_put 7 = .ok (.aload_n 0, 1) := by decide +kernel
theorem dX4_put_8 : decode cX4_put 8 = .ok (.getfield 15, 3) := by decide +kernel
theorem dX4_put_11 : decode cX4_put 11 = .ok (.sipush 400, 3) := by decide +kernel
theorem dX4_put_14 : decode cX4_put 14 = .ok (.if_icmp .ge 32, 3) := by decide +kernel
theorem dX4_put_17 : decode cX4_put 17 = .ok (.aload_n 0, 1) := by decide +kernel
theorem dX4_put_18 : decode cX4_put 18 = .ok (.getfield 9, 3) := by decide +kernel
theorem dX4_put_21 : decode cX4_put 21 = .ok (.aload_n 0, 1) := by decide +kernel
theorem dX4_put_22 : decode cX4_put 22 = .ok (.getfield 15, 3) := by decide +kernel
theorem dX4_put_25 : decode cX4_put 25 = .ok (.iload_n 1, 1) := by decide +kernel
theorem dX4_put_26 : decode cX4_put 26 = .ok (.iload_n 2, 1) := by decide +kernel
theorem dX4_put_27 : decode cX4_put 27 = .ok (.iushr, 1) := by decide +kernel
theorem dX4_put_28 : decode cX4_put 28 = .ok (.i2b, 1) := by decide +kernel
theorem dX4_put_29 : decode cX4_put 29 = .ok (.bastore, 1) := by decide +kernel
theorem dX4_put_30 : decode cX4_put 30 = .ok (.aload_n 0, 1) := by decide +kernel
theorem dX4_put_31 : decode cX4_put 31 = .ok (.dup, 1) := by decide +kernel
theorem dX4_put_32 : decode cX4_put 32 = .ok (.getfield 15, 3) := by decide +kernel
theorem dX4_put_35 : decode cX4_put 35 = .ok (.iconst 1, 1) := by decide +kernel
theorem dX4_put_36 : decode cX4_put 36 = .ok (.iadd, 1) := by decide +kernel
theorem dX4_put_37 : decode cX4_put 37 = .ok (.putfield 15, 3) := by decide +kernel
theorem dX4_put_40 : decode cX4_put 40 = .ok (.iinc 2 (-8), 3) := by decide +kernel
theorem dX4_put_43 : decode cX4_put 43 = .ok (.goto (-40), 3) := by decide +kernel
theorem dX4_put_46 : decode cX4_put 46 = .ok (.return_, 1) := by decide +kernel
theorem dX4_begin_0 : decode cX4_begin 0 = .ok (.aload_n 0, 1) := by decide +kernel
theorem dX4_begin_1 : decode cX4_begin 1 = .ok (.iconst 0, 1) := by decide +kernel
theorem dX4_begin_2 : decode cX4_begin 2 = .ok (.putfield 19, 3) := by decide +kernel
theorem dX4_begin_5 : decode cX4_begin 5 = .ok (.aload_n 0, 1) := by decide +kernel
theorem dX4_begin_6 : decode cX4_begin 6 = .ok (.iconst 0, 1) := by decide +kernel
theorem dX4_begin_7 : decode cX4_begin 7 = .ok (.putfield 22, 3) := by decide +kernel
theorem dX4_begin_10 : decode cX4_begin 10 = .ok (.aload_n 0, 1) := by decide +kernel
theorem dX4_begin_11 : decode cX4_begin 11 = .ok (.iconst (-1), 1) := by decide +kernel
theorem dX4_begin_12 : decode cX4_begin 12 = .ok (.putfield 25, 3) := by decide +kernel
theorem dX4_begin_15 : decode cX4_begin 15 = .ok (.return_, 1) := by decide +kernel
theorem dX4_fail_0 : decode cX4_fail 0 = .ok (.aload_n 0, 1) := by decide +kernel
theorem dX4_fail_1 : decode cX4_fail 1 = .ok (.iload_n 1, 1) := by decide +kernel
theorem dX4_fail_2 : decode cX4_fail 2 = .ok (.putfield 22, 3) := by decide +kernel
theorem dX4_fail_5 : decode cX4_fail 5 = .ok (.aload_n 0, 1) := by decide +kernel
theorem dX4_fail_6 : decode cX4_fail 6 = .ok (.iload_n 2, 1) := by decide +kernel
theorem dX4_fail_7 : decode cX4_fail 7 = .ok (.putfield 25, 3) := by decide +kernel
theorem dX4_fail_10 : decode cX4_fail 10 = .ok (.iconst 0, 1) := by decide +kernel
theorem dX4_fail_11 : decode cX4_fail 11 = .ok (.ireturn, 1) := by decide +kernel
theorem dX4_failHere_0 : decode cX4_failHere 0 = .ok (.aload_n 0, 1) := by decide +kernel
theorem dX4_failHere_1 : decode cX4_failHere 1 = .ok (.iload_n 1, 1) := by decide +kernel
theorem dX4_failHere_2 : decode cX4_failHere 2 = .ok (.aload_n 0, 1) := by decide +kernel
theorem dX4_failHere_3 : decode cX4_failHere 3 = .ok (.getfield 19, 3) := by decide +kernel
theorem dX4_failHere_6 : decode cX4_failHere 6 = .ok (.invokevirtual 38, 3) := by decide +kernel
theorem dX4_failHere_9 : decode cX4_failHere 9 = .ok (.ireturn, 1) := by decide +kernel
theorem dX4_here_0 : decode cX4_here 0 = .ok (.aload_n 0, 1) := by decide +kernel
theorem dX4_here_1 : decode cX4_here 1 = .ok (.getfield 19, 3) := by decide +kernel
theorem dX4_here_4 : decode cX4_here 4 = .ok (.ifCond .lt 40, 3) := by decide +kernel
theorem dX4_here_7 : decode cX4_here 7 = .ok (.aload_n 0, 1) := by decide +kernel
theorem dX4_here_8 : decode cX4_here 8 = .ok (.getfield 19, 3) := by decide +kernel
theorem dX4_here_11 : decode cX4_here 11 = .ok (.aload_n 0, 1) := by decide +kernel
theorem dX4_here_12 : decode cX4_here 12 = .ok (.getfield 15, 3) := by decide +kernel
theorem dX4_here_15 : decode cX4_here 15 = .ok (.if_icmp .ge 29, 3) := by decide +kernel
theorem dX4_here_18 : decode cX4_here 18 = .ok (.aload_n 0, 1) := by decide +kernel
theorem dX4_here_19 : decode cX4_here 19 = .ok (.getfield 19, 3) := by decide +kernel
theorem dX4_here_22 : decode cX4_here 22 = .ok (.sipush 400, 3) := by decide +kernel
theorem dX4_here_25 : decode cX4_here 25 = .ok (.if_icmp .ge 19, 3) := by decide +kernel
theorem dX4_here_28 : decode cX4_here 28 = .ok (.aload_n 0, 1) := by decide +kernel
theorem dX4_here_29 : decode cX4_here 29 = .ok (.getfield 9, 3) := by decide +kernel
theorem dX4_here_32 : decode cX4_here 32 = .ok (.aload_n 0, 1) := by decide +kernel
theorem dX4_here_33 : decode cX4_here 33 = .ok (.getfield 19, 3) := by decide +kernel
theorem dX4_here_36 : decode cX4_here 36 = .ok (.baload, 1) := by decide +kernel
theorem dX4_here_37 : decode cX4_here 37 = .ok (.sipush 255, 3) := by decide +kernel
theorem dX4_here_40 : decode cX4_here 40 = .ok (.iand, 1) := by decide +kernel
theorem dX4_here_41 : decode cX4_here 41 = .ok (.goto 4, 3) := by decide +kernel
theorem dX4_here_44 : decode cX4_here 44 = .ok (.iconst (-1), 1) := by decide +kernel
theorem dX4_here_45 : decode cX4_here 45 = .ok (.ireturn, 1) := by decide +kernel
theorem dX4_next_0 : decode cX4_next 0 = .ok (.aload_n 0, 1) := by decide +kernel
theorem dX4_next_1 : decode cX4_next 1 = .ok (.getfield 19, 3) := by decide +kernel
theorem dX4_next_4 : decode cX4_next 4 = .ok (.aload_n 0, 1) := by decide +kernel
theorem dX4_next_5 : decode cX4_next 5 = .ok (.getfield 15, 3) := by decide +kernel
theorem dX4_next_8 : decode cX4_next 8 = .ok (.if_icmp .ge 34, 3) := by decide +kernel
theorem dX4_next_11 : decode cX4_next 11 = .ok (.aload_n 0, 1) := by decide +kernel
theorem dX4_next_12 : decode cX4_next 12 = .ok (.invokevirtual 42, 3) := by decide +kernel
theorem dX4_next_15 : decode cX4_next 15 = .ok (.bipush 10, 2) := by decide +kernel
theorem dX4_next_17 : decode cX4_next 17 = .ok (.if_icmp .eq 12, 3) := by decide +kernel
theorem dX4_next_20 : decode cX4_next 20 = .ok (.aload_n 0, 1) := by decide +kernel
theorem dX4_next_21 : decode cX4_next 21 = .ok (.invokevirtual 42, 3) := by decide +kernel
theorem dX4_next_24 : decode cX4_next 24 = .ok (.bipush 32, 2) := by decide +kernel
theorem dX4_next_26 : decode cX4_next 26 = .ok (.if_icmp .ne 16, 3) := by decide +kernel
theorem dX4_next_29 : decode cX4_next 29 = .ok (.aload_n 0, 1) := by decide +kernel
theorem dX4_next_30 : decode cX4_next 30 = .ok (.dup, 1) := by decide +kernel
theorem dX4_next_31 : decode cX4_next 31 = .ok (.getfield 19, 3) := by decide +kernel
theorem dX4_next_34 : decode cX4_next 34 = .ok (.iconst 1, 1) := by decide +kernel
theorem dX4_next_35 : decode cX4_next 35 = .ok (.iadd, 1) := by decide +kernel
theorem dX4_next_36 : decode cX4_next 36 = .ok (.putfield 19, 3) := by decide +kernel
theorem dX4_next_39 : decode cX4_next 39 = .ok (.goto (-39), 3) := by decide +kernel
theorem dX4_next_42 : decode cX4_next 42 = .ok (.aload_n 0, 1) := by decide +kernel
theorem dX4_next_43 : decode cX4_next 43 = .ok (.invokevirtual 42, 3) := by decide +kernel
theorem dX4_next_46 : decode cX4_next 46 = .ok (.ireturn, 1) := by decide +kernel
theorem dX4_pass_0 : decode cX4_pass 0 = .ok (.aload_n 0, 1) := by decide +kernel
theorem dX4_pass_1 : decode cX4_pass 1 = .ok (.invokevirtual 46, 3) := by decide +kernel
theorem dX4_pass_4 : decode cX4_pass 4 = .ok (.iload_n 1, 1) := by decide +kernel
theorem dX4_pass_5 : decode cX4_pass 5 = .ok (.if_icmp .eq 9, 3) := by decide +kernel
theorem dX4_pass_8 : decode cX4_pass 8 = .ok (.aload_n 0, 1) := by decide +kernel
theorem dX4_pass_9 : decode cX4_pass 9 = .ok (.iconst 1, 1) := by decide +kernel
theorem dX4_pass_10 : decode cX4_pass 10 = .ok (.invokevirtual 49, 3) := by decide +kernel
theorem dX4_pass_13 : decode cX4_pass 13 = .ok (.ireturn, 1) := by decide +kernel
theorem dX4_pass_14 : decode cX4_pass 14 = .ok (.aload_n 0, 1) := by decide +kernel
theorem dX4_pass_15 : decode cX4_pass 15 = .ok (.dup, 1) := by decide +kernel
theorem dX4_pass_16 : decode cX4_pass 16 = .ok (.getfield 19, 3) := by decide +kernel
theorem dX4_pass_19 : decode cX4_pass 19 = .ok (.iconst 1, 1) := by decide +kernel
theorem dX4_pass_20 : decode cX4_pass 20 = .ok (.iadd, 1) := by decide +kernel
theorem dX4_pass_21 : decode cX4_pass 21 = .ok (.putfield 19, 3) := by decide +kernel
theorem dX4_pass_24 : decode cX4_pass 24 = .ok (.iconst 1, 1) := by decide +kernel
theorem dX4_pass_25 : decode cX4_pass 25 = .ok (.ireturn, 1) := by decide +kernel
theorem dX4_readWord_0 : decode cX4_readWord 0 = .ok (.aload_n 0, 1) := by decide +kernel
theorem dX4_readWord_1 : decode cX4_readWord 1 = .ok (.invokevirtual 46, 3) := by decide +kernel
theorem dX4_readWord_4 : decode cX4_readWord 4 = .ok (.pop, 1) := by decide +kernel
theorem dX4_readWord_5 : decode cX4_readWord 5 = .ok (.aload_n 0, 1) := by decide +kernel
theorem dX4_readWord_6 : decode cX4_readWord 6 = .ok (.aload_n 0, 1) := by decide +kernel
theorem dX4_readWord_7 : decode cX4_readWord 7 = .ok (.getfield 19, 3) := by decide +kernel
theorem dX4_readWord_10 : decode cX4_readWord 10 = .ok (.putfield 28, 3) := by decide +kernel
theorem dX4_readWord_13 : decode cX4_readWord 13 = .ok (.lconst 0, 1) := by decide +kernel
theorem dX4_readWord_14 : decode cX4_readWord 14 = .ok (.lstore_n 1, 1) := by decide +kernel
theorem dX4_readWord_15 : decode cX4_readWord 15 = .ok (.aload_n 0, 1) := by decide +kernel
theorem dX4_readWord_16 : decode cX4_readWord 16 = .ok (.getfield 19, 3) := by decide +kernel
theorem dX4_readWord_19 : decode cX4_readWord 19 = .ok (.aload_n 0, 1) := by decide +kernel
theorem dX4_readWord_20 : decode cX4_readWord 20 = .ok (.getfield 15, 3) := by decide +kernel
theorem dX4_readWord_23 : decode cX4_readWord 23 = .ok (.if_icmp .ge 43, 3) := by decide +kernel
theorem dX4_readWord_26 : decode cX4_readWord 26 = .ok (.aload_n 0, 1) := by decide +kernel
theorem dX4_readWord_27 : decode cX4_readWord 27 = .ok (.invokevirtual 42, 3) := by decide +kernel
theorem dX4_readWord_30 : decode cX4_readWord 30 = .ok (.invokestatic 53, 3) := by decide +kernel
theorem dX4_readWord_33 : decode cX4_readWord 33 = .ok (.ifCond .eq 33, 3) := by decide +kernel
theorem dX4_readWord_36 : decode cX4_readWord 36 = .ok (.lload_n 1, 1) := by decide +kernel
theorem dX4_readWord_37 : decode cX4_readWord 37 = .ok (.ldc2_w 56, 3) := by decide +kernel
theorem dX4_readWord_40 : decode cX4_readWord 40 = .ok (.lmul, 1) := by decide +kernel
theorem dX4_readWord_41 : decode cX4_readWord 41 = .ok (.aload_n 0, 1) := by decide +kernel
theorem dX4_readWord_42 : decode cX4_readWord 42 = .ok (.invokevirtual 42, 3) := by decide +kernel
theorem dX4_readWord_45 : decode cX4_readWord 45 = .ok (.bipush 97, 2) := by decide +kernel
theorem dX4_readWord_47 : decode cX4_readWord 47 = .ok (.isub, 1) := by decide +kernel
theorem dX4_readWord_48 : decode cX4_readWord 48 = .ok (.iconst 1, 1) := by decide +kernel
theorem dX4_readWord_49 : decode cX4_readWord 49 = .ok (.iadd, 1) := by decide +kernel
theorem dX4_readWord_50 : decode cX4_readWord 50 = .ok (.i2l, 1) := by decide +kernel
theorem dX4_readWord_51 : decode cX4_readWord 51 = .ok (.ladd, 1) := by decide +kernel
theorem dX4_readWord_52 : decode cX4_readWord 52 = .ok (.lstore_n 1, 1) := by decide +kernel
theorem dX4_readWord_53 : decode cX4_readWord 53 = .ok (.aload_n 0, 1) := by decide +kernel
theorem dX4_readWord_54 : decode cX4_readWord 54 = .ok (.dup, 1) := by decide +kernel
theorem dX4_readWord_55 : decode cX4_readWord 55 = .ok (.getfield 19, 3) := by decide +kernel
theorem dX4_readWord_58 : decode cX4_readWord 58 = .ok (.iconst 1, 1) := by decide +kernel
theorem dX4_readWord_59 : decode cX4_readWord 59 = .ok (.iadd, 1) := by decide +kernel
theorem dX4_readWord_60 : decode cX4_readWord 60 = .ok (.putfield 19, 3) := by decide +kernel
theorem dX4_readWord_63 : decode cX4_readWord 63 = .ok (.goto (-48), 3) := by decide +kernel
theorem dX4_readWord_66 : decode cX4_readWord 66 = .ok (.aload_n 0, 1) := by decide +kernel
theorem dX4_readWord_67 : decode cX4_readWord 67 = .ok (.aload_n 0, 1) := by decide +kernel
theorem dX4_readWord_68 : decode cX4_readWord 68 = .ok (.getfield 19, 3) := by decide +kernel
theorem dX4_readWord_71 : decode cX4_readWord 71 = .ok (.aload_n 0, 1) := by decide +kernel
theorem dX4_readWord_72 : decode cX4_readWord 72 = .ok (.getfield 28, 3) := by decide +kernel
theorem dX4_readWord_75 : decode cX4_readWord 75 = .ok (.isub, 1) := by decide +kernel
theorem dX4_readWord_76 : decode cX4_readWord 76 = .ok (.putfield 31, 3) := by decide +kernel
theorem dX4_readWord_79 : decode cX4_readWord 79 = .ok (.aload_n 0, 1) := by decide +kernel
theorem dX4_readWord_80 : decode cX4_readWord 80 = .ok (.aload_n 0, 1) := by decide +kernel
theorem dX4_readWord_81 : decode cX4_readWord 81 = .ok (.getfield 31, 3) := by decide +kernel
theorem dX4_readWord_84 : decode cX4_readWord 84 = .ok (.bipush 8, 2) := by decide +kernel
theorem dX4_readWord_86 : decode cX4_readWord 86 = .ok (.if_icmp .le 7, 3) := by decide +kernel
theorem dX4_readWord_89 : decode cX4_readWord 89 = .ok (.lconst 0, 1) := by decide +kernel
theorem dX4_readWord_90 : decode cX4_readWord 90 = .ok (.goto 4, 3) := by decide +kernel
theorem dX4_readWord_93 : decode cX4_readWord 93 = .ok (.lload_n 1, 1) := by decide +kernel
theorem dX4_readWord_94 : decode cX4_readWord 94 = .ok (.putfield 34, 3) := by decide +kernel
theorem dX4_readWord_97 : decode cX4_readWord 97 = .ok (.return_, 1) := by decide +kernel
theorem dX4_failAtLetterTooMany_0 : decode cX4_failAtLetterTooMany 0 = .ok (.aload_n 0, 1) := by decide +kernel
theorem dX4_failAtLetterTooMany_1 : decode cX4_failAtLetterTooMany 1 = .ok (.iconst 1, 1) := by decide +kernel
theorem dX4_failAtLetterTooMany_2 : decode cX4_failAtLetterTooMany 2 = .ok (.aload_n 0, 1) := by decide +kernel
theorem dX4_failAtLetterTooMany_3 : decode cX4_failAtLetterTooMany 3 = .ok (.getfield 28, 3) := by decide +kernel
theorem dX4_failAtLetterTooMany_6 : decode cX4_failAtLetterTooMany 6 = .ok (.bipush 8, 2) := by decide +kernel
theorem dX4_failAtLetterTooMany_8 : decode cX4_failAtLetterTooMany 8 = .ok (.iadd, 1) := by decide +kernel
theorem dX4_failAtLetterTooMany_9 : decode cX4_failAtLetterTooMany 9 = .ok (.invokevirtual 38, 3) := by decide +kernel
theorem dX4_failAtLetterTooMany_12 : decode cX4_failAtLetterTooMany 12 = .ok (.ireturn, 1) := by decide +kernel
theorem dX5_init_0 : decode cX5_init 0 = .ok (.aload_n 0, 1) := by decide +kernel
theorem dX5_init_1 : decode cX5_init 1 = .ok (.invokespecial 3, 3) := by decide +kernel
theorem dX5_init_4 : decode cX5_init 4 = .ok (.aload_n 0, 1) := by decide +kernel
theorem dX5_init_5 : decode cX5_init 5 = .ok (.sipush 400, 3) := by decide +kernel
theorem dX5_init_8 : decode cX5_init 8 = .ok (.newarray .byte, 2) := by decide +kernel
theorem dX5_init_10 : decode cX5_init 10 = .ok (.putfield 9, 3) := by decide +kernel
theorem dX5_init_13 : decode cX5_init 13 = .ok (.aload_n 0, 1) := by decide +kernel
theorem dX5_init_14 : decode cX5_init 14 = .ok (.iconst 0, 1) := by decide +kernel
theorem dX5_init_15 : decode cX5_init 15 = .ok (.putfield 15, 3) := by decide +kernel
theorem dX5_init_18 : decode cX5_init 18 = .ok (.return_, 1) := by decide +kernel
theorem dX5_byteAt_0 : decode cX5_byteAt 0 = .ok (.iload_n 1, 1) := by decide +kernel
theorem dX5_byteAt_1 : decode cX5_byteAt 1 = .ok (.ifCond .lt 31, 3) := by decide +kernel
theorem dX5_byteAt_4 : decode cX5_byteAt 4 = .ok (.iload_n 1, 1) := by decide +kernel
theorem dX5_byteAt_5 : decode cX5_byteAt 5 = .ok (.aload_n 0, 1) := by decide +kernel
theorem dX5_byteAt_6 : decode cX5_byteAt 6 = .ok (.getfield 15, 3) := by decide +kernel
theorem dX5_byteAt_9 : decode cX5_byteAt 9 = .ok (.if_icmp .ge 23, 3) := by decide +kernel
theorem dX5_byteAt_12 : decode cX5_byteAt 12 = .ok (.iload_n 1, 1) := by decide +kernel
theorem dX5_byteAt_13 : decode cX5_byteAt 13 = .ok (.sipush 400, 3) := by decide +kernel
theorem dX5_byteAt_16 : decode cX5_byteAt 16 = .ok (.if_icmp .ge 16, 3) := by decide +kernel
theorem dX5_byteAt_19 : decode cX5_byteAt 19 = .ok (.aload_n 0, 1) := by decide +kernel
theorem dX5_byteAt_20 : decode cX5_byteAt 20 = .ok (.getfield 9, 3) := by decide +kernel
theorem dX5_byteAt_23 : decode cX5_byteAt 23 = .ok (.iload_n 1, 1) := by decide +kernel
theorem dX5_byteAt_24 : decode cX5_byteAt 24 = .ok (.baload, 1) := by decide +kernel
theorem dX5_byteAt_25 : decode cX5_byteAt 25 = .ok (.sipush 255, 3) := by decide +kernel
theorem dX5_byteAt_28 : decode cX5_byteAt 28 = .ok (.iand, 1) := by decide +kernel
theorem dX5_byteAt_29 : decode cX5_byteAt 29 = .ok (.goto 4, 3) := by decide +kernel
theorem dX5_byteAt_32 : decode cX5_byteAt 32 = .ok (.iconst (-1), 1) := by decide +kernel
theorem dX5_byteAt_33 : decode cX5_byteAt 33 = .ok (.ireturn, 1) := by decide +kernel
theorem dX5_put_0 : decode cX5_put 0 = .ok (.aload_n 0, 1) := by decide +kernel
theorem dX5_put_1 : decode cX5_put 1 = .ok (.getfield 15, 3) := by decide +kernel
theorem dX5_put_4 : decode cX5_put 4 = .ok (.sipush 400, 3) := by decide +kernel
theorem dX5_put_7 : decode cX5_put 7 = .ok (.if_icmp .ge 24, 3) := by decide +kernel
theorem dX5_put_10 : decode cX5_put 10 = .ok (.aload_n 0, 1) := by decide +kernel
theorem dX5_put_11 : decode cX5_put 11 = .ok (.getfield 9, 3) := by decide +kernel
theorem dX5_put_14 : decode cX5_put 14 = .ok (.aload_n 0, 1) := by decide +kernel
theorem dX5_put_15 : decode cX5_put 15 = .ok (.getfield 15, 3) := by decide +kernel
theorem dX5_put_18 : decode cX5_put 18 = .ok (.iload_n 1, 1) := by decide +kernel
theorem dX5_put_19 : decode cX5_put 19 = .ok (.i2b, 1) := by decide +kernel
theorem dX5_put_20 : decode cX5_put 20 = .ok (.bastore, 1) := by decide +kernel
theorem dX5_put_21 : decode cX5_put 21 = .ok (.aload_n 0, 1) := by decide +kernel
theorem dX5_put_22 : decode cX5_put 22 = .ok (.dup, 1) := by decide +kernel
theorem dX5_put_23 : decode cX5_put 23 = .ok (.getfield 15, 3) := by decide +kernel
theorem dX5_put_26 : decode cX5_put 26 = .ok (.iconst 1, 1) := by decide +kernel
theorem dX5_put_27 : decode cX5_put 27 = .ok (.iadd, 1) := by decide +kernel
theorem dX5_put_28 : decode cX5_put 28 = .ok (.putfield 15, 3) := by decide +kernel
theorem dX5_put_31 : decode cX5_put 31 = .ok (.return_, 1) := by decide +kernel
theorem dX5_putWord_0 : decode cX5_putWord 0 = .ok (.ldc2_w 19, 3) := by decide +kernel
theorem dX5_putWord_3 : decode cX5_putWord 3 = .ok (.lstore_n 3, 1) := by decide +kernel
theorem dX5_putWord_4 : decode cX5_putWord 4 = .ok (.lload_n 3, 1) := by decide +kernel
theorem dX5_putWord_5 : decode cX5_putWord 5 = .ok (.lconst 0, 1) := by decide +kernel
theorem dX5_putWord_6 : decode cX5_putWord 6 = .ok (.lcmp, 1) := by decide +kernel
theorem dX5_putWord_7 : decode cX5_putWord 7 = .ok (.ifCond .le 39, 3) := by decide +kernel
theorem dX5_putWord_10 : decode cX5_putWord 10 = .ok (.lload_n 1, 1) := by decide +kernel
theorem dX5_putWord_11 : decode cX5_putWord 11 = .ok (.lload_n 3, 1) := by decide +kernel
theorem dX5_putWord_12 : decode cX5_putWord 12 = .ok (.ldiv, 1) := by decide +kernel
theorem dX5_putWord_13 : decode cX5_putWord 13 = .ok (.ldc2_w 21, 3) := by decide +kernel
theorem dX5_putWord_16 : decode cX5_putWord 16 = .ok (.lrem, 1) := by decide +kernel
theorem dX5_putWord_17 : decode cX5_putWord 17 = .ok (.lstore 5, 2) := by decide +kernel
theorem dX5_putWord_19 : decode cX5_putWord 19 = .ok (.lload 5, 2) := by decide +kernel
theorem dX5_putWord_21 : decode cX5_putWord 21 = .ok (.lconst 0, 1) := by decide +kernel
theorem dX5_putWord_22 : decode cX5_putWord 22 = .ok (.lcmp, 1) := by decide +kernel
theorem dX5_putWord_23 : decode cX5_putWord 23 = .ok (.ifCond .le 14, 3) := by decide +kernel
theorem dX5_putWord_26 : decode cX5_putWord 26 = .ok (.aload_n 0, 1) := by decide +kernel
theorem dX5_putWord_27 : decode cX5_putWord 27 = .ok (.ldc2_w 23, 3) := by decide +kernel
theorem dX5_putWord_30 : decode cX5_putWord 30 = .ok (.lload 5, 2) := by decide +kernel
theorem dX5_putWord_32 : decode cX5_putWord 32 = .ok (.ladd, 1) := by decide +kernel
theorem dX5_putWord_33 : decode cX5_putWord 33 = .ok (.l2i, 1) := by decide +kernel
theorem dX5_putWord_34 : decode cX5_putWord 34 = .ok (.invokevirtual 25, 3) := by decide +kernel
theorem dX5_putWord_37 : decode cX5_putWord 37 = .ok (.lload_n 3, 1) := by decide +kernel
theorem dX5_putWord_38 : decode cX5_putWord 38 = .ok (.ldc2_w 21, 3) := by decide +kernel
theorem dX5_putWord_41 : decode cX5_putWord 41 = .ok (.ldiv, 1) := by decide +kernel
theorem dX5_putWord_42 : decode cX5_putWord 42 = .ok (.lstore_n 3, 1) := by decide +kernel
theorem dX5_putWord_43 : decode cX5_putWord 43 = .ok (.goto (-39), 3) := by decide +kernel
theorem dX5_putWord_46 : decode cX5_putWord 46 = .ok (.return_, 1) := by decide +kernel
theorem dX5_putNumber_0 : decode cX5_putNumber 0 = .ok (.lload_n 1, 1) := by decide +kernel
theorem dX5_putNumber_1 : decode cX5_putNumber 1 = .ok (.lconst 0, 1) := by decide +kernel
theorem dX5_putNumber_2 : decode cX5_putNumber 2 = .ok (.lcmp, 1) := by decide +kernel
theorem dX5_putNumber_3 : decode cX5_putNumber 3 = .ok (.ifCond .ge 9, 3) := by decide +kernel
theorem dX5_putNumber_6 : decode cX5_putNumber 6 = .ok (.aload_n 0, 1) := by decide +kernel
theorem dX5_putNumber_7 : decode cX5_putNumber 7 = .ok (.bipush 45, 2) := by decide +kernel
theorem dX5_putNumber_9 : decode cX5_putNumber 9 = .ok (.invokevirtual 25, 3) := by decide +kernel
theorem dX5_putNumber_12 : decode cX5_putNumber 12 = .ok (.lload_n 1, 1) := by decide +kernel
theorem dX5_putNumber_13 : decode cX5_putNumber 13 = .ok (.invokestatic 29, 3) := by decide +kernel
theorem dX5_putNumber_16 : decode cX5_putNumber 16 = .ok (.lstore_n 3, 1) := by decide +kernel
theorem dX5_putNumber_17 : decode cX5_putNumber 17 = .ok (.ldc2_w 35, 3) := by decide +kernel
theorem dX5_putNumber_20 : decode cX5_putNumber 20 = .ok (.lstore 5, 2) := by decide +kernel
theorem dX5_putNumber_22 : decode cX5_putNumber 22 = .ok (.lload 5, 2) := by decide +kernel
theorem dX5_putNumber_24 : decode cX5_putNumber 24 = .ok (.lconst 0, 1) := by decide +kernel
theorem dX5_putNumber_25 : decode cX5_putNumber 25 = .ok (.lcmp, 1) := by decide +kernel
theorem dX5_putNumber_26 : decode cX5_putNumber 26 = .ok (.ifCond .le 45, 3) := by decide +kernel
theorem dX5_putNumber_29 : decode cX5_putNumber 29 = .ok (.lload_n 3, 1) := by decide +kernel
theorem dX5_putNumber_30 : decode cX5_putNumber 30 = .ok (.lload 5, 2) := by decide +kernel
theorem dX5_putNumber_32 : decode cX5_putNumber 32 = .ok (.lcmp, 1) := by decide +kernel
theorem dX5_putNumber_33 : decode cX5_putNumber 33 = .ok (.ifCond .ge 10, 3) := by decide +kernel
theorem dX5_putNumber_36 : decode cX5_putNumber 36 = .ok (.lload 5, 2) := by decide +kernel
theorem dX5_putNumber_38 : decode cX5_putNumber 38 = .ok (.lconst 1, 1) := by decide +kernel
theorem dX5_putNumber_39 : decode cX5_putNumber 39 = .ok (.lcmp, 1) := by decide +kernel
theorem dX5_putNumber_40 : decode cX5_putNumber 40 = .ok (.ifCond .ne 20, 3) := by decide +kernel
theorem dX5_putNumber_43 : decode cX5_putNumber 43 = .ok (.aload_n 0, 1) := by decide +kernel
theorem dX5_putNumber_44 : decode cX5_putNumber 44 = .ok (.ldc2_w 37, 3) := by decide +kernel
theorem dX5_putNumber_47 : decode cX5_putNumber 47 = .ok (.lload_n 3, 1) := by decide +kernel
theorem dX5_putNumber_48 : decode cX5_putNumber 48 = .ok (.lload 5, 2) := by decide +kernel
theorem dX5_putNumber_50 : decode cX5_putNumber 50 = .ok (.ldiv, 1) := by decide +kernel
theorem dX5_putNumber_51 : decode cX5_putNumber 51 = .ok (.ldc2_w 39, 3) := by decide +kernel
theorem dX5_putNumber_54 : decode cX5_putNumber 54 = .ok (.lrem, 1) := by decide +kernel
theorem dX5_putNumber_55 : decode cX5_putNumber 55 = .ok (.ladd, 1) := by decide +kernel
theorem dX5_putNumber_56 : decode cX5_putNumber 56 = .ok (.l2i, 1) := by decide +kernel
theorem dX5_putNumber_57 : decode cX5_putNumber 57 = .ok (.invokevirtual 25, 3) := by decide +kernel
theorem dX5_putNumber_60 : decode cX5_putNumber 60 = .ok (.lload 5, 2) := by decide +kernel
theorem dX5_putNumber_62 : decode cX5_putNumber 62 = .ok (.ldc2_w 39, 3) := by decide +kernel
theorem dX5_putNumber_65 : decode cX5_putNumber 65 = .ok (.ldiv, 1) := by decide +kernel
theorem dX5_putNumber_66 : decode cX5_putNumber 66 = .ok (.lstore 5, 2) := by decide +kernel
theorem dX5_putNumber_68 : decode cX5_putNumber 68 = .ok (.goto (-46), 3) := by decide +kernel
theorem dX5_putNumber_71 : decode cX5_putNumber 71 = .ok (.return_, 1) := by decide +kernel
theorem dX6_init_0 : decode cX6_init 0 = .ok (.aload_n 0, 1) := by decide +kernel
theorem dX6_init_1 : decode cX6_init 1 = .ok (.invokespecial 3, 3) := by decide +kernel
theorem dX6_init_4 : decode cX6_init 4 = .ok (.aload_n 0, 1) := by decide +kernel
theorem dX6_init_5 : decode cX6_init 5 = .ok (.aload_n 1, 1) := by decide +kernel
theorem dX6_init_6 : decode cX6_init 6 = .ok (.putfield 9, 3) := by decide +kernel
theorem dX6_init_9 : decode cX6_init 9 = .ok (.aload_n 0, 1) := by decide +kernel
theorem dX6_init_10 : decode cX6_init 10 = .ok (.aload_n 2, 1) := by decide +kernel
theorem dX6_init_11 : decode cX6_init 11 = .ok (.putfield 15, 3) := by decide +kernel
theorem dX6_init_14 : decode cX6_init 14 = .ok (.aload_n 0, 1) := by decide +kernel
theorem dX6_init_15 : decode cX6_init 15 = .ok (.iload_n 3, 1) := by decide +kernel
theorem dX6_init_16 : decode cX6_init 16 = .ok (.putfield 19, 3) := by decide +kernel
theorem dX6_init_19 : decode cX6_init 19 = .ok (.aload_n 0, 1) := by decide +kernel
theorem dX6_init_20 : decode cX6_init 20 = .ok (.aload 4, 2) := by decide +kernel
theorem dX6_init_22 : decode cX6_init 22 = .ok (.putfield 23, 3) := by decide +kernel
theorem dX6_init_25 : decode cX6_init 25 = .ok (.aload_n 0, 1) := by decide +kernel
theorem dX6_init_26 : decode cX6_init 26 = .ok (.bipush 12, 2) := by decide +kernel
theorem dX6_init_28 : decode cX6_init 28 = .ok (.newarray .int, 2) := by decide +kernel
theorem dX6_init_30 : decode cX6_init 30 = .ok (.putfield 27, 3) := by decide +kernel
theorem dX6_init_33 : decode cX6_init 33 = .ok (.return_, 1) := by decide +kernel
theorem dX6_writeAll_0 : decode cX6_writeAll 0 = .ok (.aload_n 0, 1) := by decide +kernel
theorem dX6_writeAll_1 : decode cX6_writeAll 1 = .ok (.getfield 23, 3) := by decide +kernel
theorem dX6_writeAll_4 : decode cX6_writeAll 4 = .ok (.iconst 0, 1) := by decide +kernel
theorem dX6_writeAll_5 : decode cX6_writeAll 5 = .ok (.putfield 31, 3) := by decide +kernel
theorem dX6_writeAll_8 : decode cX6_writeAll 8 = .ok (.iconst 0, 1) := by decide +kernel
theorem dX6_writeAll_9 : decode cX6_writeAll 9 = .ok (.istore_n 2, 1) := by decide +kernel
theorem dX6_writeAll_10 : decode cX6_writeAll 10 = .ok (.iload_n 2, 1) := by decide +kernel
theorem dX6_writeAll_11 : decode cX6_writeAll 11 = .ok (.bipush 12, 2) := by decide +kernel
theorem dX6_writeAll_13 : decode cX6_writeAll 13 = .ok (.if_icmp .ge 34, 3) := by decide +kernel
theorem dX6_writeAll_16 : decode cX6_writeAll 16 = .ok (.aload_n 0, 1) := by decide +kernel
theorem dX6_writeAll_17 : decode cX6_writeAll 17 = .ok (.iload_n 2, 1) := by decide +kernel
theorem dX6_writeAll_18 : decode cX6_writeAll 18 = .ok (.invokevirtual 36, 3) := by decide +kernel
theorem dX6_writeAll_21 : decode cX6_writeAll 21 = .ok (.astore_n 3, 1) := by decide +kernel
theorem dX6_writeAll_22 : decode cX6_writeAll 22 = .ok (.aload_n 0, 1) := by decide +kernel
theorem dX6_writeAll_23 : decode cX6_writeAll 23 = .ok (.getfield 27, 3) := by decide +kernel
theorem dX6_writeAll_26 : decode cX6_writeAll 26 = .ok (.iload_n 2, 1) := by decide +kernel
theorem dX6_writeAll_27 : decode cX6_writeAll 27 = .ok (.aload_n 3, 1) := by decide +kernel
theorem dX6_writeAll_28 : decode cX6_writeAll 28 = .ok (.ifnonnull 7, 3) := by decide +kernel
theorem dX6_writeAll_31 : decode cX6_writeAll 31 = .ok (.iconst (-1), 1) := by decide +kernel
theorem dX6_writeAll_32 : decode cX6_writeAll 32 = .ok (.goto 8, 3) := by decide +kernel
theorem dX6_writeAll_35 : decode cX6_writeAll 35 = .ok (.aload_n 3, 1) := by decide +kernel
theorem dX6_writeAll_36 : decode cX6_writeAll 36 = .ok (.iload_n 1, 1) := by decide +kernel
theorem dX6_writeAll_37 : decode cX6_writeAll 37 = .ok (.invokevirtual 40, 3) := by decide +kernel
theorem dX6_writeAll_40 : decode cX6_writeAll 40 = .ok (.iastore, 1) := by decide +kernel
theorem dX6_writeAll_41 : decode cX6_writeAll 41 = .ok (.iinc 2 1, 3) := by decide +kernel
theorem dX6_writeAll_44 : decode cX6_writeAll 44 = .ok (.goto (-34), 3) := by decide +kernel
theorem dX6_writeAll_47 : decode cX6_writeAll 47 = .ok (.aload_n 0, 1) := by decide +kernel
theorem dX6_writeAll_48 : decode cX6_writeAll 48 = .ok (.iconst (-1), 1) := by decide +kernel
theorem dX6_writeAll_49 : decode cX6_writeAll 49 = .ok (.iconst 0, 1) := by decide +kernel
theorem dX6_writeAll_50 : decode cX6_writeAll 50 = .ok (.invokevirtual 46, 3) := by decide +kernel
theorem dX6_writeAll_53 : decode cX6_writeAll 53 = .ok (.return_, 1) := by decide +kernel
theorem dX6_wantedTable_0 : decode cX6_wantedTable 0 = .ok (.iload_n 1, 1) := by decide +kernel
theorem dX6_wantedTable_1 : decode cX6_wantedTable 1 = .ok (.ifCond .lt 33, 3) := by decide +kernel
theorem dX6_wantedTable_4 : decode cX6_wantedTable 4 = .ok (.iload_n 1, 1) := by decide +kernel
theorem dX6_wantedTable_5 : decode cX6_wantedTable 5 = .ok (.aload_n 0, 1) := by decide +kernel
theorem dX6_wantedTable_6 : decode cX6_wantedTable 6 = .ok (.getfield 9, 3) := by decide +kernel
theorem dX6_wantedTable_9 : decode cX6_wantedTable 9 = .ok (.getfield 50, 3) := by decide +kernel
theorem dX6_wantedTable_12 : decode cX6_wantedTable 12 = .ok (.if_icmp .ge 22, 3) := by decide +kernel
theorem dX6_wantedTable_15 : decode cX6_wantedTable 15 = .ok (.iload_n 1, 1) := by decide +kernel
theorem dX6_wantedTable_16 : decode cX6_wantedTable 16 = .ok (.bipush 12, 2) := by decide +kernel
theorem dX6_wantedTable_18 : decode cX6_wantedTable 18 = .ok (.if_icmp .ge 16, 3) := by decide +kernel
theorem dX6_wantedTable_21 : decode cX6_wantedTable 21 = .ok (.iload_n 1, 1) := by decide +kernel
theorem dX6_wantedTable_22 : decode cX6_wantedTable 22 = .ok (.aload_n 0, 1) := by decide +kernel
theorem dX6_wantedTable_23 : decode cX6_wantedTable 23 = .ok (.getfield 15, 3) := by decide +kernel
theorem dX6_wantedTable_26 : decode cX6_wantedTable 26 = .ok (.arraylength, 1) := by decide +kernel
theorem dX6_wantedTable_27 : decode cX6_wantedTable 27 = .ok (.if_icmp .ge 7, 3) := by decide +kernel
theorem dX6_wantedTable_30 : decode cX6_wantedTable 30 = .ok (.iconst 1, 1) := by decide +kernel
theorem dX6_wantedTable_31 : decode cX6_wantedTable 31 = .ok (.goto 4, 3) := by decide +kernel
theorem dX6_wantedTable_34 : decode cX6_wantedTable 34 = .ok (.iconst 0, 1) := by decide +kernel
theorem dX6_wantedTable_35 : decode cX6_wantedTable 35 = .ok (.istore_n 2, 1) := by decide +kernel
theorem dX6_wantedTable_36 : decode cX6_wantedTable 36 = .ok (.iload_n 2, 1) := by decide +kernel
theorem dX6_wantedTable_37 : decode cX6_wantedTable 37 = .ok (.ifCond .eq 24, 3) := by decide +kernel
theorem dX6_wantedTable_40 : decode cX6_wantedTable 40 = .ok (.aload_n 0, 1) := by decide +kernel
theorem dX6_wantedTable_41 : decode cX6_wantedTable 41 = .ok (.getfield 19, 3) := by decide +kernel
theorem dX6_wantedTable_44 : decode cX6_wantedTable 44 = .ok (.iload_n 1, 1) := by decide +kernel
theorem dX6_wantedTable_45 : decode cX6_wantedTable 45 = .ok (.ishr, 1) := by decide +kernel
theorem dX6_wantedTable_46 : decode cX6_wantedTable 46 = .ok (.iconst 1, 1) := by decide +kernel
theorem dX6_wantedTable_47 : decode cX6_wantedTable 47 = .ok (.iand, 1) := by decide +kernel
theorem dX6_wantedTable_48 : decode cX6_wantedTable 48 = .ok (.iconst 1, 1) := by decide +kernel
theorem dX6_wantedTable_49 : decode cX6_wantedTable 49 = .ok (.if_icmp .ne 12, 3) := by decide +kernel
theorem dX6_wantedTable_52 : decode cX6_wantedTable 52 = .ok (.aload_n 0, 1) := by decide +kernel
theorem dX6_wantedTable_53 : decode cX6_wantedTable 53 = .ok (.getfield 15, 3) := by decide +kernel
theorem dX6_wantedTable_56 : decode cX6_wantedTable 56 = .ok (.iload_n 1, 1) := by decide +kernel
theorem dX6_wantedTable_57 : decode cX6_wantedTable 57 = .ok (.aaload, 1) := by decide +kernel
theorem dX6_wantedTable_58 : decode cX6_wantedTable 58 = .ok (.goto 4, 3) := by decide +kernel
theorem dX6_wantedTable_61 : decode cX6_wantedTable 61 = .ok (.aconst_null, 1) := by decide +kernel
theorem dX6_wantedTable_62 : decode cX6_wantedTable 62 = .ok (.areturn, 1) := by decide +kernel
theorem dX6_writeParts_0 : decode cX6_writeParts 0 = .ok (.iload_n 2, 1) := by decide +kernel
theorem dX6_writeParts_1 : decode cX6_writeParts 1 = .ok (.iconst 4, 1) := by decide +kernel
theorem dX6_writeParts_2 : decode cX6_writeParts 2 = .ok (.if_icmp .le 4, 3) := by decide +kernel
theorem dX6_writeParts_5 : decode cX6_writeParts 5 = .ok (.return_, 1) := by decide +kernel
theorem dX6_writeParts_6 : decode cX6_writeParts 6 = .ok (.iconst 0, 1) := by decide +kernel
theorem dX6_writeParts_7 : decode cX6_writeParts 7 = .ok (.istore_n 3, 1) := by decide +kernel
theorem dX6_writeParts_8 : decode cX6_writeParts 8 = .ok (.iload_n 3, 1) := by decide +kernel
theorem dX6_writeParts_9 : decode cX6_writeParts 9 = .ok (.aload_n 0, 1) := by decide +kernel
theorem dX6_writeParts_10 : decode cX6_writeParts 10 = .ok (.getfield 9, 3) := by decide +kernel
theorem dX6_writeParts_13 : decode cX6_writeParts 13 = .ok (.getfield 55, 3) := by decide +kernel
theorem dX6_writeParts_16 : decode cX6_writeParts 16 = .ok (.if_icmp .ge 28, 3) := by decide +kernel
theorem dX6_writeParts_19 : decode cX6_writeParts 19 = .ok (.aload_n 0, 1) := by decide +kernel
theorem dX6_writeParts_20 : decode cX6_writeParts 20 = .ok (.getfield 9, 3) := by decide +kernel
theorem dX6_writeParts_23 : decode cX6_writeParts 23 = .ok (.getfield 58, 3) := by decide +kernel
theorem dX6_writeParts_26 : decode cX6_writeParts 26 = .ok (.iload_n 3, 1) := by decide +kernel
theorem dX6_writeParts_27 : decode cX6_writeParts 27 = .ok (.iaload, 1) := by decide +kernel
theorem dX6_writeParts_28 : decode cX6_writeParts 28 = .ok (.iload_n 1, 1) := by decide +kernel
theorem dX6_writeParts_29 : decode cX6_writeParts 29 = .ok (.if_icmp .ne 9, 3) := by decide +kernel
theorem dX6_writeParts_32 : decode cX6_writeParts 32 = .ok (.aload_n 0, 1) := by decide +kernel
theorem dX6_writeParts_33 : decode cX6_writeParts 33 = .ok (.iload_n 3, 1) := by decide +kernel
theorem dX6_writeParts_34 : decode cX6_writeParts 34 = .ok (.iload_n 2, 1) := by decide +kernel
theorem dX6_writeParts_35 : decode cX6_writeParts 35 = .ok (.invokevirtual 61, 3) := by decide +kernel
theorem dX6_writeParts_38 : decode cX6_writeParts 38 = .ok (.iinc 3 1, 3) := by decide +kernel
theorem dX6_writeParts_41 : decode cX6_writeParts 41 = .ok (.goto (-33), 3) := by decide +kernel
theorem dX6_writeParts_44 : decode cX6_writeParts 44 = .ok (.return_, 1) := by decide +kernel
theorem dX6_writeField_0 : decode cX6_writeField 0 = .ok (.aload_n 0, 1) := by decide +kernel
theorem dX6_writeField_1 : decode cX6_writeField 1 = .ok (.iload_n 1, 1) := by decide +kernel
theorem dX6_writeField_2 : decode cX6_writeField 2 = .ok (.invokevirtual 64, 3) := by decide +kernel
theorem dX6_writeField_5 : decode cX6_writeField 5 = .ok (.istore_n 3, 1) := by decide +kernel
theorem dX6_writeField_6 : decode cX6_writeField 6 = .ok (.aload_n 0, 1) := by decide +kernel
theorem dX6_writeField_7 : decode cX6_writeField 7 = .ok (.iload_n 3, 1) := by decide +kernel
theorem dX6_writeField_8 : decode cX6_writeField 8 = .ok (.invokevirtual 36, 3) := by decide +kernel
theorem dX6_writeField_11 : decode cX6_writeField 11 = .ok (.astore 4, 2) := by decide +kernel
theorem dX6_writeField_13 : decode cX6_writeField 13 = .ok (.aload 4, 2) := by decide +kernel
theorem dX6_writeField_15 : decode cX6_writeField 15 = .ok (.ifnull 17, 3) := by decide +kernel
theorem dX6_writeField_18 : decode cX6_writeField 18 = .ok (.aload 4, 2) := by decide +kernel
theorem dX6_writeField_20 : decode cX6_writeField 20 = .ok (.aload_n 0, 1) := by decide +kernel
theorem dX6_writeField_21 : decode cX6_writeField 21 = .ok (.getfield 27, 3) := by decide +kernel
theorem dX6_writeField_24 : decode cX6_writeField 24 = .ok (.iload_n 3, 1) := by decide +kernel
theorem dX6_writeField_25 : decode cX6_writeField 25 = .ok (.iaload, 1) := by decide +kernel
theorem dX6_writeField_26 : decode cX6_writeField 26 = .ok (.invokevirtual 67, 3) := by decide +kernel
theorem dX6_writeField_29 : decode cX6_writeField 29 = .ok (.ifCond .ne 4, 3) := by decide +kernel
theorem dX6_writeField_32 : decode cX6_writeField 32 = .ok (.return_, 1) := by decide +kernel
theorem dX6_writeField_33 : decode cX6_writeField 33 = .ok (.aload 4, 2) := by decide +kernel
theorem dX6_writeField_35 : decode cX6_writeField 35 = .ok (.getfield 71, 3) := by decide +kernel
theorem dX6_writeField_38 : decode cX6_writeField 38 = .ok (.aload_n 0, 1) := by decide +kernel
theorem dX6_writeField_39 : decode cX6_writeField 39 = .ok (.getfield 27, 3) := by decide +kernel
theorem dX6_writeField_42 : decode cX6_writeField 42 = .ok (.iload_n 3, 1) := by decide +kernel
theorem dX6_writeField_43 : decode cX6_writeField 43 = .ok (.iaload, 1) := by decide +kernel
theorem dX6_writeField_44 : decode cX6_writeField 44 = .ok (.iaload, 1) := by decide +kernel
theorem dX6_writeField_45 : decode cX6_writeField 45 = .ok (.aload_n 0, 1) := by decide +kernel
theorem dX6_writeField_46 : decode cX6_writeField 46 = .ok (.getfield 9, 3) := by decide +kernel
theorem dX6_writeField_49 : decode cX6_writeField 49 = .ok (.getfield 74, 3) := by decide +kernel
theorem dX6_writeField_52 : decode cX6_writeField 52 = .ok (.iload_n 1, 1) := by decide +kernel
theorem dX6_writeField_53 : decode cX6_writeField 53 = .ok (.iaload, 1) := by decide +kernel
theorem dX6_writeField_54 : decode cX6_writeField 54 = .ok (.if_icmp .ge 9, 3) := by decide +kernel
theorem dX6_writeField_57 : decode cX6_writeField 57 = .ok (.aload_n 0, 1) := by decide +kernel
theorem dX6_writeField_58 : decode cX6_writeField 58 = .ok (.iload_n 1, 1) := by decide +kernel
theorem dX6_writeField_59 : decode cX6_writeField 59 = .ok (.invokevirtual 77, 3) := by decide +kernel
theorem dX6_writeField_62 : decode cX6_writeField 62 = .ok (.return_, 1) := by decide +kernel
theorem dX6_writeField_63 : decode cX6_writeField 63 = .ok (.iconst 1, 1) := by decide +kernel
theorem dX6_writeField_64 : decode cX6_writeField 64 = .ok (.istore 5, 2) := by decide +kernel
theorem dX6_writeField_66 : decode cX6_writeField 66 = .ok (.iconst 0, 1) := by decide +kernel
theorem dX6_writeField_67 : decode cX6_writeField 67 = .ok (.istore 6, 2) := by decide +kernel
theorem dX6_writeField_69 : decode cX6_writeField 69 = .ok (.iload 6, 2) := by decide +kernel
theorem dX6_writeField_71 : decode cX6_writeField 71 = .ok (.sipush 400, 3) := by decide +kernel
theorem dX6_writeField_74 : decode cX6_writeField 74 = .ok (.if_icmp .ge 118, 3) := by decide +kernel
theorem dX6_writeField_77 : decode cX6_writeField 77 = .ok (.iload 5, 2) := by decide +kernel
theorem dX6_writeField_79 : decode cX6_writeField 79 = .ok (.ifCond .eq 113, 3) := by decide +kernel
theorem dX6_writeField_82 : decode cX6_writeField 82 = .ok (.aload_n 0, 1) := by decide +kernel
theorem dX6_writeField_83 : decode cX6_writeField 83 = .ok (.getfield 23, 3) := by decide +kernel
theorem dX6_writeField_86 : decode cX6_writeField 86 = .ok (.aload_n 0, 1) := by decide +kernel
theorem dX6_writeField_87 : decode cX6_writeField 87 = .ok (.getfield 9, 3) := by decide +kernel
theorem dX6_writeField_90 : decode cX6_writeField 90 = .ok (.getfield 81, 3) := by decide +kernel
theorem dX6_writeField_93 : decode cX6_writeField 93 = .ok (.iload_n 1, 1) := by decide +kernel
theorem dX6_writeField_94 : decode cX6_writeField 94 = .ok (.laload, 1) := by decide +kernel
theorem dX6_writeField_95 : decode cX6_writeField 95 = .ok (.invokevirtual 85, 3) := by decide +kernel
theorem dX6_writeField_98 : decode cX6_writeField 98 = .ok (.aload_n 0, 1) := by decide +kernel
theorem dX6_writeField_99 : decode cX6_writeField 99 = .ok (.getfield 23, 3) := by decide +kernel
theorem dX6_writeField_102 : decode cX6_writeField 102 = .ok (.bipush 58, 2) := by decide +kernel
theorem dX6_writeField_104 : decode cX6_writeField 104 = .ok (.invokevirtual 89, 3) := by decide +kernel
theorem dX6_writeField_107 : decode cX6_writeField 107 = .ok (.aload_n 0, 1) := by decide +kernel
theorem dX6_writeField_108 : decode cX6_writeField 108 = .ok (.getfield 9, 3) := by decide +kernel
theorem dX6_writeField_111 : decode cX6_writeField 111 = .ok (.getfield 92, 3) := by decide +kernel
theorem dX6_writeField_114 : decode cX6_writeField 114 = .ok (.iload_n 1, 1) := by decide +kernel
theorem dX6_writeField_115 : decode cX6_writeField 115 = .ok (.iaload, 1) := by decide +kernel
theorem dX6_writeField_116 : decode cX6_writeField 116 = .ok (.iconst 3, 1) := by decide +kernel
theorem dX6_writeField_117 : decode cX6_writeField 117 = .ok (.if_icmp .ne 12, 3) := by decide +kernel
theorem dX6_writeField_120 : decode cX6_writeField 120 = .ok (.aload_n 0, 1) := by decide +kernel
theorem dX6_writeField_121 : decode cX6_writeField 121 = .ok (.iload_n 1, 1) := by decide +kernel
theorem dX6_writeField_122 : decode cX6_writeField 122 = .ok (.iload_n 2, 1) := by decide +kernel
theorem dX6_writeField_123 : decode cX6_writeField 123 = .ok (.invokevirtual 95, 3) := by decide +kernel
theorem dX6_writeField_126 : decode cX6_writeField 126 = .ok (.goto 8, 3) := by decide +kernel
theorem dX6_writeField_129 : decode cX6_writeField 129 = .ok (.aload_n 0, 1) := by decide +kernel
theorem dX6_writeField_130 : decode cX6_writeField 130 = .ok (.iload_n 3, 1) := by decide +kernel
theorem dX6_writeField_131 : decode cX6_writeField 131 = .ok (.invokevirtual 98, 3) := by decide +kernel
theorem dX6_writeField_134 : decode cX6_writeField 134 = .ok (.aload_n 0, 1) := by decide +kernel
theorem dX6_writeField_135 : decode cX6_writeField 135 = .ok (.getfield 23, 3) := by decide +kernel
theorem dX6_writeField_138 : decode cX6_writeField 138 = .ok (.bipush 59, 2) := by decide +kernel
theorem dX6_writeField_140 : decode cX6_writeField 140 = .ok (.invokevirtual 89, 3) := by decide +kernel
theorem dX6_writeField_143 : decode cX6_writeField 143 = .ok (.aload_n 0, 1) := by decide +kernel
theorem dX6_writeField_144 : decode cX6_writeField 144 = .ok (.getfield 9, 3) := by decide +kernel
theorem dX6_writeField_147 : decode cX6_writeField 147 = .ok (.getfield 101, 3) := by decide +kernel
theorem dX6_writeField_150 : decode cX6_writeField 150 = .ok (.iload_n 1, 1) := by decide +kernel
theorem dX6_writeField_151 : decode cX6_writeField 151 = .ok (.iaload, 1) := by decide +kernel
theorem dX6_writeField_152 : decode cX6_writeField 152 = .ok (.iconst 3, 1) := by decide +kernel
theorem dX6_writeField_153 : decode cX6_writeField 153 = .ok (.if_icmp .ne 30, 3) := by decide +kernel
theorem dX6_writeField_156 : decode cX6_writeField 156 = .ok (.aload 4, 2) := by decide +kernel
theorem dX6_writeField_158 : decode cX6_writeField 158 = .ok (.aload_n 0, 1) := by decide +kernel
theorem dX6_writeField_159 : decode cX6_writeField 159 = .ok (.getfield 27, 3) := by decide +kernel
theorem dX6_writeField_162 : decode cX6_writeField 162 = .ok (.iload_n 3, 1) := by decide +kernel
theorem dX6_writeField_163 : decode cX6_writeField 163 = .ok (.iaload, 1) := by decide +kernel
theorem dX6_writeField_164 : decode cX6_writeField 164 = .ok (.aload_n 0, 1) := by decide +kernel
theorem dX6_writeField_165 : decode cX6_writeField 165 = .ok (.getfield 9, 3) := by decide +kernel
theorem dX6_writeField_168 : decode cX6_writeField 168 = .ok (.getfield 104, 3) := by decide +kernel
theorem dX6_writeField_171 : decode cX6_writeField 171 = .ok (.iload_n 1, 1) := by decide +kernel
theorem dX6_writeField_172 : decode cX6_writeField 172 = .ok (.iaload, 1) := by decide +kernel
theorem dX6_writeField_173 : decode cX6_writeField 173 = .ok (.invokevirtual 107, 3) := by decide +kernel
theorem dX6_writeField_176 : decode cX6_writeField 176 = .ok (.ifCond .eq 7, 3) := by decide +kernel
theorem dX6_writeField_179 : decode cX6_writeField 179 = .ok (.iconst 1, 1) := by decide +kernel
theorem dX6_writeField_180 : decode cX6_writeField 180 = .ok (.goto 4, 3) := by decide +kernel
theorem dX6_writeField_183 : decode cX6_writeField 183 = .ok (.iconst 0, 1) := by decide +kernel
theorem dX6_writeField_184 : decode cX6_writeField 184 = .ok (.istore 5, 2) := by decide +kernel
theorem dX6_writeField_186 : decode cX6_writeField 186 = .ok (.iinc 6 1, 3) := by decide +kernel
theorem dX6_writeField_189 : decode cX6_writeField 189 = .ok (.goto (-120), 3) := by decide +kernel
theorem dX6_writeField_192 : decode cX6_writeField 192 = .ok (.return_, 1) := by decide +kernel
theorem dX6_writeGroup_0 : decode cX6_writeGroup 0 = .ok (.aload_n 0, 1) := by decide +kernel
theorem dX6_writeGroup_1 : decode cX6_writeGroup 1 = .ok (.getfield 23, 3) := by decide +kernel
theorem dX6_writeGroup_4 : decode cX6_writeGroup 4 = .ok (.bipush 91, 2) := by decide +kernel
theorem dX6_writeGroup_6 : decode cX6_writeGroup 6 = .ok (.invokevirtual 89, 3) := by decide +kernel
theorem dX6_writeGroup_9 : decode cX6_writeGroup 9 = .ok (.aload_n 0, 1) := by decide +kernel
theorem dX6_writeGroup_10 : decode cX6_writeGroup 10 = .ok (.iload_n 1, 1) := by decide +kernel
theorem dX6_writeGroup_11 : decode cX6_writeGroup 11 = .ok (.iload_n 2, 1) := by decide +kernel
theorem dX6_writeGroup_12 : decode cX6_writeGroup 12 = .ok (.iconst 1, 1) := by decide +kernel
theorem dX6_writeGroup_13 : decode cX6_writeGroup 13 = .ok (.iadd, 1) := by decide +kernel
theorem dX6_writeGroup_14 : decode cX6_writeGroup 14 = .ok (.invokevirtual 46, 3) := by decide +kernel
theorem dX6_writeGroup_17 : decode cX6_writeGroup 17 = .ok (.aload_n 0, 1) := by decide +kernel
theorem dX6_writeGroup_18 : decode cX6_writeGroup 18 = .ok (.getfield 23, 3) := by decide +kernel
theorem dX6_writeGroup_21 : decode cX6_writeGroup 21 = .ok (.bipush 93, 2) := by decide +kernel
theorem dX6_writeGroup_23 : decode cX6_writeGroup 23 = .ok (.invokevirtual 89, 3) := by decide +kernel
theorem dX6_writeGroup_26 : decode cX6_writeGroup 26 = .ok (.return_, 1) := by decide +kernel
theorem dX6_writeLeaf_0 : decode cX6_writeLeaf 0 = .ok (.aload_n 0, 1) := by decide +kernel
theorem dX6_writeLeaf_1 : decode cX6_writeLeaf 1 = .ok (.iload_n 1, 1) := by decide +kernel
theorem dX6_writeLeaf_2 : decode cX6_writeLeaf 2 = .ok (.invokevirtual 36, 3) := by decide +kernel
theorem dX6_writeLeaf_5 : decode cX6_writeLeaf 5 = .ok (.astore_n 2, 1) := by decide +kernel
theorem dX6_writeLeaf_6 : decode cX6_writeLeaf 6 = .ok (.aload_n 2, 1) := by decide +kernel
theorem dX6_writeLeaf_7 : decode cX6_writeLeaf 7 = .ok (.ifnull 16, 3) := by decide +kernel
theorem dX6_writeLeaf_10 : decode cX6_writeLeaf 10 = .ok (.aload_n 2, 1) := by decide +kernel
theorem dX6_writeLeaf_11 : decode cX6_writeLeaf 11 = .ok (.aload_n 0, 1) := by decide +kernel
theorem dX6_writeLeaf_12 : decode cX6_writeLeaf 12 = .ok (.getfield 27, 3) := by decide +kernel
theorem dX6_writeLeaf_15 : decode cX6_writeLeaf 15 = .ok (.iload_n 1, 1) := by decide +kernel
theorem dX6_writeLeaf_16 : decode cX6_writeLeaf 16 = .ok (.iaload, 1) := by decide +kernel
theorem dX6_writeLeaf_17 : decode cX6_writeLeaf 17 = .ok (.invokevirtual 111, 3) := by decide +kernel
theorem dX6_writeLeaf_20 : decode cX6_writeLeaf 20 = .ok (.ifCond .ne 4, 3) := by decide +kernel
theorem dX6_writeLeaf_23 : decode cX6_writeLeaf 23 = .ok (.return_, 1) := by decide +kernel
theorem dX6_writeLeaf_24 : decode cX6_writeLeaf 24 = .ok (.aload_n 2, 1) := by decide +kernel
theorem dX6_writeLeaf_25 : decode cX6_writeLeaf 25 = .ok (.getfield 114, 3) := by decide +kernel
theorem dX6_writeLeaf_28 : decode cX6_writeLeaf 28 = .ok (.aload_n 0, 1) := by decide +kernel
theorem dX6_writeLeaf_29 : decode cX6_writeLeaf 29 = .ok (.getfield 27, 3) := by decide +kernel
theorem dX6_writeLeaf_32 : decode cX6_writeLeaf 32 = .ok (.iload_n 1, 1) := by decide +kernel
theorem dX6_writeLeaf_33 : decode cX6_writeLeaf 33 = .ok (.iaload, 1) := by decide +kernel
theorem dX6_writeLeaf_34 : decode cX6_writeLeaf 34 = .ok (.laload, 1) := by decide +kernel
theorem dX6_writeLeaf_35 : decode cX6_writeLeaf 35 = .ok (.lstore_n 3, 1) := by decide +kernel
theorem dX6_writeLeaf_36 : decode cX6_writeLeaf 36 = .ok (.aload_n 0, 1) := by decide +kernel
theorem dX6_writeLeaf_37 : decode cX6_writeLeaf 37 = .ok (.getfield 27, 3) := by decide +kernel
theorem dX6_writeLeaf_40 : decode cX6_writeLeaf 40 = .ok (.iload_n 1, 1) := by decide +kernel
theorem dX6_writeLeaf_41 : decode cX6_writeLeaf 41 = .ok (.dup2, 1) := by decide +kernel
theorem dX6_writeLeaf_42 : decode cX6_writeLeaf 42 = .ok (.iaload, 1) := by decide +kernel
theorem dX6_writeLeaf_43 : decode cX6_writeLeaf 43 = .ok (.iconst 1, 1) := by decide +kernel
theorem dX6_writeLeaf_44 : decode cX6_writeLeaf 44 = .ok (.iadd, 1) := by decide +kernel
theorem dX6_writeLeaf_45 : decode cX6_writeLeaf 45 = .ok (.iastore, 1) := by decide +kernel
theorem dX6_writeLeaf_46 : decode cX6_writeLeaf 46 = .ok (.aload_n 2, 1) := by decide +kernel
theorem dX6_writeLeaf_47 : decode cX6_writeLeaf 47 = .ok (.getfield 117, 3) := by decide +kernel
theorem dX6_writeLeaf_50 : decode cX6_writeLeaf 50 = .ok (.ifCond .eq 14, 3) := by decide +kernel
theorem dX6_writeLeaf_53 : decode cX6_writeLeaf 53 = .ok (.aload_n 0, 1) := by decide +kernel
theorem dX6_writeLeaf_54 : decode cX6_writeLeaf 54 = .ok (.getfield 23, 3) := by decide +kernel
theorem dX6_writeLeaf_57 : decode cX6_writeLeaf 57 = .ok (.lload_n 3, 1) := by decide +kernel
theorem dX6_writeLeaf_58 : decode cX6_writeLeaf 58 = .ok (.invokevirtual 121, 3) := by decide +kernel
theorem dX6_writeLeaf_61 : decode cX6_writeLeaf 61 = .ok (.goto 11, 3) := by decide +kernel
theorem dX6_writeLeaf_64 : decode cX6_writeLeaf 64 = .ok (.aload_n 0, 1) := by decide +kernel
theorem dX6_writeLeaf_65 : decode cX6_writeLeaf 65 = .ok (.getfield 23, 3) := by decide +kernel
theorem dX6_writeLeaf_68 : decode cX6_writeLeaf 68 = .ok (.lload_n 3, 1) := by decide +kernel
theorem dX6_writeLeaf_69 : decode cX6_writeLeaf 69 = .ok (.invokevirtual 85, 3) := by decide +kernel
theorem dX6_writeLeaf_72 : decode cX6_writeLeaf 72 = .ok (.return_, 1) := by decide +kernel
theorem dX6_firstWantedLeaf_0 : decode cX6_firstWantedLeaf 0 = .ok (.iconst 0, 1) := by decide +kernel
theorem dX6_firstWantedLeaf_1 : decode cX6_firstWantedLeaf 1 = .ok (.istore_n 2, 1) := by decide +kernel
theorem dX6_firstWantedLeaf_2 : decode cX6_firstWantedLeaf 2 = .ok (.iload_n 2, 1) := by decide +kernel
theorem dX6_firstWantedLeaf_3 : decode cX6_firstWantedLeaf 3 = .ok (.aload_n 0, 1) := by decide +kernel
theorem dX6_firstWantedLeaf_4 : decode cX6_firstWantedLeaf 4 = .ok (.getfield 9, 3) := by decide +kernel
theorem dX6_firstWantedLeaf_7 : decode cX6_firstWantedLeaf 7 = .ok (.getfield 50, 3) := by decide +kernel
theorem dX6_firstWantedLeaf_10 : decode cX6_firstWantedLeaf 10 = .ok (.if_icmp .ge 20, 3) := by decide +kernel
theorem dX6_firstWantedLeaf_13 : decode cX6_firstWantedLeaf 13 = .ok (.aload_n 0, 1) := by decide +kernel
theorem dX6_firstWantedLeaf_14 : decode cX6_firstWantedLeaf 14 = .ok (.iload_n 1, 1) := by decide +kernel
theorem dX6_firstWantedLeaf_15 : decode cX6_firstWantedLeaf 15 = .ok (.iload_n 2, 1) := by decide +kernel
theorem dX6_firstWantedLeaf_16 : decode cX6_firstWantedLeaf 16 = .ok (.invokevirtual 124, 3) := by decide +kernel
theorem dX6_firstWantedLeaf_19 : decode cX6_firstWantedLeaf 19 = .ok (.ifCond .eq 5, 3) := by decide +kernel
theorem dX6_firstWantedLeaf_22 : decode cX6_firstWantedLeaf 22 = .ok (.iload_n 2, 1) := by decide +kernel
theorem dX6_firstWantedLeaf_23 : decode cX6_firstWantedLeaf 23 = .ok (.ireturn, 1) := by decide +kernel
theorem dX6_firstWantedLeaf_24 : decode cX6_firstWantedLeaf 24 = .ok (.iinc 2 1, 3) := by decide +kernel
theorem dX6_firstWantedLeaf_27 : decode cX6_firstWantedLeaf 27 = .ok (.goto (-25), 3) := by decide +kernel
theorem dX6_firstWantedLeaf_30 : decode cX6_firstWantedLeaf 30 = .ok (.iconst (-1), 1) := by decide +kernel
theorem dX6_firstWantedLeaf_31 : decode cX6_firstWantedLeaf 31 = .ok (.ireturn, 1) := by decide +kernel
theorem dX6_passLacking_0 : decode cX6_passLacking 0 = .ok (.iconst 0, 1) := by decide +kernel
theorem dX6_passLacking_1 : decode cX6_passLacking 1 = .ok (.istore_n 2, 1) := by decide +kernel
theorem dX6_passLacking_2 : decode cX6_passLacking 2 = .ok (.iload_n 2, 1) := by decide +kernel
theorem dX6_passLacking_3 : decode cX6_passLacking 3 = .ok (.aload_n 0, 1) := by decide +kernel
theorem dX6_passLacking_4 : decode cX6_passLacking 4 = .ok (.getfield 9, 3) := by decide +kernel
theorem dX6_passLacking_7 : decode cX6_passLacking 7 = .ok (.getfield 50, 3) := by decide +kernel
theorem dX6_passLacking_10 : decode cX6_passLacking 10 = .ok (.if_icmp .ge 34, 3) := by decide +kernel
theorem dX6_passLacking_13 : decode cX6_passLacking 13 = .ok (.iload_n 2, 1) := by decide +kernel
theorem dX6_passLacking_14 : decode cX6_passLacking 14 = .ok (.bipush 12, 2) := by decide +kernel
theorem dX6_passLacking_16 : decode cX6_passLacking 16 = .ok (.if_icmp .ge 28, 3) := by decide +kernel
theorem dX6_passLacking_19 : decode cX6_passLacking 19 = .ok (.aload_n 0, 1) := by decide +kernel
theorem dX6_passLacking_20 : decode cX6_passLacking 20 = .ok (.iload_n 1, 1) := by decide +kernel
theorem dX6_passLacking_21 : decode cX6_passLacking 21 = .ok (.iload_n 2, 1) := by decide +kernel
theorem dX6_passLacking_22 : decode cX6_passLacking 22 = .ok (.invokevirtual 124, 3) := by decide +kernel
theorem dX6_passLacking_25 : decode cX6_passLacking 25 = .ok (.ifCond .eq 13, 3) := by decide +kernel
theorem dX6_passLacking_28 : decode cX6_passLacking 28 = .ok (.aload_n 0, 1) := by decide +kernel
theorem dX6_passLacking_29 : decode cX6_passLacking 29 = .ok (.getfield 27, 3) := by decide +kernel
theorem dX6_passLacking_32 : decode cX6_passLacking 32 = .ok (.iload_n 2, 1) := by decide +kernel
theorem dX6_passLacking_33 : decode cX6_passLacking 33 = .ok (.dup2, 1) := by decide +kernel
theorem dX6_passLacking_34 : decode cX6_passLacking 34 = .ok (.iaload, 1) := by decide +kernel
theorem dX6_passLacking_35 : decode cX6_passLacking 35 = .ok (.iconst 1, 1) := by decide +kernel
theorem dX6_passLacking_36 : decode cX6_passLacking 36 = .ok (.iadd, 1) := by decide +kernel
theorem dX6_passLacking_37 : decode cX6_passLacking 37 = .ok (.iastore, 1) := by decide +kernel
theorem dX6_passLacking_38 : decode cX6_passLacking 38 = .ok (.iinc 2 1, 3) := by decide +kernel
theorem dX6_passLacking_41 : decode cX6_passLacking 41 = .ok (.goto (-39), 3) := by decide +kernel
theorem dX6_passLacking_44 : decode cX6_passLacking 44 = .ok (.return_, 1) := by decide +kernel
theorem dX6_isWantedBelow_0 : decode cX6_isWantedBelow 0 = .ok (.aload_n 0, 1) := by decide +kernel
theorem dX6_isWantedBelow_1 : decode cX6_isWantedBelow 1 = .ok (.iload_n 2, 1) := by decide +kernel
theorem dX6_isWantedBelow_2 : decode cX6_isWantedBelow 2 = .ok (.invokevirtual 36, 3) := by decide +kernel
theorem dX6_isWantedBelow_5 : decode cX6_isWantedBelow 5 = .ok (.ifnull 26, 3) := by decide +kernel
theorem dX6_isWantedBelow_8 : decode cX6_isWantedBelow 8 = .ok (.aload_n 0, 1) := by decide +kernel
theorem dX6_isWantedBelow_9 : decode cX6_isWantedBelow 9 = .ok (.getfield 9, 3) := by decide +kernel
theorem dX6_isWantedBelow_12 : decode cX6_isWantedBelow 12 = .ok (.iload_n 1, 1) := by decide +kernel
theorem dX6_isWantedBelow_13 : decode cX6_isWantedBelow 13 = .ok (.aload_n 0, 1) := by decide +kernel
theorem dX6_isWantedBelow_14 : decode cX6_isWantedBelow 14 = .ok (.getfield 9, 3) := by decide +kernel
theorem dX6_isWantedBelow_17 : decode cX6_isWantedBelow 17 = .ok (.iload_n 2, 1) := by decide +kernel
theorem dX6_isWantedBelow_18 : decode cX6_isWantedBelow 18 = .ok (.invokevirtual 127, 3) := by decide +kernel
theorem dX6_isWantedBelow_21 : decode cX6_isWantedBelow 21 = .ok (.invokevirtual 130, 3) := by decide +kernel
theorem dX6_isWantedBelow_24 : decode cX6_isWantedBelow 24 = .ok (.ifCond .eq 7, 3) := by decide +kernel
theorem dX6_isWantedBelow_27 : decode cX6_isWantedBelow 27 = .ok (.iconst 1, 1) := by decide +kernel
theorem dX6_isWantedBelow_28 : decode cX6_isWantedBelow 28 = .ok (.goto 4, 3) := by decide +kernel
theorem dX6_isWantedBelow_31 : decode cX6_isWantedBelow 31 = .ok (.iconst 0, 1) := by decide +kernel
theorem dX6_isWantedBelow_32 : decode cX6_isWantedBelow 32 = .ok (.ireturn, 1) := by decide +kernel
theorem dX7_init_0 : decode cX7_init 0 = .ok (.aload_n 0, 1) := by decide +kernel
theorem dX7_init_1 : decode cX7_init 1 = .ok (.invokespecial 3, 3) := by decide +kernel
theorem dX7_init_4 : decode cX7_init 4 = .ok (.aload_n 0, 1) := by decide +kernel
theorem dX7_init_5 : decode cX7_init 5 = .ok (.new 9, 3) := by decide +kernel
theorem dX7_init_8 : decode cX7_init 8 = .ok (.dup, 1) := by decide +kernel
theorem dX7_init_9 : decode cX7_init 9 = .ok (.invokespecial 11, 3) := by decide +kernel
theorem dX7_init_12 : decode cX7_init 12 = .ok (.putfield 12, 3) := by decide +kernel
theorem dX7_init_15 : decode cX7_init 15 = .ok (.aload_n 0, 1) := by decide +kernel
theorem dX7_init_16 : decode cX7_init 16 = .ok (.bipush 12, 2) := by decide +kernel
theorem dX7_init_18 : decode cX7_init 18 = .ok (.anewarray 16, 3) := by decide +kernel
theorem dX7_init_21 : decode cX7_init 21 = .ok (.putfield 18, 3) := by decide +kernel
theorem dX7_init_24 : decode cX7_init 24 = .ok (.iconst 0, 1) := by decide +kernel
theorem dX7_init_25 : decode cX7_init 25 = .ok (.istore_n 1, 1) := by decide +kernel
theorem dX7_init_26 : decode cX7_init 26 = .ok (.iload_n 1, 1) := by decide +kernel
theorem dX7_init_27 : decode cX7_init 27 = .ok (.bipush 12, 2) := by decide +kernel
theorem dX7_init_29 : decode cX7_init 29 = .ok (.if_icmp .ge 22, 3) := by decide +kernel
theorem dX7_init_32 : decode cX7_init 32 = .ok (.aload_n 0, 1) := by decide +kernel
theorem dX7_init_33 : decode cX7_init 33 = .ok (.getfield 18, 3) := by decide +kernel
theorem dX7_init_36 : decode cX7_init 36 = .ok (.iload_n 1, 1) := by decide +kernel
theorem dX7_init_37 : decode cX7_init 37 = .ok (.new 16, 3) := by decide +kernel
theorem dX7_init_40 : decode cX7_init 40 = .ok (.dup, 1) := by decide +kernel
theorem dX7_init_41 : decode cX7_init 41 = .ok (.invokespecial 22, 3) := by decide +kernel
theorem dX7_init_44 : decode cX7_init 44 = .ok (.aastore, 1) := by decide +kernel
theorem dX7_init_45 : decode cX7_init 45 = .ok (.iinc 1 1, 3) := by decide +kernel
theorem dX7_init_48 : decode cX7_init 48 = .ok (.goto (-22), 3) := by decide +kernel
theorem dX7_init_51 : decode cX7_init 51 = .ok (.aload_n 0, 1) := by decide +kernel
theorem dX7_init_52 : decode cX7_init 52 = .ok (.new 23, 3) := by decide +kernel
theorem dX7_init_55 : decode cX7_init 55 = .ok (.dup, 1) := by decide +kernel
theorem dX7_init_56 : decode cX7_init 56 = .ok (.invokespecial 25, 3) := by decide +kernel
theorem dX7_init_59 : decode cX7_init 59 = .ok (.putfield 26, 3) := by decide +kernel
theorem dX7_init_62 : decode cX7_init 62 = .ok (.aload_n 0, 1) := by decide +kernel
theorem dX7_init_63 : decode cX7_init 63 = .ok (.new 30, 3) := by decide +kernel
theorem dX7_init_66 : decode cX7_init 66 = .ok (.dup, 1) := by decide +kernel
theorem dX7_init_67 : decode cX7_init 67 = .ok (.invokespecial 32, 3) := by decide +kernel
theorem dX7_init_70 : decode cX7_init 70 = .ok (.putfield 33, 3) := by decide +kernel
theorem dX7_init_73 : decode cX7_init 73 = .ok (.aload_n 0, 1) := by decide +kernel
theorem dX7_init_74 : decode cX7_init 74 = .ok (.new 30, 3) := by decide +kernel
theorem dX7_init_77 : decode cX7_init 77 = .ok (.dup, 1) := by decide +kernel
theorem dX7_init_78 : decode cX7_init 78 = .ok (.invokespecial 32, 3) := by decide +kernel
theorem dX7_init_81 : decode cX7_init 81 = .ok (.putfield 37, 3) := by decide +kernel
theorem dX7_init_84 : decode cX7_init 84 = .ok (.aload_n 0, 1) := by decide +kernel
theorem dX7_init_85 : decode cX7_init 85 = .ok (.iconst 0, 1) := by decide +kernel
theorem dX7_init_86 : decode cX7_init 86 = .ok (.putfield 40, 3) := by decide +kernel
theorem dX7_init_89 : decode cX7_init 89 = .ok (.return_, 1) := by decide +kernel
theorem dX7_feed_0 : decode cX7_feed 0 = .ok (.aload_n 0, 1) := by decide +kernel
theorem dX7_feed_1 : decode cX7_feed 1 = .ok (.getfield 12, 3) := by decide +kernel
theorem dX7_feed_4 : decode cX7_feed 4 = .ok (.getfield 44, 3) := by decide +kernel
theorem dX7_feed_7 : decode cX7_feed 7 = .ok (.sipush 380, 3) := by decide +kernel
theorem dX7_feed_10 : decode cX7_feed 10 = .ok (.if_icmp .le 5, 3) := by decide +kernel
theorem dX7_feed_13 : decode cX7_feed 13 = .ok (.iconst (-1), 1) := by decide +kernel
theorem dX7_feed_14 : decode cX7_feed 14 = .ok (.ireturn, 1) := by decide +kernel
theorem dX7_feed_15 : decode cX7_feed 15 = .ok (.aload_n 0, 1) := by decide +kernel
theorem dX7_feed_16 : decode cX7_feed 16 = .ok (.getfield 12, 3) := by decide +kernel
theorem dX7_feed_19 : decode cX7_feed 19 = .ok (.iload_n 1, 1) := by decide +kernel
theorem dX7_feed_20 : decode cX7_feed 20 = .ok (.invokevirtual 47, 3) := by decide +kernel
theorem dX7_feed_23 : decode cX7_feed 23 = .ok (.aload_n 0, 1) := by decide +kernel
theorem dX7_feed_24 : decode cX7_feed 24 = .ok (.getfield 12, 3) := by decide +kernel
theorem dX7_feed_27 : decode cX7_feed 27 = .ok (.iload_n 2, 1) := by decide +kernel
theorem dX7_feed_28 : decode cX7_feed 28 = .ok (.invokevirtual 47, 3) := by decide +kernel
theorem dX7_feed_31 : decode cX7_feed 31 = .ok (.aload_n 0, 1) := by decide +kernel
theorem dX7_feed_32 : decode cX7_feed 32 = .ok (.getfield 12, 3) := by decide +kernel
theorem dX7_feed_35 : decode cX7_feed 35 = .ok (.iload_n 3, 1) := by decide +kernel
theorem dX7_feed_36 : decode cX7_feed 36 = .ok (.invokevirtual 47, 3) := by decide +kernel
theorem dX7_feed_39 : decode cX7_feed 39 = .ok (.aload_n 0, 1) := by decide +kernel
theorem dX7_feed_40 : decode cX7_feed 40 = .ok (.getfield 12, 3) := by decide +kernel
theorem dX7_feed_43 : decode cX7_feed 43 = .ok (.iload 4, 2) := by decide +kernel
theorem dX7_feed_45 : decode cX7_feed 45 = .ok (.invokevirtual 47, 3) := by decide +kernel
theorem dX7_feed_48 : decode cX7_feed 48 = .ok (.aload_n 0, 1) := by decide +kernel
theorem dX7_feed_49 : decode cX7_feed 49 = .ok (.getfield 12, 3) := by decide +kernel
theorem dX7_feed_52 : decode cX7_feed 52 = .ok (.iload 5, 2) := by decide +kernel
theorem dX7_feed_54 : decode cX7_feed 54 = .ok (.invokevirtual 47, 3) := by decide +kernel
theorem dX7_feed_57 : decode cX7_feed 57 = .ok (.aload_n 0, 1) := by decide +kernel
theorem dX7_feed_58 : decode cX7_feed 58 = .ok (.getfield 12, 3) := by decide +kernel
theorem dX7_feed_61 : decode cX7_feed 61 = .ok (.getfield 44, 3) := by decide +kernel
theorem dX7_feed_64 : decode cX7_feed 64 = .ok (.ireturn, 1) := by decide +kernel
theorem dX7_end_0 : decode cX7_end 0 = .ok (.iload_n 1, 1) := by decide +kernel
theorem dX7_end_1 : decode cX7_end 1 = .ok (.ifCond .lt 14, 3) := by decide +kernel
theorem dX7_end_4 : decode cX7_end 4 = .ok (.iload_n 1, 1) := by decide +kernel
theorem dX7_end_5 : decode cX7_end 5 = .ok (.aload_n 0, 1) := by decide +kernel
theorem dX7_end_6 : decode cX7_end 6 = .ok (.getfield 12, 3) := by decide +kernel
theorem dX7_end_9 : decode cX7_end 9 = .ok (.getfield 44, 3) := by decide +kernel
theorem dX7_end_12 : decode cX7_end 12 = .ok (.if_icmp .le 5, 3) := by decide +kernel
theorem dX7_end_15 : decode cX7_end 15 = .ok (.iconst 0, 1) := by decide +kernel
theorem dX7_end_16 : decode cX7_end 16 = .ok (.ireturn, 1) := by decide +kernel
theorem dX7_end_17 : decode cX7_end 17 = .ok (.aload_n 0, 1) := by decide +kernel
theorem dX7_end_18 : decode cX7_end 18 = .ok (.getfield 12, 3) := by decide +kernel
theorem dX7_end_21 : decode cX7_end 21 = .ok (.iload_n 1, 1) := by decide +kernel
theorem dX7_end_22 : decode cX7_end 22 = .ok (.putfield 44, 3) := by decide +kernel
theorem dX7_end_25 : decode cX7_end 25 = .ok (.iconst 1, 1) := by decide +kernel
theorem dX7_end_26 : decode cX7_end 26 = .ok (.ireturn, 1) := by decide +kernel
theorem dX7_shape_0 : decode cX7_shape 0 = .ok (.new 51, 3) := by decide +kernel
theorem dX7_shape_3 : decode cX7_shape 3 = .ok (.dup, 1) := by decide +kernel
theorem dX7_shape_4 : decode cX7_shape 4 = .ok (.aload_n 0, 1) := by decide +kernel
theorem dX7_shape_5 : decode cX7_shape 5 = .ok (.getfield 12, 3) := by decide +kernel
theorem dX7_shape_8 : decode cX7_shape 8 = .ok (.aload_n 0, 1) := by decide +kernel
theorem dX7_shape_9 : decode cX7_shape 9 = .ok (.getfield 37, 3) := by decide +kernel
theorem dX7_shape_12 : decode cX7_shape 12 = .ok (.invokespecial 53, 3) := by decide +kernel
theorem dX7_shape_15 : decode cX7_shape 15 = .ok (.invokevirtual 56, 3) := by decide +kernel
theorem dX7_shape_18 : decode cX7_shape 18 = .ok (.istore_n 1, 1) := by decide +kernel
theorem dX7_shape_19 : decode cX7_shape 19 = .ok (.aload_n 0, 1) := by decide +kernel
theorem dX7_shape_20 : decode cX7_shape 20 = .ok (.getfield 12, 3) := by decide +kernel
theorem dX7_shape_23 : decode cX7_shape 23 = .ok (.iconst 0, 1) := by decide +kernel
theorem dX7_shape_24 : decode cX7_shape 24 = .ok (.putfield 44, 3) := by decide +kernel
theorem dX7_shape_27 : decode cX7_shape 27 = .ok (.iload_n 1, 1) := by decide +kernel
theorem dX7_shape_28 : decode cX7_shape 28 = .ok (.ifCond .ne 5, 3) := by decide +kernel
theorem dX7_shape_31 : decode cX7_shape 31 = .ok (.iconst (-1), 1) := by decide +kernel
theorem dX7_shape_32 : decode cX7_shape 32 = .ok (.ireturn, 1) := by decide +kernel
theorem dX7_shape_33 : decode cX7_shape 33 = .ok (.aload_n 0, 1) := by decide +kernel
theorem dX7_shape_34 : decode cX7_shape 34 = .ok (.getfield 33, 3) := by decide +kernel
theorem dX7_shape_37 : decode cX7_shape 37 = .ok (.astore_n 2, 1) := by decide +kernel
theorem dX7_shape_38 : decode cX7_shape 38 = .ok (.aload_n 0, 1) := by decide +kernel
theorem dX7_shape_39 : decode cX7_shape 39 = .ok (.aload_n 0, 1) := by decide +kernel
theorem dX7_shape_40 : decode cX7_shape 40 = .ok (.getfield 37, 3) := by decide +kernel
theorem dX7_shape_43 : decode cX7_shape 43 = .ok (.putfield 33, 3) := by decide +kernel
theorem dX7_shape_46 : decode cX7_shape 46 = .ok (.aload_n 0, 1) := by decide +kernel
theorem dX7_shape_47 : decode cX7_shape 47 = .ok (.aload_n 2, 1) := by decide +kernel
theorem dX7_shape_48 : decode cX7_shape 48 = .ok (.putfield 37, 3) := by decide +kernel
theorem dX7_shape_51 : decode cX7_shape 51 = .ok (.aload_n 0, 1) := by decide +kernel
theorem dX7_shape_52 : decode cX7_shape 52 = .ok (.iconst 0, 1) := by decide +kernel
theorem dX7_shape_53 : decode cX7_shape 53 = .ok (.putfield 40, 3) := by decide +kernel
theorem dX7_shape_56 : decode cX7_shape 56 = .ok (.iconst 0, 1) := by decide +kernel
theorem dX7_shape_57 : decode cX7_shape 57 = .ok (.istore_n 3, 1) := by decide +kernel
theorem dX7_shape_58 : decode cX7_shape 58 = .ok (.iload_n 3, 1) := by decide +kernel
theorem dX7_shape_59 : decode cX7_shape 59 = .ok (.aload_n 0, 1) := by decide +kernel
theorem dX7_shape_60 : decode cX7_shape 60 = .ok (.getfield 33, 3) := by decide +kernel
theorem dX7_shape_63 : decode cX7_shape 63 = .ok (.getfield 60, 3) := by decide +kernel
theorem dX7_shape_66 : decode cX7_shape 66 = .ok (.if_icmp .ge 14, 3) := by decide +kernel
theorem dX7_shape_69 : decode cX7_shape 69 = .ok (.aload_n 0, 1) := by decide +kernel
theorem dX7_shape_70 : decode cX7_shape 70 = .ok (.iload_n 3, 1) := by decide +kernel
theorem dX7_shape_71 : decode cX7_shape 71 = .ok (.invokevirtual 63, 3) := by decide +kernel
theorem dX7_shape_74 : decode cX7_shape 74 = .ok (.iinc 3 1, 3) := by decide +kernel
theorem dX7_shape_77 : decode cX7_shape 77 = .ok (.goto (-19), 3) := by decide +kernel
theorem dX7_shape_80 : decode cX7_shape 80 = .ok (.aload_n 0, 1) := by decide +kernel
theorem dX7_shape_81 : decode cX7_shape 81 = .ok (.getfield 33, 3) := by decide +kernel
theorem dX7_shape_84 : decode cX7_shape 84 = .ok (.getfield 60, 3) := by decide +kernel
theorem dX7_shape_87 : decode cX7_shape 87 = .ok (.ireturn, 1) := by decide +kernel
theorem dX7_paper_0 : decode cX7_paper 0 = .ok (.aload_n 0, 1) := by decide +kernel
theorem dX7_paper_1 : decode cX7_paper 1 = .ok (.getfield 33, 3) := by decide +kernel
theorem dX7_paper_4 : decode cX7_paper 4 = .ok (.getfield 60, 3) := by decide +kernel
theorem dX7_paper_7 : decode cX7_paper 7 = .ok (.ifCond .eq 12, 3) := by decide +kernel
theorem dX7_paper_10 : decode cX7_paper 10 = .ok (.aload_n 0, 1) := by decide +kernel
theorem dX7_paper_11 : decode cX7_paper 11 = .ok (.getfield 40, 3) := by decide +kernel
theorem dX7_paper_14 : decode cX7_paper 14 = .ok (.bipush 30, 2) := by decide +kernel
theorem dX7_paper_16 : decode cX7_paper 16 = .ok (.if_icmp .lt 14, 3) := by decide +kernel
theorem dX7_paper_19 : decode cX7_paper 19 = .ok (.aload_n 0, 1) := by decide +kernel
theorem dX7_paper_20 : decode cX7_paper 20 = .ok (.getfield 12, 3) := by decide +kernel
theorem dX7_paper_23 : decode cX7_paper 23 = .ok (.iconst 0, 1) := by decide +kernel
theorem dX7_paper_24 : decode cX7_paper 24 = .ok (.putfield 44, 3) := by decide +kernel
theorem dX7_paper_27 : decode cX7_paper 27 = .ok (.bipush (-2), 2) := by decide +kernel
theorem dX7_paper_29 : decode cX7_paper 29 = .ok (.ireturn, 1) := by decide +kernel
theorem dX7_paper_30 : decode cX7_paper 30 = .ok (.new 66, 3) := by decide +kernel
theorem dX7_paper_33 : decode cX7_paper 33 = .ok (.dup, 1) := by decide +kernel
theorem dX7_paper_34 : decode cX7_paper 34 = .ok (.aload_n 0, 1) := by decide +kernel
theorem dX7_paper_35 : decode cX7_paper 35 = .ok (.getfield 12, 3) := by decide +kernel
theorem dX7_paper_38 : decode cX7_paper 38 = .ok (.aload_n 0, 1) := by decide +kernel
theorem dX7_paper_39 : decode cX7_paper 39 = .ok (.getfield 33, 3) := by decide +kernel
theorem dX7_paper_42 : decode cX7_paper 42 = .ok (.aload_n 0, 1) := by decide +kernel
theorem dX7_paper_43 : decode cX7_paper 43 = .ok (.getfield 18, 3) := by decide +kernel
theorem dX7_paper_46 : decode cX7_paper 46 = .ok (.aload_n 0, 1) := by decide +kernel
theorem dX7_paper_47 : decode cX7_paper 47 = .ok (.getfield 40, 3) := by decide +kernel
theorem dX7_paper_50 : decode cX7_paper 50 = .ok (.invokespecial 68, 3) := by decide +kernel
theorem dX7_paper_53 : decode cX7_paper 53 = .ok (.invokevirtual 71, 3) := by decide +kernel
theorem dX7_paper_56 : decode cX7_paper 56 = .ok (.istore_n 1, 1) := by decide +kernel
theorem dX7_paper_57 : decode cX7_paper 57 = .ok (.aload_n 0, 1) := by decide +kernel
theorem dX7_paper_58 : decode cX7_paper 58 = .ok (.getfield 12, 3) := by decide +kernel
theorem dX7_paper_61 : decode cX7_paper 61 = .ok (.iconst 0, 1) := by decide +kernel
theorem dX7_paper_62 : decode cX7_paper 62 = .ok (.putfield 44, 3) := by decide +kernel
theorem dX7_paper_65 : decode cX7_paper 65 = .ok (.iload_n 1, 1) := by decide +kernel
theorem dX7_paper_66 : decode cX7_paper 66 = .ok (.ifCond .ne 13, 3) := by decide +kernel
theorem dX7_paper_69 : decode cX7_paper 69 = .ok (.aload_n 0, 1) := by decide +kernel
theorem dX7_paper_70 : decode cX7_paper 70 = .ok (.aload_n 0, 1) := by decide +kernel
theorem dX7_paper_71 : decode cX7_paper 71 = .ok (.getfield 40, 3) := by decide +kernel
theorem dX7_paper_74 : decode cX7_paper 74 = .ok (.invokevirtual 72, 3) := by decide +kernel
theorem dX7_paper_77 : decode cX7_paper 77 = .ok (.iconst (-1), 1) := by decide +kernel
theorem dX7_paper_78 : decode cX7_paper 78 = .ok (.ireturn, 1) := by decide +kernel
theorem dX7_paper_79 : decode cX7_paper 79 = .ok (.aload_n 0, 1) := by decide +kernel
theorem dX7_paper_80 : decode cX7_paper 80 = .ok (.dup, 1) := by decide +kernel
theorem dX7_paper_81 : decode cX7_paper 81 = .ok (.getfield 40, 3) := by decide +kernel
theorem dX7_paper_84 : decode cX7_paper 84 = .ok (.iconst 1, 1) := by decide +kernel
theorem dX7_paper_85 : decode cX7_paper 85 = .ok (.iadd, 1) := by decide +kernel
theorem dX7_paper_86 : decode cX7_paper 86 = .ok (.putfield 40, 3) := by decide +kernel
theorem dX7_paper_89 : decode cX7_paper 89 = .ok (.aload_n 0, 1) := by decide +kernel
theorem dX7_paper_90 : decode cX7_paper 90 = .ok (.getfield 40, 3) := by decide +kernel
theorem dX7_paper_93 : decode cX7_paper 93 = .ok (.ireturn, 1) := by decide +kernel
theorem dX7_fault_0 : decode cX7_fault 0 = .ok (.iload_n 1, 1) := by decide +kernel
theorem dX7_fault_1 : decode cX7_fault 1 = .ok (.ifCond .ne 11, 3) := by decide +kernel
theorem dX7_fault_4 : decode cX7_fault 4 = .ok (.aload_n 0, 1) := by decide +kernel
theorem dX7_fault_5 : decode cX7_fault 5 = .ok (.getfield 12, 3) := by decide +kernel
theorem dX7_fault_8 : decode cX7_fault 8 = .ok (.getfield 75, 3) := by decide +kernel
theorem dX7_fault_11 : decode cX7_fault 11 = .ok (.ireturn, 1) := by decide +kernel
theorem dX7_fault_12 : decode cX7_fault 12 = .ok (.iload_n 1, 1) := by decide +kernel
theorem dX7_fault_13 : decode cX7_fault 13 = .ok (.iconst 1, 1) := by decide +kernel
theorem dX7_fault_14 : decode cX7_fault 14 = .ok (.if_icmp .ne 13, 3) := by decide +kernel
theorem dX7_fault_17 : decode cX7_fault 17 = .ok (.aload_n 0, 1) := by decide +kernel
theorem dX7_fault_18 : decode cX7_fault 18 = .ok (.getfield 12, 3) := by decide +kernel
theorem dX7_fault_21 : decode cX7_fault 21 = .ok (.getfield 78, 3) := by decide +kernel
theorem dX7_fault_24 : decode cX7_fault 24 = .ok (.goto 4, 3) := by decide +kernel
theorem dX7_fault_27 : decode cX7_fault 27 = .ok (.iconst (-1), 1) := by decide +kernel
theorem dX7_fault_28 : decode cX7_fault 28 = .ok (.ireturn, 1) := by decide +kernel
theorem dX7_drop_0 : decode cX7_drop 0 = .ok (.aload_n 0, 1) := by decide +kernel
theorem dX7_drop_1 : decode cX7_drop 1 = .ok (.iload_n 1, 1) := by decide +kernel
theorem dX7_drop_2 : decode cX7_drop 2 = .ok (.invokevirtual 81, 3) := by decide +kernel
theorem dX7_drop_5 : decode cX7_drop 5 = .ok (.ifCond .ne 5, 3) := by decide +kernel
theorem dX7_drop_8 : decode cX7_drop 8 = .ok (.iconst (-1), 1) := by decide +kernel
theorem dX7_drop_9 : decode cX7_drop 9 = .ok (.ireturn, 1) := by decide +kernel
theorem dX7_drop_10 : decode cX7_drop 10 = .ok (.aload_n 0, 1) := by decide +kernel
theorem dX7_drop_11 : decode cX7_drop 11 = .ok (.iload_n 1, 1) := by decide +kernel
theorem dX7_drop_12 : decode cX7_drop 12 = .ok (.invokevirtual 72, 3) := by decide +kernel
theorem dX7_drop_15 : decode cX7_drop 15 = .ok (.aload_n 0, 1) := by decide +kernel
theorem dX7_drop_16 : decode cX7_drop 16 = .ok (.dup, 1) := by decide +kernel
theorem dX7_drop_17 : decode cX7_drop 17 = .ok (.getfield 40, 3) := by decide +kernel
theorem dX7_drop_20 : decode cX7_drop 20 = .ok (.iconst 1, 1) := by decide +kernel
theorem dX7_drop_21 : decode cX7_drop 21 = .ok (.isub, 1) := by decide +kernel
theorem dX7_drop_22 : decode cX7_drop 22 = .ok (.putfield 40, 3) := by decide +kernel
theorem dX7_drop_25 : decode cX7_drop 25 = .ok (.aload_n 0, 1) := by decide +kernel
theorem dX7_drop_26 : decode cX7_drop 26 = .ok (.getfield 40, 3) := by decide +kernel
theorem dX7_drop_29 : decode cX7_drop 29 = .ok (.ireturn, 1) := by decide +kernel
theorem dX7_leaf_0 : decode cX7_leaf 0 = .ok (.aload_n 0, 1) := by decide +kernel
theorem dX7_leaf_1 : decode cX7_leaf 1 = .ok (.iload_n 1, 1) := by decide +kernel
theorem dX7_leaf_2 : decode cX7_leaf 2 = .ok (.invokevirtual 85, 3) := by decide +kernel
theorem dX7_leaf_5 : decode cX7_leaf 5 = .ok (.astore_n 3, 1) := by decide +kernel
theorem dX7_leaf_6 : decode cX7_leaf 6 = .ok (.aload_n 3, 1) := by decide +kernel
theorem dX7_leaf_7 : decode cX7_leaf 7 = .ok (.ifnonnull 5, 3) := by decide +kernel
theorem dX7_leaf_10 : decode cX7_leaf 10 = .ok (.iconst (-1), 1) := by decide +kernel
theorem dX7_leaf_11 : decode cX7_leaf 11 = .ok (.ireturn, 1) := by decide +kernel
theorem dX7_leaf_12 : decode cX7_leaf 12 = .ok (.iload_n 2, 1) := by decide +kernel
theorem dX7_leaf_13 : decode cX7_leaf 13 = .ok (.tableswitch 95 0 7 #[47, 52, 57, 70, 75, 80, 85, 90], 47) := by decide +kernel
theorem dX7_leaf_60 : decode cX7_leaf 60 = .ok (.aload_n 3, 1) := by decide +kernel
theorem dX7_leaf_61 : decode cX7_leaf 61 = .ok (.getfield 89, 3) := by decide +kernel
theorem dX7_leaf_64 : decode cX7_leaf 64 = .ok (.ireturn, 1) := by decide +kernel
theorem dX7_leaf_65 : decode cX7_leaf 65 = .ok (.aload_n 3, 1) := by decide +kernel
theorem dX7_leaf_66 : decode cX7_leaf 66 = .ok (.getfield 92, 3) := by decide +kernel
theorem dX7_leaf_69 : decode cX7_leaf 69 = .ok (.ireturn, 1) := by decide +kernel
theorem dX7_leaf_70 : decode cX7_leaf 70 = .ok (.aload_n 3, 1) := by decide +kernel
theorem dX7_leaf_71 : decode cX7_leaf 71 = .ok (.getfield 95, 3) := by decide +kernel
theorem dX7_leaf_74 : decode cX7_leaf 74 = .ok (.ifCond .eq 7, 3) := by decide +kernel
theorem dX7_leaf_77 : decode cX7_leaf 77 = .ok (.iconst 1, 1) := by decide +kernel
theorem dX7_leaf_78 : decode cX7_leaf 78 = .ok (.goto 4, 3) := by decide +kernel
theorem dX7_leaf_81 : decode cX7_leaf 81 = .ok (.iconst 0, 1) := by decide +kernel
theorem dX7_leaf_82 : decode cX7_leaf 82 = .ok (.ireturn, 1) := by decide +kernel
theorem dX7_leaf_83 : decode cX7_leaf 83 = .ok (.aload_n 3, 1) := by decide +kernel
theorem dX7_leaf_84 : decode cX7_leaf 84 = .ok (.getfield 99, 3) := by decide +kernel
theorem dX7_leaf_87 : decode cX7_leaf 87 = .ok (.ireturn, 1) := by decide +kernel
theorem dX7_leaf_88 : decode cX7_leaf 88 = .ok (.aload_n 3, 1) := by decide +kernel
theorem dX7_leaf_89 : decode cX7_leaf 89 = .ok (.getfield 102, 3) := by decide +kernel
theorem dX7_leaf_92 : decode cX7_leaf 92 = .ok (.ireturn, 1) := by decide +kernel
theorem dX7_leaf_93 : decode cX7_leaf 93 = .ok (.aload_n 3, 1) := by decide +kernel
theorem dX7_leaf_94 : decode cX7_leaf 94 = .ok (.invokevirtual 105, 3) := by decide +kernel
theorem dX7_leaf_97 : decode cX7_leaf 97 = .ok (.ireturn, 1) := by decide +kernel
theorem dX7_leaf_98 : decode cX7_leaf 98 = .ok (.aload_n 3, 1) := by decide +kernel
theorem dX7_leaf_99 : decode cX7_leaf 99 = .ok (.invokevirtual 109, 3) := by decide +kernel
theorem dX7_leaf_102 : decode cX7_leaf 102 = .ok (.ireturn, 1) := by decide +kernel
theorem dX7_leaf_103 : decode cX7_leaf 103 = .ok (.aload_n 3, 1) := by decide +kernel
theorem dX7_leaf_104 : decode cX7_leaf 104 = .ok (.invokevirtual 112, 3) := by decide +kernel
theorem dX7_leaf_107 : decode cX7_leaf 107 = .ok (.ireturn, 1) := by decide +kernel
theorem dX7_leaf_108 : decode cX7_leaf 108 = .ok (.iconst (-1), 1) := by decide +kernel
theorem dX7_leaf_109 : decode cX7_leaf 109 = .ok (.ireturn, 1) := by decide +kernel
theorem dX7_row_0 : decode cX7_row 0 = .ok (.aload_n 0, 1) := by decide +kernel
theorem dX7_row_1 : decode cX7_row 1 = .ok (.iload_n 1, 1) := by decide +kernel
theorem dX7_row_2 : decode cX7_row 2 = .ok (.invokevirtual 85, 3) := by decide +kernel
theorem dX7_row_5 : decode cX7_row 5 = .ok (.astore 4, 2) := by decide +kernel
theorem dX7_row_7 : decode cX7_row 7 = .ok (.aload 4, 2) := by decide +kernel
theorem dX7_row_9 : decode cX7_row 9 = .ok (.ifnull 12, 3) := by decide +kernel
theorem dX7_row_12 : decode cX7_row 12 = .ok (.aload 4, 2) := by decide +kernel
theorem dX7_row_14 : decode cX7_row 14 = .ok (.iload_n 2, 1) := by decide +kernel
theorem dX7_row_15 : decode cX7_row 15 = .ok (.invokevirtual 115, 3) := by decide +kernel
theorem dX7_row_18 : decode cX7_row 18 = .ok (.ifCond .ne 5, 3) := by decide +kernel
theorem dX7_row_21 : decode cX7_row 21 = .ok (.iconst (-1), 1) := by decide +kernel
theorem dX7_row_22 : decode cX7_row 22 = .ok (.ireturn, 1) := by decide +kernel
theorem dX7_row_23 : decode cX7_row 23 = .ok (.iload_n 3, 1) := by decide +kernel
theorem dX7_row_24 : decode cX7_row 24 = .ok (.tableswitch 71 0 3 #[32, 40, 48, 63], 32) := by decide +kernel
theorem dX7_row_56 : decode cX7_row 56 = .ok (.aload 4, 2) := by decide +kernel
theorem dX7_row_58 : decode cX7_row 58 = .ok (.getfield 118, 3) := by decide +kernel
theorem dX7_row_61 : decode cX7_row 61 = .ok (.iload_n 2, 1) := by decide +kernel
theorem dX7_row_62 : decode cX7_row 62 = .ok (.iaload, 1) := by decide +kernel
theorem dX7_row_63 : decode cX7_row 63 = .ok (.ireturn, 1) := by decide +kernel
theorem dX7_row_64 : decode cX7_row 64 = .ok (.aload 4, 2) := by decide +kernel
theorem dX7_row_66 : decode cX7_row 66 = .ok (.getfield 122, 3) := by decide +kernel
theorem dX7_row_69 : decode cX7_row 69 = .ok (.iload_n 2, 1) := by decide +kernel
theorem dX7_row_70 : decode cX7_row 70 = .ok (.iaload, 1) := by decide +kernel
theorem dX7_row_71 : decode cX7_row 71 = .ok (.ireturn, 1) := by decide +kernel
theorem dX7_row_72 : decode cX7_row 72 = .ok (.aload 4, 2) := by decide +kernel
theorem dX7_row_74 : decode cX7_row 74 = .ok (.iload_n 2, 1) := by decide +kernel
theorem dX7_row_75 : decode cX7_row 75 = .ok (.invokevirtual 125, 3) := by decide +kernel
theorem dX7_row_78 : decode cX7_row 78 = .ok (.ifCond .eq 7, 3) := by decide +kernel
theorem dX7_row_81 : decode cX7_row 81 = .ok (.iconst 1, 1) := by decide +kernel
theorem dX7_row_82 : decode cX7_row 82 = .ok (.goto 4, 3) := by decide +kernel
theorem dX7_row_85 : decode cX7_row 85 = .ok (.iconst 0, 1) := by decide +kernel
theorem dX7_row_86 : decode cX7_row 86 = .ok (.ireturn, 1) := by decide +kernel
theorem dX7_row_87 : decode cX7_row 87 = .ok (.aload 4, 2) := by decide +kernel
theorem dX7_row_89 : decode cX7_row 89 = .ok (.getfield 128, 3) := by decide +kernel
theorem dX7_row_92 : decode cX7_row 92 = .ok (.iload_n 2, 1) := by decide +kernel
theorem dX7_row_93 : decode cX7_row 93 = .ok (.iaload, 1) := by decide +kernel
theorem dX7_row_94 : decode cX7_row 94 = .ok (.ireturn, 1) := by decide +kernel
theorem dX7_row_95 : decode cX7_row 95 = .ok (.iconst (-1), 1) := by decide +kernel
theorem dX7_row_96 : decode cX7_row 96 = .ok (.ireturn, 1) := by decide +kernel
theorem dX7_value_0 : decode cX7_value 0 = .ok (.aload_n 0, 1) := by decide +kernel
theorem dX7_value_1 : decode cX7_value 1 = .ok (.iload_n 1, 1) := by decide +kernel
theorem dX7_value_2 : decode cX7_value 2 = .ok (.invokevirtual 85, 3) := by decide +kernel
theorem dX7_value_5 : decode cX7_value 5 = .ok (.astore_n 3, 1) := by decide +kernel
theorem dX7_value_6 : decode cX7_value 6 = .ok (.aload_n 3, 1) := by decide +kernel
theorem dX7_value_7 : decode cX7_value 7 = .ok (.ifnull 11, 3) := by decide +kernel
theorem dX7_value_10 : decode cX7_value 10 = .ok (.aload_n 3, 1) := by decide +kernel
theorem dX7_value_11 : decode cX7_value 11 = .ok (.iload_n 2, 1) := by decide +kernel
theorem dX7_value_12 : decode cX7_value 12 = .ok (.invokevirtual 125, 3) := by decide +kernel
theorem dX7_value_15 : decode cX7_value 15 = .ok (.ifCond .ne 5, 3) := by decide +kernel
theorem dX7_value_18 : decode cX7_value 18 = .ok (.lconst 0, 1) := by decide +kernel
theorem dX7_value_19 : decode cX7_value 19 = .ok (.lreturn, 1) := by decide +kernel
theorem dX7_value_20 : decode cX7_value 20 = .ok (.aload_n 3, 1) := by decide +kernel
theorem dX7_value_21 : decode cX7_value 21 = .ok (.getfield 131, 3) := by decide +kernel
theorem dX7_value_24 : decode cX7_value 24 = .ok (.iload_n 2, 1) := by decide +kernel
theorem dX7_value_25 : decode cX7_value 25 = .ok (.laload, 1) := by decide +kernel
theorem dX7_value_26 : decode cX7_value 26 = .ok (.lreturn, 1) := by decide +kernel
theorem dX7_text_0 : decode cX7_text 0 = .ok (.aload_n 0, 1) := by decide +kernel
theorem dX7_text_1 : decode cX7_text 1 = .ok (.iload_n 1, 1) := by decide +kernel
theorem dX7_text_2 : decode cX7_text 2 = .ok (.invokevirtual 81, 3) := by decide +kernel
theorem dX7_text_5 : decode cX7_text 5 = .ok (.ifCond .ne 5, 3) := by decide +kernel
theorem dX7_text_8 : decode cX7_text 8 = .ok (.iconst (-1), 1) := by decide +kernel
theorem dX7_text_9 : decode cX7_text 9 = .ok (.ireturn, 1) := by decide +kernel
theorem dX7_text_10 : decode cX7_text 10 = .ok (.new 135, 3) := by decide +kernel
theorem dX7_text_13 : decode cX7_text 13 = .ok (.dup, 1) := by decide +kernel
theorem dX7_text_14 : decode cX7_text 14 = .ok (.aload_n 0, 1) := by decide +kernel
theorem dX7_text_15 : decode cX7_text 15 = .ok (.getfield 33, 3) := by decide +kernel
theorem dX7_text_18 : decode cX7_text 18 = .ok (.aload_n 0, 1) := by decide +kernel
theorem dX7_text_19 : decode cX7_text 19 = .ok (.getfield 18, 3) := by decide +kernel
theorem dX7_text_22 : decode cX7_text 22 = .ok (.iload_n 2, 1) := by decide +kernel
theorem dX7_text_23 : decode cX7_text 23 = .ok (.aload_n 0, 1) := by decide +kernel
theorem dX7_text_24 : decode cX7_text 24 = .ok (.getfield 26, 3) := by decide +kernel
theorem dX7_text_27 : decode cX7_text 27 = .ok (.invokespecial 137, 3) := by decide +kernel
theorem dX7_text_30 : decode cX7_text 30 = .ok (.iload_n 1, 1) := by decide +kernel
theorem dX7_text_31 : decode cX7_text 31 = .ok (.invokevirtual 140, 3) := by decide +kernel
theorem dX7_text_34 : decode cX7_text 34 = .ok (.aload_n 0, 1) := by decide +kernel
theorem dX7_text_35 : decode cX7_text 35 = .ok (.getfield 26, 3) := by decide +kernel
theorem dX7_text_38 : decode cX7_text 38 = .ok (.getfield 143, 3) := by decide +kernel
theorem dX7_text_41 : decode cX7_text 41 = .ok (.ireturn, 1) := by decide +kernel
theorem dX7_at_0 : decode cX7_at 0 = .ok (.aload_n 0, 1) := by decide +kernel
theorem dX7_at_1 : decode cX7_at 1 = .ok (.getfield 26, 3) := by decide +kernel
theorem dX7_at_4 : decode cX7_at 4 = .ok (.iload_n 1, 1) := by decide +kernel
theorem dX7_at_5 : decode cX7_at 5 = .ok (.invokevirtual 144, 3) := by decide +kernel
theorem dX7_at_8 : decode cX7_at 8 = .ok (.ireturn, 1) := by decide +kernel
theorem dX7_among_0 : decode cX7_among 0 = .ok (.aload_n 0, 1) := by decide +kernel
theorem dX7_among_1 : decode cX7_among 1 = .ok (.iload_n 1, 1) := by decide +kernel
theorem dX7_among_2 : decode cX7_among 2 = .ok (.invokevirtual 85, 3) := by decide +kernel
theorem dX7_among_5 : decode cX7_among 5 = .ok (.astore 6, 2) := by decide +kernel
theorem dX7_among_7 : decode cX7_among 7 = .ok (.aload 6, 2) := by decide +kernel
theorem dX7_among_9 : decode cX7_among 9 = .ok (.ifnonnull 5, 3) := by decide +kernel
theorem dX7_among_12 : decode cX7_among 12 = .ok (.iconst (-1), 1) := by decide +kernel
theorem dX7_among_13 : decode cX7_among 13 = .ok (.ireturn, 1) := by decide +kernel
theorem dX7_among_14 : decode cX7_among 14 = .ok (.iconst 0, 1) := by decide +kernel
theorem dX7_among_15 : decode cX7_among 15 = .ok (.istore 7, 2) := by decide +kernel
theorem dX7_among_17 : decode cX7_among 17 = .ok (.iconst 0, 1) := by decide +kernel
theorem dX7_among_18 : decode cX7_among 18 = .ok (.istore 8, 2) := by decide +kernel
theorem dX7_among_20 : decode cX7_among 20 = .ok (.iload 8, 2) := by decide +kernel
theorem dX7_among_22 : decode cX7_among 22 = .ok (.aload 6, 2) := by decide +kernel
theorem dX7_among_24 : decode cX7_among 24 = .ok (.getfield 102, 3) := by decide +kernel
theorem dX7_among_27 : decode cX7_among 27 = .ok (.if_icmp .ge 25, 3) := by decide +kernel
theorem dX7_among_30 : decode cX7_among 30 = .ok (.aload 6, 2) := by decide +kernel
theorem dX7_among_32 : decode cX7_among 32 = .ok (.iload 8, 2) := by decide +kernel
theorem dX7_among_34 : decode cX7_among 34 = .ok (.lload_n 2, 1) := by decide +kernel
theorem dX7_among_35 : decode cX7_among 35 = .ok (.lload 4, 2) := by decide +kernel
theorem dX7_among_37 : decode cX7_among 37 = .ok (.invokevirtual 148, 3) := by decide +kernel
theorem dX7_among_40 : decode cX7_among 40 = .ok (.ifCond .eq 6, 3) := by decide +kernel
theorem dX7_among_43 : decode cX7_among 43 = .ok (.iinc 7 1, 3) := by decide +kernel
theorem dX7_among_46 : decode cX7_among 46 = .ok (.iinc 8 1, 3) := by decide +kernel
theorem dX7_among_49 : decode cX7_among 49 = .ok (.goto (-29), 3) := by decide +kernel
theorem dX7_among_52 : decode cX7_among 52 = .ok (.iload 7, 2) := by decide +kernel
theorem dX7_among_54 : decode cX7_among 54 = .ok (.ireturn, 1) := by decide +kernel
theorem dX7_papers_0 : decode cX7_papers 0 = .ok (.aload_n 0, 1) := by decide +kernel
theorem dX7_papers_1 : decode cX7_papers 1 = .ok (.iload_n 1, 1) := by decide +kernel
theorem dX7_papers_2 : decode cX7_papers 2 = .ok (.invokevirtual 85, 3) := by decide +kernel
theorem dX7_papers_5 : decode cX7_papers 5 = .ok (.astore 6, 2) := by decide +kernel
theorem dX7_papers_7 : decode cX7_papers 7 = .ok (.aload 6, 2) := by decide +kernel
theorem dX7_papers_9 : decode cX7_papers 9 = .ok (.ifnonnull 5, 3) := by decide +kernel
theorem dX7_papers_12 : decode cX7_papers 12 = .ok (.iconst (-1), 1) := by decide +kernel
theorem dX7_papers_13 : decode cX7_papers 13 = .ok (.ireturn, 1) := by decide +kernel
theorem dX7_papers_14 : decode cX7_papers 14 = .ok (.iconst 0, 1) := by decide +kernel
theorem dX7_papers_15 : decode cX7_papers 15 = .ok (.istore 7, 2) := by decide +kernel
theorem dX7_papers_17 : decode cX7_papers 17 = .ok (.iconst (-1), 1) := by decide +kernel
theorem dX7_papers_18 : decode cX7_papers 18 = .ok (.istore 8, 2) := by decide +kernel
theorem dX7_papers_20 : decode cX7_papers 20 = .ok (.iconst 0, 1) := by decide +kernel
theorem dX7_papers_21 : decode cX7_papers 21 = .ok (.istore 9, 2) := by decide +kernel
theorem dX7_papers_23 : decode cX7_papers 23 = .ok (.iload 9, 2) := by decide +kernel
theorem dX7_papers_25 : decode cX7_papers 25 = .ok (.aload 6, 2) := by decide +kernel
theorem dX7_papers_27 : decode cX7_papers 27 = .ok (.getfield 102, 3) := by decide +kernel
theorem dX7_papers_30 : decode cX7_papers 30 = .ok (.if_icmp .ge 48, 3) := by decide +kernel
theorem dX7_papers_33 : decode cX7_papers 33 = .ok (.aload 6, 2) := by decide +kernel
theorem dX7_papers_35 : decode cX7_papers 35 = .ok (.getfield 128, 3) := by decide +kernel
theorem dX7_papers_38 : decode cX7_papers 38 = .ok (.iload 9, 2) := by decide +kernel
theorem dX7_papers_40 : decode cX7_papers 40 = .ok (.iaload, 1) := by decide +kernel
theorem dX7_papers_41 : decode cX7_papers 41 = .ok (.iload 8, 2) := by decide +kernel
theorem dX7_papers_43 : decode cX7_papers 43 = .ok (.if_icmp .eq 29, 3) := by decide +kernel
theorem dX7_papers_46 : decode cX7_papers 46 = .ok (.aload 6, 2) := by decide +kernel
theorem dX7_papers_48 : decode cX7_papers 48 = .ok (.iload 9, 2) := by decide +kernel
theorem dX7_papers_50 : decode cX7_papers 50 = .ok (.lload_n 2, 1) := by decide +kernel
theorem dX7_papers_51 : decode cX7_papers 51 = .ok (.lload 4, 2) := by decide +kernel
theorem dX7_papers_53 : decode cX7_papers 53 = .ok (.invokevirtual 148, 3) := by decide +kernel
theorem dX7_papers_56 : decode cX7_papers 56 = .ok (.ifCond .eq 16, 3) := by decide +kernel
theorem dX7_papers_59 : decode cX7_papers 59 = .ok (.iinc 7 1, 3) := by decide +kernel
theorem dX7_papers_62 : decode cX7_papers 62 = .ok (.aload 6, 2) := by decide +kernel
theorem dX7_papers_64 : decode cX7_papers 64 = .ok (.getfield 128, 3) := by decide +kernel
theorem dX7_papers_67 : decode cX7_papers 67 = .ok (.iload 9, 2) := by decide +kernel
theorem dX7_papers_69 : decode cX7_papers 69 = .ok (.iaload, 1) := by decide +kernel
theorem dX7_papers_70 : decode cX7_papers 70 = .ok (.istore 8, 2) := by decide +kernel
theorem dX7_papers_72 : decode cX7_papers 72 = .ok (.iinc 9 1, 3) := by decide +kernel
theorem dX7_papers_75 : decode cX7_papers 75 = .ok (.goto (-52), 3) := by decide +kernel
theorem dX7_papers_78 : decode cX7_papers 78 = .ok (.iload 7, 2) := by decide +kernel
theorem dX7_papers_80 : decode cX7_papers 80 = .ok (.ireturn, 1) := by decide +kernel
theorem dX7_sum_0 : decode cX7_sum 0 = .ok (.aload_n 0, 1) := by decide +kernel
theorem dX7_sum_1 : decode cX7_sum 1 = .ok (.iload_n 1, 1) := by decide +kernel
theorem dX7_sum_2 : decode cX7_sum 2 = .ok (.invokevirtual 85, 3) := by decide +kernel
theorem dX7_sum_5 : decode cX7_sum 5 = .ok (.astore_n 3, 1) := by decide +kernel
theorem dX7_sum_6 : decode cX7_sum 6 = .ok (.aload_n 3, 1) := by decide +kernel
theorem dX7_sum_7 : decode cX7_sum 7 = .ok (.ifnull 10, 3) := by decide +kernel
theorem dX7_sum_10 : decode cX7_sum 10 = .ok (.aload_n 3, 1) := by decide +kernel
theorem dX7_sum_11 : decode cX7_sum 11 = .ok (.getfield 95, 3) := by decide +kernel
theorem dX7_sum_14 : decode cX7_sum 14 = .ok (.ifCond .ne 5, 3) := by decide +kernel
theorem dX7_sum_17 : decode cX7_sum 17 = .ok (.lconst 0, 1) := by decide +kernel
theorem dX7_sum_18 : decode cX7_sum 18 = .ok (.lreturn, 1) := by decide +kernel
theorem dX7_sum_19 : decode cX7_sum 19 = .ok (.lconst 0, 1) := by decide +kernel
theorem dX7_sum_20 : decode cX7_sum 20 = .ok (.lstore 4, 2) := by decide +kernel
theorem dX7_sum_22 : decode cX7_sum 22 = .ok (.iconst 0, 1) := by decide +kernel
theorem dX7_sum_23 : decode cX7_sum 23 = .ok (.istore 6, 2) := by decide +kernel
theorem dX7_sum_25 : decode cX7_sum 25 = .ok (.iload 6, 2) := by decide +kernel
theorem dX7_sum_27 : decode cX7_sum 27 = .ok (.aload_n 3, 1) := by decide +kernel
theorem dX7_sum_28 : decode cX7_sum 28 = .ok (.getfield 102, 3) := by decide +kernel
theorem dX7_sum_31 : decode cX7_sum 31 = .ok (.if_icmp .ge 46, 3) := by decide +kernel
theorem dX7_sum_34 : decode cX7_sum 34 = .ok (.aload_n 3, 1) := by decide +kernel
theorem dX7_sum_35 : decode cX7_sum 35 = .ok (.iload 6, 2) := by decide +kernel
theorem dX7_sum_37 : decode cX7_sum 37 = .ok (.invokevirtual 125, 3) := by decide +kernel
theorem dX7_sum_40 : decode cX7_sum 40 = .ok (.ifCond .eq 31, 3) := by decide +kernel
theorem dX7_sum_43 : decode cX7_sum 43 = .ok (.iload_n 2, 1) := by decide +kernel
theorem dX7_sum_44 : decode cX7_sum 44 = .ok (.iconst (-1), 1) := by decide +kernel
theorem dX7_sum_45 : decode cX7_sum 45 = .ok (.if_icmp .eq 14, 3) := by decide +kernel
theorem dX7_sum_48 : decode cX7_sum 48 = .ok (.aload_n 3, 1) := by decide +kernel
theorem dX7_sum_49 : decode cX7_sum 49 = .ok (.getfield 128, 3) := by decide +kernel
theorem dX7_sum_52 : decode cX7_sum 52 = .ok (.iload 6, 2) := by decide +kernel
theorem dX7_sum_54 : decode cX7_sum 54 = .ok (.iaload, 1) := by decide +kernel
theorem dX7_sum_55 : decode cX7_sum 55 = .ok (.iload_n 2, 1) := by decide +kernel
theorem dX7_sum_56 : decode cX7_sum 56 = .ok (.if_icmp .ne 15, 3) := by decide +kernel
theorem dX7_sum_59 : decode cX7_sum 59 = .ok (.lload 4, 2) := by decide +kernel
theorem dX7_sum_61 : decode cX7_sum 61 = .ok (.aload_n 3, 1) := by decide +kernel
theorem dX7_sum_62 : decode cX7_sum 62 = .ok (.getfield 131, 3) := by decide +kernel
theorem dX7_sum_65 : decode cX7_sum 65 = .ok (.iload 6, 2) := by decide +kernel
theorem dX7_sum_67 : decode cX7_sum 67 = .ok (.laload, 1) := by decide +kernel
theorem dX7_sum_68 : decode cX7_sum 68 = .ok (.ladd, 1) := by decide +kernel
theorem dX7_sum_69 : decode cX7_sum 69 = .ok (.lstore 4, 2) := by decide +kernel
theorem dX7_sum_71 : decode cX7_sum 71 = .ok (.iinc 6 1, 3) := by decide +kernel
theorem dX7_sum_74 : decode cX7_sum 74 = .ok (.goto (-49), 3) := by decide +kernel
theorem dX7_sum_77 : decode cX7_sum 77 = .ok (.lload 4, 2) := by decide +kernel
theorem dX7_sum_79 : decode cX7_sum 79 = .ok (.lreturn, 1) := by decide +kernel
theorem dX7_both_0 : decode cX7_both 0 = .ok (.aload_n 0, 1) := by decide +kernel
theorem dX7_both_1 : decode cX7_both 1 = .ok (.iload_n 1, 1) := by decide +kernel
theorem dX7_both_2 : decode cX7_both 2 = .ok (.invokevirtual 85, 3) := by decide +kernel
theorem dX7_both_5 : decode cX7_both 5 = .ok (.astore 7, 2) := by decide +kernel
theorem dX7_both_7 : decode cX7_both 7 = .ok (.aload_n 0, 1) := by decide +kernel
theorem dX7_both_8 : decode cX7_both 8 = .ok (.iload 4, 2) := by decide +kernel
theorem dX7_both_10 : decode cX7_both 10 = .ok (.invokevirtual 85, 3) := by decide +kernel
theorem dX7_both_13 : decode cX7_both 13 = .ok (.astore 8, 2) := by decide +kernel
theorem dX7_both_15 : decode cX7_both 15 = .ok (.aload 7, 2) := by decide +kernel
theorem dX7_both_17 : decode cX7_both 17 = .ok (.ifnull 8, 3) := by decide +kernel
theorem dX7_both_20 : decode cX7_both 20 = .ok (.aload 8, 2) := by decide +kernel
theorem dX7_both_22 : decode cX7_both 22 = .ok (.ifnonnull 5, 3) := by decide +kernel
theorem dX7_both_25 : decode cX7_both 25 = .ok (.iconst (-1), 1) := by decide +kernel
theorem dX7_both_26 : decode cX7_both 26 = .ok (.ireturn, 1) := by decide +kernel
theorem dX7_both_27 : decode cX7_both 27 = .ok (.aload_n 0, 1) := by decide +kernel
theorem dX7_both_28 : decode cX7_both 28 = .ok (.getfield 33, 3) := by decide +kernel
theorem dX7_both_31 : decode cX7_both 31 = .ok (.iload_n 1, 1) := by decide +kernel
theorem dX7_both_32 : decode cX7_both 32 = .ok (.iload 4, 2) := by decide +kernel
theorem dX7_both_34 : decode cX7_both 34 = .ok (.invokevirtual 152, 3) := by decide +kernel
theorem dX7_both_37 : decode cX7_both 37 = .ok (.istore 9, 2) := by decide +kernel
theorem dX7_both_39 : decode cX7_both 39 = .ok (.iconst 0, 1) := by decide +kernel
theorem dX7_both_40 : decode cX7_both 40 = .ok (.istore 10, 2) := by decide +kernel
theorem dX7_both_42 : decode cX7_both 42 = .ok (.iconst 0, 1) := by decide +kernel
theorem dX7_both_43 : decode cX7_both 43 = .ok (.istore 11, 2) := by decide +kernel
theorem dX7_both_45 : decode cX7_both 45 = .ok (.iconst 0, 1) := by decide +kernel
theorem dX7_both_46 : decode cX7_both 46 = .ok (.istore 12, 2) := by decide +kernel
theorem dX7_both_48 : decode cX7_both 48 = .ok (.iload 12, 2) := by decide +kernel
theorem dX7_both_50 : decode cX7_both 50 = .ok (.aload 7, 2) := by decide +kernel
theorem dX7_both_52 : decode cX7_both 52 = .ok (.getfield 102, 3) := by decide +kernel
theorem dX7_both_55 : decode cX7_both 55 = .ok (.if_icmp .ge 63, 3) := by decide +kernel
theorem dX7_both_58 : decode cX7_both 58 = .ok (.aload 7, 2) := by decide +kernel
theorem dX7_both_60 : decode cX7_both 60 = .ok (.getfield 118, 3) := by decide +kernel
theorem dX7_both_63 : decode cX7_both 63 = .ok (.iload 12, 2) := by decide +kernel
theorem dX7_both_65 : decode cX7_both 65 = .ok (.iaload, 1) := by decide +kernel
theorem dX7_both_66 : decode cX7_both 66 = .ok (.iload 9, 2) := by decide +kernel
theorem dX7_both_68 : decode cX7_both 68 = .ok (.if_icmp .gt 44, 3) := by decide +kernel
theorem dX7_both_71 : decode cX7_both 71 = .ok (.aload 7, 2) := by decide +kernel
theorem dX7_both_73 : decode cX7_both 73 = .ok (.iload 12, 2) := by decide +kernel
theorem dX7_both_75 : decode cX7_both 75 = .ok (.iload 9, 2) := by decide +kernel
theorem dX7_both_77 : decode cX7_both 77 = .ok (.lload_n 2, 1) := by decide +kernel
theorem dX7_both_78 : decode cX7_both 78 = .ok (.invokevirtual 156, 3) := by decide +kernel
theorem dX7_both_81 : decode cX7_both 81 = .ok (.ifCond .eq 20, 3) := by decide +kernel
theorem dX7_both_84 : decode cX7_both 84 = .ok (.aload 8, 2) := by decide +kernel
theorem dX7_both_86 : decode cX7_both 86 = .ok (.iload 11, 2) := by decide +kernel
theorem dX7_both_88 : decode cX7_both 88 = .ok (.iload 9, 2) := by decide +kernel
theorem dX7_both_90 : decode cX7_both 90 = .ok (.lload 5, 2) := by decide +kernel
theorem dX7_both_92 : decode cX7_both 92 = .ok (.invokevirtual 156, 3) := by decide +kernel
theorem dX7_both_95 : decode cX7_both 95 = .ok (.ifCond .eq 6, 3) := by decide +kernel
theorem dX7_both_98 : decode cX7_both 98 = .ok (.iinc 10 1, 3) := by decide +kernel
theorem dX7_both_101 : decode cX7_both 101 = .ok (.aload 8, 2) := by decide +kernel
theorem dX7_both_103 : decode cX7_both 103 = .ok (.iload 11, 2) := by decide +kernel
theorem dX7_both_105 : decode cX7_both 105 = .ok (.iload 9, 2) := by decide +kernel
theorem dX7_both_107 : decode cX7_both 107 = .ok (.invokevirtual 160, 3) := by decide +kernel
theorem dX7_both_110 : decode cX7_both 110 = .ok (.istore 11, 2) := by decide +kernel
theorem dX7_both_112 : decode cX7_both 112 = .ok (.iinc 12 1, 3) := by decide +kernel
theorem dX7_both_115 : decode cX7_both 115 = .ok (.goto (-67), 3) := by decide +kernel
theorem dX7_both_118 : decode cX7_both 118 = .ok (.iload 10, 2) := by decide +kernel
theorem dX7_both_120 : decode cX7_both 120 = .ok (.ireturn, 1) := by decide +kernel
theorem dX7_rows_0 : decode cX7_rows 0 = .ok (.aload_n 0, 1) := by decide +kernel
theorem dX7_rows_1 : decode cX7_rows 1 = .ok (.iload_n 1, 1) := by decide +kernel
theorem dX7_rows_2 : decode cX7_rows 2 = .ok (.invokevirtual 85, 3) := by decide +kernel
theorem dX7_rows_5 : decode cX7_rows 5 = .ok (.astore 4, 2) := by decide +kernel
theorem dX7_rows_7 : decode cX7_rows 7 = .ok (.aload 4, 2) := by decide +kernel
theorem dX7_rows_9 : decode cX7_rows 9 = .ok (.ifnonnull 5, 3) := by decide +kernel
theorem dX7_rows_12 : decode cX7_rows 12 = .ok (.iconst (-1), 1) := by decide +kernel
theorem dX7_rows_13 : decode cX7_rows 13 = .ok (.ireturn, 1) := by decide +kernel
theorem dX7_rows_14 : decode cX7_rows 14 = .ok (.iconst 0, 1) := by decide +kernel
theorem dX7_rows_15 : decode cX7_rows 15 = .ok (.istore 5, 2) := by decide +kernel
theorem dX7_rows_17 : decode cX7_rows 17 = .ok (.iconst 0, 1) := by decide +kernel
theorem dX7_rows_18 : decode cX7_rows 18 = .ok (.istore 6, 2) := by decide +kernel
theorem dX7_rows_20 : decode cX7_rows 20 = .ok (.iload 6, 2) := by decide +kernel
theorem dX7_rows_22 : decode cX7_rows 22 = .ok (.aload 4, 2) := by decide +kernel
theorem dX7_rows_24 : decode cX7_rows 24 = .ok (.getfield 102, 3) := by decide +kernel
theorem dX7_rows_27 : decode cX7_rows 27 = .ok (.if_icmp .ge 70, 3) := by decide +kernel
theorem dX7_rows_30 : decode cX7_rows 30 = .ok (.iload_n 2, 1) := by decide +kernel
theorem dX7_rows_31 : decode cX7_rows 31 = .ok (.iconst (-1), 1) := by decide +kernel
theorem dX7_rows_32 : decode cX7_rows 32 = .ok (.if_icmp .eq 15, 3) := by decide +kernel
theorem dX7_rows_35 : decode cX7_rows 35 = .ok (.aload 4, 2) := by decide +kernel
theorem dX7_rows_37 : decode cX7_rows 37 = .ok (.getfield 118, 3) := by decide +kernel
theorem dX7_rows_40 : decode cX7_rows 40 = .ok (.iload 6, 2) := by decide +kernel
theorem dX7_rows_42 : decode cX7_rows 42 = .ok (.iaload, 1) := by decide +kernel
theorem dX7_rows_43 : decode cX7_rows 43 = .ok (.iload_n 2, 1) := by decide +kernel
theorem dX7_rows_44 : decode cX7_rows 44 = .ok (.if_icmp .ne 7, 3) := by decide +kernel
theorem dX7_rows_47 : decode cX7_rows 47 = .ok (.iconst 1, 1) := by decide +kernel
theorem dX7_rows_48 : decode cX7_rows 48 = .ok (.goto 4, 3) := by decide +kernel
theorem dX7_rows_51 : decode cX7_rows 51 = .ok (.iconst 0, 1) := by decide +kernel
theorem dX7_rows_52 : decode cX7_rows 52 = .ok (.istore 7, 2) := by decide +kernel
theorem dX7_rows_54 : decode cX7_rows 54 = .ok (.iload_n 3, 1) := by decide +kernel
theorem dX7_rows_55 : decode cX7_rows 55 = .ok (.iconst (-1), 1) := by decide +kernel
theorem dX7_rows_56 : decode cX7_rows 56 = .ok (.if_icmp .eq 15, 3) := by decide +kernel
theorem dX7_rows_59 : decode cX7_rows 59 = .ok (.aload 4, 2) := by decide +kernel
theorem dX7_rows_61 : decode cX7_rows 61 = .ok (.getfield 122, 3) := by decide +kernel
theorem dX7_rows_64 : decode cX7_rows 64 = .ok (.iload 6, 2) := by decide +kernel
theorem dX7_rows_66 : decode cX7_rows 66 = .ok (.iaload, 1) := by decide +kernel
theorem dX7_rows_67 : decode cX7_rows 67 = .ok (.iload_n 3, 1) := by decide +kernel
theorem dX7_rows_68 : decode cX7_rows 68 = .ok (.if_icmp .ne 7, 3) := by decide +kernel
theorem dX7_rows_71 : decode cX7_rows 71 = .ok (.iconst 1, 1) := by decide +kernel
theorem dX7_rows_72 : decode cX7_rows 72 = .ok (.goto 4, 3) := by decide +kernel
theorem dX7_rows_75 : decode cX7_rows 75 = .ok (.iconst 0, 1) := by decide +kernel
theorem dX7_rows_76 : decode cX7_rows 76 = .ok (.istore 8, 2) := by decide +kernel
theorem dX7_rows_78 : decode cX7_rows 78 = .ok (.iload 7, 2) := by decide +kernel
theorem dX7_rows_80 : decode cX7_rows 80 = .ok (.ifCond .eq 11, 3) := by decide +kernel
theorem dX7_rows_83 : decode cX7_rows 83 = .ok (.iload 8, 2) := by decide +kernel
theorem dX7_rows_85 : decode cX7_rows 85 = .ok (.ifCond .eq 6, 3) := by decide +kernel
theorem dX7_rows_88 : decode cX7_rows 88 = .ok (.iinc 5 1, 3) := by decide +kernel
theorem dX7_rows_91 : decode cX7_rows 91 = .ok (.iinc 6 1, 3) := by decide +kernel
theorem dX7_rows_94 : decode cX7_rows 94 = .ok (.goto (-74), 3) := by decide +kernel
theorem dX7_rows_97 : decode cX7_rows 97 = .ok (.iload 5, 2) := by decide +kernel
theorem dX7_rows_99 : decode cX7_rows 99 = .ok (.ireturn, 1) := by decide +kernel
theorem dX7_isPaper_0 : decode cX7_isPaper 0 = .ok (.iload_n 1, 1) := by decide +kernel
theorem dX7_isPaper_1 : decode cX7_isPaper 1 = .ok (.ifCond .lt 15, 3) := by decide +kernel
theorem dX7_isPaper_4 : decode cX7_isPaper 4 = .ok (.iload_n 1, 1) := by decide +kernel
theorem dX7_isPaper_5 : decode cX7_isPaper 5 = .ok (.aload_n 0, 1) := by decide +kernel
theorem dX7_isPaper_6 : decode cX7_isPaper 6 = .ok (.getfield 40, 3) := by decide +kernel
theorem dX7_isPaper_9 : decode cX7_isPaper 9 = .ok (.if_icmp .ge 7, 3) := by decide +kernel
theorem dX7_isPaper_12 : decode cX7_isPaper 12 = .ok (.iconst 1, 1) := by decide +kernel
theorem dX7_isPaper_13 : decode cX7_isPaper 13 = .ok (.goto 4, 3) := by decide +kernel
theorem dX7_isPaper_16 : decode cX7_isPaper 16 = .ok (.iconst 0, 1) := by decide +kernel
theorem dX7_isPaper_17 : decode cX7_isPaper 17 = .ok (.ireturn, 1) := by decide +kernel
theorem dX7_tableOf_0 : decode cX7_tableOf 0 = .ok (.iload_n 1, 1) := by decide +kernel
theorem dX7_tableOf_1 : decode cX7_tableOf 1 = .ok (.ifCond .lt 29, 3) := by decide +kernel
theorem dX7_tableOf_4 : decode cX7_tableOf 4 = .ok (.iload_n 1, 1) := by decide +kernel
theorem dX7_tableOf_5 : decode cX7_tableOf 5 = .ok (.aload_n 0, 1) := by decide +kernel
theorem dX7_tableOf_6 : decode cX7_tableOf 6 = .ok (.getfield 33, 3) := by decide +kernel
theorem dX7_tableOf_9 : decode cX7_tableOf 9 = .ok (.getfield 60, 3) := by decide +kernel
theorem dX7_tableOf_12 : decode cX7_tableOf 12 = .ok (.if_icmp .ge 18, 3) := by decide +kernel
theorem dX7_tableOf_15 : decode cX7_tableOf 15 = .ok (.iload_n 1, 1) := by decide +kernel
theorem dX7_tableOf_16 : decode cX7_tableOf 16 = .ok (.bipush 12, 2) := by decide +kernel
theorem dX7_tableOf_18 : decode cX7_tableOf 18 = .ok (.if_icmp .ge 12, 3) := by decide +kernel
theorem dX7_tableOf_21 : decode cX7_tableOf 21 = .ok (.aload_n 0, 1) := by decide +kernel
theorem dX7_tableOf_22 : decode cX7_tableOf 22 = .ok (.getfield 18, 3) := by decide +kernel
theorem dX7_tableOf_25 : decode cX7_tableOf 25 = .ok (.iload_n 1, 1) := by decide +kernel
theorem dX7_tableOf_26 : decode cX7_tableOf 26 = .ok (.aaload, 1) := by decide +kernel
theorem dX7_tableOf_27 : decode cX7_tableOf 27 = .ok (.goto 4, 3) := by decide +kernel
theorem dX7_tableOf_30 : decode cX7_tableOf 30 = .ok (.aconst_null, 1) := by decide +kernel
theorem dX7_tableOf_31 : decode cX7_tableOf 31 = .ok (.areturn, 1) := by decide +kernel
theorem dX7_beginTable_0 : decode cX7_beginTable 0 = .ok (.aload_n 0, 1) := by decide +kernel
theorem dX7_beginTable_1 : decode cX7_beginTable 1 = .ok (.iload_n 1, 1) := by decide +kernel
theorem dX7_beginTable_2 : decode cX7_beginTable 2 = .ok (.invokevirtual 85, 3) := by decide +kernel
theorem dX7_beginTable_5 : decode cX7_beginTable 5 = .ok (.astore_n 2, 1) := by decide +kernel
theorem dX7_beginTable_6 : decode cX7_beginTable 6 = .ok (.aload_n 0, 1) := by decide +kernel
theorem dX7_beginTable_7 : decode cX7_beginTable 7 = .ok (.getfield 33, 3) := by decide +kernel
theorem dX7_beginTable_10 : decode cX7_beginTable 10 = .ok (.iload_n 1, 1) := by decide +kernel
theorem dX7_beginTable_11 : decode cX7_beginTable 11 = .ok (.invokevirtual 163, 3) := by decide +kernel
theorem dX7_beginTable_14 : decode cX7_beginTable 14 = .ok (.istore_n 3, 1) := by decide +kernel
theorem dX7_beginTable_15 : decode cX7_beginTable 15 = .ok (.aload_n 2, 1) := by decide +kernel
theorem dX7_beginTable_16 : decode cX7_beginTable 16 = .ok (.ifnull 63, 3) := by decide +kernel
theorem dX7_beginTable_19 : decode cX7_beginTable 19 = .ok (.aload_n 0, 1) := by decide +kernel
theorem dX7_beginTable_20 : decode cX7_beginTable 20 = .ok (.getfield 33, 3) := by decide +kernel
theorem dX7_beginTable_23 : decode cX7_beginTable 23 = .ok (.iload_n 3, 1) := by decide +kernel
theorem dX7_beginTable_24 : decode cX7_beginTable 24 = .ok (.invokevirtual 166, 3) := by decide +kernel
theorem dX7_beginTable_27 : decode cX7_beginTable 27 = .ok (.ifCond .eq 52, 3) := by decide +kernel
theorem dX7_beginTable_30 : decode cX7_beginTable 30 = .ok (.aload_n 2, 1) := by decide +kernel
theorem dX7_beginTable_31 : decode cX7_beginTable 31 = .ok (.aload_n 0, 1) := by decide +kernel
theorem dX7_beginTable_32 : decode cX7_beginTable 32 = .ok (.getfield 33, 3) := by decide +kernel
theorem dX7_beginTable_35 : decode cX7_beginTable 35 = .ok (.getfield 169, 3) := by decide +kernel
theorem dX7_beginTable_38 : decode cX7_beginTable 38 = .ok (.iload_n 3, 1) := by decide +kernel
theorem dX7_beginTable_39 : decode cX7_beginTable 39 = .ok (.iaload, 1) := by decide +kernel
theorem dX7_beginTable_40 : decode cX7_beginTable 40 = .ok (.aload_n 0, 1) := by decide +kernel
theorem dX7_beginTable_41 : decode cX7_beginTable 41 = .ok (.getfield 33, 3) := by decide +kernel
theorem dX7_beginTable_44 : decode cX7_beginTable 44 = .ok (.getfield 171, 3) := by decide +kernel
theorem dX7_beginTable_47 : decode cX7_beginTable 47 = .ok (.iload_n 3, 1) := by decide +kernel
theorem dX7_beginTable_48 : decode cX7_beginTable 48 = .ok (.iaload, 1) := by decide +kernel
theorem dX7_beginTable_49 : decode cX7_beginTable 49 = .ok (.aload_n 0, 1) := by decide +kernel
theorem dX7_beginTable_50 : decode cX7_beginTable 50 = .ok (.getfield 33, 3) := by decide +kernel
theorem dX7_beginTable_53 : decode cX7_beginTable 53 = .ok (.getfield 173, 3) := by decide +kernel
theorem dX7_beginTable_56 : decode cX7_beginTable 56 = .ok (.iload_n 3, 1) := by decide +kernel
theorem dX7_beginTable_57 : decode cX7_beginTable 57 = .ok (.iaload, 1) := by decide +kernel
theorem dX7_beginTable_58 : decode cX7_beginTable 58 = .ok (.iconst 1, 1) := by decide +kernel
theorem dX7_beginTable_59 : decode cX7_beginTable 59 = .ok (.if_icmp .ne 7, 3) := by decide +kernel
theorem dX7_beginTable_62 : decode cX7_beginTable 62 = .ok (.iconst 1, 1) := by decide +kernel
theorem dX7_beginTable_63 : decode cX7_beginTable 63 = .ok (.goto 4, 3) := by decide +kernel
theorem dX7_beginTable_66 : decode cX7_beginTable 66 = .ok (.iconst 0, 1) := by decide +kernel
theorem dX7_beginTable_67 : decode cX7_beginTable 67 = .ok (.aload_n 0, 1) := by decide +kernel
theorem dX7_beginTable_68 : decode cX7_beginTable 68 = .ok (.getfield 33, 3) := by decide +kernel
theorem dX7_beginTable_71 : decode cX7_beginTable 71 = .ok (.getfield 176, 3) := by decide +kernel
theorem dX7_beginTable_74 : decode cX7_beginTable 74 = .ok (.iload_n 3, 1) := by decide +kernel
theorem dX7_beginTable_75 : decode cX7_beginTable 75 = .ok (.iaload, 1) := by decide +kernel
theorem dX7_beginTable_76 : decode cX7_beginTable 76 = .ok (.invokevirtual 179, 3) := by decide +kernel
theorem dX7_beginTable_79 : decode cX7_beginTable 79 = .ok (.return_, 1) := by decide +kernel
theorem dX7_forgetRows_0 : decode cX7_forgetRows 0 = .ok (.iconst 0, 1) := by decide +kernel
theorem dX7_forgetRows_1 : decode cX7_forgetRows 1 = .ok (.istore_n 2, 1) := by decide +kernel
theorem dX7_forgetRows_2 : decode cX7_forgetRows 2 = .ok (.iload_n 2, 1) := by decide +kernel
theorem dX7_forgetRows_3 : decode cX7_forgetRows 3 = .ok (.aload_n 0, 1) := by decide +kernel
theorem dX7_forgetRows_4 : decode cX7_forgetRows 4 = .ok (.getfield 33, 3) := by decide +kernel
theorem dX7_forgetRows_7 : decode cX7_forgetRows 7 = .ok (.getfield 60, 3) := by decide +kernel
theorem dX7_forgetRows_10 : decode cX7_forgetRows 10 = .ok (.if_icmp .ge 24, 3) := by decide +kernel
theorem dX7_forgetRows_13 : decode cX7_forgetRows 13 = .ok (.aload_n 0, 1) := by decide +kernel
theorem dX7_forgetRows_14 : decode cX7_forgetRows 14 = .ok (.iload_n 2, 1) := by decide +kernel
theorem dX7_forgetRows_15 : decode cX7_forgetRows 15 = .ok (.invokevirtual 85, 3) := by decide +kernel
theorem dX7_forgetRows_18 : decode cX7_forgetRows 18 = .ok (.astore_n 3, 1) := by decide +kernel
theorem dX7_forgetRows_19 : decode cX7_forgetRows 19 = .ok (.aload_n 3, 1) := by decide +kernel
theorem dX7_forgetRows_20 : decode cX7_forgetRows 20 = .ok (.ifnull 8, 3) := by decide +kernel
theorem dX7_forgetRows_23 : decode cX7_forgetRows 23 = .ok (.aload_n 3, 1) := by decide +kernel
theorem dX7_forgetRows_24 : decode cX7_forgetRows 24 = .ok (.iload_n 1, 1) := by decide +kernel
theorem dX7_forgetRows_25 : decode cX7_forgetRows 25 = .ok (.invokevirtual 183, 3) := by decide +kernel
theorem dX7_forgetRows_28 : decode cX7_forgetRows 28 = .ok (.iinc 2 1, 3) := by decide +kernel
theorem dX7_forgetRows_31 : decode cX7_forgetRows 31 = .ok (.goto (-29), 3) := by decide +kernel
theorem dX7_forgetRows_34 : decode cX7_forgetRows 34 = .ok (.return_, 1) := by decide +kernel
theorem dX7_isLetter_0 : decode cX7_isLetter 0 = .ok (.iload_n 0, 1) := by decide +kernel
theorem dX7_isLetter_1 : decode cX7_isLetter 1 = .ok (.bipush 97, 2) := by decide +kernel
theorem dX7_isLetter_3 : decode cX7_isLetter 3 = .ok (.if_icmp .lt 13, 3) := by decide +kernel
theorem dX7_isLetter_6 : decode cX7_isLetter 6 = .ok (.iload_n 0, 1) := by decide +kernel
theorem dX7_isLetter_7 : decode cX7_isLetter 7 = .ok (.bipush 122, 2) := by decide +kernel
theorem dX7_isLetter_9 : decode cX7_isLetter 9 = .ok (.if_icmp .gt 7, 3) := by decide +kernel
theorem dX7_isLetter_12 : decode cX7_isLetter 12 = .ok (.iconst 1, 1) := by decide +kernel
theorem dX7_isLetter_13 : decode cX7_isLetter 13 = .ok (.goto 4, 3) := by decide +kernel
theorem dX7_isLetter_16 : decode cX7_isLetter 16 = .ok (.iconst 0, 1) := by decide +kernel
theorem dX7_isLetter_17 : decode cX7_isLetter 17 = .ok (.ireturn, 1) := by decide +kernel
theorem dX7_isDigit_0 : decode cX7_isDigit 0 = .ok (.iload_n 0, 1) := by decide +kernel
theorem dX7_isDigit_1 : decode cX7_isDigit 1 = .ok (.bipush 48, 2) := by decide +kernel
theorem dX7_isDigit_3 : decode cX7_isDigit 3 = .ok (.if_icmp .lt 13, 3) := by decide +kernel
theorem dX7_isDigit_6 : decode cX7_isDigit 6 = .ok (.iload_n 0, 1) := by decide +kernel
theorem dX7_isDigit_7 : decode cX7_isDigit 7 = .ok (.bipush 57, 2) := by decide +kernel
theorem dX7_isDigit_9 : decode cX7_isDigit 9 = .ok (.if_icmp .gt 7, 3) := by decide +kernel
theorem dX7_isDigit_12 : decode cX7_isDigit 12 = .ok (.iconst 1, 1) := by decide +kernel
theorem dX7_isDigit_13 : decode cX7_isDigit 13 = .ok (.goto 4, 3) := by decide +kernel
theorem dX7_isDigit_16 : decode cX7_isDigit 16 = .ok (.iconst 0, 1) := by decide +kernel
theorem dX7_isDigit_17 : decode cX7_isDigit 17 = .ok (.ireturn, 1) := by decide +kernel
theorem dX8_init_0 : decode cX8_init 0 = .ok (.aload_n 0, 1) := by decide +kernel
theorem dX8_init_1 : decode cX8_init 1 = .ok (.invokespecial 1, 3) := by decide +kernel
theorem dX8_init_4 : decode cX8_init 4 = .ok (.aload_n 0, 1) := by decide +kernel
theorem dX8_init_5 : decode cX8_init 5 = .ok (.sipush 400, 3) := by decide +kernel
theorem dX8_init_8 : decode cX8_init 8 = .ok (.newarray .int, 2) := by decide +kernel
theorem dX8_init_10 : decode cX8_init 10 = .ok (.putfield 7, 3) := by decide +kernel
theorem dX8_init_13 : decode cX8_init 13 = .ok (.aload_n 0, 1) := by decide +kernel
theorem dX8_init_14 : decode cX8_init 14 = .ok (.iconst (-1), 1) := by decide +kernel
theorem dX8_init_15 : decode cX8_init 15 = .ok (.putfield 13, 3) := by decide +kernel
theorem dX8_init_18 : decode cX8_init 18 = .ok (.aload_n 0, 1) := by decide +kernel
theorem dX8_init_19 : decode cX8_init 19 = .ok (.bipush 110, 2) := by decide +kernel
theorem dX8_init_21 : decode cX8_init 21 = .ok (.bipush 117, 2) := by decide +kernel
theorem dX8_init_23 : decode cX8_init 23 = .ok (.bipush 109, 2) := by decide +kernel
theorem dX8_init_25 : decode cX8_init 25 = .ok (.bipush 32, 2) := by decide +kernel
theorem dX8_init_27 : decode cX8_init 27 = .ok (.invokestatic 17, 3) := by decide +kernel
theorem dX8_init_30 : decode cX8_init 30 = .ok (.putfield 21, 3) := by decide +kernel
theorem dX8_init_33 : decode cX8_init 33 = .ok (.aload_n 0, 1) := by decide +kernel
theorem dX8_init_34 : decode cX8_init 34 = .ok (.bipush 119, 2) := by decide +kernel
theorem dX8_init_36 : decode cX8_init 36 = .ok (.bipush 111, 2) := by decide +kernel
theorem dX8_init_38 : decode cX8_init 38 = .ok (.bipush 114, 2) := by decide +kernel
theorem dX8_init_40 : decode cX8_init 40 = .ok (.bipush 100, 2) := by decide +kernel
theorem dX8_init_42 : decode cX8_init 42 = .ok (.invokestatic 17, 3) := by decide +kernel
theorem dX8_init_45 : decode cX8_init 45 = .ok (.putfield 25, 3) := by decide +kernel
theorem dX8_init_48 : decode cX8_init 48 = .ok (.aload_n 0, 1) := by decide +kernel
theorem dX8_init_49 : decode cX8_init 49 = .ok (.bipush 111, 2) := by decide +kernel
theorem dX8_init_51 : decode cX8_init 51 = .ok (.bipush 110, 2) := by decide +kernel
theorem dX8_init_53 : decode cX8_init 53 = .ok (.bipush 101, 2) := by decide +kernel
theorem dX8_init_55 : decode cX8_init 55 = .ok (.bipush 32, 2) := by decide +kernel
theorem dX8_init_57 : decode cX8_init 57 = .ok (.invokestatic 17, 3) := by decide +kernel
theorem dX8_init_60 : decode cX8_init 60 = .ok (.putfield 28, 3) := by decide +kernel
theorem dX8_init_63 : decode cX8_init 63 = .ok (.aload_n 0, 1) := by decide +kernel
theorem dX8_init_64 : decode cX8_init 64 = .ok (.bipush 111, 2) := by decide +kernel
theorem dX8_init_66 : decode cX8_init 66 = .ok (.bipush 112, 2) := by decide +kernel
theorem dX8_init_68 : decode cX8_init 68 = .ok (.bipush 116, 2) := by decide +kernel
theorem dX8_init_70 : decode cX8_init 70 = .ok (.bipush 32, 2) := by decide +kernel
theorem dX8_init_72 : decode cX8_init 72 = .ok (.invokestatic 17, 3) := by decide +kernel
theorem dX8_init_75 : decode cX8_init 75 = .ok (.putfield 31, 3) := by decide +kernel
theorem dX8_init_78 : decode cX8_init 78 = .ok (.aload_n 0, 1) := by decide +kernel
theorem dX8_init_79 : decode cX8_init 79 = .ok (.bipush 109, 2) := by decide +kernel
theorem dX8_init_81 : decode cX8_init 81 = .ok (.bipush 97, 2) := by decide +kernel
theorem dX8_init_83 : decode cX8_init 83 = .ok (.bipush 110, 2) := by decide +kernel
theorem dX8_init_85 : decode cX8_init 85 = .ok (.bipush 121, 2) := by decide +kernel
theorem dX8_init_87 : decode cX8_init 87 = .ok (.invokestatic 17, 3) := by decide +kernel
theorem dX8_init_90 : decode cX8_init 90 = .ok (.putfield 34, 3) := by decide +kernel
theorem dX8_init_93 : decode cX8_init 93 = .ok (.aload_n 0, 1) := by decide +kernel
theorem dX8_init_94 : decode cX8_init 94 = .ok (.bipush 80, 2) := by decide +kernel
theorem dX8_init_96 : decode cX8_init 96 = .ok (.newarray .int, 2) := by decide +kernel
theorem dX8_init_98 : decode cX8_init 98 = .ok (.putfield 37, 3) := by decide +kernel
theorem dX8_init_101 : decode cX8_init 101 = .ok (.aload_n 0, 1) := by decide +kernel
theorem dX8_init_102 : decode cX8_init 102 = .ok (.bipush 80, 2) := by decide +kernel
theorem dX8_init_104 : decode cX8_init 104 = .ok (.newarray .long, 2) := by decide +kernel
theorem dX8_init_106 : decode cX8_init 106 = .ok (.putfield 40, 3) := by decide +kernel
theorem dX8_init_109 : decode cX8_init 109 = .ok (.aload_n 0, 1) := by decide +kernel
theorem dX8_init_110 : decode cX8_init 110 = .ok (.bipush 80, 2) := by decide +kernel
theorem dX8_init_112 : decode cX8_init 112 = .ok (.newarray .int, 2) := by decide +kernel
theorem dX8_init_114 : decode cX8_init 114 = .ok (.putfield 44, 3) := by decide +kernel
theorem dX8_init_117 : decode cX8_init 117 = .ok (.aload_n 0, 1) := by decide +kernel
theorem dX8_init_118 : decode cX8_init 118 = .ok (.bipush 80, 2) := by decide +kernel
theorem dX8_init_120 : decode cX8_init 120 = .ok (.newarray .int, 2) := by decide +kernel
theorem dX8_init_122 : decode cX8_init 122 = .ok (.putfield 47, 3) := by decide +kernel
theorem dX8_init_125 : decode cX8_init 125 = .ok (.aload_n 0, 1) := by decide +kernel
theorem dX8_init_126 : decode cX8_init 126 = .ok (.bipush 12, 2) := by decide +kernel
theorem dX8_init_128 : decode cX8_init 128 = .ok (.newarray .int, 2) := by decide +kernel
theorem dX8_init_130 : decode cX8_init 130 = .ok (.putfield 50, 3) := by decide +kernel
theorem dX8_init_133 : decode cX8_init 133 = .ok (.aload_n 0, 1) := by decide +kernel
theorem dX8_init_134 : decode cX8_init 134 = .ok (.bipush 80, 2) := by decide +kernel
theorem dX8_init_136 : decode cX8_init 136 = .ok (.newarray .int, 2) := by decide +kernel
theorem dX8_init_138 : decode cX8_init 138 = .ok (.putfield 53, 3) := by decide +kernel
theorem dX8_init_141 : decode cX8_init 141 = .ok (.aload_n 0, 1) := by decide +kernel
theorem dX8_init_142 : decode cX8_init 142 = .ok (.bipush 80, 2) := by decide +kernel
theorem dX8_init_144 : decode cX8_init 144 = .ok (.newarray .long, 2) := by decide +kernel
theorem dX8_init_146 : decode cX8_init 146 = .ok (.putfield 56, 3) := by decide +kernel
theorem dX8_init_149 : decode cX8_init 149 = .ok (.aload_n 0, 1) := by decide +kernel
theorem dX8_init_150 : decode cX8_init 150 = .ok (.bipush 80, 2) := by decide +kernel
theorem dX8_init_152 : decode cX8_init 152 = .ok (.newarray .int, 2) := by decide +kernel
theorem dX8_init_154 : decode cX8_init 154 = .ok (.putfield 59, 3) := by decide +kernel
theorem dX8_init_157 : decode cX8_init 157 = .ok (.aload_n 0, 1) := by decide +kernel
theorem dX8_init_158 : decode cX8_init 158 = .ok (.bipush 80, 2) := by decide +kernel
theorem dX8_init_160 : decode cX8_init 160 = .ok (.newarray .int, 2) := by decide +kernel
theorem dX8_init_162 : decode cX8_init 162 = .ok (.putfield 62, 3) := by decide +kernel
theorem dX8_init_165 : decode cX8_init 165 = .ok (.aload_n 0, 1) := by decide +kernel
theorem dX8_init_166 : decode cX8_init 166 = .ok (.bipush 12, 2) := by decide +kernel
theorem dX8_init_168 : decode cX8_init 168 = .ok (.newarray .int, 2) := by decide +kernel
theorem dX8_init_170 : decode cX8_init 170 = .ok (.putfield 65, 3) := by decide +kernel
theorem dX8_init_173 : decode cX8_init 173 = .ok (.aload_n 0, 1) := by decide +kernel
theorem dX8_init_174 : decode cX8_init 174 = .ok (.bipush 8, 2) := by decide +kernel
theorem dX8_init_176 : decode cX8_init 176 = .ok (.newarray .int, 2) := by decide +kernel
theorem dX8_init_178 : decode cX8_init 178 = .ok (.putfield 68, 3) := by decide +kernel
theorem dX8_init_181 : decode cX8_init 181 = .ok (.aload_n 0, 1) := by decide +kernel
theorem dX8_init_182 : decode cX8_init 182 = .ok (.bipush 8, 2) := by decide +kernel
theorem dX8_init_184 : decode cX8_init 184 = .ok (.newarray .int, 2) := by decide +kernel
theorem dX8_init_186 : decode cX8_init 186 = .ok (.putfield 71, 3) := by decide +kernel
theorem dX8_init_189 : decode cX8_init 189 = .ok (.aload_n 0, 1) := by decide +kernel
theorem dX8_init_190 : decode cX8_init 190 = .ok (.bipush 31, 2) := by decide +kernel
theorem dX8_init_192 : decode cX8_init 192 = .ok (.newarray .int, 2) := by decide +kernel
theorem dX8_init_194 : decode cX8_init 194 = .ok (.putfield 74, 3) := by decide +kernel
theorem dX8_init_197 : decode cX8_init 197 = .ok (.aload_n 0, 1) := by decide +kernel
theorem dX8_init_198 : decode cX8_init 198 = .ok (.sipush 6200, 3) := by decide +kernel
theorem dX8_init_201 : decode cX8_init 201 = .ok (.newarray .int, 2) := by decide +kernel
theorem dX8_init_203 : decode cX8_init 203 = .ok (.putfield 77, 3) := by decide +kernel
theorem dX8_init_206 : decode cX8_init 206 = .ok (.aload_n 0, 1) := by decide +kernel
theorem dX8_init_207 : decode cX8_init 207 = .ok (.sipush 6200, 3) := by decide +kernel
theorem dX8_init_210 : decode cX8_init 210 = .ok (.newarray .int, 2) := by decide +kernel
theorem dX8_init_212 : decode cX8_init 212 = .ok (.putfield 80, 3) := by decide +kernel
theorem dX8_init_215 : decode cX8_init 215 = .ok (.aload_n 0, 1) := by decide +kernel
theorem dX8_init_216 : decode cX8_init 216 = .ok (.sipush 6200, 3) := by decide +kernel
theorem dX8_init_219 : decode cX8_init 219 = .ok (.newarray .long, 2) := by decide +kernel
theorem dX8_init_221 : decode cX8_init 221 = .ok (.putfield 83, 3) := by decide +kernel
theorem dX8_init_224 : decode cX8_init 224 = .ok (.aload_n 0, 1) := by decide +kernel
theorem dX8_init_225 : decode cX8_init 225 = .ok (.bipush 8, 2) := by decide +kernel
theorem dX8_init_227 : decode cX8_init 227 = .ok (.newarray .int, 2) := by decide +kernel
theorem dX8_init_229 : decode cX8_init 229 = .ok (.putfield 86, 3) := by decide +kernel
theorem dX8_init_232 : decode cX8_init 232 = .ok (.aload_n 0, 1) := by decide +kernel
theorem dX8_init_233 : decode cX8_init 233 = .ok (.sipush 6300, 3) := by decide +kernel
theorem dX8_init_236 : decode cX8_init 236 = .ok (.newarray .int, 2) := by decide +kernel
theorem dX8_init_238 : decode cX8_init 238 = .ok (.putfield 89, 3) := by decide +kernel
theorem dX8_init_241 : decode cX8_init 241 = .ok (.aload_n 0, 1) := by decide +kernel
theorem dX8_init_242 : decode cX8_init 242 = .ok (.sipush 6300, 3) := by decide +kernel
theorem dX8_init_245 : decode cX8_init 245 = .ok (.newarray .int, 2) := by decide +kernel
theorem dX8_init_247 : decode cX8_init 247 = .ok (.putfield 92, 3) := by decide +kernel
theorem dX8_init_250 : decode cX8_init 250 = .ok (.aload_n 0, 1) := by decide +kernel
theorem dX8_init_251 : decode cX8_init 251 = .ok (.sipush 6300, 3) := by decide +kernel
theorem dX8_init_254 : decode cX8_init 254 = .ok (.newarray .boolean, 2) := by decide +kernel
theorem dX8_init_256 : decode cX8_init 256 = .ok (.putfield 95, 3) := by decide +kernel
theorem dX8_init_259 : decode cX8_init 259 = .ok (.aload_n 0, 1) := by decide +kernel
theorem dX8_init_260 : decode cX8_init 260 = .ok (.sipush 6300, 3) := by decide +kernel
theorem dX8_init_263 : decode cX8_init 263 = .ok (.newarray .long, 2) := by decide +kernel
theorem dX8_init_265 : decode cX8_init 265 = .ok (.putfield 99, 3) := by decide +kernel
theorem dX8_init_268 : decode cX8_init 268 = .ok (.aload_n 0, 1) := by decide +kernel
theorem dX8_init_269 : decode cX8_init 269 = .ok (.sipush 6300, 3) := by decide +kernel
theorem dX8_init_272 : decode cX8_init 272 = .ok (.newarray .int, 2) := by decide +kernel
theorem dX8_init_274 : decode cX8_init 274 = .ok (.putfield 102, 3) := by decide +kernel
theorem dX8_init_277 : decode cX8_init 277 = .ok (.aload_n 0, 1) := by decide +kernel
theorem dX8_init_278 : decode cX8_init 278 = .ok (.bipush 8, 2) := by decide +kernel
theorem dX8_init_280 : decode cX8_init 280 = .ok (.newarray .int, 2) := by decide +kernel
theorem dX8_init_282 : decode cX8_init 282 = .ok (.putfield 105, 3) := by decide +kernel
theorem dX8_init_285 : decode cX8_init 285 = .ok (.aload_n 0, 1) := by decide +kernel
theorem dX8_init_286 : decode cX8_init 286 = .ok (.bipush 8, 2) := by decide +kernel
theorem dX8_init_288 : decode cX8_init 288 = .ok (.newarray .int, 2) := by decide +kernel
theorem dX8_init_290 : decode cX8_init 290 = .ok (.putfield 108, 3) := by decide +kernel
theorem dX8_init_293 : decode cX8_init 293 = .ok (.aload_n 0, 1) := by decide +kernel
theorem dX8_init_294 : decode cX8_init 294 = .ok (.bipush 8, 2) := by decide +kernel
theorem dX8_init_296 : decode cX8_init 296 = .ok (.newarray .int, 2) := by decide +kernel
theorem dX8_init_298 : decode cX8_init 298 = .ok (.putfield 111, 3) := by decide +kernel
theorem dX8_init_301 : decode cX8_init 301 = .ok (.aload_n 0, 1) := by decide +kernel
theorem dX8_init_302 : decode cX8_init 302 = .ok (.bipush 8, 2) := by decide +kernel
theorem dX8_init_304 : decode cX8_init 304 = .ok (.newarray .int, 2) := by decide +kernel
theorem dX8_init_306 : decode cX8_init 306 = .ok (.putfield 114, 3) := by decide +kernel
theorem dX8_init_309 : decode cX8_init 309 = .ok (.aload_n 0, 1) := by decide +kernel
theorem dX8_init_310 : decode cX8_init 310 = .ok (.bipush 8, 2) := by decide +kernel
theorem dX8_init_312 : decode cX8_init 312 = .ok (.newarray .int, 2) := by decide +kernel
theorem dX8_init_314 : decode cX8_init 314 = .ok (.putfield 117, 3) := by decide +kernel
theorem dX8_init_317 : decode cX8_init 317 = .ok (.aload_n 0, 1) := by decide +kernel
theorem dX8_init_318 : decode cX8_init 318 = .ok (.sipush 1000, 3) := by decide +kernel
theorem dX8_init_321 : decode cX8_init 321 = .ok (.newarray .int, 2) := by decide +kernel
theorem dX8_init_323 : decode cX8_init 323 = .ok (.putfield 120, 3) := by decide +kernel
theorem dX8_init_326 : decode cX8_init 326 = .ok (.aload_n 0, 1) := by decide +kernel
theorem dX8_init_327 : decode cX8_init 327 = .ok (.bipush 80, 2) := by decide +kernel
theorem dX8_init_329 : decode cX8_init 329 = .ok (.newarray .boolean, 2) := by decide +kernel
theorem dX8_init_331 : decode cX8_init 331 = .ok (.putfield 123, 3) := by decide +kernel
theorem dX8_init_334 : decode cX8_init 334 = .ok (.aload_n 0, 1) := by decide +kernel
theorem dX8_init_335 : decode cX8_init 335 = .ok (.bipush 8, 2) := by decide +kernel
theorem dX8_init_337 : decode cX8_init 337 = .ok (.newarray .int, 2) := by decide +kernel
theorem dX8_init_339 : decode cX8_init 339 = .ok (.putfield 126, 3) := by decide +kernel
theorem dX8_init_342 : decode cX8_init 342 = .ok (.return_, 1) := by decide +kernel
theorem dX8_feed_0 : decode cX8_feed 0 = .ok (.aload_n 0, 1) := by decide +kernel
theorem dX8_feed_1 : decode cX8_feed 1 = .ok (.getfield 129, 3) := by decide +kernel
theorem dX8_feed_4 : decode cX8_feed 4 = .ok (.bipush 20, 2) := by decide +kernel
theorem dX8_feed_6 : decode cX8_feed 6 = .ok (.iadd, 1) := by decide +kernel
theorem dX8_feed_7 : decode cX8_feed 7 = .ok (.sipush 400, 3) := by decide +kernel
theorem dX8_feed_10 : decode cX8_feed 10 = .ok (.if_icmp .le 5, 3) := by decide +kernel
theorem dX8_feed_13 : decode cX8_feed 13 = .ok (.iconst (-1), 1) := by decide +kernel
theorem dX8_feed_14 : decode cX8_feed 14 = .ok (.ireturn, 1) := by decide +kernel
theorem dX8_feed_15 : decode cX8_feed 15 = .ok (.iconst 0, 1) := by decide +kernel
theorem dX8_feed_16 : decode cX8_feed 16 = .ok (.istore 6, 2) := by decide +kernel
theorem dX8_feed_18 : decode cX8_feed 18 = .ok (.iload 6, 2) := by decide +kernel
theorem dX8_feed_20 : decode cX8_feed 20 = .ok (.bipush 20, 2) := by decide +kernel
theorem dX8_feed_22 : decode cX8_feed 22 = .ok (.if_icmp .ge 92, 3) := by decide +kernel
theorem dX8_feed_25 : decode cX8_feed 25 = .ok (.iload 6, 2) := by decide +kernel
theorem dX8_feed_27 : decode cX8_feed 27 = .ok (.iconst 4, 1) := by decide +kernel
theorem dX8_feed_28 : decode cX8_feed 28 = .ok (.if_icmp .ge 7, 3) := by decide +kernel
theorem dX8_feed_31 : decode cX8_feed 31 = .ok (.iload_n 1, 1) := by decide +kernel
theorem dX8_feed_32 : decode cX8_feed 32 = .ok (.goto 39, 3) := by decide +kernel
theorem dX8_feed_35 : decode cX8_feed 35 = .ok (.iload 6, 2) := by decide +kernel
theorem dX8_feed_37 : decode cX8_feed 37 = .ok (.bipush 8, 2) := by decide +kernel
theorem dX8_feed_39 : decode cX8_feed 39 = .ok (.if_icmp .ge 7, 3) := by decide +kernel
theorem dX8_feed_42 : decode cX8_feed 42 = .ok (.iload_n 2, 1) := by decide +kernel
theorem dX8_feed_43 : decode cX8_feed 43 = .ok (.goto 28, 3) := by decide +kernel
theorem dX8_feed_46 : decode cX8_feed 46 = .ok (.iload 6, 2) := by decide +kernel
theorem dX8_feed_48 : decode cX8_feed 48 = .ok (.bipush 12, 2) := by decide +kernel
theorem dX8_feed_50 : decode cX8_feed 50 = .ok (.if_icmp .ge 7, 3) := by decide +kernel
theorem dX8_feed_53 : decode cX8_feed 53 = .ok (.iload_n 3, 1) := by decide +kernel
theorem dX8_feed_54 : decode cX8_feed 54 = .ok (.goto 17, 3) := by decide +kernel
theorem dX8_feed_57 : decode cX8_feed 57 = .ok (.iload 6, 2) := by decide +kernel
theorem dX8_feed_59 : decode cX8_feed 59 = .ok (.bipush 16, 2) := by decide +kernel
theorem dX8_feed_61 : decode cX8_feed 61 = .ok (.if_icmp .ge 8, 3) := by decide +kernel
theorem dX8_feed_64 : decode cX8_feed 64 = .ok (.iload 4, 2) := by decide +kernel
theorem dX8_feed_66 : decode cX8_feed 66 = .ok (.goto 5, 3) := by decide +kernel
theorem dX8_feed_69 : decode cX8_feed 69 = .ok (.iload 5, 2) := by decide +kernel
theorem dX8_feed_71 : decode cX8_feed 71 = .ok (.istore 7, 2) := by decide +kernel
theorem dX8_feed_73 : decode cX8_feed 73 = .ok (.aload_n 0, 1) := by decide +kernel
theorem dX8_feed_74 : decode cX8_feed 74 = .ok (.getfield 7, 3) := by decide +kernel
theorem dX8_feed_77 : decode cX8_feed 77 = .ok (.aload_n 0, 1) := by decide +kernel
theorem dX8_feed_78 : decode cX8_feed 78 = .ok (.getfield 129, 3) := by decide +kernel
theorem dX8_feed_81 : decode cX8_feed 81 = .ok (.iload 7, 2) := by decide +kernel
theorem dX8_feed_83 : decode cX8_feed 83 = .ok (.bipush 8, 2) := by decide +kernel
theorem dX8_feed_85 : decode cX8_feed 85 = .ok (.iconst 3, 1) := by decide +kernel
theorem dX8_feed_86 : decode cX8_feed 86 = .ok (.iload 6, 2) := by decide +kernel
theorem dX8_feed_88 : decode cX8_feed 88 = .ok (.iconst 4, 1) := by decide +kernel
theorem dX8_feed_89 : decode cX8_feed 89 = .ok (.irem, 1) := by decide +kernel
theorem dX8_feed_90 : decode cX8_feed 90 = .ok (.isub, 1) := by decide +kernel
theorem dX8_feed_91 : decode cX8_feed 91 = .ok (.imul, 1) := by decide +kernel
theorem dX8_feed_92 : decode cX8_feed 92 = .ok (.ishr, 1) := by decide +kernel
theorem dX8_feed_93 : decode cX8_feed 93 = .ok (.sipush 255, 3) := by decide +kernel
theorem dX8_feed_96 : decode cX8_feed 96 = .ok (.iand, 1) := by decide +kernel
theorem dX8_feed_97 : decode cX8_feed 97 = .ok (.iastore, 1) := by decide +kernel
theorem dX8_feed_98 : decode cX8_feed 98 = .ok (.aload_n 0, 1) := by decide +kernel
theorem dX8_feed_99 : decode cX8_feed 99 = .ok (.dup, 1) := by decide +kernel
theorem dX8_feed_100 : decode cX8_feed 100 = .ok (.getfield 129, 3) := by decide +kernel
theorem dX8_feed_103 : decode cX8_feed 103 = .ok (.iconst 1, 1) := by decide +kernel
theorem dX8_feed_104 : decode cX8_feed 104 = .ok (.iadd, 1) := by decide +kernel
theorem dX8_feed_105 : decode cX8_feed 105 = .ok (.putfield 129, 3) := by decide +kernel
theorem dX8_feed_108 : decode cX8_feed 108 = .ok (.iinc 6 1, 3) := by decide +kernel
theorem dX8_feed_111 : decode cX8_feed 111 = .ok (.goto (-93), 3) := by decide +kernel
theorem dX8_feed_114 : decode cX8_feed 114 = .ok (.aload_n 0, 1) := by decide +kernel
theorem dX8_feed_115 : decode cX8_feed 115 = .ok (.getfield 129, 3) := by decide +kernel
theorem dX8_feed_118 : decode cX8_feed 118 = .ok (.ireturn, 1) := by decide +kernel
theorem dX8_end_0 : decode cX8_end 0 = .ok (.iload_n 1, 1) := by decide +kernel
theorem dX8_end_1 : decode cX8_end 1 = .ok (.ifCond .lt 11, 3) := by decide +kernel
theorem dX8_end_4 : decode cX8_end 4 = .ok (.iload_n 1, 1) := by decide +kernel
theorem dX8_end_5 : decode cX8_end 5 = .ok (.aload_n 0, 1) := by decide +kernel
theorem dX8_end_6 : decode cX8_end 6 = .ok (.getfield 129, 3) := by decide +kernel
theorem dX8_end_9 : decode cX8_end 9 = .ok (.if_icmp .le 5, 3) := by decide +kernel
theorem dX8_end_12 : decode cX8_end 12 = .ok (.iconst 0, 1) := by decide +kernel
theorem dX8_end_13 : decode cX8_end 13 = .ok (.ireturn, 1) := by decide +kernel
theorem dX8_end_14 : decode cX8_end 14 = .ok (.aload_n 0, 1) := by decide +kernel
theorem dX8_end_15 : decode cX8_end 15 = .ok (.iload_n 1, 1) := by decide +kernel
theorem dX8_end_16 : decode cX8_end 16 = .ok (.putfield 129, 3) := by decide +kernel
theorem dX8_end_19 : decode cX8_end 19 = .ok (.iconst 1, 1) := by decide +kernel
theorem dX8_end_20 : decode cX8_end 20 = .ok (.ireturn, 1) := by decide +kernel
theorem dX8_fail_0 : decode cX8_fail 0 = .ok (.aload_n 0, 1) := by decide +kernel
theorem dX8_fail_1 : decode cX8_fail 1 = .ok (.getfield 132, 3) := by decide +kernel
theorem dX8_fail_4 : decode cX8_fail 4 = .ok (.ifCond .eq 4, 3) := by decide +kernel
theorem dX8_fail_7 : decode cX8_fail 7 = .ok (.return_, 1) := by decide +kernel
theorem dX8_fail_8 : decode cX8_fail 8 = .ok (.aload_n 0, 1) := by decide +kernel
theorem dX8_fail_9 : decode cX8_fail 9 = .ok (.iload_n 1, 1) := by decide +kernel
theorem dX8_fail_10 : decode cX8_fail 10 = .ok (.putfield 132, 3) := by decide +kernel
theorem dX8_fail_13 : decode cX8_fail 13 = .ok (.aload_n 0, 1) := by decide +kernel
theorem dX8_fail_14 : decode cX8_fail 14 = .ok (.iload_n 2, 1) := by decide +kernel
theorem dX8_fail_15 : decode cX8_fail 15 = .ok (.putfield 135, 3) := by decide +kernel
theorem dX8_fail_18 : decode cX8_fail 18 = .ok (.return_, 1) := by decide +kernel
theorem dX8_isLetter_0 : decode cX8_isLetter 0 = .ok (.iload_n 0, 1) := by decide +kernel
theorem dX8_isLetter_1 : decode cX8_isLetter 1 = .ok (.bipush 97, 2) := by decide +kernel
theorem dX8_isLetter_3 : decode cX8_isLetter 3 = .ok (.if_icmp .lt 13, 3) := by decide +kernel
theorem dX8_isLetter_6 : decode cX8_isLetter 6 = .ok (.iload_n 0, 1) := by decide +kernel
theorem dX8_isLetter_7 : decode cX8_isLetter 7 = .ok (.bipush 122, 2) := by decide +kernel
theorem dX8_isLetter_9 : decode cX8_isLetter 9 = .ok (.if_icmp .gt 7, 3) := by decide +kernel
theorem dX8_isLetter_12 : decode cX8_isLetter 12 = .ok (.iconst 1, 1) := by decide +kernel
theorem dX8_isLetter_13 : decode cX8_isLetter 13 = .ok (.goto 4, 3) := by decide +kernel
theorem dX8_isLetter_16 : decode cX8_isLetter 16 = .ok (.iconst 0, 1) := by decide +kernel
theorem dX8_isLetter_17 : decode cX8_isLetter 17 = .ok (.ireturn, 1) := by decide +kernel
theorem dX8_isDigit_0 : decode cX8_isDigit 0 = .ok (.iload_n 0, 1) := by decide +kernel
theorem dX8_isDigit_1 : decode cX8_isDigit 1 = .ok (.bipush 48, 2) := by decide +kernel
theorem dX8_isDigit_3 : decode cX8_isDigit 3 = .ok (.if_icmp .lt 13, 3) := by decide +kernel
theorem dX8_isDigit_6 : decode cX8_isDigit 6 = .ok (.iload_n 0, 1) := by decide +kernel
theorem dX8_isDigit_7 : decode cX8_isDigit 7 = .ok (.bipush 57, 2) := by decide +kernel
theorem dX8_isDigit_9 : decode cX8_isDigit 9 = .ok (.if_icmp .gt 7, 3) := by decide +kernel
theorem dX8_isDigit_12 : decode cX8_isDigit 12 = .ok (.iconst 1, 1) := by decide +kernel
theorem dX8_isDigit_13 : decode cX8_isDigit 13 = .ok (.goto 4, 3) := by decide +kernel
theorem dX8_isDigit_16 : decode cX8_isDigit 16 = .ok (.iconst 0, 1) := by decide +kernel
theorem dX8_isDigit_17 : decode cX8_isDigit 17 = .ok (.ireturn, 1) := by decide +kernel
theorem dX8_next_0 : decode cX8_next 0 = .ok (.aload_n 0, 1) := by decide +kernel
theorem dX8_next_1 : decode cX8_next 1 = .ok (.getfield 138, 3) := by decide +kernel
theorem dX8_next_4 : decode cX8_next 4 = .ok (.aload_n 0, 1) := by decide +kernel
theorem dX8_next_5 : decode cX8_next 5 = .ok (.getfield 141, 3) := by decide +kernel
theorem dX8_next_8 : decode cX8_next 8 = .ok (.if_icmp .ge 44, 3) := by decide +kernel
theorem dX8_next_11 : decode cX8_next 11 = .ok (.aload_n 0, 1) := by decide +kernel
theorem dX8_next_12 : decode cX8_next 12 = .ok (.getfield 7, 3) := by decide +kernel
theorem dX8_next_15 : decode cX8_next 15 = .ok (.aload_n 0, 1) := by decide +kernel
theorem dX8_next_16 : decode cX8_next 16 = .ok (.getfield 138, 3) := by decide +kernel
theorem dX8_next_19 : decode cX8_next 19 = .ok (.iaload, 1) := by decide +kernel
theorem dX8_next_20 : decode cX8_next 20 = .ok (.bipush 10, 2) := by decide +kernel
theorem dX8_next_22 : decode cX8_next 22 = .ok (.if_icmp .eq 17, 3) := by decide +kernel
theorem dX8_next_25 : decode cX8_next 25 = .ok (.aload_n 0, 1) := by decide +kernel
theorem dX8_next_26 : decode cX8_next 26 = .ok (.getfield 7, 3) := by decide +kernel
theorem dX8_next_29 : decode cX8_next 29 = .ok (.aload_n 0, 1) := by decide +kernel
theorem dX8_next_30 : decode cX8_next 30 = .ok (.getfield 138, 3) := by decide +kernel
theorem dX8_next_33 : decode cX8_next 33 = .ok (.iaload, 1) := by decide +kernel
theorem dX8_next_34 : decode cX8_next 34 = .ok (.bipush 32, 2) := by decide +kernel
theorem dX8_next_36 : decode cX8_next 36 = .ok (.if_icmp .ne 16, 3) := by decide +kernel
theorem dX8_next_39 : decode cX8_next 39 = .ok (.aload_n 0, 1) := by decide +kernel
theorem dX8_next_40 : decode cX8_next 40 = .ok (.dup, 1) := by decide +kernel
theorem dX8_next_41 : decode cX8_next 41 = .ok (.getfield 138, 3) := by decide +kernel
theorem dX8_next_44 : decode cX8_next 44 = .ok (.iconst 1, 1) := by decide +kernel
theorem dX8_next_45 : decode cX8_next 45 = .ok (.iadd, 1) := by decide +kernel
theorem dX8_next_46 : decode cX8_next 46 = .ok (.putfield 138, 3) := by decide +kernel
theorem dX8_next_49 : decode cX8_next 49 = .ok (.goto (-49), 3) := by decide +kernel
theorem dX8_next_52 : decode cX8_next 52 = .ok (.aload_n 0, 1) := by decide +kernel
theorem dX8_next_53 : decode cX8_next 53 = .ok (.getfield 138, 3) := by decide +kernel
theorem dX8_next_56 : decode cX8_next 56 = .ok (.aload_n 0, 1) := by decide +kernel
theorem dX8_next_57 : decode cX8_next 57 = .ok (.getfield 141, 3) := by decide +kernel
theorem dX8_next_60 : decode cX8_next 60 = .ok (.if_icmp .ge 15, 3) := by decide +kernel
theorem dX8_next_63 : decode cX8_next 63 = .ok (.aload_n 0, 1) := by decide +kernel
theorem dX8_next_64 : decode cX8_next 64 = .ok (.getfield 7, 3) := by decide +kernel
theorem dX8_next_67 : decode cX8_next 67 = .ok (.aload_n 0, 1) := by decide +kernel
theorem dX8_next_68 : decode cX8_next 68 = .ok (.getfield 138, 3) := by decide +kernel
theorem dX8_next_71 : decode cX8_next 71 = .ok (.iaload, 1) := by decide +kernel
theorem dX8_next_72 : decode cX8_next 72 = .ok (.goto 4, 3) := by decide +kernel
theorem dX8_next_75 : decode cX8_next 75 = .ok (.iconst (-1), 1) := by decide +kernel
theorem dX8_next_76 : decode cX8_next 76 = .ok (.ireturn, 1) := by decide +kernel
theorem dX8_sign_0 : decode cX8_sign 0 = .ok (.aload_n 0, 1) := by decide +kernel
theorem dX8_sign_1 : decode cX8_sign 1 = .ok (.invokevirtual 144, 3) := by decide +kernel
theorem dX8_sign_4 : decode cX8_sign 4 = .ok (.iload_n 1, 1) := by decide +kernel
theorem dX8_sign_5 : decode cX8_sign 5 = .ok (.if_icmp .ne 16, 3) := by decide +kernel
theorem dX8_sign_8 : decode cX8_sign 8 = .ok (.aload_n 0, 1) := by decide +kernel
theorem dX8_sign_9 : decode cX8_sign 9 = .ok (.dup, 1) := by decide +kernel
theorem dX8_sign_10 : decode cX8_sign 10 = .ok (.getfield 138, 3) := by decide +kernel
theorem dX8_sign_13 : decode cX8_sign 13 = .ok (.iconst 1, 1) := by decide +kernel
theorem dX8_sign_14 : decode cX8_sign 14 = .ok (.iadd, 1) := by decide +kernel
theorem dX8_sign_15 : decode cX8_sign 15 = .ok (.putfield 138, 3) := by decide +kernel
theorem dX8_sign_18 : decode cX8_sign 18 = .ok (.goto 12, 3) := by decide +kernel
theorem dX8_sign_21 : decode cX8_sign 21 = .ok (.aload_n 0, 1) := by decide +kernel
theorem dX8_sign_22 : decode cX8_sign 22 = .ok (.iconst 1, 1) := by decide +kernel
theorem dX8_sign_23 : decode cX8_sign 23 = .ok (.aload_n 0, 1) := by decide +kernel
theorem dX8_sign_24 : decode cX8_sign 24 = .ok (.getfield 138, 3) := by decide +kernel
theorem dX8_sign_27 : decode cX8_sign 27 = .ok (.invokevirtual 148, 3) := by decide +kernel
theorem dX8_sign_30 : decode cX8_sign 30 = .ok (.return_, 1) := by decide +kernel
theorem dX8_word_0 : decode cX8_word 0 = .ok (.aload_n 0, 1) := by decide +kernel
theorem dX8_word_1 : decode cX8_word 1 = .ok (.invokevirtual 144, 3) := by decide +kernel
theorem dX8_word_4 : decode cX8_word 4 = .ok (.invokestatic 152, 3) := by decide +kernel
theorem dX8_word_7 : decode cX8_word 7 = .ok (.ifCond .ne 14, 3) := by decide +kernel
theorem dX8_word_10 : decode cX8_word 10 = .ok (.aload_n 0, 1) := by decide +kernel
theorem dX8_word_11 : decode cX8_word 11 = .ok (.iconst 1, 1) := by decide +kernel
theorem dX8_word_12 : decode cX8_word 12 = .ok (.aload_n 0, 1) := by decide +kernel
theorem dX8_word_13 : decode cX8_word 13 = .ok (.getfield 138, 3) := by decide +kernel
theorem dX8_word_16 : decode cX8_word 16 = .ok (.invokevirtual 148, 3) := by decide +kernel
theorem dX8_word_19 : decode cX8_word 19 = .ok (.lconst 0, 1) := by decide +kernel
theorem dX8_word_20 : decode cX8_word 20 = .ok (.lreturn, 1) := by decide +kernel
theorem dX8_word_21 : decode cX8_word 21 = .ok (.lconst 0, 1) := by decide +kernel
theorem dX8_word_22 : decode cX8_word 22 = .ok (.lstore_n 1, 1) := by decide +kernel
theorem dX8_word_23 : decode cX8_word 23 = .ok (.iconst 0, 1) := by decide +kernel
theorem dX8_word_24 : decode cX8_word 24 = .ok (.istore_n 3, 1) := by decide +kernel
theorem dX8_word_25 : decode cX8_word 25 = .ok (.aload_n 0, 1) := by decide +kernel
theorem dX8_word_26 : decode cX8_word 26 = .ok (.getfield 138, 3) := by decide +kernel
theorem dX8_word_29 : decode cX8_word 29 = .ok (.aload_n 0, 1) := by decide +kernel
theorem dX8_word_30 : decode cX8_word 30 = .ok (.getfield 141, 3) := by decide +kernel
theorem dX8_word_33 : decode cX8_word 33 = .ok (.if_icmp .ge 81, 3) := by decide +kernel
theorem dX8_word_36 : decode cX8_word 36 = .ok (.aload_n 0, 1) := by decide +kernel
theorem dX8_word_37 : decode cX8_word 37 = .ok (.getfield 7, 3) := by decide +kernel
theorem dX8_word_40 : decode cX8_word 40 = .ok (.aload_n 0, 1) := by decide +kernel
theorem dX8_word_41 : decode cX8_word 41 = .ok (.getfield 138, 3) := by decide +kernel
theorem dX8_word_44 : decode cX8_word 44 = .ok (.iaload, 1) := by decide +kernel
theorem dX8_word_45 : decode cX8_word 45 = .ok (.invokestatic 152, 3) := by decide +kernel
theorem dX8_word_48 : decode cX8_word 48 = .ok (.ifCond .eq 66, 3) := by decide +kernel
