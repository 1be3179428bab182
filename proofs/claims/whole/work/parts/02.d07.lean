theorem dX4_init_0 : decode cX4_init 0 = .ok (.aload_n 0, 1) := by decide +kernel
theorem dX4_init_1 : decode cX4_init 1 = .ok (.invokespecial 1, 3) := by decide +kernel
theorem dX4_init_4 : decode cX4_init 4 = .ok (.aload_n 0, 1) := by decide +kernel
theorem dX4_init_5 : decode cX4_init 5 = .ok (.sipush 915, 3) := by decide +kernel
theorem dX4_init_8 : decode cX4_init 8 = .ok (.newarray .long, 2) := by decide +kernel
theorem dX4_init_10 : decode cX4_init 10 = .ok (.putfield 7, 3) := by decide +kernel
theorem dX4_init_13 : decode cX4_init 13 = .ok (.aload_n 0, 1) := by decide +kernel
theorem dX4_init_14 : decode cX4_init 14 = .ok (.sipush 915, 3) := by decide +kernel
theorem dX4_init_17 : decode cX4_init 17 = .ok (.newarray .long, 2) := by decide +kernel
theorem dX4_init_19 : decode cX4_init 19 = .ok (.putfield 13, 3) := by decide +kernel
theorem dX4_init_22 : decode cX4_init 22 = .ok (.aload_n 0, 1) := by decide +kernel
theorem dX4_init_23 : decode cX4_init 23 = .ok (.sipush 3660, 3) := by decide +kernel
theorem dX4_init_26 : decode cX4_init 26 = .ok (.newarray .long, 2) := by decide +kernel
theorem dX4_init_28 : decode cX4_init 28 = .ok (.putfield 16, 3) := by decide +kernel
theorem dX4_init_31 : decode cX4_init 31 = .ok (.aload_n 0, 1) := by decide +kernel
theorem dX4_init_32 : decode cX4_init 32 = .ok (.bipush 100, 2) := by decide +kernel
theorem dX4_init_34 : decode cX4_init 34 = .ok (.newarray .int, 2) := by decide +kernel
theorem dX4_init_36 : decode cX4_init 36 = .ok (.putfield 19, 3) := by decide +kernel
theorem dX4_init_39 : decode cX4_init 39 = .ok (.aload_n 0, 1) := by decide +kernel
theorem dX4_init_40 : decode cX4_init 40 = .ok (.bipush 60, 2) := by decide +kernel
theorem dX4_init_42 : decode cX4_init 42 = .ok (.newarray .int, 2) := by decide +kernel
theorem dX4_init_44 : decode cX4_init 44 = .ok (.putfield 23, 3) := by decide +kernel
theorem dX4_init_47 : decode cX4_init 47 = .ok (.aload_n 0, 1) := by decide +kernel
theorem dX4_init_48 : decode cX4_init 48 = .ok (.getfield 7, 3) := by decide +kernel
theorem dX4_init_51 : decode cX4_init 51 = .ok (.iconst 0, 1) := by decide +kernel
theorem dX4_init_52 : decode cX4_init 52 = .ok (.lconst 1, 1) := by decide +kernel
theorem dX4_init_53 : decode cX4_init 53 = .ok (.lastore, 1) := by decide +kernel
theorem dX4_init_54 : decode cX4_init 54 = .ok (.aload_n 0, 1) := by decide +kernel
theorem dX4_init_55 : decode cX4_init 55 = .ok (.getfield 7, 3) := by decide +kernel
theorem dX4_init_58 : decode cX4_init 58 = .ok (.iconst 1, 1) := by decide +kernel
theorem dX4_init_59 : decode cX4_init 59 = .ok (.lconst 1, 1) := by decide +kernel
theorem dX4_init_60 : decode cX4_init 60 = .ok (.lastore, 1) := by decide +kernel
theorem dX4_init_61 : decode cX4_init 61 = .ok (.aload_n 0, 1) := by decide +kernel
theorem dX4_init_62 : decode cX4_init 62 = .ok (.getfield 7, 3) := by decide +kernel
theorem dX4_init_65 : decode cX4_init 65 = .ok (.bipush 6, 2) := by decide +kernel
theorem dX4_init_67 : decode cX4_init 67 = .ok (.ldc2_w 26, 3) := by decide +kernel
theorem dX4_init_70 : decode cX4_init 70 = .ok (.lastore, 1) := by decide +kernel
theorem dX4_init_71 : decode cX4_init 71 = .ok (.aload_n 0, 1) := by decide +kernel
theorem dX4_init_72 : decode cX4_init 72 = .ok (.getfield 7, 3) := by decide +kernel
theorem dX4_init_75 : decode cX4_init 75 = .ok (.bipush 7, 2) := by decide +kernel
theorem dX4_init_77 : decode cX4_init 77 = .ok (.ldc2_w 26, 3) := by decide +kernel
theorem dX4_init_80 : decode cX4_init 80 = .ok (.lastore, 1) := by decide +kernel
theorem dX4_init_81 : decode cX4_init 81 = .ok (.aload_n 0, 1) := by decide +kernel
theorem dX4_init_82 : decode cX4_init 82 = .ok (.getfield 7, 3) := by decide +kernel
theorem dX4_init_85 : decode cX4_init 85 = .ok (.bipush 8, 2) := by decide +kernel
theorem dX4_init_87 : decode cX4_init 87 = .ok (.ldc2_w 28, 3) := by decide +kernel
theorem dX4_init_90 : decode cX4_init 90 = .ok (.lastore, 1) := by decide +kernel
theorem dX4_init_91 : decode cX4_init 91 = .ok (.return_, 1) := by decide +kernel
theorem dX4_in_0 : decode cX4_in 0 = .ok (.iload_n 0, 1) := by decide +kernel
theorem dX4_in_1 : decode cX4_in 1 = .ok (.iload_n 1, 1) := by decide +kernel
theorem dX4_in_2 : decode cX4_in 2 = .ok (.if_icmp .lt 12, 3) := by decide +kernel
theorem dX4_in_5 : decode cX4_in 5 = .ok (.iload_n 0, 1) := by decide +kernel
theorem dX4_in_6 : decode cX4_in 6 = .ok (.iload_n 2, 1) := by decide +kernel
theorem dX4_in_7 : decode cX4_in 7 = .ok (.if_icmp .gt 7, 3) := by decide +kernel
theorem dX4_in_10 : decode cX4_in 10 = .ok (.iconst 1, 1) := by decide +kernel
theorem dX4_in_11 : decode cX4_in 11 = .ok (.goto 4, 3) := by decide +kernel
theorem dX4_in_14 : decode cX4_in 14 = .ok (.iconst 0, 1) := by decide +kernel
theorem dX4_in_15 : decode cX4_in 15 = .ok (.ireturn, 1) := by decide +kernel
theorem dX4_size_0 : decode cX4_size 0 = .ok (.lload_n 0, 1) := by decide +kernel
theorem dX4_size_1 : decode cX4_size 1 = .ok (.lconst 0, 1) := by decide +kernel
theorem dX4_size_2 : decode cX4_size 2 = .ok (.lcmp, 1) := by decide +kernel
theorem dX4_size_3 : decode cX4_size 3 = .ok (.ifCond .ge 8, 3) := by decide +kernel
theorem dX4_size_6 : decode cX4_size 6 = .ok (.lload_n 0, 1) := by decide +kernel
theorem dX4_size_7 : decode cX4_size 7 = .ok (.lneg, 1) := by decide +kernel
theorem dX4_size_8 : decode cX4_size 8 = .ok (.goto 4, 3) := by decide +kernel
theorem dX4_size_11 : decode cX4_size 11 = .ok (.lload_n 0, 1) := by decide +kernel
theorem dX4_size_12 : decode cX4_size 12 = .ok (.lreturn, 1) := by decide +kernel
theorem dX4_divisor_0 : decode cX4_divisor 0 = .ok (.lload_n 0, 1) := by decide +kernel
theorem dX4_divisor_1 : decode cX4_divisor 1 = .ok (.invokestatic 30, 3) := by decide +kernel
theorem dX4_divisor_4 : decode cX4_divisor 4 = .ok (.lstore 4, 2) := by decide +kernel
theorem dX4_divisor_6 : decode cX4_divisor 6 = .ok (.lload_n 2, 1) := by decide +kernel
theorem dX4_divisor_7 : decode cX4_divisor 7 = .ok (.invokestatic 30, 3) := by decide +kernel
theorem dX4_divisor_10 : decode cX4_divisor 10 = .ok (.lstore 6, 2) := by decide +kernel
theorem dX4_divisor_12 : decode cX4_divisor 12 = .ok (.lload 6, 2) := by decide +kernel
theorem dX4_divisor_14 : decode cX4_divisor 14 = .ok (.lconst 0, 1) := by decide +kernel
theorem dX4_divisor_15 : decode cX4_divisor 15 = .ok (.lcmp, 1) := by decide +kernel
theorem dX4_divisor_16 : decode cX4_divisor 16 = .ok (.ifCond .eq 21, 3) := by decide +kernel
theorem dX4_divisor_19 : decode cX4_divisor 19 = .ok (.lload 4, 2) := by decide +kernel
theorem dX4_divisor_21 : decode cX4_divisor 21 = .ok (.lload 6, 2) := by decide +kernel
theorem dX4_divisor_23 : decode cX4_divisor 23 = .ok (.lrem, 1) := by decide +kernel
theorem dX4_divisor_24 : decode cX4_divisor 24 = .ok (.lstore 8, 2) := by decide +kernel
theorem dX4_divisor_26 : decode cX4_divisor 26 = .ok (.lload 6, 2) := by decide +kernel
theorem dX4_divisor_28 : decode cX4_divisor 28 = .ok (.lstore 4, 2) := by decide +kernel
theorem dX4_divisor_30 : decode cX4_divisor 30 = .ok (.lload 8, 2) := by decide +kernel
theorem dX4_divisor_32 : decode cX4_divisor 32 = .ok (.lstore 6, 2) := by decide +kernel
theorem dX4_divisor_34 : decode cX4_divisor 34 = .ok (.goto (-22), 3) := by decide +kernel
theorem dX4_divisor_37 : decode cX4_divisor 37 = .ok (.lload 4, 2) := by decide +kernel
theorem dX4_divisor_39 : decode cX4_divisor 39 = .ok (.lreturn, 1) := by decide +kernel
theorem dX4_bring_0 : decode cX4_bring 0 = .ok (.iconst 0, 1) := by decide +kernel
theorem dX4_bring_1 : decode cX4_bring 1 = .ok (.istore 4, 2) := by decide +kernel
theorem dX4_bring_3 : decode cX4_bring 3 = .ok (.iload 4, 2) := by decide +kernel
theorem dX4_bring_5 : decode cX4_bring 5 = .ok (.sipush 915, 3) := by decide +kernel
theorem dX4_bring_8 : decode cX4_bring 8 = .ok (.if_icmp .ge 21, 3) := by decide +kernel
theorem dX4_bring_11 : decode cX4_bring 11 = .ok (.aload_n 2, 1) := by decide +kernel
theorem dX4_bring_12 : decode cX4_bring 12 = .ok (.iload_n 3, 1) := by decide +kernel
theorem dX4_bring_13 : decode cX4_bring 13 = .ok (.iload 4, 2) := by decide +kernel
theorem dX4_bring_15 : decode cX4_bring 15 = .ok (.iadd, 1) := by decide +kernel
theorem dX4_bring_16 : decode cX4_bring 16 = .ok (.aload_n 0, 1) := by decide +kernel
theorem dX4_bring_17 : decode cX4_bring 17 = .ok (.iload_n 1, 1) := by decide +kernel
theorem dX4_bring_18 : decode cX4_bring 18 = .ok (.iload 4, 2) := by decide +kernel
theorem dX4_bring_20 : decode cX4_bring 20 = .ok (.iadd, 1) := by decide +kernel
theorem dX4_bring_21 : decode cX4_bring 21 = .ok (.laload, 1) := by decide +kernel
theorem dX4_bring_22 : decode cX4_bring 22 = .ok (.lastore, 1) := by decide +kernel
theorem dX4_bring_23 : decode cX4_bring 23 = .ok (.iinc 4 1, 3) := by decide +kernel
theorem dX4_bring_26 : decode cX4_bring 26 = .ok (.goto (-23), 3) := by decide +kernel
theorem dX4_bring_29 : decode cX4_bring 29 = .ok (.return_, 1) := by decide +kernel
theorem dX4_keep_0 : decode cX4_keep 0 = .ok (.aload_n 0, 1) := by decide +kernel
theorem dX4_keep_1 : decode cX4_keep 1 = .ok (.getfield 34, 3) := by decide +kernel
theorem dX4_keep_4 : decode cX4_keep 4 = .ok (.iconst 4, 1) := by decide +kernel
theorem dX4_keep_5 : decode cX4_keep 5 = .ok (.if_icmp .ne 44, 3) := by decide +kernel
theorem dX4_keep_8 : decode cX4_keep 8 = .ok (.iconst 0, 1) := by decide +kernel
theorem dX4_keep_9 : decode cX4_keep 9 = .ok (.istore_n 1, 1) := by decide +kernel
theorem dX4_keep_10 : decode cX4_keep 10 = .ok (.iload_n 1, 1) := by decide +kernel
theorem dX4_keep_11 : decode cX4_keep 11 = .ok (.sipush 2745, 3) := by decide +kernel
theorem dX4_keep_14 : decode cX4_keep 14 = .ok (.if_icmp .ge 25, 3) := by decide +kernel
theorem dX4_keep_17 : decode cX4_keep 17 = .ok (.aload_n 0, 1) := by decide +kernel
theorem dX4_keep_18 : decode cX4_keep 18 = .ok (.getfield 16, 3) := by decide +kernel
theorem dX4_keep_21 : decode cX4_keep 21 = .ok (.iload_n 1, 1) := by decide +kernel
theorem dX4_keep_22 : decode cX4_keep 22 = .ok (.aload_n 0, 1) := by decide +kernel
theorem dX4_keep_23 : decode cX4_keep 23 = .ok (.getfield 16, 3) := by decide +kernel
theorem dX4_keep_26 : decode cX4_keep 26 = .ok (.iload_n 1, 1) := by decide +kernel
theorem dX4_keep_27 : decode cX4_keep 27 = .ok (.sipush 915, 3) := by decide +kernel
theorem dX4_keep_30 : decode cX4_keep 30 = .ok (.iadd, 1) := by decide +kernel
theorem dX4_keep_31 : decode cX4_keep 31 = .ok (.laload, 1) := by decide +kernel
theorem dX4_keep_32 : decode cX4_keep 32 = .ok (.lastore, 1) := by decide +kernel
theorem dX4_keep_33 : decode cX4_keep 33 = .ok (.iinc 1 1, 3) := by decide +kernel
theorem dX4_keep_36 : decode cX4_keep 36 = .ok (.goto (-26), 3) := by decide +kernel
theorem dX4_keep_39 : decode cX4_keep 39 = .ok (.aload_n 0, 1) := by decide +kernel
theorem dX4_keep_40 : decode cX4_keep 40 = .ok (.dup, 1) := by decide +kernel
theorem dX4_keep_41 : decode cX4_keep 41 = .ok (.getfield 34, 3) := by decide +kernel
theorem dX4_keep_44 : decode cX4_keep 44 = .ok (.iconst 1, 1) := by decide +kernel
theorem dX4_keep_45 : decode cX4_keep 45 = .ok (.isub, 1) := by decide +kernel
theorem dX4_keep_46 : decode cX4_keep 46 = .ok (.putfield 34, 3) := by decide +kernel
theorem dX4_keep_49 : decode cX4_keep 49 = .ok (.aload_n 0, 1) := by decide +kernel
theorem dX4_keep_50 : decode cX4_keep 50 = .ok (.getfield 7, 3) := by decide +kernel
theorem dX4_keep_53 : decode cX4_keep 53 = .ok (.iconst 0, 1) := by decide +kernel
theorem dX4_keep_54 : decode cX4_keep 54 = .ok (.aload_n 0, 1) := by decide +kernel
theorem dX4_keep_55 : decode cX4_keep 55 = .ok (.getfield 16, 3) := by decide +kernel
theorem dX4_keep_58 : decode cX4_keep 58 = .ok (.sipush 915, 3) := by decide +kernel
theorem dX4_keep_61 : decode cX4_keep 61 = .ok (.aload_n 0, 1) := by decide +kernel
theorem dX4_keep_62 : decode cX4_keep 62 = .ok (.getfield 34, 3) := by decide +kernel
theorem dX4_keep_65 : decode cX4_keep 65 = .ok (.imul, 1) := by decide +kernel
theorem dX4_keep_66 : decode cX4_keep 66 = .ok (.invokestatic 38, 3) := by decide +kernel
theorem dX4_keep_69 : decode cX4_keep 69 = .ok (.aload_n 0, 1) := by decide +kernel
theorem dX4_keep_70 : decode cX4_keep 70 = .ok (.dup, 1) := by decide +kernel
theorem dX4_keep_71 : decode cX4_keep 71 = .ok (.getfield 34, 3) := by decide +kernel
theorem dX4_keep_74 : decode cX4_keep 74 = .ok (.iconst 1, 1) := by decide +kernel
theorem dX4_keep_75 : decode cX4_keep 75 = .ok (.iadd, 1) := by decide +kernel
theorem dX4_keep_76 : decode cX4_keep 76 = .ok (.putfield 34, 3) := by decide +kernel
theorem dX4_keep_79 : decode cX4_keep 79 = .ok (.return_, 1) := by decide +kernel
theorem dX4_reduce_0 : decode cX4_reduce 0 = .ok (.lload_n 1, 1) := by decide +kernel
theorem dX4_reduce_1 : decode cX4_reduce 1 = .ok (.lload_n 3, 1) := by decide +kernel
theorem dX4_reduce_2 : decode cX4_reduce 2 = .ok (.invokestatic 42, 3) := by decide +kernel
theorem dX4_reduce_5 : decode cX4_reduce 5 = .ok (.lstore 5, 2) := by decide +kernel
theorem dX4_reduce_7 : decode cX4_reduce 7 = .ok (.aload_n 0, 1) := by decide +kernel
theorem dX4_reduce_8 : decode cX4_reduce 8 = .ok (.lload 5, 2) := by decide +kernel
theorem dX4_reduce_10 : decode cX4_reduce 10 = .ok (.lconst 0, 1) := by decide +kernel
theorem dX4_reduce_11 : decode cX4_reduce 11 = .ok (.lcmp, 1) := by decide +kernel
theorem dX4_reduce_12 : decode cX4_reduce 12 = .ok (.ifCond .ne 7, 3) := by decide +kernel
theorem dX4_reduce_15 : decode cX4_reduce 15 = .ok (.lconst 0, 1) := by decide +kernel
theorem dX4_reduce_16 : decode cX4_reduce 16 = .ok (.goto 7, 3) := by decide +kernel
theorem dX4_reduce_19 : decode cX4_reduce 19 = .ok (.lload_n 1, 1) := by decide +kernel
theorem dX4_reduce_20 : decode cX4_reduce 20 = .ok (.lload 5, 2) := by decide +kernel
theorem dX4_reduce_22 : decode cX4_reduce 22 = .ok (.ldiv, 1) := by decide +kernel
theorem dX4_reduce_23 : decode cX4_reduce 23 = .ok (.putfield 46, 3) := by decide +kernel
theorem dX4_reduce_26 : decode cX4_reduce 26 = .ok (.aload_n 0, 1) := by decide +kernel
theorem dX4_reduce_27 : decode cX4_reduce 27 = .ok (.lload 5, 2) := by decide +kernel
theorem dX4_reduce_29 : decode cX4_reduce 29 = .ok (.lconst 0, 1) := by decide +kernel
theorem dX4_reduce_30 : decode cX4_reduce 30 = .ok (.lcmp, 1) := by decide +kernel
theorem dX4_reduce_31 : decode cX4_reduce 31 = .ok (.ifCond .ne 7, 3) := by decide +kernel
theorem dX4_reduce_34 : decode cX4_reduce 34 = .ok (.lconst 1, 1) := by decide +kernel
theorem dX4_reduce_35 : decode cX4_reduce 35 = .ok (.goto 7, 3) := by decide +kernel
theorem dX4_reduce_38 : decode cX4_reduce 38 = .ok (.lload_n 3, 1) := by decide +kernel
theorem dX4_reduce_39 : decode cX4_reduce 39 = .ok (.lload 5, 2) := by decide +kernel
theorem dX4_reduce_41 : decode cX4_reduce 41 = .ok (.ldiv, 1) := by decide +kernel
theorem dX4_reduce_42 : decode cX4_reduce 42 = .ok (.putfield 50, 3) := by decide +kernel
theorem dX4_reduce_45 : decode cX4_reduce 45 = .ok (.return_, 1) := by decide +kernel
theorem dX4_plus_0 : decode cX4_plus 0 = .ok (.lload_n 3, 1) := by decide +kernel
theorem dX4_plus_1 : decode cX4_plus 1 = .ok (.lload 9, 2) := by decide +kernel
theorem dX4_plus_3 : decode cX4_plus 3 = .ok (.invokestatic 42, 3) := by decide +kernel
theorem dX4_plus_6 : decode cX4_plus 6 = .ok (.lstore 11, 2) := by decide +kernel
theorem dX4_plus_8 : decode cX4_plus 8 = .ok (.aload_n 0, 1) := by decide +kernel
theorem dX4_plus_9 : decode cX4_plus 9 = .ok (.lload_n 1, 1) := by decide +kernel
theorem dX4_plus_10 : decode cX4_plus 10 = .ok (.lload 9, 2) := by decide +kernel
theorem dX4_plus_12 : decode cX4_plus 12 = .ok (.lload 11, 2) := by decide +kernel
theorem dX4_plus_14 : decode cX4_plus 14 = .ok (.ldiv, 1) := by decide +kernel
theorem dX4_plus_15 : decode cX4_plus 15 = .ok (.lmul, 1) := by decide +kernel
theorem dX4_plus_16 : decode cX4_plus 16 = .ok (.lload 5, 2) := by decide +kernel
theorem dX4_plus_18 : decode cX4_plus 18 = .ok (.lload 7, 2) := by decide +kernel
theorem dX4_plus_20 : decode cX4_plus 20 = .ok (.lmul, 1) := by decide +kernel
theorem dX4_plus_21 : decode cX4_plus 21 = .ok (.lload_n 3, 1) := by decide +kernel
theorem dX4_plus_22 : decode cX4_plus 22 = .ok (.lload 11, 2) := by decide +kernel
theorem dX4_plus_24 : decode cX4_plus 24 = .ok (.ldiv, 1) := by decide +kernel
theorem dX4_plus_25 : decode cX4_plus 25 = .ok (.lmul, 1) := by decide +kernel
theorem dX4_plus_26 : decode cX4_plus 26 = .ok (.ladd, 1) := by decide +kernel
theorem dX4_plus_27 : decode cX4_plus 27 = .ok (.lload_n 3, 1) := by decide +kernel
theorem dX4_plus_28 : decode cX4_plus 28 = .ok (.lload 11, 2) := by decide +kernel
theorem dX4_plus_30 : decode cX4_plus 30 = .ok (.ldiv, 1) := by decide +kernel
theorem dX4_plus_31 : decode cX4_plus 31 = .ok (.lload 9, 2) := by decide +kernel
theorem dX4_plus_33 : decode cX4_plus 33 = .ok (.lmul, 1) := by decide +kernel
theorem dX4_plus_34 : decode cX4_plus 34 = .ok (.invokevirtual 53, 3) := by decide +kernel
theorem dX4_plus_37 : decode cX4_plus 37 = .ok (.return_, 1) := by decide +kernel
theorem dX4_put_0 : decode cX4_put 0 = .ok (.aload_n 0, 1) := by decide +kernel
theorem dX4_put_1 : decode cX4_put 1 = .ok (.getfield 7, 3) := by decide +kernel
theorem dX4_put_4 : decode cX4_put 4 = .ok (.iload_n 1, 1) := by decide +kernel
theorem dX4_put_5 : decode cX4_put 5 = .ok (.aload_n 0, 1) := by decide +kernel
theorem dX4_put_6 : decode cX4_put 6 = .ok (.getfield 46, 3) := by decide +kernel
theorem dX4_put_9 : decode cX4_put 9 = .ok (.lastore, 1) := by decide +kernel
theorem dX4_put_10 : decode cX4_put 10 = .ok (.aload_n 0, 1) := by decide +kernel
theorem dX4_put_11 : decode cX4_put 11 = .ok (.getfield 7, 3) := by decide +kernel
theorem dX4_put_14 : decode cX4_put 14 = .ok (.iload_n 1, 1) := by decide +kernel
theorem dX4_put_15 : decode cX4_put 15 = .ok (.iconst 1, 1) := by decide +kernel
theorem dX4_put_16 : decode cX4_put 16 = .ok (.iadd, 1) := by decide +kernel
theorem dX4_put_17 : decode cX4_put 17 = .ok (.aload_n 0, 1) := by decide +kernel
theorem dX4_put_18 : decode cX4_put 18 = .ok (.getfield 50, 3) := by decide +kernel
theorem dX4_put_21 : decode cX4_put 21 = .ok (.lastore, 1) := by decide +kernel
theorem dX4_put_22 : decode cX4_put 22 = .ok (.return_, 1) := by decide +kernel
theorem dX4_of_0 : decode cX4_of 0 = .ok (.aload_n 0, 1) := by decide +kernel
theorem dX4_of_1 : decode cX4_of 1 = .ok (.getfield 7, 3) := by decide +kernel
theorem dX4_of_4 : decode cX4_of 4 = .ok (.iload_n 1, 1) := by decide +kernel
theorem dX4_of_5 : decode cX4_of 5 = .ok (.laload, 1) := by decide +kernel
theorem dX4_of_6 : decode cX4_of 6 = .ok (.l2i, 1) := by decide +kernel
theorem dX4_of_7 : decode cX4_of 7 = .ok (.ireturn, 1) := by decide +kernel
theorem dX4_arm_0 : decode cX4_arm 0 = .ok (.iload_n 1, 1) := by decide +kernel
theorem dX4_arm_1 : decode cX4_arm 1 = .ok (.iconst 1, 1) := by decide +kernel
theorem dX4_arm_2 : decode cX4_arm 2 = .ok (.bipush 20, 2) := by decide +kernel
theorem dX4_arm_4 : decode cX4_arm 4 = .ok (.invokestatic 57, 3) := by decide +kernel
theorem dX4_arm_7 : decode cX4_arm 7 = .ok (.ifCond .eq 13, 3) := by decide +kernel
theorem dX4_arm_10 : decode cX4_arm 10 = .ok (.iload_n 2, 1) := by decide +kernel
theorem dX4_arm_11 : decode cX4_arm 11 = .ok (.iconst 1, 1) := by decide +kernel
theorem dX4_arm_12 : decode cX4_arm 12 = .ok (.bipush 20, 2) := by decide +kernel
theorem dX4_arm_14 : decode cX4_arm 14 = .ok (.invokestatic 57, 3) := by decide +kernel
theorem dX4_arm_17 : decode cX4_arm 17 = .ok (.ifCond .ne 6, 3) := by decide +kernel
theorem dX4_arm_20 : decode cX4_arm 20 = .ok (.ldc 61, 2) := by decide +kernel
theorem dX4_arm_22 : decode cX4_arm 22 = .ok (.ireturn, 1) := by decide +kernel
theorem dX4_arm_23 : decode cX4_arm 23 = .ok (.aload_n 0, 1) := by decide +kernel
theorem dX4_arm_24 : decode cX4_arm 24 = .ok (.invokevirtual 62, 3) := by decide +kernel
theorem dX4_arm_27 : decode cX4_arm 27 = .ok (.bipush 100, 2) := by decide +kernel
theorem dX4_arm_29 : decode cX4_arm 29 = .ok (.aload_n 0, 1) := by decide +kernel
theorem dX4_arm_30 : decode cX4_arm 30 = .ok (.iconst 0, 1) := by decide +kernel
theorem dX4_arm_31 : decode cX4_arm 31 = .ok (.invokevirtual 65, 3) := by decide +kernel
theorem dX4_arm_34 : decode cX4_arm 34 = .ok (.imul, 1) := by decide +kernel
theorem dX4_arm_35 : decode cX4_arm 35 = .ok (.aload_n 0, 1) := by decide +kernel
theorem dX4_arm_36 : decode cX4_arm 36 = .ok (.iconst 1, 1) := by decide +kernel
theorem dX4_arm_37 : decode cX4_arm 37 = .ok (.invokevirtual 65, 3) := by decide +kernel
theorem dX4_arm_40 : decode cX4_arm 40 = .ok (.iadd, 1) := by decide +kernel
theorem dX4_arm_41 : decode cX4_arm 41 = .ok (.istore_n 3, 1) := by decide +kernel
theorem dX4_arm_42 : decode cX4_arm 42 = .ok (.aload_n 0, 1) := by decide +kernel
theorem dX4_arm_43 : decode cX4_arm 43 = .ok (.getfield 7, 3) := by decide +kernel
theorem dX4_arm_46 : decode cX4_arm 46 = .ok (.iconst 0, 1) := by decide +kernel
theorem dX4_arm_47 : decode cX4_arm 47 = .ok (.iload_n 1, 1) := by decide +kernel
theorem dX4_arm_48 : decode cX4_arm 48 = .ok (.i2l, 1) := by decide +kernel
theorem dX4_arm_49 : decode cX4_arm 49 = .ok (.lastore, 1) := by decide +kernel
theorem dX4_arm_50 : decode cX4_arm 50 = .ok (.aload_n 0, 1) := by decide +kernel
theorem dX4_arm_51 : decode cX4_arm 51 = .ok (.getfield 7, 3) := by decide +kernel
theorem dX4_arm_54 : decode cX4_arm 54 = .ok (.iconst 1, 1) := by decide +kernel
theorem dX4_arm_55 : decode cX4_arm 55 = .ok (.iload_n 2, 1) := by decide +kernel
theorem dX4_arm_56 : decode cX4_arm 56 = .ok (.i2l, 1) := by decide +kernel
theorem dX4_arm_57 : decode cX4_arm 57 = .ok (.lastore, 1) := by decide +kernel
theorem dX4_arm_58 : decode cX4_arm 58 = .ok (.iload_n 3, 1) := by decide +kernel
theorem dX4_arm_59 : decode cX4_arm 59 = .ok (.ireturn, 1) := by decide +kernel
theorem dX4_pivot_0 : decode cX4_pivot 0 = .ok (.iload_n 1, 1) := by decide +kernel
theorem dX4_pivot_1 : decode cX4_pivot 1 = .ok (.iconst 0, 1) := by decide +kernel
theorem dX4_pivot_2 : decode cX4_pivot 2 = .ok (.sipush 1000, 3) := by decide +kernel
theorem dX4_pivot_5 : decode cX4_pivot 5 = .ok (.invokestatic 57, 3) := by decide +kernel
theorem dX4_pivot_8 : decode cX4_pivot 8 = .ok (.ifCond .eq 14, 3) := by decide +kernel
theorem dX4_pivot_11 : decode cX4_pivot 11 = .ok (.iload_n 2, 1) := by decide +kernel
theorem dX4_pivot_12 : decode cX4_pivot 12 = .ok (.iconst 0, 1) := by decide +kernel
theorem dX4_pivot_13 : decode cX4_pivot 13 = .ok (.sipush 1000, 3) := by decide +kernel
theorem dX4_pivot_16 : decode cX4_pivot 16 = .ok (.invokestatic 57, 3) := by decide +kernel
theorem dX4_pivot_19 : decode cX4_pivot 19 = .ok (.ifCond .ne 6, 3) := by decide +kernel
theorem dX4_pivot_22 : decode cX4_pivot 22 = .ok (.ldc 61, 2) := by decide +kernel
theorem dX4_pivot_24 : decode cX4_pivot 24 = .ok (.ireturn, 1) := by decide +kernel
theorem dX4_pivot_25 : decode cX4_pivot 25 = .ok (.aload_n 0, 1) := by decide +kernel
theorem dX4_pivot_26 : decode cX4_pivot 26 = .ok (.invokevirtual 62, 3) := by decide +kernel
theorem dX4_pivot_29 : decode cX4_pivot 29 = .ok (.sipush 10000, 3) := by decide +kernel
theorem dX4_pivot_32 : decode cX4_pivot 32 = .ok (.aload_n 0, 1) := by decide +kernel
theorem dX4_pivot_33 : decode cX4_pivot 33 = .ok (.iconst 2, 1) := by decide +kernel
theorem dX4_pivot_34 : decode cX4_pivot 34 = .ok (.invokevirtual 65, 3) := by decide +kernel
theorem dX4_pivot_37 : decode cX4_pivot 37 = .ok (.imul, 1) := by decide +kernel
theorem dX4_pivot_38 : decode cX4_pivot 38 = .ok (.aload_n 0, 1) := by decide +kernel
theorem dX4_pivot_39 : decode cX4_pivot 39 = .ok (.iconst 3, 1) := by decide +kernel
theorem dX4_pivot_40 : decode cX4_pivot 40 = .ok (.invokevirtual 65, 3) := by decide +kernel
theorem dX4_pivot_43 : decode cX4_pivot 43 = .ok (.iadd, 1) := by decide +kernel
theorem dX4_pivot_44 : decode cX4_pivot 44 = .ok (.istore_n 3, 1) := by decide +kernel
theorem dX4_pivot_45 : decode cX4_pivot 45 = .ok (.aload_n 0, 1) := by decide +kernel
theorem dX4_pivot_46 : decode cX4_pivot 46 = .ok (.getfield 7, 3) := by decide +kernel
theorem dX4_pivot_49 : decode cX4_pivot 49 = .ok (.iconst 2, 1) := by decide +kernel
theorem dX4_pivot_50 : decode cX4_pivot 50 = .ok (.iload_n 1, 1) := by decide +kernel
theorem dX4_pivot_51 : decode cX4_pivot 51 = .ok (.i2l, 1) := by decide +kernel
theorem dX4_pivot_52 : decode cX4_pivot 52 = .ok (.lastore, 1) := by decide +kernel
theorem dX4_pivot_53 : decode cX4_pivot 53 = .ok (.aload_n 0, 1) := by decide +kernel
theorem dX4_pivot_54 : decode cX4_pivot 54 = .ok (.getfield 7, 3) := by decide +kernel
theorem dX4_pivot_57 : decode cX4_pivot 57 = .ok (.iconst 3, 1) := by decide +kernel
theorem dX4_pivot_58 : decode cX4_pivot 58 = .ok (.iload_n 2, 1) := by decide +kernel
theorem dX4_pivot_59 : decode cX4_pivot 59 = .ok (.i2l, 1) := by decide +kernel
theorem dX4_pivot_60 : decode cX4_pivot 60 = .ok (.lastore, 1) := by decide +kernel
theorem dX4_pivot_61 : decode cX4_pivot 61 = .ok (.iload_n 3, 1) := by decide +kernel
theorem dX4_pivot_62 : decode cX4_pivot 62 = .ok (.ireturn, 1) := by decide +kernel
theorem dX4_isSetting_0 : decode cX4_isSetting 0 = .ok (.iload_n 0, 1) := by decide +kernel
theorem dX4_isSetting_1 : decode cX4_isSetting 1 = .ok (.tableswitch 56 0 3 #[31, 38, 46, 46], 31) := by decide +kernel
theorem dX4_isSetting_32 : decode cX4_isSetting 32 = .ok (.iload_n 1, 1) := by decide +kernel
theorem dX4_isSetting_33 : decode cX4_isSetting 33 = .ok (.iconst 0, 1) := by decide +kernel
theorem dX4_isSetting_34 : decode cX4_isSetting 34 = .ok (.iconst 2, 1) := by decide +kernel
theorem dX4_isSetting_35 : decode cX4_isSetting 35 = .ok (.invokestatic 57, 3) := by decide +kernel
theorem dX4_isSetting_38 : decode cX4_isSetting 38 = .ok (.ireturn, 1) := by decide +kernel
theorem dX4_isSetting_39 : decode cX4_isSetting 39 = .ok (.iload_n 1, 1) := by decide +kernel
theorem dX4_isSetting_40 : decode cX4_isSetting 40 = .ok (.iconst 0, 1) := by decide +kernel
theorem dX4_isSetting_41 : decode cX4_isSetting 41 = .ok (.bipush 50, 2) := by decide +kernel
theorem dX4_isSetting_43 : decode cX4_isSetting 43 = .ok (.invokestatic 57, 3) := by decide +kernel
theorem dX4_isSetting_46 : decode cX4_isSetting 46 = .ok (.ireturn, 1) := by decide +kernel
theorem dX4_isSetting_47 : decode cX4_isSetting 47 = .ok (.iload_n 1, 1) := by decide +kernel
theorem dX4_isSetting_48 : decode cX4_isSetting 48 = .ok (.bipush 10, 2) := by decide +kernel
theorem dX4_isSetting_50 : decode cX4_isSetting 50 = .ok (.sipush 1000, 3) := by decide +kernel
theorem dX4_isSetting_53 : decode cX4_isSetting 53 = .ok (.invokestatic 57, 3) := by decide +kernel
theorem dX4_isSetting_56 : decode cX4_isSetting 56 = .ok (.ireturn, 1) := by decide +kernel
theorem dX4_isSetting_57 : decode cX4_isSetting 57 = .ok (.iload_n 0, 1) := by decide +kernel
theorem dX4_isSetting_58 : decode cX4_isSetting 58 = .ok (.iconst 4, 1) := by decide +kernel
theorem dX4_isSetting_59 : decode cX4_isSetting 59 = .ok (.if_icmp .ne 18, 3) := by decide +kernel
theorem dX4_isSetting_62 : decode cX4_isSetting 62 = .ok (.iload_n 1, 1) := by decide +kernel
theorem dX4_isSetting_63 : decode cX4_isSetting 63 = .ok (.iconst 1, 1) := by decide +kernel
theorem dX4_isSetting_64 : decode cX4_isSetting 64 = .ok (.sipush 1000, 3) := by decide +kernel
theorem dX4_isSetting_67 : decode cX4_isSetting 67 = .ok (.invokestatic 57, 3) := by decide +kernel
theorem dX4_isSetting_70 : decode cX4_isSetting 70 = .ok (.ifCond .eq 7, 3) := by decide +kernel
theorem dX4_isSetting_73 : decode cX4_isSetting 73 = .ok (.iconst 1, 1) := by decide +kernel
theorem dX4_isSetting_74 : decode cX4_isSetting 74 = .ok (.goto 4, 3) := by decide +kernel
theorem dX4_isSetting_77 : decode cX4_isSetting 77 = .ok (.iconst 0, 1) := by decide +kernel
theorem dX4_isSetting_78 : decode cX4_isSetting 78 = .ok (.ireturn, 1) := by decide +kernel
theorem dX4_set_0 : decode cX4_set 0 = .ok (.iload_n 1, 1) := by decide +kernel
theorem dX4_set_1 : decode cX4_set 1 = .ok (.iload_n 2, 1) := by decide +kernel
theorem dX4_set_2 : decode cX4_set 2 = .ok (.invokestatic 69, 3) := by decide +kernel
theorem dX4_set_5 : decode cX4_set 5 = .ok (.ifCond .ne 6, 3) := by decide +kernel
theorem dX4_set_8 : decode cX4_set 8 = .ok (.ldc 61, 2) := by decide +kernel
theorem dX4_set_10 : decode cX4_set 10 = .ok (.ireturn, 1) := by decide +kernel
theorem dX4_set_11 : decode cX4_set 11 = .ok (.aload_n 0, 1) := by decide +kernel
theorem dX4_set_12 : decode cX4_set 12 = .ok (.invokevirtual 62, 3) := by decide +kernel
theorem dX4_set_15 : decode cX4_set 15 = .ok (.aload_n 0, 1) := by decide +kernel
theorem dX4_set_16 : decode cX4_set 16 = .ok (.iconst 4, 1) := by decide +kernel
theorem dX4_set_17 : decode cX4_set 17 = .ok (.iload_n 1, 1) := by decide +kernel
theorem dX4_set_18 : decode cX4_set 18 = .ok (.iadd, 1) := by decide +kernel
theorem dX4_set_19 : decode cX4_set 19 = .ok (.invokevirtual 65, 3) := by decide +kernel
theorem dX4_set_22 : decode cX4_set 22 = .ok (.istore_n 3, 1) := by decide +kernel
theorem dX4_set_23 : decode cX4_set 23 = .ok (.aload_n 0, 1) := by decide +kernel
theorem dX4_set_24 : decode cX4_set 24 = .ok (.getfield 7, 3) := by decide +kernel
theorem dX4_set_27 : decode cX4_set 27 = .ok (.iconst 4, 1) := by decide +kernel
theorem dX4_set_28 : decode cX4_set 28 = .ok (.iload_n 1, 1) := by decide +kernel
theorem dX4_set_29 : decode cX4_set 29 = .ok (.iadd, 1) := by decide +kernel
theorem dX4_set_30 : decode cX4_set 30 = .ok (.iload_n 2, 1) := by decide +kernel
theorem dX4_set_31 : decode cX4_set 31 = .ok (.i2l, 1) := by decide +kernel
theorem dX4_set_32 : decode cX4_set 32 = .ok (.lastore, 1) := by decide +kernel
theorem dX4_set_33 : decode cX4_set 33 = .ok (.iload_n 3, 1) := by decide +kernel
theorem dX4_set_34 : decode cX4_set 34 = .ok (.ireturn, 1) := by decide +kernel
theorem dX4_isBlunt_0 : decode cX4_isBlunt 0 = .ok (.lconst 1, 1) := by decide +kernel
theorem dX4_isBlunt_1 : decode cX4_isBlunt 1 = .ok (.aload_n 0, 1) := by decide +kernel
theorem dX4_isBlunt_2 : decode cX4_isBlunt 2 = .ok (.getfield 7, 3) := by decide +kernel
theorem dX4_isBlunt_5 : decode cX4_isBlunt 5 = .ok (.bipush 9, 2) := by decide +kernel
theorem dX4_isBlunt_7 : decode cX4_isBlunt 7 = .ok (.laload, 1) := by decide +kernel
theorem dX4_isBlunt_8 : decode cX4_isBlunt 8 = .ok (.aload_n 0, 1) := by decide +kernel
theorem dX4_isBlunt_9 : decode cX4_isBlunt 9 = .ok (.getfield 7, 3) := by decide +kernel
theorem dX4_isBlunt_12 : decode cX4_isBlunt 12 = .ok (.bipush 8, 2) := by decide +kernel
theorem dX4_isBlunt_14 : decode cX4_isBlunt 14 = .ok (.laload, 1) := by decide +kernel
theorem dX4_isBlunt_15 : decode cX4_isBlunt 15 = .ok (.ldiv, 1) := by decide +kernel
theorem dX4_isBlunt_16 : decode cX4_isBlunt 16 = .ok (.ladd, 1) := by decide +kernel
theorem dX4_isBlunt_17 : decode cX4_isBlunt 17 = .ok (.ldc2_w 73, 3) := by decide +kernel
theorem dX4_isBlunt_20 : decode cX4_isBlunt 20 = .ok (.lcmp, 1) := by decide +kernel
theorem dX4_isBlunt_21 : decode cX4_isBlunt 21 = .ok (.ifCond .le 7, 3) := by decide +kernel
theorem dX4_isBlunt_24 : decode cX4_isBlunt 24 = .ok (.iconst 1, 1) := by decide +kernel
theorem dX4_isBlunt_25 : decode cX4_isBlunt 25 = .ok (.goto 4, 3) := by decide +kernel
theorem dX4_isBlunt_28 : decode cX4_isBlunt 28 = .ok (.iconst 0, 1) := by decide +kernel
theorem dX4_isBlunt_29 : decode cX4_isBlunt 29 = .ok (.ireturn, 1) := by decide +kernel
theorem dX4_count_0 : decode cX4_count 0 = .ok (.iload_n 1, 1) := by decide +kernel
theorem dX4_count_1 : decode cX4_count 1 = .ok (.tableswitch 139 0 17 #[87, 139, 139, 139, 139, 139, 139, 139, 139, 139, 139, 94, 107, 117, 117, 117, 129, 134], 87) := by decide +kernel
theorem dX4_count_88 : decode cX4_count 88 = .ok (.aload_n 0, 1) := by decide +kernel
theorem dX4_count_89 : decode cX4_count 89 = .ok (.bipush 14, 2) := by decide +kernel
theorem dX4_count_91 : decode cX4_count 91 = .ok (.invokevirtual 65, 3) := by decide +kernel
theorem dX4_count_94 : decode cX4_count 94 = .ok (.ireturn, 1) := by decide +kernel
theorem dX4_count_95 : decode cX4_count 95 = .ok (.aload_n 0, 1) := by decide +kernel
theorem dX4_count_96 : decode cX4_count 96 = .ok (.invokevirtual 75, 3) := by decide +kernel
theorem dX4_count_99 : decode cX4_count 99 = .ok (.ifCond .eq 7, 3) := by decide +kernel
theorem dX4_count_102 : decode cX4_count 102 = .ok (.iconst 1, 1) := by decide +kernel
theorem dX4_count_103 : decode cX4_count 103 = .ok (.goto 4, 3) := by decide +kernel
theorem dX4_count_106 : decode cX4_count 106 = .ok (.iconst 0, 1) := by decide +kernel
theorem dX4_count_107 : decode cX4_count 107 = .ok (.ireturn, 1) := by decide +kernel
theorem dX4_count_108 : decode cX4_count 108 = .ok (.bipush 10, 2) := by decide +kernel
theorem dX4_count_110 : decode cX4_count 110 = .ok (.aload_n 0, 1) := by decide +kernel
theorem dX4_count_111 : decode cX4_count 111 = .ok (.bipush 10, 2) := by decide +kernel
theorem dX4_count_113 : decode cX4_count 113 = .ok (.invokevirtual 65, 3) := by decide +kernel
theorem dX4_count_116 : decode cX4_count 116 = .ok (.isub, 1) := by decide +kernel
theorem dX4_count_117 : decode cX4_count 117 = .ok (.ireturn, 1) := by decide +kernel
theorem dX4_count_118 : decode cX4_count 118 = .ok (.aload_n 0, 1) := by decide +kernel
theorem dX4_count_119 : decode cX4_count 119 = .ok (.bipush 11, 2) := by decide +kernel
theorem dX4_count_121 : decode cX4_count 121 = .ok (.iload_n 1, 1) := by decide +kernel
theorem dX4_count_122 : decode cX4_count 122 = .ok (.iadd, 1) := by decide +kernel
theorem dX4_count_123 : decode cX4_count 123 = .ok (.bipush 13, 2) := by decide +kernel
theorem dX4_count_125 : decode cX4_count 125 = .ok (.isub, 1) := by decide +kernel
theorem dX4_count_126 : decode cX4_count 126 = .ok (.invokevirtual 65, 3) := by decide +kernel
theorem dX4_count_129 : decode cX4_count 129 = .ok (.ireturn, 1) := by decide +kernel
theorem dX4_count_130 : decode cX4_count 130 = .ok (.aload_n 0, 1) := by decide +kernel
theorem dX4_count_131 : decode cX4_count 131 = .ok (.getfield 34, 3) := by decide +kernel
theorem dX4_count_134 : decode cX4_count 134 = .ok (.ireturn, 1) := by decide +kernel
theorem dX4_count_135 : decode cX4_count 135 = .ok (.aload_n 0, 1) := by decide +kernel
theorem dX4_count_136 : decode cX4_count 136 = .ok (.getfield 79, 3) := by decide +kernel
theorem dX4_count_139 : decode cX4_count 139 = .ok (.ireturn, 1) := by decide +kernel
theorem dX4_count_140 : decode cX4_count 140 = .ok (.iload_n 1, 1) := by decide +kernel
theorem dX4_count_141 : decode cX4_count 141 = .ok (.iconst 1, 1) := by decide +kernel
theorem dX4_count_142 : decode cX4_count 142 = .ok (.bipush 10, 2) := by decide +kernel
theorem dX4_count_144 : decode cX4_count 144 = .ok (.invokestatic 57, 3) := by decide +kernel
theorem dX4_count_147 : decode cX4_count 147 = .ok (.ifCond .eq 13, 3) := by decide +kernel
theorem dX4_count_150 : decode cX4_count 150 = .ok (.aload_n 0, 1) := by decide +kernel
theorem dX4_count_151 : decode cX4_count 151 = .ok (.iload_n 1, 1) := by decide +kernel
theorem dX4_count_152 : decode cX4_count 152 = .ok (.iconst 1, 1) := by decide +kernel
theorem dX4_count_153 : decode cX4_count 153 = .ok (.isub, 1) := by decide +kernel
theorem dX4_count_154 : decode cX4_count 154 = .ok (.invokevirtual 65, 3) := by decide +kernel
theorem dX4_count_157 : decode cX4_count 157 = .ok (.goto 5, 3) := by decide +kernel
theorem dX4_count_160 : decode cX4_count 160 = .ok (.ldc 61, 2) := by decide +kernel
theorem dX4_count_162 : decode cX4_count 162 = .ok (.ireturn, 1) := by decide +kernel
theorem dX4_sharpen_0 : decode cX4_sharpen 0 = .ok (.aload_n 0, 1) := by decide +kernel
theorem dX4_sharpen_1 : decode cX4_sharpen 1 = .ok (.getfield 7, 3) := by decide +kernel
theorem dX4_sharpen_4 : decode cX4_sharpen 4 = .ok (.bipush 10, 2) := by decide +kernel
theorem dX4_sharpen_6 : decode cX4_sharpen 6 = .ok (.laload, 1) := by decide +kernel
theorem dX4_sharpen_7 : decode cX4_sharpen 7 = .ok (.ldc2_w 82, 3) := by decide +kernel
theorem dX4_sharpen_10 : decode cX4_sharpen 10 = .ok (.lcmp, 1) := by decide +kernel
theorem dX4_sharpen_11 : decode cX4_sharpen 11 = .ok (.ifCond .ne 6, 3) := by decide +kernel
theorem dX4_sharpen_14 : decode cX4_sharpen 14 = .ok (.ldc 84, 2) := by decide +kernel
theorem dX4_sharpen_16 : decode cX4_sharpen 16 = .ok (.ireturn, 1) := by decide +kernel
theorem dX4_sharpen_17 : decode cX4_sharpen 17 = .ok (.aload_n 0, 1) := by decide +kernel
theorem dX4_sharpen_18 : decode cX4_sharpen 18 = .ok (.invokevirtual 62, 3) := by decide +kernel
theorem dX4_sharpen_21 : decode cX4_sharpen 21 = .ok (.aload_n 0, 1) := by decide +kernel
theorem dX4_sharpen_22 : decode cX4_sharpen 22 = .ok (.bipush 9, 2) := by decide +kernel
theorem dX4_sharpen_24 : decode cX4_sharpen 24 = .ok (.invokevirtual 65, 3) := by decide +kernel
theorem dX4_sharpen_27 : decode cX4_sharpen 27 = .ok (.istore_n 1, 1) := by decide +kernel
theorem dX4_sharpen_28 : decode cX4_sharpen 28 = .ok (.aload_n 0, 1) := by decide +kernel
theorem dX4_sharpen_29 : decode cX4_sharpen 29 = .ok (.getfield 7, 3) := by decide +kernel
theorem dX4_sharpen_32 : decode cX4_sharpen 32 = .ok (.bipush 10, 2) := by decide +kernel
theorem dX4_sharpen_34 : decode cX4_sharpen 34 = .ok (.dup2, 1) := by decide +kernel
theorem dX4_sharpen_35 : decode cX4_sharpen 35 = .ok (.laload, 1) := by decide +kernel
theorem dX4_sharpen_36 : decode cX4_sharpen 36 = .ok (.lconst 1, 1) := by decide +kernel
theorem dX4_sharpen_37 : decode cX4_sharpen 37 = .ok (.ladd, 1) := by decide +kernel
theorem dX4_sharpen_38 : decode cX4_sharpen 38 = .ok (.lastore, 1) := by decide +kernel
theorem dX4_sharpen_39 : decode cX4_sharpen 39 = .ok (.aload_n 0, 1) := by decide +kernel
theorem dX4_sharpen_40 : decode cX4_sharpen 40 = .ok (.getfield 7, 3) := by decide +kernel
theorem dX4_sharpen_43 : decode cX4_sharpen 43 = .ok (.bipush 9, 2) := by decide +kernel
theorem dX4_sharpen_45 : decode cX4_sharpen 45 = .ok (.lconst 0, 1) := by decide +kernel
theorem dX4_sharpen_46 : decode cX4_sharpen 46 = .ok (.lastore, 1) := by decide +kernel
theorem dX4_sharpen_47 : decode cX4_sharpen 47 = .ok (.iload_n 1, 1) := by decide +kernel
theorem dX4_sharpen_48 : decode cX4_sharpen 48 = .ok (.ireturn, 1) := by decide +kernel
theorem dX4_isDrawing_0 : decode cX4_isDrawing 0 = .ok (.iload_n 1, 1) := by decide +kernel
theorem dX4_isDrawing_1 : decode cX4_isDrawing 1 = .ok (.iconst 0, 1) := by decide +kernel
theorem dX4_isDrawing_2 : decode cX4_isDrawing 2 = .ok (.aload_n 0, 1) := by decide +kernel
theorem dX4_isDrawing_3 : decode cX4_isDrawing 3 = .ok (.bipush 14, 2) := by decide +kernel
theorem dX4_isDrawing_5 : decode cX4_isDrawing 5 = .ok (.invokevirtual 65, 3) := by decide +kernel
theorem dX4_isDrawing_8 : decode cX4_isDrawing 8 = .ok (.iconst 1, 1) := by decide +kernel
theorem dX4_isDrawing_9 : decode cX4_isDrawing 9 = .ok (.isub, 1) := by decide +kernel
theorem dX4_isDrawing_10 : decode cX4_isDrawing 10 = .ok (.invokestatic 57, 3) := by decide +kernel
theorem dX4_isDrawing_13 : decode cX4_isDrawing 13 = .ok (.ireturn, 1) := by decide +kernel
theorem dX4_head_0 : decode cX4_head 0 = .ok (.bipush 15, 2) := by decide +kernel
theorem dX4_head_2 : decode cX4_head 2 = .ok (.sipush 150, 3) := by decide +kernel
theorem dX4_head_5 : decode cX4_head 5 = .ok (.iload_n 0, 1) := by decide +kernel
theorem dX4_head_6 : decode cX4_head 6 = .ok (.imul, 1) := by decide +kernel
theorem dX4_head_7 : decode cX4_head 7 = .ok (.iadd, 1) := by decide +kernel
theorem dX4_head_8 : decode cX4_head 8 = .ok (.iload_n 1, 1) := by decide +kernel
theorem dX4_head_9 : decode cX4_head 9 = .ok (.iadd, 1) := by decide +kernel
theorem dX4_head_10 : decode cX4_head 10 = .ok (.ireturn, 1) := by decide +kernel
theorem dX4_cellOf_0 : decode cX4_cellOf 0 = .ok (.bipush 15, 2) := by decide +kernel
theorem dX4_cellOf_2 : decode cX4_cellOf 2 = .ok (.sipush 150, 3) := by decide +kernel
theorem dX4_cellOf_5 : decode cX4_cellOf 5 = .ok (.iload_n 0, 1) := by decide +kernel
theorem dX4_cellOf_6 : decode cX4_cellOf 6 = .ok (.imul, 1) := by decide +kernel
theorem dX4_cellOf_7 : decode cX4_cellOf 7 = .ok (.iadd, 1) := by decide +kernel
theorem dX4_cellOf_8 : decode cX4_cellOf 8 = .ok (.bipush 10, 2) := by decide +kernel
theorem dX4_cellOf_10 : decode cX4_cellOf 10 = .ok (.iadd, 1) := by decide +kernel
theorem dX4_cellOf_11 : decode cX4_cellOf 11 = .ok (.bipush 7, 2) := by decide +kernel
theorem dX4_cellOf_13 : decode cX4_cellOf 13 = .ok (.iload_n 1, 1) := by decide +kernel
theorem dX4_cellOf_14 : decode cX4_cellOf 14 = .ok (.imul, 1) := by decide +kernel
theorem dX4_cellOf_15 : decode cX4_cellOf 15 = .ok (.iadd, 1) := by decide +kernel
theorem dX4_cellOf_16 : decode cX4_cellOf 16 = .ok (.ireturn, 1) := by decide +kernel
theorem dX4_points_0 : decode cX4_points 0 = .ok (.aload_n 0, 1) := by decide +kernel
theorem dX4_points_1 : decode cX4_points 1 = .ok (.iload_n 1, 1) := by decide +kernel
theorem dX4_points_2 : decode cX4_points 2 = .ok (.iconst 0, 1) := by decide +kernel
theorem dX4_points_3 : decode cX4_points 3 = .ok (.invokestatic 85, 3) := by decide +kernel
theorem dX4_points_6 : decode cX4_points 6 = .ok (.invokevirtual 65, 3) := by decide +kernel
theorem dX4_points_9 : decode cX4_points 9 = .ok (.ireturn, 1) := by decide +kernel
theorem dX4_isPoint_0 : decode cX4_isPoint 0 = .ok (.aload_n 0, 1) := by decide +kernel
theorem dX4_isPoint_1 : decode cX4_isPoint 1 = .ok (.iload_n 1, 1) := by decide +kernel
theorem dX4_isPoint_2 : decode cX4_isPoint 2 = .ok (.invokevirtual 89, 3) := by decide +kernel
theorem dX4_isPoint_5 : decode cX4_isPoint 5 = .ok (.ifCond .eq 22, 3) := by decide +kernel
theorem dX4_isPoint_8 : decode cX4_isPoint 8 = .ok (.iload_n 2, 1) := by decide +kernel
theorem dX4_isPoint_9 : decode cX4_isPoint 9 = .ok (.iconst 0, 1) := by decide +kernel
theorem dX4_isPoint_10 : decode cX4_isPoint 10 = .ok (.aload_n 0, 1) := by decide +kernel
theorem dX4_isPoint_11 : decode cX4_isPoint 11 = .ok (.iload_n 1, 1) := by decide +kernel
theorem dX4_isPoint_12 : decode cX4_isPoint 12 = .ok (.invokevirtual 93, 3) := by decide +kernel
theorem dX4_isPoint_15 : decode cX4_isPoint 15 = .ok (.iconst 1, 1) := by decide +kernel
theorem dX4_isPoint_16 : decode cX4_isPoint 16 = .ok (.isub, 1) := by decide +kernel
theorem dX4_isPoint_17 : decode cX4_isPoint 17 = .ok (.invokestatic 57, 3) := by decide +kernel
theorem dX4_isPoint_20 : decode cX4_isPoint 20 = .ok (.ifCond .eq 7, 3) := by decide +kernel
theorem dX4_isPoint_23 : decode cX4_isPoint 23 = .ok (.iconst 1, 1) := by decide +kernel
theorem dX4_isPoint_24 : decode cX4_isPoint 24 = .ok (.goto 4, 3) := by decide +kernel
theorem dX4_isPoint_27 : decode cX4_isPoint 27 = .ok (.iconst 0, 1) := by decide +kernel
theorem dX4_isPoint_28 : decode cX4_isPoint 28 = .ok (.ireturn, 1) := by decide +kernel
theorem dX4_isCopied_0 : decode cX4_isCopied 0 = .ok (.iconst 0, 1) := by decide +kernel
theorem dX4_isCopied_1 : decode cX4_isCopied 1 = .ok (.istore_n 2, 1) := by decide +kernel
theorem dX4_isCopied_2 : decode cX4_isCopied 2 = .ok (.iconst 0, 1) := by decide +kernel
theorem dX4_isCopied_3 : decode cX4_isCopied 3 = .ok (.istore_n 3, 1) := by decide +kernel
theorem dX4_isCopied_4 : decode cX4_isCopied 4 = .ok (.iload_n 3, 1) := by decide +kernel
theorem dX4_isCopied_5 : decode cX4_isCopied 5 = .ok (.aload_n 0, 1) := by decide +kernel
theorem dX4_isCopied_6 : decode cX4_isCopied 6 = .ok (.bipush 14, 2) := by decide +kernel
theorem dX4_isCopied_8 : decode cX4_isCopied 8 = .ok (.invokevirtual 65, 3) := by decide +kernel
theorem dX4_isCopied_11 : decode cX4_isCopied 11 = .ok (.if_icmp .ge 32, 3) := by decide +kernel
theorem dX4_isCopied_14 : decode cX4_isCopied 14 = .ok (.iload_n 2, 1) := by decide +kernel
theorem dX4_isCopied_15 : decode cX4_isCopied 15 = .ok (.ifCond .ne 16, 3) := by decide +kernel
theorem dX4_isCopied_18 : decode cX4_isCopied 18 = .ok (.aload_n 0, 1) := by decide +kernel
theorem dX4_isCopied_19 : decode cX4_isCopied 19 = .ok (.iload_n 3, 1) := by decide +kernel
theorem dX4_isCopied_20 : decode cX4_isCopied 20 = .ok (.iconst 1, 1) := by decide +kernel
theorem dX4_isCopied_21 : decode cX4_isCopied 21 = .ok (.invokestatic 85, 3) := by decide +kernel
theorem dX4_isCopied_24 : decode cX4_isCopied 24 = .ok (.invokevirtual 65, 3) := by decide +kernel
theorem dX4_isCopied_27 : decode cX4_isCopied 27 = .ok (.iload_n 1, 1) := by decide +kernel
theorem dX4_isCopied_28 : decode cX4_isCopied 28 = .ok (.if_icmp .ne 7, 3) := by decide +kernel
theorem dX4_isCopied_31 : decode cX4_isCopied 31 = .ok (.iconst 1, 1) := by decide +kernel
theorem dX4_isCopied_32 : decode cX4_isCopied 32 = .ok (.goto 4, 3) := by decide +kernel
theorem dX4_isCopied_35 : decode cX4_isCopied 35 = .ok (.iconst 0, 1) := by decide +kernel
theorem dX4_isCopied_36 : decode cX4_isCopied 36 = .ok (.istore_n 2, 1) := by decide +kernel
theorem dX4_isCopied_37 : decode cX4_isCopied 37 = .ok (.iinc 3 1, 3) := by decide +kernel
theorem dX4_isCopied_40 : decode cX4_isCopied 40 = .ok (.goto (-36), 3) := by decide +kernel
theorem dX4_isCopied_43 : decode cX4_isCopied 43 = .ok (.iload_n 2, 1) := by decide +kernel
theorem dX4_isCopied_44 : decode cX4_isCopied 44 = .ok (.ireturn, 1) := by decide +kernel
theorem dX4_begins_0 : decode cX4_begins 0 = .ok (.aload_n 0, 1) := by decide +kernel
theorem dX4_begins_1 : decode cX4_begins 1 = .ok (.bipush 14, 2) := by decide +kernel
theorem dX4_begins_3 : decode cX4_begins 3 = .ok (.invokevirtual 65, 3) := by decide +kernel
theorem dX4_begins_6 : decode cX4_begins 6 = .ok (.istore_n 1, 1) := by decide +kernel
theorem dX4_begins_7 : decode cX4_begins 7 = .ok (.aload_n 0, 1) := by decide +kernel
theorem dX4_begins_8 : decode cX4_begins 8 = .ok (.getfield 7, 3) := by decide +kernel
theorem dX4_begins_11 : decode cX4_begins 11 = .ok (.bipush 14, 2) := by decide +kernel
theorem dX4_begins_13 : decode cX4_begins 13 = .ok (.dup2, 1) := by decide +kernel
theorem dX4_begins_14 : decode cX4_begins 14 = .ok (.laload, 1) := by decide +kernel
theorem dX4_begins_15 : decode cX4_begins 15 = .ok (.lconst 1, 1) := by decide +kernel
theorem dX4_begins_16 : decode cX4_begins 16 = .ok (.ladd, 1) := by decide +kernel
theorem dX4_begins_17 : decode cX4_begins 17 = .ok (.lastore, 1) := by decide +kernel
theorem dX4_begins_18 : decode cX4_begins 18 = .ok (.iconst 0, 1) := by decide +kernel
theorem dX4_begins_19 : decode cX4_begins 19 = .ok (.istore_n 2, 1) := by decide +kernel
theorem dX4_begins_20 : decode cX4_begins 20 = .ok (.iload_n 2, 1) := by decide +kernel
theorem dX4_begins_21 : decode cX4_begins 21 = .ok (.sipush 150, 3) := by decide +kernel
theorem dX4_begins_24 : decode cX4_begins 24 = .ok (.if_icmp .ge 20, 3) := by decide +kernel
theorem dX4_begins_27 : decode cX4_begins 27 = .ok (.aload_n 0, 1) := by decide +kernel
theorem dX4_begins_28 : decode cX4_begins 28 = .ok (.getfield 7, 3) := by decide +kernel
theorem dX4_begins_31 : decode cX4_begins 31 = .ok (.iload_n 1, 1) := by decide +kernel
theorem dX4_begins_32 : decode cX4_begins 32 = .ok (.iload_n 2, 1) := by decide +kernel
theorem dX4_begins_33 : decode cX4_begins 33 = .ok (.invokestatic 85, 3) := by decide +kernel
theorem dX4_begins_36 : decode cX4_begins 36 = .ok (.lconst 0, 1) := by decide +kernel
theorem dX4_begins_37 : decode cX4_begins 37 = .ok (.lastore, 1) := by decide +kernel
theorem dX4_begins_38 : decode cX4_begins 38 = .ok (.iinc 2 1, 3) := by decide +kernel
theorem dX4_begins_41 : decode cX4_begins 41 = .ok (.goto (-21), 3) := by decide +kernel
theorem dX4_begins_44 : decode cX4_begins 44 = .ok (.aload_n 0, 1) := by decide +kernel
theorem dX4_begins_45 : decode cX4_begins 45 = .ok (.getfield 7, 3) := by decide +kernel
theorem dX4_begins_48 : decode cX4_begins 48 = .ok (.iload_n 1, 1) := by decide +kernel
theorem dX4_begins_49 : decode cX4_begins 49 = .ok (.iconst 1, 1) := by decide +kernel
theorem dX4_begins_50 : decode cX4_begins 50 = .ok (.invokestatic 85, 3) := by decide +kernel
theorem dX4_begins_53 : decode cX4_begins 53 = .ok (.ldc2_w 96, 3) := by decide +kernel
theorem dX4_begins_56 : decode cX4_begins 56 = .ok (.lastore, 1) := by decide +kernel
theorem dX4_begins_57 : decode cX4_begins 57 = .ok (.aload_n 0, 1) := by decide +kernel
theorem dX4_begins_58 : decode cX4_begins 58 = .ok (.getfield 7, 3) := by decide +kernel
theorem dX4_begins_61 : decode cX4_begins 61 = .ok (.iload_n 1, 1) := by decide +kernel
theorem dX4_begins_62 : decode cX4_begins 62 = .ok (.iconst 2, 1) := by decide +kernel
theorem dX4_begins_63 : decode cX4_begins 63 = .ok (.invokestatic 85, 3) := by decide +kernel
theorem dX4_begins_66 : decode cX4_begins 66 = .ok (.lconst 1, 1) := by decide +kernel
theorem dX4_begins_67 : decode cX4_begins 67 = .ok (.lastore, 1) := by decide +kernel
theorem dX4_begins_68 : decode cX4_begins 68 = .ok (.aload_n 0, 1) := by decide +kernel
theorem dX4_begins_69 : decode cX4_begins 69 = .ok (.getfield 7, 3) := by decide +kernel
theorem dX4_begins_72 : decode cX4_begins 72 = .ok (.iload_n 1, 1) := by decide +kernel
theorem dX4_begins_73 : decode cX4_begins 73 = .ok (.iconst 3, 1) := by decide +kernel
theorem dX4_begins_74 : decode cX4_begins 74 = .ok (.invokestatic 85, 3) := by decide +kernel
theorem dX4_begins_77 : decode cX4_begins 77 = .ok (.lconst 1, 1) := by decide +kernel
theorem dX4_begins_78 : decode cX4_begins 78 = .ok (.lastore, 1) := by decide +kernel
theorem dX4_begins_79 : decode cX4_begins 79 = .ok (.aload_n 0, 1) := by decide +kernel
theorem dX4_begins_80 : decode cX4_begins 80 = .ok (.getfield 7, 3) := by decide +kernel
theorem dX4_begins_83 : decode cX4_begins 83 = .ok (.iload_n 1, 1) := by decide +kernel
theorem dX4_begins_84 : decode cX4_begins 84 = .ok (.iconst 4, 1) := by decide +kernel
theorem dX4_begins_85 : decode cX4_begins 85 = .ok (.invokestatic 85, 3) := by decide +kernel
theorem dX4_begins_88 : decode cX4_begins 88 = .ok (.lconst 1, 1) := by decide +kernel
theorem dX4_begins_89 : decode cX4_begins 89 = .ok (.lastore, 1) := by decide +kernel
theorem dX4_begins_90 : decode cX4_begins 90 = .ok (.aload_n 0, 1) := by decide +kernel
theorem dX4_begins_91 : decode cX4_begins 91 = .ok (.getfield 7, 3) := by decide +kernel
theorem dX4_begins_94 : decode cX4_begins 94 = .ok (.iload_n 1, 1) := by decide +kernel
theorem dX4_begins_95 : decode cX4_begins 95 = .ok (.iconst 5, 1) := by decide +kernel
theorem dX4_begins_96 : decode cX4_begins 96 = .ok (.invokestatic 85, 3) := by decide +kernel
theorem dX4_begins_99 : decode cX4_begins 99 = .ok (.lconst 1, 1) := by decide +kernel
theorem dX4_begins_100 : decode cX4_begins 100 = .ok (.lastore, 1) := by decide +kernel
theorem dX4_begins_101 : decode cX4_begins 101 = .ok (.aload_n 0, 1) := by decide +kernel
theorem dX4_begins_102 : decode cX4_begins 102 = .ok (.getfield 7, 3) := by decide +kernel
theorem dX4_begins_105 : decode cX4_begins 105 = .ok (.iload_n 1, 1) := by decide +kernel
theorem dX4_begins_106 : decode cX4_begins 106 = .ok (.bipush 7, 2) := by decide +kernel
theorem dX4_begins_108 : decode cX4_begins 108 = .ok (.invokestatic 85, 3) := by decide +kernel
theorem dX4_begins_111 : decode cX4_begins 111 = .ok (.lconst 1, 1) := by decide +kernel
theorem dX4_begins_112 : decode cX4_begins 112 = .ok (.lastore, 1) := by decide +kernel
theorem dX4_begins_113 : decode cX4_begins 113 = .ok (.aload_n 0, 1) := by decide +kernel
theorem dX4_begins_114 : decode cX4_begins 114 = .ok (.getfield 7, 3) := by decide +kernel
theorem dX4_begins_117 : decode cX4_begins 117 = .ok (.iload_n 1, 1) := by decide +kernel
theorem dX4_begins_118 : decode cX4_begins 118 = .ok (.bipush 9, 2) := by decide +kernel
theorem dX4_begins_120 : decode cX4_begins 120 = .ok (.invokestatic 85, 3) := by decide +kernel
theorem dX4_begins_123 : decode cX4_begins 123 = .ok (.lconst 1, 1) := by decide +kernel
theorem dX4_begins_124 : decode cX4_begins 124 = .ok (.lastore, 1) := by decide +kernel
theorem dX4_begins_125 : decode cX4_begins 125 = .ok (.iload_n 1, 1) := by decide +kernel
theorem dX4_begins_126 : decode cX4_begins 126 = .ok (.ireturn, 1) := by decide +kernel
theorem dX4_draw_0 : decode cX4_draw 0 = .ok (.aload_n 0, 1) := by decide +kernel
theorem dX4_draw_1 : decode cX4_draw 1 = .ok (.getfield 7, 3) := by decide +kernel
theorem dX4_draw_4 : decode cX4_draw 4 = .ok (.bipush 14, 2) := by decide +kernel
theorem dX4_draw_6 : decode cX4_draw 6 = .ok (.laload, 1) := by decide +kernel
theorem dX4_draw_7 : decode cX4_draw 7 = .ok (.ldc2_w 98, 3) := by decide +kernel
theorem dX4_draw_10 : decode cX4_draw 10 = .ok (.lcmp, 1) := by decide +kernel
theorem dX4_draw_11 : decode cX4_draw 11 = .ok (.ifCond .ne 6, 3) := by decide +kernel
theorem dX4_draw_14 : decode cX4_draw 14 = .ok (.ldc 84, 2) := by decide +kernel
theorem dX4_draw_16 : decode cX4_draw 16 = .ok (.ireturn, 1) := by decide +kernel
theorem dX4_draw_17 : decode cX4_draw 17 = .ok (.aload_n 0, 1) := by decide +kernel
theorem dX4_draw_18 : decode cX4_draw 18 = .ok (.invokevirtual 62, 3) := by decide +kernel
theorem dX4_draw_21 : decode cX4_draw 21 = .ok (.aload_n 0, 1) := by decide +kernel
theorem dX4_draw_22 : decode cX4_draw 22 = .ok (.invokevirtual 100, 3) := by decide +kernel
theorem dX4_draw_25 : decode cX4_draw 25 = .ok (.ireturn, 1) := by decide +kernel
theorem dX4_lengthTo_0 : decode cX4_lengthTo 0 = .ok (.iload_n 1, 1) := by decide +kernel
theorem dX4_lengthTo_1 : decode cX4_lengthTo 1 = .ok (.iload_n 2, 1) := by decide +kernel
theorem dX4_lengthTo_2 : decode cX4_lengthTo 2 = .ok (.invokestatic 104, 3) := by decide +kernel
theorem dX4_lengthTo_5 : decode cX4_lengthTo 5 = .ok (.istore_n 3, 1) := by decide +kernel
theorem dX4_lengthTo_6 : decode cX4_lengthTo 6 = .ok (.iload_n 1, 1) := by decide +kernel
theorem dX4_lengthTo_7 : decode cX4_lengthTo 7 = .ok (.iload_n 2, 1) := by decide +kernel
theorem dX4_lengthTo_8 : decode cX4_lengthTo 8 = .ok (.iconst 1, 1) := by decide +kernel
theorem dX4_lengthTo_9 : decode cX4_lengthTo 9 = .ok (.isub, 1) := by decide +kernel
theorem dX4_lengthTo_10 : decode cX4_lengthTo 10 = .ok (.invokestatic 104, 3) := by decide +kernel
theorem dX4_lengthTo_13 : decode cX4_lengthTo 13 = .ok (.istore 4, 2) := by decide +kernel
theorem dX4_lengthTo_15 : decode cX4_lengthTo 15 = .ok (.aload_n 0, 1) := by decide +kernel
theorem dX4_lengthTo_16 : decode cX4_lengthTo 16 = .ok (.aload_n 0, 1) := by decide +kernel
theorem dX4_lengthTo_17 : decode cX4_lengthTo 17 = .ok (.getfield 7, 3) := by decide +kernel
theorem dX4_lengthTo_20 : decode cX4_lengthTo 20 = .ok (.iload_n 3, 1) := by decide +kernel
theorem dX4_lengthTo_21 : decode cX4_lengthTo 21 = .ok (.laload, 1) := by decide +kernel
theorem dX4_lengthTo_22 : decode cX4_lengthTo 22 = .ok (.aload_n 0, 1) := by decide +kernel
theorem dX4_lengthTo_23 : decode cX4_lengthTo 23 = .ok (.getfield 7, 3) := by decide +kernel
theorem dX4_lengthTo_26 : decode cX4_lengthTo 26 = .ok (.iload_n 3, 1) := by decide +kernel
theorem dX4_lengthTo_27 : decode cX4_lengthTo 27 = .ok (.iconst 1, 1) := by decide +kernel
theorem dX4_lengthTo_28 : decode cX4_lengthTo 28 = .ok (.iadd, 1) := by decide +kernel
theorem dX4_lengthTo_29 : decode cX4_lengthTo 29 = .ok (.laload, 1) := by decide +kernel
theorem dX4_lengthTo_30 : decode cX4_lengthTo 30 = .ok (.ldc2_w 96, 3) := by decide +kernel
theorem dX4_lengthTo_33 : decode cX4_lengthTo 33 = .ok (.aload_n 0, 1) := by decide +kernel
theorem dX4_lengthTo_34 : decode cX4_lengthTo 34 = .ok (.getfield 7, 3) := by decide +kernel
theorem dX4_lengthTo_37 : decode cX4_lengthTo 37 = .ok (.iload 4, 2) := by decide +kernel
theorem dX4_lengthTo_39 : decode cX4_lengthTo 39 = .ok (.laload, 1) := by decide +kernel
theorem dX4_lengthTo_40 : decode cX4_lengthTo 40 = .ok (.aload_n 0, 1) := by decide +kernel
theorem dX4_lengthTo_41 : decode cX4_lengthTo 41 = .ok (.getfield 7, 3) := by decide +kernel
theorem dX4_lengthTo_44 : decode cX4_lengthTo 44 = .ok (.iload 4, 2) := by decide +kernel
theorem dX4_lengthTo_46 : decode cX4_lengthTo 46 = .ok (.iconst 1, 1) := by decide +kernel
theorem dX4_lengthTo_47 : decode cX4_lengthTo 47 = .ok (.iadd, 1) := by decide +kernel
theorem dX4_lengthTo_48 : decode cX4_lengthTo 48 = .ok (.laload, 1) := by decide +kernel
theorem dX4_lengthTo_49 : decode cX4_lengthTo 49 = .ok (.invokevirtual 107, 3) := by decide +kernel
theorem dX4_lengthTo_52 : decode cX4_lengthTo 52 = .ok (.aload_n 0, 1) := by decide +kernel
theorem dX4_lengthTo_53 : decode cX4_lengthTo 53 = .ok (.getfield 46, 3) := by decide +kernel
theorem dX4_lengthTo_56 : decode cX4_lengthTo 56 = .ok (.invokestatic 30, 3) := by decide +kernel
theorem dX4_lengthTo_59 : decode cX4_lengthTo 59 = .ok (.lstore 5, 2) := by decide +kernel
theorem dX4_lengthTo_61 : decode cX4_lengthTo 61 = .ok (.aload_n 0, 1) := by decide +kernel
theorem dX4_lengthTo_62 : decode cX4_lengthTo 62 = .ok (.getfield 50, 3) := by decide +kernel
theorem dX4_lengthTo_65 : decode cX4_lengthTo 65 = .ok (.lstore 7, 2) := by decide +kernel
theorem dX4_lengthTo_67 : decode cX4_lengthTo 67 = .ok (.aload_n 0, 1) := by decide +kernel
theorem dX4_lengthTo_68 : decode cX4_lengthTo 68 = .ok (.aload_n 0, 1) := by decide +kernel
theorem dX4_lengthTo_69 : decode cX4_lengthTo 69 = .ok (.getfield 7, 3) := by decide +kernel
theorem dX4_lengthTo_72 : decode cX4_lengthTo 72 = .ok (.iload_n 3, 1) := by decide +kernel
theorem dX4_lengthTo_73 : decode cX4_lengthTo 73 = .ok (.iconst 2, 1) := by decide +kernel
theorem dX4_lengthTo_74 : decode cX4_lengthTo 74 = .ok (.iadd, 1) := by decide +kernel
theorem dX4_lengthTo_75 : decode cX4_lengthTo 75 = .ok (.laload, 1) := by decide +kernel
theorem dX4_lengthTo_76 : decode cX4_lengthTo 76 = .ok (.aload_n 0, 1) := by decide +kernel
theorem dX4_lengthTo_77 : decode cX4_lengthTo 77 = .ok (.getfield 7, 3) := by decide +kernel
theorem dX4_lengthTo_80 : decode cX4_lengthTo 80 = .ok (.iload_n 3, 1) := by decide +kernel
theorem dX4_lengthTo_81 : decode cX4_lengthTo 81 = .ok (.iconst 3, 1) := by decide +kernel
theorem dX4_lengthTo_82 : decode cX4_lengthTo 82 = .ok (.iadd, 1) := by decide +kernel
theorem dX4_lengthTo_83 : decode cX4_lengthTo 83 = .ok (.laload, 1) := by decide +kernel
theorem dX4_lengthTo_84 : decode cX4_lengthTo 84 = .ok (.ldc2_w 96, 3) := by decide +kernel
theorem dX4_lengthTo_87 : decode cX4_lengthTo 87 = .ok (.aload_n 0, 1) := by decide +kernel
theorem dX4_lengthTo_88 : decode cX4_lengthTo 88 = .ok (.getfield 7, 3) := by decide +kernel
theorem dX4_lengthTo_91 : decode cX4_lengthTo 91 = .ok (.iload 4, 2) := by decide +kernel
theorem dX4_lengthTo_93 : decode cX4_lengthTo 93 = .ok (.iconst 2, 1) := by decide +kernel
theorem dX4_lengthTo_94 : decode cX4_lengthTo 94 = .ok (.iadd, 1) := by decide +kernel
theorem dX4_lengthTo_95 : decode cX4_lengthTo 95 = .ok (.laload, 1) := by decide +kernel
theorem dX4_lengthTo_96 : decode cX4_lengthTo 96 = .ok (.aload_n 0, 1) := by decide +kernel
theorem dX4_lengthTo_97 : decode cX4_lengthTo 97 = .ok (.getfield 7, 3) := by decide +kernel
theorem dX4_lengthTo_100 : decode cX4_lengthTo 100 = .ok (.iload 4, 2) := by decide +kernel
theorem dX4_lengthTo_102 : decode cX4_lengthTo 102 = .ok (.iconst 3, 1) := by decide +kernel
theorem dX4_lengthTo_103 : decode cX4_lengthTo 103 = .ok (.iadd, 1) := by decide +kernel
theorem dX4_lengthTo_104 : decode cX4_lengthTo 104 = .ok (.laload, 1) := by decide +kernel
theorem dX4_lengthTo_105 : decode cX4_lengthTo 105 = .ok (.invokevirtual 107, 3) := by decide +kernel
theorem dX4_lengthTo_108 : decode cX4_lengthTo 108 = .ok (.aload_n 0, 1) := by decide +kernel
theorem dX4_lengthTo_109 : decode cX4_lengthTo 109 = .ok (.lload 5, 2) := by decide +kernel
theorem dX4_lengthTo_111 : decode cX4_lengthTo 111 = .ok (.lload 7, 2) := by decide +kernel
theorem dX4_lengthTo_113 : decode cX4_lengthTo 113 = .ok (.lconst 1, 1) := by decide +kernel
theorem dX4_lengthTo_114 : decode cX4_lengthTo 114 = .ok (.aload_n 0, 1) := by decide +kernel
theorem dX4_lengthTo_115 : decode cX4_lengthTo 115 = .ok (.getfield 46, 3) := by decide +kernel
theorem dX4_lengthTo_118 : decode cX4_lengthTo 118 = .ok (.invokestatic 30, 3) := by decide +kernel
theorem dX4_lengthTo_121 : decode cX4_lengthTo 121 = .ok (.aload_n 0, 1) := by decide +kernel
theorem dX4_lengthTo_122 : decode cX4_lengthTo 122 = .ok (.getfield 50, 3) := by decide +kernel
theorem dX4_lengthTo_125 : decode cX4_lengthTo 125 = .ok (.invokevirtual 107, 3) := by decide +kernel
theorem dX4_lengthTo_128 : decode cX4_lengthTo 128 = .ok (.aload_n 0, 1) := by decide +kernel
theorem dX4_lengthTo_129 : decode cX4_lengthTo 129 = .ok (.getfield 46, 3) := by decide +kernel
theorem dX4_lengthTo_132 : decode cX4_lengthTo 132 = .ok (.aload_n 0, 1) := by decide +kernel
theorem dX4_lengthTo_133 : decode cX4_lengthTo 133 = .ok (.getfield 50, 3) := by decide +kernel
theorem dX4_lengthTo_136 : decode cX4_lengthTo 136 = .ok (.ldiv, 1) := by decide +kernel
theorem dX4_lengthTo_137 : decode cX4_lengthTo 137 = .ok (.l2i, 1) := by decide +kernel
theorem dX4_lengthTo_138 : decode cX4_lengthTo 138 = .ok (.ireturn, 1) := by decide +kernel
theorem dX4_adds_0 : decode cX4_adds 0 = .ok (.aload_n 0, 1) := by decide +kernel
theorem dX4_adds_1 : decode cX4_adds 1 = .ok (.iload_n 1, 1) := by decide +kernel
theorem dX4_adds_2 : decode cX4_adds 2 = .ok (.invokevirtual 93, 3) := by decide +kernel
theorem dX4_adds_5 : decode cX4_adds 5 = .ok (.istore 5, 2) := by decide +kernel
theorem dX4_adds_7 : decode cX4_adds 7 = .ok (.iload_n 1, 1) := by decide +kernel
theorem dX4_adds_8 : decode cX4_adds 8 = .ok (.iload 5, 2) := by decide +kernel
theorem dX4_adds_10 : decode cX4_adds 10 = .ok (.invokestatic 104, 3) := by decide +kernel
theorem dX4_adds_13 : decode cX4_adds 13 = .ok (.istore 6, 2) := by decide +kernel
theorem dX4_adds_15 : decode cX4_adds 15 = .ok (.iload 4, 2) := by decide +kernel
theorem dX4_adds_17 : decode cX4_adds 17 = .ok (.iconst 1, 1) := by decide +kernel
theorem dX4_adds_18 : decode cX4_adds 18 = .ok (.if_icmp .ne 12, 3) := by decide +kernel
theorem dX4_adds_21 : decode cX4_adds 21 = .ok (.iload 5, 2) := by decide +kernel
theorem dX4_adds_23 : decode cX4_adds 23 = .ok (.ifCond .le 7, 3) := by decide +kernel
theorem dX4_adds_26 : decode cX4_adds 26 = .ok (.iconst 1, 1) := by decide +kernel
theorem dX4_adds_27 : decode cX4_adds 27 = .ok (.goto 4, 3) := by decide +kernel
theorem dX4_adds_30 : decode cX4_adds 30 = .ok (.iconst 0, 1) := by decide +kernel
theorem dX4_adds_31 : decode cX4_adds 31 = .ok (.istore 7, 2) := by decide +kernel
theorem dX4_adds_33 : decode cX4_adds 33 = .ok (.aload_n 0, 1) := by decide +kernel
theorem dX4_adds_34 : decode cX4_adds 34 = .ok (.getfield 7, 3) := by decide +kernel
theorem dX4_adds_37 : decode cX4_adds 37 = .ok (.iload 6, 2) := by decide +kernel
theorem dX4_adds_39 : decode cX4_adds 39 = .ok (.iload_n 2, 1) := by decide +kernel
theorem dX4_adds_40 : decode cX4_adds 40 = .ok (.i2l, 1) := by decide +kernel
theorem dX4_adds_41 : decode cX4_adds 41 = .ok (.lastore, 1) := by decide +kernel
theorem dX4_adds_42 : decode cX4_adds 42 = .ok (.aload_n 0, 1) := by decide +kernel
theorem dX4_adds_43 : decode cX4_adds 43 = .ok (.getfield 7, 3) := by decide +kernel
theorem dX4_adds_46 : decode cX4_adds 46 = .ok (.iload 6, 2) := by decide +kernel
theorem dX4_adds_48 : decode cX4_adds 48 = .ok (.iconst 1, 1) := by decide +kernel
theorem dX4_adds_49 : decode cX4_adds 49 = .ok (.iadd, 1) := by decide +kernel
theorem dX4_adds_50 : decode cX4_adds 50 = .ok (.lconst 1, 1) := by decide +kernel
theorem dX4_adds_51 : decode cX4_adds 51 = .ok (.lastore, 1) := by decide +kernel
theorem dX4_adds_52 : decode cX4_adds 52 = .ok (.aload_n 0, 1) := by decide +kernel
theorem dX4_adds_53 : decode cX4_adds 53 = .ok (.getfield 7, 3) := by decide +kernel
theorem dX4_adds_56 : decode cX4_adds 56 = .ok (.iload 6, 2) := by decide +kernel
theorem dX4_adds_58 : decode cX4_adds 58 = .ok (.iconst 2, 1) := by decide +kernel
theorem dX4_adds_59 : decode cX4_adds 59 = .ok (.iadd, 1) := by decide +kernel
theorem dX4_adds_60 : decode cX4_adds 60 = .ok (.iload_n 3, 1) := by decide +kernel
theorem dX4_adds_61 : decode cX4_adds 61 = .ok (.i2l, 1) := by decide +kernel
theorem dX4_adds_62 : decode cX4_adds 62 = .ok (.lastore, 1) := by decide +kernel
theorem dX4_adds_63 : decode cX4_adds 63 = .ok (.aload_n 0, 1) := by decide +kernel
theorem dX4_adds_64 : decode cX4_adds 64 = .ok (.getfield 7, 3) := by decide +kernel
theorem dX4_adds_67 : decode cX4_adds 67 = .ok (.iload 6, 2) := by decide +kernel
theorem dX4_adds_69 : decode cX4_adds 69 = .ok (.iconst 3, 1) := by decide +kernel
theorem dX4_adds_70 : decode cX4_adds 70 = .ok (.iadd, 1) := by decide +kernel
theorem dX4_adds_71 : decode cX4_adds 71 = .ok (.lconst 1, 1) := by decide +kernel
theorem dX4_adds_72 : decode cX4_adds 72 = .ok (.lastore, 1) := by decide +kernel
theorem dX4_adds_73 : decode cX4_adds 73 = .ok (.aload_n 0, 1) := by decide +kernel
theorem dX4_adds_74 : decode cX4_adds 74 = .ok (.getfield 7, 3) := by decide +kernel
theorem dX4_adds_77 : decode cX4_adds 77 = .ok (.iload 6, 2) := by decide +kernel
theorem dX4_adds_79 : decode cX4_adds 79 = .ok (.iconst 4, 1) := by decide +kernel
theorem dX4_adds_80 : decode cX4_adds 80 = .ok (.iadd, 1) := by decide +kernel
theorem dX4_adds_81 : decode cX4_adds 81 = .ok (.iload 7, 2) := by decide +kernel
theorem dX4_adds_83 : decode cX4_adds 83 = .ok (.ifCond .eq 7, 3) := by decide +kernel
theorem dX4_adds_86 : decode cX4_adds 86 = .ok (.lconst 1, 1) := by decide +kernel
theorem dX4_adds_87 : decode cX4_adds 87 = .ok (.goto 4, 3) := by decide +kernel
theorem dX4_adds_90 : decode cX4_adds 90 = .ok (.lconst 0, 1) := by decide +kernel
theorem dX4_adds_91 : decode cX4_adds 91 = .ok (.lastore, 1) := by decide +kernel
theorem dX4_adds_92 : decode cX4_adds 92 = .ok (.aload_n 0, 1) := by decide +kernel
theorem dX4_adds_93 : decode cX4_adds 93 = .ok (.getfield 7, 3) := by decide +kernel
theorem dX4_adds_96 : decode cX4_adds 96 = .ok (.iload 6, 2) := by decide +kernel
theorem dX4_adds_98 : decode cX4_adds 98 = .ok (.iconst 5, 1) := by decide +kernel
theorem dX4_adds_99 : decode cX4_adds 99 = .ok (.iadd, 1) := by decide +kernel
theorem dX4_adds_100 : decode cX4_adds 100 = .ok (.iload 7, 2) := by decide +kernel
theorem dX4_adds_102 : decode cX4_adds 102 = .ok (.ifCond .eq 7, 3) := by decide +kernel
theorem dX4_adds_105 : decode cX4_adds 105 = .ok (.lconst 1, 1) := by decide +kernel
theorem dX4_adds_106 : decode cX4_adds 106 = .ok (.goto 4, 3) := by decide +kernel
theorem dX4_adds_109 : decode cX4_adds 109 = .ok (.lconst 0, 1) := by decide +kernel
theorem dX4_adds_110 : decode cX4_adds 110 = .ok (.lastore, 1) := by decide +kernel
theorem dX4_adds_111 : decode cX4_adds 111 = .ok (.aload_n 0, 1) := by decide +kernel
theorem dX4_adds_112 : decode cX4_adds 112 = .ok (.getfield 7, 3) := by decide +kernel
theorem dX4_adds_115 : decode cX4_adds 115 = .ok (.iload 6, 2) := by decide +kernel
theorem dX4_adds_117 : decode cX4_adds 117 = .ok (.bipush 6, 2) := by decide +kernel
theorem dX4_adds_119 : decode cX4_adds 119 = .ok (.iadd, 1) := by decide +kernel
theorem dX4_adds_120 : decode cX4_adds 120 = .ok (.iload 7, 2) := by decide +kernel
theorem dX4_adds_122 : decode cX4_adds 122 = .ok (.ifCond .eq 14, 3) := by decide +kernel
theorem dX4_adds_125 : decode cX4_adds 125 = .ok (.aload_n 0, 1) := by decide +kernel
theorem dX4_adds_126 : decode cX4_adds 126 = .ok (.iload_n 1, 1) := by decide +kernel
theorem dX4_adds_127 : decode cX4_adds 127 = .ok (.iload 5, 2) := by decide +kernel
theorem dX4_adds_129 : decode cX4_adds 129 = .ok (.invokevirtual 111, 3) := by decide +kernel
theorem dX4_adds_132 : decode cX4_adds 132 = .ok (.i2l, 1) := by decide +kernel
theorem dX4_adds_133 : decode cX4_adds 133 = .ok (.goto 4, 3) := by decide +kernel
theorem dX4_adds_136 : decode cX4_adds 136 = .ok (.lconst 0, 1) := by decide +kernel
theorem dX4_adds_137 : decode cX4_adds 137 = .ok (.lastore, 1) := by decide +kernel
theorem dX4_adds_138 : decode cX4_adds 138 = .ok (.aload_n 0, 1) := by decide +kernel
theorem dX4_adds_139 : decode cX4_adds 139 = .ok (.getfield 7, 3) := by decide +kernel
theorem dX4_adds_142 : decode cX4_adds 142 = .ok (.iload_n 1, 1) := by decide +kernel
theorem dX4_adds_143 : decode cX4_adds 143 = .ok (.iconst 0, 1) := by decide +kernel
theorem dX4_adds_144 : decode cX4_adds 144 = .ok (.invokestatic 85, 3) := by decide +kernel
theorem dX4_adds_147 : decode cX4_adds 147 = .ok (.dup2, 1) := by decide +kernel
theorem dX4_adds_148 : decode cX4_adds 148 = .ok (.laload, 1) := by decide +kernel
theorem dX4_adds_149 : decode cX4_adds 149 = .ok (.lconst 1, 1) := by decide +kernel
theorem dX4_adds_150 : decode cX4_adds 150 = .ok (.ladd, 1) := by decide +kernel
theorem dX4_adds_151 : decode cX4_adds 151 = .ok (.lastore, 1) := by decide +kernel
theorem dX4_adds_152 : decode cX4_adds 152 = .ok (.return_, 1) := by decide +kernel
theorem dX4_point_0 : decode cX4_point 0 = .ok (.aload_n 0, 1) := by decide +kernel
theorem dX4_point_1 : decode cX4_point 1 = .ok (.iload_n 1, 1) := by decide +kernel
theorem dX4_point_2 : decode cX4_point 2 = .ok (.invokevirtual 89, 3) := by decide +kernel
theorem dX4_point_5 : decode cX4_point 5 = .ok (.ifCond .eq 35, 3) := by decide +kernel
theorem dX4_point_8 : decode cX4_point 8 = .ok (.iload_n 2, 1) := by decide +kernel
theorem dX4_point_9 : decode cX4_point 9 = .ok (.iconst 0, 1) := by decide +kernel
theorem dX4_point_10 : decode cX4_point 10 = .ok (.sipush 1000, 3) := by decide +kernel
theorem dX4_point_13 : decode cX4_point 13 = .ok (.invokestatic 57, 3) := by decide +kernel
theorem dX4_point_16 : decode cX4_point 16 = .ok (.ifCond .eq 24, 3) := by decide +kernel
theorem dX4_point_19 : decode cX4_point 19 = .ok (.iload_n 3, 1) := by decide +kernel
theorem dX4_point_20 : decode cX4_point 20 = .ok (.iconst 0, 1) := by decide +kernel
theorem dX4_point_21 : decode cX4_point 21 = .ok (.sipush 1000, 3) := by decide +kernel
theorem dX4_point_24 : decode cX4_point 24 = .ok (.invokestatic 57, 3) := by decide +kernel
theorem dX4_point_27 : decode cX4_point 27 = .ok (.ifCond .eq 13, 3) := by decide +kernel
theorem dX4_point_30 : decode cX4_point 30 = .ok (.iload 4, 2) := by decide +kernel
theorem dX4_point_32 : decode cX4_point 32 = .ok (.iconst 0, 1) := by decide +kernel
theorem dX4_point_33 : decode cX4_point 33 = .ok (.iconst 1, 1) := by decide +kernel
theorem dX4_point_34 : decode cX4_point 34 = .ok (.invokestatic 57, 3) := by decide +kernel
theorem dX4_point_37 : decode cX4_point 37 = .ok (.ifCond .ne 6, 3) := by decide +kernel
theorem dX4_point_40 : decode cX4_point 40 = .ok (.ldc 61, 2) := by decide +kernel
theorem dX4_point_42 : decode cX4_point 42 = .ok (.ireturn, 1) := by decide +kernel
theorem dX4_point_43 : decode cX4_point 43 = .ok (.aload_n 0, 1) := by decide +kernel
theorem dX4_point_44 : decode cX4_point 44 = .ok (.getfield 7, 3) := by decide +kernel
theorem dX4_point_47 : decode cX4_point 47 = .ok (.iload_n 1, 1) := by decide +kernel
theorem dX4_point_48 : decode cX4_point 48 = .ok (.iconst 1, 1) := by decide +kernel
theorem dX4_point_49 : decode cX4_point 49 = .ok (.invokestatic 85, 3) := by decide +kernel
theorem dX4_point_52 : decode cX4_point 52 = .ok (.laload, 1) := by decide +kernel
theorem dX4_point_53 : decode cX4_point 53 = .ok (.ldc2_w 96, 3) := by decide +kernel
theorem dX4_point_56 : decode cX4_point 56 = .ok (.lcmp, 1) := by decide +kernel
theorem dX4_point_57 : decode cX4_point 57 = .ok (.ifCond .ne 11, 3) := by decide +kernel
theorem dX4_point_60 : decode cX4_point 60 = .ok (.aload_n 0, 1) := by decide +kernel
theorem dX4_point_61 : decode cX4_point 61 = .ok (.iload_n 1, 1) := by decide +kernel
theorem dX4_point_62 : decode cX4_point 62 = .ok (.invokevirtual 114, 3) := by decide +kernel
theorem dX4_point_65 : decode cX4_point 65 = .ok (.ifCond .eq 6, 3) := by decide +kernel
theorem dX4_point_68 : decode cX4_point 68 = .ok (.ldc 117, 2) := by decide +kernel
theorem dX4_point_70 : decode cX4_point 70 = .ok (.ireturn, 1) := by decide +kernel
theorem dX4_point_71 : decode cX4_point 71 = .ok (.aload_n 0, 1) := by decide +kernel
theorem dX4_point_72 : decode cX4_point 72 = .ok (.iload_n 1, 1) := by decide +kernel
theorem dX4_point_73 : decode cX4_point 73 = .ok (.invokevirtual 93, 3) := by decide +kernel
theorem dX4_point_76 : decode cX4_point 76 = .ok (.bipush 20, 2) := by decide +kernel
theorem dX4_point_78 : decode cX4_point 78 = .ok (.if_icmp .ne 6, 3) := by decide +kernel
theorem dX4_point_81 : decode cX4_point 81 = .ok (.ldc 84, 2) := by decide +kernel
theorem dX4_point_83 : decode cX4_point 83 = .ok (.ireturn, 1) := by decide +kernel
theorem dX4_point_84 : decode cX4_point 84 = .ok (.aload_n 0, 1) := by decide +kernel
theorem dX4_point_85 : decode cX4_point 85 = .ok (.invokevirtual 62, 3) := by decide +kernel
theorem dX4_point_88 : decode cX4_point 88 = .ok (.aload_n 0, 1) := by decide +kernel
theorem dX4_point_89 : decode cX4_point 89 = .ok (.iload_n 1, 1) := by decide +kernel
theorem dX4_point_90 : decode cX4_point 90 = .ok (.iload_n 2, 1) := by decide +kernel
theorem dX4_point_91 : decode cX4_point 91 = .ok (.iload_n 3, 1) := by decide +kernel
theorem dX4_point_92 : decode cX4_point 92 = .ok (.iload 4, 2) := by decide +kernel
theorem dX4_point_94 : decode cX4_point 94 = .ok (.invokevirtual 118, 3) := by decide +kernel
theorem dX4_point_97 : decode cX4_point 97 = .ok (.aload_n 0, 1) := by decide +kernel
theorem dX4_point_98 : decode cX4_point 98 = .ok (.iload_n 1, 1) := by decide +kernel
theorem dX4_point_99 : decode cX4_point 99 = .ok (.invokevirtual 93, 3) := by decide +kernel
theorem dX4_point_102 : decode cX4_point 102 = .ok (.iconst 1, 1) := by decide +kernel
theorem dX4_point_103 : decode cX4_point 103 = .ok (.isub, 1) := by decide +kernel
theorem dX4_point_104 : decode cX4_point 104 = .ok (.ireturn, 1) := by decide +kernel
theorem dX4_remove_0 : decode cX4_remove 0 = .ok (.aload_n 0, 1) := by decide +kernel
theorem dX4_remove_1 : decode cX4_remove 1 = .ok (.iload_n 1, 1) := by decide +kernel
theorem dX4_remove_2 : decode cX4_remove 2 = .ok (.invokevirtual 89, 3) := by decide +kernel
theorem dX4_remove_5 : decode cX4_remove 5 = .ok (.ifCond .ne 6, 3) := by decide +kernel
theorem dX4_remove_8 : decode cX4_remove 8 = .ok (.ldc 61, 2) := by decide +kernel
theorem dX4_remove_10 : decode cX4_remove 10 = .ok (.ireturn, 1) := by decide +kernel
theorem dX4_remove_11 : decode cX4_remove 11 = .ok (.aload_n 0, 1) := by decide +kernel
theorem dX4_remove_12 : decode cX4_remove 12 = .ok (.iload_n 1, 1) := by decide +kernel
theorem dX4_remove_13 : decode cX4_remove 13 = .ok (.invokevirtual 114, 3) := by decide +kernel
theorem dX4_remove_16 : decode cX4_remove 16 = .ok (.ifCond .eq 6, 3) := by decide +kernel
theorem dX4_remove_19 : decode cX4_remove 19 = .ok (.ldc 117, 2) := by decide +kernel
theorem dX4_remove_21 : decode cX4_remove 21 = .ok (.ireturn, 1) := by decide +kernel
theorem dX4_remove_22 : decode cX4_remove 22 = .ok (.aload_n 0, 1) := by decide +kernel
theorem dX4_remove_23 : decode cX4_remove 23 = .ok (.invokevirtual 62, 3) := by decide +kernel
theorem dX4_remove_26 : decode cX4_remove 26 = .ok (.aload_n 0, 1) := by decide +kernel
theorem dX4_remove_27 : decode cX4_remove 27 = .ok (.getfield 7, 3) := by decide +kernel
theorem dX4_remove_30 : decode cX4_remove 30 = .ok (.bipush 14, 2) := by decide +kernel
theorem dX4_remove_32 : decode cX4_remove 32 = .ok (.dup2, 1) := by decide +kernel
theorem dX4_remove_33 : decode cX4_remove 33 = .ok (.laload, 1) := by decide +kernel
theorem dX4_remove_34 : decode cX4_remove 34 = .ok (.lconst 1, 1) := by decide +kernel
theorem dX4_remove_35 : decode cX4_remove 35 = .ok (.lsub, 1) := by decide +kernel
theorem dX4_remove_36 : decode cX4_remove 36 = .ok (.lastore, 1) := by decide +kernel
theorem dX4_remove_37 : decode cX4_remove 37 = .ok (.iload_n 1, 1) := by decide +kernel
theorem dX4_remove_38 : decode cX4_remove 38 = .ok (.iconst 0, 1) := by decide +kernel
theorem dX4_remove_39 : decode cX4_remove 39 = .ok (.invokestatic 85, 3) := by decide +kernel
theorem dX4_remove_42 : decode cX4_remove 42 = .ok (.istore_n 2, 1) := by decide +kernel
theorem dX4_remove_43 : decode cX4_remove 43 = .ok (.iload_n 2, 1) := by decide +kernel
theorem dX4_remove_44 : decode cX4_remove 44 = .ok (.aload_n 0, 1) := by decide +kernel
theorem dX4_remove_45 : decode cX4_remove 45 = .ok (.bipush 14, 2) := by decide +kernel
theorem dX4_remove_47 : decode cX4_remove 47 = .ok (.invokevirtual 65, 3) := by decide +kernel
theorem dX4_remove_50 : decode cX4_remove 50 = .ok (.iconst 0, 1) := by decide +kernel
theorem dX4_remove_51 : decode cX4_remove 51 = .ok (.invokestatic 85, 3) := by decide +kernel
theorem dX4_remove_54 : decode cX4_remove 54 = .ok (.if_icmp .ge 25, 3) := by decide +kernel
theorem dX4_remove_57 : decode cX4_remove 57 = .ok (.aload_n 0, 1) := by decide +kernel
theorem dX4_remove_58 : decode cX4_remove 58 = .ok (.getfield 7, 3) := by decide +kernel
theorem dX4_remove_61 : decode cX4_remove 61 = .ok (.iload_n 2, 1) := by decide +kernel
theorem dX4_remove_62 : decode cX4_remove 62 = .ok (.aload_n 0, 1) := by decide +kernel
theorem dX4_remove_63 : decode cX4_remove 63 = .ok (.getfield 7, 3) := by decide +kernel
theorem dX4_remove_66 : decode cX4_remove 66 = .ok (.iload_n 2, 1) := by decide +kernel
theorem dX4_remove_67 : decode cX4_remove 67 = .ok (.sipush 150, 3) := by decide +kernel
theorem dX4_remove_70 : decode cX4_remove 70 = .ok (.iadd, 1) := by decide +kernel
theorem dX4_remove_71 : decode cX4_remove 71 = .ok (.laload, 1) := by decide +kernel
theorem dX4_remove_72 : decode cX4_remove 72 = .ok (.lastore, 1) := by decide +kernel
theorem dX4_remove_73 : decode cX4_remove 73 = .ok (.iinc 2 1, 3) := by decide +kernel
theorem dX4_remove_76 : decode cX4_remove 76 = .ok (.goto (-33), 3) := by decide +kernel
theorem dX4_remove_79 : decode cX4_remove 79 = .ok (.iconst 0, 1) := by decide +kernel
theorem dX4_remove_80 : decode cX4_remove 80 = .ok (.istore_n 2, 1) := by decide +kernel
theorem dX4_remove_81 : decode cX4_remove 81 = .ok (.iload_n 2, 1) := by decide +kernel
theorem dX4_remove_82 : decode cX4_remove 82 = .ok (.aload_n 0, 1) := by decide +kernel
theorem dX4_remove_83 : decode cX4_remove 83 = .ok (.bipush 14, 2) := by decide +kernel
theorem dX4_remove_85 : decode cX4_remove 85 = .ok (.invokevirtual 65, 3) := by decide +kernel
