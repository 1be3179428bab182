theorem dX4_remove_88 : decode cX4_remove 88 = .ok (.if_icmp .ge 43, 3) := by decide +kernel
theorem dX4_remove_91 : decode cX4_remove 91 = .ok (.aload_n 0, 1) := by decide +kernel
theorem dX4_remove_92 : decode cX4_remove 92 = .ok (.getfield 7, 3) := by decide +kernel
theorem dX4_remove_95 : decode cX4_remove 95 = .ok (.iload_n 2, 1) := by decide +kernel
theorem dX4_remove_96 : decode cX4_remove 96 = .ok (.iconst 1, 1) := by decide +kernel
theorem dX4_remove_97 : decode cX4_remove 97 = .ok (.invokestatic 85, 3) := by decide +kernel
theorem dX4_remove_100 : decode cX4_remove 100 = .ok (.dup2, 1) := by decide +kernel
theorem dX4_remove_101 : decode cX4_remove 101 = .ok (.laload, 1) := by decide +kernel
theorem dX4_remove_102 : decode cX4_remove 102 = .ok (.aload_n 0, 1) := by decide +kernel
theorem dX4_remove_103 : decode cX4_remove 103 = .ok (.getfield 7, 3) := by decide +kernel
theorem dX4_remove_106 : decode cX4_remove 106 = .ok (.iload_n 2, 1) := by decide +kernel
theorem dX4_remove_107 : decode cX4_remove 107 = .ok (.iconst 1, 1) := by decide +kernel
theorem dX4_remove_108 : decode cX4_remove 108 = .ok (.invokestatic 85, 3) := by decide +kernel
theorem dX4_remove_111 : decode cX4_remove 111 = .ok (.laload, 1) := by decide +kernel
theorem dX4_remove_112 : decode cX4_remove 112 = .ok (.iload_n 1, 1) := by decide +kernel
theorem dX4_remove_113 : decode cX4_remove 113 = .ok (.i2l, 1) := by decide +kernel
theorem dX4_remove_114 : decode cX4_remove 114 = .ok (.lcmp, 1) := by decide +kernel
theorem dX4_remove_115 : decode cX4_remove 115 = .ok (.ifCond .le 7, 3) := by decide +kernel
theorem dX4_remove_118 : decode cX4_remove 118 = .ok (.lconst 1, 1) := by decide +kernel
theorem dX4_remove_119 : decode cX4_remove 119 = .ok (.goto 4, 3) := by decide +kernel
theorem dX4_remove_122 : decode cX4_remove 122 = .ok (.lconst 0, 1) := by decide +kernel
theorem dX4_remove_123 : decode cX4_remove 123 = .ok (.lsub, 1) := by decide +kernel
theorem dX4_remove_124 : decode cX4_remove 124 = .ok (.lastore, 1) := by decide +kernel
theorem dX4_remove_125 : decode cX4_remove 125 = .ok (.iinc 2 1, 3) := by decide +kernel
theorem dX4_remove_128 : decode cX4_remove 128 = .ok (.goto (-47), 3) := by decide +kernel
theorem dX4_remove_131 : decode cX4_remove 131 = .ok (.aload_n 0, 1) := by decide +kernel
theorem dX4_remove_132 : decode cX4_remove 132 = .ok (.bipush 14, 2) := by decide +kernel
theorem dX4_remove_134 : decode cX4_remove 134 = .ok (.invokevirtual 65, 3) := by decide +kernel
theorem dX4_remove_137 : decode cX4_remove 137 = .ok (.ireturn, 1) := by decide +kernel
theorem dX4_signOf_0 : decode cX4_signOf 0 = .ok (.aload_n 0, 1) := by decide +kernel
theorem dX4_signOf_1 : decode cX4_signOf 1 = .ok (.getfield 7, 3) := by decide +kernel
theorem dX4_signOf_4 : decode cX4_signOf 4 = .ok (.iconst 4, 1) := by decide +kernel
theorem dX4_signOf_5 : decode cX4_signOf 5 = .ok (.laload, 1) := by decide +kernel
theorem dX4_signOf_6 : decode cX4_signOf 6 = .ok (.lconst 1, 1) := by decide +kernel
theorem dX4_signOf_7 : decode cX4_signOf 7 = .ok (.lcmp, 1) := by decide +kernel
theorem dX4_signOf_8 : decode cX4_signOf 8 = .ok (.ifCond .eq 20, 3) := by decide +kernel
theorem dX4_signOf_11 : decode cX4_signOf 11 = .ok (.aload_n 0, 1) := by decide +kernel
theorem dX4_signOf_12 : decode cX4_signOf 12 = .ok (.getfield 7, 3) := by decide +kernel
theorem dX4_signOf_15 : decode cX4_signOf 15 = .ok (.iconst 4, 1) := by decide +kernel
theorem dX4_signOf_16 : decode cX4_signOf 16 = .ok (.laload, 1) := by decide +kernel
theorem dX4_signOf_17 : decode cX4_signOf 17 = .ok (.ldc2_w 122, 3) := by decide +kernel
theorem dX4_signOf_20 : decode cX4_signOf 20 = .ok (.lcmp, 1) := by decide +kernel
theorem dX4_signOf_21 : decode cX4_signOf 21 = .ok (.ifCond .ne 11, 3) := by decide +kernel
theorem dX4_signOf_24 : decode cX4_signOf 24 = .ok (.iload_n 1, 1) := by decide +kernel
theorem dX4_signOf_25 : decode cX4_signOf 25 = .ok (.ifCond .ne 7, 3) := by decide +kernel
theorem dX4_signOf_28 : decode cX4_signOf 28 = .ok (.iconst (-1), 1) := by decide +kernel
theorem dX4_signOf_29 : decode cX4_signOf 29 = .ok (.goto 4, 3) := by decide +kernel
theorem dX4_signOf_32 : decode cX4_signOf 32 = .ok (.iconst 1, 1) := by decide +kernel
theorem dX4_signOf_33 : decode cX4_signOf 33 = .ok (.ireturn, 1) := by decide +kernel
theorem dX4_aim_0 : decode cX4_aim 0 = .ok (.aload_n 0, 1) := by decide +kernel
theorem dX4_aim_1 : decode cX4_aim 1 = .ok (.getfield 7, 3) := by decide +kernel
theorem dX4_aim_4 : decode cX4_aim 4 = .ok (.iconst 2, 1) := by decide +kernel
theorem dX4_aim_5 : decode cX4_aim 5 = .ok (.iload_n 1, 1) := by decide +kernel
theorem dX4_aim_6 : decode cX4_aim 6 = .ok (.iadd, 1) := by decide +kernel
theorem dX4_aim_7 : decode cX4_aim 7 = .ok (.laload, 1) := by decide +kernel
theorem dX4_aim_8 : decode cX4_aim 8 = .ok (.lstore 6, 2) := by decide +kernel
theorem dX4_aim_10 : decode cX4_aim 10 = .ok (.aload_n 0, 1) := by decide +kernel
theorem dX4_aim_11 : decode cX4_aim 11 = .ok (.lload 6, 2) := by decide +kernel
theorem dX4_aim_13 : decode cX4_aim 13 = .ok (.lload 4, 2) := by decide +kernel
theorem dX4_aim_15 : decode cX4_aim 15 = .ok (.lmul, 1) := by decide +kernel
theorem dX4_aim_16 : decode cX4_aim 16 = .ok (.aload_n 0, 1) := by decide +kernel
theorem dX4_aim_17 : decode cX4_aim 17 = .ok (.getfield 7, 3) := by decide +kernel
theorem dX4_aim_20 : decode cX4_aim 20 = .ok (.iconst 1, 1) := by decide +kernel
theorem dX4_aim_21 : decode cX4_aim 21 = .ok (.laload, 1) := by decide +kernel
theorem dX4_aim_22 : decode cX4_aim 22 = .ok (.lmul, 1) := by decide +kernel
theorem dX4_aim_23 : decode cX4_aim 23 = .ok (.aload_n 0, 1) := by decide +kernel
theorem dX4_aim_24 : decode cX4_aim 24 = .ok (.iload_n 1, 1) := by decide +kernel
theorem dX4_aim_25 : decode cX4_aim 25 = .ok (.invokevirtual 124, 3) := by decide +kernel
theorem dX4_aim_28 : decode cX4_aim 28 = .ok (.i2l, 1) := by decide +kernel
theorem dX4_aim_29 : decode cX4_aim 29 = .ok (.aload_n 0, 1) := by decide +kernel
theorem dX4_aim_30 : decode cX4_aim 30 = .ok (.getfield 7, 3) := by decide +kernel
theorem dX4_aim_33 : decode cX4_aim 33 = .ok (.iconst 0, 1) := by decide +kernel
theorem dX4_aim_34 : decode cX4_aim 34 = .ok (.laload, 1) := by decide +kernel
theorem dX4_aim_35 : decode cX4_aim 35 = .ok (.lmul, 1) := by decide +kernel
theorem dX4_aim_36 : decode cX4_aim 36 = .ok (.lload_n 2, 1) := by decide +kernel
theorem dX4_aim_37 : decode cX4_aim 37 = .ok (.lload 6, 2) := by decide +kernel
theorem dX4_aim_39 : decode cX4_aim 39 = .ok (.lload 4, 2) := by decide +kernel
theorem dX4_aim_41 : decode cX4_aim 41 = .ok (.lmul, 1) := by decide +kernel
theorem dX4_aim_42 : decode cX4_aim 42 = .ok (.lsub, 1) := by decide +kernel
theorem dX4_aim_43 : decode cX4_aim 43 = .ok (.lmul, 1) := by decide +kernel
theorem dX4_aim_44 : decode cX4_aim 44 = .ok (.ladd, 1) := by decide +kernel
theorem dX4_aim_45 : decode cX4_aim 45 = .ok (.lload 4, 2) := by decide +kernel
theorem dX4_aim_47 : decode cX4_aim 47 = .ok (.aload_n 0, 1) := by decide +kernel
theorem dX4_aim_48 : decode cX4_aim 48 = .ok (.getfield 7, 3) := by decide +kernel
theorem dX4_aim_51 : decode cX4_aim 51 = .ok (.iconst 1, 1) := by decide +kernel
theorem dX4_aim_52 : decode cX4_aim 52 = .ok (.laload, 1) := by decide +kernel
theorem dX4_aim_53 : decode cX4_aim 53 = .ok (.lmul, 1) := by decide +kernel
theorem dX4_aim_54 : decode cX4_aim 54 = .ok (.invokevirtual 53, 3) := by decide +kernel
theorem dX4_aim_57 : decode cX4_aim 57 = .ok (.return_, 1) := by decide +kernel
theorem dX4_follow_0 : decode cX4_follow 0 = .ok (.aload_n 0, 1) := by decide +kernel
theorem dX4_follow_1 : decode cX4_follow 1 = .ok (.getfield 46, 3) := by decide +kernel
theorem dX4_follow_4 : decode cX4_follow 4 = .ok (.lstore 5, 2) := by decide +kernel
theorem dX4_follow_6 : decode cX4_follow 6 = .ok (.aload_n 0, 1) := by decide +kernel
theorem dX4_follow_7 : decode cX4_follow 7 = .ok (.getfield 50, 3) := by decide +kernel
theorem dX4_follow_10 : decode cX4_follow 10 = .ok (.lstore 7, 2) := by decide +kernel
theorem dX4_follow_12 : decode cX4_follow 12 = .ok (.aload_n 0, 1) := by decide +kernel
theorem dX4_follow_13 : decode cX4_follow 13 = .ok (.lload 5, 2) := by decide +kernel
theorem dX4_follow_15 : decode cX4_follow 15 = .ok (.lload 7, 2) := by decide +kernel
theorem dX4_follow_17 : decode cX4_follow 17 = .ok (.ldc2_w 96, 3) := by decide +kernel
theorem dX4_follow_20 : decode cX4_follow 20 = .ok (.lload_n 1, 1) := by decide +kernel
theorem dX4_follow_21 : decode cX4_follow 21 = .ok (.lload_n 3, 1) := by decide +kernel
theorem dX4_follow_22 : decode cX4_follow 22 = .ok (.invokevirtual 107, 3) := by decide +kernel
theorem dX4_follow_25 : decode cX4_follow 25 = .ok (.aload_n 0, 1) := by decide +kernel
theorem dX4_follow_26 : decode cX4_follow 26 = .ok (.getfield 46, 3) := by decide +kernel
theorem dX4_follow_29 : decode cX4_follow 29 = .ok (.aload_n 0, 1) := by decide +kernel
theorem dX4_follow_30 : decode cX4_follow 30 = .ok (.getfield 7, 3) := by decide +kernel
theorem dX4_follow_33 : decode cX4_follow 33 = .ok (.iconst 5, 1) := by decide +kernel
theorem dX4_follow_34 : decode cX4_follow 34 = .ok (.laload, 1) := by decide +kernel
theorem dX4_follow_35 : decode cX4_follow 35 = .ok (.aload_n 0, 1) := by decide +kernel
theorem dX4_follow_36 : decode cX4_follow 36 = .ok (.getfield 50, 3) := by decide +kernel
theorem dX4_follow_39 : decode cX4_follow 39 = .ok (.lmul, 1) := by decide +kernel
theorem dX4_follow_40 : decode cX4_follow 40 = .ok (.lcmp, 1) := by decide +kernel
theorem dX4_follow_41 : decode cX4_follow 41 = .ok (.ifCond .le 7, 3) := by decide +kernel
theorem dX4_follow_44 : decode cX4_follow 44 = .ok (.iconst 1, 1) := by decide +kernel
theorem dX4_follow_45 : decode cX4_follow 45 = .ok (.goto 4, 3) := by decide +kernel
theorem dX4_follow_48 : decode cX4_follow 48 = .ok (.iconst 0, 1) := by decide +kernel
theorem dX4_follow_49 : decode cX4_follow 49 = .ok (.istore 9, 2) := by decide +kernel
theorem dX4_follow_51 : decode cX4_follow 51 = .ok (.aload_n 0, 1) := by decide +kernel
theorem dX4_follow_52 : decode cX4_follow 52 = .ok (.getfield 46, 3) := by decide +kernel
theorem dX4_follow_55 : decode cX4_follow 55 = .ok (.lneg, 1) := by decide +kernel
theorem dX4_follow_56 : decode cX4_follow 56 = .ok (.aload_n 0, 1) := by decide +kernel
theorem dX4_follow_57 : decode cX4_follow 57 = .ok (.getfield 7, 3) := by decide +kernel
theorem dX4_follow_60 : decode cX4_follow 60 = .ok (.iconst 5, 1) := by decide +kernel
theorem dX4_follow_61 : decode cX4_follow 61 = .ok (.laload, 1) := by decide +kernel
theorem dX4_follow_62 : decode cX4_follow 62 = .ok (.aload_n 0, 1) := by decide +kernel
theorem dX4_follow_63 : decode cX4_follow 63 = .ok (.getfield 50, 3) := by decide +kernel
theorem dX4_follow_66 : decode cX4_follow 66 = .ok (.lmul, 1) := by decide +kernel
theorem dX4_follow_67 : decode cX4_follow 67 = .ok (.lcmp, 1) := by decide +kernel
theorem dX4_follow_68 : decode cX4_follow 68 = .ok (.ifCond .le 7, 3) := by decide +kernel
theorem dX4_follow_71 : decode cX4_follow 71 = .ok (.iconst 1, 1) := by decide +kernel
theorem dX4_follow_72 : decode cX4_follow 72 = .ok (.goto 4, 3) := by decide +kernel
theorem dX4_follow_75 : decode cX4_follow 75 = .ok (.iconst 0, 1) := by decide +kernel
theorem dX4_follow_76 : decode cX4_follow 76 = .ok (.istore 10, 2) := by decide +kernel
theorem dX4_follow_78 : decode cX4_follow 78 = .ok (.iload 9, 2) := by decide +kernel
theorem dX4_follow_80 : decode cX4_follow 80 = .ok (.ifCond .ne 8, 3) := by decide +kernel
theorem dX4_follow_83 : decode cX4_follow 83 = .ok (.iload 10, 2) := by decide +kernel
theorem dX4_follow_85 : decode cX4_follow 85 = .ok (.ifCond .eq 33, 3) := by decide +kernel
theorem dX4_follow_88 : decode cX4_follow 88 = .ok (.aload_n 0, 1) := by decide +kernel
theorem dX4_follow_89 : decode cX4_follow 89 = .ok (.lload 5, 2) := by decide +kernel
theorem dX4_follow_91 : decode cX4_follow 91 = .ok (.lload 7, 2) := by decide +kernel
theorem dX4_follow_93 : decode cX4_follow 93 = .ok (.iload 9, 2) := by decide +kernel
theorem dX4_follow_95 : decode cX4_follow 95 = .ok (.ifCond .eq 9, 3) := by decide +kernel
theorem dX4_follow_98 : decode cX4_follow 98 = .ok (.ldc2_w 96, 3) := by decide +kernel
theorem dX4_follow_101 : decode cX4_follow 101 = .ok (.goto 4, 3) := by decide +kernel
theorem dX4_follow_104 : decode cX4_follow 104 = .ok (.lconst 1, 1) := by decide +kernel
theorem dX4_follow_105 : decode cX4_follow 105 = .ok (.aload_n 0, 1) := by decide +kernel
theorem dX4_follow_106 : decode cX4_follow 106 = .ok (.getfield 7, 3) := by decide +kernel
theorem dX4_follow_109 : decode cX4_follow 109 = .ok (.iconst 5, 1) := by decide +kernel
theorem dX4_follow_110 : decode cX4_follow 110 = .ok (.laload, 1) := by decide +kernel
theorem dX4_follow_111 : decode cX4_follow 111 = .ok (.lconst 1, 1) := by decide +kernel
theorem dX4_follow_112 : decode cX4_follow 112 = .ok (.invokevirtual 107, 3) := by decide +kernel
theorem dX4_follow_115 : decode cX4_follow 115 = .ok (.goto 9, 3) := by decide +kernel
theorem dX4_follow_118 : decode cX4_follow 118 = .ok (.aload_n 0, 1) := by decide +kernel
theorem dX4_follow_119 : decode cX4_follow 119 = .ok (.lload_n 1, 1) := by decide +kernel
theorem dX4_follow_120 : decode cX4_follow 120 = .ok (.lload_n 3, 1) := by decide +kernel
theorem dX4_follow_121 : decode cX4_follow 121 = .ok (.invokevirtual 53, 3) := by decide +kernel
theorem dX4_follow_124 : decode cX4_follow 124 = .ok (.return_, 1) := by decide +kernel
theorem dX4_trace_0 : decode cX4_trace 0 = .ok (.iload_n 1, 1) := by decide +kernel
theorem dX4_trace_1 : decode cX4_trace 1 = .ok (.iload_n 3, 1) := by decide +kernel
theorem dX4_trace_2 : decode cX4_trace 2 = .ok (.invokestatic 104, 3) := by decide +kernel
theorem dX4_trace_5 : decode cX4_trace 5 = .ok (.istore 4, 2) := by decide +kernel
theorem dX4_trace_7 : decode cX4_trace 7 = .ok (.iload_n 2, 1) := by decide +kernel
theorem dX4_trace_8 : decode cX4_trace 8 = .ok (.iload_n 3, 1) := by decide +kernel
theorem dX4_trace_9 : decode cX4_trace 9 = .ok (.invokestatic 104, 3) := by decide +kernel
theorem dX4_trace_12 : decode cX4_trace 12 = .ok (.istore 5, 2) := by decide +kernel
theorem dX4_trace_14 : decode cX4_trace 14 = .ok (.aload_n 0, 1) := by decide +kernel
theorem dX4_trace_15 : decode cX4_trace 15 = .ok (.getfield 7, 3) := by decide +kernel
theorem dX4_trace_18 : decode cX4_trace 18 = .ok (.iload 4, 2) := by decide +kernel
theorem dX4_trace_20 : decode cX4_trace 20 = .ok (.iconst 4, 1) := by decide +kernel
theorem dX4_trace_21 : decode cX4_trace 21 = .ok (.iadd, 1) := by decide +kernel
theorem dX4_trace_22 : decode cX4_trace 22 = .ok (.laload, 1) := by decide +kernel
theorem dX4_trace_23 : decode cX4_trace 23 = .ok (.lconst 1, 1) := by decide +kernel
theorem dX4_trace_24 : decode cX4_trace 24 = .ok (.lcmp, 1) := by decide +kernel
theorem dX4_trace_25 : decode cX4_trace 25 = .ok (.ifCond .ne 7, 3) := by decide +kernel
theorem dX4_trace_28 : decode cX4_trace 28 = .ok (.iconst 1, 1) := by decide +kernel
theorem dX4_trace_29 : decode cX4_trace 29 = .ok (.goto 4, 3) := by decide +kernel
theorem dX4_trace_32 : decode cX4_trace 32 = .ok (.iconst 0, 1) := by decide +kernel
theorem dX4_trace_33 : decode cX4_trace 33 = .ok (.istore 6, 2) := by decide +kernel
theorem dX4_trace_35 : decode cX4_trace 35 = .ok (.iconst 0, 1) := by decide +kernel
theorem dX4_trace_36 : decode cX4_trace 36 = .ok (.istore 7, 2) := by decide +kernel
theorem dX4_trace_38 : decode cX4_trace 38 = .ok (.iload 7, 2) := by decide +kernel
theorem dX4_trace_40 : decode cX4_trace 40 = .ok (.iconst 2, 1) := by decide +kernel
theorem dX4_trace_41 : decode cX4_trace 41 = .ok (.if_icmp .ge 93, 3) := by decide +kernel
theorem dX4_trace_44 : decode cX4_trace 44 = .ok (.aload_n 0, 1) := by decide +kernel
theorem dX4_trace_45 : decode cX4_trace 45 = .ok (.iload 7, 2) := by decide +kernel
theorem dX4_trace_47 : decode cX4_trace 47 = .ok (.aload_n 0, 1) := by decide +kernel
theorem dX4_trace_48 : decode cX4_trace 48 = .ok (.getfield 7, 3) := by decide +kernel
theorem dX4_trace_51 : decode cX4_trace 51 = .ok (.iload 4, 2) := by decide +kernel
theorem dX4_trace_53 : decode cX4_trace 53 = .ok (.iconst 2, 1) := by decide +kernel
theorem dX4_trace_54 : decode cX4_trace 54 = .ok (.iload 7, 2) := by decide +kernel
theorem dX4_trace_56 : decode cX4_trace 56 = .ok (.imul, 1) := by decide +kernel
theorem dX4_trace_57 : decode cX4_trace 57 = .ok (.iadd, 1) := by decide +kernel
theorem dX4_trace_58 : decode cX4_trace 58 = .ok (.laload, 1) := by decide +kernel
theorem dX4_trace_59 : decode cX4_trace 59 = .ok (.aload_n 0, 1) := by decide +kernel
theorem dX4_trace_60 : decode cX4_trace 60 = .ok (.getfield 7, 3) := by decide +kernel
theorem dX4_trace_63 : decode cX4_trace 63 = .ok (.iload 4, 2) := by decide +kernel
theorem dX4_trace_65 : decode cX4_trace 65 = .ok (.iconst 2, 1) := by decide +kernel
theorem dX4_trace_66 : decode cX4_trace 66 = .ok (.iload 7, 2) := by decide +kernel
theorem dX4_trace_68 : decode cX4_trace 68 = .ok (.imul, 1) := by decide +kernel
theorem dX4_trace_69 : decode cX4_trace 69 = .ok (.iadd, 1) := by decide +kernel
theorem dX4_trace_70 : decode cX4_trace 70 = .ok (.iconst 1, 1) := by decide +kernel
theorem dX4_trace_71 : decode cX4_trace 71 = .ok (.iadd, 1) := by decide +kernel
theorem dX4_trace_72 : decode cX4_trace 72 = .ok (.laload, 1) := by decide +kernel
theorem dX4_trace_73 : decode cX4_trace 73 = .ok (.invokevirtual 127, 3) := by decide +kernel
theorem dX4_trace_76 : decode cX4_trace 76 = .ok (.iload 6, 2) := by decide +kernel
theorem dX4_trace_78 : decode cX4_trace 78 = .ok (.ifCond .eq 39, 3) := by decide +kernel
theorem dX4_trace_81 : decode cX4_trace 81 = .ok (.aload_n 0, 1) := by decide +kernel
theorem dX4_trace_82 : decode cX4_trace 82 = .ok (.aload_n 0, 1) := by decide +kernel
theorem dX4_trace_83 : decode cX4_trace 83 = .ok (.getfield 7, 3) := by decide +kernel
theorem dX4_trace_86 : decode cX4_trace 86 = .ok (.iload 5, 2) := by decide +kernel
theorem dX4_trace_88 : decode cX4_trace 88 = .ok (.bipush 7, 2) := by decide +kernel
theorem dX4_trace_90 : decode cX4_trace 90 = .ok (.isub, 1) := by decide +kernel
theorem dX4_trace_91 : decode cX4_trace 91 = .ok (.iconst 2, 1) := by decide +kernel
theorem dX4_trace_92 : decode cX4_trace 92 = .ok (.iload 7, 2) := by decide +kernel
theorem dX4_trace_94 : decode cX4_trace 94 = .ok (.imul, 1) := by decide +kernel
theorem dX4_trace_95 : decode cX4_trace 95 = .ok (.iadd, 1) := by decide +kernel
theorem dX4_trace_96 : decode cX4_trace 96 = .ok (.laload, 1) := by decide +kernel
theorem dX4_trace_97 : decode cX4_trace 97 = .ok (.aload_n 0, 1) := by decide +kernel
theorem dX4_trace_98 : decode cX4_trace 98 = .ok (.getfield 7, 3) := by decide +kernel
theorem dX4_trace_101 : decode cX4_trace 101 = .ok (.iload 5, 2) := by decide +kernel
theorem dX4_trace_103 : decode cX4_trace 103 = .ok (.bipush 7, 2) := by decide +kernel
theorem dX4_trace_105 : decode cX4_trace 105 = .ok (.isub, 1) := by decide +kernel
theorem dX4_trace_106 : decode cX4_trace 106 = .ok (.iconst 2, 1) := by decide +kernel
theorem dX4_trace_107 : decode cX4_trace 107 = .ok (.iload 7, 2) := by decide +kernel
theorem dX4_trace_109 : decode cX4_trace 109 = .ok (.imul, 1) := by decide +kernel
theorem dX4_trace_110 : decode cX4_trace 110 = .ok (.iadd, 1) := by decide +kernel
theorem dX4_trace_111 : decode cX4_trace 111 = .ok (.iconst 1, 1) := by decide +kernel
theorem dX4_trace_112 : decode cX4_trace 112 = .ok (.iadd, 1) := by decide +kernel
theorem dX4_trace_113 : decode cX4_trace 113 = .ok (.laload, 1) := by decide +kernel
theorem dX4_trace_114 : decode cX4_trace 114 = .ok (.invokevirtual 131, 3) := by decide +kernel
theorem dX4_trace_117 : decode cX4_trace 117 = .ok (.aload_n 0, 1) := by decide +kernel
theorem dX4_trace_118 : decode cX4_trace 118 = .ok (.iload 5, 2) := by decide +kernel
theorem dX4_trace_120 : decode cX4_trace 120 = .ok (.iconst 2, 1) := by decide +kernel
theorem dX4_trace_121 : decode cX4_trace 121 = .ok (.iload 7, 2) := by decide +kernel
theorem dX4_trace_123 : decode cX4_trace 123 = .ok (.imul, 1) := by decide +kernel
theorem dX4_trace_124 : decode cX4_trace 124 = .ok (.iadd, 1) := by decide +kernel
theorem dX4_trace_125 : decode cX4_trace 125 = .ok (.invokevirtual 134, 3) := by decide +kernel
theorem dX4_trace_128 : decode cX4_trace 128 = .ok (.iinc 7 1, 3) := by decide +kernel
theorem dX4_trace_131 : decode cX4_trace 131 = .ok (.goto (-93), 3) := by decide +kernel
theorem dX4_trace_134 : decode cX4_trace 134 = .ok (.aload_n 0, 1) := by decide +kernel
theorem dX4_trace_135 : decode cX4_trace 135 = .ok (.getfield 7, 3) := by decide +kernel
theorem dX4_trace_138 : decode cX4_trace 138 = .ok (.iload 5, 2) := by decide +kernel
theorem dX4_trace_140 : decode cX4_trace 140 = .ok (.iconst 4, 1) := by decide +kernel
theorem dX4_trace_141 : decode cX4_trace 141 = .ok (.iadd, 1) := by decide +kernel
theorem dX4_trace_142 : decode cX4_trace 142 = .ok (.aload_n 0, 1) := by decide +kernel
theorem dX4_trace_143 : decode cX4_trace 143 = .ok (.getfield 7, 3) := by decide +kernel
theorem dX4_trace_146 : decode cX4_trace 146 = .ok (.iload 4, 2) := by decide +kernel
theorem dX4_trace_148 : decode cX4_trace 148 = .ok (.iconst 4, 1) := by decide +kernel
theorem dX4_trace_149 : decode cX4_trace 149 = .ok (.iadd, 1) := by decide +kernel
theorem dX4_trace_150 : decode cX4_trace 150 = .ok (.laload, 1) := by decide +kernel
theorem dX4_trace_151 : decode cX4_trace 151 = .ok (.lastore, 1) := by decide +kernel
theorem dX4_trace_152 : decode cX4_trace 152 = .ok (.return_, 1) := by decide +kernel
theorem dX4_isOnBoard_0 : decode cX4_isOnBoard 0 = .ok (.iload_n 1, 1) := by decide +kernel
theorem dX4_isOnBoard_1 : decode cX4_isOnBoard 1 = .ok (.iload_n 2, 1) := by decide +kernel
theorem dX4_isOnBoard_2 : decode cX4_isOnBoard 2 = .ok (.invokestatic 104, 3) := by decide +kernel
theorem dX4_isOnBoard_5 : decode cX4_isOnBoard 5 = .ok (.istore_n 3, 1) := by decide +kernel
theorem dX4_isOnBoard_6 : decode cX4_isOnBoard 6 = .ok (.aload_n 0, 1) := by decide +kernel
theorem dX4_isOnBoard_7 : decode cX4_isOnBoard 7 = .ok (.getfield 7, 3) := by decide +kernel
theorem dX4_isOnBoard_10 : decode cX4_isOnBoard 10 = .ok (.iload_n 3, 1) := by decide +kernel
theorem dX4_isOnBoard_11 : decode cX4_isOnBoard 11 = .ok (.laload, 1) := by decide +kernel
theorem dX4_isOnBoard_12 : decode cX4_isOnBoard 12 = .ok (.lconst 0, 1) := by decide +kernel
theorem dX4_isOnBoard_13 : decode cX4_isOnBoard 13 = .ok (.lcmp, 1) := by decide +kernel
theorem dX4_isOnBoard_14 : decode cX4_isOnBoard 14 = .ok (.ifCond .lt 33, 3) := by decide +kernel
theorem dX4_isOnBoard_17 : decode cX4_isOnBoard 17 = .ok (.aload_n 0, 1) := by decide +kernel
theorem dX4_isOnBoard_18 : decode cX4_isOnBoard 18 = .ok (.getfield 7, 3) := by decide +kernel
theorem dX4_isOnBoard_21 : decode cX4_isOnBoard 21 = .ok (.iload_n 3, 1) := by decide +kernel
theorem dX4_isOnBoard_22 : decode cX4_isOnBoard 22 = .ok (.laload, 1) := by decide +kernel
theorem dX4_isOnBoard_23 : decode cX4_isOnBoard 23 = .ok (.aload_n 0, 1) := by decide +kernel
theorem dX4_isOnBoard_24 : decode cX4_isOnBoard 24 = .ok (.getfield 7, 3) := by decide +kernel
theorem dX4_isOnBoard_27 : decode cX4_isOnBoard 27 = .ok (.bipush 6, 2) := by decide +kernel
theorem dX4_isOnBoard_29 : decode cX4_isOnBoard 29 = .ok (.laload, 1) := by decide +kernel
theorem dX4_isOnBoard_30 : decode cX4_isOnBoard 30 = .ok (.aload_n 0, 1) := by decide +kernel
theorem dX4_isOnBoard_31 : decode cX4_isOnBoard 31 = .ok (.getfield 7, 3) := by decide +kernel
theorem dX4_isOnBoard_34 : decode cX4_isOnBoard 34 = .ok (.iload_n 3, 1) := by decide +kernel
theorem dX4_isOnBoard_35 : decode cX4_isOnBoard 35 = .ok (.iconst 1, 1) := by decide +kernel
theorem dX4_isOnBoard_36 : decode cX4_isOnBoard 36 = .ok (.iadd, 1) := by decide +kernel
theorem dX4_isOnBoard_37 : decode cX4_isOnBoard 37 = .ok (.laload, 1) := by decide +kernel
theorem dX4_isOnBoard_38 : decode cX4_isOnBoard 38 = .ok (.lmul, 1) := by decide +kernel
theorem dX4_isOnBoard_39 : decode cX4_isOnBoard 39 = .ok (.lcmp, 1) := by decide +kernel
theorem dX4_isOnBoard_40 : decode cX4_isOnBoard 40 = .ok (.ifCond .gt 7, 3) := by decide +kernel
theorem dX4_isOnBoard_43 : decode cX4_isOnBoard 43 = .ok (.iconst 1, 1) := by decide +kernel
theorem dX4_isOnBoard_44 : decode cX4_isOnBoard 44 = .ok (.goto 4, 3) := by decide +kernel
theorem dX4_isOnBoard_47 : decode cX4_isOnBoard 47 = .ok (.iconst 0, 1) := by decide +kernel
theorem dX4_isOnBoard_48 : decode cX4_isOnBoard 48 = .ok (.istore 4, 2) := by decide +kernel
theorem dX4_isOnBoard_50 : decode cX4_isOnBoard 50 = .ok (.iload 4, 2) := by decide +kernel
theorem dX4_isOnBoard_52 : decode cX4_isOnBoard 52 = .ok (.ifCond .eq 48, 3) := by decide +kernel
theorem dX4_isOnBoard_55 : decode cX4_isOnBoard 55 = .ok (.aload_n 0, 1) := by decide +kernel
theorem dX4_isOnBoard_56 : decode cX4_isOnBoard 56 = .ok (.getfield 7, 3) := by decide +kernel
theorem dX4_isOnBoard_59 : decode cX4_isOnBoard 59 = .ok (.iload_n 3, 1) := by decide +kernel
theorem dX4_isOnBoard_60 : decode cX4_isOnBoard 60 = .ok (.iconst 2, 1) := by decide +kernel
theorem dX4_isOnBoard_61 : decode cX4_isOnBoard 61 = .ok (.iadd, 1) := by decide +kernel
theorem dX4_isOnBoard_62 : decode cX4_isOnBoard 62 = .ok (.laload, 1) := by decide +kernel
theorem dX4_isOnBoard_63 : decode cX4_isOnBoard 63 = .ok (.lconst 0, 1) := by decide +kernel
theorem dX4_isOnBoard_64 : decode cX4_isOnBoard 64 = .ok (.lcmp, 1) := by decide +kernel
theorem dX4_isOnBoard_65 : decode cX4_isOnBoard 65 = .ok (.ifCond .lt 35, 3) := by decide +kernel
theorem dX4_isOnBoard_68 : decode cX4_isOnBoard 68 = .ok (.aload_n 0, 1) := by decide +kernel
theorem dX4_isOnBoard_69 : decode cX4_isOnBoard 69 = .ok (.getfield 7, 3) := by decide +kernel
theorem dX4_isOnBoard_72 : decode cX4_isOnBoard 72 = .ok (.iload_n 3, 1) := by decide +kernel
theorem dX4_isOnBoard_73 : decode cX4_isOnBoard 73 = .ok (.iconst 2, 1) := by decide +kernel
theorem dX4_isOnBoard_74 : decode cX4_isOnBoard 74 = .ok (.iadd, 1) := by decide +kernel
theorem dX4_isOnBoard_75 : decode cX4_isOnBoard 75 = .ok (.laload, 1) := by decide +kernel
theorem dX4_isOnBoard_76 : decode cX4_isOnBoard 76 = .ok (.aload_n 0, 1) := by decide +kernel
theorem dX4_isOnBoard_77 : decode cX4_isOnBoard 77 = .ok (.getfield 7, 3) := by decide +kernel
theorem dX4_isOnBoard_80 : decode cX4_isOnBoard 80 = .ok (.bipush 7, 2) := by decide +kernel
theorem dX4_isOnBoard_82 : decode cX4_isOnBoard 82 = .ok (.laload, 1) := by decide +kernel
theorem dX4_isOnBoard_83 : decode cX4_isOnBoard 83 = .ok (.aload_n 0, 1) := by decide +kernel
theorem dX4_isOnBoard_84 : decode cX4_isOnBoard 84 = .ok (.getfield 7, 3) := by decide +kernel
theorem dX4_isOnBoard_87 : decode cX4_isOnBoard 87 = .ok (.iload_n 3, 1) := by decide +kernel
theorem dX4_isOnBoard_88 : decode cX4_isOnBoard 88 = .ok (.iconst 3, 1) := by decide +kernel
theorem dX4_isOnBoard_89 : decode cX4_isOnBoard 89 = .ok (.iadd, 1) := by decide +kernel
theorem dX4_isOnBoard_90 : decode cX4_isOnBoard 90 = .ok (.laload, 1) := by decide +kernel
theorem dX4_isOnBoard_91 : decode cX4_isOnBoard 91 = .ok (.lmul, 1) := by decide +kernel
theorem dX4_isOnBoard_92 : decode cX4_isOnBoard 92 = .ok (.lcmp, 1) := by decide +kernel
theorem dX4_isOnBoard_93 : decode cX4_isOnBoard 93 = .ok (.ifCond .gt 7, 3) := by decide +kernel
theorem dX4_isOnBoard_96 : decode cX4_isOnBoard 96 = .ok (.iconst 1, 1) := by decide +kernel
theorem dX4_isOnBoard_97 : decode cX4_isOnBoard 97 = .ok (.goto 4, 3) := by decide +kernel
theorem dX4_isOnBoard_100 : decode cX4_isOnBoard 100 = .ok (.iconst 0, 1) := by decide +kernel
theorem dX4_isOnBoard_101 : decode cX4_isOnBoard 101 = .ok (.ireturn, 1) := by decide +kernel
theorem dX4_line_0 : decode cX4_line 0 = .ok (.iload_n 1, 1) := by decide +kernel
theorem dX4_line_1 : decode cX4_line 1 = .ok (.iload_n 2, 1) := by decide +kernel
theorem dX4_line_2 : decode cX4_line 2 = .ok (.invokestatic 104, 3) := by decide +kernel
theorem dX4_line_5 : decode cX4_line 5 = .ok (.istore_n 3, 1) := by decide +kernel
theorem dX4_line_6 : decode cX4_line 6 = .ok (.aload_n 0, 1) := by decide +kernel
theorem dX4_line_7 : decode cX4_line 7 = .ok (.iload_n 1, 1) := by decide +kernel
theorem dX4_line_8 : decode cX4_line 8 = .ok (.iload_n 2, 1) := by decide +kernel
theorem dX4_line_9 : decode cX4_line 9 = .ok (.invokevirtual 138, 3) := by decide +kernel
theorem dX4_line_12 : decode cX4_line 12 = .ok (.ifCond .eq 14, 3) := by decide +kernel
theorem dX4_line_15 : decode cX4_line 15 = .ok (.aload_n 0, 1) := by decide +kernel
theorem dX4_line_16 : decode cX4_line 16 = .ok (.iload_n 1, 1) := by decide +kernel
theorem dX4_line_17 : decode cX4_line 17 = .ok (.iload_n 2, 1) := by decide +kernel
theorem dX4_line_18 : decode cX4_line 18 = .ok (.iconst 1, 1) := by decide +kernel
theorem dX4_line_19 : decode cX4_line 19 = .ok (.isub, 1) := by decide +kernel
theorem dX4_line_20 : decode cX4_line 20 = .ok (.invokevirtual 138, 3) := by decide +kernel
theorem dX4_line_23 : decode cX4_line 23 = .ok (.ifCond .ne 15, 3) := by decide +kernel
theorem dX4_line_26 : decode cX4_line 26 = .ok (.aload_n 0, 1) := by decide +kernel
theorem dX4_line_27 : decode cX4_line 27 = .ok (.getfield 7, 3) := by decide +kernel
theorem dX4_line_30 : decode cX4_line 30 = .ok (.bipush 13, 2) := by decide +kernel
theorem dX4_line_32 : decode cX4_line 32 = .ok (.dup2, 1) := by decide +kernel
theorem dX4_line_33 : decode cX4_line 33 = .ok (.laload, 1) := by decide +kernel
theorem dX4_line_34 : decode cX4_line 34 = .ok (.lconst 1, 1) := by decide +kernel
theorem dX4_line_35 : decode cX4_line 35 = .ok (.ladd, 1) := by decide +kernel
theorem dX4_line_36 : decode cX4_line 36 = .ok (.lastore, 1) := by decide +kernel
theorem dX4_line_37 : decode cX4_line 37 = .ok (.return_, 1) := by decide +kernel
theorem dX4_line_38 : decode cX4_line 38 = .ok (.lconst 1, 1) := by decide +kernel
theorem dX4_line_39 : decode cX4_line 39 = .ok (.aload_n 0, 1) := by decide +kernel
theorem dX4_line_40 : decode cX4_line 40 = .ok (.getfield 7, 3) := by decide +kernel
theorem dX4_line_43 : decode cX4_line 43 = .ok (.bipush 9, 2) := by decide +kernel
theorem dX4_line_45 : decode cX4_line 45 = .ok (.laload, 1) := by decide +kernel
theorem dX4_line_46 : decode cX4_line 46 = .ok (.aload_n 0, 1) := by decide +kernel
theorem dX4_line_47 : decode cX4_line 47 = .ok (.getfield 7, 3) := by decide +kernel
theorem dX4_line_50 : decode cX4_line 50 = .ok (.bipush 8, 2) := by decide +kernel
theorem dX4_line_52 : decode cX4_line 52 = .ok (.laload, 1) := by decide +kernel
theorem dX4_line_53 : decode cX4_line 53 = .ok (.ldiv, 1) := by decide +kernel
theorem dX4_line_54 : decode cX4_line 54 = .ok (.ladd, 1) := by decide +kernel
theorem dX4_line_55 : decode cX4_line 55 = .ok (.lstore 4, 2) := by decide +kernel
theorem dX4_line_57 : decode cX4_line 57 = .ok (.aload_n 0, 1) := by decide +kernel
theorem dX4_line_58 : decode cX4_line 58 = .ok (.getfield 7, 3) := by decide +kernel
theorem dX4_line_61 : decode cX4_line 61 = .ok (.iload_n 3, 1) := by decide +kernel
theorem dX4_line_62 : decode cX4_line 62 = .ok (.iconst 5, 1) := by decide +kernel
theorem dX4_line_63 : decode cX4_line 63 = .ok (.iadd, 1) := by decide +kernel
theorem dX4_line_64 : decode cX4_line 64 = .ok (.lload 4, 2) := by decide +kernel
theorem dX4_line_66 : decode cX4_line 66 = .ok (.ldc2_w 73, 3) := by decide +kernel
theorem dX4_line_69 : decode cX4_line 69 = .ok (.lcmp, 1) := by decide +kernel
theorem dX4_line_70 : decode cX4_line 70 = .ok (.ifCond .le 9, 3) := by decide +kernel
theorem dX4_line_73 : decode cX4_line 73 = .ok (.ldc2_w 73, 3) := by decide +kernel
theorem dX4_line_76 : decode cX4_line 76 = .ok (.goto 5, 3) := by decide +kernel
theorem dX4_line_79 : decode cX4_line 79 = .ok (.lload 4, 2) := by decide +kernel
theorem dX4_line_81 : decode cX4_line 81 = .ok (.lastore, 1) := by decide +kernel
theorem dX4_line_82 : decode cX4_line 82 = .ok (.aload_n 0, 1) := by decide +kernel
theorem dX4_line_83 : decode cX4_line 83 = .ok (.getfield 7, 3) := by decide +kernel
theorem dX4_line_86 : decode cX4_line 86 = .ok (.iload_n 3, 1) := by decide +kernel
theorem dX4_line_87 : decode cX4_line 87 = .ok (.bipush 6, 2) := by decide +kernel
theorem dX4_line_89 : decode cX4_line 89 = .ok (.iadd, 1) := by decide +kernel
theorem dX4_line_90 : decode cX4_line 90 = .ok (.aload_n 0, 1) := by decide +kernel
theorem dX4_line_91 : decode cX4_line 91 = .ok (.iload_n 1, 1) := by decide +kernel
theorem dX4_line_92 : decode cX4_line 92 = .ok (.iload_n 2, 1) := by decide +kernel
theorem dX4_line_93 : decode cX4_line 93 = .ok (.invokevirtual 111, 3) := by decide +kernel
theorem dX4_line_96 : decode cX4_line 96 = .ok (.i2l, 1) := by decide +kernel
theorem dX4_line_97 : decode cX4_line 97 = .ok (.lastore, 1) := by decide +kernel
theorem dX4_line_98 : decode cX4_line 98 = .ok (.aload_n 0, 1) := by decide +kernel
theorem dX4_line_99 : decode cX4_line 99 = .ok (.getfield 7, 3) := by decide +kernel
theorem dX4_line_102 : decode cX4_line 102 = .ok (.bipush 9, 2) := by decide +kernel
theorem dX4_line_104 : decode cX4_line 104 = .ok (.dup2, 1) := by decide +kernel
theorem dX4_line_105 : decode cX4_line 105 = .ok (.laload, 1) := by decide +kernel
theorem dX4_line_106 : decode cX4_line 106 = .ok (.aload_n 0, 1) := by decide +kernel
theorem dX4_line_107 : decode cX4_line 107 = .ok (.getfield 7, 3) := by decide +kernel
theorem dX4_line_110 : decode cX4_line 110 = .ok (.iload_n 3, 1) := by decide +kernel
theorem dX4_line_111 : decode cX4_line 111 = .ok (.bipush 6, 2) := by decide +kernel
theorem dX4_line_113 : decode cX4_line 113 = .ok (.iadd, 1) := by decide +kernel
theorem dX4_line_114 : decode cX4_line 114 = .ok (.laload, 1) := by decide +kernel
theorem dX4_line_115 : decode cX4_line 115 = .ok (.ladd, 1) := by decide +kernel
theorem dX4_line_116 : decode cX4_line 116 = .ok (.lastore, 1) := by decide +kernel
theorem dX4_line_117 : decode cX4_line 117 = .ok (.aload_n 0, 1) := by decide +kernel
theorem dX4_line_118 : decode cX4_line 118 = .ok (.getfield 7, 3) := by decide +kernel
theorem dX4_line_121 : decode cX4_line 121 = .ok (.bipush 11, 2) := by decide +kernel
theorem dX4_line_123 : decode cX4_line 123 = .ok (.dup2, 1) := by decide +kernel
theorem dX4_line_124 : decode cX4_line 124 = .ok (.laload, 1) := by decide +kernel
theorem dX4_line_125 : decode cX4_line 125 = .ok (.lconst 1, 1) := by decide +kernel
theorem dX4_line_126 : decode cX4_line 126 = .ok (.ladd, 1) := by decide +kernel
theorem dX4_line_127 : decode cX4_line 127 = .ok (.lastore, 1) := by decide +kernel
theorem dX4_line_128 : decode cX4_line 128 = .ok (.aload_n 0, 1) := by decide +kernel
theorem dX4_line_129 : decode cX4_line 129 = .ok (.getfield 7, 3) := by decide +kernel
theorem dX4_line_132 : decode cX4_line 132 = .ok (.bipush 12, 2) := by decide +kernel
theorem dX4_line_134 : decode cX4_line 134 = .ok (.dup2, 1) := by decide +kernel
theorem dX4_line_135 : decode cX4_line 135 = .ok (.laload, 1) := by decide +kernel
theorem dX4_line_136 : decode cX4_line 136 = .ok (.aload_n 0, 1) := by decide +kernel
theorem dX4_line_137 : decode cX4_line 137 = .ok (.getfield 7, 3) := by decide +kernel
theorem dX4_line_140 : decode cX4_line 140 = .ok (.iload_n 3, 1) := by decide +kernel
theorem dX4_line_141 : decode cX4_line 141 = .ok (.bipush 6, 2) := by decide +kernel
theorem dX4_line_143 : decode cX4_line 143 = .ok (.iadd, 1) := by decide +kernel
theorem dX4_line_144 : decode cX4_line 144 = .ok (.laload, 1) := by decide +kernel
theorem dX4_line_145 : decode cX4_line 145 = .ok (.ladd, 1) := by decide +kernel
theorem dX4_line_146 : decode cX4_line 146 = .ok (.lastore, 1) := by decide +kernel
theorem dX4_line_147 : decode cX4_line 147 = .ok (.return_, 1) := by decide +kernel
theorem dX4_shift_0 : decode cX4_shift 0 = .ok (.iload_n 1, 1) := by decide +kernel
theorem dX4_shift_1 : decode cX4_shift 1 = .ok (.bipush 6, 2) := by decide +kernel
theorem dX4_shift_3 : decode cX4_shift 3 = .ok (.iconst 2, 1) := by decide +kernel
theorem dX4_shift_4 : decode cX4_shift 4 = .ok (.iload_n 3, 1) := by decide +kernel
theorem dX4_shift_5 : decode cX4_shift 5 = .ok (.imul, 1) := by decide +kernel
theorem dX4_shift_6 : decode cX4_shift 6 = .ok (.iadd, 1) := by decide +kernel
theorem dX4_shift_7 : decode cX4_shift 7 = .ok (.invokestatic 85, 3) := by decide +kernel
theorem dX4_shift_10 : decode cX4_shift 10 = .ok (.istore 4, 2) := by decide +kernel
theorem dX4_shift_12 : decode cX4_shift 12 = .ok (.aload_n 0, 1) := by decide +kernel
theorem dX4_shift_13 : decode cX4_shift 13 = .ok (.iload_n 3, 1) := by decide +kernel
theorem dX4_shift_14 : decode cX4_shift 14 = .ok (.aload_n 0, 1) := by decide +kernel
theorem dX4_shift_15 : decode cX4_shift 15 = .ok (.getfield 7, 3) := by decide +kernel
theorem dX4_shift_18 : decode cX4_shift 18 = .ok (.iload 4, 2) := by decide +kernel
theorem dX4_shift_20 : decode cX4_shift 20 = .ok (.laload, 1) := by decide +kernel
theorem dX4_shift_21 : decode cX4_shift 21 = .ok (.aload_n 0, 1) := by decide +kernel
theorem dX4_shift_22 : decode cX4_shift 22 = .ok (.getfield 7, 3) := by decide +kernel
theorem dX4_shift_25 : decode cX4_shift 25 = .ok (.iload 4, 2) := by decide +kernel
theorem dX4_shift_27 : decode cX4_shift 27 = .ok (.iconst 1, 1) := by decide +kernel
theorem dX4_shift_28 : decode cX4_shift 28 = .ok (.iadd, 1) := by decide +kernel
theorem dX4_shift_29 : decode cX4_shift 29 = .ok (.laload, 1) := by decide +kernel
theorem dX4_shift_30 : decode cX4_shift 30 = .ok (.invokevirtual 127, 3) := by decide +kernel
theorem dX4_shift_33 : decode cX4_shift 33 = .ok (.aload_n 0, 1) := by decide +kernel
theorem dX4_shift_34 : decode cX4_shift 34 = .ok (.iload_n 2, 1) := by decide +kernel
theorem dX4_shift_35 : decode cX4_shift 35 = .ok (.bipush 6, 2) := by decide +kernel
theorem dX4_shift_37 : decode cX4_shift 37 = .ok (.iconst 2, 1) := by decide +kernel
theorem dX4_shift_38 : decode cX4_shift 38 = .ok (.iload_n 3, 1) := by decide +kernel
theorem dX4_shift_39 : decode cX4_shift 39 = .ok (.imul, 1) := by decide +kernel
theorem dX4_shift_40 : decode cX4_shift 40 = .ok (.iadd, 1) := by decide +kernel
theorem dX4_shift_41 : decode cX4_shift 41 = .ok (.invokestatic 85, 3) := by decide +kernel
theorem dX4_shift_44 : decode cX4_shift 44 = .ok (.invokevirtual 134, 3) := by decide +kernel
theorem dX4_shift_47 : decode cX4_shift 47 = .ok (.return_, 1) := by decide +kernel
theorem dX4_copies_0 : decode cX4_copies 0 = .ok (.aload_n 0, 1) := by decide +kernel
theorem dX4_copies_1 : decode cX4_copies 1 = .ok (.invokevirtual 100, 3) := by decide +kernel
theorem dX4_copies_4 : decode cX4_copies 4 = .ok (.istore_n 2, 1) := by decide +kernel
theorem dX4_copies_5 : decode cX4_copies 5 = .ok (.aload_n 0, 1) := by decide +kernel
theorem dX4_copies_6 : decode cX4_copies 6 = .ok (.getfield 7, 3) := by decide +kernel
theorem dX4_copies_9 : decode cX4_copies 9 = .ok (.iload_n 2, 1) := by decide +kernel
theorem dX4_copies_10 : decode cX4_copies 10 = .ok (.iconst 1, 1) := by decide +kernel
theorem dX4_copies_11 : decode cX4_copies 11 = .ok (.invokestatic 85, 3) := by decide +kernel
theorem dX4_copies_14 : decode cX4_copies 14 = .ok (.iload_n 1, 1) := by decide +kernel
theorem dX4_copies_15 : decode cX4_copies 15 = .ok (.i2l, 1) := by decide +kernel
theorem dX4_copies_16 : decode cX4_copies 16 = .ok (.lastore, 1) := by decide +kernel
theorem dX4_copies_17 : decode cX4_copies 17 = .ok (.aload_n 0, 1) := by decide +kernel
theorem dX4_copies_18 : decode cX4_copies 18 = .ok (.aload_n 0, 1) := by decide +kernel
theorem dX4_copies_19 : decode cX4_copies 19 = .ok (.getfield 7, 3) := by decide +kernel
theorem dX4_copies_22 : decode cX4_copies 22 = .ok (.iload_n 1, 1) := by decide +kernel
theorem dX4_copies_23 : decode cX4_copies 23 = .ok (.iconst 2, 1) := by decide +kernel
theorem dX4_copies_24 : decode cX4_copies 24 = .ok (.invokestatic 85, 3) := by decide +kernel
theorem dX4_copies_27 : decode cX4_copies 27 = .ok (.laload, 1) := by decide +kernel
theorem dX4_copies_28 : decode cX4_copies 28 = .ok (.aload_n 0, 1) := by decide +kernel
theorem dX4_copies_29 : decode cX4_copies 29 = .ok (.getfield 7, 3) := by decide +kernel
theorem dX4_copies_32 : decode cX4_copies 32 = .ok (.iconst 0, 1) := by decide +kernel
theorem dX4_copies_33 : decode cX4_copies 33 = .ok (.laload, 1) := by decide +kernel
theorem dX4_copies_34 : decode cX4_copies 34 = .ok (.lmul, 1) := by decide +kernel
theorem dX4_copies_35 : decode cX4_copies 35 = .ok (.aload_n 0, 1) := by decide +kernel
theorem dX4_copies_36 : decode cX4_copies 36 = .ok (.getfield 7, 3) := by decide +kernel
theorem dX4_copies_39 : decode cX4_copies 39 = .ok (.iload_n 1, 1) := by decide +kernel
theorem dX4_copies_40 : decode cX4_copies 40 = .ok (.iconst 3, 1) := by decide +kernel
theorem dX4_copies_41 : decode cX4_copies 41 = .ok (.invokestatic 85, 3) := by decide +kernel
theorem dX4_copies_44 : decode cX4_copies 44 = .ok (.laload, 1) := by decide +kernel
theorem dX4_copies_45 : decode cX4_copies 45 = .ok (.aload_n 0, 1) := by decide +kernel
theorem dX4_copies_46 : decode cX4_copies 46 = .ok (.getfield 7, 3) := by decide +kernel
theorem dX4_copies_49 : decode cX4_copies 49 = .ok (.iconst 1, 1) := by decide +kernel
theorem dX4_copies_50 : decode cX4_copies 50 = .ok (.laload, 1) := by decide +kernel
theorem dX4_copies_51 : decode cX4_copies 51 = .ok (.lmul, 1) := by decide +kernel
theorem dX4_copies_52 : decode cX4_copies 52 = .ok (.invokevirtual 53, 3) := by decide +kernel
theorem dX4_copies_55 : decode cX4_copies 55 = .ok (.aload_n 0, 1) := by decide +kernel
theorem dX4_copies_56 : decode cX4_copies 56 = .ok (.iload_n 2, 1) := by decide +kernel
theorem dX4_copies_57 : decode cX4_copies 57 = .ok (.iconst 2, 1) := by decide +kernel
theorem dX4_copies_58 : decode cX4_copies 58 = .ok (.invokestatic 85, 3) := by decide +kernel
theorem dX4_copies_61 : decode cX4_copies 61 = .ok (.invokevirtual 134, 3) := by decide +kernel
theorem dX4_copies_64 : decode cX4_copies 64 = .ok (.aload_n 0, 1) := by decide +kernel
theorem dX4_copies_65 : decode cX4_copies 65 = .ok (.getfield 46, 3) := by decide +kernel
theorem dX4_copies_68 : decode cX4_copies 68 = .ok (.ldc2_w 141, 3) := by decide +kernel
theorem dX4_copies_71 : decode cX4_copies 71 = .ok (.lcmp, 1) := by decide +kernel
theorem dX4_copies_72 : decode cX4_copies 72 = .ok (.ifCond .gt 18, 3) := by decide +kernel
theorem dX4_copies_75 : decode cX4_copies 75 = .ok (.aload_n 0, 1) := by decide +kernel
theorem dX4_copies_76 : decode cX4_copies 76 = .ok (.getfield 50, 3) := by decide +kernel
theorem dX4_copies_79 : decode cX4_copies 79 = .ok (.ldc2_w 141, 3) := by decide +kernel
theorem dX4_copies_82 : decode cX4_copies 82 = .ok (.lcmp, 1) := by decide +kernel
theorem dX4_copies_83 : decode cX4_copies 83 = .ok (.ifCond .gt 7, 3) := by decide +kernel
theorem dX4_copies_86 : decode cX4_copies 86 = .ok (.iconst 1, 1) := by decide +kernel
theorem dX4_copies_87 : decode cX4_copies 87 = .ok (.goto 4, 3) := by decide +kernel
theorem dX4_copies_90 : decode cX4_copies 90 = .ok (.iconst 0, 1) := by decide +kernel
theorem dX4_copies_91 : decode cX4_copies 91 = .ok (.istore_n 3, 1) := by decide +kernel
theorem dX4_copies_92 : decode cX4_copies 92 = .ok (.iconst 0, 1) := by decide +kernel
theorem dX4_copies_93 : decode cX4_copies 93 = .ok (.istore 4, 2) := by decide +kernel
theorem dX4_copies_95 : decode cX4_copies 95 = .ok (.iload 4, 2) := by decide +kernel
theorem dX4_copies_97 : decode cX4_copies 97 = .ok (.iconst 2, 1) := by decide +kernel
theorem dX4_copies_98 : decode cX4_copies 98 = .ok (.if_icmp .ge 51, 3) := by decide +kernel
theorem dX4_copies_101 : decode cX4_copies 101 = .ok (.aload_n 0, 1) := by decide +kernel
theorem dX4_copies_102 : decode cX4_copies 102 = .ok (.getfield 7, 3) := by decide +kernel
theorem dX4_copies_105 : decode cX4_copies 105 = .ok (.iload_n 2, 1) := by decide +kernel
theorem dX4_copies_106 : decode cX4_copies 106 = .ok (.iconst 4, 1) := by decide +kernel
theorem dX4_copies_107 : decode cX4_copies 107 = .ok (.iload 4, 2) := by decide +kernel
theorem dX4_copies_109 : decode cX4_copies 109 = .ok (.iadd, 1) := by decide +kernel
theorem dX4_copies_110 : decode cX4_copies 110 = .ok (.invokestatic 85, 3) := by decide +kernel
theorem dX4_copies_113 : decode cX4_copies 113 = .ok (.aload_n 0, 1) := by decide +kernel
theorem dX4_copies_114 : decode cX4_copies 114 = .ok (.getfield 7, 3) := by decide +kernel
theorem dX4_copies_117 : decode cX4_copies 117 = .ok (.iload_n 1, 1) := by decide +kernel
theorem dX4_copies_118 : decode cX4_copies 118 = .ok (.iconst 4, 1) := by decide +kernel
theorem dX4_copies_119 : decode cX4_copies 119 = .ok (.iload 4, 2) := by decide +kernel
theorem dX4_copies_121 : decode cX4_copies 121 = .ok (.iadd, 1) := by decide +kernel
theorem dX4_copies_122 : decode cX4_copies 122 = .ok (.invokestatic 85, 3) := by decide +kernel
theorem dX4_copies_125 : decode cX4_copies 125 = .ok (.laload, 1) := by decide +kernel
theorem dX4_copies_126 : decode cX4_copies 126 = .ok (.aload_n 0, 1) := by decide +kernel
theorem dX4_copies_127 : decode cX4_copies 127 = .ok (.iload 4, 2) := by decide +kernel
theorem dX4_copies_129 : decode cX4_copies 129 = .ok (.invokevirtual 124, 3) := by decide +kernel
theorem dX4_copies_132 : decode cX4_copies 132 = .ok (.i2l, 1) := by decide +kernel
theorem dX4_copies_133 : decode cX4_copies 133 = .ok (.lmul, 1) := by decide +kernel
theorem dX4_copies_134 : decode cX4_copies 134 = .ok (.lastore, 1) := by decide +kernel
theorem dX4_copies_135 : decode cX4_copies 135 = .ok (.aload_n 0, 1) := by decide +kernel
theorem dX4_copies_136 : decode cX4_copies 136 = .ok (.iload_n 1, 1) := by decide +kernel
theorem dX4_copies_137 : decode cX4_copies 137 = .ok (.iload_n 2, 1) := by decide +kernel
theorem dX4_copies_138 : decode cX4_copies 138 = .ok (.iload 4, 2) := by decide +kernel
theorem dX4_copies_140 : decode cX4_copies 140 = .ok (.invokevirtual 143, 3) := by decide +kernel
theorem dX4_copies_143 : decode cX4_copies 143 = .ok (.iinc 4 1, 3) := by decide +kernel
theorem dX4_copies_146 : decode cX4_copies 146 = .ok (.goto (-51), 3) := by decide +kernel
theorem dX4_copies_149 : decode cX4_copies 149 = .ok (.iconst 0, 1) := by decide +kernel
theorem dX4_copies_150 : decode cX4_copies 150 = .ok (.istore 4, 2) := by decide +kernel
theorem dX4_copies_152 : decode cX4_copies 152 = .ok (.iload 4, 2) := by decide +kernel
theorem dX4_copies_154 : decode cX4_copies 154 = .ok (.aload_n 0, 1) := by decide +kernel
theorem dX4_copies_155 : decode cX4_copies 155 = .ok (.iload_n 1, 1) := by decide +kernel
theorem dX4_copies_156 : decode cX4_copies 156 = .ok (.invokevirtual 93, 3) := by decide +kernel
theorem dX4_copies_159 : decode cX4_copies 159 = .ok (.if_icmp .ge 67, 3) := by decide +kernel
theorem dX4_copies_162 : decode cX4_copies 162 = .ok (.aload_n 0, 1) := by decide +kernel
theorem dX4_copies_163 : decode cX4_copies 163 = .ok (.iload_n 1, 1) := by decide +kernel
theorem dX4_copies_164 : decode cX4_copies 164 = .ok (.iload_n 2, 1) := by decide +kernel
theorem dX4_copies_165 : decode cX4_copies 165 = .ok (.iload 4, 2) := by decide +kernel
theorem dX4_copies_167 : decode cX4_copies 167 = .ok (.invokevirtual 147, 3) := by decide +kernel
theorem dX4_copies_170 : decode cX4_copies 170 = .ok (.iload_n 2, 1) := by decide +kernel
theorem dX4_copies_171 : decode cX4_copies 171 = .ok (.iload 4, 2) := by decide +kernel
theorem dX4_copies_173 : decode cX4_copies 173 = .ok (.invokestatic 104, 3) := by decide +kernel
theorem dX4_copies_176 : decode cX4_copies 176 = .ok (.istore 5, 2) := by decide +kernel
theorem dX4_copies_178 : decode cX4_copies 178 = .ok (.iload_n 3, 1) := by decide +kernel
theorem dX4_copies_179 : decode cX4_copies 179 = .ok (.ifCond .eq 39, 3) := by decide +kernel
theorem dX4_copies_182 : decode cX4_copies 182 = .ok (.aload_n 0, 1) := by decide +kernel
theorem dX4_copies_183 : decode cX4_copies 183 = .ok (.getfield 7, 3) := by decide +kernel
theorem dX4_copies_186 : decode cX4_copies 186 = .ok (.iload 5, 2) := by decide +kernel
theorem dX4_copies_188 : decode cX4_copies 188 = .ok (.iconst 1, 1) := by decide +kernel
theorem dX4_copies_189 : decode cX4_copies 189 = .ok (.iadd, 1) := by decide +kernel
theorem dX4_copies_190 : decode cX4_copies 190 = .ok (.laload, 1) := by decide +kernel
theorem dX4_copies_191 : decode cX4_copies 191 = .ok (.ldc2_w 141, 3) := by decide +kernel
theorem dX4_copies_194 : decode cX4_copies 194 = .ok (.lcmp, 1) := by decide +kernel
theorem dX4_copies_195 : decode cX4_copies 195 = .ok (.ifCond .gt 23, 3) := by decide +kernel
theorem dX4_copies_198 : decode cX4_copies 198 = .ok (.aload_n 0, 1) := by decide +kernel
theorem dX4_copies_199 : decode cX4_copies 199 = .ok (.getfield 7, 3) := by decide +kernel
theorem dX4_copies_202 : decode cX4_copies 202 = .ok (.iload 5, 2) := by decide +kernel
theorem dX4_copies_204 : decode cX4_copies 204 = .ok (.iconst 3, 1) := by decide +kernel
theorem dX4_copies_205 : decode cX4_copies 205 = .ok (.iadd, 1) := by decide +kernel
theorem dX4_copies_206 : decode cX4_copies 206 = .ok (.laload, 1) := by decide +kernel
theorem dX4_copies_207 : decode cX4_copies 207 = .ok (.ldc2_w 141, 3) := by decide +kernel
theorem dX4_copies_210 : decode cX4_copies 210 = .ok (.lcmp, 1) := by decide +kernel
theorem dX4_copies_211 : decode cX4_copies 211 = .ok (.ifCond .gt 7, 3) := by decide +kernel
theorem dX4_copies_214 : decode cX4_copies 214 = .ok (.iconst 1, 1) := by decide +kernel
theorem dX4_copies_215 : decode cX4_copies 215 = .ok (.goto 4, 3) := by decide +kernel
theorem dX4_copies_218 : decode cX4_copies 218 = .ok (.iconst 0, 1) := by decide +kernel
theorem dX4_copies_219 : decode cX4_copies 219 = .ok (.istore_n 3, 1) := by decide +kernel
theorem dX4_copies_220 : decode cX4_copies 220 = .ok (.iinc 4 1, 3) := by decide +kernel
theorem dX4_copies_223 : decode cX4_copies 223 = .ok (.goto (-71), 3) := by decide +kernel
theorem dX4_copies_226 : decode cX4_copies 226 = .ok (.aload_n 0, 1) := by decide +kernel
theorem dX4_copies_227 : decode cX4_copies 227 = .ok (.getfield 7, 3) := by decide +kernel
theorem dX4_copies_230 : decode cX4_copies 230 = .ok (.iload_n 2, 1) := by decide +kernel
theorem dX4_copies_231 : decode cX4_copies 231 = .ok (.iconst 0, 1) := by decide +kernel
theorem dX4_copies_232 : decode cX4_copies 232 = .ok (.invokestatic 85, 3) := by decide +kernel
theorem dX4_copies_235 : decode cX4_copies 235 = .ok (.aload_n 0, 1) := by decide +kernel
theorem dX4_copies_236 : decode cX4_copies 236 = .ok (.iload_n 1, 1) := by decide +kernel
theorem dX4_copies_237 : decode cX4_copies 237 = .ok (.invokevirtual 93, 3) := by decide +kernel
theorem dX4_copies_240 : decode cX4_copies 240 = .ok (.i2l, 1) := by decide +kernel
theorem dX4_copies_241 : decode cX4_copies 241 = .ok (.lastore, 1) := by decide +kernel
theorem dX4_copies_242 : decode cX4_copies 242 = .ok (.iload_n 3, 1) := by decide +kernel
theorem dX4_copies_243 : decode cX4_copies 243 = .ok (.ireturn, 1) := by decide +kernel
theorem dX4_reason_0 : decode cX4_reason 0 = .ok (.aload_n 0, 1) := by decide +kernel
theorem dX4_reason_1 : decode cX4_reason 1 = .ok (.iload_n 1, 1) := by decide +kernel
theorem dX4_reason_2 : decode cX4_reason 2 = .ok (.invokevirtual 93, 3) := by decide +kernel
theorem dX4_reason_5 : decode cX4_reason 5 = .ok (.ifCond .ne 5, 3) := by decide +kernel
theorem dX4_reason_8 : decode cX4_reason 8 = .ok (.iconst 1, 1) := by decide +kernel
theorem dX4_reason_9 : decode cX4_reason 9 = .ok (.ireturn, 1) := by decide +kernel
theorem dX4_reason_10 : decode cX4_reason 10 = .ok (.aload_n 0, 1) := by decide +kernel
theorem dX4_reason_11 : decode cX4_reason 11 = .ok (.invokevirtual 75, 3) := by decide +kernel
theorem dX4_reason_14 : decode cX4_reason 14 = .ok (.ifCond .eq 5, 3) := by decide +kernel
theorem dX4_reason_17 : decode cX4_reason 17 = .ok (.iconst 2, 1) := by decide +kernel
theorem dX4_reason_18 : decode cX4_reason 18 = .ok (.ireturn, 1) := by decide +kernel
theorem dX4_reason_19 : decode cX4_reason 19 = .ok (.aload_n 0, 1) := by decide +kernel
theorem dX4_reason_20 : decode cX4_reason 20 = .ok (.getfield 7, 3) := by decide +kernel
theorem dX4_reason_23 : decode cX4_reason 23 = .ok (.bipush 14, 2) := by decide +kernel
theorem dX4_reason_25 : decode cX4_reason 25 = .ok (.laload, 1) := by decide +kernel
theorem dX4_reason_26 : decode cX4_reason 26 = .ok (.ldc2_w 98, 3) := by decide +kernel
theorem dX4_reason_29 : decode cX4_reason 29 = .ok (.lcmp, 1) := by decide +kernel
theorem dX4_reason_30 : decode cX4_reason 30 = .ok (.ifCond .ne 5, 3) := by decide +kernel
theorem dX4_reason_33 : decode cX4_reason 33 = .ok (.iconst 3, 1) := by decide +kernel
theorem dX4_reason_34 : decode cX4_reason 34 = .ok (.ireturn, 1) := by decide +kernel
theorem dX4_reason_35 : decode cX4_reason 35 = .ok (.aload_n 0, 1) := by decide +kernel
theorem dX4_reason_36 : decode cX4_reason 36 = .ok (.getfield 7, 3) := by decide +kernel
theorem dX4_reason_39 : decode cX4_reason 39 = .ok (.iconst 0, 1) := by decide +kernel
theorem dX4_reason_40 : decode cX4_reason 40 = .ok (.aload_n 0, 1) := by decide +kernel
theorem dX4_reason_41 : decode cX4_reason 41 = .ok (.getfield 13, 3) := by decide +kernel
theorem dX4_reason_44 : decode cX4_reason 44 = .ok (.iconst 0, 1) := by decide +kernel
theorem dX4_reason_45 : decode cX4_reason 45 = .ok (.invokestatic 38, 3) := by decide +kernel
theorem dX4_reason_48 : decode cX4_reason 48 = .ok (.aload_n 0, 1) := by decide +kernel
theorem dX4_reason_49 : decode cX4_reason 49 = .ok (.iload_n 1, 1) := by decide +kernel
theorem dX4_reason_50 : decode cX4_reason 50 = .ok (.invokevirtual 150, 3) := by decide +kernel
theorem dX4_reason_53 : decode cX4_reason 53 = .ok (.istore_n 2, 1) := by decide +kernel
theorem dX4_reason_54 : decode cX4_reason 54 = .ok (.aload_n 0, 1) := by decide +kernel
theorem dX4_reason_55 : decode cX4_reason 55 = .ok (.getfield 13, 3) := by decide +kernel
theorem dX4_reason_58 : decode cX4_reason 58 = .ok (.iconst 0, 1) := by decide +kernel
theorem dX4_reason_59 : decode cX4_reason 59 = .ok (.aload_n 0, 1) := by decide +kernel
theorem dX4_reason_60 : decode cX4_reason 60 = .ok (.getfield 7, 3) := by decide +kernel
theorem dX4_reason_63 : decode cX4_reason 63 = .ok (.iconst 0, 1) := by decide +kernel
theorem dX4_reason_64 : decode cX4_reason 64 = .ok (.invokestatic 38, 3) := by decide +kernel
theorem dX4_reason_67 : decode cX4_reason 67 = .ok (.iload_n 2, 1) := by decide +kernel
theorem dX4_reason_68 : decode cX4_reason 68 = .ok (.ifCond .eq 7, 3) := by decide +kernel
theorem dX4_reason_71 : decode cX4_reason 71 = .ok (.iconst 0, 1) := by decide +kernel
theorem dX4_reason_72 : decode cX4_reason 72 = .ok (.goto 4, 3) := by decide +kernel
theorem dX4_reason_75 : decode cX4_reason 75 = .ok (.iconst 4, 1) := by decide +kernel
theorem dX4_reason_76 : decode cX4_reason 76 = .ok (.ireturn, 1) := by decide +kernel
theorem dX4_why_0 : decode cX4_why 0 = .ok (.aload_n 0, 1) := by decide +kernel
theorem dX4_why_1 : decode cX4_why 1 = .ok (.iload_n 1, 1) := by decide +kernel
theorem dX4_why_2 : decode cX4_why 2 = .ok (.invokevirtual 89, 3) := by decide +kernel
theorem dX4_why_5 : decode cX4_why 5 = .ok (.ifCond .eq 11, 3) := by decide +kernel
theorem dX4_why_8 : decode cX4_why 8 = .ok (.aload_n 0, 1) := by decide +kernel
theorem dX4_why_9 : decode cX4_why 9 = .ok (.iload_n 1, 1) := by decide +kernel
theorem dX4_why_10 : decode cX4_why 10 = .ok (.invokevirtual 153, 3) := by decide +kernel
theorem dX4_why_13 : decode cX4_why 13 = .ok (.goto 5, 3) := by decide +kernel
theorem dX4_why_16 : decode cX4_why 16 = .ok (.ldc 61, 2) := by decide +kernel
theorem dX4_why_18 : decode cX4_why 18 = .ok (.ireturn, 1) := by decide +kernel
theorem dX4_copy_0 : decode cX4_copy 0 = .ok (.aload_n 0, 1) := by decide +kernel
theorem dX4_copy_1 : decode cX4_copy 1 = .ok (.iload_n 1, 1) := by decide +kernel
theorem dX4_copy_2 : decode cX4_copy 2 = .ok (.invokevirtual 89, 3) := by decide +kernel
theorem dX4_copy_5 : decode cX4_copy 5 = .ok (.ifCond .ne 6, 3) := by decide +kernel
theorem dX4_copy_8 : decode cX4_copy 8 = .ok (.ldc 61, 2) := by decide +kernel
theorem dX4_copy_10 : decode cX4_copy 10 = .ok (.ireturn, 1) := by decide +kernel
theorem dX4_copy_11 : decode cX4_copy 11 = .ok (.aload_n 0, 1) := by decide +kernel
theorem dX4_copy_12 : decode cX4_copy 12 = .ok (.iload_n 1, 1) := by decide +kernel
theorem dX4_copy_13 : decode cX4_copy 13 = .ok (.invokevirtual 153, 3) := by decide +kernel
theorem dX4_copy_16 : decode cX4_copy 16 = .ok (.ifCond .eq 6, 3) := by decide +kernel
theorem dX4_copy_19 : decode cX4_copy 19 = .ok (.ldc 117, 2) := by decide +kernel
theorem dX4_copy_21 : decode cX4_copy 21 = .ok (.ireturn, 1) := by decide +kernel
theorem dX4_copy_22 : decode cX4_copy 22 = .ok (.aload_n 0, 1) := by decide +kernel
theorem dX4_copy_23 : decode cX4_copy 23 = .ok (.invokevirtual 62, 3) := by decide +kernel
theorem dX4_copy_26 : decode cX4_copy 26 = .ok (.aload_n 0, 1) := by decide +kernel
theorem dX4_copy_27 : decode cX4_copy 27 = .ok (.iload_n 1, 1) := by decide +kernel
theorem dX4_copy_28 : decode cX4_copy 28 = .ok (.invokevirtual 150, 3) := by decide +kernel
theorem dX4_copy_31 : decode cX4_copy 31 = .ok (.istore_n 2, 1) := by decide +kernel
theorem dX4_copy_32 : decode cX4_copy 32 = .ok (.aload_n 0, 1) := by decide +kernel
theorem dX4_copy_33 : decode cX4_copy 33 = .ok (.bipush 14, 2) := by decide +kernel
theorem dX4_copy_35 : decode cX4_copy 35 = .ok (.invokevirtual 65, 3) := by decide +kernel
theorem dX4_copy_38 : decode cX4_copy 38 = .ok (.iconst 1, 1) := by decide +kernel
theorem dX4_copy_39 : decode cX4_copy 39 = .ok (.isub, 1) := by decide +kernel
theorem dX4_copy_40 : decode cX4_copy 40 = .ok (.istore_n 3, 1) := by decide +kernel
theorem dX4_copy_41 : decode cX4_copy 41 = .ok (.iconst 0, 1) := by decide +kernel
theorem dX4_copy_42 : decode cX4_copy 42 = .ok (.istore 4, 2) := by decide +kernel
theorem dX4_copy_44 : decode cX4_copy 44 = .ok (.iload 4, 2) := by decide +kernel
theorem dX4_copy_46 : decode cX4_copy 46 = .ok (.aload_n 0, 1) := by decide +kernel
theorem dX4_copy_47 : decode cX4_copy 47 = .ok (.iload_n 3, 1) := by decide +kernel
theorem dX4_copy_48 : decode cX4_copy 48 = .ok (.invokevirtual 93, 3) := by decide +kernel
theorem dX4_copy_51 : decode cX4_copy 51 = .ok (.if_icmp .ge 34, 3) := by decide +kernel
theorem dX4_copy_54 : decode cX4_copy 54 = .ok (.aload_n 0, 1) := by decide +kernel
theorem dX4_copy_55 : decode cX4_copy 55 = .ok (.getfield 7, 3) := by decide +kernel
theorem dX4_copy_58 : decode cX4_copy 58 = .ok (.iload_n 3, 1) := by decide +kernel
theorem dX4_copy_59 : decode cX4_copy 59 = .ok (.iload 4, 2) := by decide +kernel
theorem dX4_copy_61 : decode cX4_copy 61 = .ok (.invokestatic 104, 3) := by decide +kernel
theorem dX4_copy_64 : decode cX4_copy 64 = .ok (.iconst 4, 1) := by decide +kernel
theorem dX4_copy_65 : decode cX4_copy 65 = .ok (.iadd, 1) := by decide +kernel
theorem dX4_copy_66 : decode cX4_copy 66 = .ok (.laload, 1) := by decide +kernel
theorem dX4_copy_67 : decode cX4_copy 67 = .ok (.lconst 1, 1) := by decide +kernel
theorem dX4_copy_68 : decode cX4_copy 68 = .ok (.lcmp, 1) := by decide +kernel
theorem dX4_copy_69 : decode cX4_copy 69 = .ok (.ifCond .ne 10, 3) := by decide +kernel
theorem dX4_copy_72 : decode cX4_copy 72 = .ok (.aload_n 0, 1) := by decide +kernel
theorem dX4_copy_73 : decode cX4_copy 73 = .ok (.iload_n 3, 1) := by decide +kernel
theorem dX4_copy_74 : decode cX4_copy 74 = .ok (.iload 4, 2) := by decide +kernel
theorem dX4_copy_76 : decode cX4_copy 76 = .ok (.invokevirtual 156, 3) := by decide +kernel
theorem dX4_copy_79 : decode cX4_copy 79 = .ok (.iinc 4 1, 3) := by decide +kernel
theorem dX4_copy_82 : decode cX4_copy 82 = .ok (.goto (-38), 3) := by decide +kernel
theorem dX4_copy_85 : decode cX4_copy 85 = .ok (.iload_n 3, 1) := by decide +kernel
theorem dX4_copy_86 : decode cX4_copy 86 = .ok (.ireturn, 1) := by decide +kernel
theorem dX4_root_0 : decode cX4_root 0 = .ok (.iload_n 1, 1) := by decide +kernel
theorem dX4_root_1 : decode cX4_root 1 = .ok (.istore_n 2, 1) := by decide +kernel
theorem dX4_root_2 : decode cX4_root 2 = .ok (.aload_n 0, 1) := by decide +kernel
theorem dX4_root_3 : decode cX4_root 3 = .ok (.iload_n 2, 1) := by decide +kernel
theorem dX4_root_4 : decode cX4_root 4 = .ok (.iconst 1, 1) := by decide +kernel
theorem dX4_root_5 : decode cX4_root 5 = .ok (.invokestatic 85, 3) := by decide +kernel
theorem dX4_root_8 : decode cX4_root 8 = .ok (.invokevirtual 65, 3) := by decide +kernel
theorem dX4_root_11 : decode cX4_root 11 = .ok (.iconst (-1), 1) := by decide +kernel
theorem dX4_root_12 : decode cX4_root 12 = .ok (.if_icmp .eq 16, 3) := by decide +kernel
theorem dX4_root_15 : decode cX4_root 15 = .ok (.aload_n 0, 1) := by decide +kernel
theorem dX4_root_16 : decode cX4_root 16 = .ok (.iload_n 2, 1) := by decide +kernel
theorem dX4_root_17 : decode cX4_root 17 = .ok (.iconst 1, 1) := by decide +kernel
theorem dX4_root_18 : decode cX4_root 18 = .ok (.invokestatic 85, 3) := by decide +kernel
theorem dX4_root_21 : decode cX4_root 21 = .ok (.invokevirtual 65, 3) := by decide +kernel
theorem dX4_root_24 : decode cX4_root 24 = .ok (.istore_n 2, 1) := by decide +kernel
theorem dX4_root_25 : decode cX4_root 25 = .ok (.goto (-23), 3) := by decide +kernel
theorem dX4_root_28 : decode cX4_root 28 = .ok (.iload_n 2, 1) := by decide +kernel
theorem dX4_root_29 : decode cX4_root 29 = .ok (.ireturn, 1) := by decide +kernel
theorem dX4_steps_0 : decode cX4_steps 0 = .ok (.iconst 0, 1) := by decide +kernel
theorem dX4_steps_1 : decode cX4_steps 1 = .ok (.istore_n 2, 1) := by decide +kernel
theorem dX4_steps_2 : decode cX4_steps 2 = .ok (.iload_n 1, 1) := by decide +kernel
theorem dX4_steps_3 : decode cX4_steps 3 = .ok (.istore_n 3, 1) := by decide +kernel
theorem dX4_steps_4 : decode cX4_steps 4 = .ok (.aload_n 0, 1) := by decide +kernel
theorem dX4_steps_5 : decode cX4_steps 5 = .ok (.iload_n 3, 1) := by decide +kernel
theorem dX4_steps_6 : decode cX4_steps 6 = .ok (.iconst 1, 1) := by decide +kernel
theorem dX4_steps_7 : decode cX4_steps 7 = .ok (.invokestatic 85, 3) := by decide +kernel
theorem dX4_steps_10 : decode cX4_steps 10 = .ok (.invokevirtual 65, 3) := by decide +kernel
theorem dX4_steps_13 : decode cX4_steps 13 = .ok (.iconst (-1), 1) := by decide +kernel
theorem dX4_steps_14 : decode cX4_steps 14 = .ok (.if_icmp .eq 19, 3) := by decide +kernel
theorem dX4_steps_17 : decode cX4_steps 17 = .ok (.aload_n 0, 1) := by decide +kernel
theorem dX4_steps_18 : decode cX4_steps 18 = .ok (.iload_n 3, 1) := by decide +kernel
theorem dX4_steps_19 : decode cX4_steps 19 = .ok (.iconst 1, 1) := by decide +kernel
theorem dX4_steps_20 : decode cX4_steps 20 = .ok (.invokestatic 85, 3) := by decide +kernel
theorem dX4_steps_23 : decode cX4_steps 23 = .ok (.invokevirtual 65, 3) := by decide +kernel
theorem dX4_steps_26 : decode cX4_steps 26 = .ok (.istore_n 3, 1) := by decide +kernel
theorem dX4_steps_27 : decode cX4_steps 27 = .ok (.iinc 2 1, 3) := by decide +kernel
theorem dX4_steps_30 : decode cX4_steps 30 = .ok (.goto (-26), 3) := by decide +kernel
theorem dX4_steps_33 : decode cX4_steps 33 = .ok (.iload_n 2, 1) := by decide +kernel
theorem dX4_steps_34 : decode cX4_steps 34 = .ok (.ireturn, 1) := by decide +kernel
theorem dX4_lines_0 : decode cX4_lines 0 = .ok (.iconst 0, 1) := by decide +kernel
theorem dX4_lines_1 : decode cX4_lines 1 = .ok (.istore_n 3, 1) := by decide +kernel
theorem dX4_lines_2 : decode cX4_lines 2 = .ok (.iconst 0, 1) := by decide +kernel
theorem dX4_lines_3 : decode cX4_lines 3 = .ok (.istore 4, 2) := by decide +kernel
theorem dX4_lines_5 : decode cX4_lines 5 = .ok (.iconst 0, 1) := by decide +kernel
theorem dX4_lines_6 : decode cX4_lines 6 = .ok (.istore 5, 2) := by decide +kernel
theorem dX4_lines_8 : decode cX4_lines 8 = .ok (.iconst 0, 1) := by decide +kernel
theorem dX4_lines_9 : decode cX4_lines 9 = .ok (.istore 6, 2) := by decide +kernel
theorem dX4_lines_11 : decode cX4_lines 11 = .ok (.iload 6, 2) := by decide +kernel
theorem dX4_lines_13 : decode cX4_lines 13 = .ok (.aload_n 0, 1) := by decide +kernel
theorem dX4_lines_14 : decode cX4_lines 14 = .ok (.iload_n 1, 1) := by decide +kernel
theorem dX4_lines_15 : decode cX4_lines 15 = .ok (.invokevirtual 93, 3) := by decide +kernel
theorem dX4_lines_18 : decode cX4_lines 18 = .ok (.if_icmp .ge 70, 3) := by decide +kernel
theorem dX4_lines_21 : decode cX4_lines 21 = .ok (.aload_n 0, 1) := by decide +kernel
theorem dX4_lines_22 : decode cX4_lines 22 = .ok (.iload_n 1, 1) := by decide +kernel
theorem dX4_lines_23 : decode cX4_lines 23 = .ok (.iload 6, 2) := by decide +kernel
theorem dX4_lines_25 : decode cX4_lines 25 = .ok (.invokestatic 104, 3) := by decide +kernel
theorem dX4_lines_28 : decode cX4_lines 28 = .ok (.iconst 5, 1) := by decide +kernel
theorem dX4_lines_29 : decode cX4_lines 29 = .ok (.iadd, 1) := by decide +kernel
theorem dX4_lines_30 : decode cX4_lines 30 = .ok (.invokevirtual 65, 3) := by decide +kernel
theorem dX4_lines_33 : decode cX4_lines 33 = .ok (.istore 7, 2) := by decide +kernel
theorem dX4_lines_35 : decode cX4_lines 35 = .ok (.iload_n 3, 1) := by decide +kernel
theorem dX4_lines_36 : decode cX4_lines 36 = .ok (.iload 7, 2) := by decide +kernel
theorem dX4_lines_38 : decode cX4_lines 38 = .ok (.ifCond .le 7, 3) := by decide +kernel
theorem dX4_lines_41 : decode cX4_lines 41 = .ok (.iconst 1, 1) := by decide +kernel
theorem dX4_lines_42 : decode cX4_lines 42 = .ok (.goto 4, 3) := by decide +kernel
theorem dX4_lines_45 : decode cX4_lines 45 = .ok (.iconst 0, 1) := by decide +kernel
theorem dX4_lines_46 : decode cX4_lines 46 = .ok (.iadd, 1) := by decide +kernel
theorem dX4_lines_47 : decode cX4_lines 47 = .ok (.istore_n 3, 1) := by decide +kernel
theorem dX4_lines_48 : decode cX4_lines 48 = .ok (.iload 4, 2) := by decide +kernel
theorem dX4_lines_50 : decode cX4_lines 50 = .ok (.aload_n 0, 1) := by decide +kernel
theorem dX4_lines_51 : decode cX4_lines 51 = .ok (.iload_n 1, 1) := by decide +kernel
theorem dX4_lines_52 : decode cX4_lines 52 = .ok (.iload 6, 2) := by decide +kernel
theorem dX4_lines_54 : decode cX4_lines 54 = .ok (.invokestatic 104, 3) := by decide +kernel
theorem dX4_lines_57 : decode cX4_lines 57 = .ok (.bipush 6, 2) := by decide +kernel
theorem dX4_lines_59 : decode cX4_lines 59 = .ok (.iadd, 1) := by decide +kernel
theorem dX4_lines_60 : decode cX4_lines 60 = .ok (.invokevirtual 65, 3) := by decide +kernel
theorem dX4_lines_63 : decode cX4_lines 63 = .ok (.iadd, 1) := by decide +kernel
theorem dX4_lines_64 : decode cX4_lines 64 = .ok (.istore 4, 2) := by decide +kernel
theorem dX4_lines_66 : decode cX4_lines 66 = .ok (.iload 7, 2) := by decide +kernel
theorem dX4_lines_68 : decode cX4_lines 68 = .ok (.iload 5, 2) := by decide +kernel
theorem dX4_lines_70 : decode cX4_lines 70 = .ok (.if_icmp .le 8, 3) := by decide +kernel
theorem dX4_lines_73 : decode cX4_lines 73 = .ok (.iload 7, 2) := by decide +kernel
theorem dX4_lines_75 : decode cX4_lines 75 = .ok (.goto 5, 3) := by decide +kernel
theorem dX4_lines_78 : decode cX4_lines 78 = .ok (.iload 5, 2) := by decide +kernel
theorem dX4_lines_80 : decode cX4_lines 80 = .ok (.istore 5, 2) := by decide +kernel
theorem dX4_lines_82 : decode cX4_lines 82 = .ok (.iinc 6 1, 3) := by decide +kernel
theorem dX4_lines_85 : decode cX4_lines 85 = .ok (.goto (-74), 3) := by decide +kernel
theorem dX4_lines_88 : decode cX4_lines 88 = .ok (.iload_n 2, 1) := by decide +kernel
theorem dX4_lines_89 : decode cX4_lines 89 = .ok (.bipush 6, 2) := by decide +kernel
theorem dX4_lines_91 : decode cX4_lines 91 = .ok (.if_icmp .ne 7, 3) := by decide +kernel
theorem dX4_lines_94 : decode cX4_lines 94 = .ok (.iload_n 3, 1) := by decide +kernel
theorem dX4_lines_95 : decode cX4_lines 95 = .ok (.goto 16, 3) := by decide +kernel
theorem dX4_lines_98 : decode cX4_lines 98 = .ok (.iload_n 2, 1) := by decide +kernel
theorem dX4_lines_99 : decode cX4_lines 99 = .ok (.bipush 7, 2) := by decide +kernel
theorem dX4_lines_101 : decode cX4_lines 101 = .ok (.if_icmp .ne 8, 3) := by decide +kernel
theorem dX4_lines_104 : decode cX4_lines 104 = .ok (.iload 4, 2) := by decide +kernel
theorem dX4_lines_106 : decode cX4_lines 106 = .ok (.goto 5, 3) := by decide +kernel
theorem dX4_lines_109 : decode cX4_lines 109 = .ok (.iload 5, 2) := by decide +kernel
theorem dX4_lines_111 : decode cX4_lines 111 = .ok (.ireturn, 1) := by decide +kernel
theorem dX4_offBoard_0 : decode cX4_offBoard 0 = .ok (.iconst 0, 1) := by decide +kernel
theorem dX4_offBoard_1 : decode cX4_offBoard 1 = .ok (.istore_n 2, 1) := by decide +kernel
theorem dX4_offBoard_2 : decode cX4_offBoard 2 = .ok (.iconst 0, 1) := by decide +kernel
theorem dX4_offBoard_3 : decode cX4_offBoard 3 = .ok (.istore_n 3, 1) := by decide +kernel
theorem dX4_offBoard_4 : decode cX4_offBoard 4 = .ok (.iload_n 3, 1) := by decide +kernel
theorem dX4_offBoard_5 : decode cX4_offBoard 5 = .ok (.aload_n 0, 1) := by decide +kernel
theorem dX4_offBoard_6 : decode cX4_offBoard 6 = .ok (.iload_n 1, 1) := by decide +kernel
theorem dX4_offBoard_7 : decode cX4_offBoard 7 = .ok (.invokevirtual 93, 3) := by decide +kernel
theorem dX4_offBoard_10 : decode cX4_offBoard 10 = .ok (.if_icmp .ge 26, 3) := by decide +kernel
theorem dX4_offBoard_13 : decode cX4_offBoard 13 = .ok (.iload_n 2, 1) := by decide +kernel
theorem dX4_offBoard_14 : decode cX4_offBoard 14 = .ok (.aload_n 0, 1) := by decide +kernel
theorem dX4_offBoard_15 : decode cX4_offBoard 15 = .ok (.iload_n 1, 1) := by decide +kernel
theorem dX4_offBoard_16 : decode cX4_offBoard 16 = .ok (.iload_n 3, 1) := by decide +kernel
theorem dX4_offBoard_17 : decode cX4_offBoard 17 = .ok (.invokevirtual 138, 3) := by decide +kernel
theorem dX4_offBoard_20 : decode cX4_offBoard 20 = .ok (.ifCond .eq 7, 3) := by decide +kernel
theorem dX4_offBoard_23 : decode cX4_offBoard 23 = .ok (.iconst 0, 1) := by decide +kernel
theorem dX4_offBoard_24 : decode cX4_offBoard 24 = .ok (.goto 4, 3) := by decide +kernel
theorem dX4_offBoard_27 : decode cX4_offBoard 27 = .ok (.iconst 1, 1) := by decide +kernel
theorem dX4_offBoard_28 : decode cX4_offBoard 28 = .ok (.iadd, 1) := by decide +kernel
theorem dX4_offBoard_29 : decode cX4_offBoard 29 = .ok (.istore_n 2, 1) := by decide +kernel
theorem dX4_offBoard_30 : decode cX4_offBoard 30 = .ok (.iinc 3 1, 3) := by decide +kernel
theorem dX4_offBoard_33 : decode cX4_offBoard 33 = .ok (.goto (-29), 3) := by decide +kernel
theorem dX4_offBoard_36 : decode cX4_offBoard 36 = .ok (.iload_n 2, 1) := by decide +kernel
theorem dX4_offBoard_37 : decode cX4_offBoard 37 = .ok (.ireturn, 1) := by decide +kernel
theorem dX4_ratioOf_0 : decode cX4_ratioOf 0 = .ok (.aload_n 0, 1) := by decide +kernel
theorem dX4_ratioOf_1 : decode cX4_ratioOf 1 = .ok (.getfield 7, 3) := by decide +kernel
theorem dX4_ratioOf_4 : decode cX4_ratioOf 4 = .ok (.iload_n 1, 1) := by decide +kernel
theorem dX4_ratioOf_5 : decode cX4_ratioOf 5 = .ok (.iconst 2, 1) := by decide +kernel
theorem dX4_ratioOf_6 : decode cX4_ratioOf 6 = .ok (.invokestatic 85, 3) := by decide +kernel
theorem dX4_ratioOf_9 : decode cX4_ratioOf 9 = .ok (.laload, 1) := by decide +kernel
theorem dX4_ratioOf_10 : decode cX4_ratioOf 10 = .ok (.l2f, 1) := by decide +kernel
theorem dX4_ratioOf_11 : decode cX4_ratioOf 11 = .ok (.aload_n 0, 1) := by decide +kernel
theorem dX4_ratioOf_12 : decode cX4_ratioOf 12 = .ok (.getfield 7, 3) := by decide +kernel
theorem dX4_ratioOf_15 : decode cX4_ratioOf 15 = .ok (.iload_n 1, 1) := by decide +kernel
theorem dX4_ratioOf_16 : decode cX4_ratioOf 16 = .ok (.iconst 3, 1) := by decide +kernel
theorem dX4_ratioOf_17 : decode cX4_ratioOf 17 = .ok (.invokestatic 85, 3) := by decide +kernel
theorem dX4_ratioOf_20 : decode cX4_ratioOf 20 = .ok (.laload, 1) := by decide +kernel
theorem dX4_ratioOf_21 : decode cX4_ratioOf 21 = .ok (.l2f, 1) := by decide +kernel
theorem dX4_ratioOf_22 : decode cX4_ratioOf 22 = .ok (.fdiv, 1) := by decide +kernel
theorem dX4_ratioOf_23 : decode cX4_ratioOf 23 = .ok (.freturn, 1) := by decide +kernel
theorem dX4_drawingOf_0 : decode cX4_drawingOf 0 = .ok (.iload_n 2, 1) := by decide +kernel
theorem dX4_drawingOf_1 : decode cX4_drawingOf 1 = .ok (.tableswitch 148 0 11 #[63, 69, 97, 103, 109, 109, 148, 148, 148, 123, 129, 138], 63) := by decide +kernel
theorem dX4_drawingOf_64 : decode cX4_drawingOf 64 = .ok (.aload_n 0, 1) := by decide +kernel
theorem dX4_drawingOf_65 : decode cX4_drawingOf 65 = .ok (.iload_n 1, 1) := by decide +kernel
theorem dX4_drawingOf_66 : decode cX4_drawingOf 66 = .ok (.invokevirtual 93, 3) := by decide +kernel
theorem dX4_drawingOf_69 : decode cX4_drawingOf 69 = .ok (.ireturn, 1) := by decide +kernel
theorem dX4_drawingOf_70 : decode cX4_drawingOf 70 = .ok (.aload_n 0, 1) := by decide +kernel
theorem dX4_drawingOf_71 : decode cX4_drawingOf 71 = .ok (.iload_n 1, 1) := by decide +kernel
theorem dX4_drawingOf_72 : decode cX4_drawingOf 72 = .ok (.iconst 1, 1) := by decide +kernel
theorem dX4_drawingOf_73 : decode cX4_drawingOf 73 = .ok (.invokestatic 85, 3) := by decide +kernel
theorem dX4_drawingOf_76 : decode cX4_drawingOf 76 = .ok (.invokevirtual 65, 3) := by decide +kernel
theorem dX4_drawingOf_79 : decode cX4_drawingOf 79 = .ok (.iconst (-1), 1) := by decide +kernel
theorem dX4_drawingOf_80 : decode cX4_drawingOf 80 = .ok (.if_icmp .ne 8, 3) := by decide +kernel
theorem dX4_drawingOf_83 : decode cX4_drawingOf 83 = .ok (.ldc 160, 2) := by decide +kernel
theorem dX4_drawingOf_85 : decode cX4_drawingOf 85 = .ok (.goto 12, 3) := by decide +kernel
theorem dX4_drawingOf_88 : decode cX4_drawingOf 88 = .ok (.aload_n 0, 1) := by decide +kernel
theorem dX4_drawingOf_89 : decode cX4_drawingOf 89 = .ok (.iload_n 1, 1) := by decide +kernel
theorem dX4_drawingOf_90 : decode cX4_drawingOf 90 = .ok (.iconst 1, 1) := by decide +kernel
theorem dX4_drawingOf_91 : decode cX4_drawingOf 91 = .ok (.invokestatic 85, 3) := by decide +kernel
theorem dX4_drawingOf_94 : decode cX4_drawingOf 94 = .ok (.invokevirtual 65, 3) := by decide +kernel
theorem dX4_drawingOf_97 : decode cX4_drawingOf 97 = .ok (.ireturn, 1) := by decide +kernel
theorem dX4_drawingOf_98 : decode cX4_drawingOf 98 = .ok (.aload_n 0, 1) := by decide +kernel
theorem dX4_drawingOf_99 : decode cX4_drawingOf 99 = .ok (.iload_n 1, 1) := by decide +kernel
theorem dX4_drawingOf_100 : decode cX4_drawingOf 100 = .ok (.invokevirtual 161, 3) := by decide +kernel
theorem dX4_drawingOf_103 : decode cX4_drawingOf 103 = .ok (.ireturn, 1) := by decide +kernel
theorem dX4_drawingOf_104 : decode cX4_drawingOf 104 = .ok (.aload_n 0, 1) := by decide +kernel
theorem dX4_drawingOf_105 : decode cX4_drawingOf 105 = .ok (.iload_n 1, 1) := by decide +kernel
theorem dX4_drawingOf_106 : decode cX4_drawingOf 106 = .ok (.invokevirtual 164, 3) := by decide +kernel
theorem dX4_drawingOf_109 : decode cX4_drawingOf 109 = .ok (.ireturn, 1) := by decide +kernel
theorem dX4_drawingOf_110 : decode cX4_drawingOf 110 = .ok (.aload_n 0, 1) := by decide +kernel
theorem dX4_drawingOf_111 : decode cX4_drawingOf 111 = .ok (.iload_n 1, 1) := by decide +kernel
theorem dX4_drawingOf_112 : decode cX4_drawingOf 112 = .ok (.iconst 4, 1) := by decide +kernel
theorem dX4_drawingOf_113 : decode cX4_drawingOf 113 = .ok (.iload_n 2, 1) := by decide +kernel
theorem dX4_drawingOf_114 : decode cX4_drawingOf 114 = .ok (.iadd, 1) := by decide +kernel
theorem dX4_drawingOf_115 : decode cX4_drawingOf 115 = .ok (.iconst 4, 1) := by decide +kernel
theorem dX4_drawingOf_116 : decode cX4_drawingOf 116 = .ok (.isub, 1) := by decide +kernel
theorem dX4_drawingOf_117 : decode cX4_drawingOf 117 = .ok (.invokestatic 85, 3) := by decide +kernel
theorem dX4_drawingOf_120 : decode cX4_drawingOf 120 = .ok (.invokevirtual 65, 3) := by decide +kernel
theorem dX4_drawingOf_123 : decode cX4_drawingOf 123 = .ok (.ireturn, 1) := by decide +kernel
theorem dX4_drawingOf_124 : decode cX4_drawingOf 124 = .ok (.aload_n 0, 1) := by decide +kernel
theorem dX4_drawingOf_125 : decode cX4_drawingOf 125 = .ok (.iload_n 1, 1) := by decide +kernel
theorem dX4_drawingOf_126 : decode cX4_drawingOf 126 = .ok (.invokevirtual 167, 3) := by decide +kernel
theorem dX4_drawingOf_129 : decode cX4_drawingOf 129 = .ok (.ireturn, 1) := by decide +kernel
theorem dX4_drawingOf_130 : decode cX4_drawingOf 130 = .ok (.aload_n 0, 1) := by decide +kernel
theorem dX4_drawingOf_131 : decode cX4_drawingOf 131 = .ok (.iload_n 1, 1) := by decide +kernel
theorem dX4_drawingOf_132 : decode cX4_drawingOf 132 = .ok (.invokevirtual 170, 3) := by decide +kernel
theorem dX4_drawingOf_135 : decode cX4_drawingOf 135 = .ok (.invokestatic 174, 3) := by decide +kernel
theorem dX4_drawingOf_138 : decode cX4_drawingOf 138 = .ok (.ireturn, 1) := by decide +kernel
theorem dX4_drawingOf_139 : decode cX4_drawingOf 139 = .ok (.aload_n 0, 1) := by decide +kernel
theorem dX4_drawingOf_140 : decode cX4_drawingOf 140 = .ok (.iload_n 1, 1) := by decide +kernel
theorem dX4_drawingOf_141 : decode cX4_drawingOf 141 = .ok (.invokevirtual 170, 3) := by decide +kernel
theorem dX4_drawingOf_144 : decode cX4_drawingOf 144 = .ok (.ldc 180, 2) := by decide +kernel
theorem dX4_drawingOf_146 : decode cX4_drawingOf 146 = .ok (.fmul, 1) := by decide +kernel
theorem dX4_drawingOf_147 : decode cX4_drawingOf 147 = .ok (.f2i, 1) := by decide +kernel
theorem dX4_drawingOf_148 : decode cX4_drawingOf 148 = .ok (.ireturn, 1) := by decide +kernel
theorem dX4_drawingOf_149 : decode cX4_drawingOf 149 = .ok (.aload_n 0, 1) := by decide +kernel
theorem dX4_drawingOf_150 : decode cX4_drawingOf 150 = .ok (.iload_n 1, 1) := by decide +kernel
theorem dX4_drawingOf_151 : decode cX4_drawingOf 151 = .ok (.iload_n 2, 1) := by decide +kernel
theorem dX4_drawingOf_152 : decode cX4_drawingOf 152 = .ok (.invokevirtual 181, 3) := by decide +kernel
theorem dX4_drawingOf_155 : decode cX4_drawingOf 155 = .ok (.ireturn, 1) := by decide +kernel
theorem dX4_drawing_0 : decode cX4_drawing 0 = .ok (.aload_n 0, 1) := by decide +kernel
theorem dX4_drawing_1 : decode cX4_drawing 1 = .ok (.iload_n 1, 1) := by decide +kernel
theorem dX4_drawing_2 : decode cX4_drawing 2 = .ok (.invokevirtual 89, 3) := by decide +kernel
theorem dX4_drawing_5 : decode cX4_drawing 5 = .ok (.ifCond .eq 22, 3) := by decide +kernel
theorem dX4_drawing_8 : decode cX4_drawing 8 = .ok (.iload_n 2, 1) := by decide +kernel
theorem dX4_drawing_9 : decode cX4_drawing 9 = .ok (.iconst 0, 1) := by decide +kernel
theorem dX4_drawing_10 : decode cX4_drawing 10 = .ok (.bipush 11, 2) := by decide +kernel
theorem dX4_drawing_12 : decode cX4_drawing 12 = .ok (.invokestatic 57, 3) := by decide +kernel
theorem dX4_drawing_15 : decode cX4_drawing 15 = .ok (.ifCond .eq 12, 3) := by decide +kernel
theorem dX4_drawing_18 : decode cX4_drawing 18 = .ok (.aload_n 0, 1) := by decide +kernel
theorem dX4_drawing_19 : decode cX4_drawing 19 = .ok (.iload_n 1, 1) := by decide +kernel
