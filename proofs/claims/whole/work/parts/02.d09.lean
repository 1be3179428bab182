theorem dX4_drawing_20 : decode cX4_drawing 20 = .ok (.iload_n 2, 1) := by decide +kernel
theorem dX4_drawing_21 : decode cX4_drawing 21 = .ok (.invokevirtual 184, 3) := by decide +kernel
theorem dX4_drawing_24 : decode cX4_drawing 24 = .ok (.goto 5, 3) := by decide +kernel
theorem dX4_drawing_27 : decode cX4_drawing 27 = .ok (.ldc 61, 2) := by decide +kernel
theorem dX4_drawing_29 : decode cX4_drawing 29 = .ok (.ireturn, 1) := by decide +kernel
theorem dX4_ratio_0 : decode cX4_ratio 0 = .ok (.aload_n 0, 1) := by decide +kernel
theorem dX4_ratio_1 : decode cX4_ratio 1 = .ok (.iload_n 1, 1) := by decide +kernel
theorem dX4_ratio_2 : decode cX4_ratio 2 = .ok (.invokevirtual 89, 3) := by decide +kernel
theorem dX4_ratio_5 : decode cX4_ratio 5 = .ok (.ifCond .eq 26, 3) := by decide +kernel
theorem dX4_ratio_8 : decode cX4_ratio 8 = .ok (.iload_n 2, 1) := by decide +kernel
theorem dX4_ratio_9 : decode cX4_ratio 9 = .ok (.iconst 0, 1) := by decide +kernel
theorem dX4_ratio_10 : decode cX4_ratio 10 = .ok (.iconst 1, 1) := by decide +kernel
theorem dX4_ratio_11 : decode cX4_ratio 11 = .ok (.invokestatic 57, 3) := by decide +kernel
theorem dX4_ratio_14 : decode cX4_ratio 14 = .ok (.ifCond .eq 17, 3) := by decide +kernel
theorem dX4_ratio_17 : decode cX4_ratio 17 = .ok (.aload_n 0, 1) := by decide +kernel
theorem dX4_ratio_18 : decode cX4_ratio 18 = .ok (.iload_n 1, 1) := by decide +kernel
theorem dX4_ratio_19 : decode cX4_ratio 19 = .ok (.iconst 2, 1) := by decide +kernel
theorem dX4_ratio_20 : decode cX4_ratio 20 = .ok (.iload_n 2, 1) := by decide +kernel
theorem dX4_ratio_21 : decode cX4_ratio 21 = .ok (.iadd, 1) := by decide +kernel
theorem dX4_ratio_22 : decode cX4_ratio 22 = .ok (.invokestatic 85, 3) := by decide +kernel
theorem dX4_ratio_25 : decode cX4_ratio 25 = .ok (.invokevirtual 65, 3) := by decide +kernel
theorem dX4_ratio_28 : decode cX4_ratio 28 = .ok (.goto 5, 3) := by decide +kernel
theorem dX4_ratio_31 : decode cX4_ratio 31 = .ok (.ldc 61, 2) := by decide +kernel
theorem dX4_ratio_33 : decode cX4_ratio 33 = .ok (.ireturn, 1) := by decide +kernel
theorem dX4_pointInfo_0 : decode cX4_pointInfo 0 = .ok (.aload_n 0, 1) := by decide +kernel
theorem dX4_pointInfo_1 : decode cX4_pointInfo 1 = .ok (.iload_n 1, 1) := by decide +kernel
theorem dX4_pointInfo_2 : decode cX4_pointInfo 2 = .ok (.iload_n 2, 1) := by decide +kernel
theorem dX4_pointInfo_3 : decode cX4_pointInfo 3 = .ok (.invokevirtual 187, 3) := by decide +kernel
theorem dX4_pointInfo_6 : decode cX4_pointInfo 6 = .ok (.ifCond .eq 28, 3) := by decide +kernel
theorem dX4_pointInfo_9 : decode cX4_pointInfo 9 = .ok (.iload_n 3, 1) := by decide +kernel
theorem dX4_pointInfo_10 : decode cX4_pointInfo 10 = .ok (.iconst 0, 1) := by decide +kernel
theorem dX4_pointInfo_11 : decode cX4_pointInfo 11 = .ok (.bipush 6, 2) := by decide +kernel
theorem dX4_pointInfo_13 : decode cX4_pointInfo 13 = .ok (.invokestatic 57, 3) := by decide +kernel
theorem dX4_pointInfo_16 : decode cX4_pointInfo 16 = .ok (.ifCond .eq 18, 3) := by decide +kernel
theorem dX4_pointInfo_19 : decode cX4_pointInfo 19 = .ok (.aload_n 0, 1) := by decide +kernel
theorem dX4_pointInfo_20 : decode cX4_pointInfo 20 = .ok (.getfield 7, 3) := by decide +kernel
theorem dX4_pointInfo_23 : decode cX4_pointInfo 23 = .ok (.iload_n 1, 1) := by decide +kernel
theorem dX4_pointInfo_24 : decode cX4_pointInfo 24 = .ok (.iload_n 2, 1) := by decide +kernel
theorem dX4_pointInfo_25 : decode cX4_pointInfo 25 = .ok (.invokestatic 104, 3) := by decide +kernel
theorem dX4_pointInfo_28 : decode cX4_pointInfo 28 = .ok (.iload_n 3, 1) := by decide +kernel
theorem dX4_pointInfo_29 : decode cX4_pointInfo 29 = .ok (.iadd, 1) := by decide +kernel
theorem dX4_pointInfo_30 : decode cX4_pointInfo 30 = .ok (.laload, 1) := by decide +kernel
theorem dX4_pointInfo_31 : decode cX4_pointInfo 31 = .ok (.goto 6, 3) := by decide +kernel
theorem dX4_pointInfo_34 : decode cX4_pointInfo 34 = .ok (.ldc2_w 190, 3) := by decide +kernel
theorem dX4_pointInfo_37 : decode cX4_pointInfo 37 = .ok (.lreturn, 1) := by decide +kernel
theorem dX4_atOnce_0 : decode cX4_atOnce 0 = .ok (.aload_n 0, 1) := by decide +kernel
theorem dX4_atOnce_1 : decode cX4_atOnce 1 = .ok (.iload_n 1, 1) := by decide +kernel
theorem dX4_atOnce_2 : decode cX4_atOnce 2 = .ok (.iload_n 2, 1) := by decide +kernel
theorem dX4_atOnce_3 : decode cX4_atOnce 3 = .ok (.invokevirtual 187, 3) := by decide +kernel
theorem dX4_atOnce_6 : decode cX4_atOnce 6 = .ok (.ifCond .eq 12, 3) := by decide +kernel
theorem dX4_atOnce_9 : decode cX4_atOnce 9 = .ok (.iload_n 3, 1) := by decide +kernel
theorem dX4_atOnce_10 : decode cX4_atOnce 10 = .ok (.iconst 0, 1) := by decide +kernel
theorem dX4_atOnce_11 : decode cX4_atOnce 11 = .ok (.iconst 3, 1) := by decide +kernel
theorem dX4_atOnce_12 : decode cX4_atOnce 12 = .ok (.invokestatic 57, 3) := by decide +kernel
theorem dX4_atOnce_15 : decode cX4_atOnce 15 = .ok (.ifCond .ne 7, 3) := by decide +kernel
theorem dX4_atOnce_18 : decode cX4_atOnce 18 = .ok (.ldc2_w 190, 3) := by decide +kernel
theorem dX4_atOnce_21 : decode cX4_atOnce 21 = .ok (.lreturn, 1) := by decide +kernel
theorem dX4_atOnce_22 : decode cX4_atOnce 22 = .ok (.iload_n 3, 1) := by decide +kernel
theorem dX4_atOnce_23 : decode cX4_atOnce 23 = .ok (.iconst 2, 1) := by decide +kernel
theorem dX4_atOnce_24 : decode cX4_atOnce 24 = .ok (.idiv, 1) := by decide +kernel
theorem dX4_atOnce_25 : decode cX4_atOnce 25 = .ok (.istore 4, 2) := by decide +kernel
theorem dX4_atOnce_27 : decode cX4_atOnce 27 = .ok (.iload_n 1, 1) := by decide +kernel
theorem dX4_atOnce_28 : decode cX4_atOnce 28 = .ok (.bipush 6, 2) := by decide +kernel
theorem dX4_atOnce_30 : decode cX4_atOnce 30 = .ok (.iconst 2, 1) := by decide +kernel
theorem dX4_atOnce_31 : decode cX4_atOnce 31 = .ok (.iload 4, 2) := by decide +kernel
theorem dX4_atOnce_33 : decode cX4_atOnce 33 = .ok (.imul, 1) := by decide +kernel
theorem dX4_atOnce_34 : decode cX4_atOnce 34 = .ok (.iadd, 1) := by decide +kernel
theorem dX4_atOnce_35 : decode cX4_atOnce 35 = .ok (.invokestatic 85, 3) := by decide +kernel
theorem dX4_atOnce_38 : decode cX4_atOnce 38 = .ok (.istore 5, 2) := by decide +kernel
theorem dX4_atOnce_40 : decode cX4_atOnce 40 = .ok (.aload_n 0, 1) := by decide +kernel
theorem dX4_atOnce_41 : decode cX4_atOnce 41 = .ok (.getfield 7, 3) := by decide +kernel
theorem dX4_atOnce_44 : decode cX4_atOnce 44 = .ok (.aload_n 0, 1) := by decide +kernel
theorem dX4_atOnce_45 : decode cX4_atOnce 45 = .ok (.iload_n 1, 1) := by decide +kernel
theorem dX4_atOnce_46 : decode cX4_atOnce 46 = .ok (.invokevirtual 161, 3) := by decide +kernel
theorem dX4_atOnce_49 : decode cX4_atOnce 49 = .ok (.iload_n 2, 1) := by decide +kernel
theorem dX4_atOnce_50 : decode cX4_atOnce 50 = .ok (.invokestatic 104, 3) := by decide +kernel
theorem dX4_atOnce_53 : decode cX4_atOnce 53 = .ok (.iconst 2, 1) := by decide +kernel
theorem dX4_atOnce_54 : decode cX4_atOnce 54 = .ok (.iload 4, 2) := by decide +kernel
theorem dX4_atOnce_56 : decode cX4_atOnce 56 = .ok (.imul, 1) := by decide +kernel
theorem dX4_atOnce_57 : decode cX4_atOnce 57 = .ok (.iadd, 1) := by decide +kernel
theorem dX4_atOnce_58 : decode cX4_atOnce 58 = .ok (.laload, 1) := by decide +kernel
theorem dX4_atOnce_59 : decode cX4_atOnce 59 = .ok (.lstore 6, 2) := by decide +kernel
theorem dX4_atOnce_61 : decode cX4_atOnce 61 = .ok (.aload_n 0, 1) := by decide +kernel
theorem dX4_atOnce_62 : decode cX4_atOnce 62 = .ok (.getfield 7, 3) := by decide +kernel
theorem dX4_atOnce_65 : decode cX4_atOnce 65 = .ok (.iload_n 1, 1) := by decide +kernel
theorem dX4_atOnce_66 : decode cX4_atOnce 66 = .ok (.iconst 4, 1) := by decide +kernel
theorem dX4_atOnce_67 : decode cX4_atOnce 67 = .ok (.iload 4, 2) := by decide +kernel
theorem dX4_atOnce_69 : decode cX4_atOnce 69 = .ok (.iadd, 1) := by decide +kernel
theorem dX4_atOnce_70 : decode cX4_atOnce 70 = .ok (.invokestatic 85, 3) := by decide +kernel
theorem dX4_atOnce_73 : decode cX4_atOnce 73 = .ok (.laload, 1) := by decide +kernel
theorem dX4_atOnce_74 : decode cX4_atOnce 74 = .ok (.lload 6, 2) := by decide +kernel
theorem dX4_atOnce_76 : decode cX4_atOnce 76 = .ok (.lmul, 1) := by decide +kernel
theorem dX4_atOnce_77 : decode cX4_atOnce 77 = .ok (.lstore 8, 2) := by decide +kernel
theorem dX4_atOnce_79 : decode cX4_atOnce 79 = .ok (.aload_n 0, 1) := by decide +kernel
theorem dX4_atOnce_80 : decode cX4_atOnce 80 = .ok (.aload_n 0, 1) := by decide +kernel
theorem dX4_atOnce_81 : decode cX4_atOnce 81 = .ok (.getfield 7, 3) := by decide +kernel
theorem dX4_atOnce_84 : decode cX4_atOnce 84 = .ok (.iload 5, 2) := by decide +kernel
theorem dX4_atOnce_86 : decode cX4_atOnce 86 = .ok (.laload, 1) := by decide +kernel
theorem dX4_atOnce_87 : decode cX4_atOnce 87 = .ok (.aload_n 0, 1) := by decide +kernel
theorem dX4_atOnce_88 : decode cX4_atOnce 88 = .ok (.getfield 7, 3) := by decide +kernel
theorem dX4_atOnce_91 : decode cX4_atOnce 91 = .ok (.iload 5, 2) := by decide +kernel
theorem dX4_atOnce_93 : decode cX4_atOnce 93 = .ok (.iconst 1, 1) := by decide +kernel
theorem dX4_atOnce_94 : decode cX4_atOnce 94 = .ok (.iadd, 1) := by decide +kernel
theorem dX4_atOnce_95 : decode cX4_atOnce 95 = .ok (.laload, 1) := by decide +kernel
theorem dX4_atOnce_96 : decode cX4_atOnce 96 = .ok (.lload 8, 2) := by decide +kernel
theorem dX4_atOnce_98 : decode cX4_atOnce 98 = .ok (.aload_n 0, 1) := by decide +kernel
theorem dX4_atOnce_99 : decode cX4_atOnce 99 = .ok (.getfield 7, 3) := by decide +kernel
theorem dX4_atOnce_102 : decode cX4_atOnce 102 = .ok (.iload_n 1, 1) := by decide +kernel
theorem dX4_atOnce_103 : decode cX4_atOnce 103 = .ok (.iconst 2, 1) := by decide +kernel
theorem dX4_atOnce_104 : decode cX4_atOnce 104 = .ok (.invokestatic 85, 3) := by decide +kernel
theorem dX4_atOnce_107 : decode cX4_atOnce 107 = .ok (.laload, 1) := by decide +kernel
theorem dX4_atOnce_108 : decode cX4_atOnce 108 = .ok (.aload_n 0, 1) := by decide +kernel
theorem dX4_atOnce_109 : decode cX4_atOnce 109 = .ok (.getfield 7, 3) := by decide +kernel
theorem dX4_atOnce_112 : decode cX4_atOnce 112 = .ok (.iload_n 1, 1) := by decide +kernel
theorem dX4_atOnce_113 : decode cX4_atOnce 113 = .ok (.iconst 3, 1) := by decide +kernel
theorem dX4_atOnce_114 : decode cX4_atOnce 114 = .ok (.invokestatic 85, 3) := by decide +kernel
theorem dX4_atOnce_117 : decode cX4_atOnce 117 = .ok (.laload, 1) := by decide +kernel
theorem dX4_atOnce_118 : decode cX4_atOnce 118 = .ok (.invokevirtual 107, 3) := by decide +kernel
theorem dX4_atOnce_121 : decode cX4_atOnce 121 = .ok (.iload_n 3, 1) := by decide +kernel
theorem dX4_atOnce_122 : decode cX4_atOnce 122 = .ok (.iconst 2, 1) := by decide +kernel
theorem dX4_atOnce_123 : decode cX4_atOnce 123 = .ok (.irem, 1) := by decide +kernel
theorem dX4_atOnce_124 : decode cX4_atOnce 124 = .ok (.ifCond .ne 10, 3) := by decide +kernel
theorem dX4_atOnce_127 : decode cX4_atOnce 127 = .ok (.aload_n 0, 1) := by decide +kernel
theorem dX4_atOnce_128 : decode cX4_atOnce 128 = .ok (.getfield 46, 3) := by decide +kernel
theorem dX4_atOnce_131 : decode cX4_atOnce 131 = .ok (.goto 7, 3) := by decide +kernel
theorem dX4_atOnce_134 : decode cX4_atOnce 134 = .ok (.aload_n 0, 1) := by decide +kernel
theorem dX4_atOnce_135 : decode cX4_atOnce 135 = .ok (.getfield 50, 3) := by decide +kernel
theorem dX4_atOnce_138 : decode cX4_atOnce 138 = .ok (.lreturn, 1) := by decide +kernel
theorem dX4_alike_0 : decode cX4_alike 0 = .ok (.aload_n 0, 1) := by decide +kernel
theorem dX4_alike_1 : decode cX4_alike 1 = .ok (.iload_n 1, 1) := by decide +kernel
theorem dX4_alike_2 : decode cX4_alike 2 = .ok (.invokevirtual 89, 3) := by decide +kernel
theorem dX4_alike_5 : decode cX4_alike 5 = .ok (.ifCond .eq 11, 3) := by decide +kernel
theorem dX4_alike_8 : decode cX4_alike 8 = .ok (.aload_n 0, 1) := by decide +kernel
theorem dX4_alike_9 : decode cX4_alike 9 = .ok (.iload_n 2, 1) := by decide +kernel
theorem dX4_alike_10 : decode cX4_alike 10 = .ok (.invokevirtual 89, 3) := by decide +kernel
theorem dX4_alike_13 : decode cX4_alike 13 = .ok (.ifCond .ne 6, 3) := by decide +kernel
theorem dX4_alike_16 : decode cX4_alike 16 = .ok (.ldc 61, 2) := by decide +kernel
theorem dX4_alike_18 : decode cX4_alike 18 = .ok (.ireturn, 1) := by decide +kernel
theorem dX4_alike_19 : decode cX4_alike 19 = .ok (.iconst 0, 1) := by decide +kernel
theorem dX4_alike_20 : decode cX4_alike 20 = .ok (.istore_n 3, 1) := by decide +kernel
theorem dX4_alike_21 : decode cX4_alike 21 = .ok (.iconst 0, 1) := by decide +kernel
theorem dX4_alike_22 : decode cX4_alike 22 = .ok (.istore 4, 2) := by decide +kernel
theorem dX4_alike_24 : decode cX4_alike 24 = .ok (.iload 4, 2) := by decide +kernel
theorem dX4_alike_26 : decode cX4_alike 26 = .ok (.aload_n 0, 1) := by decide +kernel
theorem dX4_alike_27 : decode cX4_alike 27 = .ok (.iload_n 1, 1) := by decide +kernel
theorem dX4_alike_28 : decode cX4_alike 28 = .ok (.invokevirtual 93, 3) := by decide +kernel
theorem dX4_alike_31 : decode cX4_alike 31 = .ok (.if_icmp .ge 94, 3) := by decide +kernel
theorem dX4_alike_34 : decode cX4_alike 34 = .ok (.iload 4, 2) := by decide +kernel
theorem dX4_alike_36 : decode cX4_alike 36 = .ok (.aload_n 0, 1) := by decide +kernel
theorem dX4_alike_37 : decode cX4_alike 37 = .ok (.iload_n 2, 1) := by decide +kernel
theorem dX4_alike_38 : decode cX4_alike 38 = .ok (.invokevirtual 93, 3) := by decide +kernel
theorem dX4_alike_41 : decode cX4_alike 41 = .ok (.if_icmp .ge 84, 3) := by decide +kernel
theorem dX4_alike_44 : decode cX4_alike 44 = .ok (.iconst 1, 1) := by decide +kernel
theorem dX4_alike_45 : decode cX4_alike 45 = .ok (.istore 5, 2) := by decide +kernel
theorem dX4_alike_47 : decode cX4_alike 47 = .ok (.iconst 0, 1) := by decide +kernel
theorem dX4_alike_48 : decode cX4_alike 48 = .ok (.istore 6, 2) := by decide +kernel
theorem dX4_alike_50 : decode cX4_alike 50 = .ok (.iload 6, 2) := by decide +kernel
theorem dX4_alike_52 : decode cX4_alike 52 = .ok (.iconst 4, 1) := by decide +kernel
theorem dX4_alike_53 : decode cX4_alike 53 = .ok (.if_icmp .ge 53, 3) := by decide +kernel
theorem dX4_alike_56 : decode cX4_alike 56 = .ok (.iload 5, 2) := by decide +kernel
theorem dX4_alike_58 : decode cX4_alike 58 = .ok (.ifCond .eq 39, 3) := by decide +kernel
theorem dX4_alike_61 : decode cX4_alike 61 = .ok (.aload_n 0, 1) := by decide +kernel
theorem dX4_alike_62 : decode cX4_alike 62 = .ok (.getfield 7, 3) := by decide +kernel
theorem dX4_alike_65 : decode cX4_alike 65 = .ok (.iload_n 1, 1) := by decide +kernel
theorem dX4_alike_66 : decode cX4_alike 66 = .ok (.iload 4, 2) := by decide +kernel
theorem dX4_alike_68 : decode cX4_alike 68 = .ok (.invokestatic 104, 3) := by decide +kernel
theorem dX4_alike_71 : decode cX4_alike 71 = .ok (.iload 6, 2) := by decide +kernel
theorem dX4_alike_73 : decode cX4_alike 73 = .ok (.iadd, 1) := by decide +kernel
theorem dX4_alike_74 : decode cX4_alike 74 = .ok (.laload, 1) := by decide +kernel
theorem dX4_alike_75 : decode cX4_alike 75 = .ok (.aload_n 0, 1) := by decide +kernel
theorem dX4_alike_76 : decode cX4_alike 76 = .ok (.getfield 7, 3) := by decide +kernel
theorem dX4_alike_79 : decode cX4_alike 79 = .ok (.iload_n 2, 1) := by decide +kernel
theorem dX4_alike_80 : decode cX4_alike 80 = .ok (.iload 4, 2) := by decide +kernel
theorem dX4_alike_82 : decode cX4_alike 82 = .ok (.invokestatic 104, 3) := by decide +kernel
theorem dX4_alike_85 : decode cX4_alike 85 = .ok (.iload 6, 2) := by decide +kernel
theorem dX4_alike_87 : decode cX4_alike 87 = .ok (.iadd, 1) := by decide +kernel
theorem dX4_alike_88 : decode cX4_alike 88 = .ok (.laload, 1) := by decide +kernel
theorem dX4_alike_89 : decode cX4_alike 89 = .ok (.lcmp, 1) := by decide +kernel
theorem dX4_alike_90 : decode cX4_alike 90 = .ok (.ifCond .ne 7, 3) := by decide +kernel
theorem dX4_alike_93 : decode cX4_alike 93 = .ok (.iconst 1, 1) := by decide +kernel
theorem dX4_alike_94 : decode cX4_alike 94 = .ok (.goto 4, 3) := by decide +kernel
theorem dX4_alike_97 : decode cX4_alike 97 = .ok (.iconst 0, 1) := by decide +kernel
theorem dX4_alike_98 : decode cX4_alike 98 = .ok (.istore 5, 2) := by decide +kernel
theorem dX4_alike_100 : decode cX4_alike 100 = .ok (.iinc 6 1, 3) := by decide +kernel
theorem dX4_alike_103 : decode cX4_alike 103 = .ok (.goto (-53), 3) := by decide +kernel
theorem dX4_alike_106 : decode cX4_alike 106 = .ok (.iload_n 3, 1) := by decide +kernel
theorem dX4_alike_107 : decode cX4_alike 107 = .ok (.iload 5, 2) := by decide +kernel
theorem dX4_alike_109 : decode cX4_alike 109 = .ok (.ifCond .eq 7, 3) := by decide +kernel
theorem dX4_alike_112 : decode cX4_alike 112 = .ok (.iconst 1, 1) := by decide +kernel
theorem dX4_alike_113 : decode cX4_alike 113 = .ok (.goto 4, 3) := by decide +kernel
theorem dX4_alike_116 : decode cX4_alike 116 = .ok (.iconst 0, 1) := by decide +kernel
theorem dX4_alike_117 : decode cX4_alike 117 = .ok (.iadd, 1) := by decide +kernel
theorem dX4_alike_118 : decode cX4_alike 118 = .ok (.istore_n 3, 1) := by decide +kernel
theorem dX4_alike_119 : decode cX4_alike 119 = .ok (.iinc 4 1, 3) := by decide +kernel
theorem dX4_alike_122 : decode cX4_alike 122 = .ok (.goto (-98), 3) := by decide +kernel
theorem dX4_alike_125 : decode cX4_alike 125 = .ok (.iload_n 3, 1) := by decide +kernel
theorem dX4_alike_126 : decode cX4_alike 126 = .ok (.ireturn, 1) := by decide +kernel
theorem dX4_armFor_0 : decode cX4_armFor 0 = .ok (.aload_n 0, 1) := by decide +kernel
theorem dX4_armFor_1 : decode cX4_armFor 1 = .ok (.iload_n 1, 1) := by decide +kernel
theorem dX4_armFor_2 : decode cX4_armFor 2 = .ok (.invokevirtual 89, 3) := by decide +kernel
theorem dX4_armFor_5 : decode cX4_armFor 5 = .ok (.ifCond .eq 11, 3) := by decide +kernel
theorem dX4_armFor_8 : decode cX4_armFor 8 = .ok (.aload_n 0, 1) := by decide +kernel
theorem dX4_armFor_9 : decode cX4_armFor 9 = .ok (.iload_n 2, 1) := by decide +kernel
theorem dX4_armFor_10 : decode cX4_armFor 10 = .ok (.invokevirtual 89, 3) := by decide +kernel
theorem dX4_armFor_13 : decode cX4_armFor 13 = .ok (.ifCond .ne 6, 3) := by decide +kernel
theorem dX4_armFor_16 : decode cX4_armFor 16 = .ok (.ldc 61, 2) := by decide +kernel
theorem dX4_armFor_18 : decode cX4_armFor 18 = .ok (.ireturn, 1) := by decide +kernel
theorem dX4_armFor_19 : decode cX4_armFor 19 = .ok (.iload_n 1, 1) := by decide +kernel
theorem dX4_armFor_20 : decode cX4_armFor 20 = .ok (.iconst 2, 1) := by decide +kernel
theorem dX4_armFor_21 : decode cX4_armFor 21 = .ok (.invokestatic 85, 3) := by decide +kernel
theorem dX4_armFor_24 : decode cX4_armFor 24 = .ok (.istore_n 3, 1) := by decide +kernel
theorem dX4_armFor_25 : decode cX4_armFor 25 = .ok (.iload_n 2, 1) := by decide +kernel
theorem dX4_armFor_26 : decode cX4_armFor 26 = .ok (.iconst 2, 1) := by decide +kernel
theorem dX4_armFor_27 : decode cX4_armFor 27 = .ok (.invokestatic 85, 3) := by decide +kernel
theorem dX4_armFor_30 : decode cX4_armFor 30 = .ok (.istore 4, 2) := by decide +kernel
theorem dX4_armFor_32 : decode cX4_armFor 32 = .ok (.aload_n 0, 1) := by decide +kernel
theorem dX4_armFor_33 : decode cX4_armFor 33 = .ok (.aload_n 0, 1) := by decide +kernel
theorem dX4_armFor_34 : decode cX4_armFor 34 = .ok (.getfield 7, 3) := by decide +kernel
theorem dX4_armFor_37 : decode cX4_armFor 37 = .ok (.iload_n 3, 1) := by decide +kernel
theorem dX4_armFor_38 : decode cX4_armFor 38 = .ok (.laload, 1) := by decide +kernel
theorem dX4_armFor_39 : decode cX4_armFor 39 = .ok (.aload_n 0, 1) := by decide +kernel
theorem dX4_armFor_40 : decode cX4_armFor 40 = .ok (.getfield 7, 3) := by decide +kernel
theorem dX4_armFor_43 : decode cX4_armFor 43 = .ok (.iload 4, 2) := by decide +kernel
theorem dX4_armFor_45 : decode cX4_armFor 45 = .ok (.iconst 1, 1) := by decide +kernel
theorem dX4_armFor_46 : decode cX4_armFor 46 = .ok (.iadd, 1) := by decide +kernel
theorem dX4_armFor_47 : decode cX4_armFor 47 = .ok (.laload, 1) := by decide +kernel
theorem dX4_armFor_48 : decode cX4_armFor 48 = .ok (.lmul, 1) := by decide +kernel
theorem dX4_armFor_49 : decode cX4_armFor 49 = .ok (.aload_n 0, 1) := by decide +kernel
theorem dX4_armFor_50 : decode cX4_armFor 50 = .ok (.getfield 7, 3) := by decide +kernel
theorem dX4_armFor_53 : decode cX4_armFor 53 = .ok (.iload_n 3, 1) := by decide +kernel
theorem dX4_armFor_54 : decode cX4_armFor 54 = .ok (.iconst 1, 1) := by decide +kernel
theorem dX4_armFor_55 : decode cX4_armFor 55 = .ok (.iadd, 1) := by decide +kernel
theorem dX4_armFor_56 : decode cX4_armFor 56 = .ok (.laload, 1) := by decide +kernel
theorem dX4_armFor_57 : decode cX4_armFor 57 = .ok (.aload_n 0, 1) := by decide +kernel
theorem dX4_armFor_58 : decode cX4_armFor 58 = .ok (.getfield 7, 3) := by decide +kernel
theorem dX4_armFor_61 : decode cX4_armFor 61 = .ok (.iload 4, 2) := by decide +kernel
theorem dX4_armFor_63 : decode cX4_armFor 63 = .ok (.laload, 1) := by decide +kernel
theorem dX4_armFor_64 : decode cX4_armFor 64 = .ok (.lmul, 1) := by decide +kernel
theorem dX4_armFor_65 : decode cX4_armFor 65 = .ok (.invokevirtual 53, 3) := by decide +kernel
theorem dX4_armFor_68 : decode cX4_armFor 68 = .ok (.aload_n 0, 1) := by decide +kernel
theorem dX4_armFor_69 : decode cX4_armFor 69 = .ok (.getfield 46, 3) := by decide +kernel
theorem dX4_armFor_72 : decode cX4_armFor 72 = .ok (.ldc2_w 192, 3) := by decide +kernel
theorem dX4_armFor_75 : decode cX4_armFor 75 = .ok (.lcmp, 1) := by decide +kernel
theorem dX4_armFor_76 : decode cX4_armFor 76 = .ok (.ifCond .gt 14, 3) := by decide +kernel
theorem dX4_armFor_79 : decode cX4_armFor 79 = .ok (.aload_n 0, 1) := by decide +kernel
theorem dX4_armFor_80 : decode cX4_armFor 80 = .ok (.getfield 50, 3) := by decide +kernel
theorem dX4_armFor_83 : decode cX4_armFor 83 = .ok (.ldc2_w 192, 3) := by decide +kernel
theorem dX4_armFor_86 : decode cX4_armFor 86 = .ok (.lcmp, 1) := by decide +kernel
theorem dX4_armFor_87 : decode cX4_armFor 87 = .ok (.ifCond .le 8, 3) := by decide +kernel
theorem dX4_armFor_90 : decode cX4_armFor 90 = .ok (.ldc 160, 2) := by decide +kernel
theorem dX4_armFor_92 : decode cX4_armFor 92 = .ok (.goto 17, 3) := by decide +kernel
theorem dX4_armFor_95 : decode cX4_armFor 95 = .ok (.ldc2_w 28, 3) := by decide +kernel
theorem dX4_armFor_98 : decode cX4_armFor 98 = .ok (.aload_n 0, 1) := by decide +kernel
theorem dX4_armFor_99 : decode cX4_armFor 99 = .ok (.getfield 46, 3) := by decide +kernel
theorem dX4_armFor_102 : decode cX4_armFor 102 = .ok (.lmul, 1) := by decide +kernel
theorem dX4_armFor_103 : decode cX4_armFor 103 = .ok (.aload_n 0, 1) := by decide +kernel
theorem dX4_armFor_104 : decode cX4_armFor 104 = .ok (.getfield 50, 3) := by decide +kernel
theorem dX4_armFor_107 : decode cX4_armFor 107 = .ok (.ladd, 1) := by decide +kernel
theorem dX4_armFor_108 : decode cX4_armFor 108 = .ok (.l2i, 1) := by decide +kernel
theorem dX4_armFor_109 : decode cX4_armFor 109 = .ok (.ireturn, 1) := by decide +kernel
theorem dX4_undo_0 : decode cX4_undo 0 = .ok (.aload_n 0, 1) := by decide +kernel
theorem dX4_undo_1 : decode cX4_undo 1 = .ok (.getfield 34, 3) := by decide +kernel
theorem dX4_undo_4 : decode cX4_undo 4 = .ok (.ifCond .ne 6, 3) := by decide +kernel
theorem dX4_undo_7 : decode cX4_undo 7 = .ok (.ldc 117, 2) := by decide +kernel
theorem dX4_undo_9 : decode cX4_undo 9 = .ok (.ireturn, 1) := by decide +kernel
theorem dX4_undo_10 : decode cX4_undo 10 = .ok (.aload_n 0, 1) := by decide +kernel
theorem dX4_undo_11 : decode cX4_undo 11 = .ok (.dup, 1) := by decide +kernel
theorem dX4_undo_12 : decode cX4_undo 12 = .ok (.getfield 34, 3) := by decide +kernel
theorem dX4_undo_15 : decode cX4_undo 15 = .ok (.iconst 1, 1) := by decide +kernel
theorem dX4_undo_16 : decode cX4_undo 16 = .ok (.isub, 1) := by decide +kernel
theorem dX4_undo_17 : decode cX4_undo 17 = .ok (.putfield 34, 3) := by decide +kernel
theorem dX4_undo_20 : decode cX4_undo 20 = .ok (.aload_n 0, 1) := by decide +kernel
theorem dX4_undo_21 : decode cX4_undo 21 = .ok (.getfield 16, 3) := by decide +kernel
theorem dX4_undo_24 : decode cX4_undo 24 = .ok (.sipush 915, 3) := by decide +kernel
theorem dX4_undo_27 : decode cX4_undo 27 = .ok (.aload_n 0, 1) := by decide +kernel
theorem dX4_undo_28 : decode cX4_undo 28 = .ok (.getfield 34, 3) := by decide +kernel
theorem dX4_undo_31 : decode cX4_undo 31 = .ok (.imul, 1) := by decide +kernel
theorem dX4_undo_32 : decode cX4_undo 32 = .ok (.aload_n 0, 1) := by decide +kernel
theorem dX4_undo_33 : decode cX4_undo 33 = .ok (.getfield 7, 3) := by decide +kernel
theorem dX4_undo_36 : decode cX4_undo 36 = .ok (.iconst 0, 1) := by decide +kernel
theorem dX4_undo_37 : decode cX4_undo 37 = .ok (.invokestatic 38, 3) := by decide +kernel
theorem dX4_undo_40 : decode cX4_undo 40 = .ok (.aload_n 0, 1) := by decide +kernel
theorem dX4_undo_41 : decode cX4_undo 41 = .ok (.getfield 34, 3) := by decide +kernel
theorem dX4_undo_44 : decode cX4_undo 44 = .ok (.ireturn, 1) := by decide +kernel
theorem dX4_type_0 : decode cX4_type 0 = .ok (.iload_n 1, 1) := by decide +kernel
theorem dX4_type_1 : decode cX4_type 1 = .ok (.bipush 32, 2) := by decide +kernel
theorem dX4_type_3 : decode cX4_type 3 = .ok (.bipush 126, 2) := by decide +kernel
theorem dX4_type_5 : decode cX4_type 5 = .ok (.invokestatic 57, 3) := by decide +kernel
theorem dX4_type_8 : decode cX4_type 8 = .ok (.ifCond .ne 6, 3) := by decide +kernel
theorem dX4_type_11 : decode cX4_type 11 = .ok (.ldc 61, 2) := by decide +kernel
theorem dX4_type_13 : decode cX4_type 13 = .ok (.ireturn, 1) := by decide +kernel
theorem dX4_type_14 : decode cX4_type 14 = .ok (.aload_n 0, 1) := by decide +kernel
theorem dX4_type_15 : decode cX4_type 15 = .ok (.getfield 79, 3) := by decide +kernel
theorem dX4_type_18 : decode cX4_type 18 = .ok (.bipush 100, 2) := by decide +kernel
theorem dX4_type_20 : decode cX4_type 20 = .ok (.if_icmp .ne 6, 3) := by decide +kernel
theorem dX4_type_23 : decode cX4_type 23 = .ok (.ldc 84, 2) := by decide +kernel
theorem dX4_type_25 : decode cX4_type 25 = .ok (.ireturn, 1) := by decide +kernel
theorem dX4_type_26 : decode cX4_type 26 = .ok (.aload_n 0, 1) := by decide +kernel
theorem dX4_type_27 : decode cX4_type 27 = .ok (.getfield 19, 3) := by decide +kernel
theorem dX4_type_30 : decode cX4_type 30 = .ok (.aload_n 0, 1) := by decide +kernel
theorem dX4_type_31 : decode cX4_type 31 = .ok (.getfield 79, 3) := by decide +kernel
theorem dX4_type_34 : decode cX4_type 34 = .ok (.iload_n 1, 1) := by decide +kernel
theorem dX4_type_35 : decode cX4_type 35 = .ok (.iastore, 1) := by decide +kernel
theorem dX4_type_36 : decode cX4_type 36 = .ok (.aload_n 0, 1) := by decide +kernel
theorem dX4_type_37 : decode cX4_type 37 = .ok (.dup, 1) := by decide +kernel
theorem dX4_type_38 : decode cX4_type 38 = .ok (.getfield 79, 3) := by decide +kernel
theorem dX4_type_41 : decode cX4_type 41 = .ok (.iconst 1, 1) := by decide +kernel
theorem dX4_type_42 : decode cX4_type 42 = .ok (.iadd, 1) := by decide +kernel
theorem dX4_type_43 : decode cX4_type 43 = .ok (.putfield 79, 3) := by decide +kernel
theorem dX4_type_46 : decode cX4_type 46 = .ok (.aload_n 0, 1) := by decide +kernel
theorem dX4_type_47 : decode cX4_type 47 = .ok (.getfield 79, 3) := by decide +kernel
theorem dX4_type_50 : decode cX4_type 50 = .ok (.ireturn, 1) := by decide +kernel
theorem dX4_clearText_0 : decode cX4_clearText 0 = .ok (.aload_n 0, 1) := by decide +kernel
theorem dX4_clearText_1 : decode cX4_clearText 1 = .ok (.getfield 79, 3) := by decide +kernel
theorem dX4_clearText_4 : decode cX4_clearText 4 = .ok (.istore_n 1, 1) := by decide +kernel
theorem dX4_clearText_5 : decode cX4_clearText 5 = .ok (.aload_n 0, 1) := by decide +kernel
theorem dX4_clearText_6 : decode cX4_clearText 6 = .ok (.iconst 0, 1) := by decide +kernel
theorem dX4_clearText_7 : decode cX4_clearText 7 = .ok (.putfield 79, 3) := by decide +kernel
theorem dX4_clearText_10 : decode cX4_clearText 10 = .ok (.iload_n 1, 1) := by decide +kernel
theorem dX4_clearText_11 : decode cX4_clearText 11 = .ok (.ireturn, 1) := by decide +kernel
theorem dX4_here_0 : decode cX4_here 0 = .ok (.aload_n 0, 1) := by decide +kernel
theorem dX4_here_1 : decode cX4_here 1 = .ok (.getfield 194, 3) := by decide +kernel
theorem dX4_here_4 : decode cX4_here 4 = .ok (.aload_n 0, 1) := by decide +kernel
theorem dX4_here_5 : decode cX4_here 5 = .ok (.getfield 79, 3) := by decide +kernel
theorem dX4_here_8 : decode cX4_here 8 = .ok (.if_icmp .ge 15, 3) := by decide +kernel
theorem dX4_here_11 : decode cX4_here 11 = .ok (.aload_n 0, 1) := by decide +kernel
theorem dX4_here_12 : decode cX4_here 12 = .ok (.getfield 19, 3) := by decide +kernel
theorem dX4_here_15 : decode cX4_here 15 = .ok (.aload_n 0, 1) := by decide +kernel
theorem dX4_here_16 : decode cX4_here 16 = .ok (.getfield 194, 3) := by decide +kernel
theorem dX4_here_19 : decode cX4_here 19 = .ok (.iaload, 1) := by decide +kernel
theorem dX4_here_20 : decode cX4_here 20 = .ok (.goto 4, 3) := by decide +kernel
theorem dX4_here_23 : decode cX4_here 23 = .ok (.iconst (-1), 1) := by decide +kernel
theorem dX4_here_24 : decode cX4_here 24 = .ok (.ireturn, 1) := by decide +kernel
theorem dX4_isFault_0 : decode cX4_isFault 0 = .ok (.aload_n 0, 1) := by decide +kernel
theorem dX4_isFault_1 : decode cX4_isFault 1 = .ok (.aload_n 0, 1) := by decide +kernel
theorem dX4_isFault_2 : decode cX4_isFault 2 = .ok (.getfield 194, 3) := by decide +kernel
theorem dX4_isFault_5 : decode cX4_isFault 5 = .ok (.aload_n 0, 1) := by decide +kernel
theorem dX4_isFault_6 : decode cX4_isFault 6 = .ok (.getfield 79, 3) := by decide +kernel
theorem dX4_isFault_9 : decode cX4_isFault 9 = .ok (.if_icmp .ne 7, 3) := by decide +kernel
theorem dX4_isFault_12 : decode cX4_isFault 12 = .ok (.iconst 2, 1) := by decide +kernel
theorem dX4_isFault_13 : decode cX4_isFault 13 = .ok (.goto 4, 3) := by decide +kernel
theorem dX4_isFault_16 : decode cX4_isFault 16 = .ok (.iconst 1, 1) := by decide +kernel
theorem dX4_isFault_17 : decode cX4_isFault 17 = .ok (.putfield 197, 3) := by decide +kernel
theorem dX4_isFault_20 : decode cX4_isFault 20 = .ok (.iconst 0, 1) := by decide +kernel
theorem dX4_isFault_21 : decode cX4_isFault 21 = .ok (.ireturn, 1) := by decide +kernel
theorem dX4_readNumber_0 : decode cX4_readNumber 0 = .ok (.aload_n 0, 1) := by decide +kernel
theorem dX4_readNumber_1 : decode cX4_readNumber 1 = .ok (.getfield 194, 3) := by decide +kernel
theorem dX4_readNumber_4 : decode cX4_readNumber 4 = .ok (.istore_n 1, 1) := by decide +kernel
theorem dX4_readNumber_5 : decode cX4_readNumber 5 = .ok (.aload_n 0, 1) := by decide +kernel
theorem dX4_readNumber_6 : decode cX4_readNumber 6 = .ok (.iconst 0, 1) := by decide +kernel
theorem dX4_readNumber_7 : decode cX4_readNumber 7 = .ok (.putfield 200, 3) := by decide +kernel
theorem dX4_readNumber_10 : decode cX4_readNumber 10 = .ok (.aload_n 0, 1) := by decide +kernel
theorem dX4_readNumber_11 : decode cX4_readNumber 11 = .ok (.getfield 194, 3) := by decide +kernel
theorem dX4_readNumber_14 : decode cX4_readNumber 14 = .ok (.iload_n 1, 1) := by decide +kernel
theorem dX4_readNumber_15 : decode cX4_readNumber 15 = .ok (.iconst 4, 1) := by decide +kernel
theorem dX4_readNumber_16 : decode cX4_readNumber 16 = .ok (.iadd, 1) := by decide +kernel
theorem dX4_readNumber_17 : decode cX4_readNumber 17 = .ok (.if_icmp .ge 49, 3) := by decide +kernel
theorem dX4_readNumber_20 : decode cX4_readNumber 20 = .ok (.aload_n 0, 1) := by decide +kernel
theorem dX4_readNumber_21 : decode cX4_readNumber 21 = .ok (.invokevirtual 203, 3) := by decide +kernel
theorem dX4_readNumber_24 : decode cX4_readNumber 24 = .ok (.bipush 48, 2) := by decide +kernel
theorem dX4_readNumber_26 : decode cX4_readNumber 26 = .ok (.bipush 57, 2) := by decide +kernel
theorem dX4_readNumber_28 : decode cX4_readNumber 28 = .ok (.invokestatic 57, 3) := by decide +kernel
theorem dX4_readNumber_31 : decode cX4_readNumber 31 = .ok (.ifCond .eq 35, 3) := by decide +kernel
theorem dX4_readNumber_34 : decode cX4_readNumber 34 = .ok (.aload_n 0, 1) := by decide +kernel
theorem dX4_readNumber_35 : decode cX4_readNumber 35 = .ok (.bipush 10, 2) := by decide +kernel
theorem dX4_readNumber_37 : decode cX4_readNumber 37 = .ok (.aload_n 0, 1) := by decide +kernel
theorem dX4_readNumber_38 : decode cX4_readNumber 38 = .ok (.getfield 200, 3) := by decide +kernel
theorem dX4_readNumber_41 : decode cX4_readNumber 41 = .ok (.imul, 1) := by decide +kernel
theorem dX4_readNumber_42 : decode cX4_readNumber 42 = .ok (.aload_n 0, 1) := by decide +kernel
theorem dX4_readNumber_43 : decode cX4_readNumber 43 = .ok (.invokevirtual 203, 3) := by decide +kernel
theorem dX4_readNumber_46 : decode cX4_readNumber 46 = .ok (.iadd, 1) := by decide +kernel
theorem dX4_readNumber_47 : decode cX4_readNumber 47 = .ok (.bipush 48, 2) := by decide +kernel
theorem dX4_readNumber_49 : decode cX4_readNumber 49 = .ok (.isub, 1) := by decide +kernel
theorem dX4_readNumber_50 : decode cX4_readNumber 50 = .ok (.putfield 200, 3) := by decide +kernel
theorem dX4_readNumber_53 : decode cX4_readNumber 53 = .ok (.aload_n 0, 1) := by decide +kernel
theorem dX4_readNumber_54 : decode cX4_readNumber 54 = .ok (.dup, 1) := by decide +kernel
theorem dX4_readNumber_55 : decode cX4_readNumber 55 = .ok (.getfield 194, 3) := by decide +kernel
theorem dX4_readNumber_58 : decode cX4_readNumber 58 = .ok (.iconst 1, 1) := by decide +kernel
theorem dX4_readNumber_59 : decode cX4_readNumber 59 = .ok (.iadd, 1) := by decide +kernel
theorem dX4_readNumber_60 : decode cX4_readNumber 60 = .ok (.putfield 194, 3) := by decide +kernel
theorem dX4_readNumber_63 : decode cX4_readNumber 63 = .ok (.goto (-53), 3) := by decide +kernel
theorem dX4_readNumber_66 : decode cX4_readNumber 66 = .ok (.aload_n 0, 1) := by decide +kernel
theorem dX4_readNumber_67 : decode cX4_readNumber 67 = .ok (.getfield 194, 3) := by decide +kernel
theorem dX4_readNumber_70 : decode cX4_readNumber 70 = .ok (.iload_n 1, 1) := by decide +kernel
theorem dX4_readNumber_71 : decode cX4_readNumber 71 = .ok (.if_icmp .ne 8, 3) := by decide +kernel
theorem dX4_readNumber_74 : decode cX4_readNumber 74 = .ok (.aload_n 0, 1) := by decide +kernel
theorem dX4_readNumber_75 : decode cX4_readNumber 75 = .ok (.invokevirtual 206, 3) := by decide +kernel
theorem dX4_readNumber_78 : decode cX4_readNumber 78 = .ok (.ireturn, 1) := by decide +kernel
theorem dX4_readNumber_79 : decode cX4_readNumber 79 = .ok (.aload_n 0, 1) := by decide +kernel
theorem dX4_readNumber_80 : decode cX4_readNumber 80 = .ok (.getfield 200, 3) := by decide +kernel
theorem dX4_readNumber_83 : decode cX4_readNumber 83 = .ok (.sipush 1000, 3) := by decide +kernel
theorem dX4_readNumber_86 : decode cX4_readNumber 86 = .ok (.if_icmp .le 15, 3) := by decide +kernel
theorem dX4_readNumber_89 : decode cX4_readNumber 89 = .ok (.aload_n 0, 1) := by decide +kernel
theorem dX4_readNumber_90 : decode cX4_readNumber 90 = .ok (.iload_n 1, 1) := by decide +kernel
theorem dX4_readNumber_91 : decode cX4_readNumber 91 = .ok (.putfield 194, 3) := by decide +kernel
theorem dX4_readNumber_94 : decode cX4_readNumber 94 = .ok (.aload_n 0, 1) := by decide +kernel
theorem dX4_readNumber_95 : decode cX4_readNumber 95 = .ok (.iconst 3, 1) := by decide +kernel
theorem dX4_readNumber_96 : decode cX4_readNumber 96 = .ok (.putfield 197, 3) := by decide +kernel
theorem dX4_readNumber_99 : decode cX4_readNumber 99 = .ok (.iconst 0, 1) := by decide +kernel
theorem dX4_readNumber_100 : decode cX4_readNumber 100 = .ok (.ireturn, 1) := by decide +kernel
theorem dX4_readNumber_101 : decode cX4_readNumber 101 = .ok (.iconst 1, 1) := by decide +kernel
theorem dX4_readNumber_102 : decode cX4_readNumber 102 = .ok (.ireturn, 1) := by decide +kernel
theorem dX4_readPoint_0 : decode cX4_readPoint 0 = .ok (.iload_n 1, 1) := by decide +kernel
theorem dX4_readPoint_1 : decode cX4_readPoint 1 = .ok (.bipush 20, 2) := by decide +kernel
theorem dX4_readPoint_3 : decode cX4_readPoint 3 = .ok (.if_icmp .ne 24, 3) := by decide +kernel
theorem dX4_readPoint_6 : decode cX4_readPoint 6 = .ok (.aload_n 0, 1) := by decide +kernel
theorem dX4_readPoint_7 : decode cX4_readPoint 7 = .ok (.invokevirtual 203, 3) := by decide +kernel
theorem dX4_readPoint_10 : decode cX4_readPoint 10 = .ok (.bipush 48, 2) := by decide +kernel
theorem dX4_readPoint_12 : decode cX4_readPoint 12 = .ok (.bipush 57, 2) := by decide +kernel
theorem dX4_readPoint_14 : decode cX4_readPoint 14 = .ok (.invokestatic 57, 3) := by decide +kernel
theorem dX4_readPoint_17 : decode cX4_readPoint 17 = .ok (.ifCond .eq 10, 3) := by decide +kernel
theorem dX4_readPoint_20 : decode cX4_readPoint 20 = .ok (.aload_n 0, 1) := by decide +kernel
theorem dX4_readPoint_21 : decode cX4_readPoint 21 = .ok (.iconst 4, 1) := by decide +kernel
theorem dX4_readPoint_22 : decode cX4_readPoint 22 = .ok (.putfield 197, 3) := by decide +kernel
theorem dX4_readPoint_25 : decode cX4_readPoint 25 = .ok (.iconst 0, 1) := by decide +kernel
theorem dX4_readPoint_26 : decode cX4_readPoint 26 = .ok (.ireturn, 1) := by decide +kernel
theorem dX4_readPoint_27 : decode cX4_readPoint 27 = .ok (.aload_n 0, 1) := by decide +kernel
theorem dX4_readPoint_28 : decode cX4_readPoint 28 = .ok (.invokevirtual 209, 3) := by decide +kernel
theorem dX4_readPoint_31 : decode cX4_readPoint 31 = .ok (.ifCond .ne 5, 3) := by decide +kernel
theorem dX4_readPoint_34 : decode cX4_readPoint 34 = .ok (.iconst 0, 1) := by decide +kernel
theorem dX4_readPoint_35 : decode cX4_readPoint 35 = .ok (.ireturn, 1) := by decide +kernel
theorem dX4_readPoint_36 : decode cX4_readPoint 36 = .ok (.aload_n 0, 1) := by decide +kernel
theorem dX4_readPoint_37 : decode cX4_readPoint 37 = .ok (.getfield 200, 3) := by decide +kernel
theorem dX4_readPoint_40 : decode cX4_readPoint 40 = .ok (.istore_n 3, 1) := by decide +kernel
theorem dX4_readPoint_41 : decode cX4_readPoint 41 = .ok (.aload_n 0, 1) := by decide +kernel
theorem dX4_readPoint_42 : decode cX4_readPoint 42 = .ok (.invokevirtual 203, 3) := by decide +kernel
theorem dX4_readPoint_45 : decode cX4_readPoint 45 = .ok (.bipush 44, 2) := by decide +kernel
theorem dX4_readPoint_47 : decode cX4_readPoint 47 = .ok (.if_icmp .eq 8, 3) := by decide +kernel
theorem dX4_readPoint_50 : decode cX4_readPoint 50 = .ok (.aload_n 0, 1) := by decide +kernel
theorem dX4_readPoint_51 : decode cX4_readPoint 51 = .ok (.invokevirtual 206, 3) := by decide +kernel
theorem dX4_readPoint_54 : decode cX4_readPoint 54 = .ok (.ireturn, 1) := by decide +kernel
theorem dX4_readPoint_55 : decode cX4_readPoint 55 = .ok (.aload_n 0, 1) := by decide +kernel
theorem dX4_readPoint_56 : decode cX4_readPoint 56 = .ok (.dup, 1) := by decide +kernel
theorem dX4_readPoint_57 : decode cX4_readPoint 57 = .ok (.getfield 194, 3) := by decide +kernel
theorem dX4_readPoint_60 : decode cX4_readPoint 60 = .ok (.iconst 1, 1) := by decide +kernel
theorem dX4_readPoint_61 : decode cX4_readPoint 61 = .ok (.iadd, 1) := by decide +kernel
theorem dX4_readPoint_62 : decode cX4_readPoint 62 = .ok (.putfield 194, 3) := by decide +kernel
theorem dX4_readPoint_65 : decode cX4_readPoint 65 = .ok (.aload_n 0, 1) := by decide +kernel
theorem dX4_readPoint_66 : decode cX4_readPoint 66 = .ok (.invokevirtual 209, 3) := by decide +kernel
theorem dX4_readPoint_69 : decode cX4_readPoint 69 = .ok (.ifCond .ne 5, 3) := by decide +kernel
theorem dX4_readPoint_72 : decode cX4_readPoint 72 = .ok (.iconst 0, 1) := by decide +kernel
theorem dX4_readPoint_73 : decode cX4_readPoint 73 = .ok (.ireturn, 1) := by decide +kernel
theorem dX4_readPoint_74 : decode cX4_readPoint 74 = .ok (.aload_n 0, 1) := by decide +kernel
theorem dX4_readPoint_75 : decode cX4_readPoint 75 = .ok (.getfield 23, 3) := by decide +kernel
theorem dX4_readPoint_78 : decode cX4_readPoint 78 = .ok (.iconst 3, 1) := by decide +kernel
theorem dX4_readPoint_79 : decode cX4_readPoint 79 = .ok (.iload_n 1, 1) := by decide +kernel
theorem dX4_readPoint_80 : decode cX4_readPoint 80 = .ok (.imul, 1) := by decide +kernel
theorem dX4_readPoint_81 : decode cX4_readPoint 81 = .ok (.iload_n 3, 1) := by decide +kernel
theorem dX4_readPoint_82 : decode cX4_readPoint 82 = .ok (.iastore, 1) := by decide +kernel
theorem dX4_readPoint_83 : decode cX4_readPoint 83 = .ok (.aload_n 0, 1) := by decide +kernel
theorem dX4_readPoint_84 : decode cX4_readPoint 84 = .ok (.getfield 23, 3) := by decide +kernel
theorem dX4_readPoint_87 : decode cX4_readPoint 87 = .ok (.iconst 3, 1) := by decide +kernel
theorem dX4_readPoint_88 : decode cX4_readPoint 88 = .ok (.iload_n 1, 1) := by decide +kernel
theorem dX4_readPoint_89 : decode cX4_readPoint 89 = .ok (.imul, 1) := by decide +kernel
theorem dX4_readPoint_90 : decode cX4_readPoint 90 = .ok (.iconst 1, 1) := by decide +kernel
theorem dX4_readPoint_91 : decode cX4_readPoint 91 = .ok (.iadd, 1) := by decide +kernel
theorem dX4_readPoint_92 : decode cX4_readPoint 92 = .ok (.aload_n 0, 1) := by decide +kernel
theorem dX4_readPoint_93 : decode cX4_readPoint 93 = .ok (.getfield 200, 3) := by decide +kernel
theorem dX4_readPoint_96 : decode cX4_readPoint 96 = .ok (.iastore, 1) := by decide +kernel
theorem dX4_readPoint_97 : decode cX4_readPoint 97 = .ok (.aload_n 0, 1) := by decide +kernel
theorem dX4_readPoint_98 : decode cX4_readPoint 98 = .ok (.getfield 23, 3) := by decide +kernel
theorem dX4_readPoint_101 : decode cX4_readPoint 101 = .ok (.iconst 3, 1) := by decide +kernel
theorem dX4_readPoint_102 : decode cX4_readPoint 102 = .ok (.iload_n 1, 1) := by decide +kernel
theorem dX4_readPoint_103 : decode cX4_readPoint 103 = .ok (.imul, 1) := by decide +kernel
theorem dX4_readPoint_104 : decode cX4_readPoint 104 = .ok (.iconst 2, 1) := by decide +kernel
theorem dX4_readPoint_105 : decode cX4_readPoint 105 = .ok (.iadd, 1) := by decide +kernel
theorem dX4_readPoint_106 : decode cX4_readPoint 106 = .ok (.iload_n 2, 1) := by decide +kernel
theorem dX4_readPoint_107 : decode cX4_readPoint 107 = .ok (.iastore, 1) := by decide +kernel
theorem dX4_readPoint_108 : decode cX4_readPoint 108 = .ok (.iconst 1, 1) := by decide +kernel
theorem dX4_readPoint_109 : decode cX4_readPoint 109 = .ok (.ireturn, 1) := by decide +kernel
theorem dX4_readText_0 : decode cX4_readText 0 = .ok (.aload_n 0, 1) := by decide +kernel
theorem dX4_readText_1 : decode cX4_readText 1 = .ok (.iconst 0, 1) := by decide +kernel
theorem dX4_readText_2 : decode cX4_readText 2 = .ok (.putfield 194, 3) := by decide +kernel
theorem dX4_readText_5 : decode cX4_readText 5 = .ok (.aload_n 0, 1) := by decide +kernel
theorem dX4_readText_6 : decode cX4_readText 6 = .ok (.iconst 0, 1) := by decide +kernel
theorem dX4_readText_7 : decode cX4_readText 7 = .ok (.putfield 197, 3) := by decide +kernel
theorem dX4_readText_10 : decode cX4_readText 10 = .ok (.iconst 0, 1) := by decide +kernel
theorem dX4_readText_11 : decode cX4_readText 11 = .ok (.istore_n 1, 1) := by decide +kernel
theorem dX4_readText_12 : decode cX4_readText 12 = .ok (.iconst 1, 1) := by decide +kernel
theorem dX4_readText_13 : decode cX4_readText 13 = .ok (.istore_n 2, 1) := by decide +kernel
theorem dX4_readText_14 : decode cX4_readText 14 = .ok (.iconst 0, 1) := by decide +kernel
theorem dX4_readText_15 : decode cX4_readText 15 = .ok (.istore_n 3, 1) := by decide +kernel
theorem dX4_readText_16 : decode cX4_readText 16 = .ok (.iload_n 2, 1) := by decide +kernel
theorem dX4_readText_17 : decode cX4_readText 17 = .ok (.ifCond .eq 77, 3) := by decide +kernel
theorem dX4_readText_20 : decode cX4_readText 20 = .ok (.aload_n 0, 1) := by decide +kernel
theorem dX4_readText_21 : decode cX4_readText 21 = .ok (.iload_n 1, 1) := by decide +kernel
theorem dX4_readText_22 : decode cX4_readText 22 = .ok (.iload_n 3, 1) := by decide +kernel
theorem dX4_readText_23 : decode cX4_readText 23 = .ok (.invokevirtual 212, 3) := by decide +kernel
theorem dX4_readText_26 : decode cX4_readText 26 = .ok (.ifCond .ne 5, 3) := by decide +kernel
theorem dX4_readText_29 : decode cX4_readText 29 = .ok (.iconst (-1), 1) := by decide +kernel
theorem dX4_readText_30 : decode cX4_readText 30 = .ok (.ireturn, 1) := by decide +kernel
theorem dX4_readText_31 : decode cX4_readText 31 = .ok (.iinc 1 1, 3) := by decide +kernel
theorem dX4_readText_34 : decode cX4_readText 34 = .ok (.aload_n 0, 1) := by decide +kernel
theorem dX4_readText_35 : decode cX4_readText 35 = .ok (.invokevirtual 203, 3) := by decide +kernel
theorem dX4_readText_38 : decode cX4_readText 38 = .ok (.bipush 45, 2) := by decide +kernel
theorem dX4_readText_40 : decode cX4_readText 40 = .ok (.if_icmp .ne 7, 3) := by decide +kernel
theorem dX4_readText_43 : decode cX4_readText 43 = .ok (.iconst 1, 1) := by decide +kernel
theorem dX4_readText_44 : decode cX4_readText 44 = .ok (.goto 4, 3) := by decide +kernel
theorem dX4_readText_47 : decode cX4_readText 47 = .ok (.iconst 0, 1) := by decide +kernel
theorem dX4_readText_48 : decode cX4_readText 48 = .ok (.istore_n 3, 1) := by decide +kernel
theorem dX4_readText_49 : decode cX4_readText 49 = .ok (.aload_n 0, 1) := by decide +kernel
theorem dX4_readText_50 : decode cX4_readText 50 = .ok (.invokevirtual 203, 3) := by decide +kernel
theorem dX4_readText_53 : decode cX4_readText 53 = .ok (.bipush 45, 2) := by decide +kernel
theorem dX4_readText_55 : decode cX4_readText 55 = .ok (.if_icmp .eq 12, 3) := by decide +kernel
theorem dX4_readText_58 : decode cX4_readText 58 = .ok (.aload_n 0, 1) := by decide +kernel
theorem dX4_readText_59 : decode cX4_readText 59 = .ok (.invokevirtual 203, 3) := by decide +kernel
theorem dX4_readText_62 : decode cX4_readText 62 = .ok (.bipush 32, 2) := by decide +kernel
theorem dX4_readText_64 : decode cX4_readText 64 = .ok (.if_icmp .ne 7, 3) := by decide +kernel
theorem dX4_readText_67 : decode cX4_readText 67 = .ok (.iconst 1, 1) := by decide +kernel
theorem dX4_readText_68 : decode cX4_readText 68 = .ok (.goto 4, 3) := by decide +kernel
theorem dX4_readText_71 : decode cX4_readText 71 = .ok (.iconst 0, 1) := by decide +kernel
theorem dX4_readText_72 : decode cX4_readText 72 = .ok (.istore_n 2, 1) := by decide +kernel
theorem dX4_readText_73 : decode cX4_readText 73 = .ok (.aload_n 0, 1) := by decide +kernel
theorem dX4_readText_74 : decode cX4_readText 74 = .ok (.dup, 1) := by decide +kernel
theorem dX4_readText_75 : decode cX4_readText 75 = .ok (.getfield 194, 3) := by decide +kernel
theorem dX4_readText_78 : decode cX4_readText 78 = .ok (.iload_n 2, 1) := by decide +kernel
theorem dX4_readText_79 : decode cX4_readText 79 = .ok (.ifCond .eq 7, 3) := by decide +kernel
theorem dX4_readText_82 : decode cX4_readText 82 = .ok (.iconst 1, 1) := by decide +kernel
theorem dX4_readText_83 : decode cX4_readText 83 = .ok (.goto 4, 3) := by decide +kernel
theorem dX4_readText_86 : decode cX4_readText 86 = .ok (.iconst 0, 1) := by decide +kernel
theorem dX4_readText_87 : decode cX4_readText 87 = .ok (.iadd, 1) := by decide +kernel
theorem dX4_readText_88 : decode cX4_readText 88 = .ok (.putfield 194, 3) := by decide +kernel
theorem dX4_readText_91 : decode cX4_readText 91 = .ok (.goto (-75), 3) := by decide +kernel
theorem dX4_readText_94 : decode cX4_readText 94 = .ok (.aload_n 0, 1) := by decide +kernel
theorem dX4_readText_95 : decode cX4_readText 95 = .ok (.invokevirtual 203, 3) := by decide +kernel
theorem dX4_readText_98 : decode cX4_readText 98 = .ok (.bipush 46, 2) := by decide +kernel
theorem dX4_readText_100 : decode cX4_readText 100 = .ok (.if_icmp .ne 7, 3) := by decide +kernel
theorem dX4_readText_103 : decode cX4_readText 103 = .ok (.iconst 1, 1) := by decide +kernel
theorem dX4_readText_104 : decode cX4_readText 104 = .ok (.goto 4, 3) := by decide +kernel
theorem dX4_readText_107 : decode cX4_readText 107 = .ok (.iconst 0, 1) := by decide +kernel
theorem dX4_readText_108 : decode cX4_readText 108 = .ok (.istore 4, 2) := by decide +kernel
theorem dX4_readText_110 : decode cX4_readText 110 = .ok (.aload_n 0, 1) := by decide +kernel
theorem dX4_readText_111 : decode cX4_readText 111 = .ok (.dup, 1) := by decide +kernel
theorem dX4_readText_112 : decode cX4_readText 112 = .ok (.getfield 194, 3) := by decide +kernel
theorem dX4_readText_115 : decode cX4_readText 115 = .ok (.iload 4, 2) := by decide +kernel
theorem dX4_readText_117 : decode cX4_readText 117 = .ok (.ifCond .eq 7, 3) := by decide +kernel
theorem dX4_readText_120 : decode cX4_readText 120 = .ok (.iconst 1, 1) := by decide +kernel
theorem dX4_readText_121 : decode cX4_readText 121 = .ok (.goto 4, 3) := by decide +kernel
theorem dX4_readText_124 : decode cX4_readText 124 = .ok (.iconst 0, 1) := by decide +kernel
theorem dX4_readText_125 : decode cX4_readText 125 = .ok (.iadd, 1) := by decide +kernel
theorem dX4_readText_126 : decode cX4_readText 126 = .ok (.putfield 194, 3) := by decide +kernel
theorem dX4_readText_129 : decode cX4_readText 129 = .ok (.iload 4, 2) := by decide +kernel
theorem dX4_readText_131 : decode cX4_readText 131 = .ok (.ifCond .eq 14, 3) := by decide +kernel
theorem dX4_readText_134 : decode cX4_readText 134 = .ok (.aload_n 0, 1) := by decide +kernel
theorem dX4_readText_135 : decode cX4_readText 135 = .ok (.getfield 194, 3) := by decide +kernel
theorem dX4_readText_138 : decode cX4_readText 138 = .ok (.aload_n 0, 1) := by decide +kernel
theorem dX4_readText_139 : decode cX4_readText 139 = .ok (.getfield 79, 3) := by decide +kernel
theorem dX4_readText_142 : decode cX4_readText 142 = .ok (.if_icmp .eq 10, 3) := by decide +kernel
theorem dX4_readText_145 : decode cX4_readText 145 = .ok (.aload_n 0, 1) := by decide +kernel
theorem dX4_readText_146 : decode cX4_readText 146 = .ok (.invokevirtual 206, 3) := by decide +kernel
theorem dX4_readText_149 : decode cX4_readText 149 = .ok (.ifCond .eq 7, 3) := by decide +kernel
theorem dX4_readText_152 : decode cX4_readText 152 = .ok (.iconst 1, 1) := by decide +kernel
theorem dX4_readText_153 : decode cX4_readText 153 = .ok (.goto 4, 3) := by decide +kernel
theorem dX4_readText_156 : decode cX4_readText 156 = .ok (.iconst 0, 1) := by decide +kernel
theorem dX4_readText_157 : decode cX4_readText 157 = .ok (.istore 5, 2) := by decide +kernel
theorem dX4_readText_159 : decode cX4_readText 159 = .ok (.iload 5, 2) := by decide +kernel
theorem dX4_readText_161 : decode cX4_readText 161 = .ok (.ifCond .eq 7, 3) := by decide +kernel
theorem dX4_readText_164 : decode cX4_readText 164 = .ok (.iload_n 1, 1) := by decide +kernel
theorem dX4_readText_165 : decode cX4_readText 165 = .ok (.goto 4, 3) := by decide +kernel
theorem dX4_readText_168 : decode cX4_readText 168 = .ok (.iconst (-1), 1) := by decide +kernel
theorem dX4_readText_169 : decode cX4_readText 169 = .ok (.ireturn, 1) := by decide +kernel
theorem dX4_fault_0 : decode cX4_fault 0 = .ok (.iload_n 1, 1) := by decide +kernel
theorem dX4_fault_1 : decode cX4_fault 1 = .ok (.iconst 0, 1) := by decide +kernel
theorem dX4_fault_2 : decode cX4_fault 2 = .ok (.iconst 1, 1) := by decide +kernel
theorem dX4_fault_3 : decode cX4_fault 3 = .ok (.invokestatic 57, 3) := by decide +kernel
theorem dX4_fault_6 : decode cX4_fault 6 = .ok (.ifCond .ne 6, 3) := by decide +kernel
theorem dX4_fault_9 : decode cX4_fault 9 = .ok (.ldc 61, 2) := by decide +kernel
theorem dX4_fault_11 : decode cX4_fault 11 = .ok (.ireturn, 1) := by decide +kernel
theorem dX4_fault_12 : decode cX4_fault 12 = .ok (.aload_n 0, 1) := by decide +kernel
theorem dX4_fault_13 : decode cX4_fault 13 = .ok (.invokevirtual 215, 3) := by decide +kernel
theorem dX4_fault_16 : decode cX4_fault 16 = .ok (.iconst (-1), 1) := by decide +kernel
theorem dX4_fault_17 : decode cX4_fault 17 = .ok (.if_icmp .eq 8, 3) := by decide +kernel
theorem dX4_fault_20 : decode cX4_fault 20 = .ok (.ldc 160, 2) := by decide +kernel
theorem dX4_fault_22 : decode cX4_fault 22 = .ok (.goto 18, 3) := by decide +kernel
theorem dX4_fault_25 : decode cX4_fault 25 = .ok (.iload_n 1, 1) := by decide +kernel
theorem dX4_fault_26 : decode cX4_fault 26 = .ok (.ifCond .ne 10, 3) := by decide +kernel
theorem dX4_fault_29 : decode cX4_fault 29 = .ok (.aload_n 0, 1) := by decide +kernel
theorem dX4_fault_30 : decode cX4_fault 30 = .ok (.getfield 194, 3) := by decide +kernel
theorem dX4_fault_33 : decode cX4_fault 33 = .ok (.goto 7, 3) := by decide +kernel
theorem dX4_fault_36 : decode cX4_fault 36 = .ok (.aload_n 0, 1) := by decide +kernel
theorem dX4_fault_37 : decode cX4_fault 37 = .ok (.getfield 197, 3) := by decide +kernel
theorem dX4_fault_40 : decode cX4_fault 40 = .ok (.ireturn, 1) := by decide +kernel
theorem dX4_read_0 : decode cX4_read 0 = .ok (.aload_n 0, 1) := by decide +kernel
theorem dX4_read_1 : decode cX4_read 1 = .ok (.invokevirtual 215, 3) := by decide +kernel
theorem dX4_read_4 : decode cX4_read 4 = .ok (.istore_n 1, 1) := by decide +kernel
theorem dX4_read_5 : decode cX4_read 5 = .ok (.iload_n 1, 1) := by decide +kernel
theorem dX4_read_6 : decode cX4_read 6 = .ok (.iconst (-1), 1) := by decide +kernel
theorem dX4_read_7 : decode cX4_read 7 = .ok (.if_icmp .ne 6, 3) := by decide +kernel
theorem dX4_read_10 : decode cX4_read 10 = .ok (.ldc 117, 2) := by decide +kernel
theorem dX4_read_12 : decode cX4_read 12 = .ok (.ireturn, 1) := by decide +kernel
theorem dX4_read_13 : decode cX4_read 13 = .ok (.aload_n 0, 1) := by decide +kernel
theorem dX4_read_14 : decode cX4_read 14 = .ok (.getfield 7, 3) := by decide +kernel
theorem dX4_read_17 : decode cX4_read 17 = .ok (.bipush 14, 2) := by decide +kernel
theorem dX4_read_19 : decode cX4_read 19 = .ok (.laload, 1) := by decide +kernel
theorem dX4_read_20 : decode cX4_read 20 = .ok (.ldc2_w 98, 3) := by decide +kernel
theorem dX4_read_23 : decode cX4_read 23 = .ok (.lcmp, 1) := by decide +kernel
theorem dX4_read_24 : decode cX4_read 24 = .ok (.ifCond .ne 6, 3) := by decide +kernel
theorem dX4_read_27 : decode cX4_read 27 = .ok (.ldc 84, 2) := by decide +kernel
theorem dX4_read_29 : decode cX4_read 29 = .ok (.ireturn, 1) := by decide +kernel
theorem dX4_read_30 : decode cX4_read 30 = .ok (.aload_n 0, 1) := by decide +kernel
theorem dX4_read_31 : decode cX4_read 31 = .ok (.invokevirtual 62, 3) := by decide +kernel
theorem dX4_read_34 : decode cX4_read 34 = .ok (.aload_n 0, 1) := by decide +kernel
theorem dX4_read_35 : decode cX4_read 35 = .ok (.invokevirtual 100, 3) := by decide +kernel
theorem dX4_read_38 : decode cX4_read 38 = .ok (.istore_n 2, 1) := by decide +kernel
theorem dX4_read_39 : decode cX4_read 39 = .ok (.iconst 0, 1) := by decide +kernel
theorem dX4_read_40 : decode cX4_read 40 = .ok (.istore_n 3, 1) := by decide +kernel
theorem dX4_read_41 : decode cX4_read 41 = .ok (.iload_n 3, 1) := by decide +kernel
theorem dX4_read_42 : decode cX4_read 42 = .ok (.iload_n 1, 1) := by decide +kernel
theorem dX4_read_43 : decode cX4_read 43 = .ok (.if_icmp .ge 42, 3) := by decide +kernel
theorem dX4_read_46 : decode cX4_read 46 = .ok (.aload_n 0, 1) := by decide +kernel
theorem dX4_read_47 : decode cX4_read 47 = .ok (.iload_n 2, 1) := by decide +kernel
theorem dX4_read_48 : decode cX4_read 48 = .ok (.aload_n 0, 1) := by decide +kernel
theorem dX4_read_49 : decode cX4_read 49 = .ok (.getfield 23, 3) := by decide +kernel
theorem dX4_read_52 : decode cX4_read 52 = .ok (.iconst 3, 1) := by decide +kernel
theorem dX4_read_53 : decode cX4_read 53 = .ok (.iload_n 3, 1) := by decide +kernel
theorem dX4_read_54 : decode cX4_read 54 = .ok (.imul, 1) := by decide +kernel
theorem dX4_read_55 : decode cX4_read 55 = .ok (.iaload, 1) := by decide +kernel
theorem dX4_read_56 : decode cX4_read 56 = .ok (.aload_n 0, 1) := by decide +kernel
theorem dX4_read_57 : decode cX4_read 57 = .ok (.getfield 23, 3) := by decide +kernel
theorem dX4_read_60 : decode cX4_read 60 = .ok (.iconst 3, 1) := by decide +kernel
theorem dX4_read_61 : decode cX4_read 61 = .ok (.iload_n 3, 1) := by decide +kernel
theorem dX4_read_62 : decode cX4_read 62 = .ok (.imul, 1) := by decide +kernel
theorem dX4_read_63 : decode cX4_read 63 = .ok (.iconst 1, 1) := by decide +kernel
theorem dX4_read_64 : decode cX4_read 64 = .ok (.iadd, 1) := by decide +kernel
theorem dX4_read_65 : decode cX4_read 65 = .ok (.iaload, 1) := by decide +kernel
theorem dX4_read_66 : decode cX4_read 66 = .ok (.aload_n 0, 1) := by decide +kernel
theorem dX4_read_67 : decode cX4_read 67 = .ok (.getfield 23, 3) := by decide +kernel
theorem dX4_read_70 : decode cX4_read 70 = .ok (.iconst 3, 1) := by decide +kernel
theorem dX4_read_71 : decode cX4_read 71 = .ok (.iload_n 3, 1) := by decide +kernel
theorem dX4_read_72 : decode cX4_read 72 = .ok (.imul, 1) := by decide +kernel
theorem dX4_read_73 : decode cX4_read 73 = .ok (.iconst 2, 1) := by decide +kernel
theorem dX4_read_74 : decode cX4_read 74 = .ok (.iadd, 1) := by decide +kernel
theorem dX4_read_75 : decode cX4_read 75 = .ok (.iaload, 1) := by decide +kernel
theorem dX4_read_76 : decode cX4_read 76 = .ok (.invokevirtual 118, 3) := by decide +kernel
theorem dX4_read_79 : decode cX4_read 79 = .ok (.iinc 3 1, 3) := by decide +kernel
theorem dX4_read_82 : decode cX4_read 82 = .ok (.goto (-41), 3) := by decide +kernel
theorem dX4_read_85 : decode cX4_read 85 = .ok (.iload_n 2, 1) := by decide +kernel
theorem dX4_read_86 : decode cX4_read 86 = .ok (.ireturn, 1) := by decide +kernel
