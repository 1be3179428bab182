theorem dX2_init_0 : decode cX2_init 0 = .ok (.aload_n 0, 1) := by decide +kernel
theorem dX2_init_1 : decode cX2_init 1 = .ok (.invokespecial 3, 3) := by decide +kernel
theorem dX2_init_4 : decode cX2_init 4 = .ok (.aload_n 0, 1) := by decide +kernel
theorem dX2_init_5 : decode cX2_init 5 = .ok (.bipush 100, 2) := by decide +kernel
theorem dX2_init_7 : decode cX2_init 7 = .ok (.newarray .char, 2) := by decide +kernel
theorem dX2_init_9 : decode cX2_init 9 = .ok (.putfield 9, 3) := by decide +kernel
theorem dX2_init_12 : decode cX2_init 12 = .ok (.aload_n 0, 1) := by decide +kernel
theorem dX2_init_13 : decode cX2_init 13 = .ok (.iconst 0, 1) := by decide +kernel
theorem dX2_init_14 : decode cX2_init 14 = .ok (.putfield 15, 3) := by decide +kernel
theorem dX2_init_17 : decode cX2_init 17 = .ok (.aload_n 0, 1) := by decide +kernel
theorem dX2_init_18 : decode cX2_init 18 = .ok (.iconst 0, 1) := by decide +kernel
theorem dX2_init_19 : decode cX2_init 19 = .ok (.putfield 19, 3) := by decide +kernel
theorem dX2_init_22 : decode cX2_init 22 = .ok (.aload_n 0, 1) := by decide +kernel
theorem dX2_init_23 : decode cX2_init 23 = .ok (.iconst 0, 1) := by decide +kernel
theorem dX2_init_24 : decode cX2_init 24 = .ok (.putfield 22, 3) := by decide +kernel
theorem dX2_init_27 : decode cX2_init 27 = .ok (.aload_n 0, 1) := by decide +kernel
theorem dX2_init_28 : decode cX2_init 28 = .ok (.iconst 0, 1) := by decide +kernel
theorem dX2_init_29 : decode cX2_init 29 = .ok (.putfield 25, 3) := by decide +kernel
theorem dX2_init_32 : decode cX2_init 32 = .ok (.aload_n 0, 1) := by decide +kernel
theorem dX2_init_33 : decode cX2_init 33 = .ok (.bipush 20, 2) := by decide +kernel
theorem dX2_init_35 : decode cX2_init 35 = .ok (.newarray .int, 2) := by decide +kernel
theorem dX2_init_37 : decode cX2_init 37 = .ok (.putfield 28, 3) := by decide +kernel
theorem dX2_init_40 : decode cX2_init 40 = .ok (.aload_n 0, 1) := by decide +kernel
theorem dX2_init_41 : decode cX2_init 41 = .ok (.bipush 20, 2) := by decide +kernel
theorem dX2_init_43 : decode cX2_init 43 = .ok (.newarray .int, 2) := by decide +kernel
theorem dX2_init_45 : decode cX2_init 45 = .ok (.putfield 32, 3) := by decide +kernel
theorem dX2_init_48 : decode cX2_init 48 = .ok (.aload_n 0, 1) := by decide +kernel
theorem dX2_init_49 : decode cX2_init 49 = .ok (.bipush 20, 2) := by decide +kernel
theorem dX2_init_51 : decode cX2_init 51 = .ok (.newarray .boolean, 2) := by decide +kernel
theorem dX2_init_53 : decode cX2_init 53 = .ok (.putfield 35, 3) := by decide +kernel
theorem dX2_init_56 : decode cX2_init 56 = .ok (.aload_n 0, 1) := by decide +kernel
theorem dX2_init_57 : decode cX2_init 57 = .ok (.iconst 0, 1) := by decide +kernel
theorem dX2_init_58 : decode cX2_init 58 = .ok (.putfield 39, 3) := by decide +kernel
theorem dX2_init_61 : decode cX2_init 61 = .ok (.return_, 1) := by decide +kernel
theorem dX2_append_0 : decode cX2_append 0 = .ok (.aload_n 0, 1) := by decide +kernel
theorem dX2_append_1 : decode cX2_append 1 = .ok (.getfield 15, 3) := by decide +kernel
theorem dX2_append_4 : decode cX2_append 4 = .ok (.ifCond .lt 15, 3) := by decide +kernel
theorem dX2_append_7 : decode cX2_append 7 = .ok (.aload_n 0, 1) := by decide +kernel
theorem dX2_append_8 : decode cX2_append 8 = .ok (.getfield 15, 3) := by decide +kernel
theorem dX2_append_11 : decode cX2_append 11 = .ok (.aload_n 0, 1) := by decide +kernel
theorem dX2_append_12 : decode cX2_append 12 = .ok (.getfield 9, 3) := by decide +kernel
theorem dX2_append_15 : decode cX2_append 15 = .ok (.arraylength, 1) := by decide +kernel
theorem dX2_append_16 : decode cX2_append 16 = .ok (.if_icmp .lt 5, 3) := by decide +kernel
theorem dX2_append_19 : decode cX2_append 19 = .ok (.iconst 0, 1) := by decide +kernel
theorem dX2_append_20 : decode cX2_append 20 = .ok (.ireturn, 1) := by decide +kernel
theorem dX2_append_21 : decode cX2_append 21 = .ok (.aload_n 0, 1) := by decide +kernel
theorem dX2_append_22 : decode cX2_append 22 = .ok (.getfield 9, 3) := by decide +kernel
theorem dX2_append_25 : decode cX2_append 25 = .ok (.aload_n 0, 1) := by decide +kernel
theorem dX2_append_26 : decode cX2_append 26 = .ok (.getfield 15, 3) := by decide +kernel
theorem dX2_append_29 : decode cX2_append 29 = .ok (.iload_n 1, 1) := by decide +kernel
theorem dX2_append_30 : decode cX2_append 30 = .ok (.castore, 1) := by decide +kernel
theorem dX2_append_31 : decode cX2_append 31 = .ok (.aload_n 0, 1) := by decide +kernel
theorem dX2_append_32 : decode cX2_append 32 = .ok (.dup, 1) := by decide +kernel
theorem dX2_append_33 : decode cX2_append 33 = .ok (.getfield 15, 3) := by decide +kernel
theorem dX2_append_36 : decode cX2_append 36 = .ok (.iconst 1, 1) := by decide +kernel
theorem dX2_append_37 : decode cX2_append 37 = .ok (.iadd, 1) := by decide +kernel
theorem dX2_append_38 : decode cX2_append 38 = .ok (.putfield 15, 3) := by decide +kernel
theorem dX2_append_41 : decode cX2_append 41 = .ok (.iconst 1, 1) := by decide +kernel
theorem dX2_append_42 : decode cX2_append 42 = .ok (.ireturn, 1) := by decide +kernel
theorem dX2_parse_0 : decode cX2_parse 0 = .ok (.aload_n 0, 1) := by decide +kernel
theorem dX2_parse_1 : decode cX2_parse 1 = .ok (.iconst 0, 1) := by decide +kernel
theorem dX2_parse_2 : decode cX2_parse 2 = .ok (.putfield 19, 3) := by decide +kernel
theorem dX2_parse_5 : decode cX2_parse 5 = .ok (.aload_n 0, 1) := by decide +kernel
theorem dX2_parse_6 : decode cX2_parse 6 = .ok (.iconst 0, 1) := by decide +kernel
theorem dX2_parse_7 : decode cX2_parse 7 = .ok (.putfield 39, 3) := by decide +kernel
theorem dX2_parse_10 : decode cX2_parse 10 = .ok (.aload_n 0, 1) := by decide +kernel
theorem dX2_parse_11 : decode cX2_parse 11 = .ok (.iconst 0, 1) := by decide +kernel
theorem dX2_parse_12 : decode cX2_parse 12 = .ok (.putfield 25, 3) := by decide +kernel
theorem dX2_parse_15 : decode cX2_parse 15 = .ok (.iconst 0, 1) := by decide +kernel
theorem dX2_parse_16 : decode cX2_parse 16 = .ok (.istore_n 1, 1) := by decide +kernel
theorem dX2_parse_17 : decode cX2_parse 17 = .ok (.iconst 1, 1) := by decide +kernel
theorem dX2_parse_18 : decode cX2_parse 18 = .ok (.istore_n 2, 1) := by decide +kernel
theorem dX2_parse_19 : decode cX2_parse 19 = .ok (.iconst 0, 1) := by decide +kernel
theorem dX2_parse_20 : decode cX2_parse 20 = .ok (.istore_n 3, 1) := by decide +kernel
theorem dX2_parse_21 : decode cX2_parse 21 = .ok (.iload_n 3, 1) := by decide +kernel
theorem dX2_parse_22 : decode cX2_parse 22 = .ok (.bipush 20, 2) := by decide +kernel
theorem dX2_parse_24 : decode cX2_parse 24 = .ok (.if_icmp .gt 64, 3) := by decide +kernel
theorem dX2_parse_27 : decode cX2_parse 27 = .ok (.iload_n 2, 1) := by decide +kernel
theorem dX2_parse_28 : decode cX2_parse 28 = .ok (.ifCond .eq 60, 3) := by decide +kernel
theorem dX2_parse_31 : decode cX2_parse 31 = .ok (.aload_n 0, 1) := by decide +kernel
theorem dX2_parse_32 : decode cX2_parse 32 = .ok (.iload_n 1, 1) := by decide +kernel
theorem dX2_parse_33 : decode cX2_parse 33 = .ok (.invokevirtual 42, 3) := by decide +kernel
theorem dX2_parse_36 : decode cX2_parse 36 = .ok (.aload_n 0, 1) := by decide +kernel
theorem dX2_parse_37 : decode cX2_parse 37 = .ok (.invokevirtual 46, 3) := by decide +kernel
theorem dX2_parse_40 : decode cX2_parse 40 = .ok (.bipush 45, 2) := by decide +kernel
theorem dX2_parse_42 : decode cX2_parse 42 = .ok (.if_icmp .ne 7, 3) := by decide +kernel
theorem dX2_parse_45 : decode cX2_parse 45 = .ok (.iconst 1, 1) := by decide +kernel
theorem dX2_parse_46 : decode cX2_parse 46 = .ok (.goto 4, 3) := by decide +kernel
theorem dX2_parse_49 : decode cX2_parse 49 = .ok (.iconst 0, 1) := by decide +kernel
theorem dX2_parse_50 : decode cX2_parse 50 = .ok (.istore_n 1, 1) := by decide +kernel
theorem dX2_parse_51 : decode cX2_parse 51 = .ok (.aload_n 0, 1) := by decide +kernel
theorem dX2_parse_52 : decode cX2_parse 52 = .ok (.getfield 25, 3) := by decide +kernel
theorem dX2_parse_55 : decode cX2_parse 55 = .ok (.ifCond .ne 25, 3) := by decide +kernel
theorem dX2_parse_58 : decode cX2_parse 58 = .ok (.aload_n 0, 1) := by decide +kernel
theorem dX2_parse_59 : decode cX2_parse 59 = .ok (.bipush 45, 2) := by decide +kernel
theorem dX2_parse_61 : decode cX2_parse 61 = .ok (.invokevirtual 50, 3) := by decide +kernel
theorem dX2_parse_64 : decode cX2_parse 64 = .ok (.ifCond .ne 12, 3) := by decide +kernel
theorem dX2_parse_67 : decode cX2_parse 67 = .ok (.aload_n 0, 1) := by decide +kernel
theorem dX2_parse_68 : decode cX2_parse 68 = .ok (.bipush 32, 2) := by decide +kernel
theorem dX2_parse_70 : decode cX2_parse 70 = .ok (.invokevirtual 50, 3) := by decide +kernel
theorem dX2_parse_73 : decode cX2_parse 73 = .ok (.ifCond .eq 7, 3) := by decide +kernel
theorem dX2_parse_76 : decode cX2_parse 76 = .ok (.iconst 1, 1) := by decide +kernel
theorem dX2_parse_77 : decode cX2_parse 77 = .ok (.goto 4, 3) := by decide +kernel
theorem dX2_parse_80 : decode cX2_parse 80 = .ok (.iconst 0, 1) := by decide +kernel
theorem dX2_parse_81 : decode cX2_parse 81 = .ok (.istore_n 2, 1) := by decide +kernel
theorem dX2_parse_82 : decode cX2_parse 82 = .ok (.iinc 3 1, 3) := by decide +kernel
theorem dX2_parse_85 : decode cX2_parse 85 = .ok (.goto (-64), 3) := by decide +kernel
theorem dX2_parse_88 : decode cX2_parse 88 = .ok (.aload_n 0, 1) := by decide +kernel
theorem dX2_parse_89 : decode cX2_parse 89 = .ok (.bipush 46, 2) := by decide +kernel
theorem dX2_parse_91 : decode cX2_parse 91 = .ok (.invokevirtual 54, 3) := by decide +kernel
theorem dX2_parse_94 : decode cX2_parse 94 = .ok (.aload_n 0, 1) := by decide +kernel
theorem dX2_parse_95 : decode cX2_parse 95 = .ok (.getfield 25, 3) := by decide +kernel
theorem dX2_parse_98 : decode cX2_parse 98 = .ok (.ifCond .ne 18, 3) := by decide +kernel
theorem dX2_parse_101 : decode cX2_parse 101 = .ok (.aload_n 0, 1) := by decide +kernel
theorem dX2_parse_102 : decode cX2_parse 102 = .ok (.getfield 19, 3) := by decide +kernel
theorem dX2_parse_105 : decode cX2_parse 105 = .ok (.aload_n 0, 1) := by decide +kernel
theorem dX2_parse_106 : decode cX2_parse 106 = .ok (.getfield 15, 3) := by decide +kernel
theorem dX2_parse_109 : decode cX2_parse 109 = .ok (.if_icmp .ge 7, 3) := by decide +kernel
theorem dX2_parse_112 : decode cX2_parse 112 = .ok (.aload_n 0, 1) := by decide +kernel
theorem dX2_parse_113 : decode cX2_parse 113 = .ok (.invokevirtual 58, 3) := by decide +kernel
theorem dX2_parse_116 : decode cX2_parse 116 = .ok (.aload_n 0, 1) := by decide +kernel
theorem dX2_parse_117 : decode cX2_parse 117 = .ok (.getfield 25, 3) := by decide +kernel
theorem dX2_parse_120 : decode cX2_parse 120 = .ok (.ireturn, 1) := by decide +kernel
theorem dX2_parsePoint_0 : decode cX2_parsePoint 0 = .ok (.aload_n 0, 1) := by decide +kernel
theorem dX2_parsePoint_1 : decode cX2_parsePoint 1 = .ok (.getfield 39, 3) := by decide +kernel
theorem dX2_parsePoint_4 : decode cX2_parsePoint 4 = .ok (.bipush 20, 2) := by decide +kernel
theorem dX2_parsePoint_6 : decode cX2_parsePoint 6 = .ok (.if_icmp .lt 22, 3) := by decide +kernel
theorem dX2_parsePoint_9 : decode cX2_parsePoint 9 = .ok (.aload_n 0, 1) := by decide +kernel
theorem dX2_parsePoint_10 : decode cX2_parsePoint 10 = .ok (.invokevirtual 46, 3) := by decide +kernel
theorem dX2_parsePoint_13 : decode cX2_parsePoint 13 = .ok (.invokestatic 61, 3) := by decide +kernel
theorem dX2_parsePoint_16 : decode cX2_parsePoint 16 = .ok (.ifCond .eq 12, 3) := by decide +kernel
theorem dX2_parsePoint_19 : decode cX2_parsePoint 19 = .ok (.aload_n 0, 1) := by decide +kernel
theorem dX2_parsePoint_20 : decode cX2_parsePoint 20 = .ok (.aload_n 0, 1) := by decide +kernel
theorem dX2_parsePoint_21 : decode cX2_parsePoint 21 = .ok (.getfield 19, 3) := by decide +kernel
theorem dX2_parsePoint_24 : decode cX2_parsePoint 24 = .ok (.iconst 4, 1) := by decide +kernel
theorem dX2_parsePoint_25 : decode cX2_parsePoint 25 = .ok (.invokevirtual 64, 3) := by decide +kernel
theorem dX2_parsePoint_28 : decode cX2_parsePoint 28 = .ok (.aload_n 0, 1) := by decide +kernel
theorem dX2_parsePoint_29 : decode cX2_parsePoint 29 = .ok (.invokevirtual 68, 3) := by decide +kernel
theorem dX2_parsePoint_32 : decode cX2_parsePoint 32 = .ok (.istore_n 2, 1) := by decide +kernel
theorem dX2_parsePoint_33 : decode cX2_parsePoint 33 = .ok (.aload_n 0, 1) := by decide +kernel
theorem dX2_parsePoint_34 : decode cX2_parsePoint 34 = .ok (.bipush 44, 2) := by decide +kernel
theorem dX2_parsePoint_36 : decode cX2_parsePoint 36 = .ok (.invokevirtual 54, 3) := by decide +kernel
theorem dX2_parsePoint_39 : decode cX2_parsePoint 39 = .ok (.aload_n 0, 1) := by decide +kernel
theorem dX2_parsePoint_40 : decode cX2_parsePoint 40 = .ok (.invokevirtual 68, 3) := by decide +kernel
theorem dX2_parsePoint_43 : decode cX2_parsePoint 43 = .ok (.istore_n 3, 1) := by decide +kernel
theorem dX2_parsePoint_44 : decode cX2_parsePoint 44 = .ok (.aload_n 0, 1) := by decide +kernel
theorem dX2_parsePoint_45 : decode cX2_parsePoint 45 = .ok (.getfield 25, 3) := by decide +kernel
theorem dX2_parsePoint_48 : decode cX2_parsePoint 48 = .ok (.ifCond .ne 86, 3) := by decide +kernel
theorem dX2_parsePoint_51 : decode cX2_parsePoint 51 = .ok (.aload_n 0, 1) := by decide +kernel
theorem dX2_parsePoint_52 : decode cX2_parsePoint 52 = .ok (.getfield 39, 3) := by decide +kernel
theorem dX2_parsePoint_55 : decode cX2_parsePoint 55 = .ok (.ifCond .lt 79, 3) := by decide +kernel
theorem dX2_parsePoint_58 : decode cX2_parsePoint 58 = .ok (.aload_n 0, 1) := by decide +kernel
theorem dX2_parsePoint_59 : decode cX2_parsePoint 59 = .ok (.getfield 39, 3) := by decide +kernel
theorem dX2_parsePoint_62 : decode cX2_parsePoint 62 = .ok (.aload_n 0, 1) := by decide +kernel
theorem dX2_parsePoint_63 : decode cX2_parsePoint 63 = .ok (.getfield 28, 3) := by decide +kernel
theorem dX2_parsePoint_66 : decode cX2_parsePoint 66 = .ok (.arraylength, 1) := by decide +kernel
theorem dX2_parsePoint_67 : decode cX2_parsePoint 67 = .ok (.if_icmp .ge 67, 3) := by decide +kernel
theorem dX2_parsePoint_70 : decode cX2_parsePoint 70 = .ok (.aload_n 0, 1) := by decide +kernel
theorem dX2_parsePoint_71 : decode cX2_parsePoint 71 = .ok (.getfield 39, 3) := by decide +kernel
theorem dX2_parsePoint_74 : decode cX2_parsePoint 74 = .ok (.aload_n 0, 1) := by decide +kernel
theorem dX2_parsePoint_75 : decode cX2_parsePoint 75 = .ok (.getfield 32, 3) := by decide +kernel
theorem dX2_parsePoint_78 : decode cX2_parsePoint 78 = .ok (.arraylength, 1) := by decide +kernel
theorem dX2_parsePoint_79 : decode cX2_parsePoint 79 = .ok (.if_icmp .ge 55, 3) := by decide +kernel
theorem dX2_parsePoint_82 : decode cX2_parsePoint 82 = .ok (.aload_n 0, 1) := by decide +kernel
theorem dX2_parsePoint_83 : decode cX2_parsePoint 83 = .ok (.getfield 39, 3) := by decide +kernel
theorem dX2_parsePoint_86 : decode cX2_parsePoint 86 = .ok (.aload_n 0, 1) := by decide +kernel
theorem dX2_parsePoint_87 : decode cX2_parsePoint 87 = .ok (.getfield 35, 3) := by decide +kernel
theorem dX2_parsePoint_90 : decode cX2_parsePoint 90 = .ok (.arraylength, 1) := by decide +kernel
theorem dX2_parsePoint_91 : decode cX2_parsePoint 91 = .ok (.if_icmp .ge 43, 3) := by decide +kernel
theorem dX2_parsePoint_94 : decode cX2_parsePoint 94 = .ok (.aload_n 0, 1) := by decide +kernel
theorem dX2_parsePoint_95 : decode cX2_parsePoint 95 = .ok (.getfield 28, 3) := by decide +kernel
theorem dX2_parsePoint_98 : decode cX2_parsePoint 98 = .ok (.aload_n 0, 1) := by decide +kernel
theorem dX2_parsePoint_99 : decode cX2_parsePoint 99 = .ok (.getfield 39, 3) := by decide +kernel
theorem dX2_parsePoint_102 : decode cX2_parsePoint 102 = .ok (.iload_n 2, 1) := by decide +kernel
theorem dX2_parsePoint_103 : decode cX2_parsePoint 103 = .ok (.iastore, 1) := by decide +kernel
theorem dX2_parsePoint_104 : decode cX2_parsePoint 104 = .ok (.aload_n 0, 1) := by decide +kernel
theorem dX2_parsePoint_105 : decode cX2_parsePoint 105 = .ok (.getfield 32, 3) := by decide +kernel
theorem dX2_parsePoint_108 : decode cX2_parsePoint 108 = .ok (.aload_n 0, 1) := by decide +kernel
theorem dX2_parsePoint_109 : decode cX2_parsePoint 109 = .ok (.getfield 39, 3) := by decide +kernel
theorem dX2_parsePoint_112 : decode cX2_parsePoint 112 = .ok (.iload_n 3, 1) := by decide +kernel
theorem dX2_parsePoint_113 : decode cX2_parsePoint 113 = .ok (.iastore, 1) := by decide +kernel
theorem dX2_parsePoint_114 : decode cX2_parsePoint 114 = .ok (.aload_n 0, 1) := by decide +kernel
theorem dX2_parsePoint_115 : decode cX2_parsePoint 115 = .ok (.getfield 35, 3) := by decide +kernel
theorem dX2_parsePoint_118 : decode cX2_parsePoint 118 = .ok (.aload_n 0, 1) := by decide +kernel
theorem dX2_parsePoint_119 : decode cX2_parsePoint 119 = .ok (.getfield 39, 3) := by decide +kernel
theorem dX2_parsePoint_122 : decode cX2_parsePoint 122 = .ok (.iload_n 1, 1) := by decide +kernel
theorem dX2_parsePoint_123 : decode cX2_parsePoint 123 = .ok (.bastore, 1) := by decide +kernel
theorem dX2_parsePoint_124 : decode cX2_parsePoint 124 = .ok (.aload_n 0, 1) := by decide +kernel
theorem dX2_parsePoint_125 : decode cX2_parsePoint 125 = .ok (.dup, 1) := by decide +kernel
theorem dX2_parsePoint_126 : decode cX2_parsePoint 126 = .ok (.getfield 39, 3) := by decide +kernel
theorem dX2_parsePoint_129 : decode cX2_parsePoint 129 = .ok (.iconst 1, 1) := by decide +kernel
theorem dX2_parsePoint_130 : decode cX2_parsePoint 130 = .ok (.iadd, 1) := by decide +kernel
theorem dX2_parsePoint_131 : decode cX2_parsePoint 131 = .ok (.putfield 39, 3) := by decide +kernel
theorem dX2_parsePoint_134 : decode cX2_parsePoint 134 = .ok (.return_, 1) := by decide +kernel
theorem dX2_parseNumber_0 : decode cX2_parseNumber 0 = .ok (.aload_n 0, 1) := by decide +kernel
theorem dX2_parseNumber_1 : decode cX2_parseNumber 1 = .ok (.getfield 19, 3) := by decide +kernel
theorem dX2_parseNumber_4 : decode cX2_parseNumber 4 = .ok (.istore_n 1, 1) := by decide +kernel
theorem dX2_parseNumber_5 : decode cX2_parseNumber 5 = .ok (.iconst 0, 1) := by decide +kernel
theorem dX2_parseNumber_6 : decode cX2_parseNumber 6 = .ok (.istore_n 2, 1) := by decide +kernel
theorem dX2_parseNumber_7 : decode cX2_parseNumber 7 = .ok (.iconst 0, 1) := by decide +kernel
theorem dX2_parseNumber_8 : decode cX2_parseNumber 8 = .ok (.istore_n 3, 1) := by decide +kernel
theorem dX2_parseNumber_9 : decode cX2_parseNumber 9 = .ok (.iload_n 3, 1) := by decide +kernel
theorem dX2_parseNumber_10 : decode cX2_parseNumber 10 = .ok (.iconst 4, 1) := by decide +kernel
theorem dX2_parseNumber_11 : decode cX2_parseNumber 11 = .ok (.if_icmp .ge 42, 3) := by decide +kernel
theorem dX2_parseNumber_14 : decode cX2_parseNumber 14 = .ok (.aload_n 0, 1) := by decide +kernel
theorem dX2_parseNumber_15 : decode cX2_parseNumber 15 = .ok (.invokevirtual 46, 3) := by decide +kernel
theorem dX2_parseNumber_18 : decode cX2_parseNumber 18 = .ok (.invokestatic 61, 3) := by decide +kernel
theorem dX2_parseNumber_21 : decode cX2_parseNumber 21 = .ok (.ifCond .eq 32, 3) := by decide +kernel
theorem dX2_parseNumber_24 : decode cX2_parseNumber 24 = .ok (.iload_n 2, 1) := by decide +kernel
theorem dX2_parseNumber_25 : decode cX2_parseNumber 25 = .ok (.bipush 10, 2) := by decide +kernel
theorem dX2_parseNumber_27 : decode cX2_parseNumber 27 = .ok (.imul, 1) := by decide +kernel
theorem dX2_parseNumber_28 : decode cX2_parseNumber 28 = .ok (.aload_n 0, 1) := by decide +kernel
theorem dX2_parseNumber_29 : decode cX2_parseNumber 29 = .ok (.invokevirtual 46, 3) := by decide +kernel
theorem dX2_parseNumber_32 : decode cX2_parseNumber 32 = .ok (.iadd, 1) := by decide +kernel
theorem dX2_parseNumber_33 : decode cX2_parseNumber 33 = .ok (.bipush 48, 2) := by decide +kernel
theorem dX2_parseNumber_35 : decode cX2_parseNumber 35 = .ok (.isub, 1) := by decide +kernel
theorem dX2_parseNumber_36 : decode cX2_parseNumber 36 = .ok (.istore_n 2, 1) := by decide +kernel
theorem dX2_parseNumber_37 : decode cX2_parseNumber 37 = .ok (.aload_n 0, 1) := by decide +kernel
theorem dX2_parseNumber_38 : decode cX2_parseNumber 38 = .ok (.dup, 1) := by decide +kernel
theorem dX2_parseNumber_39 : decode cX2_parseNumber 39 = .ok (.getfield 19, 3) := by decide +kernel
theorem dX2_parseNumber_42 : decode cX2_parseNumber 42 = .ok (.iconst 1, 1) := by decide +kernel
theorem dX2_parseNumber_43 : decode cX2_parseNumber 43 = .ok (.iadd, 1) := by decide +kernel
theorem dX2_parseNumber_44 : decode cX2_parseNumber 44 = .ok (.putfield 19, 3) := by decide +kernel
theorem dX2_parseNumber_47 : decode cX2_parseNumber 47 = .ok (.iinc 3 1, 3) := by decide +kernel
theorem dX2_parseNumber_50 : decode cX2_parseNumber 50 = .ok (.goto (-41), 3) := by decide +kernel
theorem dX2_parseNumber_53 : decode cX2_parseNumber 53 = .ok (.aload_n 0, 1) := by decide +kernel
theorem dX2_parseNumber_54 : decode cX2_parseNumber 54 = .ok (.getfield 19, 3) := by decide +kernel
theorem dX2_parseNumber_57 : decode cX2_parseNumber 57 = .ok (.iload_n 1, 1) := by decide +kernel
theorem dX2_parseNumber_58 : decode cX2_parseNumber 58 = .ok (.if_icmp .ne 10, 3) := by decide +kernel
theorem dX2_parseNumber_61 : decode cX2_parseNumber 61 = .ok (.aload_n 0, 1) := by decide +kernel
theorem dX2_parseNumber_62 : decode cX2_parseNumber 62 = .ok (.invokevirtual 58, 3) := by decide +kernel
theorem dX2_parseNumber_65 : decode cX2_parseNumber 65 = .ok (.goto 16, 3) := by decide +kernel
theorem dX2_parseNumber_68 : decode cX2_parseNumber 68 = .ok (.iload_n 2, 1) := by decide +kernel
theorem dX2_parseNumber_69 : decode cX2_parseNumber 69 = .ok (.sipush 1000, 3) := by decide +kernel
theorem dX2_parseNumber_72 : decode cX2_parseNumber 72 = .ok (.if_icmp .le 9, 3) := by decide +kernel
theorem dX2_parseNumber_75 : decode cX2_parseNumber 75 = .ok (.aload_n 0, 1) := by decide +kernel
theorem dX2_parseNumber_76 : decode cX2_parseNumber 76 = .ok (.iload_n 1, 1) := by decide +kernel
theorem dX2_parseNumber_77 : decode cX2_parseNumber 77 = .ok (.iconst 3, 1) := by decide +kernel
theorem dX2_parseNumber_78 : decode cX2_parseNumber 78 = .ok (.invokevirtual 64, 3) := by decide +kernel
theorem dX2_parseNumber_81 : decode cX2_parseNumber 81 = .ok (.iload_n 2, 1) := by decide +kernel
theorem dX2_parseNumber_82 : decode cX2_parseNumber 82 = .ok (.ireturn, 1) := by decide +kernel
theorem dX2_here_0 : decode cX2_here 0 = .ok (.aload_n 0, 1) := by decide +kernel
theorem dX2_here_1 : decode cX2_here 1 = .ok (.getfield 19, 3) := by decide +kernel
theorem dX2_here_4 : decode cX2_here 4 = .ok (.ifCond .lt 38, 3) := by decide +kernel
theorem dX2_here_7 : decode cX2_here 7 = .ok (.aload_n 0, 1) := by decide +kernel
theorem dX2_here_8 : decode cX2_here 8 = .ok (.getfield 19, 3) := by decide +kernel
theorem dX2_here_11 : decode cX2_here 11 = .ok (.aload_n 0, 1) := by decide +kernel
theorem dX2_here_12 : decode cX2_here 12 = .ok (.getfield 15, 3) := by decide +kernel
theorem dX2_here_15 : decode cX2_here 15 = .ok (.if_icmp .ge 27, 3) := by decide +kernel
theorem dX2_here_18 : decode cX2_here 18 = .ok (.aload_n 0, 1) := by decide +kernel
theorem dX2_here_19 : decode cX2_here 19 = .ok (.getfield 19, 3) := by decide +kernel
theorem dX2_here_22 : decode cX2_here 22 = .ok (.aload_n 0, 1) := by decide +kernel
theorem dX2_here_23 : decode cX2_here 23 = .ok (.getfield 9, 3) := by decide +kernel
theorem dX2_here_26 : decode cX2_here 26 = .ok (.arraylength, 1) := by decide +kernel
theorem dX2_here_27 : decode cX2_here 27 = .ok (.if_icmp .ge 15, 3) := by decide +kernel
theorem dX2_here_30 : decode cX2_here 30 = .ok (.aload_n 0, 1) := by decide +kernel
theorem dX2_here_31 : decode cX2_here 31 = .ok (.getfield 9, 3) := by decide +kernel
theorem dX2_here_34 : decode cX2_here 34 = .ok (.aload_n 0, 1) := by decide +kernel
theorem dX2_here_35 : decode cX2_here 35 = .ok (.getfield 19, 3) := by decide +kernel
theorem dX2_here_38 : decode cX2_here 38 = .ok (.caload, 1) := by decide +kernel
theorem dX2_here_39 : decode cX2_here 39 = .ok (.goto 4, 3) := by decide +kernel
theorem dX2_here_42 : decode cX2_here 42 = .ok (.iconst 0, 1) := by decide +kernel
theorem dX2_here_43 : decode cX2_here 43 = .ok (.ireturn, 1) := by decide +kernel
theorem dX2_isDigit_0 : decode cX2_isDigit 0 = .ok (.iload_n 0, 1) := by decide +kernel
theorem dX2_isDigit_1 : decode cX2_isDigit 1 = .ok (.bipush 48, 2) := by decide +kernel
theorem dX2_isDigit_3 : decode cX2_isDigit 3 = .ok (.if_icmp .lt 13, 3) := by decide +kernel
theorem dX2_isDigit_6 : decode cX2_isDigit 6 = .ok (.iload_n 0, 1) := by decide +kernel
theorem dX2_isDigit_7 : decode cX2_isDigit 7 = .ok (.bipush 57, 2) := by decide +kernel
theorem dX2_isDigit_9 : decode cX2_isDigit 9 = .ok (.if_icmp .gt 7, 3) := by decide +kernel
theorem dX2_isDigit_12 : decode cX2_isDigit 12 = .ok (.iconst 1, 1) := by decide +kernel
theorem dX2_isDigit_13 : decode cX2_isDigit 13 = .ok (.goto 4, 3) := by decide +kernel
theorem dX2_isDigit_16 : decode cX2_isDigit 16 = .ok (.iconst 0, 1) := by decide +kernel
theorem dX2_isDigit_17 : decode cX2_isDigit 17 = .ok (.ireturn, 1) := by decide +kernel
theorem dX2_accept_0 : decode cX2_accept 0 = .ok (.aload_n 0, 1) := by decide +kernel
theorem dX2_accept_1 : decode cX2_accept 1 = .ok (.invokevirtual 46, 3) := by decide +kernel
theorem dX2_accept_4 : decode cX2_accept 4 = .ok (.iload_n 1, 1) := by decide +kernel
theorem dX2_accept_5 : decode cX2_accept 5 = .ok (.if_icmp .eq 5, 3) := by decide +kernel
theorem dX2_accept_8 : decode cX2_accept 8 = .ok (.iconst 0, 1) := by decide +kernel
theorem dX2_accept_9 : decode cX2_accept 9 = .ok (.ireturn, 1) := by decide +kernel
theorem dX2_accept_10 : decode cX2_accept 10 = .ok (.aload_n 0, 1) := by decide +kernel
theorem dX2_accept_11 : decode cX2_accept 11 = .ok (.dup, 1) := by decide +kernel
theorem dX2_accept_12 : decode cX2_accept 12 = .ok (.getfield 19, 3) := by decide +kernel
theorem dX2_accept_15 : decode cX2_accept 15 = .ok (.iconst 1, 1) := by decide +kernel
theorem dX2_accept_16 : decode cX2_accept 16 = .ok (.iadd, 1) := by decide +kernel
theorem dX2_accept_17 : decode cX2_accept 17 = .ok (.putfield 19, 3) := by decide +kernel
theorem dX2_accept_20 : decode cX2_accept 20 = .ok (.iconst 1, 1) := by decide +kernel
theorem dX2_accept_21 : decode cX2_accept 21 = .ok (.ireturn, 1) := by decide +kernel
theorem dX2_expect_0 : decode cX2_expect 0 = .ok (.aload_n 0, 1) := by decide +kernel
theorem dX2_expect_1 : decode cX2_expect 1 = .ok (.getfield 25, 3) := by decide +kernel
theorem dX2_expect_4 : decode cX2_expect 4 = .ok (.ifCond .ne 15, 3) := by decide +kernel
theorem dX2_expect_7 : decode cX2_expect 7 = .ok (.aload_n 0, 1) := by decide +kernel
theorem dX2_expect_8 : decode cX2_expect 8 = .ok (.iload_n 1, 1) := by decide +kernel
theorem dX2_expect_9 : decode cX2_expect 9 = .ok (.invokevirtual 50, 3) := by decide +kernel
theorem dX2_expect_12 : decode cX2_expect 12 = .ok (.ifCond .ne 7, 3) := by decide +kernel
theorem dX2_expect_15 : decode cX2_expect 15 = .ok (.aload_n 0, 1) := by decide +kernel
theorem dX2_expect_16 : decode cX2_expect 16 = .ok (.invokevirtual 58, 3) := by decide +kernel
theorem dX2_expect_19 : decode cX2_expect 19 = .ok (.return_, 1) := by decide +kernel
theorem dX2_failHere_0 : decode cX2_failHere 0 = .ok (.aload_n 0, 1) := by decide +kernel
theorem dX2_failHere_1 : decode cX2_failHere 1 = .ok (.aload_n 0, 1) := by decide +kernel
theorem dX2_failHere_2 : decode cX2_failHere 2 = .ok (.getfield 19, 3) := by decide +kernel
theorem dX2_failHere_5 : decode cX2_failHere 5 = .ok (.aload_n 0, 1) := by decide +kernel
theorem dX2_failHere_6 : decode cX2_failHere 6 = .ok (.getfield 19, 3) := by decide +kernel
theorem dX2_failHere_9 : decode cX2_failHere 9 = .ok (.aload_n 0, 1) := by decide +kernel
theorem dX2_failHere_10 : decode cX2_failHere 10 = .ok (.getfield 15, 3) := by decide +kernel
theorem dX2_failHere_13 : decode cX2_failHere 13 = .ok (.if_icmp .ge 7, 3) := by decide +kernel
theorem dX2_failHere_16 : decode cX2_failHere 16 = .ok (.iconst 1, 1) := by decide +kernel
theorem dX2_failHere_17 : decode cX2_failHere 17 = .ok (.goto 4, 3) := by decide +kernel
theorem dX2_failHere_20 : decode cX2_failHere 20 = .ok (.iconst 2, 1) := by decide +kernel
theorem dX2_failHere_21 : decode cX2_failHere 21 = .ok (.invokevirtual 64, 3) := by decide +kernel
theorem dX2_failHere_24 : decode cX2_failHere 24 = .ok (.return_, 1) := by decide +kernel
theorem dX2_fail_0 : decode cX2_fail 0 = .ok (.aload_n 0, 1) := by decide +kernel
theorem dX2_fail_1 : decode cX2_fail 1 = .ok (.getfield 25, 3) := by decide +kernel
theorem dX2_fail_4 : decode cX2_fail 4 = .ok (.ifCond .ne 13, 3) := by decide +kernel
theorem dX2_fail_7 : decode cX2_fail 7 = .ok (.aload_n 0, 1) := by decide +kernel
theorem dX2_fail_8 : decode cX2_fail 8 = .ok (.iload_n 1, 1) := by decide +kernel
theorem dX2_fail_9 : decode cX2_fail 9 = .ok (.putfield 22, 3) := by decide +kernel
theorem dX2_fail_12 : decode cX2_fail 12 = .ok (.aload_n 0, 1) := by decide +kernel
theorem dX2_fail_13 : decode cX2_fail 13 = .ok (.iload_n 2, 1) := by decide +kernel
theorem dX2_fail_14 : decode cX2_fail 14 = .ok (.putfield 25, 3) := by decide +kernel
theorem dX2_fail_17 : decode cX2_fail 17 = .ok (.return_, 1) := by decide +kernel
theorem dX2_addPointsTo_0 : decode cX2_addPointsTo 0 = .ok (.iconst 0, 1) := by decide +kernel
theorem dX2_addPointsTo_1 : decode cX2_addPointsTo 1 = .ok (.istore_n 2, 1) := by decide +kernel
theorem dX2_addPointsTo_2 : decode cX2_addPointsTo 2 = .ok (.iload_n 2, 1) := by decide +kernel
theorem dX2_addPointsTo_3 : decode cX2_addPointsTo 3 = .ok (.aload_n 0, 1) := by decide +kernel
theorem dX2_addPointsTo_4 : decode cX2_addPointsTo 4 = .ok (.getfield 39, 3) := by decide +kernel
theorem dX2_addPointsTo_7 : decode cX2_addPointsTo 7 = .ok (.if_icmp .ge 68, 3) := by decide +kernel
theorem dX2_addPointsTo_10 : decode cX2_addPointsTo 10 = .ok (.iload_n 2, 1) := by decide +kernel
theorem dX2_addPointsTo_11 : decode cX2_addPointsTo 11 = .ok (.aload_n 0, 1) := by decide +kernel
theorem dX2_addPointsTo_12 : decode cX2_addPointsTo 12 = .ok (.getfield 28, 3) := by decide +kernel
theorem dX2_addPointsTo_15 : decode cX2_addPointsTo 15 = .ok (.arraylength, 1) := by decide +kernel
theorem dX2_addPointsTo_16 : decode cX2_addPointsTo 16 = .ok (.if_icmp .ge 59, 3) := by decide +kernel
theorem dX2_addPointsTo_19 : decode cX2_addPointsTo 19 = .ok (.iload_n 2, 1) := by decide +kernel
theorem dX2_addPointsTo_20 : decode cX2_addPointsTo 20 = .ok (.aload_n 0, 1) := by decide +kernel
theorem dX2_addPointsTo_21 : decode cX2_addPointsTo 21 = .ok (.getfield 32, 3) := by decide +kernel
theorem dX2_addPointsTo_24 : decode cX2_addPointsTo 24 = .ok (.arraylength, 1) := by decide +kernel
theorem dX2_addPointsTo_25 : decode cX2_addPointsTo 25 = .ok (.if_icmp .ge 50, 3) := by decide +kernel
theorem dX2_addPointsTo_28 : decode cX2_addPointsTo 28 = .ok (.iload_n 2, 1) := by decide +kernel
theorem dX2_addPointsTo_29 : decode cX2_addPointsTo 29 = .ok (.aload_n 0, 1) := by decide +kernel
theorem dX2_addPointsTo_30 : decode cX2_addPointsTo 30 = .ok (.getfield 35, 3) := by decide +kernel
theorem dX2_addPointsTo_33 : decode cX2_addPointsTo 33 = .ok (.arraylength, 1) := by decide +kernel
theorem dX2_addPointsTo_34 : decode cX2_addPointsTo 34 = .ok (.if_icmp .ge 41, 3) := by decide +kernel
theorem dX2_addPointsTo_37 : decode cX2_addPointsTo 37 = .ok (.aload_n 1, 1) := by decide +kernel
theorem dX2_addPointsTo_38 : decode cX2_addPointsTo 38 = .ok (.aload_n 0, 1) := by decide +kernel
theorem dX2_addPointsTo_39 : decode cX2_addPointsTo 39 = .ok (.getfield 28, 3) := by decide +kernel
theorem dX2_addPointsTo_42 : decode cX2_addPointsTo 42 = .ok (.iload_n 2, 1) := by decide +kernel
theorem dX2_addPointsTo_43 : decode cX2_addPointsTo 43 = .ok (.iaload, 1) := by decide +kernel
theorem dX2_addPointsTo_44 : decode cX2_addPointsTo 44 = .ok (.i2l, 1) := by decide +kernel
theorem dX2_addPointsTo_45 : decode cX2_addPointsTo 45 = .ok (.aload_n 0, 1) := by decide +kernel
theorem dX2_addPointsTo_46 : decode cX2_addPointsTo 46 = .ok (.getfield 32, 3) := by decide +kernel
theorem dX2_addPointsTo_49 : decode cX2_addPointsTo 49 = .ok (.iload_n 2, 1) := by decide +kernel
theorem dX2_addPointsTo_50 : decode cX2_addPointsTo 50 = .ok (.iaload, 1) := by decide +kernel
theorem dX2_addPointsTo_51 : decode cX2_addPointsTo 51 = .ok (.i2l, 1) := by decide +kernel
theorem dX2_addPointsTo_52 : decode cX2_addPointsTo 52 = .ok (.aload_n 0, 1) := by decide +kernel
theorem dX2_addPointsTo_53 : decode cX2_addPointsTo 53 = .ok (.getfield 35, 3) := by decide +kernel
theorem dX2_addPointsTo_56 : decode cX2_addPointsTo 56 = .ok (.iload_n 2, 1) := by decide +kernel
theorem dX2_addPointsTo_57 : decode cX2_addPointsTo 57 = .ok (.baload, 1) := by decide +kernel
theorem dX2_addPointsTo_58 : decode cX2_addPointsTo 58 = .ok (.ifCond .eq 7, 3) := by decide +kernel
theorem dX2_addPointsTo_61 : decode cX2_addPointsTo 61 = .ok (.iconst 1, 1) := by decide +kernel
theorem dX2_addPointsTo_62 : decode cX2_addPointsTo 62 = .ok (.goto 4, 3) := by decide +kernel
theorem dX2_addPointsTo_65 : decode cX2_addPointsTo 65 = .ok (.iconst (-1), 1) := by decide +kernel
theorem dX2_addPointsTo_66 : decode cX2_addPointsTo 66 = .ok (.invokevirtual 72, 3) := by decide +kernel
theorem dX2_addPointsTo_69 : decode cX2_addPointsTo 69 = .ok (.iinc 2 1, 3) := by decide +kernel
theorem dX2_addPointsTo_72 : decode cX2_addPointsTo 72 = .ok (.goto (-70), 3) := by decide +kernel
theorem dX2_addPointsTo_75 : decode cX2_addPointsTo 75 = .ok (.return_, 1) := by decide +kernel
