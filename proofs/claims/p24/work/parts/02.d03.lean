theorem dX0_init_0 : decode cX0_init 0 = .ok (.aload_n 0, 1) := by decide +kernel
theorem dX0_init_1 : decode cX0_init 1 = .ok (.invokespecial 3, 3) := by decide +kernel
theorem dX0_init_4 : decode cX0_init 4 = .ok (.aload_n 0, 1) := by decide +kernel
theorem dX0_init_5 : decode cX0_init 5 = .ok (.iconst 1, 1) := by decide +kernel
theorem dX0_init_6 : decode cX0_init 6 = .ok (.putfield 9, 3) := by decide +kernel
theorem dX0_init_9 : decode cX0_init 9 = .ok (.aload_n 0, 1) := by decide +kernel
theorem dX0_init_10 : decode cX0_init 10 = .ok (.iconst 1, 1) := by decide +kernel
theorem dX0_init_11 : decode cX0_init 11 = .ok (.putfield 15, 3) := by decide +kernel
theorem dX0_init_14 : decode cX0_init 14 = .ok (.aload_n 0, 1) := by decide +kernel
theorem dX0_init_15 : decode cX0_init 15 = .ok (.iconst 0, 1) := by decide +kernel
theorem dX0_init_16 : decode cX0_init 16 = .ok (.putfield 18, 3) := by decide +kernel
theorem dX0_init_19 : decode cX0_init 19 = .ok (.aload_n 0, 1) := by decide +kernel
theorem dX0_init_20 : decode cX0_init 20 = .ok (.iconst 0, 1) := by decide +kernel
theorem dX0_init_21 : decode cX0_init 21 = .ok (.putfield 21, 3) := by decide +kernel
theorem dX0_init_24 : decode cX0_init 24 = .ok (.aload_n 0, 1) := by decide +kernel
theorem dX0_init_25 : decode cX0_init 25 = .ok (.getstatic 24, 3) := by decide +kernel
theorem dX0_init_28 : decode cX0_init 28 = .ok (.arraylength, 1) := by decide +kernel
theorem dX0_init_29 : decode cX0_init 29 = .ok (.newarray .int, 2) := by decide +kernel
theorem dX0_init_31 : decode cX0_init 31 = .ok (.putfield 28, 3) := by decide +kernel
theorem dX0_init_34 : decode cX0_init 34 = .ok (.aload_n 0, 1) := by decide +kernel
theorem dX0_init_35 : decode cX0_init 35 = .ok (.iconst 0, 1) := by decide +kernel
theorem dX0_init_36 : decode cX0_init 36 = .ok (.putfield 31, 3) := by decide +kernel
theorem dX0_init_39 : decode cX0_init 39 = .ok (.aload_n 0, 1) := by decide +kernel
theorem dX0_init_40 : decode cX0_init 40 = .ok (.bipush 10, 2) := by decide +kernel
theorem dX0_init_42 : decode cX0_init 42 = .ok (.putfield 34, 3) := by decide +kernel
theorem dX0_init_45 : decode cX0_init 45 = .ok (.aload_n 0, 1) := by decide +kernel
theorem dX0_init_46 : decode cX0_init 46 = .ok (.iconst 0, 1) := by decide +kernel
theorem dX0_init_47 : decode cX0_init 47 = .ok (.putfield 37, 3) := by decide +kernel
theorem dX0_init_50 : decode cX0_init 50 = .ok (.aload_n 0, 1) := by decide +kernel
theorem dX0_init_51 : decode cX0_init 51 = .ok (.iconst 0, 1) := by decide +kernel
theorem dX0_init_52 : decode cX0_init 52 = .ok (.putfield 40, 3) := by decide +kernel
theorem dX0_init_55 : decode cX0_init 55 = .ok (.aload_n 0, 1) := by decide +kernel
theorem dX0_init_56 : decode cX0_init 56 = .ok (.iconst 0, 1) := by decide +kernel
theorem dX0_init_57 : decode cX0_init 57 = .ok (.putfield 43, 3) := by decide +kernel
theorem dX0_init_60 : decode cX0_init 60 = .ok (.aload_n 0, 1) := by decide +kernel
theorem dX0_init_61 : decode cX0_init 61 = .ok (.bipush 6, 2) := by decide +kernel
theorem dX0_init_63 : decode cX0_init 63 = .ok (.anewarray 46, 3) := by decide +kernel
theorem dX0_init_66 : decode cX0_init 66 = .ok (.putfield 48, 3) := by decide +kernel
theorem dX0_init_69 : decode cX0_init 69 = .ok (.aload_n 0, 1) := by decide +kernel
theorem dX0_init_70 : decode cX0_init 70 = .ok (.iconst 0, 1) := by decide +kernel
theorem dX0_init_71 : decode cX0_init 71 = .ok (.putfield 52, 3) := by decide +kernel
theorem dX0_init_74 : decode cX0_init 74 = .ok (.iconst 0, 1) := by decide +kernel
theorem dX0_init_75 : decode cX0_init 75 = .ok (.istore_n 1, 1) := by decide +kernel
theorem dX0_init_76 : decode cX0_init 76 = .ok (.iload_n 1, 1) := by decide +kernel
theorem dX0_init_77 : decode cX0_init 77 = .ok (.aload_n 0, 1) := by decide +kernel
theorem dX0_init_78 : decode cX0_init 78 = .ok (.getfield 28, 3) := by decide +kernel
theorem dX0_init_81 : decode cX0_init 81 = .ok (.arraylength, 1) := by decide +kernel
theorem dX0_init_82 : decode cX0_init 82 = .ok (.if_icmp .ge 28, 3) := by decide +kernel
theorem dX0_init_85 : decode cX0_init 85 = .ok (.iload_n 1, 1) := by decide +kernel
theorem dX0_init_86 : decode cX0_init 86 = .ok (.getstatic 24, 3) := by decide +kernel
theorem dX0_init_89 : decode cX0_init 89 = .ok (.arraylength, 1) := by decide +kernel
theorem dX0_init_90 : decode cX0_init 90 = .ok (.if_icmp .ge 20, 3) := by decide +kernel
theorem dX0_init_93 : decode cX0_init 93 = .ok (.aload_n 0, 1) := by decide +kernel
theorem dX0_init_94 : decode cX0_init 94 = .ok (.getfield 28, 3) := by decide +kernel
theorem dX0_init_97 : decode cX0_init 97 = .ok (.iload_n 1, 1) := by decide +kernel
theorem dX0_init_98 : decode cX0_init 98 = .ok (.getstatic 24, 3) := by decide +kernel
theorem dX0_init_101 : decode cX0_init 101 = .ok (.iload_n 1, 1) := by decide +kernel
theorem dX0_init_102 : decode cX0_init 102 = .ok (.iaload, 1) := by decide +kernel
theorem dX0_init_103 : decode cX0_init 103 = .ok (.iastore, 1) := by decide +kernel
theorem dX0_init_104 : decode cX0_init 104 = .ok (.iinc 1 1, 3) := by decide +kernel
theorem dX0_init_107 : decode cX0_init 107 = .ok (.goto (-31), 3) := by decide +kernel
theorem dX0_init_110 : decode cX0_init 110 = .ok (.iconst 0, 1) := by decide +kernel
theorem dX0_init_111 : decode cX0_init 111 = .ok (.istore_n 1, 1) := by decide +kernel
theorem dX0_init_112 : decode cX0_init 112 = .ok (.iload_n 1, 1) := by decide +kernel
theorem dX0_init_113 : decode cX0_init 113 = .ok (.aload_n 0, 1) := by decide +kernel
theorem dX0_init_114 : decode cX0_init 114 = .ok (.getfield 48, 3) := by decide +kernel
theorem dX0_init_117 : decode cX0_init 117 = .ok (.arraylength, 1) := by decide +kernel
theorem dX0_init_118 : decode cX0_init 118 = .ok (.if_icmp .ge 22, 3) := by decide +kernel
theorem dX0_init_121 : decode cX0_init 121 = .ok (.aload_n 0, 1) := by decide +kernel
theorem dX0_init_122 : decode cX0_init 122 = .ok (.getfield 48, 3) := by decide +kernel
theorem dX0_init_125 : decode cX0_init 125 = .ok (.iload_n 1, 1) := by decide +kernel
theorem dX0_init_126 : decode cX0_init 126 = .ok (.new 46, 3) := by decide +kernel
theorem dX0_init_129 : decode cX0_init 129 = .ok (.dup, 1) := by decide +kernel
theorem dX0_init_130 : decode cX0_init 130 = .ok (.invokespecial 55, 3) := by decide +kernel
theorem dX0_init_133 : decode cX0_init 133 = .ok (.aastore, 1) := by decide +kernel
theorem dX0_init_134 : decode cX0_init 134 = .ok (.iinc 1 1, 3) := by decide +kernel
theorem dX0_init_137 : decode cX0_init 137 = .ok (.goto (-25), 3) := by decide +kernel
theorem dX0_init_140 : decode cX0_init 140 = .ok (.return_, 1) := by decide +kernel
theorem dX0_takeFrom_0 : decode cX0_takeFrom 0 = .ok (.aload_n 0, 1) := by decide +kernel
theorem dX0_takeFrom_1 : decode cX0_takeFrom 1 = .ok (.aload_n 1, 1) := by decide +kernel
theorem dX0_takeFrom_2 : decode cX0_takeFrom 2 = .ok (.getfield 9, 3) := by decide +kernel
theorem dX0_takeFrom_5 : decode cX0_takeFrom 5 = .ok (.putfield 9, 3) := by decide +kernel
theorem dX0_takeFrom_8 : decode cX0_takeFrom 8 = .ok (.aload_n 0, 1) := by decide +kernel
theorem dX0_takeFrom_9 : decode cX0_takeFrom 9 = .ok (.aload_n 1, 1) := by decide +kernel
theorem dX0_takeFrom_10 : decode cX0_takeFrom 10 = .ok (.getfield 15, 3) := by decide +kernel
theorem dX0_takeFrom_13 : decode cX0_takeFrom 13 = .ok (.putfield 15, 3) := by decide +kernel
theorem dX0_takeFrom_16 : decode cX0_takeFrom 16 = .ok (.aload_n 0, 1) := by decide +kernel
theorem dX0_takeFrom_17 : decode cX0_takeFrom 17 = .ok (.aload_n 1, 1) := by decide +kernel
theorem dX0_takeFrom_18 : decode cX0_takeFrom 18 = .ok (.getfield 18, 3) := by decide +kernel
theorem dX0_takeFrom_21 : decode cX0_takeFrom 21 = .ok (.putfield 18, 3) := by decide +kernel
theorem dX0_takeFrom_24 : decode cX0_takeFrom 24 = .ok (.aload_n 0, 1) := by decide +kernel
theorem dX0_takeFrom_25 : decode cX0_takeFrom 25 = .ok (.aload_n 1, 1) := by decide +kernel
theorem dX0_takeFrom_26 : decode cX0_takeFrom 26 = .ok (.getfield 21, 3) := by decide +kernel
theorem dX0_takeFrom_29 : decode cX0_takeFrom 29 = .ok (.putfield 21, 3) := by decide +kernel
theorem dX0_takeFrom_32 : decode cX0_takeFrom 32 = .ok (.iconst 0, 1) := by decide +kernel
theorem dX0_takeFrom_33 : decode cX0_takeFrom 33 = .ok (.istore_n 2, 1) := by decide +kernel
theorem dX0_takeFrom_34 : decode cX0_takeFrom 34 = .ok (.iload_n 2, 1) := by decide +kernel
theorem dX0_takeFrom_35 : decode cX0_takeFrom 35 = .ok (.aload_n 0, 1) := by decide +kernel
theorem dX0_takeFrom_36 : decode cX0_takeFrom 36 = .ok (.getfield 28, 3) := by decide +kernel
theorem dX0_takeFrom_39 : decode cX0_takeFrom 39 = .ok (.arraylength, 1) := by decide +kernel
theorem dX0_takeFrom_40 : decode cX0_takeFrom 40 = .ok (.if_icmp .ge 20, 3) := by decide +kernel
theorem dX0_takeFrom_43 : decode cX0_takeFrom 43 = .ok (.aload_n 0, 1) := by decide +kernel
theorem dX0_takeFrom_44 : decode cX0_takeFrom 44 = .ok (.getfield 28, 3) := by decide +kernel
theorem dX0_takeFrom_47 : decode cX0_takeFrom 47 = .ok (.iload_n 2, 1) := by decide +kernel
theorem dX0_takeFrom_48 : decode cX0_takeFrom 48 = .ok (.aload_n 1, 1) := by decide +kernel
theorem dX0_takeFrom_49 : decode cX0_takeFrom 49 = .ok (.iload_n 2, 1) := by decide +kernel
theorem dX0_takeFrom_50 : decode cX0_takeFrom 50 = .ok (.invokevirtual 56, 3) := by decide +kernel
theorem dX0_takeFrom_53 : decode cX0_takeFrom 53 = .ok (.iastore, 1) := by decide +kernel
theorem dX0_takeFrom_54 : decode cX0_takeFrom 54 = .ok (.iinc 2 1, 3) := by decide +kernel
theorem dX0_takeFrom_57 : decode cX0_takeFrom 57 = .ok (.goto (-23), 3) := by decide +kernel
theorem dX0_takeFrom_60 : decode cX0_takeFrom 60 = .ok (.aload_n 0, 1) := by decide +kernel
theorem dX0_takeFrom_61 : decode cX0_takeFrom 61 = .ok (.aload_n 1, 1) := by decide +kernel
theorem dX0_takeFrom_62 : decode cX0_takeFrom 62 = .ok (.getfield 31, 3) := by decide +kernel
theorem dX0_takeFrom_65 : decode cX0_takeFrom 65 = .ok (.putfield 31, 3) := by decide +kernel
theorem dX0_takeFrom_68 : decode cX0_takeFrom 68 = .ok (.aload_n 0, 1) := by decide +kernel
theorem dX0_takeFrom_69 : decode cX0_takeFrom 69 = .ok (.aload_n 1, 1) := by decide +kernel
theorem dX0_takeFrom_70 : decode cX0_takeFrom 70 = .ok (.getfield 34, 3) := by decide +kernel
theorem dX0_takeFrom_73 : decode cX0_takeFrom 73 = .ok (.putfield 34, 3) := by decide +kernel
theorem dX0_takeFrom_76 : decode cX0_takeFrom 76 = .ok (.aload_n 0, 1) := by decide +kernel
theorem dX0_takeFrom_77 : decode cX0_takeFrom 77 = .ok (.aload_n 1, 1) := by decide +kernel
theorem dX0_takeFrom_78 : decode cX0_takeFrom 78 = .ok (.getfield 37, 3) := by decide +kernel
theorem dX0_takeFrom_81 : decode cX0_takeFrom 81 = .ok (.putfield 37, 3) := by decide +kernel
theorem dX0_takeFrom_84 : decode cX0_takeFrom 84 = .ok (.aload_n 0, 1) := by decide +kernel
theorem dX0_takeFrom_85 : decode cX0_takeFrom 85 = .ok (.aload_n 1, 1) := by decide +kernel
theorem dX0_takeFrom_86 : decode cX0_takeFrom 86 = .ok (.getfield 40, 3) := by decide +kernel
theorem dX0_takeFrom_89 : decode cX0_takeFrom 89 = .ok (.putfield 40, 3) := by decide +kernel
theorem dX0_takeFrom_92 : decode cX0_takeFrom 92 = .ok (.aload_n 0, 1) := by decide +kernel
theorem dX0_takeFrom_93 : decode cX0_takeFrom 93 = .ok (.aload_n 1, 1) := by decide +kernel
theorem dX0_takeFrom_94 : decode cX0_takeFrom 94 = .ok (.getfield 43, 3) := by decide +kernel
theorem dX0_takeFrom_97 : decode cX0_takeFrom 97 = .ok (.putfield 43, 3) := by decide +kernel
theorem dX0_takeFrom_100 : decode cX0_takeFrom 100 = .ok (.aload_n 0, 1) := by decide +kernel
theorem dX0_takeFrom_101 : decode cX0_takeFrom 101 = .ok (.aload_n 1, 1) := by decide +kernel
theorem dX0_takeFrom_102 : decode cX0_takeFrom 102 = .ok (.getfield 52, 3) := by decide +kernel
theorem dX0_takeFrom_105 : decode cX0_takeFrom 105 = .ok (.putfield 52, 3) := by decide +kernel
theorem dX0_takeFrom_108 : decode cX0_takeFrom 108 = .ok (.iconst 0, 1) := by decide +kernel
theorem dX0_takeFrom_109 : decode cX0_takeFrom 109 = .ok (.istore_n 2, 1) := by decide +kernel
theorem dX0_takeFrom_110 : decode cX0_takeFrom 110 = .ok (.iload_n 2, 1) := by decide +kernel
theorem dX0_takeFrom_111 : decode cX0_takeFrom 111 = .ok (.aload_n 0, 1) := by decide +kernel
theorem dX0_takeFrom_112 : decode cX0_takeFrom 112 = .ok (.getfield 52, 3) := by decide +kernel
theorem dX0_takeFrom_115 : decode cX0_takeFrom 115 = .ok (.if_icmp .ge 37, 3) := by decide +kernel
theorem dX0_takeFrom_118 : decode cX0_takeFrom 118 = .ok (.aload_n 0, 1) := by decide +kernel
theorem dX0_takeFrom_119 : decode cX0_takeFrom 119 = .ok (.iload_n 2, 1) := by decide +kernel
theorem dX0_takeFrom_120 : decode cX0_takeFrom 120 = .ok (.invokevirtual 60, 3) := by decide +kernel
theorem dX0_takeFrom_123 : decode cX0_takeFrom 123 = .ok (.astore_n 3, 1) := by decide +kernel
theorem dX0_takeFrom_124 : decode cX0_takeFrom 124 = .ok (.aload_n 1, 1) := by decide +kernel
theorem dX0_takeFrom_125 : decode cX0_takeFrom 125 = .ok (.iload_n 2, 1) := by decide +kernel
theorem dX0_takeFrom_126 : decode cX0_takeFrom 126 = .ok (.invokevirtual 60, 3) := by decide +kernel
theorem dX0_takeFrom_129 : decode cX0_takeFrom 129 = .ok (.astore 4, 2) := by decide +kernel
theorem dX0_takeFrom_131 : decode cX0_takeFrom 131 = .ok (.aload_n 3, 1) := by decide +kernel
theorem dX0_takeFrom_132 : decode cX0_takeFrom 132 = .ok (.ifnull 14, 3) := by decide +kernel
theorem dX0_takeFrom_135 : decode cX0_takeFrom 135 = .ok (.aload 4, 2) := by decide +kernel
theorem dX0_takeFrom_137 : decode cX0_takeFrom 137 = .ok (.ifnull 9, 3) := by decide +kernel
theorem dX0_takeFrom_140 : decode cX0_takeFrom 140 = .ok (.aload_n 3, 1) := by decide +kernel
theorem dX0_takeFrom_141 : decode cX0_takeFrom 141 = .ok (.aload 4, 2) := by decide +kernel
theorem dX0_takeFrom_143 : decode cX0_takeFrom 143 = .ok (.invokevirtual 64, 3) := by decide +kernel
theorem dX0_takeFrom_146 : decode cX0_takeFrom 146 = .ok (.iinc 2 1, 3) := by decide +kernel
theorem dX0_takeFrom_149 : decode cX0_takeFrom 149 = .ok (.goto (-39), 3) := by decide +kernel
theorem dX0_takeFrom_152 : decode cX0_takeFrom 152 = .ok (.return_, 1) := by decide +kernel
theorem dX0_setting_0 : decode cX0_setting 0 = .ok (.iload_n 1, 1) := by decide +kernel
theorem dX0_setting_1 : decode cX0_setting 1 = .ok (.ifCond .lt 21, 3) := by decide +kernel
theorem dX0_setting_4 : decode cX0_setting 4 = .ok (.iload_n 1, 1) := by decide +kernel
theorem dX0_setting_5 : decode cX0_setting 5 = .ok (.aload_n 0, 1) := by decide +kernel
theorem dX0_setting_6 : decode cX0_setting 6 = .ok (.getfield 28, 3) := by decide +kernel
theorem dX0_setting_9 : decode cX0_setting 9 = .ok (.arraylength, 1) := by decide +kernel
theorem dX0_setting_10 : decode cX0_setting 10 = .ok (.if_icmp .ge 12, 3) := by decide +kernel
theorem dX0_setting_13 : decode cX0_setting 13 = .ok (.aload_n 0, 1) := by decide +kernel
theorem dX0_setting_14 : decode cX0_setting 14 = .ok (.getfield 28, 3) := by decide +kernel
theorem dX0_setting_17 : decode cX0_setting 17 = .ok (.iload_n 1, 1) := by decide +kernel
theorem dX0_setting_18 : decode cX0_setting 18 = .ok (.iaload, 1) := by decide +kernel
theorem dX0_setting_19 : decode cX0_setting 19 = .ok (.goto 4, 3) := by decide +kernel
theorem dX0_setting_22 : decode cX0_setting 22 = .ok (.iconst 0, 1) := by decide +kernel
theorem dX0_setting_23 : decode cX0_setting 23 = .ok (.ireturn, 1) := by decide +kernel
theorem dX0_changeSetting_0 : decode cX0_changeSetting 0 = .ok (.iload_n 1, 1) := by decide +kernel
theorem dX0_changeSetting_1 : decode cX0_changeSetting 1 = .ok (.ifCond .lt 19, 3) := by decide +kernel
theorem dX0_changeSetting_4 : decode cX0_changeSetting 4 = .ok (.iload_n 1, 1) := by decide +kernel
theorem dX0_changeSetting_5 : decode cX0_changeSetting 5 = .ok (.aload_n 0, 1) := by decide +kernel
theorem dX0_changeSetting_6 : decode cX0_changeSetting 6 = .ok (.getfield 28, 3) := by decide +kernel
theorem dX0_changeSetting_9 : decode cX0_changeSetting 9 = .ok (.arraylength, 1) := by decide +kernel
theorem dX0_changeSetting_10 : decode cX0_changeSetting 10 = .ok (.if_icmp .ge 10, 3) := by decide +kernel
theorem dX0_changeSetting_13 : decode cX0_changeSetting 13 = .ok (.aload_n 0, 1) := by decide +kernel
theorem dX0_changeSetting_14 : decode cX0_changeSetting 14 = .ok (.getfield 28, 3) := by decide +kernel
theorem dX0_changeSetting_17 : decode cX0_changeSetting 17 = .ok (.iload_n 1, 1) := by decide +kernel
theorem dX0_changeSetting_18 : decode cX0_changeSetting 18 = .ok (.iload_n 2, 1) := by decide +kernel
theorem dX0_changeSetting_19 : decode cX0_changeSetting 19 = .ok (.iastore, 1) := by decide +kernel
theorem dX0_changeSetting_20 : decode cX0_changeSetting 20 = .ok (.return_, 1) := by decide +kernel
theorem dX0_signX_0 : decode cX0_signX 0 = .ok (.aload_n 0, 1) := by decide +kernel
theorem dX0_signX_1 : decode cX0_signX 1 = .ok (.iconst 0, 1) := by decide +kernel
theorem dX0_signX_2 : decode cX0_signX 2 = .ok (.invokevirtual 56, 3) := by decide +kernel
theorem dX0_signX_5 : decode cX0_signX 5 = .ok (.ifCond .ne 7, 3) := by decide +kernel
theorem dX0_signX_8 : decode cX0_signX 8 = .ok (.iconst 1, 1) := by decide +kernel
theorem dX0_signX_9 : decode cX0_signX 9 = .ok (.goto 4, 3) := by decide +kernel
theorem dX0_signX_12 : decode cX0_signX 12 = .ok (.iconst (-1), 1) := by decide +kernel
theorem dX0_signX_13 : decode cX0_signX 13 = .ok (.ireturn, 1) := by decide +kernel
theorem dX0_signY_0 : decode cX0_signY 0 = .ok (.aload_n 0, 1) := by decide +kernel
theorem dX0_signY_1 : decode cX0_signY 1 = .ok (.iconst 0, 1) := by decide +kernel
theorem dX0_signY_2 : decode cX0_signY 2 = .ok (.invokevirtual 56, 3) := by decide +kernel
theorem dX0_signY_5 : decode cX0_signY 5 = .ok (.iconst 1, 1) := by decide +kernel
theorem dX0_signY_6 : decode cX0_signY 6 = .ok (.if_icmp .ne 7, 3) := by decide +kernel
theorem dX0_signY_9 : decode cX0_signY 9 = .ok (.iconst (-1), 1) := by decide +kernel
theorem dX0_signY_10 : decode cX0_signY 10 = .ok (.goto 4, 3) := by decide +kernel
theorem dX0_signY_13 : decode cX0_signY 13 = .ok (.iconst 1, 1) := by decide +kernel
theorem dX0_signY_14 : decode cX0_signY 14 = .ok (.ireturn, 1) := by decide +kernel
theorem dX0_find_0 : decode cX0_find 0 = .ok (.iload_n 1, 1) := by decide +kernel
theorem dX0_find_1 : decode cX0_find 1 = .ok (.ifCond .lt 29, 3) := by decide +kernel
theorem dX0_find_4 : decode cX0_find 4 = .ok (.iload_n 1, 1) := by decide +kernel
theorem dX0_find_5 : decode cX0_find 5 = .ok (.aload_n 0, 1) := by decide +kernel
theorem dX0_find_6 : decode cX0_find 6 = .ok (.getfield 52, 3) := by decide +kernel
theorem dX0_find_9 : decode cX0_find 9 = .ok (.if_icmp .ge 21, 3) := by decide +kernel
theorem dX0_find_12 : decode cX0_find 12 = .ok (.iload_n 1, 1) := by decide +kernel
theorem dX0_find_13 : decode cX0_find 13 = .ok (.aload_n 0, 1) := by decide +kernel
theorem dX0_find_14 : decode cX0_find 14 = .ok (.getfield 48, 3) := by decide +kernel
theorem dX0_find_17 : decode cX0_find 17 = .ok (.arraylength, 1) := by decide +kernel
theorem dX0_find_18 : decode cX0_find 18 = .ok (.if_icmp .ge 12, 3) := by decide +kernel
theorem dX0_find_21 : decode cX0_find 21 = .ok (.aload_n 0, 1) := by decide +kernel
theorem dX0_find_22 : decode cX0_find 22 = .ok (.getfield 48, 3) := by decide +kernel
theorem dX0_find_25 : decode cX0_find 25 = .ok (.iload_n 1, 1) := by decide +kernel
theorem dX0_find_26 : decode cX0_find 26 = .ok (.aaload, 1) := by decide +kernel
theorem dX0_find_27 : decode cX0_find 27 = .ok (.goto 4, 3) := by decide +kernel
theorem dX0_find_30 : decode cX0_find 30 = .ok (.aconst_null, 1) := by decide +kernel
theorem dX0_find_31 : decode cX0_find 31 = .ok (.areturn, 1) := by decide +kernel
theorem dX0_spare_0 : decode cX0_spare 0 = .ok (.aload_n 0, 1) := by decide +kernel
theorem dX0_spare_1 : decode cX0_spare 1 = .ok (.getfield 52, 3) := by decide +kernel
theorem dX0_spare_4 : decode cX0_spare 4 = .ok (.ifCond .lt 27, 3) := by decide +kernel
theorem dX0_spare_7 : decode cX0_spare 7 = .ok (.aload_n 0, 1) := by decide +kernel
theorem dX0_spare_8 : decode cX0_spare 8 = .ok (.getfield 52, 3) := by decide +kernel
theorem dX0_spare_11 : decode cX0_spare 11 = .ok (.aload_n 0, 1) := by decide +kernel
theorem dX0_spare_12 : decode cX0_spare 12 = .ok (.getfield 48, 3) := by decide +kernel
theorem dX0_spare_15 : decode cX0_spare 15 = .ok (.arraylength, 1) := by decide +kernel
theorem dX0_spare_16 : decode cX0_spare 16 = .ok (.if_icmp .ge 15, 3) := by decide +kernel
theorem dX0_spare_19 : decode cX0_spare 19 = .ok (.aload_n 0, 1) := by decide +kernel
theorem dX0_spare_20 : decode cX0_spare 20 = .ok (.getfield 48, 3) := by decide +kernel
theorem dX0_spare_23 : decode cX0_spare 23 = .ok (.aload_n 0, 1) := by decide +kernel
theorem dX0_spare_24 : decode cX0_spare 24 = .ok (.getfield 52, 3) := by decide +kernel
theorem dX0_spare_27 : decode cX0_spare 27 = .ok (.aaload, 1) := by decide +kernel
theorem dX0_spare_28 : decode cX0_spare 28 = .ok (.goto 4, 3) := by decide +kernel
theorem dX0_spare_31 : decode cX0_spare 31 = .ok (.aconst_null, 1) := by decide +kernel
theorem dX0_spare_32 : decode cX0_spare 32 = .ok (.areturn, 1) := by decide +kernel
theorem dX0_beginOriginal_0 : decode cX0_beginOriginal 0 = .ok (.aload_n 0, 1) := by decide +kernel
theorem dX0_beginOriginal_1 : decode cX0_beginOriginal 1 = .ok (.invokevirtual 68, 3) := by decide +kernel
theorem dX0_beginOriginal_4 : decode cX0_beginOriginal 4 = .ok (.astore_n 1, 1) := by decide +kernel
theorem dX0_beginOriginal_5 : decode cX0_beginOriginal 5 = .ok (.aload_n 1, 1) := by decide +kernel
theorem dX0_beginOriginal_6 : decode cX0_beginOriginal 6 = .ok (.ifnonnull 5, 3) := by decide +kernel
theorem dX0_beginOriginal_9 : decode cX0_beginOriginal 9 = .ok (.iconst (-1), 1) := by decide +kernel
theorem dX0_beginOriginal_10 : decode cX0_beginOriginal 10 = .ok (.ireturn, 1) := by decide +kernel
theorem dX0_beginOriginal_11 : decode cX0_beginOriginal 11 = .ok (.aload_n 1, 1) := by decide +kernel
theorem dX0_beginOriginal_12 : decode cX0_beginOriginal 12 = .ok (.iconst (-1), 1) := by decide +kernel
theorem dX0_beginOriginal_13 : decode cX0_beginOriginal 13 = .ok (.lconst 1, 1) := by decide +kernel
theorem dX0_beginOriginal_14 : decode cX0_beginOriginal 14 = .ok (.lconst 1, 1) := by decide +kernel
theorem dX0_beginOriginal_15 : decode cX0_beginOriginal 15 = .ok (.invokevirtual 72, 3) := by decide +kernel
theorem dX0_beginOriginal_18 : decode cX0_beginOriginal 18 = .ok (.aload_n 0, 1) := by decide +kernel
theorem dX0_beginOriginal_19 : decode cX0_beginOriginal 19 = .ok (.dup, 1) := by decide +kernel
theorem dX0_beginOriginal_20 : decode cX0_beginOriginal 20 = .ok (.getfield 52, 3) := by decide +kernel
theorem dX0_beginOriginal_23 : decode cX0_beginOriginal 23 = .ok (.iconst 1, 1) := by decide +kernel
theorem dX0_beginOriginal_24 : decode cX0_beginOriginal 24 = .ok (.iadd, 1) := by decide +kernel
theorem dX0_beginOriginal_25 : decode cX0_beginOriginal 25 = .ok (.putfield 52, 3) := by decide +kernel
theorem dX0_beginOriginal_28 : decode cX0_beginOriginal 28 = .ok (.aload_n 0, 1) := by decide +kernel
theorem dX0_beginOriginal_29 : decode cX0_beginOriginal 29 = .ok (.getfield 52, 3) := by decide +kernel
theorem dX0_beginOriginal_32 : decode cX0_beginOriginal 32 = .ok (.iconst 1, 1) := by decide +kernel
theorem dX0_beginOriginal_33 : decode cX0_beginOriginal 33 = .ok (.isub, 1) := by decide +kernel
theorem dX0_beginOriginal_34 : decode cX0_beginOriginal 34 = .ok (.ireturn, 1) := by decide +kernel
theorem dX0_hasCopies_0 : decode cX0_hasCopies 0 = .ok (.iconst 0, 1) := by decide +kernel
theorem dX0_hasCopies_1 : decode cX0_hasCopies 1 = .ok (.istore_n 2, 1) := by decide +kernel
theorem dX0_hasCopies_2 : decode cX0_hasCopies 2 = .ok (.iload_n 2, 1) := by decide +kernel
theorem dX0_hasCopies_3 : decode cX0_hasCopies 3 = .ok (.aload_n 0, 1) := by decide +kernel
theorem dX0_hasCopies_4 : decode cX0_hasCopies 4 = .ok (.getfield 52, 3) := by decide +kernel
theorem dX0_hasCopies_7 : decode cX0_hasCopies 7 = .ok (.if_icmp .ge 29, 3) := by decide +kernel
theorem dX0_hasCopies_10 : decode cX0_hasCopies 10 = .ok (.aload_n 0, 1) := by decide +kernel
theorem dX0_hasCopies_11 : decode cX0_hasCopies 11 = .ok (.iload_n 2, 1) := by decide +kernel
theorem dX0_hasCopies_12 : decode cX0_hasCopies 12 = .ok (.invokevirtual 60, 3) := by decide +kernel
theorem dX0_hasCopies_15 : decode cX0_hasCopies 15 = .ok (.astore_n 3, 1) := by decide +kernel
theorem dX0_hasCopies_16 : decode cX0_hasCopies 16 = .ok (.aload_n 3, 1) := by decide +kernel
theorem dX0_hasCopies_17 : decode cX0_hasCopies 17 = .ok (.ifnull 13, 3) := by decide +kernel
theorem dX0_hasCopies_20 : decode cX0_hasCopies 20 = .ok (.aload_n 3, 1) := by decide +kernel
theorem dX0_hasCopies_21 : decode cX0_hasCopies 21 = .ok (.getfield 76, 3) := by decide +kernel
theorem dX0_hasCopies_24 : decode cX0_hasCopies 24 = .ok (.iload_n 1, 1) := by decide +kernel
theorem dX0_hasCopies_25 : decode cX0_hasCopies 25 = .ok (.if_icmp .ne 5, 3) := by decide +kernel
theorem dX0_hasCopies_28 : decode cX0_hasCopies 28 = .ok (.iconst 1, 1) := by decide +kernel
theorem dX0_hasCopies_29 : decode cX0_hasCopies 29 = .ok (.ireturn, 1) := by decide +kernel
theorem dX0_hasCopies_30 : decode cX0_hasCopies 30 = .ok (.iinc 2 1, 3) := by decide +kernel
theorem dX0_hasCopies_33 : decode cX0_hasCopies 33 = .ok (.goto (-31), 3) := by decide +kernel
theorem dX0_hasCopies_36 : decode cX0_hasCopies 36 = .ok (.iconst 0, 1) := by decide +kernel
theorem dX0_hasCopies_37 : decode cX0_hasCopies 37 = .ok (.ireturn, 1) := by decide +kernel
theorem dX0_takeAway_0 : decode cX0_takeAway 0 = .ok (.aload_n 0, 1) := by decide +kernel
theorem dX0_takeAway_1 : decode cX0_takeAway 1 = .ok (.iload_n 1, 1) := by decide +kernel
theorem dX0_takeAway_2 : decode cX0_takeAway 2 = .ok (.invokevirtual 60, 3) := by decide +kernel
theorem dX0_takeAway_5 : decode cX0_takeAway 5 = .ok (.astore_n 2, 1) := by decide +kernel
theorem dX0_takeAway_6 : decode cX0_takeAway 6 = .ok (.iload_n 1, 1) := by decide +kernel
theorem dX0_takeAway_7 : decode cX0_takeAway 7 = .ok (.istore_n 3, 1) := by decide +kernel
theorem dX0_takeAway_8 : decode cX0_takeAway 8 = .ok (.iload_n 3, 1) := by decide +kernel
theorem dX0_takeAway_9 : decode cX0_takeAway 9 = .ok (.ifCond .lt 44, 3) := by decide +kernel
theorem dX0_takeAway_12 : decode cX0_takeAway 12 = .ok (.iload_n 3, 1) := by decide +kernel
theorem dX0_takeAway_13 : decode cX0_takeAway 13 = .ok (.iconst 1, 1) := by decide +kernel
theorem dX0_takeAway_14 : decode cX0_takeAway 14 = .ok (.iadd, 1) := by decide +kernel
theorem dX0_takeAway_15 : decode cX0_takeAway 15 = .ok (.aload_n 0, 1) := by decide +kernel
theorem dX0_takeAway_16 : decode cX0_takeAway 16 = .ok (.getfield 52, 3) := by decide +kernel
theorem dX0_takeAway_19 : decode cX0_takeAway 19 = .ok (.if_icmp .ge 34, 3) := by decide +kernel
theorem dX0_takeAway_22 : decode cX0_takeAway 22 = .ok (.iload_n 3, 1) := by decide +kernel
theorem dX0_takeAway_23 : decode cX0_takeAway 23 = .ok (.iconst 1, 1) := by decide +kernel
theorem dX0_takeAway_24 : decode cX0_takeAway 24 = .ok (.iadd, 1) := by decide +kernel
theorem dX0_takeAway_25 : decode cX0_takeAway 25 = .ok (.aload_n 0, 1) := by decide +kernel
theorem dX0_takeAway_26 : decode cX0_takeAway 26 = .ok (.getfield 48, 3) := by decide +kernel
theorem dX0_takeAway_29 : decode cX0_takeAway 29 = .ok (.arraylength, 1) := by decide +kernel
theorem dX0_takeAway_30 : decode cX0_takeAway 30 = .ok (.if_icmp .ge 23, 3) := by decide +kernel
theorem dX0_takeAway_33 : decode cX0_takeAway 33 = .ok (.aload_n 0, 1) := by decide +kernel
theorem dX0_takeAway_34 : decode cX0_takeAway 34 = .ok (.getfield 48, 3) := by decide +kernel
theorem dX0_takeAway_37 : decode cX0_takeAway 37 = .ok (.iload_n 3, 1) := by decide +kernel
theorem dX0_takeAway_38 : decode cX0_takeAway 38 = .ok (.aload_n 0, 1) := by decide +kernel
theorem dX0_takeAway_39 : decode cX0_takeAway 39 = .ok (.getfield 48, 3) := by decide +kernel
theorem dX0_takeAway_42 : decode cX0_takeAway 42 = .ok (.iload_n 3, 1) := by decide +kernel
theorem dX0_takeAway_43 : decode cX0_takeAway 43 = .ok (.iconst 1, 1) := by decide +kernel
theorem dX0_takeAway_44 : decode cX0_takeAway 44 = .ok (.iadd, 1) := by decide +kernel
theorem dX0_takeAway_45 : decode cX0_takeAway 45 = .ok (.aaload, 1) := by decide +kernel
theorem dX0_takeAway_46 : decode cX0_takeAway 46 = .ok (.aastore, 1) := by decide +kernel
theorem dX0_takeAway_47 : decode cX0_takeAway 47 = .ok (.iinc 3 1, 3) := by decide +kernel
theorem dX0_takeAway_50 : decode cX0_takeAway 50 = .ok (.goto (-42), 3) := by decide +kernel
theorem dX0_takeAway_53 : decode cX0_takeAway 53 = .ok (.aload_n 0, 1) := by decide +kernel
theorem dX0_takeAway_54 : decode cX0_takeAway 54 = .ok (.getfield 52, 3) := by decide +kernel
theorem dX0_takeAway_57 : decode cX0_takeAway 57 = .ok (.iconst 1, 1) := by decide +kernel
theorem dX0_takeAway_58 : decode cX0_takeAway 58 = .ok (.isub, 1) := by decide +kernel
theorem dX0_takeAway_59 : decode cX0_takeAway 59 = .ok (.istore_n 3, 1) := by decide +kernel
theorem dX0_takeAway_60 : decode cX0_takeAway 60 = .ok (.aload_n 2, 1) := by decide +kernel
theorem dX0_takeAway_61 : decode cX0_takeAway 61 = .ok (.ifnull 16, 3) := by decide +kernel
theorem dX0_takeAway_64 : decode cX0_takeAway 64 = .ok (.iload_n 3, 1) := by decide +kernel
theorem dX0_takeAway_65 : decode cX0_takeAway 65 = .ok (.ifCond .lt 12, 3) := by decide +kernel
theorem dX0_takeAway_68 : decode cX0_takeAway 68 = .ok (.iload_n 3, 1) := by decide +kernel
theorem dX0_takeAway_69 : decode cX0_takeAway 69 = .ok (.aload_n 0, 1) := by decide +kernel
theorem dX0_takeAway_70 : decode cX0_takeAway 70 = .ok (.getfield 48, 3) := by decide +kernel
theorem dX0_takeAway_73 : decode cX0_takeAway 73 = .ok (.arraylength, 1) := by decide +kernel
theorem dX0_takeAway_74 : decode cX0_takeAway 74 = .ok (.if_icmp .lt 4, 3) := by decide +kernel
theorem dX0_takeAway_77 : decode cX0_takeAway 77 = .ok (.return_, 1) := by decide +kernel
theorem dX0_takeAway_78 : decode cX0_takeAway 78 = .ok (.aload_n 0, 1) := by decide +kernel
theorem dX0_takeAway_79 : decode cX0_takeAway 79 = .ok (.getfield 48, 3) := by decide +kernel
theorem dX0_takeAway_82 : decode cX0_takeAway 82 = .ok (.iload_n 3, 1) := by decide +kernel
theorem dX0_takeAway_83 : decode cX0_takeAway 83 = .ok (.aload_n 2, 1) := by decide +kernel
theorem dX0_takeAway_84 : decode cX0_takeAway 84 = .ok (.aastore, 1) := by decide +kernel
theorem dX0_takeAway_85 : decode cX0_takeAway 85 = .ok (.aload_n 0, 1) := by decide +kernel
theorem dX0_takeAway_86 : decode cX0_takeAway 86 = .ok (.iload_n 3, 1) := by decide +kernel
theorem dX0_takeAway_87 : decode cX0_takeAway 87 = .ok (.putfield 52, 3) := by decide +kernel
theorem dX0_takeAway_90 : decode cX0_takeAway 90 = .ok (.iconst 0, 1) := by decide +kernel
theorem dX0_takeAway_91 : decode cX0_takeAway 91 = .ok (.istore 4, 2) := by decide +kernel
theorem dX0_takeAway_93 : decode cX0_takeAway 93 = .ok (.iload 4, 2) := by decide +kernel
theorem dX0_takeAway_95 : decode cX0_takeAway 95 = .ok (.aload_n 0, 1) := by decide +kernel
theorem dX0_takeAway_96 : decode cX0_takeAway 96 = .ok (.getfield 52, 3) := by decide +kernel
theorem dX0_takeAway_99 : decode cX0_takeAway 99 = .ok (.if_icmp .ge 42, 3) := by decide +kernel
theorem dX0_takeAway_102 : decode cX0_takeAway 102 = .ok (.aload_n 0, 1) := by decide +kernel
theorem dX0_takeAway_103 : decode cX0_takeAway 103 = .ok (.iload 4, 2) := by decide +kernel
theorem dX0_takeAway_105 : decode cX0_takeAway 105 = .ok (.invokevirtual 60, 3) := by decide +kernel
theorem dX0_takeAway_108 : decode cX0_takeAway 108 = .ok (.astore 5, 2) := by decide +kernel
theorem dX0_takeAway_110 : decode cX0_takeAway 110 = .ok (.aload 5, 2) := by decide +kernel
theorem dX0_takeAway_112 : decode cX0_takeAway 112 = .ok (.ifnull 23, 3) := by decide +kernel
theorem dX0_takeAway_115 : decode cX0_takeAway 115 = .ok (.aload 5, 2) := by decide +kernel
theorem dX0_takeAway_117 : decode cX0_takeAway 117 = .ok (.getfield 76, 3) := by decide +kernel
theorem dX0_takeAway_120 : decode cX0_takeAway 120 = .ok (.iload_n 1, 1) := by decide +kernel
theorem dX0_takeAway_121 : decode cX0_takeAway 121 = .ok (.if_icmp .le 14, 3) := by decide +kernel
theorem dX0_takeAway_124 : decode cX0_takeAway 124 = .ok (.aload 5, 2) := by decide +kernel
theorem dX0_takeAway_126 : decode cX0_takeAway 126 = .ok (.dup, 1) := by decide +kernel
theorem dX0_takeAway_127 : decode cX0_takeAway 127 = .ok (.getfield 76, 3) := by decide +kernel
theorem dX0_takeAway_130 : decode cX0_takeAway 130 = .ok (.iconst 1, 1) := by decide +kernel
theorem dX0_takeAway_131 : decode cX0_takeAway 131 = .ok (.isub, 1) := by decide +kernel
theorem dX0_takeAway_132 : decode cX0_takeAway 132 = .ok (.putfield 76, 3) := by decide +kernel
theorem dX0_takeAway_135 : decode cX0_takeAway 135 = .ok (.iinc 4 1, 3) := by decide +kernel
theorem dX0_takeAway_138 : decode cX0_takeAway 138 = .ok (.goto (-45), 3) := by decide +kernel
theorem dX0_takeAway_141 : decode cX0_takeAway 141 = .ok (.return_, 1) := by decide +kernel
theorem dX0_originalOf_0 : decode cX0_originalOf 0 = .ok (.iload_n 1, 1) := by decide +kernel
theorem dX0_originalOf_1 : decode cX0_originalOf 1 = .ok (.istore_n 2, 1) := by decide +kernel
theorem dX0_originalOf_2 : decode cX0_originalOf 2 = .ok (.iconst 0, 1) := by decide +kernel
theorem dX0_originalOf_3 : decode cX0_originalOf 3 = .ok (.istore_n 3, 1) := by decide +kernel
theorem dX0_originalOf_4 : decode cX0_originalOf 4 = .ok (.iload_n 3, 1) := by decide +kernel
theorem dX0_originalOf_5 : decode cX0_originalOf 5 = .ok (.bipush 6, 2) := by decide +kernel
theorem dX0_originalOf_7 : decode cX0_originalOf 7 = .ok (.if_icmp .ge 37, 3) := by decide +kernel
theorem dX0_originalOf_10 : decode cX0_originalOf 10 = .ok (.aload_n 0, 1) := by decide +kernel
theorem dX0_originalOf_11 : decode cX0_originalOf 11 = .ok (.iload_n 2, 1) := by decide +kernel
theorem dX0_originalOf_12 : decode cX0_originalOf 12 = .ok (.invokevirtual 60, 3) := by decide +kernel
theorem dX0_originalOf_15 : decode cX0_originalOf 15 = .ok (.astore 4, 2) := by decide +kernel
theorem dX0_originalOf_17 : decode cX0_originalOf 17 = .ok (.aload 4, 2) := by decide +kernel
theorem dX0_originalOf_19 : decode cX0_originalOf 19 = .ok (.ifnull 11, 3) := by decide +kernel
theorem dX0_originalOf_22 : decode cX0_originalOf 22 = .ok (.aload 4, 2) := by decide +kernel
theorem dX0_originalOf_24 : decode cX0_originalOf 24 = .ok (.invokevirtual 79, 3) := by decide +kernel
theorem dX0_originalOf_27 : decode cX0_originalOf 27 = .ok (.ifCond .ne 5, 3) := by decide +kernel
theorem dX0_originalOf_30 : decode cX0_originalOf 30 = .ok (.iload_n 2, 1) := by decide +kernel
theorem dX0_originalOf_31 : decode cX0_originalOf 31 = .ok (.ireturn, 1) := by decide +kernel
theorem dX0_originalOf_32 : decode cX0_originalOf 32 = .ok (.aload 4, 2) := by decide +kernel
theorem dX0_originalOf_34 : decode cX0_originalOf 34 = .ok (.getfield 76, 3) := by decide +kernel
theorem dX0_originalOf_37 : decode cX0_originalOf 37 = .ok (.istore_n 2, 1) := by decide +kernel
theorem dX0_originalOf_38 : decode cX0_originalOf 38 = .ok (.iinc 3 1, 3) := by decide +kernel
theorem dX0_originalOf_41 : decode cX0_originalOf 41 = .ok (.goto (-37), 3) := by decide +kernel
theorem dX0_originalOf_44 : decode cX0_originalOf 44 = .ok (.iload_n 2, 1) := by decide +kernel
theorem dX0_originalOf_45 : decode cX0_originalOf 45 = .ok (.ireturn, 1) := by decide +kernel
theorem dX0_stepsOf_0 : decode cX0_stepsOf 0 = .ok (.iload_n 1, 1) := by decide +kernel
theorem dX0_stepsOf_1 : decode cX0_stepsOf 1 = .ok (.istore_n 2, 1) := by decide +kernel
theorem dX0_stepsOf_2 : decode cX0_stepsOf 2 = .ok (.iconst 0, 1) := by decide +kernel
theorem dX0_stepsOf_3 : decode cX0_stepsOf 3 = .ok (.istore_n 3, 1) := by decide +kernel
theorem dX0_stepsOf_4 : decode cX0_stepsOf 4 = .ok (.iload_n 3, 1) := by decide +kernel
theorem dX0_stepsOf_5 : decode cX0_stepsOf 5 = .ok (.bipush 6, 2) := by decide +kernel
theorem dX0_stepsOf_7 : decode cX0_stepsOf 7 = .ok (.if_icmp .ge 37, 3) := by decide +kernel
theorem dX0_stepsOf_10 : decode cX0_stepsOf 10 = .ok (.aload_n 0, 1) := by decide +kernel
theorem dX0_stepsOf_11 : decode cX0_stepsOf 11 = .ok (.iload_n 2, 1) := by decide +kernel
theorem dX0_stepsOf_12 : decode cX0_stepsOf 12 = .ok (.invokevirtual 60, 3) := by decide +kernel
theorem dX0_stepsOf_15 : decode cX0_stepsOf 15 = .ok (.astore 4, 2) := by decide +kernel
theorem dX0_stepsOf_17 : decode cX0_stepsOf 17 = .ok (.aload 4, 2) := by decide +kernel
theorem dX0_stepsOf_19 : decode cX0_stepsOf 19 = .ok (.ifnull 11, 3) := by decide +kernel
theorem dX0_stepsOf_22 : decode cX0_stepsOf 22 = .ok (.aload 4, 2) := by decide +kernel
theorem dX0_stepsOf_24 : decode cX0_stepsOf 24 = .ok (.invokevirtual 79, 3) := by decide +kernel
theorem dX0_stepsOf_27 : decode cX0_stepsOf 27 = .ok (.ifCond .ne 5, 3) := by decide +kernel
theorem dX0_stepsOf_30 : decode cX0_stepsOf 30 = .ok (.iload_n 3, 1) := by decide +kernel
theorem dX0_stepsOf_31 : decode cX0_stepsOf 31 = .ok (.ireturn, 1) := by decide +kernel
theorem dX0_stepsOf_32 : decode cX0_stepsOf 32 = .ok (.aload 4, 2) := by decide +kernel
theorem dX0_stepsOf_34 : decode cX0_stepsOf 34 = .ok (.getfield 76, 3) := by decide +kernel
theorem dX0_stepsOf_37 : decode cX0_stepsOf 37 = .ok (.istore_n 2, 1) := by decide +kernel
theorem dX0_stepsOf_38 : decode cX0_stepsOf 38 = .ok (.iinc 3 1, 3) := by decide +kernel
theorem dX0_stepsOf_41 : decode cX0_stepsOf 41 = .ok (.goto (-37), 3) := by decide +kernel
theorem dX0_stepsOf_44 : decode cX0_stepsOf 44 = .ok (.bipush 6, 2) := by decide +kernel
theorem dX0_stepsOf_46 : decode cX0_stepsOf 46 = .ok (.ireturn, 1) := by decide +kernel
theorem dX0_isOnBoard_0 : decode cX0_isOnBoard 0 = .ok (.aload_n 1, 1) := by decide +kernel
theorem dX0_isOnBoard_1 : decode cX0_isOnBoard 1 = .ok (.iload_n 2, 1) := by decide +kernel
theorem dX0_isOnBoard_2 : decode cX0_isOnBoard 2 = .ok (.invokevirtual 83, 3) := by decide +kernel
theorem dX0_isOnBoard_5 : decode cX0_isOnBoard 5 = .ok (.lstore_n 3, 1) := by decide +kernel
theorem dX0_isOnBoard_6 : decode cX0_isOnBoard 6 = .ok (.aload_n 1, 1) := by decide +kernel
theorem dX0_isOnBoard_7 : decode cX0_isOnBoard 7 = .ok (.iload_n 2, 1) := by decide +kernel
theorem dX0_isOnBoard_8 : decode cX0_isOnBoard 8 = .ok (.invokevirtual 87, 3) := by decide +kernel
theorem dX0_isOnBoard_11 : decode cX0_isOnBoard 11 = .ok (.lstore 5, 2) := by decide +kernel
theorem dX0_isOnBoard_13 : decode cX0_isOnBoard 13 = .ok (.lload_n 3, 1) := by decide +kernel
theorem dX0_isOnBoard_14 : decode cX0_isOnBoard 14 = .ok (.lconst 0, 1) := by decide +kernel
theorem dX0_isOnBoard_15 : decode cX0_isOnBoard 15 = .ok (.lcmp, 1) := by decide +kernel
theorem dX0_isOnBoard_16 : decode cX0_isOnBoard 16 = .ok (.ifCond .lt 47, 3) := by decide +kernel
theorem dX0_isOnBoard_19 : decode cX0_isOnBoard 19 = .ok (.lload_n 3, 1) := by decide +kernel
theorem dX0_isOnBoard_20 : decode cX0_isOnBoard 20 = .ok (.aload_n 0, 1) := by decide +kernel
theorem dX0_isOnBoard_21 : decode cX0_isOnBoard 21 = .ok (.iconst 2, 1) := by decide +kernel
theorem dX0_isOnBoard_22 : decode cX0_isOnBoard 22 = .ok (.invokevirtual 56, 3) := by decide +kernel
theorem dX0_isOnBoard_25 : decode cX0_isOnBoard 25 = .ok (.i2l, 1) := by decide +kernel
theorem dX0_isOnBoard_26 : decode cX0_isOnBoard 26 = .ok (.aload_n 1, 1) := by decide +kernel
theorem dX0_isOnBoard_27 : decode cX0_isOnBoard 27 = .ok (.getfield 90, 3) := by decide +kernel
theorem dX0_isOnBoard_30 : decode cX0_isOnBoard 30 = .ok (.lmul, 1) := by decide +kernel
theorem dX0_isOnBoard_31 : decode cX0_isOnBoard 31 = .ok (.lcmp, 1) := by decide +kernel
theorem dX0_isOnBoard_32 : decode cX0_isOnBoard 32 = .ok (.ifCond .gt 31, 3) := by decide +kernel
theorem dX0_isOnBoard_35 : decode cX0_isOnBoard 35 = .ok (.lload 5, 2) := by decide +kernel
theorem dX0_isOnBoard_37 : decode cX0_isOnBoard 37 = .ok (.lconst 0, 1) := by decide +kernel
theorem dX0_isOnBoard_38 : decode cX0_isOnBoard 38 = .ok (.lcmp, 1) := by decide +kernel
theorem dX0_isOnBoard_39 : decode cX0_isOnBoard 39 = .ok (.ifCond .lt 24, 3) := by decide +kernel
theorem dX0_isOnBoard_42 : decode cX0_isOnBoard 42 = .ok (.lload 5, 2) := by decide +kernel
theorem dX0_isOnBoard_44 : decode cX0_isOnBoard 44 = .ok (.aload_n 0, 1) := by decide +kernel
theorem dX0_isOnBoard_45 : decode cX0_isOnBoard 45 = .ok (.iconst 3, 1) := by decide +kernel
theorem dX0_isOnBoard_46 : decode cX0_isOnBoard 46 = .ok (.invokevirtual 56, 3) := by decide +kernel
theorem dX0_isOnBoard_49 : decode cX0_isOnBoard 49 = .ok (.i2l, 1) := by decide +kernel
theorem dX0_isOnBoard_50 : decode cX0_isOnBoard 50 = .ok (.aload_n 1, 1) := by decide +kernel
theorem dX0_isOnBoard_51 : decode cX0_isOnBoard 51 = .ok (.getfield 90, 3) := by decide +kernel
theorem dX0_isOnBoard_54 : decode cX0_isOnBoard 54 = .ok (.lmul, 1) := by decide +kernel
theorem dX0_isOnBoard_55 : decode cX0_isOnBoard 55 = .ok (.lcmp, 1) := by decide +kernel
theorem dX0_isOnBoard_56 : decode cX0_isOnBoard 56 = .ok (.ifCond .gt 7, 3) := by decide +kernel
theorem dX0_isOnBoard_59 : decode cX0_isOnBoard 59 = .ok (.iconst 1, 1) := by decide +kernel
theorem dX0_isOnBoard_60 : decode cX0_isOnBoard 60 = .ok (.goto 4, 3) := by decide +kernel
theorem dX0_isOnBoard_63 : decode cX0_isOnBoard 63 = .ok (.iconst 0, 1) := by decide +kernel
theorem dX0_isOnBoard_64 : decode cX0_isOnBoard 64 = .ok (.ireturn, 1) := by decide +kernel
theorem dX0_pointsOffBoard_0 : decode cX0_pointsOffBoard 0 = .ok (.iconst 0, 1) := by decide +kernel
theorem dX0_pointsOffBoard_1 : decode cX0_pointsOffBoard 1 = .ok (.istore_n 2, 1) := by decide +kernel
theorem dX0_pointsOffBoard_2 : decode cX0_pointsOffBoard 2 = .ok (.iconst 0, 1) := by decide +kernel
theorem dX0_pointsOffBoard_3 : decode cX0_pointsOffBoard 3 = .ok (.istore_n 3, 1) := by decide +kernel
theorem dX0_pointsOffBoard_4 : decode cX0_pointsOffBoard 4 = .ok (.iload_n 3, 1) := by decide +kernel
theorem dX0_pointsOffBoard_5 : decode cX0_pointsOffBoard 5 = .ok (.aload_n 1, 1) := by decide +kernel
theorem dX0_pointsOffBoard_6 : decode cX0_pointsOffBoard 6 = .ok (.getfield 94, 3) := by decide +kernel
theorem dX0_pointsOffBoard_9 : decode cX0_pointsOffBoard 9 = .ok (.if_icmp .ge 21, 3) := by decide +kernel
theorem dX0_pointsOffBoard_12 : decode cX0_pointsOffBoard 12 = .ok (.aload_n 0, 1) := by decide +kernel
theorem dX0_pointsOffBoard_13 : decode cX0_pointsOffBoard 13 = .ok (.aload_n 1, 1) := by decide +kernel
theorem dX0_pointsOffBoard_14 : decode cX0_pointsOffBoard 14 = .ok (.iload_n 3, 1) := by decide +kernel
theorem dX0_pointsOffBoard_15 : decode cX0_pointsOffBoard 15 = .ok (.invokevirtual 95, 3) := by decide +kernel
theorem dX0_pointsOffBoard_18 : decode cX0_pointsOffBoard 18 = .ok (.ifCond .ne 6, 3) := by decide +kernel
theorem dX0_pointsOffBoard_21 : decode cX0_pointsOffBoard 21 = .ok (.iinc 2 1, 3) := by decide +kernel
theorem dX0_pointsOffBoard_24 : decode cX0_pointsOffBoard 24 = .ok (.iinc 3 1, 3) := by decide +kernel
theorem dX0_pointsOffBoard_27 : decode cX0_pointsOffBoard 27 = .ok (.goto (-23), 3) := by decide +kernel
theorem dX0_pointsOffBoard_30 : decode cX0_pointsOffBoard 30 = .ok (.iload_n 2, 1) := by decide +kernel
theorem dX0_pointsOffBoard_31 : decode cX0_pointsOffBoard 31 = .ok (.ireturn, 1) := by decide +kernel
theorem dX0_wornWidth_0 : decode cX0_wornWidth 0 = .ok (.iconst 1, 1) := by decide +kernel
theorem dX0_wornWidth_1 : decode cX0_wornWidth 1 = .ok (.aload_n 0, 1) := by decide +kernel
theorem dX0_wornWidth_2 : decode cX0_wornWidth 2 = .ok (.getfield 31, 3) := by decide +kernel
theorem dX0_wornWidth_5 : decode cX0_wornWidth 5 = .ok (.i2l, 1) := by decide +kernel
theorem dX0_wornWidth_6 : decode cX0_wornWidth 6 = .ok (.aload_n 0, 1) := by decide +kernel
theorem dX0_wornWidth_7 : decode cX0_wornWidth 7 = .ok (.iconst 4, 1) := by decide +kernel
theorem dX0_wornWidth_8 : decode cX0_wornWidth 8 = .ok (.invokevirtual 56, 3) := by decide +kernel
theorem dX0_wornWidth_11 : decode cX0_wornWidth 11 = .ok (.i2l, 1) := by decide +kernel
theorem dX0_wornWidth_12 : decode cX0_wornWidth 12 = .ok (.invokestatic 99, 3) := by decide +kernel
theorem dX0_wornWidth_15 : decode cX0_wornWidth 15 = .ok (.l2i, 1) := by decide +kernel
theorem dX0_wornWidth_16 : decode cX0_wornWidth 16 = .ok (.iadd, 1) := by decide +kernel
theorem dX0_wornWidth_17 : decode cX0_wornWidth 17 = .ok (.ireturn, 1) := by decide +kernel
theorem dX0_isBlunt_0 : decode cX0_isBlunt 0 = .ok (.aload_n 0, 1) := by decide +kernel
theorem dX0_isBlunt_1 : decode cX0_isBlunt 1 = .ok (.invokevirtual 103, 3) := by decide +kernel
theorem dX0_isBlunt_4 : decode cX0_isBlunt 4 = .ok (.bipush 9, 2) := by decide +kernel
theorem dX0_isBlunt_6 : decode cX0_isBlunt 6 = .ok (.if_icmp .le 7, 3) := by decide +kernel
theorem dX0_isBlunt_9 : decode cX0_isBlunt 9 = .ok (.iconst 1, 1) := by decide +kernel
theorem dX0_isBlunt_10 : decode cX0_isBlunt 10 = .ok (.goto 4, 3) := by decide +kernel
theorem dX0_isBlunt_13 : decode cX0_isBlunt 13 = .ok (.iconst 0, 1) := by decide +kernel
theorem dX0_isBlunt_14 : decode cX0_isBlunt 14 = .ok (.ireturn, 1) := by decide +kernel
theorem dX0_drawLine_0 : decode cX0_drawLine 0 = .ok (.aload_n 1, 1) := by decide +kernel
theorem dX0_drawLine_1 : decode cX0_drawLine 1 = .ok (.iload_n 2, 1) := by decide +kernel
theorem dX0_drawLine_2 : decode cX0_drawLine 2 = .ok (.invokevirtual 107, 3) := by decide +kernel
theorem dX0_drawLine_5 : decode cX0_drawLine 5 = .ok (.ifCond .ne 4, 3) := by decide +kernel
theorem dX0_drawLine_8 : decode cX0_drawLine 8 = .ok (.return_, 1) := by decide +kernel
theorem dX0_drawLine_9 : decode cX0_drawLine 9 = .ok (.aload_n 0, 1) := by decide +kernel
theorem dX0_drawLine_10 : decode cX0_drawLine 10 = .ok (.aload_n 1, 1) := by decide +kernel
theorem dX0_drawLine_11 : decode cX0_drawLine 11 = .ok (.iload_n 2, 1) := by decide +kernel
theorem dX0_drawLine_12 : decode cX0_drawLine 12 = .ok (.iconst 1, 1) := by decide +kernel
theorem dX0_drawLine_13 : decode cX0_drawLine 13 = .ok (.isub, 1) := by decide +kernel
theorem dX0_drawLine_14 : decode cX0_drawLine 14 = .ok (.invokevirtual 95, 3) := by decide +kernel
theorem dX0_drawLine_17 : decode cX0_drawLine 17 = .ok (.ifCond .eq 12, 3) := by decide +kernel
theorem dX0_drawLine_20 : decode cX0_drawLine 20 = .ok (.aload_n 0, 1) := by decide +kernel
theorem dX0_drawLine_21 : decode cX0_drawLine 21 = .ok (.aload_n 1, 1) := by decide +kernel
theorem dX0_drawLine_22 : decode cX0_drawLine 22 = .ok (.iload_n 2, 1) := by decide +kernel
theorem dX0_drawLine_23 : decode cX0_drawLine 23 = .ok (.invokevirtual 95, 3) := by decide +kernel
theorem dX0_drawLine_26 : decode cX0_drawLine 26 = .ok (.ifCond .ne 14, 3) := by decide +kernel
theorem dX0_drawLine_29 : decode cX0_drawLine 29 = .ok (.aload_n 0, 1) := by decide +kernel
theorem dX0_drawLine_30 : decode cX0_drawLine 30 = .ok (.dup, 1) := by decide +kernel
theorem dX0_drawLine_31 : decode cX0_drawLine 31 = .ok (.getfield 43, 3) := by decide +kernel
theorem dX0_drawLine_34 : decode cX0_drawLine 34 = .ok (.iconst 1, 1) := by decide +kernel
theorem dX0_drawLine_35 : decode cX0_drawLine 35 = .ok (.iadd, 1) := by decide +kernel
theorem dX0_drawLine_36 : decode cX0_drawLine 36 = .ok (.putfield 43, 3) := by decide +kernel
theorem dX0_drawLine_39 : decode cX0_drawLine 39 = .ok (.return_, 1) := by decide +kernel
theorem dX0_drawLine_40 : decode cX0_drawLine 40 = .ok (.aload_n 1, 1) := by decide +kernel
theorem dX0_drawLine_41 : decode cX0_drawLine 41 = .ok (.iload_n 2, 1) := by decide +kernel
theorem dX0_drawLine_42 : decode cX0_drawLine 42 = .ok (.invokevirtual 111, 3) := by decide +kernel
theorem dX0_drawLine_45 : decode cX0_drawLine 45 = .ok (.istore_n 3, 1) := by decide +kernel
theorem dX0_drawLine_46 : decode cX0_drawLine 46 = .ok (.aload_n 1, 1) := by decide +kernel
theorem dX0_drawLine_47 : decode cX0_drawLine 47 = .ok (.iload_n 2, 1) := by decide +kernel
theorem dX0_drawLine_48 : decode cX0_drawLine 48 = .ok (.aload_n 0, 1) := by decide +kernel
theorem dX0_drawLine_49 : decode cX0_drawLine 49 = .ok (.invokevirtual 103, 3) := by decide +kernel
theorem dX0_drawLine_52 : decode cX0_drawLine 52 = .ok (.bipush 9, 2) := by decide +kernel
theorem dX0_drawLine_54 : decode cX0_drawLine 54 = .ok (.invokestatic 114, 3) := by decide +kernel
theorem dX0_drawLine_57 : decode cX0_drawLine 57 = .ok (.invokevirtual 120, 3) := by decide +kernel
theorem dX0_drawLine_60 : decode cX0_drawLine 60 = .ok (.aload_n 0, 1) := by decide +kernel
theorem dX0_drawLine_61 : decode cX0_drawLine 61 = .ok (.dup, 1) := by decide +kernel
theorem dX0_drawLine_62 : decode cX0_drawLine 62 = .ok (.getfield 31, 3) := by decide +kernel
theorem dX0_drawLine_65 : decode cX0_drawLine 65 = .ok (.iload_n 3, 1) := by decide +kernel
theorem dX0_drawLine_66 : decode cX0_drawLine 66 = .ok (.iadd, 1) := by decide +kernel
theorem dX0_drawLine_67 : decode cX0_drawLine 67 = .ok (.putfield 31, 3) := by decide +kernel
theorem dX0_drawLine_70 : decode cX0_drawLine 70 = .ok (.aload_n 0, 1) := by decide +kernel
theorem dX0_drawLine_71 : decode cX0_drawLine 71 = .ok (.dup, 1) := by decide +kernel
theorem dX0_drawLine_72 : decode cX0_drawLine 72 = .ok (.getfield 37, 3) := by decide +kernel
theorem dX0_drawLine_75 : decode cX0_drawLine 75 = .ok (.iconst 1, 1) := by decide +kernel
theorem dX0_drawLine_76 : decode cX0_drawLine 76 = .ok (.iadd, 1) := by decide +kernel
theorem dX0_drawLine_77 : decode cX0_drawLine 77 = .ok (.putfield 37, 3) := by decide +kernel
theorem dX0_drawLine_80 : decode cX0_drawLine 80 = .ok (.aload_n 0, 1) := by decide +kernel
theorem dX0_drawLine_81 : decode cX0_drawLine 81 = .ok (.dup, 1) := by decide +kernel
theorem dX0_drawLine_82 : decode cX0_drawLine 82 = .ok (.getfield 40, 3) := by decide +kernel
theorem dX0_drawLine_85 : decode cX0_drawLine 85 = .ok (.iload_n 3, 1) := by decide +kernel
theorem dX0_drawLine_86 : decode cX0_drawLine 86 = .ok (.iadd, 1) := by decide +kernel
theorem dX0_drawLine_87 : decode cX0_drawLine 87 = .ok (.putfield 40, 3) := by decide +kernel
theorem dX0_drawLine_90 : decode cX0_drawLine 90 = .ok (.return_, 1) := by decide +kernel
theorem dX0_reasonAgainst_0 : decode cX0_reasonAgainst 0 = .ok (.aload_n 2, 1) := by decide +kernel
theorem dX0_reasonAgainst_1 : decode cX0_reasonAgainst 1 = .ok (.getfield 94, 3) := by decide +kernel
theorem dX0_reasonAgainst_4 : decode cX0_reasonAgainst 4 = .ok (.iconst 1, 1) := by decide +kernel
theorem dX0_reasonAgainst_5 : decode cX0_reasonAgainst 5 = .ok (.if_icmp .ge 5, 3) := by decide +kernel
theorem dX0_reasonAgainst_8 : decode cX0_reasonAgainst 8 = .ok (.iconst 1, 1) := by decide +kernel
theorem dX0_reasonAgainst_9 : decode cX0_reasonAgainst 9 = .ok (.ireturn, 1) := by decide +kernel
theorem dX0_reasonAgainst_10 : decode cX0_reasonAgainst 10 = .ok (.aload_n 0, 1) := by decide +kernel
theorem dX0_reasonAgainst_11 : decode cX0_reasonAgainst 11 = .ok (.invokevirtual 124, 3) := by decide +kernel
theorem dX0_reasonAgainst_14 : decode cX0_reasonAgainst 14 = .ok (.ifCond .eq 5, 3) := by decide +kernel
theorem dX0_reasonAgainst_17 : decode cX0_reasonAgainst 17 = .ok (.iconst 2, 1) := by decide +kernel
theorem dX0_reasonAgainst_18 : decode cX0_reasonAgainst 18 = .ok (.ireturn, 1) := by decide +kernel
theorem dX0_reasonAgainst_19 : decode cX0_reasonAgainst 19 = .ok (.aload_n 0, 1) := by decide +kernel
theorem dX0_reasonAgainst_20 : decode cX0_reasonAgainst 20 = .ok (.invokevirtual 68, 3) := by decide +kernel
theorem dX0_reasonAgainst_23 : decode cX0_reasonAgainst 23 = .ok (.astore_n 3, 1) := by decide +kernel
theorem dX0_reasonAgainst_24 : decode cX0_reasonAgainst 24 = .ok (.aload_n 3, 1) := by decide +kernel
theorem dX0_reasonAgainst_25 : decode cX0_reasonAgainst 25 = .ok (.ifnonnull 5, 3) := by decide +kernel
theorem dX0_reasonAgainst_28 : decode cX0_reasonAgainst 28 = .ok (.iconst 3, 1) := by decide +kernel
theorem dX0_reasonAgainst_29 : decode cX0_reasonAgainst 29 = .ok (.ireturn, 1) := by decide +kernel
theorem dX0_reasonAgainst_30 : decode cX0_reasonAgainst 30 = .ok (.aload_n 0, 1) := by decide +kernel
theorem dX0_reasonAgainst_31 : decode cX0_reasonAgainst 31 = .ok (.iload_n 1, 1) := by decide +kernel
theorem dX0_reasonAgainst_32 : decode cX0_reasonAgainst 32 = .ok (.aload_n 2, 1) := by decide +kernel
theorem dX0_reasonAgainst_33 : decode cX0_reasonAgainst 33 = .ok (.aload_n 3, 1) := by decide +kernel
theorem dX0_reasonAgainst_34 : decode cX0_reasonAgainst 34 = .ok (.invokevirtual 127, 3) := by decide +kernel
theorem dX0_reasonAgainst_37 : decode cX0_reasonAgainst 37 = .ok (.aload_n 3, 1) := by decide +kernel
theorem dX0_reasonAgainst_38 : decode cX0_reasonAgainst 38 = .ok (.invokevirtual 131, 3) := by decide +kernel
theorem dX0_reasonAgainst_41 : decode cX0_reasonAgainst 41 = .ok (.ifCond .eq 7, 3) := by decide +kernel
theorem dX0_reasonAgainst_44 : decode cX0_reasonAgainst 44 = .ok (.iconst 4, 1) := by decide +kernel
theorem dX0_reasonAgainst_45 : decode cX0_reasonAgainst 45 = .ok (.goto 4, 3) := by decide +kernel
theorem dX0_reasonAgainst_48 : decode cX0_reasonAgainst 48 = .ok (.iconst 0, 1) := by decide +kernel
theorem dX0_reasonAgainst_49 : decode cX0_reasonAgainst 49 = .ok (.ireturn, 1) := by decide +kernel
theorem dX0_trace_0 : decode cX0_trace 0 = .ok (.aload_n 3, 1) := by decide +kernel
theorem dX0_trace_1 : decode cX0_trace 1 = .ok (.iload_n 1, 1) := by decide +kernel
theorem dX0_trace_2 : decode cX0_trace 2 = .ok (.aload_n 2, 1) := by decide +kernel
theorem dX0_trace_3 : decode cX0_trace 3 = .ok (.getfield 134, 3) := by decide +kernel
theorem dX0_trace_6 : decode cX0_trace 6 = .ok (.aload_n 0, 1) := by decide +kernel
theorem dX0_trace_7 : decode cX0_trace 7 = .ok (.getfield 9, 3) := by decide +kernel
theorem dX0_trace_10 : decode cX0_trace 10 = .ok (.i2l, 1) := by decide +kernel
theorem dX0_trace_11 : decode cX0_trace 11 = .ok (.lmul, 1) := by decide +kernel
theorem dX0_trace_12 : decode cX0_trace 12 = .ok (.aload_n 2, 1) := by decide +kernel
theorem dX0_trace_13 : decode cX0_trace 13 = .ok (.getfield 90, 3) := by decide +kernel
theorem dX0_trace_16 : decode cX0_trace 16 = .ok (.aload_n 0, 1) := by decide +kernel
theorem dX0_trace_17 : decode cX0_trace 17 = .ok (.getfield 15, 3) := by decide +kernel
theorem dX0_trace_20 : decode cX0_trace 20 = .ok (.i2l, 1) := by decide +kernel
theorem dX0_trace_21 : decode cX0_trace 21 = .ok (.lmul, 1) := by decide +kernel
theorem dX0_trace_22 : decode cX0_trace 22 = .ok (.invokevirtual 72, 3) := by decide +kernel
theorem dX0_trace_25 : decode cX0_trace 25 = .ok (.aload_n 3, 1) := by decide +kernel
theorem dX0_trace_26 : decode cX0_trace 26 = .ok (.aload_n 2, 1) := by decide +kernel
theorem dX0_trace_27 : decode cX0_trace 27 = .ok (.getfield 137, 3) := by decide +kernel
theorem dX0_trace_30 : decode cX0_trace 30 = .ok (.aload_n 0, 1) := by decide +kernel
theorem dX0_trace_31 : decode cX0_trace 31 = .ok (.invokevirtual 140, 3) := by decide +kernel
theorem dX0_trace_34 : decode cX0_trace 34 = .ok (.imul, 1) := by decide +kernel
theorem dX0_trace_35 : decode cX0_trace 35 = .ok (.putfield 137, 3) := by decide +kernel
theorem dX0_trace_38 : decode cX0_trace 38 = .ok (.aload_n 3, 1) := by decide +kernel
theorem dX0_trace_39 : decode cX0_trace 39 = .ok (.aload_n 2, 1) := by decide +kernel
theorem dX0_trace_40 : decode cX0_trace 40 = .ok (.getfield 142, 3) := by decide +kernel
theorem dX0_trace_43 : decode cX0_trace 43 = .ok (.aload_n 0, 1) := by decide +kernel
theorem dX0_trace_44 : decode cX0_trace 44 = .ok (.invokevirtual 145, 3) := by decide +kernel
theorem dX0_trace_47 : decode cX0_trace 47 = .ok (.imul, 1) := by decide +kernel
theorem dX0_trace_48 : decode cX0_trace 48 = .ok (.putfield 142, 3) := by decide +kernel
theorem dX0_trace_51 : decode cX0_trace 51 = .ok (.aload_n 3, 1) := by decide +kernel
theorem dX0_trace_52 : decode cX0_trace 52 = .ok (.aload_n 0, 1) := by decide +kernel
theorem dX0_trace_53 : decode cX0_trace 53 = .ok (.aload_n 2, 1) := by decide +kernel
theorem dX0_trace_54 : decode cX0_trace 54 = .ok (.getfield 147, 3) := by decide +kernel
theorem dX0_trace_57 : decode cX0_trace 57 = .ok (.aload_n 2, 1) := by decide +kernel
theorem dX0_trace_58 : decode cX0_trace 58 = .ok (.getfield 90, 3) := by decide +kernel
theorem dX0_trace_61 : decode cX0_trace 61 = .ok (.aload_n 0, 1) := by decide +kernel
theorem dX0_trace_62 : decode cX0_trace 62 = .ok (.getfield 18, 3) := by decide +kernel
theorem dX0_trace_65 : decode cX0_trace 65 = .ok (.aload_n 0, 1) := by decide +kernel
theorem dX0_trace_66 : decode cX0_trace 66 = .ok (.invokevirtual 140, 3) := by decide +kernel
theorem dX0_trace_69 : decode cX0_trace 69 = .ok (.invokevirtual 150, 3) := by decide +kernel
theorem dX0_trace_72 : decode cX0_trace 72 = .ok (.putfield 147, 3) := by decide +kernel
theorem dX0_trace_75 : decode cX0_trace 75 = .ok (.aload_n 3, 1) := by decide +kernel
theorem dX0_trace_76 : decode cX0_trace 76 = .ok (.aload_n 0, 1) := by decide +kernel
theorem dX0_trace_77 : decode cX0_trace 77 = .ok (.aload_n 2, 1) := by decide +kernel
theorem dX0_trace_78 : decode cX0_trace 78 = .ok (.getfield 154, 3) := by decide +kernel
theorem dX0_trace_81 : decode cX0_trace 81 = .ok (.aload_n 2, 1) := by decide +kernel
theorem dX0_trace_82 : decode cX0_trace 82 = .ok (.getfield 90, 3) := by decide +kernel
theorem dX0_trace_85 : decode cX0_trace 85 = .ok (.aload_n 0, 1) := by decide +kernel
theorem dX0_trace_86 : decode cX0_trace 86 = .ok (.getfield 21, 3) := by decide +kernel
theorem dX0_trace_89 : decode cX0_trace 89 = .ok (.aload_n 0, 1) := by decide +kernel
theorem dX0_trace_90 : decode cX0_trace 90 = .ok (.invokevirtual 145, 3) := by decide +kernel
theorem dX0_trace_93 : decode cX0_trace 93 = .ok (.invokevirtual 150, 3) := by decide +kernel
theorem dX0_trace_96 : decode cX0_trace 96 = .ok (.putfield 154, 3) := by decide +kernel
theorem dX0_trace_99 : decode cX0_trace 99 = .ok (.aload_n 0, 1) := by decide +kernel
theorem dX0_trace_100 : decode cX0_trace 100 = .ok (.iconst 1, 1) := by decide +kernel
theorem dX0_trace_101 : decode cX0_trace 101 = .ok (.invokevirtual 56, 3) := by decide +kernel
theorem dX0_trace_104 : decode cX0_trace 104 = .ok (.i2l, 1) := by decide +kernel
theorem dX0_trace_105 : decode cX0_trace 105 = .ok (.aload_n 3, 1) := by decide +kernel
theorem dX0_trace_106 : decode cX0_trace 106 = .ok (.getfield 90, 3) := by decide +kernel
theorem dX0_trace_109 : decode cX0_trace 109 = .ok (.lmul, 1) := by decide +kernel
theorem dX0_trace_110 : decode cX0_trace 110 = .ok (.lstore 4, 2) := by decide +kernel
theorem dX0_trace_112 : decode cX0_trace 112 = .ok (.iconst 0, 1) := by decide +kernel
theorem dX0_trace_113 : decode cX0_trace 113 = .ok (.istore 6, 2) := by decide +kernel
theorem dX0_trace_115 : decode cX0_trace 115 = .ok (.iload 6, 2) := by decide +kernel
theorem dX0_trace_117 : decode cX0_trace 117 = .ok (.aload_n 2, 1) := by decide +kernel
theorem dX0_trace_118 : decode cX0_trace 118 = .ok (.getfield 94, 3) := by decide +kernel
theorem dX0_trace_121 : decode cX0_trace 121 = .ok (.if_icmp .ge 122, 3) := by decide +kernel
theorem dX0_trace_124 : decode cX0_trace 124 = .ok (.aload_n 0, 1) := by decide +kernel
theorem dX0_trace_125 : decode cX0_trace 125 = .ok (.aload_n 2, 1) := by decide +kernel
theorem dX0_trace_126 : decode cX0_trace 126 = .ok (.iload 6, 2) := by decide +kernel
theorem dX0_trace_128 : decode cX0_trace 128 = .ok (.invokevirtual 83, 3) := by decide +kernel
theorem dX0_trace_131 : decode cX0_trace 131 = .ok (.aload_n 2, 1) := by decide +kernel
theorem dX0_trace_132 : decode cX0_trace 132 = .ok (.getfield 90, 3) := by decide +kernel
theorem dX0_trace_135 : decode cX0_trace 135 = .ok (.aload_n 0, 1) := by decide +kernel
theorem dX0_trace_136 : decode cX0_trace 136 = .ok (.getfield 18, 3) := by decide +kernel
theorem dX0_trace_139 : decode cX0_trace 139 = .ok (.aload_n 0, 1) := by decide +kernel
theorem dX0_trace_140 : decode cX0_trace 140 = .ok (.invokevirtual 140, 3) := by decide +kernel
theorem dX0_trace_143 : decode cX0_trace 143 = .ok (.invokevirtual 150, 3) := by decide +kernel
theorem dX0_trace_146 : decode cX0_trace 146 = .ok (.lstore 7, 2) := by decide +kernel
theorem dX0_trace_148 : decode cX0_trace 148 = .ok (.aload_n 0, 1) := by decide +kernel
theorem dX0_trace_149 : decode cX0_trace 149 = .ok (.aload_n 2, 1) := by decide +kernel
theorem dX0_trace_150 : decode cX0_trace 150 = .ok (.iload 6, 2) := by decide +kernel
theorem dX0_trace_152 : decode cX0_trace 152 = .ok (.invokevirtual 87, 3) := by decide +kernel
theorem dX0_trace_155 : decode cX0_trace 155 = .ok (.aload_n 2, 1) := by decide +kernel
theorem dX0_trace_156 : decode cX0_trace 156 = .ok (.getfield 90, 3) := by decide +kernel
theorem dX0_trace_159 : decode cX0_trace 159 = .ok (.aload_n 0, 1) := by decide +kernel
theorem dX0_trace_160 : decode cX0_trace 160 = .ok (.getfield 21, 3) := by decide +kernel
theorem dX0_trace_163 : decode cX0_trace 163 = .ok (.aload_n 0, 1) := by decide +kernel
theorem dX0_trace_164 : decode cX0_trace 164 = .ok (.invokevirtual 145, 3) := by decide +kernel
theorem dX0_trace_167 : decode cX0_trace 167 = .ok (.invokevirtual 150, 3) := by decide +kernel
theorem dX0_trace_170 : decode cX0_trace 170 = .ok (.lstore 9, 2) := by decide +kernel
theorem dX0_trace_172 : decode cX0_trace 172 = .ok (.aload_n 2, 1) := by decide +kernel
theorem dX0_trace_173 : decode cX0_trace 173 = .ok (.iload 6, 2) := by decide +kernel
theorem dX0_trace_175 : decode cX0_trace 175 = .ok (.invokevirtual 107, 3) := by decide +kernel
theorem dX0_trace_178 : decode cX0_trace 178 = .ok (.ifCond .eq 37, 3) := by decide +kernel
theorem dX0_trace_181 : decode cX0_trace 181 = .ok (.aload_n 3, 1) := by decide +kernel
theorem dX0_trace_182 : decode cX0_trace 182 = .ok (.iload 6, 2) := by decide +kernel
theorem dX0_trace_184 : decode cX0_trace 184 = .ok (.iconst 1, 1) := by decide +kernel
theorem dX0_trace_185 : decode cX0_trace 185 = .ok (.isub, 1) := by decide +kernel
theorem dX0_trace_186 : decode cX0_trace 186 = .ok (.invokevirtual 83, 3) := by decide +kernel
theorem dX0_trace_189 : decode cX0_trace 189 = .ok (.lload 7, 2) := by decide +kernel
theorem dX0_trace_191 : decode cX0_trace 191 = .ok (.lload 4, 2) := by decide +kernel
theorem dX0_trace_193 : decode cX0_trace 193 = .ok (.invokestatic 157, 3) := by decide +kernel
theorem dX0_trace_196 : decode cX0_trace 196 = .ok (.lstore 7, 2) := by decide +kernel
theorem dX0_trace_198 : decode cX0_trace 198 = .ok (.aload_n 3, 1) := by decide +kernel
theorem dX0_trace_199 : decode cX0_trace 199 = .ok (.iload 6, 2) := by decide +kernel
theorem dX0_trace_201 : decode cX0_trace 201 = .ok (.iconst 1, 1) := by decide +kernel
theorem dX0_trace_202 : decode cX0_trace 202 = .ok (.isub, 1) := by decide +kernel
theorem dX0_trace_203 : decode cX0_trace 203 = .ok (.invokevirtual 87, 3) := by decide +kernel
theorem dX0_trace_206 : decode cX0_trace 206 = .ok (.lload 9, 2) := by decide +kernel
theorem dX0_trace_208 : decode cX0_trace 208 = .ok (.lload 4, 2) := by decide +kernel
theorem dX0_trace_210 : decode cX0_trace 210 = .ok (.invokestatic 157, 3) := by decide +kernel
theorem dX0_trace_213 : decode cX0_trace 213 = .ok (.lstore 9, 2) := by decide +kernel
theorem dX0_trace_215 : decode cX0_trace 215 = .ok (.aload_n 3, 1) := by decide +kernel
theorem dX0_trace_216 : decode cX0_trace 216 = .ok (.lload 7, 2) := by decide +kernel
theorem dX0_trace_218 : decode cX0_trace 218 = .ok (.lload 9, 2) := by decide +kernel
theorem dX0_trace_220 : decode cX0_trace 220 = .ok (.aload_n 2, 1) := by decide +kernel
theorem dX0_trace_221 : decode cX0_trace 221 = .ok (.iload 6, 2) := by decide +kernel
theorem dX0_trace_223 : decode cX0_trace 223 = .ok (.invokevirtual 107, 3) := by decide +kernel
theorem dX0_trace_226 : decode cX0_trace 226 = .ok (.ifCond .eq 7, 3) := by decide +kernel
theorem dX0_trace_229 : decode cX0_trace 229 = .ok (.iconst 0, 1) := by decide +kernel
theorem dX0_trace_230 : decode cX0_trace 230 = .ok (.goto 4, 3) := by decide +kernel
theorem dX0_trace_233 : decode cX0_trace 233 = .ok (.iconst (-1), 1) := by decide +kernel
theorem dX0_trace_234 : decode cX0_trace 234 = .ok (.invokevirtual 161, 3) := by decide +kernel
theorem dX0_trace_237 : decode cX0_trace 237 = .ok (.iinc 6 1, 3) := by decide +kernel
theorem dX0_trace_240 : decode cX0_trace 240 = .ok (.goto (-125), 3) := by decide +kernel
theorem dX0_trace_243 : decode cX0_trace 243 = .ok (.return_, 1) := by decide +kernel
theorem dX0_aim_0 : decode cX0_aim 0 = .ok (.iload 5, 2) := by decide +kernel
theorem dX0_aim_2 : decode cX0_aim 2 = .ok (.i2l, 1) := by decide +kernel
theorem dX0_aim_3 : decode cX0_aim 3 = .ok (.lload_n 3, 1) := by decide +kernel
theorem dX0_aim_4 : decode cX0_aim 4 = .ok (.lmul, 1) := by decide +kernel
theorem dX0_aim_5 : decode cX0_aim 5 = .ok (.aload_n 0, 1) := by decide +kernel
theorem dX0_aim_6 : decode cX0_aim 6 = .ok (.getfield 15, 3) := by decide +kernel
theorem dX0_aim_9 : decode cX0_aim 9 = .ok (.i2l, 1) := by decide +kernel
theorem dX0_aim_10 : decode cX0_aim 10 = .ok (.lmul, 1) := by decide +kernel
theorem dX0_aim_11 : decode cX0_aim 11 = .ok (.iload 6, 2) := by decide +kernel
theorem dX0_aim_13 : decode cX0_aim 13 = .ok (.aload_n 0, 1) := by decide +kernel
theorem dX0_aim_14 : decode cX0_aim 14 = .ok (.getfield 9, 3) := by decide +kernel
theorem dX0_aim_17 : decode cX0_aim 17 = .ok (.imul, 1) := by decide +kernel
theorem dX0_aim_18 : decode cX0_aim 18 = .ok (.i2l, 1) := by decide +kernel
theorem dX0_aim_19 : decode cX0_aim 19 = .ok (.lload_n 1, 1) := by decide +kernel
theorem dX0_aim_20 : decode cX0_aim 20 = .ok (.iload 5, 2) := by decide +kernel
theorem dX0_aim_22 : decode cX0_aim 22 = .ok (.i2l, 1) := by decide +kernel
theorem dX0_aim_23 : decode cX0_aim 23 = .ok (.lload_n 3, 1) := by decide +kernel
theorem dX0_aim_24 : decode cX0_aim 24 = .ok (.lmul, 1) := by decide +kernel
theorem dX0_aim_25 : decode cX0_aim 25 = .ok (.lsub, 1) := by decide +kernel
theorem dX0_aim_26 : decode cX0_aim 26 = .ok (.lmul, 1) := by decide +kernel
theorem dX0_aim_27 : decode cX0_aim 27 = .ok (.ladd, 1) := by decide +kernel
theorem dX0_aim_28 : decode cX0_aim 28 = .ok (.lreturn, 1) := by decide +kernel
theorem dX0_follow_0 : decode cX0_follow 0 = .ok (.lload_n 2, 1) := by decide +kernel
theorem dX0_follow_1 : decode cX0_follow 1 = .ok (.lload_n 0, 1) := by decide +kernel
theorem dX0_follow_2 : decode cX0_follow 2 = .ok (.lload 4, 2) := by decide +kernel
theorem dX0_follow_4 : decode cX0_follow 4 = .ok (.ladd, 1) := by decide +kernel
theorem dX0_follow_5 : decode cX0_follow 5 = .ok (.lcmp, 1) := by decide +kernel
theorem dX0_follow_6 : decode cX0_follow 6 = .ok (.ifCond .le 8, 3) := by decide +kernel
theorem dX0_follow_9 : decode cX0_follow 9 = .ok (.lload_n 2, 1) := by decide +kernel
theorem dX0_follow_10 : decode cX0_follow 10 = .ok (.lload 4, 2) := by decide +kernel
theorem dX0_follow_12 : decode cX0_follow 12 = .ok (.lsub, 1) := by decide +kernel
theorem dX0_follow_13 : decode cX0_follow 13 = .ok (.lreturn, 1) := by decide +kernel
theorem dX0_follow_14 : decode cX0_follow 14 = .ok (.lload_n 2, 1) := by decide +kernel
theorem dX0_follow_15 : decode cX0_follow 15 = .ok (.lload_n 0, 1) := by decide +kernel
theorem dX0_follow_16 : decode cX0_follow 16 = .ok (.lload 4, 2) := by decide +kernel
theorem dX0_follow_18 : decode cX0_follow 18 = .ok (.lsub, 1) := by decide +kernel
theorem dX0_follow_19 : decode cX0_follow 19 = .ok (.lcmp, 1) := by decide +kernel
theorem dX0_follow_20 : decode cX0_follow 20 = .ok (.ifCond .ge 8, 3) := by decide +kernel
theorem dX0_follow_23 : decode cX0_follow 23 = .ok (.lload_n 2, 1) := by decide +kernel
theorem dX0_follow_24 : decode cX0_follow 24 = .ok (.lload 4, 2) := by decide +kernel
theorem dX0_follow_26 : decode cX0_follow 26 = .ok (.ladd, 1) := by decide +kernel
theorem dX0_follow_27 : decode cX0_follow 27 = .ok (.lreturn, 1) := by decide +kernel
theorem dX0_follow_28 : decode cX0_follow 28 = .ok (.lload_n 0, 1) := by decide +kernel
theorem dX0_follow_29 : decode cX0_follow 29 = .ok (.lreturn, 1) := by decide +kernel
theorem dX0_keepTraced_0 : decode cX0_keepTraced 0 = .ok (.aload_n 0, 1) := by decide +kernel
theorem dX0_keepTraced_1 : decode cX0_keepTraced 1 = .ok (.invokevirtual 68, 3) := by decide +kernel
theorem dX0_keepTraced_4 : decode cX0_keepTraced 4 = .ok (.astore_n 1, 1) := by decide +kernel
theorem dX0_keepTraced_5 : decode cX0_keepTraced 5 = .ok (.aload_n 1, 1) := by decide +kernel
theorem dX0_keepTraced_6 : decode cX0_keepTraced 6 = .ok (.ifnonnull 5, 3) := by decide +kernel
theorem dX0_keepTraced_9 : decode cX0_keepTraced 9 = .ok (.iconst (-1), 1) := by decide +kernel
theorem dX0_keepTraced_10 : decode cX0_keepTraced 10 = .ok (.ireturn, 1) := by decide +kernel
theorem dX0_keepTraced_11 : decode cX0_keepTraced 11 = .ok (.iconst 0, 1) := by decide +kernel
theorem dX0_keepTraced_12 : decode cX0_keepTraced 12 = .ok (.istore_n 2, 1) := by decide +kernel
theorem dX0_keepTraced_13 : decode cX0_keepTraced 13 = .ok (.iload_n 2, 1) := by decide +kernel
theorem dX0_keepTraced_14 : decode cX0_keepTraced 14 = .ok (.aload_n 1, 1) := by decide +kernel
theorem dX0_keepTraced_15 : decode cX0_keepTraced 15 = .ok (.getfield 94, 3) := by decide +kernel
theorem dX0_keepTraced_18 : decode cX0_keepTraced 18 = .ok (.if_icmp .ge 15, 3) := by decide +kernel
theorem dX0_keepTraced_21 : decode cX0_keepTraced 21 = .ok (.aload_n 0, 1) := by decide +kernel
theorem dX0_keepTraced_22 : decode cX0_keepTraced 22 = .ok (.aload_n 1, 1) := by decide +kernel
theorem dX0_keepTraced_23 : decode cX0_keepTraced 23 = .ok (.iload_n 2, 1) := by decide +kernel
theorem dX0_keepTraced_24 : decode cX0_keepTraced 24 = .ok (.invokevirtual 165, 3) := by decide +kernel
theorem dX0_keepTraced_27 : decode cX0_keepTraced 27 = .ok (.iinc 2 1, 3) := by decide +kernel
theorem dX0_keepTraced_30 : decode cX0_keepTraced 30 = .ok (.goto (-17), 3) := by decide +kernel
theorem dX0_keepTraced_33 : decode cX0_keepTraced 33 = .ok (.aload_n 0, 1) := by decide +kernel
theorem dX0_keepTraced_34 : decode cX0_keepTraced 34 = .ok (.dup, 1) := by decide +kernel
theorem dX0_keepTraced_35 : decode cX0_keepTraced 35 = .ok (.getfield 52, 3) := by decide +kernel
theorem dX0_keepTraced_38 : decode cX0_keepTraced 38 = .ok (.iconst 1, 1) := by decide +kernel
theorem dX0_keepTraced_39 : decode cX0_keepTraced 39 = .ok (.iadd, 1) := by decide +kernel
theorem dX0_keepTraced_40 : decode cX0_keepTraced 40 = .ok (.putfield 52, 3) := by decide +kernel
theorem dX0_keepTraced_43 : decode cX0_keepTraced 43 = .ok (.aload_n 0, 1) := by decide +kernel
theorem dX0_keepTraced_44 : decode cX0_keepTraced 44 = .ok (.getfield 52, 3) := by decide +kernel
theorem dX0_keepTraced_47 : decode cX0_keepTraced 47 = .ok (.iconst 1, 1) := by decide +kernel
theorem dX0_keepTraced_48 : decode cX0_keepTraced 48 = .ok (.isub, 1) := by decide +kernel
theorem dX0_keepTraced_49 : decode cX0_keepTraced 49 = .ok (.ireturn, 1) := by decide +kernel
