theorem dX3_init_0 : decode cX3_init 0 = .ok (.aload_n 0, 1) := by decide +kernel
theorem dX3_init_1 : decode cX3_init 1 = .ok (.invokespecial 1, 3) := by decide +kernel
theorem dX3_init_4 : decode cX3_init 4 = .ok (.aload_n 0, 1) := by decide +kernel
theorem dX3_init_5 : decode cX3_init 5 = .ok (.new 7, 3) := by decide +kernel
theorem dX3_init_8 : decode cX3_init 8 = .ok (.dup, 1) := by decide +kernel
theorem dX3_init_9 : decode cX3_init 9 = .ok (.invokespecial 9, 3) := by decide +kernel
theorem dX3_init_12 : decode cX3_init 12 = .ok (.putfield 10, 3) := by decide +kernel
theorem dX3_init_15 : decode cX3_init 15 = .ok (.aload_n 0, 1) := by decide +kernel
theorem dX3_init_16 : decode cX3_init 16 = .ok (.iconst 4, 1) := by decide +kernel
theorem dX3_init_17 : decode cX3_init 17 = .ok (.anewarray 7, 3) := by decide +kernel
theorem dX3_init_20 : decode cX3_init 20 = .ok (.putfield 16, 3) := by decide +kernel
theorem dX3_init_23 : decode cX3_init 23 = .ok (.aload_n 0, 1) := by decide +kernel
theorem dX3_init_24 : decode cX3_init 24 = .ok (.iconst 0, 1) := by decide +kernel
theorem dX3_init_25 : decode cX3_init 25 = .ok (.putfield 20, 3) := by decide +kernel
theorem dX3_init_28 : decode cX3_init 28 = .ok (.aload_n 0, 1) := by decide +kernel
theorem dX3_init_29 : decode cX3_init 29 = .ok (.new 24, 3) := by decide +kernel
theorem dX3_init_32 : decode cX3_init 32 = .ok (.dup, 1) := by decide +kernel
theorem dX3_init_33 : decode cX3_init 33 = .ok (.invokespecial 26, 3) := by decide +kernel
theorem dX3_init_36 : decode cX3_init 36 = .ok (.putfield 27, 3) := by decide +kernel
theorem dX3_init_39 : decode cX3_init 39 = .ok (.iconst 0, 1) := by decide +kernel
theorem dX3_init_40 : decode cX3_init 40 = .ok (.istore_n 1, 1) := by decide +kernel
theorem dX3_init_41 : decode cX3_init 41 = .ok (.iload_n 1, 1) := by decide +kernel
theorem dX3_init_42 : decode cX3_init 42 = .ok (.aload_n 0, 1) := by decide +kernel
theorem dX3_init_43 : decode cX3_init 43 = .ok (.getfield 16, 3) := by decide +kernel
theorem dX3_init_46 : decode cX3_init 46 = .ok (.arraylength, 1) := by decide +kernel
theorem dX3_init_47 : decode cX3_init 47 = .ok (.if_icmp .ge 22, 3) := by decide +kernel
theorem dX3_init_50 : decode cX3_init 50 = .ok (.aload_n 0, 1) := by decide +kernel
theorem dX3_init_51 : decode cX3_init 51 = .ok (.getfield 16, 3) := by decide +kernel
theorem dX3_init_54 : decode cX3_init 54 = .ok (.iload_n 1, 1) := by decide +kernel
theorem dX3_init_55 : decode cX3_init 55 = .ok (.new 7, 3) := by decide +kernel
theorem dX3_init_58 : decode cX3_init 58 = .ok (.dup, 1) := by decide +kernel
theorem dX3_init_59 : decode cX3_init 59 = .ok (.invokespecial 9, 3) := by decide +kernel
theorem dX3_init_62 : decode cX3_init 62 = .ok (.aastore, 1) := by decide +kernel
theorem dX3_init_63 : decode cX3_init 63 = .ok (.iinc 1 1, 3) := by decide +kernel
theorem dX3_init_66 : decode cX3_init 66 = .ok (.goto (-25), 3) := by decide +kernel
theorem dX3_init_69 : decode cX3_init 69 = .ok (.return_, 1) := by decide +kernel
theorem dX3_arm_0 : decode cX3_arm 0 = .ok (.iload_n 1, 1) := by decide +kernel
theorem dX3_arm_1 : decode cX3_arm 1 = .ok (.iconst 1, 1) := by decide +kernel
theorem dX3_arm_2 : decode cX3_arm 2 = .ok (.bipush 20, 2) := by decide +kernel
theorem dX3_arm_4 : decode cX3_arm 4 = .ok (.invokestatic 31, 3) := by decide +kernel
theorem dX3_arm_7 : decode cX3_arm 7 = .ok (.ifCond .eq 13, 3) := by decide +kernel
theorem dX3_arm_10 : decode cX3_arm 10 = .ok (.iload_n 2, 1) := by decide +kernel
theorem dX3_arm_11 : decode cX3_arm 11 = .ok (.iconst 1, 1) := by decide +kernel
theorem dX3_arm_12 : decode cX3_arm 12 = .ok (.bipush 20, 2) := by decide +kernel
theorem dX3_arm_14 : decode cX3_arm 14 = .ok (.invokestatic 31, 3) := by decide +kernel
theorem dX3_arm_17 : decode cX3_arm 17 = .ok (.ifCond .ne 6, 3) := by decide +kernel
theorem dX3_arm_20 : decode cX3_arm 20 = .ok (.ldc 35, 2) := by decide +kernel
theorem dX3_arm_22 : decode cX3_arm 22 = .ok (.ireturn, 1) := by decide +kernel
theorem dX3_arm_23 : decode cX3_arm 23 = .ok (.bipush 100, 2) := by decide +kernel
theorem dX3_arm_25 : decode cX3_arm 25 = .ok (.aload_n 0, 1) := by decide +kernel
theorem dX3_arm_26 : decode cX3_arm 26 = .ok (.getfield 10, 3) := by decide +kernel
theorem dX3_arm_29 : decode cX3_arm 29 = .ok (.getfield 36, 3) := by decide +kernel
theorem dX3_arm_32 : decode cX3_arm 32 = .ok (.imul, 1) := by decide +kernel
theorem dX3_arm_33 : decode cX3_arm 33 = .ok (.aload_n 0, 1) := by decide +kernel
theorem dX3_arm_34 : decode cX3_arm 34 = .ok (.getfield 10, 3) := by decide +kernel
theorem dX3_arm_37 : decode cX3_arm 37 = .ok (.getfield 39, 3) := by decide +kernel
theorem dX3_arm_40 : decode cX3_arm 40 = .ok (.iadd, 1) := by decide +kernel
theorem dX3_arm_41 : decode cX3_arm 41 = .ok (.istore_n 3, 1) := by decide +kernel
theorem dX3_arm_42 : decode cX3_arm 42 = .ok (.aload_n 0, 1) := by decide +kernel
theorem dX3_arm_43 : decode cX3_arm 43 = .ok (.invokevirtual 42, 3) := by decide +kernel
theorem dX3_arm_46 : decode cX3_arm 46 = .ok (.aload_n 0, 1) := by decide +kernel
theorem dX3_arm_47 : decode cX3_arm 47 = .ok (.getfield 10, 3) := by decide +kernel
theorem dX3_arm_50 : decode cX3_arm 50 = .ok (.iload_n 1, 1) := by decide +kernel
theorem dX3_arm_51 : decode cX3_arm 51 = .ok (.putfield 36, 3) := by decide +kernel
theorem dX3_arm_54 : decode cX3_arm 54 = .ok (.aload_n 0, 1) := by decide +kernel
theorem dX3_arm_55 : decode cX3_arm 55 = .ok (.getfield 10, 3) := by decide +kernel
theorem dX3_arm_58 : decode cX3_arm 58 = .ok (.iload_n 2, 1) := by decide +kernel
theorem dX3_arm_59 : decode cX3_arm 59 = .ok (.putfield 39, 3) := by decide +kernel
theorem dX3_arm_62 : decode cX3_arm 62 = .ok (.iload_n 3, 1) := by decide +kernel
theorem dX3_arm_63 : decode cX3_arm 63 = .ok (.ireturn, 1) := by decide +kernel
theorem dX3_pivot_0 : decode cX3_pivot 0 = .ok (.iload_n 1, 1) := by decide +kernel
theorem dX3_pivot_1 : decode cX3_pivot 1 = .ok (.iconst 0, 1) := by decide +kernel
theorem dX3_pivot_2 : decode cX3_pivot 2 = .ok (.sipush 1000, 3) := by decide +kernel
theorem dX3_pivot_5 : decode cX3_pivot 5 = .ok (.invokestatic 31, 3) := by decide +kernel
theorem dX3_pivot_8 : decode cX3_pivot 8 = .ok (.ifCond .eq 14, 3) := by decide +kernel
theorem dX3_pivot_11 : decode cX3_pivot 11 = .ok (.iload_n 2, 1) := by decide +kernel
theorem dX3_pivot_12 : decode cX3_pivot 12 = .ok (.iconst 0, 1) := by decide +kernel
theorem dX3_pivot_13 : decode cX3_pivot 13 = .ok (.sipush 1000, 3) := by decide +kernel
theorem dX3_pivot_16 : decode cX3_pivot 16 = .ok (.invokestatic 31, 3) := by decide +kernel
theorem dX3_pivot_19 : decode cX3_pivot 19 = .ok (.ifCond .ne 6, 3) := by decide +kernel
theorem dX3_pivot_22 : decode cX3_pivot 22 = .ok (.ldc 35, 2) := by decide +kernel
theorem dX3_pivot_24 : decode cX3_pivot 24 = .ok (.ireturn, 1) := by decide +kernel
theorem dX3_pivot_25 : decode cX3_pivot 25 = .ok (.sipush 10000, 3) := by decide +kernel
theorem dX3_pivot_28 : decode cX3_pivot 28 = .ok (.aload_n 0, 1) := by decide +kernel
theorem dX3_pivot_29 : decode cX3_pivot 29 = .ok (.getfield 10, 3) := by decide +kernel
theorem dX3_pivot_32 : decode cX3_pivot 32 = .ok (.getfield 45, 3) := by decide +kernel
theorem dX3_pivot_35 : decode cX3_pivot 35 = .ok (.imul, 1) := by decide +kernel
theorem dX3_pivot_36 : decode cX3_pivot 36 = .ok (.aload_n 0, 1) := by decide +kernel
theorem dX3_pivot_37 : decode cX3_pivot 37 = .ok (.getfield 10, 3) := by decide +kernel
theorem dX3_pivot_40 : decode cX3_pivot 40 = .ok (.getfield 48, 3) := by decide +kernel
theorem dX3_pivot_43 : decode cX3_pivot 43 = .ok (.iadd, 1) := by decide +kernel
theorem dX3_pivot_44 : decode cX3_pivot 44 = .ok (.istore_n 3, 1) := by decide +kernel
theorem dX3_pivot_45 : decode cX3_pivot 45 = .ok (.aload_n 0, 1) := by decide +kernel
theorem dX3_pivot_46 : decode cX3_pivot 46 = .ok (.invokevirtual 42, 3) := by decide +kernel
theorem dX3_pivot_49 : decode cX3_pivot 49 = .ok (.aload_n 0, 1) := by decide +kernel
theorem dX3_pivot_50 : decode cX3_pivot 50 = .ok (.getfield 10, 3) := by decide +kernel
theorem dX3_pivot_53 : decode cX3_pivot 53 = .ok (.iload_n 1, 1) := by decide +kernel
theorem dX3_pivot_54 : decode cX3_pivot 54 = .ok (.putfield 45, 3) := by decide +kernel
theorem dX3_pivot_57 : decode cX3_pivot 57 = .ok (.aload_n 0, 1) := by decide +kernel
theorem dX3_pivot_58 : decode cX3_pivot 58 = .ok (.getfield 10, 3) := by decide +kernel
theorem dX3_pivot_61 : decode cX3_pivot 61 = .ok (.iload_n 2, 1) := by decide +kernel
theorem dX3_pivot_62 : decode cX3_pivot 62 = .ok (.putfield 48, 3) := by decide +kernel
theorem dX3_pivot_65 : decode cX3_pivot 65 = .ok (.iload_n 3, 1) := by decide +kernel
theorem dX3_pivot_66 : decode cX3_pivot 66 = .ok (.ireturn, 1) := by decide +kernel
theorem dX3_set_0 : decode cX3_set 0 = .ok (.iload_n 1, 1) := by decide +kernel
theorem dX3_set_1 : decode cX3_set 1 = .ok (.ifCond .lt 36, 3) := by decide +kernel
theorem dX3_set_4 : decode cX3_set 4 = .ok (.iload_n 1, 1) := by decide +kernel
theorem dX3_set_5 : decode cX3_set 5 = .ok (.getstatic 51, 3) := by decide +kernel
theorem dX3_set_8 : decode cX3_set 8 = .ok (.arraylength, 1) := by decide +kernel
theorem dX3_set_9 : decode cX3_set 9 = .ok (.if_icmp .ge 28, 3) := by decide +kernel
theorem dX3_set_12 : decode cX3_set 12 = .ok (.iload_n 1, 1) := by decide +kernel
theorem dX3_set_13 : decode cX3_set 13 = .ok (.getstatic 55, 3) := by decide +kernel
theorem dX3_set_16 : decode cX3_set 16 = .ok (.arraylength, 1) := by decide +kernel
theorem dX3_set_17 : decode cX3_set 17 = .ok (.if_icmp .ge 20, 3) := by decide +kernel
theorem dX3_set_20 : decode cX3_set 20 = .ok (.iload_n 2, 1) := by decide +kernel
theorem dX3_set_21 : decode cX3_set 21 = .ok (.getstatic 51, 3) := by decide +kernel
theorem dX3_set_24 : decode cX3_set 24 = .ok (.iload_n 1, 1) := by decide +kernel
theorem dX3_set_25 : decode cX3_set 25 = .ok (.iaload, 1) := by decide +kernel
theorem dX3_set_26 : decode cX3_set 26 = .ok (.getstatic 55, 3) := by decide +kernel
theorem dX3_set_29 : decode cX3_set 29 = .ok (.iload_n 1, 1) := by decide +kernel
theorem dX3_set_30 : decode cX3_set 30 = .ok (.iaload, 1) := by decide +kernel
theorem dX3_set_31 : decode cX3_set 31 = .ok (.invokestatic 31, 3) := by decide +kernel
theorem dX3_set_34 : decode cX3_set 34 = .ok (.ifCond .ne 6, 3) := by decide +kernel
theorem dX3_set_37 : decode cX3_set 37 = .ok (.ldc 35, 2) := by decide +kernel
theorem dX3_set_39 : decode cX3_set 39 = .ok (.ireturn, 1) := by decide +kernel
theorem dX3_set_40 : decode cX3_set 40 = .ok (.aload_n 0, 1) := by decide +kernel
theorem dX3_set_41 : decode cX3_set 41 = .ok (.getfield 10, 3) := by decide +kernel
theorem dX3_set_44 : decode cX3_set 44 = .ok (.iload_n 1, 1) := by decide +kernel
theorem dX3_set_45 : decode cX3_set 45 = .ok (.invokevirtual 58, 3) := by decide +kernel
theorem dX3_set_48 : decode cX3_set 48 = .ok (.istore_n 3, 1) := by decide +kernel
theorem dX3_set_49 : decode cX3_set 49 = .ok (.aload_n 0, 1) := by decide +kernel
theorem dX3_set_50 : decode cX3_set 50 = .ok (.invokevirtual 42, 3) := by decide +kernel
theorem dX3_set_53 : decode cX3_set 53 = .ok (.aload_n 0, 1) := by decide +kernel
theorem dX3_set_54 : decode cX3_set 54 = .ok (.getfield 10, 3) := by decide +kernel
theorem dX3_set_57 : decode cX3_set 57 = .ok (.iload_n 1, 1) := by decide +kernel
theorem dX3_set_58 : decode cX3_set 58 = .ok (.iload_n 2, 1) := by decide +kernel
theorem dX3_set_59 : decode cX3_set 59 = .ok (.invokevirtual 62, 3) := by decide +kernel
theorem dX3_set_62 : decode cX3_set 62 = .ok (.iload_n 3, 1) := by decide +kernel
theorem dX3_set_63 : decode cX3_set 63 = .ok (.ireturn, 1) := by decide +kernel
theorem dX3_count_0 : decode cX3_count 0 = .ok (.iload_n 1, 1) := by decide +kernel
theorem dX3_count_1 : decode cX3_count 1 = .ok (.tableswitch 241 0 17 #[87, 95, 103, 111, 119, 127, 136, 145, 154, 163, 172, 180, 196, 204, 212, 220, 228, 233], 87) := by decide +kernel
theorem dX3_count_88 : decode cX3_count 88 = .ok (.aload_n 0, 1) := by decide +kernel
theorem dX3_count_89 : decode cX3_count 89 = .ok (.getfield 10, 3) := by decide +kernel
theorem dX3_count_92 : decode cX3_count 92 = .ok (.getfield 66, 3) := by decide +kernel
theorem dX3_count_95 : decode cX3_count 95 = .ok (.ireturn, 1) := by decide +kernel
theorem dX3_count_96 : decode cX3_count 96 = .ok (.aload_n 0, 1) := by decide +kernel
theorem dX3_count_97 : decode cX3_count 97 = .ok (.getfield 10, 3) := by decide +kernel
theorem dX3_count_100 : decode cX3_count 100 = .ok (.getfield 36, 3) := by decide +kernel
theorem dX3_count_103 : decode cX3_count 103 = .ok (.ireturn, 1) := by decide +kernel
theorem dX3_count_104 : decode cX3_count 104 = .ok (.aload_n 0, 1) := by decide +kernel
theorem dX3_count_105 : decode cX3_count 105 = .ok (.getfield 10, 3) := by decide +kernel
theorem dX3_count_108 : decode cX3_count 108 = .ok (.getfield 39, 3) := by decide +kernel
theorem dX3_count_111 : decode cX3_count 111 = .ok (.ireturn, 1) := by decide +kernel
theorem dX3_count_112 : decode cX3_count 112 = .ok (.aload_n 0, 1) := by decide +kernel
theorem dX3_count_113 : decode cX3_count 113 = .ok (.getfield 10, 3) := by decide +kernel
theorem dX3_count_116 : decode cX3_count 116 = .ok (.getfield 45, 3) := by decide +kernel
theorem dX3_count_119 : decode cX3_count 119 = .ok (.ireturn, 1) := by decide +kernel
theorem dX3_count_120 : decode cX3_count 120 = .ok (.aload_n 0, 1) := by decide +kernel
theorem dX3_count_121 : decode cX3_count 121 = .ok (.getfield 10, 3) := by decide +kernel
theorem dX3_count_124 : decode cX3_count 124 = .ok (.getfield 48, 3) := by decide +kernel
theorem dX3_count_127 : decode cX3_count 127 = .ok (.ireturn, 1) := by decide +kernel
theorem dX3_count_128 : decode cX3_count 128 = .ok (.aload_n 0, 1) := by decide +kernel
theorem dX3_count_129 : decode cX3_count 129 = .ok (.getfield 10, 3) := by decide +kernel
theorem dX3_count_132 : decode cX3_count 132 = .ok (.iconst 0, 1) := by decide +kernel
theorem dX3_count_133 : decode cX3_count 133 = .ok (.invokevirtual 58, 3) := by decide +kernel
theorem dX3_count_136 : decode cX3_count 136 = .ok (.ireturn, 1) := by decide +kernel
theorem dX3_count_137 : decode cX3_count 137 = .ok (.aload_n 0, 1) := by decide +kernel
theorem dX3_count_138 : decode cX3_count 138 = .ok (.getfield 10, 3) := by decide +kernel
theorem dX3_count_141 : decode cX3_count 141 = .ok (.iconst 1, 1) := by decide +kernel
theorem dX3_count_142 : decode cX3_count 142 = .ok (.invokevirtual 58, 3) := by decide +kernel
theorem dX3_count_145 : decode cX3_count 145 = .ok (.ireturn, 1) := by decide +kernel
theorem dX3_count_146 : decode cX3_count 146 = .ok (.aload_n 0, 1) := by decide +kernel
theorem dX3_count_147 : decode cX3_count 147 = .ok (.getfield 10, 3) := by decide +kernel
theorem dX3_count_150 : decode cX3_count 150 = .ok (.iconst 2, 1) := by decide +kernel
theorem dX3_count_151 : decode cX3_count 151 = .ok (.invokevirtual 58, 3) := by decide +kernel
theorem dX3_count_154 : decode cX3_count 154 = .ok (.ireturn, 1) := by decide +kernel
theorem dX3_count_155 : decode cX3_count 155 = .ok (.aload_n 0, 1) := by decide +kernel
theorem dX3_count_156 : decode cX3_count 156 = .ok (.getfield 10, 3) := by decide +kernel
theorem dX3_count_159 : decode cX3_count 159 = .ok (.iconst 3, 1) := by decide +kernel
theorem dX3_count_160 : decode cX3_count 160 = .ok (.invokevirtual 58, 3) := by decide +kernel
theorem dX3_count_163 : decode cX3_count 163 = .ok (.ireturn, 1) := by decide +kernel
theorem dX3_count_164 : decode cX3_count 164 = .ok (.aload_n 0, 1) := by decide +kernel
theorem dX3_count_165 : decode cX3_count 165 = .ok (.getfield 10, 3) := by decide +kernel
theorem dX3_count_168 : decode cX3_count 168 = .ok (.iconst 4, 1) := by decide +kernel
theorem dX3_count_169 : decode cX3_count 169 = .ok (.invokevirtual 58, 3) := by decide +kernel
theorem dX3_count_172 : decode cX3_count 172 = .ok (.ireturn, 1) := by decide +kernel
theorem dX3_count_173 : decode cX3_count 173 = .ok (.aload_n 0, 1) := by decide +kernel
theorem dX3_count_174 : decode cX3_count 174 = .ok (.getfield 10, 3) := by decide +kernel
theorem dX3_count_177 : decode cX3_count 177 = .ok (.getfield 69, 3) := by decide +kernel
theorem dX3_count_180 : decode cX3_count 180 = .ok (.ireturn, 1) := by decide +kernel
theorem dX3_count_181 : decode cX3_count 181 = .ok (.aload_n 0, 1) := by decide +kernel
theorem dX3_count_182 : decode cX3_count 182 = .ok (.getfield 10, 3) := by decide +kernel
theorem dX3_count_185 : decode cX3_count 185 = .ok (.invokevirtual 72, 3) := by decide +kernel
theorem dX3_count_188 : decode cX3_count 188 = .ok (.ifCond .eq 7, 3) := by decide +kernel
theorem dX3_count_191 : decode cX3_count 191 = .ok (.iconst 1, 1) := by decide +kernel
theorem dX3_count_192 : decode cX3_count 192 = .ok (.goto 4, 3) := by decide +kernel
theorem dX3_count_195 : decode cX3_count 195 = .ok (.iconst 0, 1) := by decide +kernel
theorem dX3_count_196 : decode cX3_count 196 = .ok (.ireturn, 1) := by decide +kernel
theorem dX3_count_197 : decode cX3_count 197 = .ok (.aload_n 0, 1) := by decide +kernel
theorem dX3_count_198 : decode cX3_count 198 = .ok (.getfield 10, 3) := by decide +kernel
theorem dX3_count_201 : decode cX3_count 201 = .ok (.getfield 76, 3) := by decide +kernel
theorem dX3_count_204 : decode cX3_count 204 = .ok (.ireturn, 1) := by decide +kernel
theorem dX3_count_205 : decode cX3_count 205 = .ok (.aload_n 0, 1) := by decide +kernel
theorem dX3_count_206 : decode cX3_count 206 = .ok (.getfield 10, 3) := by decide +kernel
theorem dX3_count_209 : decode cX3_count 209 = .ok (.getfield 79, 3) := by decide +kernel
theorem dX3_count_212 : decode cX3_count 212 = .ok (.ireturn, 1) := by decide +kernel
theorem dX3_count_213 : decode cX3_count 213 = .ok (.aload_n 0, 1) := by decide +kernel
theorem dX3_count_214 : decode cX3_count 214 = .ok (.getfield 10, 3) := by decide +kernel
theorem dX3_count_217 : decode cX3_count 217 = .ok (.getfield 82, 3) := by decide +kernel
theorem dX3_count_220 : decode cX3_count 220 = .ok (.ireturn, 1) := by decide +kernel
theorem dX3_count_221 : decode cX3_count 221 = .ok (.aload_n 0, 1) := by decide +kernel
theorem dX3_count_222 : decode cX3_count 222 = .ok (.getfield 10, 3) := by decide +kernel
theorem dX3_count_225 : decode cX3_count 225 = .ok (.getfield 85, 3) := by decide +kernel
theorem dX3_count_228 : decode cX3_count 228 = .ok (.ireturn, 1) := by decide +kernel
theorem dX3_count_229 : decode cX3_count 229 = .ok (.aload_n 0, 1) := by decide +kernel
theorem dX3_count_230 : decode cX3_count 230 = .ok (.getfield 20, 3) := by decide +kernel
theorem dX3_count_233 : decode cX3_count 233 = .ok (.ireturn, 1) := by decide +kernel
theorem dX3_count_234 : decode cX3_count 234 = .ok (.aload_n 0, 1) := by decide +kernel
theorem dX3_count_235 : decode cX3_count 235 = .ok (.getfield 27, 3) := by decide +kernel
theorem dX3_count_238 : decode cX3_count 238 = .ok (.getfield 88, 3) := by decide +kernel
theorem dX3_count_241 : decode cX3_count 241 = .ok (.ireturn, 1) := by decide +kernel
theorem dX3_count_242 : decode cX3_count 242 = .ok (.ldc 35, 2) := by decide +kernel
theorem dX3_count_244 : decode cX3_count 244 = .ok (.ireturn, 1) := by decide +kernel
theorem dX3_sharpen_0 : decode cX3_sharpen 0 = .ok (.aload_n 0, 1) := by decide +kernel
theorem dX3_sharpen_1 : decode cX3_sharpen 1 = .ok (.getfield 10, 3) := by decide +kernel
theorem dX3_sharpen_4 : decode cX3_sharpen 4 = .ok (.getfield 76, 3) := by decide +kernel
theorem dX3_sharpen_7 : decode cX3_sharpen 7 = .ok (.iconst 1, 1) := by decide +kernel
theorem dX3_sharpen_8 : decode cX3_sharpen 8 = .ok (.if_icmp .ge 6, 3) := by decide +kernel
theorem dX3_sharpen_11 : decode cX3_sharpen 11 = .ok (.ldc 91, 2) := by decide +kernel
theorem dX3_sharpen_13 : decode cX3_sharpen 13 = .ok (.ireturn, 1) := by decide +kernel
theorem dX3_sharpen_14 : decode cX3_sharpen 14 = .ok (.aload_n 0, 1) := by decide +kernel
theorem dX3_sharpen_15 : decode cX3_sharpen 15 = .ok (.getfield 10, 3) := by decide +kernel
theorem dX3_sharpen_18 : decode cX3_sharpen 18 = .ok (.getfield 69, 3) := by decide +kernel
theorem dX3_sharpen_21 : decode cX3_sharpen 21 = .ok (.istore_n 1, 1) := by decide +kernel
theorem dX3_sharpen_22 : decode cX3_sharpen 22 = .ok (.aload_n 0, 1) := by decide +kernel
theorem dX3_sharpen_23 : decode cX3_sharpen 23 = .ok (.invokevirtual 42, 3) := by decide +kernel
theorem dX3_sharpen_26 : decode cX3_sharpen 26 = .ok (.aload_n 0, 1) := by decide +kernel
theorem dX3_sharpen_27 : decode cX3_sharpen 27 = .ok (.getfield 10, 3) := by decide +kernel
theorem dX3_sharpen_30 : decode cX3_sharpen 30 = .ok (.dup, 1) := by decide +kernel
theorem dX3_sharpen_31 : decode cX3_sharpen 31 = .ok (.getfield 76, 3) := by decide +kernel
theorem dX3_sharpen_34 : decode cX3_sharpen 34 = .ok (.iconst 1, 1) := by decide +kernel
theorem dX3_sharpen_35 : decode cX3_sharpen 35 = .ok (.isub, 1) := by decide +kernel
theorem dX3_sharpen_36 : decode cX3_sharpen 36 = .ok (.putfield 76, 3) := by decide +kernel
theorem dX3_sharpen_39 : decode cX3_sharpen 39 = .ok (.aload_n 0, 1) := by decide +kernel
theorem dX3_sharpen_40 : decode cX3_sharpen 40 = .ok (.getfield 10, 3) := by decide +kernel
theorem dX3_sharpen_43 : decode cX3_sharpen 43 = .ok (.iconst 0, 1) := by decide +kernel
theorem dX3_sharpen_44 : decode cX3_sharpen 44 = .ok (.putfield 69, 3) := by decide +kernel
theorem dX3_sharpen_47 : decode cX3_sharpen 47 = .ok (.iload_n 1, 1) := by decide +kernel
theorem dX3_sharpen_48 : decode cX3_sharpen 48 = .ok (.ireturn, 1) := by decide +kernel
theorem dX3_draw_0 : decode cX3_draw 0 = .ok (.aload_n 0, 1) := by decide +kernel
theorem dX3_draw_1 : decode cX3_draw 1 = .ok (.getfield 10, 3) := by decide +kernel
theorem dX3_draw_4 : decode cX3_draw 4 = .ok (.invokevirtual 92, 3) := by decide +kernel
theorem dX3_draw_7 : decode cX3_draw 7 = .ok (.ifnonnull 6, 3) := by decide +kernel
theorem dX3_draw_10 : decode cX3_draw 10 = .ok (.ldc 91, 2) := by decide +kernel
theorem dX3_draw_12 : decode cX3_draw 12 = .ok (.ireturn, 1) := by decide +kernel
theorem dX3_draw_13 : decode cX3_draw 13 = .ok (.aload_n 0, 1) := by decide +kernel
theorem dX3_draw_14 : decode cX3_draw 14 = .ok (.invokevirtual 42, 3) := by decide +kernel
theorem dX3_draw_17 : decode cX3_draw 17 = .ok (.aload_n 0, 1) := by decide +kernel
theorem dX3_draw_18 : decode cX3_draw 18 = .ok (.getfield 10, 3) := by decide +kernel
theorem dX3_draw_21 : decode cX3_draw 21 = .ok (.invokevirtual 96, 3) := by decide +kernel
theorem dX3_draw_24 : decode cX3_draw 24 = .ok (.ireturn, 1) := by decide +kernel
theorem dX3_point_0 : decode cX3_point 0 = .ok (.aload_n 0, 1) := by decide +kernel
theorem dX3_point_1 : decode cX3_point 1 = .ok (.getfield 10, 3) := by decide +kernel
theorem dX3_point_4 : decode cX3_point 4 = .ok (.iload_n 1, 1) := by decide +kernel
theorem dX3_point_5 : decode cX3_point 5 = .ok (.invokevirtual 100, 3) := by decide +kernel
theorem dX3_point_8 : decode cX3_point 8 = .ok (.astore 5, 2) := by decide +kernel
theorem dX3_point_10 : decode cX3_point 10 = .ok (.aload 5, 2) := by decide +kernel
theorem dX3_point_12 : decode cX3_point 12 = .ok (.ifnull 35, 3) := by decide +kernel
theorem dX3_point_15 : decode cX3_point 15 = .ok (.iload_n 2, 1) := by decide +kernel
theorem dX3_point_16 : decode cX3_point 16 = .ok (.iconst 0, 1) := by decide +kernel
theorem dX3_point_17 : decode cX3_point 17 = .ok (.sipush 1000, 3) := by decide +kernel
theorem dX3_point_20 : decode cX3_point 20 = .ok (.invokestatic 31, 3) := by decide +kernel
theorem dX3_point_23 : decode cX3_point 23 = .ok (.ifCond .eq 24, 3) := by decide +kernel
theorem dX3_point_26 : decode cX3_point 26 = .ok (.iload_n 3, 1) := by decide +kernel
theorem dX3_point_27 : decode cX3_point 27 = .ok (.iconst 0, 1) := by decide +kernel
theorem dX3_point_28 : decode cX3_point 28 = .ok (.sipush 1000, 3) := by decide +kernel
theorem dX3_point_31 : decode cX3_point 31 = .ok (.invokestatic 31, 3) := by decide +kernel
theorem dX3_point_34 : decode cX3_point 34 = .ok (.ifCond .eq 13, 3) := by decide +kernel
theorem dX3_point_37 : decode cX3_point 37 = .ok (.iload 4, 2) := by decide +kernel
theorem dX3_point_39 : decode cX3_point 39 = .ok (.iconst 0, 1) := by decide +kernel
theorem dX3_point_40 : decode cX3_point 40 = .ok (.iconst 1, 1) := by decide +kernel
theorem dX3_point_41 : decode cX3_point 41 = .ok (.invokestatic 31, 3) := by decide +kernel
theorem dX3_point_44 : decode cX3_point 44 = .ok (.ifCond .ne 6, 3) := by decide +kernel
theorem dX3_point_47 : decode cX3_point 47 = .ok (.ldc 35, 2) := by decide +kernel
theorem dX3_point_49 : decode cX3_point 49 = .ok (.ireturn, 1) := by decide +kernel
theorem dX3_point_50 : decode cX3_point 50 = .ok (.aload 5, 2) := by decide +kernel
theorem dX3_point_52 : decode cX3_point 52 = .ok (.invokevirtual 104, 3) := by decide +kernel
theorem dX3_point_55 : decode cX3_point 55 = .ok (.ifCond .ne 14, 3) := by decide +kernel
theorem dX3_point_58 : decode cX3_point 58 = .ok (.aload_n 0, 1) := by decide +kernel
theorem dX3_point_59 : decode cX3_point 59 = .ok (.getfield 10, 3) := by decide +kernel
theorem dX3_point_62 : decode cX3_point 62 = .ok (.iload_n 1, 1) := by decide +kernel
theorem dX3_point_63 : decode cX3_point 63 = .ok (.invokevirtual 109, 3) := by decide +kernel
theorem dX3_point_66 : decode cX3_point 66 = .ok (.ifCond .eq 6, 3) := by decide +kernel
theorem dX3_point_69 : decode cX3_point 69 = .ok (.ldc 113, 2) := by decide +kernel
theorem dX3_point_71 : decode cX3_point 71 = .ok (.ireturn, 1) := by decide +kernel
theorem dX3_point_72 : decode cX3_point 72 = .ok (.aload 5, 2) := by decide +kernel
theorem dX3_point_74 : decode cX3_point 74 = .ok (.invokevirtual 114, 3) := by decide +kernel
theorem dX3_point_77 : decode cX3_point 77 = .ok (.ifCond .eq 6, 3) := by decide +kernel
theorem dX3_point_80 : decode cX3_point 80 = .ok (.ldc 91, 2) := by decide +kernel
theorem dX3_point_82 : decode cX3_point 82 = .ok (.ireturn, 1) := by decide +kernel
theorem dX3_point_83 : decode cX3_point 83 = .ok (.aload_n 0, 1) := by decide +kernel
theorem dX3_point_84 : decode cX3_point 84 = .ok (.invokevirtual 42, 3) := by decide +kernel
theorem dX3_point_87 : decode cX3_point 87 = .ok (.aload 5, 2) := by decide +kernel
theorem dX3_point_89 : decode cX3_point 89 = .ok (.iload_n 2, 1) := by decide +kernel
theorem dX3_point_90 : decode cX3_point 90 = .ok (.i2l, 1) := by decide +kernel
theorem dX3_point_91 : decode cX3_point 91 = .ok (.iload_n 3, 1) := by decide +kernel
theorem dX3_point_92 : decode cX3_point 92 = .ok (.i2l, 1) := by decide +kernel
theorem dX3_point_93 : decode cX3_point 93 = .ok (.iload 4, 2) := by decide +kernel
theorem dX3_point_95 : decode cX3_point 95 = .ok (.iconst 1, 1) := by decide +kernel
theorem dX3_point_96 : decode cX3_point 96 = .ok (.if_icmp .ne 7, 3) := by decide +kernel
theorem dX3_point_99 : decode cX3_point 99 = .ok (.iconst 1, 1) := by decide +kernel
theorem dX3_point_100 : decode cX3_point 100 = .ok (.goto 4, 3) := by decide +kernel
theorem dX3_point_103 : decode cX3_point 103 = .ok (.iconst (-1), 1) := by decide +kernel
theorem dX3_point_104 : decode cX3_point 104 = .ok (.invokevirtual 117, 3) := by decide +kernel
theorem dX3_point_107 : decode cX3_point 107 = .ok (.aload 5, 2) := by decide +kernel
theorem dX3_point_109 : decode cX3_point 109 = .ok (.getfield 121, 3) := by decide +kernel
theorem dX3_point_112 : decode cX3_point 112 = .ok (.iconst 1, 1) := by decide +kernel
theorem dX3_point_113 : decode cX3_point 113 = .ok (.isub, 1) := by decide +kernel
theorem dX3_point_114 : decode cX3_point 114 = .ok (.ireturn, 1) := by decide +kernel
theorem dX3_remove_0 : decode cX3_remove 0 = .ok (.aload_n 0, 1) := by decide +kernel
theorem dX3_remove_1 : decode cX3_remove 1 = .ok (.getfield 10, 3) := by decide +kernel
theorem dX3_remove_4 : decode cX3_remove 4 = .ok (.iload_n 1, 1) := by decide +kernel
theorem dX3_remove_5 : decode cX3_remove 5 = .ok (.invokevirtual 100, 3) := by decide +kernel
theorem dX3_remove_8 : decode cX3_remove 8 = .ok (.ifnonnull 6, 3) := by decide +kernel
theorem dX3_remove_11 : decode cX3_remove 11 = .ok (.ldc 35, 2) := by decide +kernel
theorem dX3_remove_13 : decode cX3_remove 13 = .ok (.ireturn, 1) := by decide +kernel
theorem dX3_remove_14 : decode cX3_remove 14 = .ok (.aload_n 0, 1) := by decide +kernel
theorem dX3_remove_15 : decode cX3_remove 15 = .ok (.getfield 10, 3) := by decide +kernel
theorem dX3_remove_18 : decode cX3_remove 18 = .ok (.iload_n 1, 1) := by decide +kernel
theorem dX3_remove_19 : decode cX3_remove 19 = .ok (.invokevirtual 109, 3) := by decide +kernel
theorem dX3_remove_22 : decode cX3_remove 22 = .ok (.ifCond .eq 6, 3) := by decide +kernel
theorem dX3_remove_25 : decode cX3_remove 25 = .ok (.ldc 113, 2) := by decide +kernel
theorem dX3_remove_27 : decode cX3_remove 27 = .ok (.ireturn, 1) := by decide +kernel
theorem dX3_remove_28 : decode cX3_remove 28 = .ok (.aload_n 0, 1) := by decide +kernel
theorem dX3_remove_29 : decode cX3_remove 29 = .ok (.invokevirtual 42, 3) := by decide +kernel
theorem dX3_remove_32 : decode cX3_remove 32 = .ok (.aload_n 0, 1) := by decide +kernel
theorem dX3_remove_33 : decode cX3_remove 33 = .ok (.getfield 10, 3) := by decide +kernel
theorem dX3_remove_36 : decode cX3_remove 36 = .ok (.iload_n 1, 1) := by decide +kernel
theorem dX3_remove_37 : decode cX3_remove 37 = .ok (.invokevirtual 122, 3) := by decide +kernel
theorem dX3_remove_40 : decode cX3_remove 40 = .ok (.aload_n 0, 1) := by decide +kernel
theorem dX3_remove_41 : decode cX3_remove 41 = .ok (.getfield 10, 3) := by decide +kernel
theorem dX3_remove_44 : decode cX3_remove 44 = .ok (.getfield 66, 3) := by decide +kernel
theorem dX3_remove_47 : decode cX3_remove 47 = .ok (.ireturn, 1) := by decide +kernel
theorem dX3_copy_0 : decode cX3_copy 0 = .ok (.aload_n 0, 1) := by decide +kernel
theorem dX3_copy_1 : decode cX3_copy 1 = .ok (.getfield 10, 3) := by decide +kernel
theorem dX3_copy_4 : decode cX3_copy 4 = .ok (.iload_n 1, 1) := by decide +kernel
theorem dX3_copy_5 : decode cX3_copy 5 = .ok (.invokevirtual 100, 3) := by decide +kernel
theorem dX3_copy_8 : decode cX3_copy 8 = .ok (.astore_n 2, 1) := by decide +kernel
theorem dX3_copy_9 : decode cX3_copy 9 = .ok (.aload_n 2, 1) := by decide +kernel
theorem dX3_copy_10 : decode cX3_copy 10 = .ok (.ifnonnull 6, 3) := by decide +kernel
theorem dX3_copy_13 : decode cX3_copy 13 = .ok (.ldc 35, 2) := by decide +kernel
theorem dX3_copy_15 : decode cX3_copy 15 = .ok (.ireturn, 1) := by decide +kernel
theorem dX3_copy_16 : decode cX3_copy 16 = .ok (.aload_n 0, 1) := by decide +kernel
theorem dX3_copy_17 : decode cX3_copy 17 = .ok (.getfield 10, 3) := by decide +kernel
theorem dX3_copy_20 : decode cX3_copy 20 = .ok (.iload_n 1, 1) := by decide +kernel
theorem dX3_copy_21 : decode cX3_copy 21 = .ok (.aload_n 2, 1) := by decide +kernel
theorem dX3_copy_22 : decode cX3_copy 22 = .ok (.invokevirtual 126, 3) := by decide +kernel
theorem dX3_copy_25 : decode cX3_copy 25 = .ok (.ifCond .eq 6, 3) := by decide +kernel
theorem dX3_copy_28 : decode cX3_copy 28 = .ok (.ldc 113, 2) := by decide +kernel
theorem dX3_copy_30 : decode cX3_copy 30 = .ok (.ireturn, 1) := by decide +kernel
theorem dX3_copy_31 : decode cX3_copy 31 = .ok (.aload_n 0, 1) := by decide +kernel
theorem dX3_copy_32 : decode cX3_copy 32 = .ok (.invokevirtual 42, 3) := by decide +kernel
theorem dX3_copy_35 : decode cX3_copy 35 = .ok (.aload_n 0, 1) := by decide +kernel
theorem dX3_copy_36 : decode cX3_copy 36 = .ok (.getfield 10, 3) := by decide +kernel
theorem dX3_copy_39 : decode cX3_copy 39 = .ok (.invokevirtual 130, 3) := by decide +kernel
theorem dX3_copy_42 : decode cX3_copy 42 = .ok (.ireturn, 1) := by decide +kernel
theorem dX3_why_0 : decode cX3_why 0 = .ok (.aload_n 0, 1) := by decide +kernel
theorem dX3_why_1 : decode cX3_why 1 = .ok (.getfield 10, 3) := by decide +kernel
theorem dX3_why_4 : decode cX3_why 4 = .ok (.iload_n 1, 1) := by decide +kernel
theorem dX3_why_5 : decode cX3_why 5 = .ok (.invokevirtual 100, 3) := by decide +kernel
theorem dX3_why_8 : decode cX3_why 8 = .ok (.astore_n 2, 1) := by decide +kernel
theorem dX3_why_9 : decode cX3_why 9 = .ok (.aload_n 2, 1) := by decide +kernel
theorem dX3_why_10 : decode cX3_why 10 = .ok (.ifnonnull 8, 3) := by decide +kernel
theorem dX3_why_13 : decode cX3_why 13 = .ok (.ldc 35, 2) := by decide +kernel
theorem dX3_why_15 : decode cX3_why 15 = .ok (.goto 12, 3) := by decide +kernel
theorem dX3_why_18 : decode cX3_why 18 = .ok (.aload_n 0, 1) := by decide +kernel
theorem dX3_why_19 : decode cX3_why 19 = .ok (.getfield 10, 3) := by decide +kernel
theorem dX3_why_22 : decode cX3_why 22 = .ok (.iload_n 1, 1) := by decide +kernel
theorem dX3_why_23 : decode cX3_why 23 = .ok (.aload_n 2, 1) := by decide +kernel
theorem dX3_why_24 : decode cX3_why 24 = .ok (.invokevirtual 126, 3) := by decide +kernel
theorem dX3_why_27 : decode cX3_why 27 = .ok (.ireturn, 1) := by decide +kernel
theorem dX3_drawing_0 : decode cX3_drawing 0 = .ok (.aload_n 0, 1) := by decide +kernel
theorem dX3_drawing_1 : decode cX3_drawing 1 = .ok (.getfield 10, 3) := by decide +kernel
theorem dX3_drawing_4 : decode cX3_drawing 4 = .ok (.iload_n 1, 1) := by decide +kernel
theorem dX3_drawing_5 : decode cX3_drawing 5 = .ok (.invokevirtual 100, 3) := by decide +kernel
theorem dX3_drawing_8 : decode cX3_drawing 8 = .ok (.astore_n 3, 1) := by decide +kernel
theorem dX3_drawing_9 : decode cX3_drawing 9 = .ok (.aload_n 3, 1) := by decide +kernel
theorem dX3_drawing_10 : decode cX3_drawing 10 = .ok (.ifnonnull 6, 3) := by decide +kernel
theorem dX3_drawing_13 : decode cX3_drawing 13 = .ok (.ldc 35, 2) := by decide +kernel
theorem dX3_drawing_15 : decode cX3_drawing 15 = .ok (.ireturn, 1) := by decide +kernel
theorem dX3_drawing_16 : decode cX3_drawing 16 = .ok (.iload_n 2, 1) := by decide +kernel
theorem dX3_drawing_17 : decode cX3_drawing 17 = .ok (.tableswitch 154 0 11 #[63, 68, 85, 94, 103, 108, 113, 118, 123, 128, 137, 145], 63) := by decide +kernel
theorem dX3_drawing_80 : decode cX3_drawing 80 = .ok (.aload_n 3, 1) := by decide +kernel
theorem dX3_drawing_81 : decode cX3_drawing 81 = .ok (.getfield 121, 3) := by decide +kernel
theorem dX3_drawing_84 : decode cX3_drawing 84 = .ok (.ireturn, 1) := by decide +kernel
theorem dX3_drawing_85 : decode cX3_drawing 85 = .ok (.aload_n 3, 1) := by decide +kernel
theorem dX3_drawing_86 : decode cX3_drawing 86 = .ok (.invokevirtual 104, 3) := by decide +kernel
theorem dX3_drawing_89 : decode cX3_drawing 89 = .ok (.ifCond .eq 10, 3) := by decide +kernel
theorem dX3_drawing_92 : decode cX3_drawing 92 = .ok (.aload_n 3, 1) := by decide +kernel
theorem dX3_drawing_93 : decode cX3_drawing 93 = .ok (.getfield 133, 3) := by decide +kernel
theorem dX3_drawing_96 : decode cX3_drawing 96 = .ok (.goto 5, 3) := by decide +kernel
theorem dX3_drawing_99 : decode cX3_drawing 99 = .ok (.ldc 136, 2) := by decide +kernel
theorem dX3_drawing_101 : decode cX3_drawing 101 = .ok (.ireturn, 1) := by decide +kernel
theorem dX3_drawing_102 : decode cX3_drawing 102 = .ok (.aload_n 0, 1) := by decide +kernel
theorem dX3_drawing_103 : decode cX3_drawing 103 = .ok (.getfield 10, 3) := by decide +kernel
theorem dX3_drawing_106 : decode cX3_drawing 106 = .ok (.iload_n 1, 1) := by decide +kernel
theorem dX3_drawing_107 : decode cX3_drawing 107 = .ok (.invokevirtual 137, 3) := by decide +kernel
theorem dX3_drawing_110 : decode cX3_drawing 110 = .ok (.ireturn, 1) := by decide +kernel
theorem dX3_drawing_111 : decode cX3_drawing 111 = .ok (.aload_n 0, 1) := by decide +kernel
theorem dX3_drawing_112 : decode cX3_drawing 112 = .ok (.getfield 10, 3) := by decide +kernel
theorem dX3_drawing_115 : decode cX3_drawing 115 = .ok (.iload_n 1, 1) := by decide +kernel
theorem dX3_drawing_116 : decode cX3_drawing 116 = .ok (.invokevirtual 140, 3) := by decide +kernel
theorem dX3_drawing_119 : decode cX3_drawing 119 = .ok (.ireturn, 1) := by decide +kernel
theorem dX3_drawing_120 : decode cX3_drawing 120 = .ok (.aload_n 3, 1) := by decide +kernel
theorem dX3_drawing_121 : decode cX3_drawing 121 = .ok (.getfield 143, 3) := by decide +kernel
theorem dX3_drawing_124 : decode cX3_drawing 124 = .ok (.ireturn, 1) := by decide +kernel
theorem dX3_drawing_125 : decode cX3_drawing 125 = .ok (.aload_n 3, 1) := by decide +kernel
theorem dX3_drawing_126 : decode cX3_drawing 126 = .ok (.getfield 146, 3) := by decide +kernel
theorem dX3_drawing_129 : decode cX3_drawing 129 = .ok (.ireturn, 1) := by decide +kernel
theorem dX3_drawing_130 : decode cX3_drawing 130 = .ok (.aload_n 3, 1) := by decide +kernel
theorem dX3_drawing_131 : decode cX3_drawing 131 = .ok (.invokevirtual 149, 3) := by decide +kernel
theorem dX3_drawing_134 : decode cX3_drawing 134 = .ok (.ireturn, 1) := by decide +kernel
theorem dX3_drawing_135 : decode cX3_drawing 135 = .ok (.aload_n 3, 1) := by decide +kernel
theorem dX3_drawing_136 : decode cX3_drawing 136 = .ok (.invokevirtual 151, 3) := by decide +kernel
theorem dX3_drawing_139 : decode cX3_drawing 139 = .ok (.ireturn, 1) := by decide +kernel
theorem dX3_drawing_140 : decode cX3_drawing 140 = .ok (.aload_n 3, 1) := by decide +kernel
theorem dX3_drawing_141 : decode cX3_drawing 141 = .ok (.invokevirtual 153, 3) := by decide +kernel
theorem dX3_drawing_144 : decode cX3_drawing 144 = .ok (.ireturn, 1) := by decide +kernel
theorem dX3_drawing_145 : decode cX3_drawing 145 = .ok (.aload_n 0, 1) := by decide +kernel
theorem dX3_drawing_146 : decode cX3_drawing 146 = .ok (.getfield 10, 3) := by decide +kernel
theorem dX3_drawing_149 : decode cX3_drawing 149 = .ok (.aload_n 3, 1) := by decide +kernel
theorem dX3_drawing_150 : decode cX3_drawing 150 = .ok (.invokevirtual 156, 3) := by decide +kernel
theorem dX3_drawing_153 : decode cX3_drawing 153 = .ok (.ireturn, 1) := by decide +kernel
theorem dX3_drawing_154 : decode cX3_drawing 154 = .ok (.aload_n 3, 1) := by decide +kernel
theorem dX3_drawing_155 : decode cX3_drawing 155 = .ok (.invokevirtual 160, 3) := by decide +kernel
theorem dX3_drawing_158 : decode cX3_drawing 158 = .ok (.invokestatic 164, 3) := by decide +kernel
theorem dX3_drawing_161 : decode cX3_drawing 161 = .ok (.ireturn, 1) := by decide +kernel
theorem dX3_drawing_162 : decode cX3_drawing 162 = .ok (.aload_n 3, 1) := by decide +kernel
theorem dX3_drawing_163 : decode cX3_drawing 163 = .ok (.invokevirtual 160, 3) := by decide +kernel
theorem dX3_drawing_166 : decode cX3_drawing 166 = .ok (.ldc 168, 2) := by decide +kernel
theorem dX3_drawing_168 : decode cX3_drawing 168 = .ok (.fmul, 1) := by decide +kernel
theorem dX3_drawing_169 : decode cX3_drawing 169 = .ok (.f2i, 1) := by decide +kernel
theorem dX3_drawing_170 : decode cX3_drawing 170 = .ok (.ireturn, 1) := by decide +kernel
theorem dX3_drawing_171 : decode cX3_drawing 171 = .ok (.ldc 35, 2) := by decide +kernel
theorem dX3_drawing_173 : decode cX3_drawing 173 = .ok (.ireturn, 1) := by decide +kernel
theorem dX3_ratio_0 : decode cX3_ratio 0 = .ok (.aload_n 0, 1) := by decide +kernel
theorem dX3_ratio_1 : decode cX3_ratio 1 = .ok (.getfield 10, 3) := by decide +kernel
theorem dX3_ratio_4 : decode cX3_ratio 4 = .ok (.iload_n 1, 1) := by decide +kernel
theorem dX3_ratio_5 : decode cX3_ratio 5 = .ok (.invokevirtual 100, 3) := by decide +kernel
theorem dX3_ratio_8 : decode cX3_ratio 8 = .ok (.astore_n 3, 1) := by decide +kernel
theorem dX3_ratio_9 : decode cX3_ratio 9 = .ok (.aload_n 3, 1) := by decide +kernel
theorem dX3_ratio_10 : decode cX3_ratio 10 = .ok (.ifnull 12, 3) := by decide +kernel
theorem dX3_ratio_13 : decode cX3_ratio 13 = .ok (.iload_n 2, 1) := by decide +kernel
theorem dX3_ratio_14 : decode cX3_ratio 14 = .ok (.iconst 0, 1) := by decide +kernel
theorem dX3_ratio_15 : decode cX3_ratio 15 = .ok (.iconst 1, 1) := by decide +kernel
theorem dX3_ratio_16 : decode cX3_ratio 16 = .ok (.invokestatic 31, 3) := by decide +kernel
theorem dX3_ratio_19 : decode cX3_ratio 19 = .ok (.ifCond .ne 6, 3) := by decide +kernel
theorem dX3_ratio_22 : decode cX3_ratio 22 = .ok (.ldc 35, 2) := by decide +kernel
theorem dX3_ratio_24 : decode cX3_ratio 24 = .ok (.ireturn, 1) := by decide +kernel
theorem dX3_ratio_25 : decode cX3_ratio 25 = .ok (.aload_n 3, 1) := by decide +kernel
theorem dX3_ratio_26 : decode cX3_ratio 26 = .ok (.getfield 169, 3) := by decide +kernel
theorem dX3_ratio_29 : decode cX3_ratio 29 = .ok (.aload_n 3, 1) := by decide +kernel
theorem dX3_ratio_30 : decode cX3_ratio 30 = .ok (.getfield 173, 3) := by decide +kernel
theorem dX3_ratio_33 : decode cX3_ratio 33 = .ok (.iload_n 2, 1) := by decide +kernel
theorem dX3_ratio_34 : decode cX3_ratio 34 = .ok (.invokestatic 176, 3) := by decide +kernel
theorem dX3_ratio_37 : decode cX3_ratio 37 = .ok (.l2i, 1) := by decide +kernel
theorem dX3_ratio_38 : decode cX3_ratio 38 = .ok (.ireturn, 1) := by decide +kernel
theorem dX3_pointInfo_0 : decode cX3_pointInfo 0 = .ok (.aload_n 0, 1) := by decide +kernel
theorem dX3_pointInfo_1 : decode cX3_pointInfo 1 = .ok (.getfield 10, 3) := by decide +kernel
theorem dX3_pointInfo_4 : decode cX3_pointInfo 4 = .ok (.iload_n 1, 1) := by decide +kernel
theorem dX3_pointInfo_5 : decode cX3_pointInfo 5 = .ok (.invokevirtual 100, 3) := by decide +kernel
theorem dX3_pointInfo_8 : decode cX3_pointInfo 8 = .ok (.astore 4, 2) := by decide +kernel
theorem dX3_pointInfo_10 : decode cX3_pointInfo 10 = .ok (.aload 4, 2) := by decide +kernel
theorem dX3_pointInfo_12 : decode cX3_pointInfo 12 = .ok (.ifnull 12, 3) := by decide +kernel
theorem dX3_pointInfo_15 : decode cX3_pointInfo 15 = .ok (.aload 4, 2) := by decide +kernel
theorem dX3_pointInfo_17 : decode cX3_pointInfo 17 = .ok (.iload_n 2, 1) := by decide +kernel
theorem dX3_pointInfo_18 : decode cX3_pointInfo 18 = .ok (.invokevirtual 180, 3) := by decide +kernel
theorem dX3_pointInfo_21 : decode cX3_pointInfo 21 = .ok (.ifCond .ne 7, 3) := by decide +kernel
theorem dX3_pointInfo_24 : decode cX3_pointInfo 24 = .ok (.ldc2_w 183, 3) := by decide +kernel
theorem dX3_pointInfo_27 : decode cX3_pointInfo 27 = .ok (.lreturn, 1) := by decide +kernel
theorem dX3_pointInfo_28 : decode cX3_pointInfo 28 = .ok (.iload_n 3, 1) := by decide +kernel
theorem dX3_pointInfo_29 : decode cX3_pointInfo 29 = .ok (.tableswitch 151 0 6 #[43, 59, 75, 91, 107, 122, 130], 43) := by decide +kernel
theorem dX3_pointInfo_72 : decode cX3_pointInfo 72 = .ok (.aload 4, 2) := by decide +kernel
theorem dX3_pointInfo_74 : decode cX3_pointInfo 74 = .ok (.iload_n 2, 1) := by decide +kernel
theorem dX3_pointInfo_75 : decode cX3_pointInfo 75 = .ok (.invokevirtual 185, 3) := by decide +kernel
theorem dX3_pointInfo_78 : decode cX3_pointInfo 78 = .ok (.aload 4, 2) := by decide +kernel
theorem dX3_pointInfo_80 : decode cX3_pointInfo 80 = .ok (.getfield 173, 3) := by decide +kernel
theorem dX3_pointInfo_83 : decode cX3_pointInfo 83 = .ok (.iconst 0, 1) := by decide +kernel
theorem dX3_pointInfo_84 : decode cX3_pointInfo 84 = .ok (.invokestatic 176, 3) := by decide +kernel
theorem dX3_pointInfo_87 : decode cX3_pointInfo 87 = .ok (.lreturn, 1) := by decide +kernel
theorem dX3_pointInfo_88 : decode cX3_pointInfo 88 = .ok (.aload 4, 2) := by decide +kernel
theorem dX3_pointInfo_90 : decode cX3_pointInfo 90 = .ok (.iload_n 2, 1) := by decide +kernel
theorem dX3_pointInfo_91 : decode cX3_pointInfo 91 = .ok (.invokevirtual 185, 3) := by decide +kernel
theorem dX3_pointInfo_94 : decode cX3_pointInfo 94 = .ok (.aload 4, 2) := by decide +kernel
theorem dX3_pointInfo_96 : decode cX3_pointInfo 96 = .ok (.getfield 173, 3) := by decide +kernel
theorem dX3_pointInfo_99 : decode cX3_pointInfo 99 = .ok (.iconst 1, 1) := by decide +kernel
theorem dX3_pointInfo_100 : decode cX3_pointInfo 100 = .ok (.invokestatic 176, 3) := by decide +kernel
theorem dX3_pointInfo_103 : decode cX3_pointInfo 103 = .ok (.lreturn, 1) := by decide +kernel
theorem dX3_pointInfo_104 : decode cX3_pointInfo 104 = .ok (.aload 4, 2) := by decide +kernel
theorem dX3_pointInfo_106 : decode cX3_pointInfo 106 = .ok (.iload_n 2, 1) := by decide +kernel
theorem dX3_pointInfo_107 : decode cX3_pointInfo 107 = .ok (.invokevirtual 189, 3) := by decide +kernel
theorem dX3_pointInfo_110 : decode cX3_pointInfo 110 = .ok (.aload 4, 2) := by decide +kernel
theorem dX3_pointInfo_112 : decode cX3_pointInfo 112 = .ok (.getfield 173, 3) := by decide +kernel
theorem dX3_pointInfo_115 : decode cX3_pointInfo 115 = .ok (.iconst 0, 1) := by decide +kernel
theorem dX3_pointInfo_116 : decode cX3_pointInfo 116 = .ok (.invokestatic 176, 3) := by decide +kernel
theorem dX3_pointInfo_119 : decode cX3_pointInfo 119 = .ok (.lreturn, 1) := by decide +kernel
theorem dX3_pointInfo_120 : decode cX3_pointInfo 120 = .ok (.aload 4, 2) := by decide +kernel
theorem dX3_pointInfo_122 : decode cX3_pointInfo 122 = .ok (.iload_n 2, 1) := by decide +kernel
theorem dX3_pointInfo_123 : decode cX3_pointInfo 123 = .ok (.invokevirtual 189, 3) := by decide +kernel
theorem dX3_pointInfo_126 : decode cX3_pointInfo 126 = .ok (.aload 4, 2) := by decide +kernel
theorem dX3_pointInfo_128 : decode cX3_pointInfo 128 = .ok (.getfield 173, 3) := by decide +kernel
theorem dX3_pointInfo_131 : decode cX3_pointInfo 131 = .ok (.iconst 1, 1) := by decide +kernel
theorem dX3_pointInfo_132 : decode cX3_pointInfo 132 = .ok (.invokestatic 176, 3) := by decide +kernel
theorem dX3_pointInfo_135 : decode cX3_pointInfo 135 = .ok (.lreturn, 1) := by decide +kernel
theorem dX3_pointInfo_136 : decode cX3_pointInfo 136 = .ok (.aload 4, 2) := by decide +kernel
theorem dX3_pointInfo_138 : decode cX3_pointInfo 138 = .ok (.iload_n 2, 1) := by decide +kernel
theorem dX3_pointInfo_139 : decode cX3_pointInfo 139 = .ok (.invokevirtual 192, 3) := by decide +kernel
theorem dX3_pointInfo_142 : decode cX3_pointInfo 142 = .ok (.ifCond .eq 7, 3) := by decide +kernel
theorem dX3_pointInfo_145 : decode cX3_pointInfo 145 = .ok (.lconst 1, 1) := by decide +kernel
theorem dX3_pointInfo_146 : decode cX3_pointInfo 146 = .ok (.goto 4, 3) := by decide +kernel
theorem dX3_pointInfo_149 : decode cX3_pointInfo 149 = .ok (.lconst 0, 1) := by decide +kernel
theorem dX3_pointInfo_150 : decode cX3_pointInfo 150 = .ok (.lreturn, 1) := by decide +kernel
theorem dX3_pointInfo_151 : decode cX3_pointInfo 151 = .ok (.aload 4, 2) := by decide +kernel
theorem dX3_pointInfo_153 : decode cX3_pointInfo 153 = .ok (.iload_n 2, 1) := by decide +kernel
theorem dX3_pointInfo_154 : decode cX3_pointInfo 154 = .ok (.invokevirtual 195, 3) := by decide +kernel
theorem dX3_pointInfo_157 : decode cX3_pointInfo 157 = .ok (.i2l, 1) := by decide +kernel
theorem dX3_pointInfo_158 : decode cX3_pointInfo 158 = .ok (.lreturn, 1) := by decide +kernel
theorem dX3_pointInfo_159 : decode cX3_pointInfo 159 = .ok (.aload 4, 2) := by decide +kernel
theorem dX3_pointInfo_161 : decode cX3_pointInfo 161 = .ok (.iload_n 2, 1) := by decide +kernel
theorem dX3_pointInfo_162 : decode cX3_pointInfo 162 = .ok (.invokevirtual 195, 3) := by decide +kernel
theorem dX3_pointInfo_165 : decode cX3_pointInfo 165 = .ok (.ifCond .le 13, 3) := by decide +kernel
theorem dX3_pointInfo_168 : decode cX3_pointInfo 168 = .ok (.aload 4, 2) := by decide +kernel
theorem dX3_pointInfo_170 : decode cX3_pointInfo 170 = .ok (.iload_n 2, 1) := by decide +kernel
theorem dX3_pointInfo_171 : decode cX3_pointInfo 171 = .ok (.invokevirtual 198, 3) := by decide +kernel
theorem dX3_pointInfo_174 : decode cX3_pointInfo 174 = .ok (.i2l, 1) := by decide +kernel
theorem dX3_pointInfo_175 : decode cX3_pointInfo 175 = .ok (.goto 4, 3) := by decide +kernel
theorem dX3_pointInfo_178 : decode cX3_pointInfo 178 = .ok (.lconst 0, 1) := by decide +kernel
theorem dX3_pointInfo_179 : decode cX3_pointInfo 179 = .ok (.lreturn, 1) := by decide +kernel
theorem dX3_pointInfo_180 : decode cX3_pointInfo 180 = .ok (.ldc2_w 183, 3) := by decide +kernel
theorem dX3_pointInfo_183 : decode cX3_pointInfo 183 = .ok (.lreturn, 1) := by decide +kernel
theorem dX3_atOnce_0 : decode cX3_atOnce 0 = .ok (.aload_n 0, 1) := by decide +kernel
theorem dX3_atOnce_1 : decode cX3_atOnce 1 = .ok (.getfield 10, 3) := by decide +kernel
theorem dX3_atOnce_4 : decode cX3_atOnce 4 = .ok (.iload_n 1, 1) := by decide +kernel
theorem dX3_atOnce_5 : decode cX3_atOnce 5 = .ok (.invokevirtual 100, 3) := by decide +kernel
theorem dX3_atOnce_8 : decode cX3_atOnce 8 = .ok (.astore 4, 2) := by decide +kernel
theorem dX3_atOnce_10 : decode cX3_atOnce 10 = .ok (.aload_n 0, 1) := by decide +kernel
theorem dX3_atOnce_11 : decode cX3_atOnce 11 = .ok (.getfield 10, 3) := by decide +kernel
theorem dX3_atOnce_14 : decode cX3_atOnce 14 = .ok (.aload_n 0, 1) := by decide +kernel
theorem dX3_atOnce_15 : decode cX3_atOnce 15 = .ok (.getfield 10, 3) := by decide +kernel
theorem dX3_atOnce_18 : decode cX3_atOnce 18 = .ok (.iload_n 1, 1) := by decide +kernel
theorem dX3_atOnce_19 : decode cX3_atOnce 19 = .ok (.invokevirtual 137, 3) := by decide +kernel
theorem dX3_atOnce_22 : decode cX3_atOnce 22 = .ok (.invokevirtual 100, 3) := by decide +kernel
theorem dX3_atOnce_25 : decode cX3_atOnce 25 = .ok (.astore 5, 2) := by decide +kernel
theorem dX3_atOnce_27 : decode cX3_atOnce 27 = .ok (.aload 4, 2) := by decide +kernel
theorem dX3_atOnce_29 : decode cX3_atOnce 29 = .ok (.ifnull 17, 3) := by decide +kernel
theorem dX3_atOnce_32 : decode cX3_atOnce 32 = .ok (.aload 5, 2) := by decide +kernel
theorem dX3_atOnce_34 : decode cX3_atOnce 34 = .ok (.ifnull 12, 3) := by decide +kernel
theorem dX3_atOnce_37 : decode cX3_atOnce 37 = .ok (.aload 4, 2) := by decide +kernel
theorem dX3_atOnce_39 : decode cX3_atOnce 39 = .ok (.iload_n 2, 1) := by decide +kernel
theorem dX3_atOnce_40 : decode cX3_atOnce 40 = .ok (.invokevirtual 180, 3) := by decide +kernel
theorem dX3_atOnce_43 : decode cX3_atOnce 43 = .ok (.ifCond .ne 7, 3) := by decide +kernel
theorem dX3_atOnce_46 : decode cX3_atOnce 46 = .ok (.ldc2_w 183, 3) := by decide +kernel
theorem dX3_atOnce_49 : decode cX3_atOnce 49 = .ok (.lreturn, 1) := by decide +kernel
theorem dX3_atOnce_50 : decode cX3_atOnce 50 = .ok (.iload_n 3, 1) := by decide +kernel
theorem dX3_atOnce_51 : decode cX3_atOnce 51 = .ok (.tableswitch 113 0 3 #[29, 50, 71, 92], 29) := by decide +kernel
theorem dX3_atOnce_80 : decode cX3_atOnce 80 = .ok (.aload 4, 2) := by decide +kernel
theorem dX3_atOnce_82 : decode cX3_atOnce 82 = .ok (.aload 5, 2) := by decide +kernel
theorem dX3_atOnce_84 : decode cX3_atOnce 84 = .ok (.iload_n 2, 1) := by decide +kernel
theorem dX3_atOnce_85 : decode cX3_atOnce 85 = .ok (.invokevirtual 185, 3) := by decide +kernel
theorem dX3_atOnce_88 : decode cX3_atOnce 88 = .ok (.invokevirtual 201, 3) := by decide +kernel
theorem dX3_atOnce_91 : decode cX3_atOnce 91 = .ok (.aload 4, 2) := by decide +kernel
theorem dX3_atOnce_93 : decode cX3_atOnce 93 = .ok (.getfield 173, 3) := by decide +kernel
theorem dX3_atOnce_96 : decode cX3_atOnce 96 = .ok (.iconst 0, 1) := by decide +kernel
theorem dX3_atOnce_97 : decode cX3_atOnce 97 = .ok (.invokestatic 176, 3) := by decide +kernel
theorem dX3_atOnce_100 : decode cX3_atOnce 100 = .ok (.lreturn, 1) := by decide +kernel
theorem dX3_atOnce_101 : decode cX3_atOnce 101 = .ok (.aload 4, 2) := by decide +kernel
theorem dX3_atOnce_103 : decode cX3_atOnce 103 = .ok (.aload 5, 2) := by decide +kernel
theorem dX3_atOnce_105 : decode cX3_atOnce 105 = .ok (.iload_n 2, 1) := by decide +kernel
theorem dX3_atOnce_106 : decode cX3_atOnce 106 = .ok (.invokevirtual 185, 3) := by decide +kernel
theorem dX3_atOnce_109 : decode cX3_atOnce 109 = .ok (.invokevirtual 201, 3) := by decide +kernel
theorem dX3_atOnce_112 : decode cX3_atOnce 112 = .ok (.aload 4, 2) := by decide +kernel
theorem dX3_atOnce_114 : decode cX3_atOnce 114 = .ok (.getfield 173, 3) := by decide +kernel
theorem dX3_atOnce_117 : decode cX3_atOnce 117 = .ok (.iconst 1, 1) := by decide +kernel
theorem dX3_atOnce_118 : decode cX3_atOnce 118 = .ok (.invokestatic 176, 3) := by decide +kernel
theorem dX3_atOnce_121 : decode cX3_atOnce 121 = .ok (.lreturn, 1) := by decide +kernel
theorem dX3_atOnce_122 : decode cX3_atOnce 122 = .ok (.aload 4, 2) := by decide +kernel
theorem dX3_atOnce_124 : decode cX3_atOnce 124 = .ok (.aload 5, 2) := by decide +kernel
theorem dX3_atOnce_126 : decode cX3_atOnce 126 = .ok (.iload_n 2, 1) := by decide +kernel
theorem dX3_atOnce_127 : decode cX3_atOnce 127 = .ok (.invokevirtual 189, 3) := by decide +kernel
theorem dX3_atOnce_130 : decode cX3_atOnce 130 = .ok (.invokevirtual 205, 3) := by decide +kernel
theorem dX3_atOnce_133 : decode cX3_atOnce 133 = .ok (.aload 4, 2) := by decide +kernel
theorem dX3_atOnce_135 : decode cX3_atOnce 135 = .ok (.getfield 173, 3) := by decide +kernel
theorem dX3_atOnce_138 : decode cX3_atOnce 138 = .ok (.iconst 0, 1) := by decide +kernel
theorem dX3_atOnce_139 : decode cX3_atOnce 139 = .ok (.invokestatic 176, 3) := by decide +kernel
theorem dX3_atOnce_142 : decode cX3_atOnce 142 = .ok (.lreturn, 1) := by decide +kernel
theorem dX3_atOnce_143 : decode cX3_atOnce 143 = .ok (.aload 4, 2) := by decide +kernel
theorem dX3_atOnce_145 : decode cX3_atOnce 145 = .ok (.aload 5, 2) := by decide +kernel
theorem dX3_atOnce_147 : decode cX3_atOnce 147 = .ok (.iload_n 2, 1) := by decide +kernel
theorem dX3_atOnce_148 : decode cX3_atOnce 148 = .ok (.invokevirtual 189, 3) := by decide +kernel
theorem dX3_atOnce_151 : decode cX3_atOnce 151 = .ok (.invokevirtual 205, 3) := by decide +kernel
theorem dX3_atOnce_154 : decode cX3_atOnce 154 = .ok (.aload 4, 2) := by decide +kernel
theorem dX3_atOnce_156 : decode cX3_atOnce 156 = .ok (.getfield 173, 3) := by decide +kernel
theorem dX3_atOnce_159 : decode cX3_atOnce 159 = .ok (.iconst 1, 1) := by decide +kernel
theorem dX3_atOnce_160 : decode cX3_atOnce 160 = .ok (.invokestatic 176, 3) := by decide +kernel
theorem dX3_atOnce_163 : decode cX3_atOnce 163 = .ok (.lreturn, 1) := by decide +kernel
theorem dX3_atOnce_164 : decode cX3_atOnce 164 = .ok (.ldc2_w 183, 3) := by decide +kernel
theorem dX3_atOnce_167 : decode cX3_atOnce 167 = .ok (.lreturn, 1) := by decide +kernel
theorem dX3_alike_0 : decode cX3_alike 0 = .ok (.aload_n 0, 1) := by decide +kernel
theorem dX3_alike_1 : decode cX3_alike 1 = .ok (.getfield 10, 3) := by decide +kernel
theorem dX3_alike_4 : decode cX3_alike 4 = .ok (.iload_n 1, 1) := by decide +kernel
theorem dX3_alike_5 : decode cX3_alike 5 = .ok (.invokevirtual 100, 3) := by decide +kernel
theorem dX3_alike_8 : decode cX3_alike 8 = .ok (.astore_n 3, 1) := by decide +kernel
theorem dX3_alike_9 : decode cX3_alike 9 = .ok (.aload_n 0, 1) := by decide +kernel
theorem dX3_alike_10 : decode cX3_alike 10 = .ok (.getfield 10, 3) := by decide +kernel
theorem dX3_alike_13 : decode cX3_alike 13 = .ok (.iload_n 2, 1) := by decide +kernel
theorem dX3_alike_14 : decode cX3_alike 14 = .ok (.invokevirtual 100, 3) := by decide +kernel
theorem dX3_alike_17 : decode cX3_alike 17 = .ok (.astore 4, 2) := by decide +kernel
theorem dX3_alike_19 : decode cX3_alike 19 = .ok (.aload_n 3, 1) := by decide +kernel
theorem dX3_alike_20 : decode cX3_alike 20 = .ok (.ifnull 8, 3) := by decide +kernel
theorem dX3_alike_23 : decode cX3_alike 23 = .ok (.aload 4, 2) := by decide +kernel
theorem dX3_alike_25 : decode cX3_alike 25 = .ok (.ifnonnull 6, 3) := by decide +kernel
theorem dX3_alike_28 : decode cX3_alike 28 = .ok (.ldc 35, 2) := by decide +kernel
theorem dX3_alike_30 : decode cX3_alike 30 = .ok (.ireturn, 1) := by decide +kernel
theorem dX3_alike_31 : decode cX3_alike 31 = .ok (.iconst 0, 1) := by decide +kernel
theorem dX3_alike_32 : decode cX3_alike 32 = .ok (.istore 5, 2) := by decide +kernel
theorem dX3_alike_34 : decode cX3_alike 34 = .ok (.iconst 0, 1) := by decide +kernel
theorem dX3_alike_35 : decode cX3_alike 35 = .ok (.istore 6, 2) := by decide +kernel
theorem dX3_alike_37 : decode cX3_alike 37 = .ok (.iload 6, 2) := by decide +kernel
theorem dX3_alike_39 : decode cX3_alike 39 = .ok (.aload_n 3, 1) := by decide +kernel
theorem dX3_alike_40 : decode cX3_alike 40 = .ok (.getfield 121, 3) := by decide +kernel
theorem dX3_alike_43 : decode cX3_alike 43 = .ok (.if_icmp .ge 78, 3) := by decide +kernel
theorem dX3_alike_46 : decode cX3_alike 46 = .ok (.iload 6, 2) := by decide +kernel
theorem dX3_alike_48 : decode cX3_alike 48 = .ok (.aload 4, 2) := by decide +kernel
theorem dX3_alike_50 : decode cX3_alike 50 = .ok (.getfield 121, 3) := by decide +kernel
theorem dX3_alike_53 : decode cX3_alike 53 = .ok (.if_icmp .ge 68, 3) := by decide +kernel
theorem dX3_alike_56 : decode cX3_alike 56 = .ok (.aload_n 3, 1) := by decide +kernel
theorem dX3_alike_57 : decode cX3_alike 57 = .ok (.iload 6, 2) := by decide +kernel
theorem dX3_alike_59 : decode cX3_alike 59 = .ok (.invokevirtual 185, 3) := by decide +kernel
theorem dX3_alike_62 : decode cX3_alike 62 = .ok (.aload 4, 2) := by decide +kernel
theorem dX3_alike_64 : decode cX3_alike 64 = .ok (.getfield 173, 3) := by decide +kernel
theorem dX3_alike_67 : decode cX3_alike 67 = .ok (.lmul, 1) := by decide +kernel
theorem dX3_alike_68 : decode cX3_alike 68 = .ok (.aload 4, 2) := by decide +kernel
theorem dX3_alike_70 : decode cX3_alike 70 = .ok (.iload 6, 2) := by decide +kernel
theorem dX3_alike_72 : decode cX3_alike 72 = .ok (.invokevirtual 185, 3) := by decide +kernel
theorem dX3_alike_75 : decode cX3_alike 75 = .ok (.aload_n 3, 1) := by decide +kernel
theorem dX3_alike_76 : decode cX3_alike 76 = .ok (.getfield 173, 3) := by decide +kernel
theorem dX3_alike_79 : decode cX3_alike 79 = .ok (.lmul, 1) := by decide +kernel
theorem dX3_alike_80 : decode cX3_alike 80 = .ok (.lcmp, 1) := by decide +kernel
theorem dX3_alike_81 : decode cX3_alike 81 = .ok (.ifCond .ne 34, 3) := by decide +kernel
theorem dX3_alike_84 : decode cX3_alike 84 = .ok (.aload_n 3, 1) := by decide +kernel
theorem dX3_alike_85 : decode cX3_alike 85 = .ok (.iload 6, 2) := by decide +kernel
theorem dX3_alike_87 : decode cX3_alike 87 = .ok (.invokevirtual 189, 3) := by decide +kernel
theorem dX3_alike_90 : decode cX3_alike 90 = .ok (.aload 4, 2) := by decide +kernel
theorem dX3_alike_92 : decode cX3_alike 92 = .ok (.getfield 173, 3) := by decide +kernel
theorem dX3_alike_95 : decode cX3_alike 95 = .ok (.lmul, 1) := by decide +kernel
theorem dX3_alike_96 : decode cX3_alike 96 = .ok (.aload 4, 2) := by decide +kernel
theorem dX3_alike_98 : decode cX3_alike 98 = .ok (.iload 6, 2) := by decide +kernel
theorem dX3_alike_100 : decode cX3_alike 100 = .ok (.invokevirtual 189, 3) := by decide +kernel
theorem dX3_alike_103 : decode cX3_alike 103 = .ok (.aload_n 3, 1) := by decide +kernel
theorem dX3_alike_104 : decode cX3_alike 104 = .ok (.getfield 173, 3) := by decide +kernel
theorem dX3_alike_107 : decode cX3_alike 107 = .ok (.lmul, 1) := by decide +kernel
theorem dX3_alike_108 : decode cX3_alike 108 = .ok (.lcmp, 1) := by decide +kernel
theorem dX3_alike_109 : decode cX3_alike 109 = .ok (.ifCond .ne 6, 3) := by decide +kernel
theorem dX3_alike_112 : decode cX3_alike 112 = .ok (.iinc 5 1, 3) := by decide +kernel
theorem dX3_alike_115 : decode cX3_alike 115 = .ok (.iinc 6 1, 3) := by decide +kernel
theorem dX3_alike_118 : decode cX3_alike 118 = .ok (.goto (-81), 3) := by decide +kernel
theorem dX3_alike_121 : decode cX3_alike 121 = .ok (.iload 5, 2) := by decide +kernel
theorem dX3_alike_123 : decode cX3_alike 123 = .ok (.ireturn, 1) := by decide +kernel
theorem dX3_armFor_0 : decode cX3_armFor 0 = .ok (.aload_n 0, 1) := by decide +kernel
theorem dX3_armFor_1 : decode cX3_armFor 1 = .ok (.getfield 10, 3) := by decide +kernel
theorem dX3_armFor_4 : decode cX3_armFor 4 = .ok (.iload_n 1, 1) := by decide +kernel
theorem dX3_armFor_5 : decode cX3_armFor 5 = .ok (.invokevirtual 100, 3) := by decide +kernel
theorem dX3_armFor_8 : decode cX3_armFor 8 = .ok (.astore_n 3, 1) := by decide +kernel
theorem dX3_armFor_9 : decode cX3_armFor 9 = .ok (.aload_n 0, 1) := by decide +kernel
theorem dX3_armFor_10 : decode cX3_armFor 10 = .ok (.getfield 10, 3) := by decide +kernel
theorem dX3_armFor_13 : decode cX3_armFor 13 = .ok (.iload_n 2, 1) := by decide +kernel
theorem dX3_armFor_14 : decode cX3_armFor 14 = .ok (.invokevirtual 100, 3) := by decide +kernel
theorem dX3_armFor_17 : decode cX3_armFor 17 = .ok (.astore 4, 2) := by decide +kernel
theorem dX3_armFor_19 : decode cX3_armFor 19 = .ok (.aload_n 3, 1) := by decide +kernel
theorem dX3_armFor_20 : decode cX3_armFor 20 = .ok (.ifnull 8, 3) := by decide +kernel
theorem dX3_armFor_23 : decode cX3_armFor 23 = .ok (.aload 4, 2) := by decide +kernel
theorem dX3_armFor_25 : decode cX3_armFor 25 = .ok (.ifnonnull 6, 3) := by decide +kernel
theorem dX3_armFor_28 : decode cX3_armFor 28 = .ok (.ldc 35, 2) := by decide +kernel
theorem dX3_armFor_30 : decode cX3_armFor 30 = .ok (.ireturn, 1) := by decide +kernel
theorem dX3_armFor_31 : decode cX3_armFor 31 = .ok (.aload_n 3, 1) := by decide +kernel
theorem dX3_armFor_32 : decode cX3_armFor 32 = .ok (.getfield 169, 3) := by decide +kernel
theorem dX3_armFor_35 : decode cX3_armFor 35 = .ok (.aload 4, 2) := by decide +kernel
theorem dX3_armFor_37 : decode cX3_armFor 37 = .ok (.getfield 173, 3) := by decide +kernel
theorem dX3_armFor_40 : decode cX3_armFor 40 = .ok (.lmul, 1) := by decide +kernel
theorem dX3_armFor_41 : decode cX3_armFor 41 = .ok (.lstore 5, 2) := by decide +kernel
theorem dX3_armFor_43 : decode cX3_armFor 43 = .ok (.aload_n 3, 1) := by decide +kernel
theorem dX3_armFor_44 : decode cX3_armFor 44 = .ok (.getfield 173, 3) := by decide +kernel
theorem dX3_armFor_47 : decode cX3_armFor 47 = .ok (.aload 4, 2) := by decide +kernel
theorem dX3_armFor_49 : decode cX3_armFor 49 = .ok (.getfield 169, 3) := by decide +kernel
theorem dX3_armFor_52 : decode cX3_armFor 52 = .ok (.lmul, 1) := by decide +kernel
theorem dX3_armFor_53 : decode cX3_armFor 53 = .ok (.lstore 7, 2) := by decide +kernel
theorem dX3_armFor_55 : decode cX3_armFor 55 = .ok (.lload 5, 2) := by decide +kernel
theorem dX3_armFor_57 : decode cX3_armFor 57 = .ok (.lload 7, 2) := by decide +kernel
theorem dX3_armFor_59 : decode cX3_armFor 59 = .ok (.iconst 0, 1) := by decide +kernel
theorem dX3_armFor_60 : decode cX3_armFor 60 = .ok (.invokestatic 176, 3) := by decide +kernel
theorem dX3_armFor_63 : decode cX3_armFor 63 = .ok (.lstore 9, 2) := by decide +kernel
theorem dX3_armFor_65 : decode cX3_armFor 65 = .ok (.lload 5, 2) := by decide +kernel
theorem dX3_armFor_67 : decode cX3_armFor 67 = .ok (.lload 7, 2) := by decide +kernel
theorem dX3_armFor_69 : decode cX3_armFor 69 = .ok (.iconst 1, 1) := by decide +kernel
theorem dX3_armFor_70 : decode cX3_armFor 70 = .ok (.invokestatic 176, 3) := by decide +kernel
theorem dX3_armFor_73 : decode cX3_armFor 73 = .ok (.lstore 11, 2) := by decide +kernel
theorem dX3_armFor_75 : decode cX3_armFor 75 = .ok (.lload 9, 2) := by decide +kernel
theorem dX3_armFor_77 : decode cX3_armFor 77 = .ok (.ldc2_w 208, 3) := by decide +kernel
theorem dX3_armFor_80 : decode cX3_armFor 80 = .ok (.lcmp, 1) := by decide +kernel
theorem dX3_armFor_81 : decode cX3_armFor 81 = .ok (.ifCond .gt 12, 3) := by decide +kernel
theorem dX3_armFor_84 : decode cX3_armFor 84 = .ok (.lload 11, 2) := by decide +kernel
theorem dX3_armFor_86 : decode cX3_armFor 86 = .ok (.ldc2_w 208, 3) := by decide +kernel
theorem dX3_armFor_89 : decode cX3_armFor 89 = .ok (.lcmp, 1) := by decide +kernel
theorem dX3_armFor_90 : decode cX3_armFor 90 = .ok (.ifCond .le 8, 3) := by decide +kernel
theorem dX3_armFor_93 : decode cX3_armFor 93 = .ok (.ldc 136, 2) := by decide +kernel
theorem dX3_armFor_95 : decode cX3_armFor 95 = .ok (.goto 13, 3) := by decide +kernel
theorem dX3_armFor_98 : decode cX3_armFor 98 = .ok (.ldc2_w 210, 3) := by decide +kernel
theorem dX3_armFor_101 : decode cX3_armFor 101 = .ok (.lload 9, 2) := by decide +kernel
theorem dX3_armFor_103 : decode cX3_armFor 103 = .ok (.lmul, 1) := by decide +kernel
theorem dX3_armFor_104 : decode cX3_armFor 104 = .ok (.lload 11, 2) := by decide +kernel
theorem dX3_armFor_106 : decode cX3_armFor 106 = .ok (.ladd, 1) := by decide +kernel
theorem dX3_armFor_107 : decode cX3_armFor 107 = .ok (.l2i, 1) := by decide +kernel
theorem dX3_armFor_108 : decode cX3_armFor 108 = .ok (.ireturn, 1) := by decide +kernel
theorem dX3_undo_0 : decode cX3_undo 0 = .ok (.aload_n 0, 1) := by decide +kernel
theorem dX3_undo_1 : decode cX3_undo 1 = .ok (.getfield 20, 3) := by decide +kernel
theorem dX3_undo_4 : decode cX3_undo 4 = .ok (.iconst 1, 1) := by decide +kernel
theorem dX3_undo_5 : decode cX3_undo 5 = .ok (.isub, 1) := by decide +kernel
theorem dX3_undo_6 : decode cX3_undo 6 = .ok (.istore_n 1, 1) := by decide +kernel
theorem dX3_undo_7 : decode cX3_undo 7 = .ok (.iload_n 1, 1) := by decide +kernel
theorem dX3_undo_8 : decode cX3_undo 8 = .ok (.ifCond .lt 21, 3) := by decide +kernel
theorem dX3_undo_11 : decode cX3_undo 11 = .ok (.iload_n 1, 1) := by decide +kernel
theorem dX3_undo_12 : decode cX3_undo 12 = .ok (.aload_n 0, 1) := by decide +kernel
theorem dX3_undo_13 : decode cX3_undo 13 = .ok (.getfield 16, 3) := by decide +kernel
theorem dX3_undo_16 : decode cX3_undo 16 = .ok (.arraylength, 1) := by decide +kernel
theorem dX3_undo_17 : decode cX3_undo 17 = .ok (.if_icmp .ge 12, 3) := by decide +kernel
theorem dX3_undo_20 : decode cX3_undo 20 = .ok (.aload_n 0, 1) := by decide +kernel
theorem dX3_undo_21 : decode cX3_undo 21 = .ok (.getfield 16, 3) := by decide +kernel
theorem dX3_undo_24 : decode cX3_undo 24 = .ok (.iload_n 1, 1) := by decide +kernel
theorem dX3_undo_25 : decode cX3_undo 25 = .ok (.aaload, 1) := by decide +kernel
theorem dX3_undo_26 : decode cX3_undo 26 = .ok (.ifnonnull 6, 3) := by decide +kernel
theorem dX3_undo_29 : decode cX3_undo 29 = .ok (.ldc 113, 2) := by decide +kernel
theorem dX3_undo_31 : decode cX3_undo 31 = .ok (.ireturn, 1) := by decide +kernel
theorem dX3_undo_32 : decode cX3_undo 32 = .ok (.aload_n 0, 1) := by decide +kernel
theorem dX3_undo_33 : decode cX3_undo 33 = .ok (.getfield 16, 3) := by decide +kernel
theorem dX3_undo_36 : decode cX3_undo 36 = .ok (.iload_n 1, 1) := by decide +kernel
theorem dX3_undo_37 : decode cX3_undo 37 = .ok (.aaload, 1) := by decide +kernel
theorem dX3_undo_38 : decode cX3_undo 38 = .ok (.astore_n 2, 1) := by decide +kernel
theorem dX3_undo_39 : decode cX3_undo 39 = .ok (.aload_n 0, 1) := by decide +kernel
theorem dX3_undo_40 : decode cX3_undo 40 = .ok (.getfield 16, 3) := by decide +kernel
theorem dX3_undo_43 : decode cX3_undo 43 = .ok (.iload_n 1, 1) := by decide +kernel
theorem dX3_undo_44 : decode cX3_undo 44 = .ok (.aload_n 0, 1) := by decide +kernel
theorem dX3_undo_45 : decode cX3_undo 45 = .ok (.getfield 10, 3) := by decide +kernel
theorem dX3_undo_48 : decode cX3_undo 48 = .ok (.aastore, 1) := by decide +kernel
theorem dX3_undo_49 : decode cX3_undo 49 = .ok (.aload_n 0, 1) := by decide +kernel
theorem dX3_undo_50 : decode cX3_undo 50 = .ok (.aload_n 2, 1) := by decide +kernel
theorem dX3_undo_51 : decode cX3_undo 51 = .ok (.putfield 10, 3) := by decide +kernel
theorem dX3_undo_54 : decode cX3_undo 54 = .ok (.aload_n 0, 1) := by decide +kernel
theorem dX3_undo_55 : decode cX3_undo 55 = .ok (.iload_n 1, 1) := by decide +kernel
theorem dX3_undo_56 : decode cX3_undo 56 = .ok (.putfield 20, 3) := by decide +kernel
theorem dX3_undo_59 : decode cX3_undo 59 = .ok (.aload_n 0, 1) := by decide +kernel
theorem dX3_undo_60 : decode cX3_undo 60 = .ok (.getfield 20, 3) := by decide +kernel
theorem dX3_undo_63 : decode cX3_undo 63 = .ok (.ireturn, 1) := by decide +kernel
theorem dX3_type_0 : decode cX3_type 0 = .ok (.iload_n 1, 1) := by decide +kernel
theorem dX3_type_1 : decode cX3_type 1 = .ok (.bipush 32, 2) := by decide +kernel
theorem dX3_type_3 : decode cX3_type 3 = .ok (.bipush 126, 2) := by decide +kernel
theorem dX3_type_5 : decode cX3_type 5 = .ok (.invokestatic 31, 3) := by decide +kernel
theorem dX3_type_8 : decode cX3_type 8 = .ok (.ifCond .ne 6, 3) := by decide +kernel
theorem dX3_type_11 : decode cX3_type 11 = .ok (.ldc 35, 2) := by decide +kernel
theorem dX3_type_13 : decode cX3_type 13 = .ok (.ireturn, 1) := by decide +kernel
theorem dX3_type_14 : decode cX3_type 14 = .ok (.aload_n 0, 1) := by decide +kernel
theorem dX3_type_15 : decode cX3_type 15 = .ok (.getfield 27, 3) := by decide +kernel
theorem dX3_type_18 : decode cX3_type 18 = .ok (.iload_n 1, 1) := by decide +kernel
theorem dX3_type_19 : decode cX3_type 19 = .ok (.i2c, 1) := by decide +kernel
theorem dX3_type_20 : decode cX3_type 20 = .ok (.invokevirtual 212, 3) := by decide +kernel
theorem dX3_type_23 : decode cX3_type 23 = .ok (.ifCond .eq 13, 3) := by decide +kernel
theorem dX3_type_26 : decode cX3_type 26 = .ok (.aload_n 0, 1) := by decide +kernel
theorem dX3_type_27 : decode cX3_type 27 = .ok (.getfield 27, 3) := by decide +kernel
theorem dX3_type_30 : decode cX3_type 30 = .ok (.getfield 88, 3) := by decide +kernel
theorem dX3_type_33 : decode cX3_type 33 = .ok (.goto 5, 3) := by decide +kernel
theorem dX3_type_36 : decode cX3_type 36 = .ok (.ldc 91, 2) := by decide +kernel
theorem dX3_type_38 : decode cX3_type 38 = .ok (.ireturn, 1) := by decide +kernel
theorem dX3_fault_0 : decode cX3_fault 0 = .ok (.iload_n 1, 1) := by decide +kernel
theorem dX3_fault_1 : decode cX3_fault 1 = .ok (.iconst 0, 1) := by decide +kernel
theorem dX3_fault_2 : decode cX3_fault 2 = .ok (.iconst 1, 1) := by decide +kernel
theorem dX3_fault_3 : decode cX3_fault 3 = .ok (.invokestatic 31, 3) := by decide +kernel
theorem dX3_fault_6 : decode cX3_fault 6 = .ok (.ifCond .ne 6, 3) := by decide +kernel
theorem dX3_fault_9 : decode cX3_fault 9 = .ok (.ldc 35, 2) := by decide +kernel
theorem dX3_fault_11 : decode cX3_fault 11 = .ok (.ireturn, 1) := by decide +kernel
theorem dX3_fault_12 : decode cX3_fault 12 = .ok (.aload_n 0, 1) := by decide +kernel
theorem dX3_fault_13 : decode cX3_fault 13 = .ok (.getfield 27, 3) := by decide +kernel
theorem dX3_fault_16 : decode cX3_fault 16 = .ok (.invokevirtual 216, 3) := by decide +kernel
theorem dX3_fault_19 : decode cX3_fault 19 = .ok (.ifCond .ne 6, 3) := by decide +kernel
theorem dX3_fault_22 : decode cX3_fault 22 = .ok (.ldc 136, 2) := by decide +kernel
theorem dX3_fault_24 : decode cX3_fault 24 = .ok (.ireturn, 1) := by decide +kernel
theorem dX3_fault_25 : decode cX3_fault 25 = .ok (.iload_n 1, 1) := by decide +kernel
theorem dX3_fault_26 : decode cX3_fault 26 = .ok (.ifCond .ne 13, 3) := by decide +kernel
theorem dX3_fault_29 : decode cX3_fault 29 = .ok (.aload_n 0, 1) := by decide +kernel
theorem dX3_fault_30 : decode cX3_fault 30 = .ok (.getfield 27, 3) := by decide +kernel
theorem dX3_fault_33 : decode cX3_fault 33 = .ok (.getfield 219, 3) := by decide +kernel
theorem dX3_fault_36 : decode cX3_fault 36 = .ok (.goto 10, 3) := by decide +kernel
theorem dX3_fault_39 : decode cX3_fault 39 = .ok (.aload_n 0, 1) := by decide +kernel
theorem dX3_fault_40 : decode cX3_fault 40 = .ok (.getfield 27, 3) := by decide +kernel
theorem dX3_fault_43 : decode cX3_fault 43 = .ok (.getfield 222, 3) := by decide +kernel
theorem dX3_fault_46 : decode cX3_fault 46 = .ok (.ireturn, 1) := by decide +kernel
theorem dX3_read_0 : decode cX3_read 0 = .ok (.aload_n 0, 1) := by decide +kernel
theorem dX3_read_1 : decode cX3_read 1 = .ok (.getfield 27, 3) := by decide +kernel
theorem dX3_read_4 : decode cX3_read 4 = .ok (.invokevirtual 216, 3) := by decide +kernel
theorem dX3_read_7 : decode cX3_read 7 = .ok (.ifCond .eq 6, 3) := by decide +kernel
theorem dX3_read_10 : decode cX3_read 10 = .ok (.ldc 113, 2) := by decide +kernel
theorem dX3_read_12 : decode cX3_read 12 = .ok (.ireturn, 1) := by decide +kernel
theorem dX3_read_13 : decode cX3_read 13 = .ok (.aload_n 0, 1) := by decide +kernel
theorem dX3_read_14 : decode cX3_read 14 = .ok (.getfield 10, 3) := by decide +kernel
theorem dX3_read_17 : decode cX3_read 17 = .ok (.invokevirtual 92, 3) := by decide +kernel
theorem dX3_read_20 : decode cX3_read 20 = .ok (.astore_n 1, 1) := by decide +kernel
theorem dX3_read_21 : decode cX3_read 21 = .ok (.aload_n 1, 1) := by decide +kernel
theorem dX3_read_22 : decode cX3_read 22 = .ok (.ifnonnull 6, 3) := by decide +kernel
theorem dX3_read_25 : decode cX3_read 25 = .ok (.ldc 91, 2) := by decide +kernel
theorem dX3_read_27 : decode cX3_read 27 = .ok (.ireturn, 1) := by decide +kernel
theorem dX3_read_28 : decode cX3_read 28 = .ok (.aload_n 0, 1) := by decide +kernel
theorem dX3_read_29 : decode cX3_read 29 = .ok (.invokevirtual 42, 3) := by decide +kernel
theorem dX3_read_32 : decode cX3_read 32 = .ok (.aload_n 0, 1) := by decide +kernel
theorem dX3_read_33 : decode cX3_read 33 = .ok (.getfield 10, 3) := by decide +kernel
theorem dX3_read_36 : decode cX3_read 36 = .ok (.invokevirtual 96, 3) := by decide +kernel
theorem dX3_read_39 : decode cX3_read 39 = .ok (.istore_n 2, 1) := by decide +kernel
theorem dX3_read_40 : decode cX3_read 40 = .ok (.aload_n 0, 1) := by decide +kernel
theorem dX3_read_41 : decode cX3_read 41 = .ok (.getfield 27, 3) := by decide +kernel
theorem dX3_read_44 : decode cX3_read 44 = .ok (.aload_n 1, 1) := by decide +kernel
theorem dX3_read_45 : decode cX3_read 45 = .ok (.invokevirtual 225, 3) := by decide +kernel
theorem dX3_read_48 : decode cX3_read 48 = .ok (.iload_n 2, 1) := by decide +kernel
theorem dX3_read_49 : decode cX3_read 49 = .ok (.ireturn, 1) := by decide +kernel
theorem dX3_remember_0 : decode cX3_remember 0 = .ok (.aload_n 0, 1) := by decide +kernel
theorem dX3_remember_1 : decode cX3_remember 1 = .ok (.getfield 20, 3) := by decide +kernel
theorem dX3_remember_4 : decode cX3_remember 4 = .ok (.aload_n 0, 1) := by decide +kernel
theorem dX3_remember_5 : decode cX3_remember 5 = .ok (.getfield 16, 3) := by decide +kernel
theorem dX3_remember_8 : decode cX3_remember 8 = .ok (.arraylength, 1) := by decide +kernel
theorem dX3_remember_9 : decode cX3_remember 9 = .ok (.if_icmp .lt 7, 3) := by decide +kernel
theorem dX3_remember_12 : decode cX3_remember 12 = .ok (.aload_n 0, 1) := by decide +kernel
theorem dX3_remember_13 : decode cX3_remember 13 = .ok (.invokevirtual 229, 3) := by decide +kernel
theorem dX3_remember_16 : decode cX3_remember 16 = .ok (.aload_n 0, 1) := by decide +kernel
theorem dX3_remember_17 : decode cX3_remember 17 = .ok (.getfield 20, 3) := by decide +kernel
theorem dX3_remember_20 : decode cX3_remember 20 = .ok (.ifCond .lt 53, 3) := by decide +kernel
theorem dX3_remember_23 : decode cX3_remember 23 = .ok (.aload_n 0, 1) := by decide +kernel
theorem dX3_remember_24 : decode cX3_remember 24 = .ok (.getfield 20, 3) := by decide +kernel
theorem dX3_remember_27 : decode cX3_remember 27 = .ok (.aload_n 0, 1) := by decide +kernel
theorem dX3_remember_28 : decode cX3_remember 28 = .ok (.getfield 16, 3) := by decide +kernel
theorem dX3_remember_31 : decode cX3_remember 31 = .ok (.arraylength, 1) := by decide +kernel
theorem dX3_remember_32 : decode cX3_remember 32 = .ok (.if_icmp .ge 41, 3) := by decide +kernel
theorem dX3_remember_35 : decode cX3_remember 35 = .ok (.aload_n 0, 1) := by decide +kernel
theorem dX3_remember_36 : decode cX3_remember 36 = .ok (.getfield 16, 3) := by decide +kernel
theorem dX3_remember_39 : decode cX3_remember 39 = .ok (.aload_n 0, 1) := by decide +kernel
theorem dX3_remember_40 : decode cX3_remember 40 = .ok (.getfield 20, 3) := by decide +kernel
theorem dX3_remember_43 : decode cX3_remember 43 = .ok (.aaload, 1) := by decide +kernel
theorem dX3_remember_44 : decode cX3_remember 44 = .ok (.ifnull 29, 3) := by decide +kernel
theorem dX3_remember_47 : decode cX3_remember 47 = .ok (.aload_n 0, 1) := by decide +kernel
theorem dX3_remember_48 : decode cX3_remember 48 = .ok (.getfield 16, 3) := by decide +kernel
theorem dX3_remember_51 : decode cX3_remember 51 = .ok (.aload_n 0, 1) := by decide +kernel
theorem dX3_remember_52 : decode cX3_remember 52 = .ok (.getfield 20, 3) := by decide +kernel
theorem dX3_remember_55 : decode cX3_remember 55 = .ok (.aaload, 1) := by decide +kernel
theorem dX3_remember_56 : decode cX3_remember 56 = .ok (.aload_n 0, 1) := by decide +kernel
theorem dX3_remember_57 : decode cX3_remember 57 = .ok (.getfield 10, 3) := by decide +kernel
theorem dX3_remember_60 : decode cX3_remember 60 = .ok (.invokevirtual 232, 3) := by decide +kernel
theorem dX3_remember_63 : decode cX3_remember 63 = .ok (.aload_n 0, 1) := by decide +kernel
theorem dX3_remember_64 : decode cX3_remember 64 = .ok (.dup, 1) := by decide +kernel
theorem dX3_remember_65 : decode cX3_remember 65 = .ok (.getfield 20, 3) := by decide +kernel
theorem dX3_remember_68 : decode cX3_remember 68 = .ok (.iconst 1, 1) := by decide +kernel
theorem dX3_remember_69 : decode cX3_remember 69 = .ok (.iadd, 1) := by decide +kernel
theorem dX3_remember_70 : decode cX3_remember 70 = .ok (.putfield 20, 3) := by decide +kernel
theorem dX3_remember_73 : decode cX3_remember 73 = .ok (.return_, 1) := by decide +kernel
theorem dX3_dropOldest_0 : decode cX3_dropOldest 0 = .ok (.aload_n 0, 1) := by decide +kernel
theorem dX3_dropOldest_1 : decode cX3_dropOldest 1 = .ok (.getfield 16, 3) := by decide +kernel
theorem dX3_dropOldest_4 : decode cX3_dropOldest 4 = .ok (.arraylength, 1) := by decide +kernel
theorem dX3_dropOldest_5 : decode cX3_dropOldest 5 = .ok (.iconst 1, 1) := by decide +kernel
theorem dX3_dropOldest_6 : decode cX3_dropOldest 6 = .ok (.if_icmp .ge 4, 3) := by decide +kernel
theorem dX3_dropOldest_9 : decode cX3_dropOldest 9 = .ok (.return_, 1) := by decide +kernel
theorem dX3_dropOldest_10 : decode cX3_dropOldest 10 = .ok (.aload_n 0, 1) := by decide +kernel
theorem dX3_dropOldest_11 : decode cX3_dropOldest 11 = .ok (.getfield 16, 3) := by decide +kernel
theorem dX3_dropOldest_14 : decode cX3_dropOldest 14 = .ok (.iconst 0, 1) := by decide +kernel
theorem dX3_dropOldest_15 : decode cX3_dropOldest 15 = .ok (.aaload, 1) := by decide +kernel
theorem dX3_dropOldest_16 : decode cX3_dropOldest 16 = .ok (.astore_n 1, 1) := by decide +kernel
theorem dX3_dropOldest_17 : decode cX3_dropOldest 17 = .ok (.iconst 1, 1) := by decide +kernel
theorem dX3_dropOldest_18 : decode cX3_dropOldest 18 = .ok (.istore_n 2, 1) := by decide +kernel
theorem dX3_dropOldest_19 : decode cX3_dropOldest 19 = .ok (.iload_n 2, 1) := by decide +kernel
theorem dX3_dropOldest_20 : decode cX3_dropOldest 20 = .ok (.aload_n 0, 1) := by decide +kernel
theorem dX3_dropOldest_21 : decode cX3_dropOldest 21 = .ok (.getfield 16, 3) := by decide +kernel
theorem dX3_dropOldest_24 : decode cX3_dropOldest 24 = .ok (.arraylength, 1) := by decide +kernel
theorem dX3_dropOldest_25 : decode cX3_dropOldest 25 = .ok (.if_icmp .ge 23, 3) := by decide +kernel
theorem dX3_dropOldest_28 : decode cX3_dropOldest 28 = .ok (.aload_n 0, 1) := by decide +kernel
theorem dX3_dropOldest_29 : decode cX3_dropOldest 29 = .ok (.getfield 16, 3) := by decide +kernel
theorem dX3_dropOldest_32 : decode cX3_dropOldest 32 = .ok (.iload_n 2, 1) := by decide +kernel
theorem dX3_dropOldest_33 : decode cX3_dropOldest 33 = .ok (.iconst 1, 1) := by decide +kernel
theorem dX3_dropOldest_34 : decode cX3_dropOldest 34 = .ok (.isub, 1) := by decide +kernel
theorem dX3_dropOldest_35 : decode cX3_dropOldest 35 = .ok (.aload_n 0, 1) := by decide +kernel
theorem dX3_dropOldest_36 : decode cX3_dropOldest 36 = .ok (.getfield 16, 3) := by decide +kernel
theorem dX3_dropOldest_39 : decode cX3_dropOldest 39 = .ok (.iload_n 2, 1) := by decide +kernel
theorem dX3_dropOldest_40 : decode cX3_dropOldest 40 = .ok (.aaload, 1) := by decide +kernel
theorem dX3_dropOldest_41 : decode cX3_dropOldest 41 = .ok (.aastore, 1) := by decide +kernel
theorem dX3_dropOldest_42 : decode cX3_dropOldest 42 = .ok (.iinc 2 1, 3) := by decide +kernel
theorem dX3_dropOldest_45 : decode cX3_dropOldest 45 = .ok (.goto (-26), 3) := by decide +kernel
theorem dX3_dropOldest_48 : decode cX3_dropOldest 48 = .ok (.aload_n 0, 1) := by decide +kernel
theorem dX3_dropOldest_49 : decode cX3_dropOldest 49 = .ok (.getfield 16, 3) := by decide +kernel
