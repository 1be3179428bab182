theorem dX3_dropOldest_52 : decode cX3_dropOldest 52 = .ok (.aload_n 0, 1) := by decide +kernel
theorem dX3_dropOldest_53 : decode cX3_dropOldest 53 = .ok (.getfield 16, 3) := by decide +kernel
theorem dX3_dropOldest_56 : decode cX3_dropOldest 56 = .ok (.arraylength, 1) := by decide +kernel
theorem dX3_dropOldest_57 : decode cX3_dropOldest 57 = .ok (.iconst 1, 1) := by decide +kernel
theorem dX3_dropOldest_58 : decode cX3_dropOldest 58 = .ok (.isub, 1) := by decide +kernel
theorem dX3_dropOldest_59 : decode cX3_dropOldest 59 = .ok (.aload_n 1, 1) := by decide +kernel
theorem dX3_dropOldest_60 : decode cX3_dropOldest 60 = .ok (.aastore, 1) := by decide +kernel
theorem dX3_dropOldest_61 : decode cX3_dropOldest 61 = .ok (.aload_n 0, 1) := by decide +kernel
theorem dX3_dropOldest_62 : decode cX3_dropOldest 62 = .ok (.aload_n 0, 1) := by decide +kernel
theorem dX3_dropOldest_63 : decode cX3_dropOldest 63 = .ok (.getfield 16, 3) := by decide +kernel
theorem dX3_dropOldest_66 : decode cX3_dropOldest 66 = .ok (.arraylength, 1) := by decide +kernel
theorem dX3_dropOldest_67 : decode cX3_dropOldest 67 = .ok (.iconst 1, 1) := by decide +kernel
theorem dX3_dropOldest_68 : decode cX3_dropOldest 68 = .ok (.isub, 1) := by decide +kernel
theorem dX3_dropOldest_69 : decode cX3_dropOldest 69 = .ok (.putfield 20, 3) := by decide +kernel
theorem dX3_dropOldest_72 : decode cX3_dropOldest 72 = .ok (.return_, 1) := by decide +kernel
theorem dX3_isWithin_0 : decode cX3_isWithin 0 = .ok (.iload_n 0, 1) := by decide +kernel
theorem dX3_isWithin_1 : decode cX3_isWithin 1 = .ok (.iload_n 1, 1) := by decide +kernel
theorem dX3_isWithin_2 : decode cX3_isWithin 2 = .ok (.if_icmp .lt 12, 3) := by decide +kernel
theorem dX3_isWithin_5 : decode cX3_isWithin 5 = .ok (.iload_n 0, 1) := by decide +kernel
theorem dX3_isWithin_6 : decode cX3_isWithin 6 = .ok (.iload_n 2, 1) := by decide +kernel
theorem dX3_isWithin_7 : decode cX3_isWithin 7 = .ok (.if_icmp .gt 7, 3) := by decide +kernel
theorem dX3_isWithin_10 : decode cX3_isWithin 10 = .ok (.iconst 1, 1) := by decide +kernel
theorem dX3_isWithin_11 : decode cX3_isWithin 11 = .ok (.goto 4, 3) := by decide +kernel
theorem dX3_isWithin_14 : decode cX3_isWithin 14 = .ok (.iconst 0, 1) := by decide +kernel
theorem dX3_isWithin_15 : decode cX3_isWithin 15 = .ok (.ireturn, 1) := by decide +kernel
theorem dX3_greatestDivisor_0 : decode cX3_greatestDivisor 0 = .ok (.lload_n 0, 1) := by decide +kernel
theorem dX3_greatestDivisor_1 : decode cX3_greatestDivisor 1 = .ok (.lstore 4, 2) := by decide +kernel
theorem dX3_greatestDivisor_3 : decode cX3_greatestDivisor 3 = .ok (.lload_n 2, 1) := by decide +kernel
theorem dX3_greatestDivisor_4 : decode cX3_greatestDivisor 4 = .ok (.lstore 6, 2) := by decide +kernel
theorem dX3_greatestDivisor_6 : decode cX3_greatestDivisor 6 = .ok (.iconst 0, 1) := by decide +kernel
theorem dX3_greatestDivisor_7 : decode cX3_greatestDivisor 7 = .ok (.istore 8, 2) := by decide +kernel
theorem dX3_greatestDivisor_9 : decode cX3_greatestDivisor 9 = .ok (.iload 8, 2) := by decide +kernel
theorem dX3_greatestDivisor_11 : decode cX3_greatestDivisor 11 = .ok (.bipush 100, 2) := by decide +kernel
theorem dX3_greatestDivisor_13 : decode cX3_greatestDivisor 13 = .ok (.if_icmp .ge 31, 3) := by decide +kernel
theorem dX3_greatestDivisor_16 : decode cX3_greatestDivisor 16 = .ok (.lload 6, 2) := by decide +kernel
theorem dX3_greatestDivisor_18 : decode cX3_greatestDivisor 18 = .ok (.lconst 0, 1) := by decide +kernel
theorem dX3_greatestDivisor_19 : decode cX3_greatestDivisor 19 = .ok (.lcmp, 1) := by decide +kernel
theorem dX3_greatestDivisor_20 : decode cX3_greatestDivisor 20 = .ok (.ifCond .le 24, 3) := by decide +kernel
theorem dX3_greatestDivisor_23 : decode cX3_greatestDivisor 23 = .ok (.lload 4, 2) := by decide +kernel
theorem dX3_greatestDivisor_25 : decode cX3_greatestDivisor 25 = .ok (.lload 6, 2) := by decide +kernel
theorem dX3_greatestDivisor_27 : decode cX3_greatestDivisor 27 = .ok (.lrem, 1) := by decide +kernel
theorem dX3_greatestDivisor_28 : decode cX3_greatestDivisor 28 = .ok (.lstore 9, 2) := by decide +kernel
theorem dX3_greatestDivisor_30 : decode cX3_greatestDivisor 30 = .ok (.lload 6, 2) := by decide +kernel
theorem dX3_greatestDivisor_32 : decode cX3_greatestDivisor 32 = .ok (.lstore 4, 2) := by decide +kernel
theorem dX3_greatestDivisor_34 : decode cX3_greatestDivisor 34 = .ok (.lload 9, 2) := by decide +kernel
theorem dX3_greatestDivisor_36 : decode cX3_greatestDivisor 36 = .ok (.lstore 6, 2) := by decide +kernel
theorem dX3_greatestDivisor_38 : decode cX3_greatestDivisor 38 = .ok (.iinc 8 1, 3) := by decide +kernel
theorem dX3_greatestDivisor_41 : decode cX3_greatestDivisor 41 = .ok (.goto (-32), 3) := by decide +kernel
theorem dX3_greatestDivisor_44 : decode cX3_greatestDivisor 44 = .ok (.lload 4, 2) := by decide +kernel
theorem dX3_greatestDivisor_46 : decode cX3_greatestDivisor 46 = .ok (.lreturn, 1) := by decide +kernel
theorem dX3_lowest_0 : decode cX3_lowest 0 = .ok (.iload 4, 2) := by decide +kernel
theorem dX3_lowest_2 : decode cX3_lowest 2 = .ok (.ifCond .ne 7, 3) := by decide +kernel
theorem dX3_lowest_5 : decode cX3_lowest 5 = .ok (.lload_n 0, 1) := by decide +kernel
theorem dX3_lowest_6 : decode cX3_lowest 6 = .ok (.goto 4, 3) := by decide +kernel
theorem dX3_lowest_9 : decode cX3_lowest 9 = .ok (.lload_n 2, 1) := by decide +kernel
theorem dX3_lowest_10 : decode cX3_lowest 10 = .ok (.lstore 5, 2) := by decide +kernel
theorem dX3_lowest_12 : decode cX3_lowest 12 = .ok (.lload_n 0, 1) := by decide +kernel
theorem dX3_lowest_13 : decode cX3_lowest 13 = .ok (.invokestatic 236, 3) := by decide +kernel
theorem dX3_lowest_16 : decode cX3_lowest 16 = .ok (.lload_n 2, 1) := by decide +kernel
theorem dX3_lowest_17 : decode cX3_lowest 17 = .ok (.invokestatic 241, 3) := by decide +kernel
theorem dX3_lowest_20 : decode cX3_lowest 20 = .ok (.lstore 7, 2) := by decide +kernel
theorem dX3_lowest_22 : decode cX3_lowest 22 = .ok (.lload 7, 2) := by decide +kernel
theorem dX3_lowest_24 : decode cX3_lowest 24 = .ok (.lconst 1, 1) := by decide +kernel
theorem dX3_lowest_25 : decode cX3_lowest 25 = .ok (.lcmp, 1) := by decide +kernel
theorem dX3_lowest_26 : decode cX3_lowest 26 = .ok (.ifCond .le 11, 3) := by decide +kernel
theorem dX3_lowest_29 : decode cX3_lowest 29 = .ok (.lload 5, 2) := by decide +kernel
theorem dX3_lowest_31 : decode cX3_lowest 31 = .ok (.lload 7, 2) := by decide +kernel
theorem dX3_lowest_33 : decode cX3_lowest 33 = .ok (.ldiv, 1) := by decide +kernel
theorem dX3_lowest_34 : decode cX3_lowest 34 = .ok (.goto 5, 3) := by decide +kernel
theorem dX3_lowest_37 : decode cX3_lowest 37 = .ok (.lload 5, 2) := by decide +kernel
theorem dX3_lowest_39 : decode cX3_lowest 39 = .ok (.lreturn, 1) := by decide +kernel
theorem dX3_quotient_0 : decode cX3_quotient 0 = .ok (.lload_n 2, 1) := by decide +kernel
theorem dX3_quotient_1 : decode cX3_quotient 1 = .ok (.lconst 0, 1) := by decide +kernel
theorem dX3_quotient_2 : decode cX3_quotient 2 = .ok (.lcmp, 1) := by decide +kernel
theorem dX3_quotient_3 : decode cX3_quotient 3 = .ok (.ifCond .le 9, 3) := by decide +kernel
theorem dX3_quotient_6 : decode cX3_quotient 6 = .ok (.lload_n 0, 1) := by decide +kernel
theorem dX3_quotient_7 : decode cX3_quotient 7 = .ok (.lload_n 2, 1) := by decide +kernel
theorem dX3_quotient_8 : decode cX3_quotient 8 = .ok (.ldiv, 1) := by decide +kernel
theorem dX3_quotient_9 : decode cX3_quotient 9 = .ok (.goto 4, 3) := by decide +kernel
theorem dX3_quotient_12 : decode cX3_quotient 12 = .ok (.lconst 0, 1) := by decide +kernel
theorem dX3_quotient_13 : decode cX3_quotient 13 = .ok (.lreturn, 1) := by decide +kernel
theorem dX3_floatBits_0 : decode cX3_floatBits 0 = .ok (.fload_n 0, 1) := by decide +kernel
theorem dX3_floatBits_1 : decode cX3_floatBits 1 = .ok (.fstore_n 1, 1) := by decide +kernel
theorem dX3_floatBits_2 : decode cX3_floatBits 2 = .ok (.iconst 0, 1) := by decide +kernel
theorem dX3_floatBits_3 : decode cX3_floatBits 3 = .ok (.istore_n 2, 1) := by decide +kernel
theorem dX3_floatBits_4 : decode cX3_floatBits 4 = .ok (.iconst 0, 1) := by decide +kernel
theorem dX3_floatBits_5 : decode cX3_floatBits 5 = .ok (.istore_n 3, 1) := by decide +kernel
theorem dX3_floatBits_6 : decode cX3_floatBits 6 = .ok (.iload_n 3, 1) := by decide +kernel
theorem dX3_floatBits_7 : decode cX3_floatBits 7 = .ok (.bipush 60, 2) := by decide +kernel
theorem dX3_floatBits_9 : decode cX3_floatBits 9 = .ok (.if_icmp .ge 22, 3) := by decide +kernel
theorem dX3_floatBits_12 : decode cX3_floatBits 12 = .ok (.fload_n 1, 1) := by decide +kernel
theorem dX3_floatBits_13 : decode cX3_floatBits 13 = .ok (.fconst 2, 1) := by decide +kernel
theorem dX3_floatBits_14 : decode cX3_floatBits 14 = .ok (.fcmp .l, 1) := by decide +kernel
theorem dX3_floatBits_15 : decode cX3_floatBits 15 = .ok (.ifCond .lt 16, 3) := by decide +kernel
theorem dX3_floatBits_18 : decode cX3_floatBits 18 = .ok (.fload_n 1, 1) := by decide +kernel
theorem dX3_floatBits_19 : decode cX3_floatBits 19 = .ok (.fconst 2, 1) := by decide +kernel
theorem dX3_floatBits_20 : decode cX3_floatBits 20 = .ok (.fdiv, 1) := by decide +kernel
theorem dX3_floatBits_21 : decode cX3_floatBits 21 = .ok (.fstore_n 1, 1) := by decide +kernel
theorem dX3_floatBits_22 : decode cX3_floatBits 22 = .ok (.iinc 2 1, 3) := by decide +kernel
theorem dX3_floatBits_25 : decode cX3_floatBits 25 = .ok (.iinc 3 1, 3) := by decide +kernel
theorem dX3_floatBits_28 : decode cX3_floatBits 28 = .ok (.goto (-22), 3) := by decide +kernel
theorem dX3_floatBits_31 : decode cX3_floatBits 31 = .ok (.iconst 0, 1) := by decide +kernel
theorem dX3_floatBits_32 : decode cX3_floatBits 32 = .ok (.istore_n 3, 1) := by decide +kernel
theorem dX3_floatBits_33 : decode cX3_floatBits 33 = .ok (.iload_n 3, 1) := by decide +kernel
theorem dX3_floatBits_34 : decode cX3_floatBits 34 = .ok (.bipush 60, 2) := by decide +kernel
theorem dX3_floatBits_36 : decode cX3_floatBits 36 = .ok (.if_icmp .ge 22, 3) := by decide +kernel
theorem dX3_floatBits_39 : decode cX3_floatBits 39 = .ok (.fload_n 1, 1) := by decide +kernel
theorem dX3_floatBits_40 : decode cX3_floatBits 40 = .ok (.fconst 1, 1) := by decide +kernel
theorem dX3_floatBits_41 : decode cX3_floatBits 41 = .ok (.fcmp .g, 1) := by decide +kernel
theorem dX3_floatBits_42 : decode cX3_floatBits 42 = .ok (.ifCond .ge 16, 3) := by decide +kernel
theorem dX3_floatBits_45 : decode cX3_floatBits 45 = .ok (.fload_n 1, 1) := by decide +kernel
theorem dX3_floatBits_46 : decode cX3_floatBits 46 = .ok (.fconst 2, 1) := by decide +kernel
theorem dX3_floatBits_47 : decode cX3_floatBits 47 = .ok (.fmul, 1) := by decide +kernel
theorem dX3_floatBits_48 : decode cX3_floatBits 48 = .ok (.fstore_n 1, 1) := by decide +kernel
theorem dX3_floatBits_49 : decode cX3_floatBits 49 = .ok (.iinc 2 (-1), 3) := by decide +kernel
theorem dX3_floatBits_52 : decode cX3_floatBits 52 = .ok (.iinc 3 1, 3) := by decide +kernel
theorem dX3_floatBits_55 : decode cX3_floatBits 55 = .ok (.goto (-22), 3) := by decide +kernel
theorem dX3_floatBits_58 : decode cX3_floatBits 58 = .ok (.iload_n 2, 1) := by decide +kernel
theorem dX3_floatBits_59 : decode cX3_floatBits 59 = .ok (.bipush 127, 2) := by decide +kernel
theorem dX3_floatBits_61 : decode cX3_floatBits 61 = .ok (.iadd, 1) := by decide +kernel
theorem dX3_floatBits_62 : decode cX3_floatBits 62 = .ok (.bipush 23, 2) := by decide +kernel
theorem dX3_floatBits_64 : decode cX3_floatBits 64 = .ok (.ishl, 1) := by decide +kernel
theorem dX3_floatBits_65 : decode cX3_floatBits 65 = .ok (.fload_n 1, 1) := by decide +kernel
theorem dX3_floatBits_66 : decode cX3_floatBits 66 = .ok (.fconst 1, 1) := by decide +kernel
theorem dX3_floatBits_67 : decode cX3_floatBits 67 = .ok (.fsub, 1) := by decide +kernel
theorem dX3_floatBits_68 : decode cX3_floatBits 68 = .ok (.ldc 245, 2) := by decide +kernel
theorem dX3_floatBits_70 : decode cX3_floatBits 70 = .ok (.fmul, 1) := by decide +kernel
theorem dX3_floatBits_71 : decode cX3_floatBits 71 = .ok (.f2i, 1) := by decide +kernel
theorem dX3_floatBits_72 : decode cX3_floatBits 72 = .ok (.iadd, 1) := by decide +kernel
theorem dX3_floatBits_73 : decode cX3_floatBits 73 = .ok (.ireturn, 1) := by decide +kernel
