theorem dX1_init_0 : decode cX1_init 0 = .ok (.aload_n 0, 1) := by decide +kernel
theorem dX1_init_1 : decode cX1_init 1 = .ok (.invokespecial 3, 3) := by decide +kernel
theorem dX1_init_4 : decode cX1_init 4 = .ok (.aload_n 0, 1) := by decide +kernel
theorem dX1_init_5 : decode cX1_init 5 = .ok (.iconst (-1), 1) := by decide +kernel
theorem dX1_init_6 : decode cX1_init 6 = .ok (.putfield 9, 3) := by decide +kernel
theorem dX1_init_9 : decode cX1_init 9 = .ok (.aload_n 0, 1) := by decide +kernel
theorem dX1_init_10 : decode cX1_init 10 = .ok (.lconst 1, 1) := by decide +kernel
theorem dX1_init_11 : decode cX1_init 11 = .ok (.putfield 15, 3) := by decide +kernel
theorem dX1_init_14 : decode cX1_init 14 = .ok (.aload_n 0, 1) := by decide +kernel
theorem dX1_init_15 : decode cX1_init 15 = .ok (.lconst 1, 1) := by decide +kernel
theorem dX1_init_16 : decode cX1_init 16 = .ok (.putfield 19, 3) := by decide +kernel
theorem dX1_init_19 : decode cX1_init 19 = .ok (.aload_n 0, 1) := by decide +kernel
theorem dX1_init_20 : decode cX1_init 20 = .ok (.iconst 1, 1) := by decide +kernel
theorem dX1_init_21 : decode cX1_init 21 = .ok (.putfield 22, 3) := by decide +kernel
theorem dX1_init_24 : decode cX1_init 24 = .ok (.aload_n 0, 1) := by decide +kernel
theorem dX1_init_25 : decode cX1_init 25 = .ok (.iconst 1, 1) := by decide +kernel
theorem dX1_init_26 : decode cX1_init 26 = .ok (.putfield 25, 3) := by decide +kernel
theorem dX1_init_29 : decode cX1_init 29 = .ok (.aload_n 0, 1) := by decide +kernel
theorem dX1_init_30 : decode cX1_init 30 = .ok (.lconst 0, 1) := by decide +kernel
theorem dX1_init_31 : decode cX1_init 31 = .ok (.putfield 28, 3) := by decide +kernel
theorem dX1_init_34 : decode cX1_init 34 = .ok (.aload_n 0, 1) := by decide +kernel
theorem dX1_init_35 : decode cX1_init 35 = .ok (.lconst 0, 1) := by decide +kernel
theorem dX1_init_36 : decode cX1_init 36 = .ok (.putfield 31, 3) := by decide +kernel
theorem dX1_init_39 : decode cX1_init 39 = .ok (.aload_n 0, 1) := by decide +kernel
theorem dX1_init_40 : decode cX1_init 40 = .ok (.iconst 0, 1) := by decide +kernel
theorem dX1_init_41 : decode cX1_init 41 = .ok (.putfield 34, 3) := by decide +kernel
theorem dX1_init_44 : decode cX1_init 44 = .ok (.aload_n 0, 1) := by decide +kernel
theorem dX1_init_45 : decode cX1_init 45 = .ok (.bipush 20, 2) := by decide +kernel
theorem dX1_init_47 : decode cX1_init 47 = .ok (.newarray .long, 2) := by decide +kernel
theorem dX1_init_49 : decode cX1_init 49 = .ok (.putfield 37, 3) := by decide +kernel
theorem dX1_init_52 : decode cX1_init 52 = .ok (.aload_n 0, 1) := by decide +kernel
theorem dX1_init_53 : decode cX1_init 53 = .ok (.bipush 20, 2) := by decide +kernel
theorem dX1_init_55 : decode cX1_init 55 = .ok (.newarray .long, 2) := by decide +kernel
theorem dX1_init_57 : decode cX1_init 57 = .ok (.putfield 41, 3) := by decide +kernel
theorem dX1_init_60 : decode cX1_init 60 = .ok (.aload_n 0, 1) := by decide +kernel
theorem dX1_init_61 : decode cX1_init 61 = .ok (.bipush 20, 2) := by decide +kernel
theorem dX1_init_63 : decode cX1_init 63 = .ok (.newarray .int, 2) := by decide +kernel
theorem dX1_init_65 : decode cX1_init 65 = .ok (.putfield 44, 3) := by decide +kernel
theorem dX1_init_68 : decode cX1_init 68 = .ok (.return_, 1) := by decide +kernel
theorem dX1_begin_0 : decode cX1_begin 0 = .ok (.aload_n 0, 1) := by decide +kernel
theorem dX1_begin_1 : decode cX1_begin 1 = .ok (.iload_n 1, 1) := by decide +kernel
theorem dX1_begin_2 : decode cX1_begin 2 = .ok (.putfield 9, 3) := by decide +kernel
theorem dX1_begin_5 : decode cX1_begin 5 = .ok (.aload_n 0, 1) := by decide +kernel
theorem dX1_begin_6 : decode cX1_begin 6 = .ok (.lload_n 2, 1) := by decide +kernel
theorem dX1_begin_7 : decode cX1_begin 7 = .ok (.putfield 15, 3) := by decide +kernel
theorem dX1_begin_10 : decode cX1_begin 10 = .ok (.aload_n 0, 1) := by decide +kernel
theorem dX1_begin_11 : decode cX1_begin 11 = .ok (.lload 4, 2) := by decide +kernel
theorem dX1_begin_13 : decode cX1_begin 13 = .ok (.putfield 19, 3) := by decide +kernel
theorem dX1_begin_16 : decode cX1_begin 16 = .ok (.aload_n 0, 1) := by decide +kernel
theorem dX1_begin_17 : decode cX1_begin 17 = .ok (.iconst 1, 1) := by decide +kernel
theorem dX1_begin_18 : decode cX1_begin 18 = .ok (.putfield 22, 3) := by decide +kernel
theorem dX1_begin_21 : decode cX1_begin 21 = .ok (.aload_n 0, 1) := by decide +kernel
theorem dX1_begin_22 : decode cX1_begin 22 = .ok (.iconst 1, 1) := by decide +kernel
theorem dX1_begin_23 : decode cX1_begin 23 = .ok (.putfield 25, 3) := by decide +kernel
theorem dX1_begin_26 : decode cX1_begin 26 = .ok (.aload_n 0, 1) := by decide +kernel
theorem dX1_begin_27 : decode cX1_begin 27 = .ok (.lconst 0, 1) := by decide +kernel
theorem dX1_begin_28 : decode cX1_begin 28 = .ok (.putfield 28, 3) := by decide +kernel
theorem dX1_begin_31 : decode cX1_begin 31 = .ok (.aload_n 0, 1) := by decide +kernel
theorem dX1_begin_32 : decode cX1_begin 32 = .ok (.lconst 0, 1) := by decide +kernel
theorem dX1_begin_33 : decode cX1_begin 33 = .ok (.putfield 31, 3) := by decide +kernel
theorem dX1_begin_36 : decode cX1_begin 36 = .ok (.aload_n 0, 1) := by decide +kernel
theorem dX1_begin_37 : decode cX1_begin 37 = .ok (.iconst 0, 1) := by decide +kernel
theorem dX1_begin_38 : decode cX1_begin 38 = .ok (.putfield 34, 3) := by decide +kernel
theorem dX1_begin_41 : decode cX1_begin 41 = .ok (.return_, 1) := by decide +kernel
theorem dX1_takeFrom_0 : decode cX1_takeFrom 0 = .ok (.aload_n 0, 1) := by decide +kernel
theorem dX1_takeFrom_1 : decode cX1_takeFrom 1 = .ok (.aload_n 1, 1) := by decide +kernel
theorem dX1_takeFrom_2 : decode cX1_takeFrom 2 = .ok (.getfield 9, 3) := by decide +kernel
theorem dX1_takeFrom_5 : decode cX1_takeFrom 5 = .ok (.aload_n 1, 1) := by decide +kernel
theorem dX1_takeFrom_6 : decode cX1_takeFrom 6 = .ok (.getfield 15, 3) := by decide +kernel
theorem dX1_takeFrom_9 : decode cX1_takeFrom 9 = .ok (.aload_n 1, 1) := by decide +kernel
theorem dX1_takeFrom_10 : decode cX1_takeFrom 10 = .ok (.getfield 19, 3) := by decide +kernel
theorem dX1_takeFrom_13 : decode cX1_takeFrom 13 = .ok (.invokevirtual 48, 3) := by decide +kernel
theorem dX1_takeFrom_16 : decode cX1_takeFrom 16 = .ok (.aload_n 0, 1) := by decide +kernel
theorem dX1_takeFrom_17 : decode cX1_takeFrom 17 = .ok (.aload_n 1, 1) := by decide +kernel
theorem dX1_takeFrom_18 : decode cX1_takeFrom 18 = .ok (.getfield 22, 3) := by decide +kernel
theorem dX1_takeFrom_21 : decode cX1_takeFrom 21 = .ok (.putfield 22, 3) := by decide +kernel
theorem dX1_takeFrom_24 : decode cX1_takeFrom 24 = .ok (.aload_n 0, 1) := by decide +kernel
theorem dX1_takeFrom_25 : decode cX1_takeFrom 25 = .ok (.aload_n 1, 1) := by decide +kernel
theorem dX1_takeFrom_26 : decode cX1_takeFrom 26 = .ok (.getfield 25, 3) := by decide +kernel
theorem dX1_takeFrom_29 : decode cX1_takeFrom 29 = .ok (.putfield 25, 3) := by decide +kernel
theorem dX1_takeFrom_32 : decode cX1_takeFrom 32 = .ok (.aload_n 0, 1) := by decide +kernel
theorem dX1_takeFrom_33 : decode cX1_takeFrom 33 = .ok (.aload_n 1, 1) := by decide +kernel
theorem dX1_takeFrom_34 : decode cX1_takeFrom 34 = .ok (.getfield 28, 3) := by decide +kernel
theorem dX1_takeFrom_37 : decode cX1_takeFrom 37 = .ok (.putfield 28, 3) := by decide +kernel
theorem dX1_takeFrom_40 : decode cX1_takeFrom 40 = .ok (.aload_n 0, 1) := by decide +kernel
theorem dX1_takeFrom_41 : decode cX1_takeFrom 41 = .ok (.aload_n 1, 1) := by decide +kernel
theorem dX1_takeFrom_42 : decode cX1_takeFrom 42 = .ok (.getfield 31, 3) := by decide +kernel
theorem dX1_takeFrom_45 : decode cX1_takeFrom 45 = .ok (.putfield 31, 3) := by decide +kernel
theorem dX1_takeFrom_48 : decode cX1_takeFrom 48 = .ok (.iconst 0, 1) := by decide +kernel
theorem dX1_takeFrom_49 : decode cX1_takeFrom 49 = .ok (.istore_n 2, 1) := by decide +kernel
theorem dX1_takeFrom_50 : decode cX1_takeFrom 50 = .ok (.iload_n 2, 1) := by decide +kernel
theorem dX1_takeFrom_51 : decode cX1_takeFrom 51 = .ok (.aload_n 1, 1) := by decide +kernel
theorem dX1_takeFrom_52 : decode cX1_takeFrom 52 = .ok (.getfield 34, 3) := by decide +kernel
theorem dX1_takeFrom_55 : decode cX1_takeFrom 55 = .ok (.if_icmp .ge 28, 3) := by decide +kernel
theorem dX1_takeFrom_58 : decode cX1_takeFrom 58 = .ok (.aload_n 0, 1) := by decide +kernel
theorem dX1_takeFrom_59 : decode cX1_takeFrom 59 = .ok (.aload_n 1, 1) := by decide +kernel
theorem dX1_takeFrom_60 : decode cX1_takeFrom 60 = .ok (.iload_n 2, 1) := by decide +kernel
theorem dX1_takeFrom_61 : decode cX1_takeFrom 61 = .ok (.invokevirtual 52, 3) := by decide +kernel
theorem dX1_takeFrom_64 : decode cX1_takeFrom 64 = .ok (.aload_n 1, 1) := by decide +kernel
theorem dX1_takeFrom_65 : decode cX1_takeFrom 65 = .ok (.iload_n 2, 1) := by decide +kernel
theorem dX1_takeFrom_66 : decode cX1_takeFrom 66 = .ok (.invokevirtual 56, 3) := by decide +kernel
theorem dX1_takeFrom_69 : decode cX1_takeFrom 69 = .ok (.aload_n 1, 1) := by decide +kernel
theorem dX1_takeFrom_70 : decode cX1_takeFrom 70 = .ok (.iload_n 2, 1) := by decide +kernel
theorem dX1_takeFrom_71 : decode cX1_takeFrom 71 = .ok (.invokevirtual 59, 3) := by decide +kernel
theorem dX1_takeFrom_74 : decode cX1_takeFrom 74 = .ok (.invokevirtual 63, 3) := by decide +kernel
theorem dX1_takeFrom_77 : decode cX1_takeFrom 77 = .ok (.iinc 2 1, 3) := by decide +kernel
theorem dX1_takeFrom_80 : decode cX1_takeFrom 80 = .ok (.goto (-30), 3) := by decide +kernel
theorem dX1_takeFrom_83 : decode cX1_takeFrom 83 = .ok (.return_, 1) := by decide +kernel
theorem dX1_isCopy_0 : decode cX1_isCopy 0 = .ok (.aload_n 0, 1) := by decide +kernel
theorem dX1_isCopy_1 : decode cX1_isCopy 1 = .ok (.getfield 9, 3) := by decide +kernel
theorem dX1_isCopy_4 : decode cX1_isCopy 4 = .ok (.iconst (-1), 1) := by decide +kernel
theorem dX1_isCopy_5 : decode cX1_isCopy 5 = .ok (.if_icmp .eq 7, 3) := by decide +kernel
theorem dX1_isCopy_8 : decode cX1_isCopy 8 = .ok (.iconst 1, 1) := by decide +kernel
theorem dX1_isCopy_9 : decode cX1_isCopy 9 = .ok (.goto 4, 3) := by decide +kernel
theorem dX1_isCopy_12 : decode cX1_isCopy 12 = .ok (.iconst 0, 1) := by decide +kernel
theorem dX1_isCopy_13 : decode cX1_isCopy 13 = .ok (.ireturn, 1) := by decide +kernel
theorem dX1_isFull_0 : decode cX1_isFull 0 = .ok (.aload_n 0, 1) := by decide +kernel
theorem dX1_isFull_1 : decode cX1_isFull 1 = .ok (.getfield 34, 3) := by decide +kernel
theorem dX1_isFull_4 : decode cX1_isFull 4 = .ok (.bipush 20, 2) := by decide +kernel
theorem dX1_isFull_6 : decode cX1_isFull 6 = .ok (.if_icmp .lt 7, 3) := by decide +kernel
theorem dX1_isFull_9 : decode cX1_isFull 9 = .ok (.iconst 1, 1) := by decide +kernel
theorem dX1_isFull_10 : decode cX1_isFull 10 = .ok (.goto 4, 3) := by decide +kernel
theorem dX1_isFull_13 : decode cX1_isFull 13 = .ok (.iconst 0, 1) := by decide +kernel
theorem dX1_isFull_14 : decode cX1_isFull 14 = .ok (.ireturn, 1) := by decide +kernel
theorem dX1_add_0 : decode cX1_add 0 = .ok (.aload_n 0, 1) := by decide +kernel
theorem dX1_add_1 : decode cX1_add 1 = .ok (.getfield 34, 3) := by decide +kernel
theorem dX1_add_4 : decode cX1_add 4 = .ok (.ifCond .lt 91, 3) := by decide +kernel
theorem dX1_add_7 : decode cX1_add 7 = .ok (.aload_n 0, 1) := by decide +kernel
theorem dX1_add_8 : decode cX1_add 8 = .ok (.getfield 34, 3) := by decide +kernel
theorem dX1_add_11 : decode cX1_add 11 = .ok (.aload_n 0, 1) := by decide +kernel
theorem dX1_add_12 : decode cX1_add 12 = .ok (.getfield 37, 3) := by decide +kernel
theorem dX1_add_15 : decode cX1_add 15 = .ok (.arraylength, 1) := by decide +kernel
theorem dX1_add_16 : decode cX1_add 16 = .ok (.if_icmp .ge 79, 3) := by decide +kernel
theorem dX1_add_19 : decode cX1_add 19 = .ok (.aload_n 0, 1) := by decide +kernel
theorem dX1_add_20 : decode cX1_add 20 = .ok (.getfield 34, 3) := by decide +kernel
theorem dX1_add_23 : decode cX1_add 23 = .ok (.aload_n 0, 1) := by decide +kernel
theorem dX1_add_24 : decode cX1_add 24 = .ok (.getfield 41, 3) := by decide +kernel
theorem dX1_add_27 : decode cX1_add 27 = .ok (.arraylength, 1) := by decide +kernel
theorem dX1_add_28 : decode cX1_add 28 = .ok (.if_icmp .ge 67, 3) := by decide +kernel
theorem dX1_add_31 : decode cX1_add 31 = .ok (.aload_n 0, 1) := by decide +kernel
theorem dX1_add_32 : decode cX1_add 32 = .ok (.getfield 34, 3) := by decide +kernel
theorem dX1_add_35 : decode cX1_add 35 = .ok (.aload_n 0, 1) := by decide +kernel
theorem dX1_add_36 : decode cX1_add 36 = .ok (.getfield 44, 3) := by decide +kernel
theorem dX1_add_39 : decode cX1_add 39 = .ok (.arraylength, 1) := by decide +kernel
theorem dX1_add_40 : decode cX1_add 40 = .ok (.if_icmp .ge 55, 3) := by decide +kernel
theorem dX1_add_43 : decode cX1_add 43 = .ok (.aload_n 0, 1) := by decide +kernel
theorem dX1_add_44 : decode cX1_add 44 = .ok (.getfield 37, 3) := by decide +kernel
theorem dX1_add_47 : decode cX1_add 47 = .ok (.aload_n 0, 1) := by decide +kernel
theorem dX1_add_48 : decode cX1_add 48 = .ok (.getfield 34, 3) := by decide +kernel
theorem dX1_add_51 : decode cX1_add 51 = .ok (.lload_n 1, 1) := by decide +kernel
theorem dX1_add_52 : decode cX1_add 52 = .ok (.lastore, 1) := by decide +kernel
theorem dX1_add_53 : decode cX1_add 53 = .ok (.aload_n 0, 1) := by decide +kernel
theorem dX1_add_54 : decode cX1_add 54 = .ok (.getfield 41, 3) := by decide +kernel
theorem dX1_add_57 : decode cX1_add 57 = .ok (.aload_n 0, 1) := by decide +kernel
theorem dX1_add_58 : decode cX1_add 58 = .ok (.getfield 34, 3) := by decide +kernel
theorem dX1_add_61 : decode cX1_add 61 = .ok (.lload_n 3, 1) := by decide +kernel
theorem dX1_add_62 : decode cX1_add 62 = .ok (.lastore, 1) := by decide +kernel
theorem dX1_add_63 : decode cX1_add 63 = .ok (.aload_n 0, 1) := by decide +kernel
theorem dX1_add_64 : decode cX1_add 64 = .ok (.getfield 44, 3) := by decide +kernel
theorem dX1_add_67 : decode cX1_add 67 = .ok (.aload_n 0, 1) := by decide +kernel
theorem dX1_add_68 : decode cX1_add 68 = .ok (.getfield 34, 3) := by decide +kernel
theorem dX1_add_71 : decode cX1_add 71 = .ok (.aload_n 0, 1) := by decide +kernel
theorem dX1_add_72 : decode cX1_add 72 = .ok (.getfield 34, 3) := by decide +kernel
theorem dX1_add_75 : decode cX1_add 75 = .ok (.ifCond .ne 7, 3) := by decide +kernel
theorem dX1_add_78 : decode cX1_add 78 = .ok (.iconst (-1), 1) := by decide +kernel
theorem dX1_add_79 : decode cX1_add 79 = .ok (.goto 5, 3) := by decide +kernel
theorem dX1_add_82 : decode cX1_add 82 = .ok (.iload 5, 2) := by decide +kernel
theorem dX1_add_84 : decode cX1_add 84 = .ok (.iastore, 1) := by decide +kernel
theorem dX1_add_85 : decode cX1_add 85 = .ok (.aload_n 0, 1) := by decide +kernel
theorem dX1_add_86 : decode cX1_add 86 = .ok (.dup, 1) := by decide +kernel
theorem dX1_add_87 : decode cX1_add 87 = .ok (.getfield 34, 3) := by decide +kernel
theorem dX1_add_90 : decode cX1_add 90 = .ok (.iconst 1, 1) := by decide +kernel
theorem dX1_add_91 : decode cX1_add 91 = .ok (.iadd, 1) := by decide +kernel
theorem dX1_add_92 : decode cX1_add 92 = .ok (.putfield 34, 3) := by decide +kernel
theorem dX1_add_95 : decode cX1_add 95 = .ok (.return_, 1) := by decide +kernel
theorem dX1_has_0 : decode cX1_has 0 = .ok (.iload_n 1, 1) := by decide +kernel
theorem dX1_has_1 : decode cX1_has 1 = .ok (.ifCond .lt 15, 3) := by decide +kernel
theorem dX1_has_4 : decode cX1_has 4 = .ok (.iload_n 1, 1) := by decide +kernel
theorem dX1_has_5 : decode cX1_has 5 = .ok (.aload_n 0, 1) := by decide +kernel
theorem dX1_has_6 : decode cX1_has 6 = .ok (.getfield 34, 3) := by decide +kernel
theorem dX1_has_9 : decode cX1_has 9 = .ok (.if_icmp .ge 7, 3) := by decide +kernel
theorem dX1_has_12 : decode cX1_has 12 = .ok (.iconst 1, 1) := by decide +kernel
theorem dX1_has_13 : decode cX1_has 13 = .ok (.goto 4, 3) := by decide +kernel
theorem dX1_has_16 : decode cX1_has 16 = .ok (.iconst 0, 1) := by decide +kernel
theorem dX1_has_17 : decode cX1_has 17 = .ok (.ireturn, 1) := by decide +kernel
theorem dX1_x_0 : decode cX1_x 0 = .ok (.aload_n 0, 1) := by decide +kernel
theorem dX1_x_1 : decode cX1_x 1 = .ok (.iload_n 1, 1) := by decide +kernel
theorem dX1_x_2 : decode cX1_x 2 = .ok (.invokevirtual 67, 3) := by decide +kernel
theorem dX1_x_5 : decode cX1_x 5 = .ok (.ifCond .eq 21, 3) := by decide +kernel
theorem dX1_x_8 : decode cX1_x 8 = .ok (.iload_n 1, 1) := by decide +kernel
theorem dX1_x_9 : decode cX1_x 9 = .ok (.aload_n 0, 1) := by decide +kernel
theorem dX1_x_10 : decode cX1_x 10 = .ok (.getfield 37, 3) := by decide +kernel
theorem dX1_x_13 : decode cX1_x 13 = .ok (.arraylength, 1) := by decide +kernel
theorem dX1_x_14 : decode cX1_x 14 = .ok (.if_icmp .ge 12, 3) := by decide +kernel
theorem dX1_x_17 : decode cX1_x 17 = .ok (.aload_n 0, 1) := by decide +kernel
theorem dX1_x_18 : decode cX1_x 18 = .ok (.getfield 37, 3) := by decide +kernel
theorem dX1_x_21 : decode cX1_x 21 = .ok (.iload_n 1, 1) := by decide +kernel
theorem dX1_x_22 : decode cX1_x 22 = .ok (.laload, 1) := by decide +kernel
theorem dX1_x_23 : decode cX1_x 23 = .ok (.goto 4, 3) := by decide +kernel
theorem dX1_x_26 : decode cX1_x 26 = .ok (.lconst 0, 1) := by decide +kernel
theorem dX1_x_27 : decode cX1_x 27 = .ok (.lreturn, 1) := by decide +kernel
theorem dX1_y_0 : decode cX1_y 0 = .ok (.aload_n 0, 1) := by decide +kernel
theorem dX1_y_1 : decode cX1_y 1 = .ok (.iload_n 1, 1) := by decide +kernel
theorem dX1_y_2 : decode cX1_y 2 = .ok (.invokevirtual 67, 3) := by decide +kernel
theorem dX1_y_5 : decode cX1_y 5 = .ok (.ifCond .eq 21, 3) := by decide +kernel
theorem dX1_y_8 : decode cX1_y 8 = .ok (.iload_n 1, 1) := by decide +kernel
theorem dX1_y_9 : decode cX1_y 9 = .ok (.aload_n 0, 1) := by decide +kernel
theorem dX1_y_10 : decode cX1_y 10 = .ok (.getfield 41, 3) := by decide +kernel
theorem dX1_y_13 : decode cX1_y 13 = .ok (.arraylength, 1) := by decide +kernel
theorem dX1_y_14 : decode cX1_y 14 = .ok (.if_icmp .ge 12, 3) := by decide +kernel
theorem dX1_y_17 : decode cX1_y 17 = .ok (.aload_n 0, 1) := by decide +kernel
theorem dX1_y_18 : decode cX1_y 18 = .ok (.getfield 41, 3) := by decide +kernel
theorem dX1_y_21 : decode cX1_y 21 = .ok (.iload_n 1, 1) := by decide +kernel
theorem dX1_y_22 : decode cX1_y 22 = .ok (.laload, 1) := by decide +kernel
theorem dX1_y_23 : decode cX1_y 23 = .ok (.goto 4, 3) := by decide +kernel
theorem dX1_y_26 : decode cX1_y 26 = .ok (.lconst 0, 1) := by decide +kernel
theorem dX1_y_27 : decode cX1_y 27 = .ok (.lreturn, 1) := by decide +kernel
theorem dX1_line_0 : decode cX1_line 0 = .ok (.aload_n 0, 1) := by decide +kernel
theorem dX1_line_1 : decode cX1_line 1 = .ok (.iload_n 1, 1) := by decide +kernel
theorem dX1_line_2 : decode cX1_line 2 = .ok (.invokevirtual 67, 3) := by decide +kernel
theorem dX1_line_5 : decode cX1_line 5 = .ok (.ifCond .eq 21, 3) := by decide +kernel
theorem dX1_line_8 : decode cX1_line 8 = .ok (.iload_n 1, 1) := by decide +kernel
theorem dX1_line_9 : decode cX1_line 9 = .ok (.aload_n 0, 1) := by decide +kernel
theorem dX1_line_10 : decode cX1_line 10 = .ok (.getfield 44, 3) := by decide +kernel
theorem dX1_line_13 : decode cX1_line 13 = .ok (.arraylength, 1) := by decide +kernel
theorem dX1_line_14 : decode cX1_line 14 = .ok (.if_icmp .ge 12, 3) := by decide +kernel
theorem dX1_line_17 : decode cX1_line 17 = .ok (.aload_n 0, 1) := by decide +kernel
theorem dX1_line_18 : decode cX1_line 18 = .ok (.getfield 44, 3) := by decide +kernel
theorem dX1_line_21 : decode cX1_line 21 = .ok (.iload_n 1, 1) := by decide +kernel
theorem dX1_line_22 : decode cX1_line 22 = .ok (.iaload, 1) := by decide +kernel
theorem dX1_line_23 : decode cX1_line 23 = .ok (.goto 4, 3) := by decide +kernel
theorem dX1_line_26 : decode cX1_line 26 = .ok (.iconst (-1), 1) := by decide +kernel
theorem dX1_line_27 : decode cX1_line 27 = .ok (.ireturn, 1) := by decide +kernel
theorem dX1_changeLine_0 : decode cX1_changeLine 0 = .ok (.aload_n 0, 1) := by decide +kernel
theorem dX1_changeLine_1 : decode cX1_changeLine 1 = .ok (.iload_n 1, 1) := by decide +kernel
theorem dX1_changeLine_2 : decode cX1_changeLine 2 = .ok (.invokevirtual 67, 3) := by decide +kernel
theorem dX1_changeLine_5 : decode cX1_changeLine 5 = .ok (.ifCond .eq 19, 3) := by decide +kernel
theorem dX1_changeLine_8 : decode cX1_changeLine 8 = .ok (.iload_n 1, 1) := by decide +kernel
theorem dX1_changeLine_9 : decode cX1_changeLine 9 = .ok (.aload_n 0, 1) := by decide +kernel
theorem dX1_changeLine_10 : decode cX1_changeLine 10 = .ok (.getfield 44, 3) := by decide +kernel
theorem dX1_changeLine_13 : decode cX1_changeLine 13 = .ok (.arraylength, 1) := by decide +kernel
theorem dX1_changeLine_14 : decode cX1_changeLine 14 = .ok (.if_icmp .ge 10, 3) := by decide +kernel
theorem dX1_changeLine_17 : decode cX1_changeLine 17 = .ok (.aload_n 0, 1) := by decide +kernel
theorem dX1_changeLine_18 : decode cX1_changeLine 18 = .ok (.getfield 44, 3) := by decide +kernel
theorem dX1_changeLine_21 : decode cX1_changeLine 21 = .ok (.iload_n 1, 1) := by decide +kernel
theorem dX1_changeLine_22 : decode cX1_changeLine 22 = .ok (.iload_n 2, 1) := by decide +kernel
theorem dX1_changeLine_23 : decode cX1_changeLine 23 = .ok (.iastore, 1) := by decide +kernel
theorem dX1_changeLine_24 : decode cX1_changeLine 24 = .ok (.return_, 1) := by decide +kernel
theorem dX1_isJoined_0 : decode cX1_isJoined 0 = .ok (.aload_n 0, 1) := by decide +kernel
theorem dX1_isJoined_1 : decode cX1_isJoined 1 = .ok (.iload_n 1, 1) := by decide +kernel
theorem dX1_isJoined_2 : decode cX1_isJoined 2 = .ok (.invokevirtual 59, 3) := by decide +kernel
theorem dX1_isJoined_5 : decode cX1_isJoined 5 = .ok (.iconst (-1), 1) := by decide +kernel
theorem dX1_isJoined_6 : decode cX1_isJoined 6 = .ok (.if_icmp .eq 7, 3) := by decide +kernel
theorem dX1_isJoined_9 : decode cX1_isJoined 9 = .ok (.iconst 1, 1) := by decide +kernel
theorem dX1_isJoined_10 : decode cX1_isJoined 10 = .ok (.goto 4, 3) := by decide +kernel
theorem dX1_isJoined_13 : decode cX1_isJoined 13 = .ok (.iconst 0, 1) := by decide +kernel
theorem dX1_isJoined_14 : decode cX1_isJoined 14 = .ok (.ireturn, 1) := by decide +kernel
theorem dX1_width_0 : decode cX1_width 0 = .ok (.aload_n 0, 1) := by decide +kernel
theorem dX1_width_1 : decode cX1_width 1 = .ok (.iload_n 1, 1) := by decide +kernel
theorem dX1_width_2 : decode cX1_width 2 = .ok (.invokevirtual 59, 3) := by decide +kernel
theorem dX1_width_5 : decode cX1_width 5 = .ok (.iconst 0, 1) := by decide +kernel
theorem dX1_width_6 : decode cX1_width 6 = .ok (.invokestatic 71, 3) := by decide +kernel
theorem dX1_width_9 : decode cX1_width 9 = .ok (.ireturn, 1) := by decide +kernel
theorem dX1_lineLength_0 : decode cX1_lineLength 0 = .ok (.aload_n 0, 1) := by decide +kernel
theorem dX1_lineLength_1 : decode cX1_lineLength 1 = .ok (.iload_n 1, 1) := by decide +kernel
theorem dX1_lineLength_2 : decode cX1_lineLength 2 = .ok (.invokevirtual 52, 3) := by decide +kernel
theorem dX1_lineLength_5 : decode cX1_lineLength 5 = .ok (.aload_n 0, 1) := by decide +kernel
theorem dX1_lineLength_6 : decode cX1_lineLength 6 = .ok (.iload_n 1, 1) := by decide +kernel
theorem dX1_lineLength_7 : decode cX1_lineLength 7 = .ok (.iconst 1, 1) := by decide +kernel
theorem dX1_lineLength_8 : decode cX1_lineLength 8 = .ok (.isub, 1) := by decide +kernel
theorem dX1_lineLength_9 : decode cX1_lineLength 9 = .ok (.invokevirtual 52, 3) := by decide +kernel
theorem dX1_lineLength_12 : decode cX1_lineLength 12 = .ok (.lsub, 1) := by decide +kernel
theorem dX1_lineLength_13 : decode cX1_lineLength 13 = .ok (.invokestatic 77, 3) := by decide +kernel
theorem dX1_lineLength_16 : decode cX1_lineLength 16 = .ok (.lstore_n 2, 1) := by decide +kernel
theorem dX1_lineLength_17 : decode cX1_lineLength 17 = .ok (.aload_n 0, 1) := by decide +kernel
theorem dX1_lineLength_18 : decode cX1_lineLength 18 = .ok (.iload_n 1, 1) := by decide +kernel
theorem dX1_lineLength_19 : decode cX1_lineLength 19 = .ok (.invokevirtual 56, 3) := by decide +kernel
theorem dX1_lineLength_22 : decode cX1_lineLength 22 = .ok (.aload_n 0, 1) := by decide +kernel
theorem dX1_lineLength_23 : decode cX1_lineLength 23 = .ok (.iload_n 1, 1) := by decide +kernel
theorem dX1_lineLength_24 : decode cX1_lineLength 24 = .ok (.iconst 1, 1) := by decide +kernel
theorem dX1_lineLength_25 : decode cX1_lineLength 25 = .ok (.isub, 1) := by decide +kernel
theorem dX1_lineLength_26 : decode cX1_lineLength 26 = .ok (.invokevirtual 56, 3) := by decide +kernel
theorem dX1_lineLength_29 : decode cX1_lineLength 29 = .ok (.lsub, 1) := by decide +kernel
theorem dX1_lineLength_30 : decode cX1_lineLength 30 = .ok (.invokestatic 77, 3) := by decide +kernel
theorem dX1_lineLength_33 : decode cX1_lineLength 33 = .ok (.lstore 4, 2) := by decide +kernel
theorem dX1_lineLength_35 : decode cX1_lineLength 35 = .ok (.lload_n 2, 1) := by decide +kernel
theorem dX1_lineLength_36 : decode cX1_lineLength 36 = .ok (.lload 4, 2) := by decide +kernel
theorem dX1_lineLength_38 : decode cX1_lineLength 38 = .ok (.ladd, 1) := by decide +kernel
theorem dX1_lineLength_39 : decode cX1_lineLength 39 = .ok (.aload_n 0, 1) := by decide +kernel
theorem dX1_lineLength_40 : decode cX1_lineLength 40 = .ok (.getfield 19, 3) := by decide +kernel
theorem dX1_lineLength_43 : decode cX1_lineLength 43 = .ok (.invokestatic 81, 3) := by decide +kernel
theorem dX1_lineLength_46 : decode cX1_lineLength 46 = .ok (.l2i, 1) := by decide +kernel
theorem dX1_lineLength_47 : decode cX1_lineLength 47 = .ok (.ireturn, 1) := by decide +kernel
theorem dX1_drawnLines_0 : decode cX1_drawnLines 0 = .ok (.iconst 0, 1) := by decide +kernel
theorem dX1_drawnLines_1 : decode cX1_drawnLines 1 = .ok (.istore_n 1, 1) := by decide +kernel
theorem dX1_drawnLines_2 : decode cX1_drawnLines 2 = .ok (.iconst 0, 1) := by decide +kernel
theorem dX1_drawnLines_3 : decode cX1_drawnLines 3 = .ok (.istore_n 2, 1) := by decide +kernel
theorem dX1_drawnLines_4 : decode cX1_drawnLines 4 = .ok (.iload_n 2, 1) := by decide +kernel
theorem dX1_drawnLines_5 : decode cX1_drawnLines 5 = .ok (.aload_n 0, 1) := by decide +kernel
theorem dX1_drawnLines_6 : decode cX1_drawnLines 6 = .ok (.getfield 34, 3) := by decide +kernel
theorem dX1_drawnLines_9 : decode cX1_drawnLines 9 = .ok (.if_icmp .ge 20, 3) := by decide +kernel
theorem dX1_drawnLines_12 : decode cX1_drawnLines 12 = .ok (.aload_n 0, 1) := by decide +kernel
theorem dX1_drawnLines_13 : decode cX1_drawnLines 13 = .ok (.iload_n 2, 1) := by decide +kernel
theorem dX1_drawnLines_14 : decode cX1_drawnLines 14 = .ok (.invokevirtual 85, 3) := by decide +kernel
theorem dX1_drawnLines_17 : decode cX1_drawnLines 17 = .ok (.ifCond .le 6, 3) := by decide +kernel
theorem dX1_drawnLines_20 : decode cX1_drawnLines 20 = .ok (.iinc 1 1, 3) := by decide +kernel
theorem dX1_drawnLines_23 : decode cX1_drawnLines 23 = .ok (.iinc 2 1, 3) := by decide +kernel
theorem dX1_drawnLines_26 : decode cX1_drawnLines 26 = .ok (.goto (-22), 3) := by decide +kernel
theorem dX1_drawnLines_29 : decode cX1_drawnLines 29 = .ok (.iload_n 1, 1) := by decide +kernel
theorem dX1_drawnLines_30 : decode cX1_drawnLines 30 = .ok (.ireturn, 1) := by decide +kernel
theorem dX1_drawnLength_0 : decode cX1_drawnLength 0 = .ok (.iconst 0, 1) := by decide +kernel
theorem dX1_drawnLength_1 : decode cX1_drawnLength 1 = .ok (.istore_n 1, 1) := by decide +kernel
theorem dX1_drawnLength_2 : decode cX1_drawnLength 2 = .ok (.iconst 0, 1) := by decide +kernel
theorem dX1_drawnLength_3 : decode cX1_drawnLength 3 = .ok (.istore_n 2, 1) := by decide +kernel
theorem dX1_drawnLength_4 : decode cX1_drawnLength 4 = .ok (.iload_n 2, 1) := by decide +kernel
theorem dX1_drawnLength_5 : decode cX1_drawnLength 5 = .ok (.aload_n 0, 1) := by decide +kernel
theorem dX1_drawnLength_6 : decode cX1_drawnLength 6 = .ok (.getfield 34, 3) := by decide +kernel
theorem dX1_drawnLength_9 : decode cX1_drawnLength 9 = .ok (.if_icmp .ge 25, 3) := by decide +kernel
theorem dX1_drawnLength_12 : decode cX1_drawnLength 12 = .ok (.aload_n 0, 1) := by decide +kernel
theorem dX1_drawnLength_13 : decode cX1_drawnLength 13 = .ok (.iload_n 2, 1) := by decide +kernel
theorem dX1_drawnLength_14 : decode cX1_drawnLength 14 = .ok (.invokevirtual 85, 3) := by decide +kernel
theorem dX1_drawnLength_17 : decode cX1_drawnLength 17 = .ok (.ifCond .le 11, 3) := by decide +kernel
theorem dX1_drawnLength_20 : decode cX1_drawnLength 20 = .ok (.iload_n 1, 1) := by decide +kernel
theorem dX1_drawnLength_21 : decode cX1_drawnLength 21 = .ok (.aload_n 0, 1) := by decide +kernel
theorem dX1_drawnLength_22 : decode cX1_drawnLength 22 = .ok (.iload_n 2, 1) := by decide +kernel
theorem dX1_drawnLength_23 : decode cX1_drawnLength 23 = .ok (.invokevirtual 88, 3) := by decide +kernel
theorem dX1_drawnLength_26 : decode cX1_drawnLength 26 = .ok (.iadd, 1) := by decide +kernel
theorem dX1_drawnLength_27 : decode cX1_drawnLength 27 = .ok (.istore_n 1, 1) := by decide +kernel
theorem dX1_drawnLength_28 : decode cX1_drawnLength 28 = .ok (.iinc 2 1, 3) := by decide +kernel
theorem dX1_drawnLength_31 : decode cX1_drawnLength 31 = .ok (.goto (-27), 3) := by decide +kernel
theorem dX1_drawnLength_34 : decode cX1_drawnLength 34 = .ok (.iload_n 1, 1) := by decide +kernel
theorem dX1_drawnLength_35 : decode cX1_drawnLength 35 = .ok (.ireturn, 1) := by decide +kernel
theorem dX1_greatestWidth_0 : decode cX1_greatestWidth 0 = .ok (.iconst 0, 1) := by decide +kernel
theorem dX1_greatestWidth_1 : decode cX1_greatestWidth 1 = .ok (.istore_n 1, 1) := by decide +kernel
theorem dX1_greatestWidth_2 : decode cX1_greatestWidth 2 = .ok (.iconst 0, 1) := by decide +kernel
theorem dX1_greatestWidth_3 : decode cX1_greatestWidth 3 = .ok (.istore_n 2, 1) := by decide +kernel
theorem dX1_greatestWidth_4 : decode cX1_greatestWidth 4 = .ok (.iload_n 2, 1) := by decide +kernel
theorem dX1_greatestWidth_5 : decode cX1_greatestWidth 5 = .ok (.aload_n 0, 1) := by decide +kernel
theorem dX1_greatestWidth_6 : decode cX1_greatestWidth 6 = .ok (.getfield 34, 3) := by decide +kernel
theorem dX1_greatestWidth_9 : decode cX1_greatestWidth 9 = .ok (.if_icmp .ge 19, 3) := by decide +kernel
theorem dX1_greatestWidth_12 : decode cX1_greatestWidth 12 = .ok (.iload_n 1, 1) := by decide +kernel
theorem dX1_greatestWidth_13 : decode cX1_greatestWidth 13 = .ok (.aload_n 0, 1) := by decide +kernel
theorem dX1_greatestWidth_14 : decode cX1_greatestWidth 14 = .ok (.iload_n 2, 1) := by decide +kernel
theorem dX1_greatestWidth_15 : decode cX1_greatestWidth 15 = .ok (.invokevirtual 85, 3) := by decide +kernel
theorem dX1_greatestWidth_18 : decode cX1_greatestWidth 18 = .ok (.invokestatic 71, 3) := by decide +kernel
theorem dX1_greatestWidth_21 : decode cX1_greatestWidth 21 = .ok (.istore_n 1, 1) := by decide +kernel
theorem dX1_greatestWidth_22 : decode cX1_greatestWidth 22 = .ok (.iinc 2 1, 3) := by decide +kernel
theorem dX1_greatestWidth_25 : decode cX1_greatestWidth 25 = .ok (.goto (-21), 3) := by decide +kernel
theorem dX1_greatestWidth_28 : decode cX1_greatestWidth 28 = .ok (.iload_n 1, 1) := by decide +kernel
theorem dX1_greatestWidth_29 : decode cX1_greatestWidth 29 = .ok (.ireturn, 1) := by decide +kernel
theorem dX1_ratioAsFloat_0 : decode cX1_ratioAsFloat 0 = .ok (.aload_n 0, 1) := by decide +kernel
theorem dX1_ratioAsFloat_1 : decode cX1_ratioAsFloat 1 = .ok (.getfield 15, 3) := by decide +kernel
theorem dX1_ratioAsFloat_4 : decode cX1_ratioAsFloat 4 = .ok (.aload_n 0, 1) := by decide +kernel
theorem dX1_ratioAsFloat_5 : decode cX1_ratioAsFloat 5 = .ok (.getfield 19, 3) := by decide +kernel
theorem dX1_ratioAsFloat_8 : decode cX1_ratioAsFloat 8 = .ok (.iconst 0, 1) := by decide +kernel
theorem dX1_ratioAsFloat_9 : decode cX1_ratioAsFloat 9 = .ok (.invokestatic 91, 3) := by decide +kernel
theorem dX1_ratioAsFloat_12 : decode cX1_ratioAsFloat 12 = .ok (.lstore_n 1, 1) := by decide +kernel
theorem dX1_ratioAsFloat_13 : decode cX1_ratioAsFloat 13 = .ok (.aload_n 0, 1) := by decide +kernel
theorem dX1_ratioAsFloat_14 : decode cX1_ratioAsFloat 14 = .ok (.getfield 15, 3) := by decide +kernel
theorem dX1_ratioAsFloat_17 : decode cX1_ratioAsFloat 17 = .ok (.aload_n 0, 1) := by decide +kernel
theorem dX1_ratioAsFloat_18 : decode cX1_ratioAsFloat 18 = .ok (.getfield 19, 3) := by decide +kernel
theorem dX1_ratioAsFloat_21 : decode cX1_ratioAsFloat 21 = .ok (.iconst 1, 1) := by decide +kernel
theorem dX1_ratioAsFloat_22 : decode cX1_ratioAsFloat 22 = .ok (.invokestatic 91, 3) := by decide +kernel
theorem dX1_ratioAsFloat_25 : decode cX1_ratioAsFloat 25 = .ok (.lstore_n 3, 1) := by decide +kernel
theorem dX1_ratioAsFloat_26 : decode cX1_ratioAsFloat 26 = .ok (.lload_n 3, 1) := by decide +kernel
theorem dX1_ratioAsFloat_27 : decode cX1_ratioAsFloat 27 = .ok (.lconst 0, 1) := by decide +kernel
theorem dX1_ratioAsFloat_28 : decode cX1_ratioAsFloat 28 = .ok (.lcmp, 1) := by decide +kernel
theorem dX1_ratioAsFloat_29 : decode cX1_ratioAsFloat 29 = .ok (.ifCond .le 11, 3) := by decide +kernel
theorem dX1_ratioAsFloat_32 : decode cX1_ratioAsFloat 32 = .ok (.lload_n 1, 1) := by decide +kernel
theorem dX1_ratioAsFloat_33 : decode cX1_ratioAsFloat 33 = .ok (.l2f, 1) := by decide +kernel
theorem dX1_ratioAsFloat_34 : decode cX1_ratioAsFloat 34 = .ok (.lload_n 3, 1) := by decide +kernel
theorem dX1_ratioAsFloat_35 : decode cX1_ratioAsFloat 35 = .ok (.l2f, 1) := by decide +kernel
theorem dX1_ratioAsFloat_36 : decode cX1_ratioAsFloat 36 = .ok (.fdiv, 1) := by decide +kernel
theorem dX1_ratioAsFloat_37 : decode cX1_ratioAsFloat 37 = .ok (.goto 4, 3) := by decide +kernel
theorem dX1_ratioAsFloat_40 : decode cX1_ratioAsFloat 40 = .ok (.fconst 1, 1) := by decide +kernel
theorem dX1_ratioAsFloat_41 : decode cX1_ratioAsFloat 41 = .ok (.freturn, 1) := by decide +kernel
theorem dX1_xAtOnce_0 : decode cX1_xAtOnce 0 = .ok (.aload_n 0, 1) := by decide +kernel
theorem dX1_xAtOnce_1 : decode cX1_xAtOnce 1 = .ok (.getfield 15, 3) := by decide +kernel
theorem dX1_xAtOnce_4 : decode cX1_xAtOnce 4 = .ok (.aload_n 0, 1) := by decide +kernel
theorem dX1_xAtOnce_5 : decode cX1_xAtOnce 5 = .ok (.getfield 22, 3) := by decide +kernel
theorem dX1_xAtOnce_8 : decode cX1_xAtOnce 8 = .ok (.i2l, 1) := by decide +kernel
theorem dX1_xAtOnce_9 : decode cX1_xAtOnce 9 = .ok (.lmul, 1) := by decide +kernel
theorem dX1_xAtOnce_10 : decode cX1_xAtOnce 10 = .ok (.lload_n 1, 1) := by decide +kernel
theorem dX1_xAtOnce_11 : decode cX1_xAtOnce 11 = .ok (.lmul, 1) := by decide +kernel
theorem dX1_xAtOnce_12 : decode cX1_xAtOnce 12 = .ok (.aload_n 0, 1) := by decide +kernel
theorem dX1_xAtOnce_13 : decode cX1_xAtOnce 13 = .ok (.getfield 28, 3) := by decide +kernel
theorem dX1_xAtOnce_16 : decode cX1_xAtOnce 16 = .ok (.ladd, 1) := by decide +kernel
theorem dX1_xAtOnce_17 : decode cX1_xAtOnce 17 = .ok (.lreturn, 1) := by decide +kernel
theorem dX1_yAtOnce_0 : decode cX1_yAtOnce 0 = .ok (.aload_n 0, 1) := by decide +kernel
theorem dX1_yAtOnce_1 : decode cX1_yAtOnce 1 = .ok (.getfield 15, 3) := by decide +kernel
theorem dX1_yAtOnce_4 : decode cX1_yAtOnce 4 = .ok (.aload_n 0, 1) := by decide +kernel
theorem dX1_yAtOnce_5 : decode cX1_yAtOnce 5 = .ok (.getfield 25, 3) := by decide +kernel
theorem dX1_yAtOnce_8 : decode cX1_yAtOnce 8 = .ok (.i2l, 1) := by decide +kernel
theorem dX1_yAtOnce_9 : decode cX1_yAtOnce 9 = .ok (.lmul, 1) := by decide +kernel
theorem dX1_yAtOnce_10 : decode cX1_yAtOnce 10 = .ok (.lload_n 1, 1) := by decide +kernel
theorem dX1_yAtOnce_11 : decode cX1_yAtOnce 11 = .ok (.lmul, 1) := by decide +kernel
theorem dX1_yAtOnce_12 : decode cX1_yAtOnce 12 = .ok (.aload_n 0, 1) := by decide +kernel
theorem dX1_yAtOnce_13 : decode cX1_yAtOnce 13 = .ok (.getfield 31, 3) := by decide +kernel
theorem dX1_yAtOnce_16 : decode cX1_yAtOnce 16 = .ok (.ladd, 1) := by decide +kernel
theorem dX1_yAtOnce_17 : decode cX1_yAtOnce 17 = .ok (.lreturn, 1) := by decide +kernel
theorem dX1_isTooFine_0 : decode cX1_isTooFine 0 = .ok (.aload_n 0, 1) := by decide +kernel
theorem dX1_isTooFine_1 : decode cX1_isTooFine 1 = .ok (.getfield 15, 3) := by decide +kernel
theorem dX1_isTooFine_4 : decode cX1_isTooFine 4 = .ok (.aload_n 0, 1) := by decide +kernel
theorem dX1_isTooFine_5 : decode cX1_isTooFine 5 = .ok (.getfield 19, 3) := by decide +kernel
theorem dX1_isTooFine_8 : decode cX1_isTooFine 8 = .ok (.iconst 0, 1) := by decide +kernel
theorem dX1_isTooFine_9 : decode cX1_isTooFine 9 = .ok (.invokestatic 91, 3) := by decide +kernel
theorem dX1_isTooFine_12 : decode cX1_isTooFine 12 = .ok (.ldc2_w 95, 3) := by decide +kernel
theorem dX1_isTooFine_15 : decode cX1_isTooFine 15 = .ok (.lcmp, 1) := by decide +kernel
theorem dX1_isTooFine_16 : decode cX1_isTooFine 16 = .ok (.ifCond .gt 22, 3) := by decide +kernel
theorem dX1_isTooFine_19 : decode cX1_isTooFine 19 = .ok (.aload_n 0, 1) := by decide +kernel
theorem dX1_isTooFine_20 : decode cX1_isTooFine 20 = .ok (.getfield 15, 3) := by decide +kernel
theorem dX1_isTooFine_23 : decode cX1_isTooFine 23 = .ok (.aload_n 0, 1) := by decide +kernel
theorem dX1_isTooFine_24 : decode cX1_isTooFine 24 = .ok (.getfield 19, 3) := by decide +kernel
theorem dX1_isTooFine_27 : decode cX1_isTooFine 27 = .ok (.iconst 1, 1) := by decide +kernel
theorem dX1_isTooFine_28 : decode cX1_isTooFine 28 = .ok (.invokestatic 91, 3) := by decide +kernel
theorem dX1_isTooFine_31 : decode cX1_isTooFine 31 = .ok (.ldc2_w 95, 3) := by decide +kernel
theorem dX1_isTooFine_34 : decode cX1_isTooFine 34 = .ok (.lcmp, 1) := by decide +kernel
theorem dX1_isTooFine_35 : decode cX1_isTooFine 35 = .ok (.ifCond .le 5, 3) := by decide +kernel
theorem dX1_isTooFine_38 : decode cX1_isTooFine 38 = .ok (.iconst 1, 1) := by decide +kernel
theorem dX1_isTooFine_39 : decode cX1_isTooFine 39 = .ok (.ireturn, 1) := by decide +kernel
theorem dX1_isTooFine_40 : decode cX1_isTooFine 40 = .ok (.iconst 0, 1) := by decide +kernel
theorem dX1_isTooFine_41 : decode cX1_isTooFine 41 = .ok (.istore_n 1, 1) := by decide +kernel
theorem dX1_isTooFine_42 : decode cX1_isTooFine 42 = .ok (.iload_n 1, 1) := by decide +kernel
theorem dX1_isTooFine_43 : decode cX1_isTooFine 43 = .ok (.aload_n 0, 1) := by decide +kernel
theorem dX1_isTooFine_44 : decode cX1_isTooFine 44 = .ok (.getfield 34, 3) := by decide +kernel
theorem dX1_isTooFine_47 : decode cX1_isTooFine 47 = .ok (.if_icmp .ge 51, 3) := by decide +kernel
theorem dX1_isTooFine_50 : decode cX1_isTooFine 50 = .ok (.aload_n 0, 1) := by decide +kernel
theorem dX1_isTooFine_51 : decode cX1_isTooFine 51 = .ok (.iload_n 1, 1) := by decide +kernel
theorem dX1_isTooFine_52 : decode cX1_isTooFine 52 = .ok (.invokevirtual 52, 3) := by decide +kernel
theorem dX1_isTooFine_55 : decode cX1_isTooFine 55 = .ok (.aload_n 0, 1) := by decide +kernel
theorem dX1_isTooFine_56 : decode cX1_isTooFine 56 = .ok (.getfield 19, 3) := by decide +kernel
theorem dX1_isTooFine_59 : decode cX1_isTooFine 59 = .ok (.iconst 1, 1) := by decide +kernel
theorem dX1_isTooFine_60 : decode cX1_isTooFine 60 = .ok (.invokestatic 91, 3) := by decide +kernel
theorem dX1_isTooFine_63 : decode cX1_isTooFine 63 = .ok (.ldc2_w 95, 3) := by decide +kernel
theorem dX1_isTooFine_66 : decode cX1_isTooFine 66 = .ok (.lcmp, 1) := by decide +kernel
theorem dX1_isTooFine_67 : decode cX1_isTooFine 67 = .ok (.ifCond .gt 23, 3) := by decide +kernel
theorem dX1_isTooFine_70 : decode cX1_isTooFine 70 = .ok (.aload_n 0, 1) := by decide +kernel
theorem dX1_isTooFine_71 : decode cX1_isTooFine 71 = .ok (.iload_n 1, 1) := by decide +kernel
theorem dX1_isTooFine_72 : decode cX1_isTooFine 72 = .ok (.invokevirtual 56, 3) := by decide +kernel
theorem dX1_isTooFine_75 : decode cX1_isTooFine 75 = .ok (.aload_n 0, 1) := by decide +kernel
theorem dX1_isTooFine_76 : decode cX1_isTooFine 76 = .ok (.getfield 19, 3) := by decide +kernel
theorem dX1_isTooFine_79 : decode cX1_isTooFine 79 = .ok (.iconst 1, 1) := by decide +kernel
theorem dX1_isTooFine_80 : decode cX1_isTooFine 80 = .ok (.invokestatic 91, 3) := by decide +kernel
theorem dX1_isTooFine_83 : decode cX1_isTooFine 83 = .ok (.ldc2_w 95, 3) := by decide +kernel
theorem dX1_isTooFine_86 : decode cX1_isTooFine 86 = .ok (.lcmp, 1) := by decide +kernel
theorem dX1_isTooFine_87 : decode cX1_isTooFine 87 = .ok (.ifCond .le 5, 3) := by decide +kernel
theorem dX1_isTooFine_90 : decode cX1_isTooFine 90 = .ok (.iconst 1, 1) := by decide +kernel
theorem dX1_isTooFine_91 : decode cX1_isTooFine 91 = .ok (.ireturn, 1) := by decide +kernel
theorem dX1_isTooFine_92 : decode cX1_isTooFine 92 = .ok (.iinc 1 1, 3) := by decide +kernel
theorem dX1_isTooFine_95 : decode cX1_isTooFine 95 = .ok (.goto (-53), 3) := by decide +kernel
theorem dX1_isTooFine_98 : decode cX1_isTooFine 98 = .ok (.iconst 0, 1) := by decide +kernel
theorem dX1_isTooFine_99 : decode cX1_isTooFine 99 = .ok (.ireturn, 1) := by decide +kernel
