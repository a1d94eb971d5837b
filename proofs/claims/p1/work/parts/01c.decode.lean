theorem dX0_init_0 : decode cX0_init 0 = .ok (.aload_n 0, 1) := by decide +kernel
theorem dX0_init_1 : decode cX0_init 1 = .ok (.invokespecial 3, 3) := by decide +kernel
theorem dX0_init_4 : decode cX0_init 4 = .ok (.aload_n 0, 1) := by decide +kernel
theorem dX0_init_5 : decode cX0_init 5 = .ok (.new 9, 3) := by decide +kernel
theorem dX0_init_8 : decode cX0_init 8 = .ok (.dup, 1) := by decide +kernel
theorem dX0_init_9 : decode cX0_init 9 = .ok (.bipush 20, 2) := by decide +kernel
theorem dX0_init_11 : decode cX0_init 11 = .ok (.invokespecial 11, 3) := by decide +kernel
theorem dX0_init_14 : decode cX0_init 14 = .ok (.putfield 14, 3) := by decide +kernel
theorem dX0_init_17 : decode cX0_init 17 = .ok (.aload_n 0, 1) := by decide +kernel
theorem dX0_init_18 : decode cX0_init 18 = .ok (.new 9, 3) := by decide +kernel
theorem dX0_init_21 : decode cX0_init 21 = .ok (.dup, 1) := by decide +kernel
theorem dX0_init_22 : decode cX0_init 22 = .ok (.bipush 20, 2) := by decide +kernel
theorem dX0_init_24 : decode cX0_init 24 = .ok (.invokespecial 11, 3) := by decide +kernel
theorem dX0_init_27 : decode cX0_init 27 = .ok (.putfield 20, 3) := by decide +kernel
theorem dX0_init_30 : decode cX0_init 30 = .ok (.aload_n 0, 1) := by decide +kernel
theorem dX0_init_31 : decode cX0_init 31 = .ok (.new 9, 3) := by decide +kernel
theorem dX0_init_34 : decode cX0_init 34 = .ok (.dup, 1) := by decide +kernel
theorem dX0_init_35 : decode cX0_init 35 = .ok (.bipush 40, 2) := by decide +kernel
theorem dX0_init_37 : decode cX0_init 37 = .ok (.invokespecial 11, 3) := by decide +kernel
theorem dX0_init_40 : decode cX0_init 40 = .ok (.putfield 23, 3) := by decide +kernel
theorem dX0_init_43 : decode cX0_init 43 = .ok (.aload_n 0, 1) := by decide +kernel
theorem dX0_init_44 : decode cX0_init 44 = .ok (.new 26, 3) := by decide +kernel
theorem dX0_init_47 : decode cX0_init 47 = .ok (.dup, 1) := by decide +kernel
theorem dX0_init_48 : decode cX0_init 48 = .ok (.bipush 20, 2) := by decide +kernel
theorem dX0_init_50 : decode cX0_init 50 = .ok (.invokespecial 28, 3) := by decide +kernel
theorem dX0_init_53 : decode cX0_init 53 = .ok (.putfield 29, 3) := by decide +kernel
theorem dX0_init_56 : decode cX0_init 56 = .ok (.aload_n 0, 1) := by decide +kernel
theorem dX0_init_57 : decode cX0_init 57 = .ok (.new 9, 3) := by decide +kernel
theorem dX0_init_60 : decode cX0_init 60 = .ok (.dup, 1) := by decide +kernel
theorem dX0_init_61 : decode cX0_init 61 = .ok (.iconst 5, 1) := by decide +kernel
theorem dX0_init_62 : decode cX0_init 62 = .ok (.invokespecial 11, 3) := by decide +kernel
theorem dX0_init_65 : decode cX0_init 65 = .ok (.putfield 33, 3) := by decide +kernel
theorem dX0_init_68 : decode cX0_init 68 = .ok (.aload_n 0, 1) := by decide +kernel
theorem dX0_init_69 : decode cX0_init 69 = .ok (.iconst (-1), 1) := by decide +kernel
theorem dX0_init_70 : decode cX0_init 70 = .ok (.putfield 36, 3) := by decide +kernel
theorem dX0_init_73 : decode cX0_init 73 = .ok (.aload_n 0, 1) := by decide +kernel
theorem dX0_init_74 : decode cX0_init 74 = .ok (.iconst (-1), 1) := by decide +kernel
theorem dX0_init_75 : decode cX0_init 75 = .ok (.putfield 40, 3) := by decide +kernel
theorem dX0_init_78 : decode cX0_init 78 = .ok (.aload_n 0, 1) := by decide +kernel
theorem dX0_init_79 : decode cX0_init 79 = .ok (.iconst 0, 1) := by decide +kernel
theorem dX0_init_80 : decode cX0_init 80 = .ok (.putfield 43, 3) := by decide +kernel
theorem dX0_init_83 : decode cX0_init 83 = .ok (.aload_n 0, 1) := by decide +kernel
theorem dX0_init_84 : decode cX0_init 84 = .ok (.iconst 0, 1) := by decide +kernel
theorem dX0_init_85 : decode cX0_init 85 = .ok (.putfield 46, 3) := by decide +kernel
theorem dX0_init_88 : decode cX0_init 88 = .ok (.aload_n 0, 1) := by decide +kernel
theorem dX0_init_89 : decode cX0_init 89 = .ok (.iconst 0, 1) := by decide +kernel
theorem dX0_init_90 : decode cX0_init 90 = .ok (.putfield 49, 3) := by decide +kernel
theorem dX0_init_93 : decode cX0_init 93 = .ok (.aload_n 0, 1) := by decide +kernel
theorem dX0_init_94 : decode cX0_init 94 = .ok (.iload_n 1, 1) := by decide +kernel
theorem dX0_init_95 : decode cX0_init 95 = .ok (.putfield 52, 3) := by decide +kernel
theorem dX0_init_98 : decode cX0_init 98 = .ok (.aload_n 0, 1) := by decide +kernel
theorem dX0_init_99 : decode cX0_init 99 = .ok (.iload_n 2, 1) := by decide +kernel
theorem dX0_init_100 : decode cX0_init 100 = .ok (.putfield 55, 3) := by decide +kernel
theorem dX0_init_103 : decode cX0_init 103 = .ok (.return_, 1) := by decide +kernel
theorem dX1_init_0 : decode cX1_init 0 = .ok (.aload_n 0, 1) := by decide +kernel
theorem dX1_init_1 : decode cX1_init 1 = .ok (.invokespecial 1, 3) := by decide +kernel
theorem dX1_init_4 : decode cX1_init 4 = .ok (.aload_n 0, 1) := by decide +kernel
theorem dX1_init_5 : decode cX1_init 5 = .ok (.iconst 0, 1) := by decide +kernel
theorem dX1_init_6 : decode cX1_init 6 = .ok (.newarray .int, 2) := by decide +kernel
theorem dX1_init_8 : decode cX1_init 8 = .ok (.putfield 7, 3) := by decide +kernel
theorem dX1_init_11 : decode cX1_init 11 = .ok (.aload_n 0, 1) := by decide +kernel
theorem dX1_init_12 : decode cX1_init 12 = .ok (.iconst 0, 1) := by decide +kernel
theorem dX1_init_13 : decode cX1_init 13 = .ok (.putfield 13, 3) := by decide +kernel
theorem dX1_init_16 : decode cX1_init 16 = .ok (.aload_n 0, 1) := by decide +kernel
theorem dX1_init_17 : decode cX1_init 17 = .ok (.iload_n 1, 1) := by decide +kernel
theorem dX1_init_18 : decode cX1_init 18 = .ok (.putfield 17, 3) := by decide +kernel
theorem dX1_init_21 : decode cX1_init 21 = .ok (.return_, 1) := by decide +kernel
theorem dX1_size_0 : decode cX1_size 0 = .ok (.aload_n 0, 1) := by decide +kernel
theorem dX1_size_1 : decode cX1_size 1 = .ok (.getfield 13, 3) := by decide +kernel
theorem dX1_size_4 : decode cX1_size 4 = .ok (.ireturn, 1) := by decide +kernel
theorem dX1_isFull_0 : decode cX1_isFull 0 = .ok (.aload_n 0, 1) := by decide +kernel
theorem dX1_isFull_1 : decode cX1_isFull 1 = .ok (.getfield 13, 3) := by decide +kernel
theorem dX1_isFull_4 : decode cX1_isFull 4 = .ok (.aload_n 0, 1) := by decide +kernel
theorem dX1_isFull_5 : decode cX1_isFull 5 = .ok (.getfield 17, 3) := by decide +kernel
theorem dX1_isFull_8 : decode cX1_isFull 8 = .ok (.if_icmp .lt 7, 3) := by decide +kernel
theorem dX1_isFull_11 : decode cX1_isFull 11 = .ok (.iconst 1, 1) := by decide +kernel
theorem dX1_isFull_12 : decode cX1_isFull 12 = .ok (.goto 4, 3) := by decide +kernel
theorem dX1_isFull_15 : decode cX1_isFull 15 = .ok (.iconst 0, 1) := by decide +kernel
theorem dX1_isFull_16 : decode cX1_isFull 16 = .ok (.ireturn, 1) := by decide +kernel
theorem dX1_clear_0 : decode cX1_clear 0 = .ok (.aload_n 0, 1) := by decide +kernel
theorem dX1_clear_1 : decode cX1_clear 1 = .ok (.iconst 0, 1) := by decide +kernel
theorem dX1_clear_2 : decode cX1_clear 2 = .ok (.putfield 13, 3) := by decide +kernel
theorem dX1_clear_5 : decode cX1_clear 5 = .ok (.return_, 1) := by decide +kernel
theorem dX1_add_0 : decode cX1_add 0 = .ok (.aload_n 0, 1) := by decide +kernel
theorem dX1_add_1 : decode cX1_add 1 = .ok (.getfield 13, 3) := by decide +kernel
theorem dX1_add_4 : decode cX1_add 4 = .ok (.ifCond .lt 14, 3) := by decide +kernel
theorem dX1_add_7 : decode cX1_add 7 = .ok (.aload_n 0, 1) := by decide +kernel
theorem dX1_add_8 : decode cX1_add 8 = .ok (.getfield 13, 3) := by decide +kernel
theorem dX1_add_11 : decode cX1_add 11 = .ok (.aload_n 0, 1) := by decide +kernel
theorem dX1_add_12 : decode cX1_add 12 = .ok (.getfield 17, 3) := by decide +kernel
theorem dX1_add_15 : decode cX1_add 15 = .ok (.if_icmp .lt 4, 3) := by decide +kernel
theorem dX1_add_18 : decode cX1_add 18 = .ok (.return_, 1) := by decide +kernel
theorem dX1_add_19 : decode cX1_add 19 = .ok (.aload_n 0, 1) := by decide +kernel
theorem dX1_add_20 : decode cX1_add 20 = .ok (.getfield 13, 3) := by decide +kernel
theorem dX1_add_23 : decode cX1_add 23 = .ok (.aload_n 0, 1) := by decide +kernel
theorem dX1_add_24 : decode cX1_add 24 = .ok (.getfield 7, 3) := by decide +kernel
theorem dX1_add_27 : decode cX1_add 27 = .ok (.arraylength, 1) := by decide +kernel
theorem dX1_add_28 : decode cX1_add 28 = .ok (.if_icmp .lt 29, 3) := by decide +kernel
theorem dX1_add_31 : decode cX1_add 31 = .ok (.aload_n 0, 1) := by decide +kernel
theorem dX1_add_32 : decode cX1_add 32 = .ok (.aload_n 0, 1) := by decide +kernel
theorem dX1_add_33 : decode cX1_add 33 = .ok (.getfield 7, 3) := by decide +kernel
theorem dX1_add_36 : decode cX1_add 36 = .ok (.aload_n 0, 1) := by decide +kernel
theorem dX1_add_37 : decode cX1_add 37 = .ok (.getfield 17, 3) := by decide +kernel
theorem dX1_add_40 : decode cX1_add 40 = .ok (.iconst 2, 1) := by decide +kernel
theorem dX1_add_41 : decode cX1_add 41 = .ok (.aload_n 0, 1) := by decide +kernel
theorem dX1_add_42 : decode cX1_add 42 = .ok (.getfield 13, 3) := by decide +kernel
theorem dX1_add_45 : decode cX1_add 45 = .ok (.imul, 1) := by decide +kernel
theorem dX1_add_46 : decode cX1_add 46 = .ok (.iconst 4, 1) := by decide +kernel
theorem dX1_add_47 : decode cX1_add 47 = .ok (.iadd, 1) := by decide +kernel
theorem dX1_add_48 : decode cX1_add 48 = .ok (.invokestatic 28, 3) := by decide +kernel
theorem dX1_add_51 : decode cX1_add 51 = .ok (.invokestatic 34, 3) := by decide +kernel
theorem dX1_add_54 : decode cX1_add 54 = .ok (.putfield 7, 3) := by decide +kernel
theorem dX1_add_57 : decode cX1_add 57 = .ok (.aload_n 0, 1) := by decide +kernel
theorem dX1_add_58 : decode cX1_add 58 = .ok (.getfield 13, 3) := by decide +kernel
theorem dX1_add_61 : decode cX1_add 61 = .ok (.aload_n 0, 1) := by decide +kernel
theorem dX1_add_62 : decode cX1_add 62 = .ok (.getfield 7, 3) := by decide +kernel
theorem dX1_add_65 : decode cX1_add 65 = .ok (.arraylength, 1) := by decide +kernel
theorem dX1_add_66 : decode cX1_add 66 = .ok (.if_icmp .ge 23, 3) := by decide +kernel
theorem dX1_add_69 : decode cX1_add 69 = .ok (.aload_n 0, 1) := by decide +kernel
theorem dX1_add_70 : decode cX1_add 70 = .ok (.getfield 7, 3) := by decide +kernel
theorem dX1_add_73 : decode cX1_add 73 = .ok (.aload_n 0, 1) := by decide +kernel
theorem dX1_add_74 : decode cX1_add 74 = .ok (.getfield 13, 3) := by decide +kernel
theorem dX1_add_77 : decode cX1_add 77 = .ok (.iload_n 1, 1) := by decide +kernel
theorem dX1_add_78 : decode cX1_add 78 = .ok (.iastore, 1) := by decide +kernel
theorem dX1_add_79 : decode cX1_add 79 = .ok (.aload_n 0, 1) := by decide +kernel
theorem dX1_add_80 : decode cX1_add 80 = .ok (.dup, 1) := by decide +kernel
theorem dX1_add_81 : decode cX1_add 81 = .ok (.getfield 13, 3) := by decide +kernel
theorem dX1_add_84 : decode cX1_add 84 = .ok (.iconst 1, 1) := by decide +kernel
theorem dX1_add_85 : decode cX1_add 85 = .ok (.iadd, 1) := by decide +kernel
theorem dX1_add_86 : decode cX1_add 86 = .ok (.putfield 13, 3) := by decide +kernel
theorem dX1_add_89 : decode cX1_add 89 = .ok (.return_, 1) := by decide +kernel
theorem dX2_init_0 : decode cX2_init 0 = .ok (.aload_n 0, 1) := by decide +kernel
theorem dX2_init_1 : decode cX2_init 1 = .ok (.invokespecial 3, 3) := by decide +kernel
theorem dX2_init_4 : decode cX2_init 4 = .ok (.aload_n 0, 1) := by decide +kernel
theorem dX2_init_5 : decode cX2_init 5 = .ok (.iconst 0, 1) := by decide +kernel
theorem dX2_init_6 : decode cX2_init 6 = .ok (.newarray .byte, 2) := by decide +kernel
theorem dX2_init_8 : decode cX2_init 8 = .ok (.putfield 9, 3) := by decide +kernel
theorem dX2_init_11 : decode cX2_init 11 = .ok (.aload_n 0, 1) := by decide +kernel
theorem dX2_init_12 : decode cX2_init 12 = .ok (.iconst 0, 1) := by decide +kernel
theorem dX2_init_13 : decode cX2_init 13 = .ok (.putfield 15, 3) := by decide +kernel
theorem dX2_init_16 : decode cX2_init 16 = .ok (.aload_n 0, 1) := by decide +kernel
theorem dX2_init_17 : decode cX2_init 17 = .ok (.iconst 0, 1) := by decide +kernel
theorem dX2_init_18 : decode cX2_init 18 = .ok (.putfield 19, 3) := by decide +kernel
theorem dX2_init_21 : decode cX2_init 21 = .ok (.return_, 1) := by decide +kernel
theorem dX2_size_0 : decode cX2_size 0 = .ok (.aload_n 0, 1) := by decide +kernel
theorem dX2_size_1 : decode cX2_size 1 = .ok (.getfield 15, 3) := by decide +kernel
theorem dX2_size_4 : decode cX2_size 4 = .ok (.ireturn, 1) := by decide +kernel
theorem dX3_init_0 : decode cX3_init 0 = .ok (.aload_n 0, 1) := by decide +kernel
theorem dX3_init_1 : decode cX3_init 1 = .ok (.invokespecial 1, 3) := by decide +kernel
theorem dX3_init_4 : decode cX3_init 4 = .ok (.aload_n 0, 1) := by decide +kernel
theorem dX3_init_5 : decode cX3_init 5 = .ok (.new 7, 3) := by decide +kernel
theorem dX3_init_8 : decode cX3_init 8 = .ok (.dup, 1) := by decide +kernel
theorem dX3_init_9 : decode cX3_init 9 = .ok (.iload_n 1, 1) := by decide +kernel
theorem dX3_init_10 : decode cX3_init 10 = .ok (.invokespecial 9, 3) := by decide +kernel
theorem dX3_init_13 : decode cX3_init 13 = .ok (.putfield 12, 3) := by decide +kernel
theorem dX3_init_16 : decode cX3_init 16 = .ok (.aload_n 0, 1) := by decide +kernel
theorem dX3_init_17 : decode cX3_init 17 = .ok (.new 7, 3) := by decide +kernel
theorem dX3_init_20 : decode cX3_init 20 = .ok (.dup, 1) := by decide +kernel
theorem dX3_init_21 : decode cX3_init 21 = .ok (.iload_n 1, 1) := by decide +kernel
theorem dX3_init_22 : decode cX3_init 22 = .ok (.invokespecial 9, 3) := by decide +kernel
theorem dX3_init_25 : decode cX3_init 25 = .ok (.putfield 18, 3) := by decide +kernel
theorem dX3_init_28 : decode cX3_init 28 = .ok (.aload_n 0, 1) := by decide +kernel
theorem dX3_init_29 : decode cX3_init 29 = .ok (.new 7, 3) := by decide +kernel
theorem dX3_init_32 : decode cX3_init 32 = .ok (.dup, 1) := by decide +kernel
theorem dX3_init_33 : decode cX3_init 33 = .ok (.iload_n 1, 1) := by decide +kernel
theorem dX3_init_34 : decode cX3_init 34 = .ok (.invokespecial 9, 3) := by decide +kernel
theorem dX3_init_37 : decode cX3_init 37 = .ok (.putfield 21, 3) := by decide +kernel
theorem dX3_init_40 : decode cX3_init 40 = .ok (.return_, 1) := by decide +kernel
theorem dX4_init_0 : decode cX4_init 0 = .ok (.aload_n 0, 1) := by decide +kernel
theorem dX4_init_1 : decode cX4_init 1 = .ok (.invokespecial 1, 3) := by decide +kernel
theorem dX4_init_4 : decode cX4_init 4 = .ok (.aload_n 0, 1) := by decide +kernel
theorem dX4_init_5 : decode cX4_init 5 = .ok (.iconst (-1), 1) := by decide +kernel
theorem dX4_init_6 : decode cX4_init 6 = .ok (.putfield 7, 3) := by decide +kernel
theorem dX4_init_9 : decode cX4_init 9 = .ok (.aload_n 0, 1) := by decide +kernel
theorem dX4_init_10 : decode cX4_init 10 = .ok (.iconst 0, 1) := by decide +kernel
theorem dX4_init_11 : decode cX4_init 11 = .ok (.putfield 13, 3) := by decide +kernel
theorem dX4_init_14 : decode cX4_init 14 = .ok (.aload_n 0, 1) := by decide +kernel
theorem dX4_init_15 : decode cX4_init 15 = .ok (.iconst 0, 1) := by decide +kernel
theorem dX4_init_16 : decode cX4_init 16 = .ok (.putfield 16, 3) := by decide +kernel
theorem dX4_init_19 : decode cX4_init 19 = .ok (.aload_n 0, 1) := by decide +kernel
theorem dX4_init_20 : decode cX4_init 20 = .ok (.iconst 0, 1) := by decide +kernel
theorem dX4_init_21 : decode cX4_init 21 = .ok (.putfield 19, 3) := by decide +kernel
theorem dX4_init_24 : decode cX4_init 24 = .ok (.aload_n 0, 1) := by decide +kernel
theorem dX4_init_25 : decode cX4_init 25 = .ok (.iconst 0, 1) := by decide +kernel
theorem dX4_init_26 : decode cX4_init 26 = .ok (.putfield 22, 3) := by decide +kernel
theorem dX4_init_29 : decode cX4_init 29 = .ok (.return_, 1) := by decide +kernel
theorem dX4_lookFor_0 : decode cX4_lookFor 0 = .ok (.aload_n 0, 1) := by decide +kernel
theorem dX4_lookFor_1 : decode cX4_lookFor 1 = .ok (.iload_n 1, 1) := by decide +kernel
theorem dX4_lookFor_2 : decode cX4_lookFor 2 = .ok (.putfield 7, 3) := by decide +kernel
theorem dX4_lookFor_5 : decode cX4_lookFor 5 = .ok (.aload_n 0, 1) := by decide +kernel
theorem dX4_lookFor_6 : decode cX4_lookFor 6 = .ok (.iconst 0, 1) := by decide +kernel
theorem dX4_lookFor_7 : decode cX4_lookFor 7 = .ok (.putfield 13, 3) := by decide +kernel
theorem dX4_lookFor_10 : decode cX4_lookFor 10 = .ok (.return_, 1) := by decide +kernel
theorem dX5_init_0 : decode cX5_init 0 = .ok (.aload_n 0, 1) := by decide +kernel
theorem dX5_init_1 : decode cX5_init 1 = .ok (.invokespecial 1, 3) := by decide +kernel
theorem dX5_init_4 : decode cX5_init 4 = .ok (.aload_n 0, 1) := by decide +kernel
theorem dX5_init_5 : decode cX5_init 5 = .ok (.bipush 80, 2) := by decide +kernel
theorem dX5_init_7 : decode cX5_init 7 = .ok (.anewarray 9, 3) := by decide +kernel
theorem dX5_init_10 : decode cX5_init 10 = .ok (.putfield 11, 3) := by decide +kernel
theorem dX5_init_13 : decode cX5_init 13 = .ok (.aload_n 0, 1) := by decide +kernel
theorem dX5_init_14 : decode cX5_init 14 = .ok (.new 9, 3) := by decide +kernel
theorem dX5_init_17 : decode cX5_init 17 = .ok (.dup, 1) := by decide +kernel
theorem dX5_init_18 : decode cX5_init 18 = .ok (.iconst 0, 1) := by decide +kernel
theorem dX5_init_19 : decode cX5_init 19 = .ok (.iconst (-1), 1) := by decide +kernel
theorem dX5_init_20 : decode cX5_init 20 = .ok (.invokespecial 15, 3) := by decide +kernel
theorem dX5_init_23 : decode cX5_init 23 = .ok (.putfield 18, 3) := by decide +kernel
theorem dX5_init_26 : decode cX5_init 26 = .ok (.aload_n 0, 1) := by decide +kernel
theorem dX5_init_27 : decode cX5_init 27 = .ok (.iconst 0, 1) := by decide +kernel
theorem dX5_init_28 : decode cX5_init 28 = .ok (.putfield 22, 3) := by decide +kernel
theorem dX5_init_31 : decode cX5_init 31 = .ok (.aload_n 0, 1) := by decide +kernel
theorem dX5_init_32 : decode cX5_init 32 = .ok (.iconst 1, 1) := by decide +kernel
theorem dX5_init_33 : decode cX5_init 33 = .ok (.putfield 26, 3) := by decide +kernel
theorem dX5_init_36 : decode cX5_init 36 = .ok (.aload_n 0, 1) := by decide +kernel
theorem dX5_init_37 : decode cX5_init 37 = .ok (.iconst 1, 1) := by decide +kernel
theorem dX5_init_38 : decode cX5_init 38 = .ok (.putfield 30, 3) := by decide +kernel
theorem dX5_init_41 : decode cX5_init 41 = .ok (.aload_n 0, 1) := by decide +kernel
theorem dX5_init_42 : decode cX5_init 42 = .ok (.new 33, 3) := by decide +kernel
theorem dX5_init_45 : decode cX5_init 45 = .ok (.dup, 1) := by decide +kernel
theorem dX5_init_46 : decode cX5_init 46 = .ok (.bipush 80, 2) := by decide +kernel
theorem dX5_init_48 : decode cX5_init 48 = .ok (.invokespecial 35, 3) := by decide +kernel
theorem dX5_init_51 : decode cX5_init 51 = .ok (.putfield 38, 3) := by decide +kernel
theorem dX5_init_54 : decode cX5_init 54 = .ok (.aload_n 0, 1) := by decide +kernel
theorem dX5_init_55 : decode cX5_init 55 = .ok (.new 33, 3) := by decide +kernel
theorem dX5_init_58 : decode cX5_init 58 = .ok (.dup, 1) := by decide +kernel
theorem dX5_init_59 : decode cX5_init 59 = .ok (.bipush 80, 2) := by decide +kernel
theorem dX5_init_61 : decode cX5_init 61 = .ok (.invokespecial 35, 3) := by decide +kernel
theorem dX5_init_64 : decode cX5_init 64 = .ok (.putfield 42, 3) := by decide +kernel
theorem dX5_init_67 : decode cX5_init 67 = .ok (.aload_n 0, 1) := by decide +kernel
theorem dX5_init_68 : decode cX5_init 68 = .ok (.iconst 0, 1) := by decide +kernel
theorem dX5_init_69 : decode cX5_init 69 = .ok (.putfield 45, 3) := by decide +kernel
theorem dX5_init_72 : decode cX5_init 72 = .ok (.aload_n 0, 1) := by decide +kernel
theorem dX5_init_73 : decode cX5_init 73 = .ok (.new 48, 3) := by decide +kernel
theorem dX5_init_76 : decode cX5_init 76 = .ok (.dup, 1) := by decide +kernel
theorem dX5_init_77 : decode cX5_init 77 = .ok (.sipush 1600, 3) := by decide +kernel
theorem dX5_init_80 : decode cX5_init 80 = .ok (.invokespecial 50, 3) := by decide +kernel
theorem dX5_init_83 : decode cX5_init 83 = .ok (.putfield 51, 3) := by decide +kernel
theorem dX5_init_86 : decode cX5_init 86 = .ok (.aload_n 0, 1) := by decide +kernel
theorem dX5_init_87 : decode cX5_init 87 = .ok (.new 48, 3) := by decide +kernel
theorem dX5_init_90 : decode cX5_init 90 = .ok (.dup, 1) := by decide +kernel
theorem dX5_init_91 : decode cX5_init 91 = .ok (.sipush 1600, 3) := by decide +kernel
theorem dX5_init_94 : decode cX5_init 94 = .ok (.invokespecial 50, 3) := by decide +kernel
theorem dX5_init_97 : decode cX5_init 97 = .ok (.putfield 55, 3) := by decide +kernel
theorem dX5_init_100 : decode cX5_init 100 = .ok (.aload_n 0, 1) := by decide +kernel
theorem dX5_init_101 : decode cX5_init 101 = .ok (.iconst (-1), 1) := by decide +kernel
theorem dX5_init_102 : decode cX5_init 102 = .ok (.putfield 58, 3) := by decide +kernel
theorem dX5_init_105 : decode cX5_init 105 = .ok (.aload_n 0, 1) := by decide +kernel
theorem dX5_init_106 : decode cX5_init 106 = .ok (.new 33, 3) := by decide +kernel
theorem dX5_init_109 : decode cX5_init 109 = .ok (.dup, 1) := by decide +kernel
theorem dX5_init_110 : decode cX5_init 110 = .ok (.bipush 80, 2) := by decide +kernel
theorem dX5_init_112 : decode cX5_init 112 = .ok (.invokespecial 35, 3) := by decide +kernel
theorem dX5_init_115 : decode cX5_init 115 = .ok (.putfield 61, 3) := by decide +kernel
theorem dX5_init_118 : decode cX5_init 118 = .ok (.aload_n 0, 1) := by decide +kernel
theorem dX5_init_119 : decode cX5_init 119 = .ok (.new 64, 3) := by decide +kernel
theorem dX5_init_122 : decode cX5_init 122 = .ok (.dup, 1) := by decide +kernel
theorem dX5_init_123 : decode cX5_init 123 = .ok (.invokespecial 66, 3) := by decide +kernel
theorem dX5_init_126 : decode cX5_init 126 = .ok (.putfield 67, 3) := by decide +kernel
theorem dX5_init_129 : decode cX5_init 129 = .ok (.aload_n 0, 1) := by decide +kernel
theorem dX5_init_130 : decode cX5_init 130 = .ok (.new 33, 3) := by decide +kernel
theorem dX5_init_133 : decode cX5_init 133 = .ok (.dup, 1) := by decide +kernel
theorem dX5_init_134 : decode cX5_init 134 = .ok (.bipush 80, 2) := by decide +kernel
theorem dX5_init_136 : decode cX5_init 136 = .ok (.invokespecial 35, 3) := by decide +kernel
theorem dX5_init_139 : decode cX5_init 139 = .ok (.putfield 71, 3) := by decide +kernel
theorem dX5_init_142 : decode cX5_init 142 = .ok (.aload_n 0, 1) := by decide +kernel
theorem dX5_init_143 : decode cX5_init 143 = .ok (.new 74, 3) := by decide +kernel
theorem dX5_init_146 : decode cX5_init 146 = .ok (.dup, 1) := by decide +kernel
theorem dX5_init_147 : decode cX5_init 147 = .ok (.invokespecial 76, 3) := by decide +kernel
theorem dX5_init_150 : decode cX5_init 150 = .ok (.putfield 77, 3) := by decide +kernel
theorem dX5_init_153 : decode cX5_init 153 = .ok (.aload_n 0, 1) := by decide +kernel
theorem dX5_init_154 : decode cX5_init 154 = .ok (.new 74, 3) := by decide +kernel
theorem dX5_init_157 : decode cX5_init 157 = .ok (.dup, 1) := by decide +kernel
theorem dX5_init_158 : decode cX5_init 158 = .ok (.invokespecial 76, 3) := by decide +kernel
theorem dX5_init_161 : decode cX5_init 161 = .ok (.putfield 81, 3) := by decide +kernel
theorem dX5_init_164 : decode cX5_init 164 = .ok (.return_, 1) := by decide +kernel
theorem dX5_entry_0 : decode cX5_entry 0 = .ok (.iload_n 2, 1) := by decide +kernel
theorem dX5_entry_1 : decode cX5_entry 1 = .ok (.iconst (-1), 1) := by decide +kernel
theorem dX5_entry_2 : decode cX5_entry 2 = .ok (.if_icmp .eq 19, 3) := by decide +kernel
theorem dX5_entry_5 : decode cX5_entry 5 = .ok (.aload_n 0, 1) := by decide +kernel
theorem dX5_entry_6 : decode cX5_entry 6 = .ok (.iload_n 2, 1) := by decide +kernel
theorem dX5_entry_7 : decode cX5_entry 7 = .ok (.invokevirtual 84, 3) := by decide +kernel
theorem dX5_entry_10 : decode cX5_entry 10 = .ok (.ifCond .ne 11, 3) := by decide +kernel
theorem dX5_entry_13 : decode cX5_entry 13 = .ok (.new 88, 3) := by decide +kernel
theorem dX5_entry_16 : decode cX5_entry 16 = .ok (.dup, 1) := by decide +kernel
theorem dX5_entry_17 : decode cX5_entry 17 = .ok (.invokespecial 90, 3) := by decide +kernel
theorem dX5_entry_20 : decode cX5_entry 20 = .ok (.athrow, 1) := by decide +kernel
theorem dX5_entry_21 : decode cX5_entry 21 = .ok (.iload_n 1, 1) := by decide +kernel
theorem dX5_entry_22 : decode cX5_entry 22 = .ok (.ifCond .lt 17, 3) := by decide +kernel
theorem dX5_entry_25 : decode cX5_entry 25 = .ok (.iload_n 1, 1) := by decide +kernel
theorem dX5_entry_26 : decode cX5_entry 26 = .ok (.iconst 3, 1) := by decide +kernel
theorem dX5_entry_27 : decode cX5_entry 27 = .ok (.if_icmp .ge 12, 3) := by decide +kernel
theorem dX5_entry_30 : decode cX5_entry 30 = .ok (.aload_n 0, 1) := by decide +kernel
theorem dX5_entry_31 : decode cX5_entry 31 = .ok (.iload_n 2, 1) := by decide +kernel
theorem dX5_entry_32 : decode cX5_entry 32 = .ok (.iload_n 1, 1) := by decide +kernel
theorem dX5_entry_33 : decode cX5_entry 33 = .ok (.invokevirtual 91, 3) := by decide +kernel
theorem dX5_entry_36 : decode cX5_entry 36 = .ok (.ifCond .ne 11, 3) := by decide +kernel
theorem dX5_entry_39 : decode cX5_entry 39 = .ok (.new 95, 3) := by decide +kernel
theorem dX5_entry_42 : decode cX5_entry 42 = .ok (.dup, 1) := by decide +kernel
theorem dX5_entry_43 : decode cX5_entry 43 = .ok (.invokespecial 97, 3) := by decide +kernel
theorem dX5_entry_46 : decode cX5_entry 46 = .ok (.athrow, 1) := by decide +kernel
theorem dX5_entry_47 : decode cX5_entry 47 = .ok (.aload_n 0, 1) := by decide +kernel
theorem dX5_entry_48 : decode cX5_entry 48 = .ok (.getfield 22, 3) := by decide +kernel
theorem dX5_entry_51 : decode cX5_entry 51 = .ok (.ifCond .lt 15, 3) := by decide +kernel
theorem dX5_entry_54 : decode cX5_entry 54 = .ok (.aload_n 0, 1) := by decide +kernel
theorem dX5_entry_55 : decode cX5_entry 55 = .ok (.getfield 22, 3) := by decide +kernel
theorem dX5_entry_58 : decode cX5_entry 58 = .ok (.aload_n 0, 1) := by decide +kernel
theorem dX5_entry_59 : decode cX5_entry 59 = .ok (.getfield 11, 3) := by decide +kernel
theorem dX5_entry_62 : decode cX5_entry 62 = .ok (.arraylength, 1) := by decide +kernel
theorem dX5_entry_63 : decode cX5_entry 63 = .ok (.if_icmp .lt 11, 3) := by decide +kernel
theorem dX5_entry_66 : decode cX5_entry 66 = .ok (.new 98, 3) := by decide +kernel
theorem dX5_entry_69 : decode cX5_entry 69 = .ok (.dup, 1) := by decide +kernel
theorem dX5_entry_70 : decode cX5_entry 70 = .ok (.invokespecial 100, 3) := by decide +kernel
theorem dX5_entry_73 : decode cX5_entry 73 = .ok (.athrow, 1) := by decide +kernel
theorem dX5_entry_74 : decode cX5_entry 74 = .ok (.aload_n 0, 1) := by decide +kernel
theorem dX5_entry_75 : decode cX5_entry 75 = .ok (.getfield 11, 3) := by decide +kernel
theorem dX5_entry_78 : decode cX5_entry 78 = .ok (.aload_n 0, 1) := by decide +kernel
theorem dX5_entry_79 : decode cX5_entry 79 = .ok (.getfield 22, 3) := by decide +kernel
theorem dX5_entry_82 : decode cX5_entry 82 = .ok (.new 9, 3) := by decide +kernel
theorem dX5_entry_85 : decode cX5_entry 85 = .ok (.dup, 1) := by decide +kernel
theorem dX5_entry_86 : decode cX5_entry 86 = .ok (.iload_n 1, 1) := by decide +kernel
theorem dX5_entry_87 : decode cX5_entry 87 = .ok (.iload_n 2, 1) := by decide +kernel
theorem dX5_entry_88 : decode cX5_entry 88 = .ok (.invokespecial 15, 3) := by decide +kernel
theorem dX5_entry_91 : decode cX5_entry 91 = .ok (.aastore, 1) := by decide +kernel
theorem dX5_entry_92 : decode cX5_entry 92 = .ok (.aload_n 0, 1) := by decide +kernel
theorem dX5_entry_93 : decode cX5_entry 93 = .ok (.dup, 1) := by decide +kernel
theorem dX5_entry_94 : decode cX5_entry 94 = .ok (.getfield 22, 3) := by decide +kernel
theorem dX5_entry_97 : decode cX5_entry 97 = .ok (.iconst 1, 1) := by decide +kernel
theorem dX5_entry_98 : decode cX5_entry 98 = .ok (.iadd, 1) := by decide +kernel
theorem dX5_entry_99 : decode cX5_entry 99 = .ok (.putfield 22, 3) := by decide +kernel
theorem dX5_entry_102 : decode cX5_entry 102 = .ok (.aload_n 0, 1) := by decide +kernel
theorem dX5_entry_103 : decode cX5_entry 103 = .ok (.invokevirtual 101, 3) := by decide +kernel
theorem dX5_entry_106 : decode cX5_entry 106 = .ok (.aload_n 0, 1) := by decide +kernel
theorem dX5_entry_107 : decode cX5_entry 107 = .ok (.getfield 22, 3) := by decide +kernel
theorem dX5_entry_110 : decode cX5_entry 110 = .ok (.iconst 1, 1) := by decide +kernel
theorem dX5_entry_111 : decode cX5_entry 111 = .ok (.isub, 1) := by decide +kernel
theorem dX5_entry_112 : decode cX5_entry 112 = .ok (.ireturn, 1) := by decide +kernel
theorem dX5_sign_0 : decode cX5_sign 0 = .ok (.aload_n 0, 1) := by decide +kernel
theorem dX5_sign_1 : decode cX5_sign 1 = .ok (.iload_n 1, 1) := by decide +kernel
theorem dX5_sign_2 : decode cX5_sign 2 = .ok (.invokevirtual 104, 3) := by decide +kernel
theorem dX5_sign_5 : decode cX5_sign 5 = .ok (.iload_n 2, 1) := by decide +kernel
theorem dX5_sign_6 : decode cX5_sign 6 = .ok (.ifCond .lt 10, 3) := by decide +kernel
theorem dX5_sign_9 : decode cX5_sign 9 = .ok (.iload_n 2, 1) := by decide +kernel
theorem dX5_sign_10 : decode cX5_sign 10 = .ok (.sipush 255, 3) := by decide +kernel
theorem dX5_sign_13 : decode cX5_sign 13 = .ok (.if_icmp .le 11, 3) := by decide +kernel
theorem dX5_sign_16 : decode cX5_sign 16 = .ok (.new 95, 3) := by decide +kernel
theorem dX5_sign_19 : decode cX5_sign 19 = .ok (.dup, 1) := by decide +kernel
theorem dX5_sign_20 : decode cX5_sign 20 = .ok (.invokespecial 97, 3) := by decide +kernel
theorem dX5_sign_23 : decode cX5_sign 23 = .ok (.athrow, 1) := by decide +kernel
theorem dX5_sign_24 : decode cX5_sign 24 = .ok (.aload_n 0, 1) := by decide +kernel
theorem dX5_sign_25 : decode cX5_sign 25 = .ok (.iload_n 1, 1) := by decide +kernel
theorem dX5_sign_26 : decode cX5_sign 26 = .ok (.invokevirtual 107, 3) := by decide +kernel
theorem dX5_sign_29 : decode cX5_sign 29 = .ok (.astore_n 3, 1) := by decide +kernel
theorem dX5_sign_30 : decode cX5_sign 30 = .ok (.aload_n 3, 1) := by decide +kernel
theorem dX5_sign_31 : decode cX5_sign 31 = .ok (.getfield 111, 3) := by decide +kernel
theorem dX5_sign_34 : decode cX5_sign 34 = .ok (.invokevirtual 114, 3) := by decide +kernel
theorem dX5_sign_37 : decode cX5_sign 37 = .ok (.ifCond .eq 11, 3) := by decide +kernel
theorem dX5_sign_40 : decode cX5_sign 40 = .ok (.new 98, 3) := by decide +kernel
theorem dX5_sign_43 : decode cX5_sign 43 = .ok (.dup, 1) := by decide +kernel
theorem dX5_sign_44 : decode cX5_sign 44 = .ok (.invokespecial 100, 3) := by decide +kernel
theorem dX5_sign_47 : decode cX5_sign 47 = .ok (.athrow, 1) := by decide +kernel
theorem dX5_sign_48 : decode cX5_sign 48 = .ok (.aload_n 3, 1) := by decide +kernel
theorem dX5_sign_49 : decode cX5_sign 49 = .ok (.iload_n 2, 1) := by decide +kernel
theorem dX5_sign_50 : decode cX5_sign 50 = .ok (.invokevirtual 118, 3) := by decide +kernel
theorem dX5_sign_53 : decode cX5_sign 53 = .ok (.aload_n 3, 1) := by decide +kernel
theorem dX5_sign_54 : decode cX5_sign 54 = .ok (.aload_n 0, 1) := by decide +kernel
theorem dX5_sign_55 : decode cX5_sign 55 = .ok (.getfield 26, 3) := by decide +kernel
theorem dX5_sign_58 : decode cX5_sign 58 = .ok (.aload_n 0, 1) := by decide +kernel
theorem dX5_sign_59 : decode cX5_sign 59 = .ok (.getfield 30, 3) := by decide +kernel
theorem dX5_sign_62 : decode cX5_sign 62 = .ok (.invokevirtual 121, 3) := by decide +kernel
theorem dX5_sign_65 : decode cX5_sign 65 = .ok (.aload_n 0, 1) := by decide +kernel
theorem dX5_sign_66 : decode cX5_sign 66 = .ok (.invokevirtual 101, 3) := by decide +kernel
theorem dX5_sign_69 : decode cX5_sign 69 = .ok (.aload_n 3, 1) := by decide +kernel
theorem dX5_sign_70 : decode cX5_sign 70 = .ok (.getfield 111, 3) := by decide +kernel
theorem dX5_sign_73 : decode cX5_sign 73 = .ok (.invokevirtual 125, 3) := by decide +kernel
theorem dX5_sign_76 : decode cX5_sign 76 = .ok (.ireturn, 1) := by decide +kernel
theorem dX5_page_0 : decode cX5_page 0 = .ok (.aload_n 0, 1) := by decide +kernel
theorem dX5_page_1 : decode cX5_page 1 = .ok (.iload_n 1, 1) := by decide +kernel
theorem dX5_page_2 : decode cX5_page 2 = .ok (.invokevirtual 104, 3) := by decide +kernel
theorem dX5_page_5 : decode cX5_page 5 = .ok (.iload_n 3, 1) := by decide +kernel
theorem dX5_page_6 : decode cX5_page 6 = .ok (.iconst 1, 1) := by decide +kernel
theorem dX5_page_7 : decode cX5_page 7 = .ok (.if_icmp .lt 11, 3) := by decide +kernel
theorem dX5_page_10 : decode cX5_page 10 = .ok (.iload_n 3, 1) := by decide +kernel
theorem dX5_page_11 : decode cX5_page 11 = .ok (.iload_n 2, 1) := by decide +kernel
theorem dX5_page_12 : decode cX5_page 12 = .ok (.invokestatic 129, 3) := by decide +kernel
theorem dX5_page_15 : decode cX5_page 15 = .ok (.if_icmp .le 11, 3) := by decide +kernel
theorem dX5_page_18 : decode cX5_page 18 = .ok (.new 95, 3) := by decide +kernel
theorem dX5_page_21 : decode cX5_page 21 = .ok (.dup, 1) := by decide +kernel
theorem dX5_page_22 : decode cX5_page 22 = .ok (.invokespecial 97, 3) := by decide +kernel
theorem dX5_page_25 : decode cX5_page 25 = .ok (.athrow, 1) := by decide +kernel
theorem dX5_page_26 : decode cX5_page 26 = .ok (.aload_n 0, 1) := by decide +kernel
theorem dX5_page_27 : decode cX5_page 27 = .ok (.iload_n 1, 1) := by decide +kernel
theorem dX5_page_28 : decode cX5_page 28 = .ok (.invokevirtual 107, 3) := by decide +kernel
theorem dX5_page_31 : decode cX5_page 31 = .ok (.getfield 133, 3) := by decide +kernel
theorem dX5_page_34 : decode cX5_page 34 = .ok (.astore 4, 2) := by decide +kernel
theorem dX5_page_36 : decode cX5_page 36 = .ok (.aload 4, 2) := by decide +kernel
theorem dX5_page_38 : decode cX5_page 38 = .ok (.invokevirtual 136, 3) := by decide +kernel
theorem dX5_page_41 : decode cX5_page 41 = .ok (.ifCond .eq 11, 3) := by decide +kernel
theorem dX5_page_44 : decode cX5_page 44 = .ok (.new 98, 3) := by decide +kernel
theorem dX5_page_47 : decode cX5_page 47 = .ok (.dup, 1) := by decide +kernel
theorem dX5_page_48 : decode cX5_page 48 = .ok (.invokespecial 100, 3) := by decide +kernel
theorem dX5_page_51 : decode cX5_page 51 = .ok (.athrow, 1) := by decide +kernel
theorem dX5_page_52 : decode cX5_page 52 = .ok (.iload_n 2, 1) := by decide +kernel
theorem dX5_page_53 : decode cX5_page 53 = .ok (.ldc 137, 2) := by decide +kernel
theorem dX5_page_55 : decode cX5_page 55 = .ok (.imul, 1) := by decide +kernel
theorem dX5_page_56 : decode cX5_page 56 = .ok (.iload_n 3, 1) := by decide +kernel
theorem dX5_page_57 : decode cX5_page 57 = .ok (.iadd, 1) := by decide +kernel
theorem dX5_page_58 : decode cX5_page 58 = .ok (.istore 5, 2) := by decide +kernel
theorem dX5_page_60 : decode cX5_page 60 = .ok (.aload 4, 2) := by decide +kernel
theorem dX5_page_62 : decode cX5_page 62 = .ok (.iload 5, 2) := by decide +kernel
theorem dX5_page_64 : decode cX5_page 64 = .ok (.iload 5, 2) := by decide +kernel
theorem dX5_page_66 : decode cX5_page 66 = .ok (.iconst 0, 1) := by decide +kernel
theorem dX5_page_67 : decode cX5_page 67 = .ok (.invokevirtual 138, 3) := by decide +kernel
theorem dX5_page_70 : decode cX5_page 70 = .ok (.aload_n 0, 1) := by decide +kernel
theorem dX5_page_71 : decode cX5_page 71 = .ok (.iconst (-1), 1) := by decide +kernel
theorem dX5_page_72 : decode cX5_page 72 = .ok (.putfield 58, 3) := by decide +kernel
theorem dX5_page_75 : decode cX5_page 75 = .ok (.aload 4, 2) := by decide +kernel
theorem dX5_page_77 : decode cX5_page 77 = .ok (.invokevirtual 142, 3) := by decide +kernel
theorem dX5_page_80 : decode cX5_page 80 = .ok (.ireturn, 1) := by decide +kernel
theorem dX5_range_0 : decode cX5_range 0 = .ok (.aload_n 0, 1) := by decide +kernel
theorem dX5_range_1 : decode cX5_range 1 = .ok (.iload_n 1, 1) := by decide +kernel
theorem dX5_range_2 : decode cX5_range 2 = .ok (.invokevirtual 104, 3) := by decide +kernel
theorem dX5_range_5 : decode cX5_range 5 = .ok (.iload_n 2, 1) := by decide +kernel
theorem dX5_range_6 : decode cX5_range 6 = .ok (.iconst 1, 1) := by decide +kernel
theorem dX5_range_7 : decode cX5_range 7 = .ok (.if_icmp .lt 11, 3) := by decide +kernel
theorem dX5_range_10 : decode cX5_range 10 = .ok (.iload_n 2, 1) := by decide +kernel
theorem dX5_range_11 : decode cX5_range 11 = .ok (.iconst 1, 1) := by decide +kernel
theorem dX5_range_12 : decode cX5_range 12 = .ok (.invokestatic 129, 3) := by decide +kernel
theorem dX5_range_15 : decode cX5_range 15 = .ok (.if_icmp .le 11, 3) := by decide +kernel
theorem dX5_range_18 : decode cX5_range 18 = .ok (.new 95, 3) := by decide +kernel
theorem dX5_range_21 : decode cX5_range 21 = .ok (.dup, 1) := by decide +kernel
theorem dX5_range_22 : decode cX5_range 22 = .ok (.invokespecial 97, 3) := by decide +kernel
theorem dX5_range_25 : decode cX5_range 25 = .ok (.athrow, 1) := by decide +kernel
theorem dX5_range_26 : decode cX5_range 26 = .ok (.aload_n 0, 1) := by decide +kernel
theorem dX5_range_27 : decode cX5_range 27 = .ok (.iload_n 1, 1) := by decide +kernel
theorem dX5_range_28 : decode cX5_range 28 = .ok (.invokevirtual 107, 3) := by decide +kernel
theorem dX5_range_31 : decode cX5_range 31 = .ok (.astore 4, 2) := by decide +kernel
theorem dX5_range_33 : decode cX5_range 33 = .ok (.iload_n 3, 1) := by decide +kernel
theorem dX5_range_34 : decode cX5_range 34 = .ok (.ifCond .ne 30, 3) := by decide +kernel
theorem dX5_range_37 : decode cX5_range 37 = .ok (.aload 4, 2) := by decide +kernel
theorem dX5_range_39 : decode cX5_range 39 = .ok (.getfield 143, 3) := by decide +kernel
theorem dX5_range_42 : decode cX5_range 42 = .ok (.ifCond .ge 22, 3) := by decide +kernel
theorem dX5_range_45 : decode cX5_range 45 = .ok (.aload 4, 2) := by decide +kernel
theorem dX5_range_47 : decode cX5_range 47 = .ok (.getfield 133, 3) := by decide +kernel
theorem dX5_range_50 : decode cX5_range 50 = .ok (.invokevirtual 136, 3) := by decide +kernel
theorem dX5_range_53 : decode cX5_range 53 = .ok (.ifCond .eq 11, 3) := by decide +kernel
theorem dX5_range_56 : decode cX5_range 56 = .ok (.new 98, 3) := by decide +kernel
theorem dX5_range_59 : decode cX5_range 59 = .ok (.dup, 1) := by decide +kernel
theorem dX5_range_60 : decode cX5_range 60 = .ok (.invokespecial 100, 3) := by decide +kernel
theorem dX5_range_63 : decode cX5_range 63 = .ok (.athrow, 1) := by decide +kernel
theorem dX5_range_64 : decode cX5_range 64 = .ok (.ldc 137, 2) := by decide +kernel
theorem dX5_range_66 : decode cX5_range 66 = .ok (.iload_n 2, 1) := by decide +kernel
theorem dX5_range_67 : decode cX5_range 67 = .ok (.iadd, 1) := by decide +kernel
theorem dX5_range_68 : decode cX5_range 68 = .ok (.istore 5, 2) := by decide +kernel
theorem dX5_range_70 : decode cX5_range 70 = .ok (.iload_n 3, 1) := by decide +kernel
theorem dX5_range_71 : decode cX5_range 71 = .ok (.ifCond .eq 13, 3) := by decide +kernel
theorem dX5_range_74 : decode cX5_range 74 = .ok (.aload 4, 2) := by decide +kernel
theorem dX5_range_76 : decode cX5_range 76 = .ok (.iload 5, 2) := by decide +kernel
theorem dX5_range_78 : decode cX5_range 78 = .ok (.invokevirtual 146, 3) := by decide +kernel
theorem dX5_range_81 : decode cX5_range 81 = .ok (.goto 10, 3) := by decide +kernel
theorem dX5_range_84 : decode cX5_range 84 = .ok (.aload 4, 2) := by decide +kernel
theorem dX5_range_86 : decode cX5_range 86 = .ok (.iload 5, 2) := by decide +kernel
theorem dX5_range_88 : decode cX5_range 88 = .ok (.invokevirtual 149, 3) := by decide +kernel
theorem dX5_range_91 : decode cX5_range 91 = .ok (.istore 6, 2) := by decide +kernel
theorem dX5_range_93 : decode cX5_range 93 = .ok (.iload 6, 2) := by decide +kernel
theorem dX5_range_95 : decode cX5_range 95 = .ok (.ifCond .eq 8, 3) := by decide +kernel
theorem dX5_range_98 : decode cX5_range 98 = .ok (.aload_n 0, 1) := by decide +kernel
theorem dX5_range_99 : decode cX5_range 99 = .ok (.iconst (-1), 1) := by decide +kernel
theorem dX5_range_100 : decode cX5_range 100 = .ok (.putfield 58, 3) := by decide +kernel
theorem dX5_range_103 : decode cX5_range 103 = .ok (.iload 6, 2) := by decide +kernel
theorem dX5_range_105 : decode cX5_range 105 = .ok (.ifCond .eq 7, 3) := by decide +kernel
theorem dX5_range_108 : decode cX5_range 108 = .ok (.iconst 1, 1) := by decide +kernel
theorem dX5_range_109 : decode cX5_range 109 = .ok (.goto 4, 3) := by decide +kernel
theorem dX5_range_112 : decode cX5_range 112 = .ok (.iconst 0, 1) := by decide +kernel
theorem dX5_range_113 : decode cX5_range 113 = .ok (.ireturn, 1) := by decide +kernel
theorem dX5_see_0 : decode cX5_see 0 = .ok (.aload_n 0, 1) := by decide +kernel
theorem dX5_see_1 : decode cX5_see 1 = .ok (.iload_n 1, 1) := by decide +kernel
theorem dX5_see_2 : decode cX5_see 2 = .ok (.invokevirtual 104, 3) := by decide +kernel
theorem dX5_see_5 : decode cX5_see 5 = .ok (.aload_n 0, 1) := by decide +kernel
theorem dX5_see_6 : decode cX5_see 6 = .ok (.iload_n 2, 1) := by decide +kernel
theorem dX5_see_7 : decode cX5_see 7 = .ok (.invokevirtual 104, 3) := by decide +kernel
theorem dX5_see_10 : decode cX5_see 10 = .ok (.aload_n 0, 1) := by decide +kernel
theorem dX5_see_11 : decode cX5_see 11 = .ok (.iload_n 1, 1) := by decide +kernel
theorem dX5_see_12 : decode cX5_see 12 = .ok (.invokevirtual 107, 3) := by decide +kernel
theorem dX5_see_15 : decode cX5_see 15 = .ok (.getfield 152, 3) := by decide +kernel
theorem dX5_see_18 : decode cX5_see 18 = .ok (.astore_n 3, 1) := by decide +kernel
theorem dX5_see_19 : decode cX5_see 19 = .ok (.aload_n 3, 1) := by decide +kernel
theorem dX5_see_20 : decode cX5_see 20 = .ok (.invokevirtual 114, 3) := by decide +kernel
theorem dX5_see_23 : decode cX5_see 23 = .ok (.ifCond .eq 11, 3) := by decide +kernel
theorem dX5_see_26 : decode cX5_see 26 = .ok (.new 98, 3) := by decide +kernel
theorem dX5_see_29 : decode cX5_see 29 = .ok (.dup, 1) := by decide +kernel
theorem dX5_see_30 : decode cX5_see 30 = .ok (.invokespecial 100, 3) := by decide +kernel
theorem dX5_see_33 : decode cX5_see 33 = .ok (.athrow, 1) := by decide +kernel
theorem dX5_see_34 : decode cX5_see 34 = .ok (.iload_n 1, 1) := by decide +kernel
theorem dX5_see_35 : decode cX5_see 35 = .ok (.iload_n 2, 1) := by decide +kernel
theorem dX5_see_36 : decode cX5_see 36 = .ok (.if_icmp .eq 11, 3) := by decide +kernel
theorem dX5_see_39 : decode cX5_see 39 = .ok (.aload_n 3, 1) := by decide +kernel
theorem dX5_see_40 : decode cX5_see 40 = .ok (.iload_n 2, 1) := by decide +kernel
theorem dX5_see_41 : decode cX5_see 41 = .ok (.invokevirtual 155, 3) := by decide +kernel
theorem dX5_see_44 : decode cX5_see 44 = .ok (.ifCond .eq 5, 3) := by decide +kernel
theorem dX5_see_47 : decode cX5_see 47 = .ok (.iconst 0, 1) := by decide +kernel
theorem dX5_see_48 : decode cX5_see 48 = .ok (.ireturn, 1) := by decide +kernel
theorem dX5_see_49 : decode cX5_see 49 = .ok (.aload_n 3, 1) := by decide +kernel
theorem dX5_see_50 : decode cX5_see 50 = .ok (.iload_n 2, 1) := by decide +kernel
theorem dX5_see_51 : decode cX5_see 51 = .ok (.invokevirtual 158, 3) := by decide +kernel
theorem dX5_see_54 : decode cX5_see 54 = .ok (.iconst 1, 1) := by decide +kernel
theorem dX5_see_55 : decode cX5_see 55 = .ok (.ireturn, 1) := by decide +kernel
theorem dX5_rule_0 : decode cX5_rule 0 = .ok (.iload_n 1, 1) := by decide +kernel
theorem dX5_rule_1 : decode cX5_rule 1 = .ok (.ifCond .lt 8, 3) := by decide +kernel
theorem dX5_rule_4 : decode cX5_rule 4 = .ok (.iload_n 1, 1) := by decide +kernel
theorem dX5_rule_5 : decode cX5_rule 5 = .ok (.iconst 1, 1) := by decide +kernel
theorem dX5_rule_6 : decode cX5_rule 6 = .ok (.if_icmp .le 11, 3) := by decide +kernel
theorem dX5_rule_9 : decode cX5_rule 9 = .ok (.new 95, 3) := by decide +kernel
theorem dX5_rule_12 : decode cX5_rule 12 = .ok (.dup, 1) := by decide +kernel
theorem dX5_rule_13 : decode cX5_rule 13 = .ok (.invokespecial 97, 3) := by decide +kernel
theorem dX5_rule_16 : decode cX5_rule 16 = .ok (.athrow, 1) := by decide +kernel
theorem dX5_rule_17 : decode cX5_rule 17 = .ok (.iload_n 1, 1) := by decide +kernel
theorem dX5_rule_18 : decode cX5_rule 18 = .ok (.ifCond .ne 10, 3) := by decide +kernel
theorem dX5_rule_21 : decode cX5_rule 21 = .ok (.aload_n 0, 1) := by decide +kernel
theorem dX5_rule_22 : decode cX5_rule 22 = .ok (.getfield 26, 3) := by decide +kernel
theorem dX5_rule_25 : decode cX5_rule 25 = .ok (.goto 7, 3) := by decide +kernel
theorem dX5_rule_28 : decode cX5_rule 28 = .ok (.aload_n 0, 1) := by decide +kernel
theorem dX5_rule_29 : decode cX5_rule 29 = .ok (.getfield 30, 3) := by decide +kernel
theorem dX5_rule_32 : decode cX5_rule 32 = .ok (.istore_n 3, 1) := by decide +kernel
theorem dX5_rule_33 : decode cX5_rule 33 = .ok (.iload_n 1, 1) := by decide +kernel
theorem dX5_rule_34 : decode cX5_rule 34 = .ok (.ifCond .ne 11, 3) := by decide +kernel
theorem dX5_rule_37 : decode cX5_rule 37 = .ok (.aload_n 0, 1) := by decide +kernel
theorem dX5_rule_38 : decode cX5_rule 38 = .ok (.iload_n 2, 1) := by decide +kernel
theorem dX5_rule_39 : decode cX5_rule 39 = .ok (.putfield 26, 3) := by decide +kernel
theorem dX5_rule_42 : decode cX5_rule 42 = .ok (.goto 8, 3) := by decide +kernel
theorem dX5_rule_45 : decode cX5_rule 45 = .ok (.aload_n 0, 1) := by decide +kernel
theorem dX5_rule_46 : decode cX5_rule 46 = .ok (.iload_n 2, 1) := by decide +kernel
theorem dX5_rule_47 : decode cX5_rule 47 = .ok (.putfield 30, 3) := by decide +kernel
theorem dX5_rule_50 : decode cX5_rule 50 = .ok (.iload_n 3, 1) := by decide +kernel
theorem dX5_rule_51 : decode cX5_rule 51 = .ok (.iload_n 2, 1) := by decide +kernel
theorem dX5_rule_52 : decode cX5_rule 52 = .ok (.if_icmp .eq 11, 3) := by decide +kernel
theorem dX5_rule_55 : decode cX5_rule 55 = .ok (.aload_n 0, 1) := by decide +kernel
theorem dX5_rule_56 : decode cX5_rule 56 = .ok (.invokevirtual 160, 3) := by decide +kernel
theorem dX5_rule_59 : decode cX5_rule 59 = .ok (.aload_n 0, 1) := by decide +kernel
theorem dX5_rule_60 : decode cX5_rule 60 = .ok (.invokevirtual 101, 3) := by decide +kernel
theorem dX5_rule_63 : decode cX5_rule 63 = .ok (.iload_n 3, 1) := by decide +kernel
theorem dX5_rule_64 : decode cX5_rule 64 = .ok (.ifCond .eq 7, 3) := by decide +kernel
theorem dX5_rule_67 : decode cX5_rule 67 = .ok (.iconst 1, 1) := by decide +kernel
theorem dX5_rule_68 : decode cX5_rule 68 = .ok (.goto 4, 3) := by decide +kernel
theorem dX5_rule_71 : decode cX5_rule 71 = .ok (.iconst 0, 1) := by decide +kernel
theorem dX5_rule_72 : decode cX5_rule 72 = .ok (.ireturn, 1) := by decide +kernel
theorem dX5_run_0 : decode cX5_run 0 = .ok (.aload_n 0, 1) := by decide +kernel
theorem dX5_run_1 : decode cX5_run 1 = .ok (.invokevirtual 163, 3) := by decide +kernel
theorem dX5_run_4 : decode cX5_run 4 = .ok (.aload_n 0, 1) := by decide +kernel
theorem dX5_run_5 : decode cX5_run 5 = .ok (.getfield 42, 3) := by decide +kernel
theorem dX5_run_8 : decode cX5_run 8 = .ok (.invokevirtual 125, 3) := by decide +kernel
theorem dX5_run_11 : decode cX5_run 11 = .ok (.ireturn, 1) := by decide +kernel
theorem dX5_row_0 : decode cX5_row 0 = .ok (.aload_n 0, 1) := by decide +kernel
theorem dX5_row_1 : decode cX5_row 1 = .ok (.invokevirtual 163, 3) := by decide +kernel
theorem dX5_row_4 : decode cX5_row 4 = .ok (.iload_n 1, 1) := by decide +kernel
theorem dX5_row_5 : decode cX5_row 5 = .ok (.ifCond .lt 14, 3) := by decide +kernel
theorem dX5_row_8 : decode cX5_row 8 = .ok (.iload_n 1, 1) := by decide +kernel
theorem dX5_row_9 : decode cX5_row 9 = .ok (.aload_n 0, 1) := by decide +kernel
theorem dX5_row_10 : decode cX5_row 10 = .ok (.getfield 42, 3) := by decide +kernel
theorem dX5_row_13 : decode cX5_row 13 = .ok (.invokevirtual 125, 3) := by decide +kernel
theorem dX5_row_16 : decode cX5_row 16 = .ok (.if_icmp .lt 11, 3) := by decide +kernel
theorem dX5_row_19 : decode cX5_row 19 = .ok (.new 166, 3) := by decide +kernel
theorem dX5_row_22 : decode cX5_row 22 = .ok (.dup, 1) := by decide +kernel
theorem dX5_row_23 : decode cX5_row 23 = .ok (.invokespecial 168, 3) := by decide +kernel
theorem dX5_row_26 : decode cX5_row 26 = .ok (.athrow, 1) := by decide +kernel
theorem dX5_row_27 : decode cX5_row 27 = .ok (.aload_n 0, 1) := by decide +kernel
theorem dX5_row_28 : decode cX5_row 28 = .ok (.getfield 42, 3) := by decide +kernel
theorem dX5_row_31 : decode cX5_row 31 = .ok (.iload_n 1, 1) := by decide +kernel
theorem dX5_row_32 : decode cX5_row 32 = .ok (.invokevirtual 169, 3) := by decide +kernel
theorem dX5_row_35 : decode cX5_row 35 = .ok (.istore_n 3, 1) := by decide +kernel
theorem dX5_row_36 : decode cX5_row 36 = .ok (.iload_n 2, 1) := by decide +kernel
theorem dX5_row_37 : decode cX5_row 37 = .ok (.tableswitch 78 0 4 #[35, 37, 46, 59, 72], 35) := by decide +kernel
theorem dX5_row_72 : decode cX5_row 72 = .ok (.iload_n 3, 1) := by decide +kernel
theorem dX5_row_73 : decode cX5_row 73 = .ok (.ireturn, 1) := by decide +kernel
theorem dX5_row_74 : decode cX5_row 74 = .ok (.aload_n 0, 1) := by decide +kernel
theorem dX5_row_75 : decode cX5_row 75 = .ok (.iload_n 3, 1) := by decide +kernel
theorem dX5_row_76 : decode cX5_row 76 = .ok (.invokevirtual 107, 3) := by decide +kernel
theorem dX5_row_79 : decode cX5_row 79 = .ok (.getfield 172, 3) := by decide +kernel
theorem dX5_row_82 : decode cX5_row 82 = .ok (.ireturn, 1) := by decide +kernel
theorem dX5_row_83 : decode cX5_row 83 = .ok (.aload_n 0, 1) := by decide +kernel
theorem dX5_row_84 : decode cX5_row 84 = .ok (.iload_n 3, 1) := by decide +kernel
theorem dX5_row_85 : decode cX5_row 85 = .ok (.invokevirtual 175, 3) := by decide +kernel
theorem dX5_row_88 : decode cX5_row 88 = .ok (.aload_n 0, 1) := by decide +kernel
theorem dX5_row_89 : decode cX5_row 89 = .ok (.getfield 55, 3) := by decide +kernel
theorem dX5_row_92 : decode cX5_row 92 = .ok (.invokevirtual 142, 3) := by decide +kernel
theorem dX5_row_95 : decode cX5_row 95 = .ok (.ireturn, 1) := by decide +kernel
theorem dX5_row_96 : decode cX5_row 96 = .ok (.aload_n 0, 1) := by decide +kernel
theorem dX5_row_97 : decode cX5_row 97 = .ok (.iload_n 3, 1) := by decide +kernel
theorem dX5_row_98 : decode cX5_row 98 = .ok (.invokevirtual 178, 3) := by decide +kernel
theorem dX5_row_101 : decode cX5_row 101 = .ok (.aload_n 0, 1) := by decide +kernel
theorem dX5_row_102 : decode cX5_row 102 = .ok (.getfield 61, 3) := by decide +kernel
theorem dX5_row_105 : decode cX5_row 105 = .ok (.invokevirtual 125, 3) := by decide +kernel
theorem dX5_row_108 : decode cX5_row 108 = .ok (.ireturn, 1) := by decide +kernel
theorem dX5_row_109 : decode cX5_row 109 = .ok (.aload_n 0, 1) := by decide +kernel
theorem dX5_row_110 : decode cX5_row 110 = .ok (.iload_n 3, 1) := by decide +kernel
theorem dX5_row_111 : decode cX5_row 111 = .ok (.invokevirtual 181, 3) := by decide +kernel
theorem dX5_row_114 : decode cX5_row 114 = .ok (.ireturn, 1) := by decide +kernel
theorem dX5_row_115 : decode cX5_row 115 = .ok (.new 166, 3) := by decide +kernel
theorem dX5_row_118 : decode cX5_row 118 = .ok (.dup, 1) := by decide +kernel
theorem dX5_row_119 : decode cX5_row 119 = .ok (.invokespecial 168, 3) := by decide +kernel
theorem dX5_row_122 : decode cX5_row 122 = .ok (.athrow, 1) := by decide +kernel
theorem dX5_locator_0 : decode cX5_locator 0 = .ok (.aload_n 0, 1) := by decide +kernel
theorem dX5_locator_1 : decode cX5_locator 1 = .ok (.invokevirtual 163, 3) := by decide +kernel
theorem dX5_locator_4 : decode cX5_locator 4 = .ok (.iload_n 1, 1) := by decide +kernel
theorem dX5_locator_5 : decode cX5_locator 5 = .ok (.ifCond .lt 14, 3) := by decide +kernel
theorem dX5_locator_8 : decode cX5_locator 8 = .ok (.iload_n 1, 1) := by decide +kernel
theorem dX5_locator_9 : decode cX5_locator 9 = .ok (.aload_n 0, 1) := by decide +kernel
theorem dX5_locator_10 : decode cX5_locator 10 = .ok (.getfield 42, 3) := by decide +kernel
theorem dX5_locator_13 : decode cX5_locator 13 = .ok (.invokevirtual 125, 3) := by decide +kernel
theorem dX5_locator_16 : decode cX5_locator 16 = .ok (.if_icmp .lt 11, 3) := by decide +kernel
theorem dX5_locator_19 : decode cX5_locator 19 = .ok (.new 166, 3) := by decide +kernel
theorem dX5_locator_22 : decode cX5_locator 22 = .ok (.dup, 1) := by decide +kernel
theorem dX5_locator_23 : decode cX5_locator 23 = .ok (.invokespecial 168, 3) := by decide +kernel
theorem dX5_locator_26 : decode cX5_locator 26 = .ok (.athrow, 1) := by decide +kernel
theorem dX5_locator_27 : decode cX5_locator 27 = .ok (.aload_n 0, 1) := by decide +kernel
theorem dX5_locator_28 : decode cX5_locator 28 = .ok (.aload_n 0, 1) := by decide +kernel
theorem dX5_locator_29 : decode cX5_locator 29 = .ok (.getfield 42, 3) := by decide +kernel
theorem dX5_locator_32 : decode cX5_locator 32 = .ok (.iload_n 1, 1) := by decide +kernel
theorem dX5_locator_33 : decode cX5_locator 33 = .ok (.invokevirtual 169, 3) := by decide +kernel
theorem dX5_locator_36 : decode cX5_locator 36 = .ok (.invokevirtual 175, 3) := by decide +kernel
theorem dX5_locator_39 : decode cX5_locator 39 = .ok (.iload_n 2, 1) := by decide +kernel
theorem dX5_locator_40 : decode cX5_locator 40 = .ok (.ifCond .lt 23, 3) := by decide +kernel
theorem dX5_locator_43 : decode cX5_locator 43 = .ok (.iload_n 2, 1) := by decide +kernel
theorem dX5_locator_44 : decode cX5_locator 44 = .ok (.aload_n 0, 1) := by decide +kernel
theorem dX5_locator_45 : decode cX5_locator 45 = .ok (.getfield 55, 3) := by decide +kernel
theorem dX5_locator_48 : decode cX5_locator 48 = .ok (.invokevirtual 142, 3) := by decide +kernel
theorem dX5_locator_51 : decode cX5_locator 51 = .ok (.if_icmp .ge 12, 3) := by decide +kernel
theorem dX5_locator_54 : decode cX5_locator 54 = .ok (.iload_n 3, 1) := by decide +kernel
theorem dX5_locator_55 : decode cX5_locator 55 = .ok (.ifCond .lt 8, 3) := by decide +kernel
theorem dX5_locator_58 : decode cX5_locator 58 = .ok (.iload_n 3, 1) := by decide +kernel
theorem dX5_locator_59 : decode cX5_locator 59 = .ok (.iconst 2, 1) := by decide +kernel
theorem dX5_locator_60 : decode cX5_locator 60 = .ok (.if_icmp .le 11, 3) := by decide +kernel
theorem dX5_locator_63 : decode cX5_locator 63 = .ok (.new 166, 3) := by decide +kernel
theorem dX5_locator_66 : decode cX5_locator 66 = .ok (.dup, 1) := by decide +kernel
theorem dX5_locator_67 : decode cX5_locator 67 = .ok (.invokespecial 168, 3) := by decide +kernel
theorem dX5_locator_70 : decode cX5_locator 70 = .ok (.athrow, 1) := by decide +kernel
theorem dX5_locator_71 : decode cX5_locator 71 = .ok (.aload_n 0, 1) := by decide +kernel
theorem dX5_locator_72 : decode cX5_locator 72 = .ok (.getfield 55, 3) := by decide +kernel
theorem dX5_locator_75 : decode cX5_locator 75 = .ok (.iload_n 2, 1) := by decide +kernel
theorem dX5_locator_76 : decode cX5_locator 76 = .ok (.invokevirtual 184, 3) := by decide +kernel
theorem dX5_locator_79 : decode cX5_locator 79 = .ok (.istore 4, 2) := by decide +kernel
theorem dX5_locator_81 : decode cX5_locator 81 = .ok (.iload_n 3, 1) := by decide +kernel
theorem dX5_locator_82 : decode cX5_locator 82 = .ok (.ifCond .ne 9, 3) := by decide +kernel
theorem dX5_locator_85 : decode cX5_locator 85 = .ok (.iload 4, 2) := by decide +kernel
theorem dX5_locator_87 : decode cX5_locator 87 = .ok (.ldc 137, 2) := by decide +kernel
theorem dX5_locator_89 : decode cX5_locator 89 = .ok (.idiv, 1) := by decide +kernel
theorem dX5_locator_90 : decode cX5_locator 90 = .ok (.ireturn, 1) := by decide +kernel
theorem dX5_locator_91 : decode cX5_locator 91 = .ok (.iload_n 3, 1) := by decide +kernel
theorem dX5_locator_92 : decode cX5_locator 92 = .ok (.iconst 1, 1) := by decide +kernel
theorem dX5_locator_93 : decode cX5_locator 93 = .ok (.if_icmp .ne 8, 3) := by decide +kernel
theorem dX5_locator_96 : decode cX5_locator 96 = .ok (.iload 4, 2) := by decide +kernel
theorem dX5_locator_98 : decode cX5_locator 98 = .ok (.goto 11, 3) := by decide +kernel
theorem dX5_locator_101 : decode cX5_locator 101 = .ok (.aload_n 0, 1) := by decide +kernel
theorem dX5_locator_102 : decode cX5_locator 102 = .ok (.getfield 55, 3) := by decide +kernel
theorem dX5_locator_105 : decode cX5_locator 105 = .ok (.iload_n 2, 1) := by decide +kernel
theorem dX5_locator_106 : decode cX5_locator 106 = .ok (.invokevirtual 187, 3) := by decide +kernel
theorem dX5_locator_109 : decode cX5_locator 109 = .ok (.ldc 137, 2) := by decide +kernel
theorem dX5_locator_111 : decode cX5_locator 111 = .ok (.irem, 1) := by decide +kernel
theorem dX5_locator_112 : decode cX5_locator 112 = .ok (.ireturn, 1) := by decide +kernel
theorem dX5_compare_0 : decode cX5_compare 0 = .ok (.aload_n 0, 1) := by decide +kernel
theorem dX5_compare_1 : decode cX5_compare 1 = .ok (.iload_n 1, 1) := by decide +kernel
theorem dX5_compare_2 : decode cX5_compare 2 = .ok (.invokevirtual 104, 3) := by decide +kernel
theorem dX5_compare_5 : decode cX5_compare 5 = .ok (.aload_n 0, 1) := by decide +kernel
theorem dX5_compare_6 : decode cX5_compare 6 = .ok (.iload_n 2, 1) := by decide +kernel
theorem dX5_compare_7 : decode cX5_compare 7 = .ok (.invokevirtual 104, 3) := by decide +kernel
theorem dX5_compare_10 : decode cX5_compare 10 = .ok (.aload_n 0, 1) := by decide +kernel
theorem dX5_compare_11 : decode cX5_compare 11 = .ok (.iload_n 1, 1) := by decide +kernel
theorem dX5_compare_12 : decode cX5_compare 12 = .ok (.invokevirtual 107, 3) := by decide +kernel
theorem dX5_compare_15 : decode cX5_compare 15 = .ok (.aload_n 0, 1) := by decide +kernel
theorem dX5_compare_16 : decode cX5_compare 16 = .ok (.iload_n 2, 1) := by decide +kernel
theorem dX5_compare_17 : decode cX5_compare 17 = .ok (.invokevirtual 107, 3) := by decide +kernel
theorem dX5_compare_20 : decode cX5_compare 20 = .ok (.invokevirtual 190, 3) := by decide +kernel
theorem dX5_compare_23 : decode cX5_compare 23 = .ok (.ireturn, 1) := by decide +kernel
theorem dX5_told_0 : decode cX5_told 0 = .ok (.aload_n 0, 1) := by decide +kernel
theorem dX5_told_1 : decode cX5_told 1 = .ok (.invokevirtual 163, 3) := by decide +kernel
theorem dX5_told_4 : decode cX5_told 4 = .ok (.aload_n 0, 1) := by decide +kernel
theorem dX5_told_5 : decode cX5_told 5 = .ok (.invokevirtual 194, 3) := by decide +kernel
theorem dX5_told_8 : decode cX5_told 8 = .ok (.aload_n 0, 1) := by decide +kernel
theorem dX5_told_9 : decode cX5_told 9 = .ok (.getfield 67, 3) := by decide +kernel
theorem dX5_told_12 : decode cX5_told 12 = .ok (.iload_n 1, 1) := by decide +kernel
theorem dX5_told_13 : decode cX5_told 13 = .ok (.invokevirtual 197, 3) := by decide +kernel
theorem dX5_told_16 : decode cX5_told 16 = .ok (.iconst 0, 1) := by decide +kernel
theorem dX5_told_17 : decode cX5_told 17 = .ok (.istore_n 3, 1) := by decide +kernel
theorem dX5_told_18 : decode cX5_told 18 = .ok (.iload_n 3, 1) := by decide +kernel
theorem dX5_told_19 : decode cX5_told 19 = .ok (.aload_n 0, 1) := by decide +kernel
theorem dX5_told_20 : decode cX5_told 20 = .ok (.getfield 22, 3) := by decide +kernel
theorem dX5_told_23 : decode cX5_told 23 = .ok (.if_icmp .ge 14, 3) := by decide +kernel
theorem dX5_told_26 : decode cX5_told 26 = .ok (.aload_n 0, 1) := by decide +kernel
theorem dX5_told_27 : decode cX5_told 27 = .ok (.iload_n 3, 1) := by decide +kernel
theorem dX5_told_28 : decode cX5_told 28 = .ok (.invokevirtual 200, 3) := by decide +kernel
theorem dX5_told_31 : decode cX5_told 31 = .ok (.iinc 3 1, 3) := by decide +kernel
theorem dX5_told_34 : decode cX5_told 34 = .ok (.goto (-16), 3) := by decide +kernel
theorem dX5_told_37 : decode cX5_told 37 = .ok (.iload_n 1, 1) := by decide +kernel
theorem dX5_told_38 : decode cX5_told 38 = .ok (.iconst (-1), 1) := by decide +kernel
theorem dX5_told_39 : decode cX5_told 39 = .ok (.if_icmp .ne 11, 3) := by decide +kernel
theorem dX5_told_42 : decode cX5_told 42 = .ok (.aload_n 0, 1) := by decide +kernel
theorem dX5_told_43 : decode cX5_told 43 = .ok (.getfield 67, 3) := by decide +kernel
theorem dX5_told_46 : decode cX5_told 46 = .ok (.getfield 203, 3) := by decide +kernel
theorem dX5_told_49 : decode cX5_told 49 = .ok (.ireturn, 1) := by decide +kernel
theorem dX5_told_50 : decode cX5_told 50 = .ok (.iload_n 1, 1) := by decide +kernel
theorem dX5_told_51 : decode cX5_told 51 = .ok (.ifCond .lt 23, 3) := by decide +kernel
theorem dX5_told_54 : decode cX5_told 54 = .ok (.iload_n 1, 1) := by decide +kernel
theorem dX5_told_55 : decode cX5_told 55 = .ok (.aload_n 0, 1) := by decide +kernel
theorem dX5_told_56 : decode cX5_told 56 = .ok (.getfield 67, 3) := by decide +kernel
theorem dX5_told_59 : decode cX5_told 59 = .ok (.getfield 203, 3) := by decide +kernel
theorem dX5_told_62 : decode cX5_told 62 = .ok (.if_icmp .ge 12, 3) := by decide +kernel
theorem dX5_told_65 : decode cX5_told 65 = .ok (.iload_n 2, 1) := by decide +kernel
theorem dX5_told_66 : decode cX5_told 66 = .ok (.ifCond .lt 8, 3) := by decide +kernel
theorem dX5_told_69 : decode cX5_told 69 = .ok (.iload_n 2, 1) := by decide +kernel
theorem dX5_told_70 : decode cX5_told 70 = .ok (.iconst 2, 1) := by decide +kernel
theorem dX5_told_71 : decode cX5_told 71 = .ok (.if_icmp .le 11, 3) := by decide +kernel
theorem dX5_told_74 : decode cX5_told 74 = .ok (.new 166, 3) := by decide +kernel
theorem dX5_told_77 : decode cX5_told 77 = .ok (.dup, 1) := by decide +kernel
theorem dX5_told_78 : decode cX5_told 78 = .ok (.invokespecial 168, 3) := by decide +kernel
theorem dX5_told_81 : decode cX5_told 81 = .ok (.athrow, 1) := by decide +kernel
theorem dX5_told_82 : decode cX5_told 82 = .ok (.iload_n 2, 1) := by decide +kernel
theorem dX5_told_83 : decode cX5_told 83 = .ok (.ifCond .ne 11, 3) := by decide +kernel
theorem dX5_told_86 : decode cX5_told 86 = .ok (.aload_n 0, 1) := by decide +kernel
theorem dX5_told_87 : decode cX5_told 87 = .ok (.getfield 67, 3) := by decide +kernel
theorem dX5_told_90 : decode cX5_told 90 = .ok (.getfield 206, 3) := by decide +kernel
theorem dX5_told_93 : decode cX5_told 93 = .ok (.ireturn, 1) := by decide +kernel
theorem dX5_told_94 : decode cX5_told 94 = .ok (.iload_n 2, 1) := by decide +kernel
theorem dX5_told_95 : decode cX5_told 95 = .ok (.iconst 1, 1) := by decide +kernel
theorem dX5_told_96 : decode cX5_told 96 = .ok (.if_icmp .ne 13, 3) := by decide +kernel
theorem dX5_told_99 : decode cX5_told 99 = .ok (.aload_n 0, 1) := by decide +kernel
theorem dX5_told_100 : decode cX5_told 100 = .ok (.getfield 67, 3) := by decide +kernel
theorem dX5_told_103 : decode cX5_told 103 = .ok (.getfield 209, 3) := by decide +kernel
theorem dX5_told_106 : decode cX5_told 106 = .ok (.goto 10, 3) := by decide +kernel
theorem dX5_told_109 : decode cX5_told 109 = .ok (.aload_n 0, 1) := by decide +kernel
theorem dX5_told_110 : decode cX5_told 110 = .ok (.getfield 67, 3) := by decide +kernel
theorem dX5_told_113 : decode cX5_told 113 = .ok (.getfield 212, 3) := by decide +kernel
theorem dX5_told_116 : decode cX5_told 116 = .ok (.ireturn, 1) := by decide +kernel
theorem dX5_style_0 : decode cX5_style 0 = .ok (.iload_n 1, 1) := by decide +kernel
theorem dX5_style_1 : decode cX5_style 1 = .ok (.ifCond .lt 9, 3) := by decide +kernel
theorem dX5_style_4 : decode cX5_style 4 = .ok (.iload_n 1, 1) := by decide +kernel
theorem dX5_style_5 : decode cX5_style 5 = .ok (.bipush 127, 2) := by decide +kernel
theorem dX5_style_7 : decode cX5_style 7 = .ok (.if_icmp .le 11, 3) := by decide +kernel
theorem dX5_style_10 : decode cX5_style 10 = .ok (.new 95, 3) := by decide +kernel
theorem dX5_style_13 : decode cX5_style 13 = .ok (.dup, 1) := by decide +kernel
theorem dX5_style_14 : decode cX5_style 14 = .ok (.invokespecial 97, 3) := by decide +kernel
theorem dX5_style_17 : decode cX5_style 17 = .ok (.athrow, 1) := by decide +kernel
theorem dX5_style_18 : decode cX5_style 18 = .ok (.iload_n 1, 1) := by decide +kernel
theorem dX5_style_19 : decode cX5_style 19 = .ok (.ifCond .ne 12, 3) := by decide +kernel
theorem dX5_style_22 : decode cX5_style 22 = .ok (.aload_n 0, 1) := by decide +kernel
theorem dX5_style_23 : decode cX5_style 23 = .ok (.getfield 71, 3) := by decide +kernel
theorem dX5_style_26 : decode cX5_style 26 = .ok (.invokevirtual 215, 3) := by decide +kernel
theorem dX5_style_29 : decode cX5_style 29 = .ok (.iconst 0, 1) := by decide +kernel
theorem dX5_style_30 : decode cX5_style 30 = .ok (.ireturn, 1) := by decide +kernel
theorem dX5_style_31 : decode cX5_style 31 = .ok (.aload_n 0, 1) := by decide +kernel
theorem dX5_style_32 : decode cX5_style 32 = .ok (.getfield 71, 3) := by decide +kernel
theorem dX5_style_35 : decode cX5_style 35 = .ok (.invokevirtual 114, 3) := by decide +kernel
theorem dX5_style_38 : decode cX5_style 38 = .ok (.ifCond .eq 11, 3) := by decide +kernel
theorem dX5_style_41 : decode cX5_style 41 = .ok (.new 98, 3) := by decide +kernel
theorem dX5_style_44 : decode cX5_style 44 = .ok (.dup, 1) := by decide +kernel
theorem dX5_style_45 : decode cX5_style 45 = .ok (.invokespecial 100, 3) := by decide +kernel
theorem dX5_style_48 : decode cX5_style 48 = .ok (.athrow, 1) := by decide +kernel
theorem dX5_style_49 : decode cX5_style 49 = .ok (.aload_n 0, 1) := by decide +kernel
theorem dX5_style_50 : decode cX5_style 50 = .ok (.getfield 71, 3) := by decide +kernel
theorem dX5_style_53 : decode cX5_style 53 = .ok (.iload_n 1, 1) := by decide +kernel
theorem dX5_style_54 : decode cX5_style 54 = .ok (.invokevirtual 158, 3) := by decide +kernel
theorem dX5_style_57 : decode cX5_style 57 = .ok (.aload_n 0, 1) := by decide +kernel
theorem dX5_style_58 : decode cX5_style 58 = .ok (.getfield 71, 3) := by decide +kernel
theorem dX5_style_61 : decode cX5_style 61 = .ok (.invokevirtual 125, 3) := by decide +kernel
theorem dX5_style_64 : decode cX5_style 64 = .ok (.ireturn, 1) := by decide +kernel
theorem dX5_print_0 : decode cX5_print 0 = .ok (.aload_n 0, 1) := by decide +kernel
theorem dX5_print_1 : decode cX5_print 1 = .ok (.invokevirtual 218, 3) := by decide +kernel
theorem dX5_print_4 : decode cX5_print 4 = .ok (.istore_n 1, 1) := by decide +kernel
theorem dX5_print_5 : decode cX5_print 5 = .ok (.iload_n 1, 1) := by decide +kernel
theorem dX5_print_6 : decode cX5_print 6 = .ok (.ifCond .lt 7, 3) := by decide +kernel
theorem dX5_print_9 : decode cX5_print 9 = .ok (.iconst (-1), 1) := by decide +kernel
theorem dX5_print_10 : decode cX5_print 10 = .ok (.iload_n 1, 1) := by decide +kernel
theorem dX5_print_11 : decode cX5_print 11 = .ok (.isub, 1) := by decide +kernel
theorem dX5_print_12 : decode cX5_print 12 = .ok (.ireturn, 1) := by decide +kernel
theorem dX5_print_13 : decode cX5_print 13 = .ok (.aload_n 0, 1) := by decide +kernel
theorem dX5_print_14 : decode cX5_print 14 = .ok (.invokevirtual 163, 3) := by decide +kernel
theorem dX5_print_17 : decode cX5_print 17 = .ok (.aload_n 0, 1) := by decide +kernel
theorem dX5_print_18 : decode cX5_print 18 = .ok (.getfield 81, 3) := by decide +kernel
theorem dX5_print_21 : decode cX5_print 21 = .ok (.invokevirtual 221, 3) := by decide +kernel
theorem dX5_print_24 : decode cX5_print 24 = .ok (.iconst (-1), 1) := by decide +kernel
theorem dX5_print_25 : decode cX5_print 25 = .ok (.istore_n 2, 1) := by decide +kernel
theorem dX5_print_26 : decode cX5_print 26 = .ok (.iconst 0, 1) := by decide +kernel
theorem dX5_print_27 : decode cX5_print 27 = .ok (.istore_n 3, 1) := by decide +kernel
theorem dX5_print_28 : decode cX5_print 28 = .ok (.iload_n 3, 1) := by decide +kernel
theorem dX5_print_29 : decode cX5_print 29 = .ok (.aload_n 0, 1) := by decide +kernel
theorem dX5_print_30 : decode cX5_print 30 = .ok (.getfield 42, 3) := by decide +kernel
theorem dX5_print_33 : decode cX5_print 33 = .ok (.invokevirtual 125, 3) := by decide +kernel
theorem dX5_print_36 : decode cX5_print 36 = .ok (.if_icmp .ge 95, 3) := by decide +kernel
theorem dX5_print_39 : decode cX5_print 39 = .ok (.aload_n 0, 1) := by decide +kernel
theorem dX5_print_40 : decode cX5_print 40 = .ok (.getfield 81, 3) := by decide +kernel
theorem dX5_print_43 : decode cX5_print 43 = .ok (.getfield 222, 3) := by decide +kernel
theorem dX5_print_46 : decode cX5_print 46 = .ok (.ifCond .ne 85, 3) := by decide +kernel
theorem dX5_print_49 : decode cX5_print 49 = .ok (.aload_n 0, 1) := by decide +kernel
theorem dX5_print_50 : decode cX5_print 50 = .ok (.getfield 42, 3) := by decide +kernel
theorem dX5_print_53 : decode cX5_print 53 = .ok (.iload_n 3, 1) := by decide +kernel
theorem dX5_print_54 : decode cX5_print 54 = .ok (.invokevirtual 169, 3) := by decide +kernel
theorem dX5_print_57 : decode cX5_print 57 = .ok (.istore 4, 2) := by decide +kernel
theorem dX5_print_59 : decode cX5_print 59 = .ok (.aload_n 0, 1) := by decide +kernel
theorem dX5_print_60 : decode cX5_print 60 = .ok (.iload 4, 2) := by decide +kernel
theorem dX5_print_62 : decode cX5_print 62 = .ok (.invokevirtual 107, 3) := by decide +kernel
theorem dX5_print_65 : decode cX5_print 65 = .ok (.getfield 172, 3) := by decide +kernel
theorem dX5_print_68 : decode cX5_print 68 = .ok (.istore 5, 2) := by decide +kernel
theorem dX5_print_70 : decode cX5_print 70 = .ok (.aload_n 0, 1) := by decide +kernel
theorem dX5_print_71 : decode cX5_print 71 = .ok (.iload 4, 2) := by decide +kernel
theorem dX5_print_73 : decode cX5_print 73 = .ok (.invokevirtual 181, 3) := by decide +kernel
theorem dX5_print_76 : decode cX5_print 76 = .ok (.istore 6, 2) := by decide +kernel
theorem dX5_print_78 : decode cX5_print 78 = .ok (.aload_n 0, 1) := by decide +kernel
theorem dX5_print_79 : decode cX5_print 79 = .ok (.iload 4, 2) := by decide +kernel
theorem dX5_print_81 : decode cX5_print 81 = .ok (.invokevirtual 175, 3) := by decide +kernel
theorem dX5_print_84 : decode cX5_print 84 = .ok (.aload_n 0, 1) := by decide +kernel
theorem dX5_print_85 : decode cX5_print 85 = .ok (.iload 4, 2) := by decide +kernel
theorem dX5_print_87 : decode cX5_print 87 = .ok (.invokevirtual 178, 3) := by decide +kernel
theorem dX5_print_90 : decode cX5_print 90 = .ok (.iload 5, 2) := by decide +kernel
theorem dX5_print_92 : decode cX5_print 92 = .ok (.ifCond .ne 21, 3) := by decide +kernel
theorem dX5_print_95 : decode cX5_print 95 = .ok (.iload 6, 2) := by decide +kernel
theorem dX5_print_97 : decode cX5_print 97 = .ok (.iload_n 2, 1) := by decide +kernel
theorem dX5_print_98 : decode cX5_print 98 = .ok (.if_icmp .eq 15, 3) := by decide +kernel
theorem dX5_print_101 : decode cX5_print 101 = .ok (.aload_n 0, 1) := by decide +kernel
theorem dX5_print_102 : decode cX5_print 102 = .ok (.iconst 0, 1) := by decide +kernel
theorem dX5_print_103 : decode cX5_print 103 = .ok (.iload 4, 2) := by decide +kernel
theorem dX5_print_105 : decode cX5_print 105 = .ok (.iload 6, 2) := by decide +kernel
theorem dX5_print_107 : decode cX5_print 107 = .ok (.invokevirtual 225, 3) := by decide +kernel
theorem dX5_print_110 : decode cX5_print 110 = .ok (.iload 6, 2) := by decide +kernel
theorem dX5_print_112 : decode cX5_print 112 = .ok (.istore_n 2, 1) := by decide +kernel
theorem dX5_print_113 : decode cX5_print 113 = .ok (.aload_n 0, 1) := by decide +kernel
theorem dX5_print_114 : decode cX5_print 114 = .ok (.iconst 1, 1) := by decide +kernel
theorem dX5_print_115 : decode cX5_print 115 = .ok (.iload 5, 2) := by decide +kernel
theorem dX5_print_117 : decode cX5_print 117 = .ok (.iadd, 1) := by decide +kernel
theorem dX5_print_118 : decode cX5_print 118 = .ok (.iload 4, 2) := by decide +kernel
theorem dX5_print_120 : decode cX5_print 120 = .ok (.iload 6, 2) := by decide +kernel
theorem dX5_print_122 : decode cX5_print 122 = .ok (.invokevirtual 225, 3) := by decide +kernel
theorem dX5_print_125 : decode cX5_print 125 = .ok (.iinc 3 1, 3) := by decide +kernel
theorem dX5_print_128 : decode cX5_print 128 = .ok (.goto (-100), 3) := by decide +kernel
theorem dX5_print_131 : decode cX5_print 131 = .ok (.aload_n 0, 1) := by decide +kernel
theorem dX5_print_132 : decode cX5_print 132 = .ok (.getfield 81, 3) := by decide +kernel
theorem dX5_print_135 : decode cX5_print 135 = .ok (.getfield 222, 3) := by decide +kernel
theorem dX5_print_138 : decode cX5_print 138 = .ok (.ifCond .eq 11, 3) := by decide +kernel
theorem dX5_print_141 : decode cX5_print 141 = .ok (.new 98, 3) := by decide +kernel
theorem dX5_print_144 : decode cX5_print 144 = .ok (.dup, 1) := by decide +kernel
theorem dX5_print_145 : decode cX5_print 145 = .ok (.invokespecial 100, 3) := by decide +kernel
theorem dX5_print_148 : decode cX5_print 148 = .ok (.athrow, 1) := by decide +kernel
theorem dX5_print_149 : decode cX5_print 149 = .ok (.aload_n 0, 1) := by decide +kernel
theorem dX5_print_150 : decode cX5_print 150 = .ok (.getfield 77, 3) := by decide +kernel
theorem dX5_print_153 : decode cX5_print 153 = .ok (.astore_n 3, 1) := by decide +kernel
theorem dX5_print_154 : decode cX5_print 154 = .ok (.aload_n 0, 1) := by decide +kernel
theorem dX5_print_155 : decode cX5_print 155 = .ok (.aload_n 0, 1) := by decide +kernel
theorem dX5_print_156 : decode cX5_print 156 = .ok (.getfield 81, 3) := by decide +kernel
theorem dX5_print_159 : decode cX5_print 159 = .ok (.putfield 77, 3) := by decide +kernel
theorem dX5_print_162 : decode cX5_print 162 = .ok (.aload_n 0, 1) := by decide +kernel
theorem dX5_print_163 : decode cX5_print 163 = .ok (.aload_n 3, 1) := by decide +kernel
theorem dX5_print_164 : decode cX5_print 164 = .ok (.putfield 81, 3) := by decide +kernel
theorem dX5_print_167 : decode cX5_print 167 = .ok (.aload_n 0, 1) := by decide +kernel
theorem dX5_print_168 : decode cX5_print 168 = .ok (.getfield 77, 3) := by decide +kernel
theorem dX5_print_171 : decode cX5_print 171 = .ok (.invokevirtual 229, 3) := by decide +kernel
theorem dX5_print_174 : decode cX5_print 174 = .ok (.ireturn, 1) := by decide +kernel
theorem dX5_at_0 : decode cX5_at 0 = .ok (.iload_n 1, 1) := by decide +kernel
theorem dX5_at_1 : decode cX5_at 1 = .ok (.ifCond .lt 14, 3) := by decide +kernel
theorem dX5_at_4 : decode cX5_at 4 = .ok (.iload_n 1, 1) := by decide +kernel
theorem dX5_at_5 : decode cX5_at 5 = .ok (.aload_n 0, 1) := by decide +kernel
theorem dX5_at_6 : decode cX5_at 6 = .ok (.getfield 77, 3) := by decide +kernel
theorem dX5_at_9 : decode cX5_at 9 = .ok (.invokevirtual 229, 3) := by decide +kernel
theorem dX5_at_12 : decode cX5_at 12 = .ok (.if_icmp .lt 11, 3) := by decide +kernel
theorem dX5_at_15 : decode cX5_at 15 = .ok (.new 230, 3) := by decide +kernel
theorem dX5_at_18 : decode cX5_at 18 = .ok (.dup, 1) := by decide +kernel
theorem dX5_at_19 : decode cX5_at 19 = .ok (.invokespecial 232, 3) := by decide +kernel
theorem dX5_at_22 : decode cX5_at 22 = .ok (.athrow, 1) := by decide +kernel
theorem dX5_at_23 : decode cX5_at 23 = .ok (.aload_n 0, 1) := by decide +kernel
theorem dX5_at_24 : decode cX5_at 24 = .ok (.getfield 77, 3) := by decide +kernel
theorem dX5_at_27 : decode cX5_at 27 = .ok (.iload_n 1, 1) := by decide +kernel
theorem dX5_at_28 : decode cX5_at 28 = .ok (.invokevirtual 233, 3) := by decide +kernel
theorem dX5_at_31 : decode cX5_at 31 = .ok (.ireturn, 1) := by decide +kernel
theorem dX5_isEntry_0 : decode cX5_isEntry 0 = .ok (.iload_n 1, 1) := by decide +kernel
theorem dX5_isEntry_1 : decode cX5_isEntry 1 = .ok (.ifCond .lt 15, 3) := by decide +kernel
theorem dX5_isEntry_4 : decode cX5_isEntry 4 = .ok (.iload_n 1, 1) := by decide +kernel
theorem dX5_isEntry_5 : decode cX5_isEntry 5 = .ok (.aload_n 0, 1) := by decide +kernel
theorem dX5_isEntry_6 : decode cX5_isEntry 6 = .ok (.getfield 22, 3) := by decide +kernel
theorem dX5_isEntry_9 : decode cX5_isEntry 9 = .ok (.if_icmp .ge 7, 3) := by decide +kernel
theorem dX5_isEntry_12 : decode cX5_isEntry 12 = .ok (.iconst 1, 1) := by decide +kernel
theorem dX5_isEntry_13 : decode cX5_isEntry 13 = .ok (.goto 4, 3) := by decide +kernel
theorem dX5_isEntry_16 : decode cX5_isEntry 16 = .ok (.iconst 0, 1) := by decide +kernel
theorem dX5_isEntry_17 : decode cX5_isEntry 17 = .ok (.ireturn, 1) := by decide +kernel
theorem dX5_needEntry_0 : decode cX5_needEntry 0 = .ok (.aload_n 0, 1) := by decide +kernel
theorem dX5_needEntry_1 : decode cX5_needEntry 1 = .ok (.iload_n 1, 1) := by decide +kernel
theorem dX5_needEntry_2 : decode cX5_needEntry 2 = .ok (.invokevirtual 84, 3) := by decide +kernel
theorem dX5_needEntry_5 : decode cX5_needEntry 5 = .ok (.ifCond .ne 11, 3) := by decide +kernel
theorem dX5_needEntry_8 : decode cX5_needEntry 8 = .ok (.new 88, 3) := by decide +kernel
theorem dX5_needEntry_11 : decode cX5_needEntry 11 = .ok (.dup, 1) := by decide +kernel
theorem dX5_needEntry_12 : decode cX5_needEntry 12 = .ok (.invokespecial 90, 3) := by decide +kernel
theorem dX5_needEntry_15 : decode cX5_needEntry 15 = .ok (.athrow, 1) := by decide +kernel
theorem dX5_needEntry_16 : decode cX5_needEntry 16 = .ok (.return_, 1) := by decide +kernel
theorem dX5_isLevelBefore_0 : decode cX5_isLevelBefore 0 = .ok (.iload_n 2, 1) := by decide +kernel
theorem dX5_isLevelBefore_1 : decode cX5_isLevelBefore 1 = .ok (.ifCond .ne 16, 3) := by decide +kernel
theorem dX5_isLevelBefore_4 : decode cX5_isLevelBefore 4 = .ok (.iload_n 1, 1) := by decide +kernel
theorem dX5_isLevelBefore_5 : decode cX5_isLevelBefore 5 = .ok (.iconst (-1), 1) := by decide +kernel
theorem dX5_isLevelBefore_6 : decode cX5_isLevelBefore 6 = .ok (.if_icmp .ne 7, 3) := by decide +kernel
theorem dX5_isLevelBefore_9 : decode cX5_isLevelBefore 9 = .ok (.iconst 1, 1) := by decide +kernel
theorem dX5_isLevelBefore_10 : decode cX5_isLevelBefore 10 = .ok (.goto 31, 3) := by decide +kernel
theorem dX5_isLevelBefore_13 : decode cX5_isLevelBefore 13 = .ok (.iconst 0, 1) := by decide +kernel
theorem dX5_isLevelBefore_14 : decode cX5_isLevelBefore 14 = .ok (.goto 27, 3) := by decide +kernel
theorem dX5_isLevelBefore_17 : decode cX5_isLevelBefore 17 = .ok (.iload_n 1, 1) := by decide +kernel
theorem dX5_isLevelBefore_18 : decode cX5_isLevelBefore 18 = .ok (.iconst (-1), 1) := by decide +kernel
theorem dX5_isLevelBefore_19 : decode cX5_isLevelBefore 19 = .ok (.if_icmp .eq 21, 3) := by decide +kernel
theorem dX5_isLevelBefore_22 : decode cX5_isLevelBefore 22 = .ok (.aload_n 0, 1) := by decide +kernel
theorem dX5_isLevelBefore_23 : decode cX5_isLevelBefore 23 = .ok (.iload_n 1, 1) := by decide +kernel
theorem dX5_isLevelBefore_24 : decode cX5_isLevelBefore 24 = .ok (.invokevirtual 107, 3) := by decide +kernel
theorem dX5_isLevelBefore_27 : decode cX5_isLevelBefore 27 = .ok (.getfield 172, 3) := by decide +kernel
theorem dX5_isLevelBefore_30 : decode cX5_isLevelBefore 30 = .ok (.iload_n 2, 1) := by decide +kernel
theorem dX5_isLevelBefore_31 : decode cX5_isLevelBefore 31 = .ok (.iconst 1, 1) := by decide +kernel
theorem dX5_isLevelBefore_32 : decode cX5_isLevelBefore 32 = .ok (.isub, 1) := by decide +kernel
theorem dX5_isLevelBefore_33 : decode cX5_isLevelBefore 33 = .ok (.if_icmp .ne 7, 3) := by decide +kernel
theorem dX5_isLevelBefore_36 : decode cX5_isLevelBefore 36 = .ok (.iconst 1, 1) := by decide +kernel
theorem dX5_isLevelBefore_37 : decode cX5_isLevelBefore 37 = .ok (.goto 4, 3) := by decide +kernel
theorem dX5_isLevelBefore_40 : decode cX5_isLevelBefore 40 = .ok (.iconst 0, 1) := by decide +kernel
theorem dX5_isLevelBefore_41 : decode cX5_isLevelBefore 41 = .ok (.ireturn, 1) := by decide +kernel
theorem dX5_makeKeys_0 : decode cX5_makeKeys 0 = .ok (.iconst 0, 1) := by decide +kernel
theorem dX5_makeKeys_1 : decode cX5_makeKeys 1 = .ok (.istore_n 1, 1) := by decide +kernel
theorem dX5_makeKeys_2 : decode cX5_makeKeys 2 = .ok (.iload_n 1, 1) := by decide +kernel
theorem dX5_makeKeys_3 : decode cX5_makeKeys 3 = .ok (.aload_n 0, 1) := by decide +kernel
theorem dX5_makeKeys_4 : decode cX5_makeKeys 4 = .ok (.getfield 22, 3) := by decide +kernel
theorem dX5_makeKeys_7 : decode cX5_makeKeys 7 = .ok (.if_icmp .ge 25, 3) := by decide +kernel
theorem dX5_makeKeys_10 : decode cX5_makeKeys 10 = .ok (.aload_n 0, 1) := by decide +kernel
theorem dX5_makeKeys_11 : decode cX5_makeKeys 11 = .ok (.iload_n 1, 1) := by decide +kernel
theorem dX5_makeKeys_12 : decode cX5_makeKeys 12 = .ok (.invokevirtual 107, 3) := by decide +kernel
theorem dX5_makeKeys_15 : decode cX5_makeKeys 15 = .ok (.aload_n 0, 1) := by decide +kernel
theorem dX5_makeKeys_16 : decode cX5_makeKeys 16 = .ok (.getfield 26, 3) := by decide +kernel
theorem dX5_makeKeys_19 : decode cX5_makeKeys 19 = .ok (.aload_n 0, 1) := by decide +kernel
theorem dX5_makeKeys_20 : decode cX5_makeKeys 20 = .ok (.getfield 30, 3) := by decide +kernel
theorem dX5_makeKeys_23 : decode cX5_makeKeys 23 = .ok (.invokevirtual 121, 3) := by decide +kernel
theorem dX5_makeKeys_26 : decode cX5_makeKeys 26 = .ok (.iinc 1 1, 3) := by decide +kernel
theorem dX5_makeKeys_29 : decode cX5_makeKeys 29 = .ok (.goto (-27), 3) := by decide +kernel
theorem dX5_makeKeys_32 : decode cX5_makeKeys 32 = .ok (.return_, 1) := by decide +kernel
theorem dX5_forgetRows_0 : decode cX5_forgetRows 0 = .ok (.aload_n 0, 1) := by decide +kernel
theorem dX5_forgetRows_1 : decode cX5_forgetRows 1 = .ok (.iconst 0, 1) := by decide +kernel
theorem dX5_forgetRows_2 : decode cX5_forgetRows 2 = .ok (.putfield 45, 3) := by decide +kernel
theorem dX5_forgetRows_5 : decode cX5_forgetRows 5 = .ok (.aload_n 0, 1) := by decide +kernel
theorem dX5_forgetRows_6 : decode cX5_forgetRows 6 = .ok (.iconst (-1), 1) := by decide +kernel
theorem dX5_forgetRows_7 : decode cX5_forgetRows 7 = .ok (.putfield 58, 3) := by decide +kernel
theorem dX5_forgetRows_10 : decode cX5_forgetRows 10 = .ok (.return_, 1) := by decide +kernel
theorem dX5_findRows_0 : decode cX5_findRows 0 = .ok (.aload_n 0, 1) := by decide +kernel
theorem dX5_findRows_1 : decode cX5_findRows 1 = .ok (.getfield 45, 3) := by decide +kernel
theorem dX5_findRows_4 : decode cX5_findRows 4 = .ok (.ifCond .eq 4, 3) := by decide +kernel
theorem dX5_findRows_7 : decode cX5_findRows 7 = .ok (.return_, 1) := by decide +kernel
theorem dX5_findRows_8 : decode cX5_findRows 8 = .ok (.iconst 0, 1) := by decide +kernel
theorem dX5_findRows_9 : decode cX5_findRows 9 = .ok (.istore_n 1, 1) := by decide +kernel
theorem dX5_findRows_10 : decode cX5_findRows 10 = .ok (.iload_n 1, 1) := by decide +kernel
theorem dX5_findRows_11 : decode cX5_findRows 11 = .ok (.aload_n 0, 1) := by decide +kernel
theorem dX5_findRows_12 : decode cX5_findRows 12 = .ok (.getfield 22, 3) := by decide +kernel
theorem dX5_findRows_15 : decode cX5_findRows 15 = .ok (.if_icmp .ge 22, 3) := by decide +kernel
theorem dX5_findRows_18 : decode cX5_findRows 18 = .ok (.aload_n 0, 1) := by decide +kernel
theorem dX5_findRows_19 : decode cX5_findRows 19 = .ok (.iload_n 1, 1) := by decide +kernel
theorem dX5_findRows_20 : decode cX5_findRows 20 = .ok (.invokevirtual 107, 3) := by decide +kernel
theorem dX5_findRows_23 : decode cX5_findRows 23 = .ok (.aload_n 0, 1) := by decide +kernel
theorem dX5_findRows_24 : decode cX5_findRows 24 = .ok (.iload_n 1, 1) := by decide +kernel
theorem dX5_findRows_25 : decode cX5_findRows 25 = .ok (.invokevirtual 235, 3) := by decide +kernel
theorem dX5_findRows_28 : decode cX5_findRows 28 = .ok (.putfield 238, 3) := by decide +kernel
theorem dX5_findRows_31 : decode cX5_findRows 31 = .ok (.iinc 1 1, 3) := by decide +kernel
theorem dX5_findRows_34 : decode cX5_findRows 34 = .ok (.goto (-24), 3) := by decide +kernel
theorem dX5_findRows_37 : decode cX5_findRows 37 = .ok (.aload_n 0, 1) := by decide +kernel
theorem dX5_findRows_38 : decode cX5_findRows 38 = .ok (.invokevirtual 241, 3) := by decide +kernel
theorem dX5_findRows_41 : decode cX5_findRows 41 = .ok (.aload_n 0, 1) := by decide +kernel
theorem dX5_findRows_42 : decode cX5_findRows 42 = .ok (.getfield 42, 3) := by decide +kernel
theorem dX5_findRows_45 : decode cX5_findRows 45 = .ok (.invokevirtual 215, 3) := by decide +kernel
theorem dX5_findRows_48 : decode cX5_findRows 48 = .ok (.aload_n 0, 1) := by decide +kernel
theorem dX5_findRows_49 : decode cX5_findRows 49 = .ok (.iconst (-1), 1) := by decide +kernel
theorem dX5_findRows_50 : decode cX5_findRows 50 = .ok (.iconst 0, 1) := by decide +kernel
theorem dX5_findRows_51 : decode cX5_findRows 51 = .ok (.invokevirtual 244, 3) := by decide +kernel
theorem dX5_findRows_54 : decode cX5_findRows 54 = .ok (.aload_n 0, 1) := by decide +kernel
theorem dX5_findRows_55 : decode cX5_findRows 55 = .ok (.iconst 1, 1) := by decide +kernel
theorem dX5_findRows_56 : decode cX5_findRows 56 = .ok (.putfield 45, 3) := by decide +kernel
theorem dX5_findRows_59 : decode cX5_findRows 59 = .ok (.return_, 1) := by decide +kernel
theorem dX5_sortFirsts_0 : decode cX5_sortFirsts 0 = .ok (.aload_n 0, 1) := by decide +kernel
theorem dX5_sortFirsts_1 : decode cX5_sortFirsts 1 = .ok (.getfield 38, 3) := by decide +kernel
theorem dX5_sortFirsts_4 : decode cX5_sortFirsts 4 = .ok (.invokevirtual 215, 3) := by decide +kernel
theorem dX5_sortFirsts_7 : decode cX5_sortFirsts 7 = .ok (.iconst 0, 1) := by decide +kernel
theorem dX5_sortFirsts_8 : decode cX5_sortFirsts 8 = .ok (.istore_n 1, 1) := by decide +kernel
theorem dX5_sortFirsts_9 : decode cX5_sortFirsts 9 = .ok (.iload_n 1, 1) := by decide +kernel
theorem dX5_sortFirsts_10 : decode cX5_sortFirsts 10 = .ok (.aload_n 0, 1) := by decide +kernel
theorem dX5_sortFirsts_11 : decode cX5_sortFirsts 11 = .ok (.getfield 22, 3) := by decide +kernel
theorem dX5_sortFirsts_14 : decode cX5_sortFirsts 14 = .ok (.if_icmp .ge 85, 3) := by decide +kernel
theorem dX5_sortFirsts_17 : decode cX5_sortFirsts 17 = .ok (.aload_n 0, 1) := by decide +kernel
theorem dX5_sortFirsts_18 : decode cX5_sortFirsts 18 = .ok (.iload_n 1, 1) := by decide +kernel
theorem dX5_sortFirsts_19 : decode cX5_sortFirsts 19 = .ok (.invokevirtual 254, 3) := by decide +kernel
theorem dX5_sortFirsts_22 : decode cX5_sortFirsts 22 = .ok (.iload_n 1, 1) := by decide +kernel
theorem dX5_sortFirsts_23 : decode cX5_sortFirsts 23 = .ok (.if_icmp .eq 6, 3) := by decide +kernel
theorem dX5_sortFirsts_26 : decode cX5_sortFirsts 26 = .ok (.goto 67, 3) := by decide +kernel
theorem dX5_sortFirsts_29 : decode cX5_sortFirsts 29 = .ok (.aload_n 0, 1) := by decide +kernel
theorem dX5_sortFirsts_30 : decode cX5_sortFirsts 30 = .ok (.getfield 38, 3) := by decide +kernel
theorem dX5_sortFirsts_33 : decode cX5_sortFirsts 33 = .ok (.iload_n 1, 1) := by decide +kernel
theorem dX5_sortFirsts_34 : decode cX5_sortFirsts 34 = .ok (.invokevirtual 158, 3) := by decide +kernel
theorem dX5_sortFirsts_37 : decode cX5_sortFirsts 37 = .ok (.aload_n 0, 1) := by decide +kernel
theorem dX5_sortFirsts_38 : decode cX5_sortFirsts 38 = .ok (.getfield 38, 3) := by decide +kernel
theorem dX5_sortFirsts_41 : decode cX5_sortFirsts 41 = .ok (.invokevirtual 125, 3) := by decide +kernel
theorem dX5_sortFirsts_44 : decode cX5_sortFirsts 44 = .ok (.iconst 1, 1) := by decide +kernel
theorem dX5_sortFirsts_45 : decode cX5_sortFirsts 45 = .ok (.isub, 1) := by decide +kernel
theorem dX5_sortFirsts_46 : decode cX5_sortFirsts 46 = .ok (.istore_n 2, 1) := by decide +kernel
theorem dX5_sortFirsts_47 : decode cX5_sortFirsts 47 = .ok (.iload_n 2, 1) := by decide +kernel
theorem dX5_sortFirsts_48 : decode cX5_sortFirsts 48 = .ok (.ifCond .le 45, 3) := by decide +kernel
theorem dX5_sortFirsts_51 : decode cX5_sortFirsts 51 = .ok (.aload_n 0, 1) := by decide +kernel
theorem dX5_sortFirsts_52 : decode cX5_sortFirsts 52 = .ok (.iload_n 1, 1) := by decide +kernel
theorem dX5_sortFirsts_53 : decode cX5_sortFirsts 53 = .ok (.invokevirtual 107, 3) := by decide +kernel
theorem dX5_sortFirsts_56 : decode cX5_sortFirsts 56 = .ok (.aload_n 0, 1) := by decide +kernel
theorem dX5_sortFirsts_57 : decode cX5_sortFirsts 57 = .ok (.aload_n 0, 1) := by decide +kernel
theorem dX5_sortFirsts_58 : decode cX5_sortFirsts 58 = .ok (.getfield 38, 3) := by decide +kernel
theorem dX5_sortFirsts_61 : decode cX5_sortFirsts 61 = .ok (.iload_n 2, 1) := by decide +kernel
theorem dX5_sortFirsts_62 : decode cX5_sortFirsts 62 = .ok (.iconst 1, 1) := by decide +kernel
theorem dX5_sortFirsts_63 : decode cX5_sortFirsts 63 = .ok (.isub, 1) := by decide +kernel
theorem dX5_sortFirsts_64 : decode cX5_sortFirsts 64 = .ok (.invokevirtual 169, 3) := by decide +kernel
theorem dX5_sortFirsts_67 : decode cX5_sortFirsts 67 = .ok (.invokevirtual 107, 3) := by decide +kernel
theorem dX5_sortFirsts_70 : decode cX5_sortFirsts 70 = .ok (.invokevirtual 190, 3) := by decide +kernel
theorem dX5_sortFirsts_73 : decode cX5_sortFirsts 73 = .ok (.ifCond .ge 20, 3) := by decide +kernel
theorem dX5_sortFirsts_76 : decode cX5_sortFirsts 76 = .ok (.aload_n 0, 1) := by decide +kernel
theorem dX5_sortFirsts_77 : decode cX5_sortFirsts 77 = .ok (.getfield 38, 3) := by decide +kernel
theorem dX5_sortFirsts_80 : decode cX5_sortFirsts 80 = .ok (.iload_n 2, 1) := by decide +kernel
theorem dX5_sortFirsts_81 : decode cX5_sortFirsts 81 = .ok (.iload_n 2, 1) := by decide +kernel
theorem dX5_sortFirsts_82 : decode cX5_sortFirsts 82 = .ok (.iconst 1, 1) := by decide +kernel
theorem dX5_sortFirsts_83 : decode cX5_sortFirsts 83 = .ok (.isub, 1) := by decide +kernel
theorem dX5_sortFirsts_84 : decode cX5_sortFirsts 84 = .ok (.invokevirtual 263, 3) := by decide +kernel
theorem dX5_sortFirsts_87 : decode cX5_sortFirsts 87 = .ok (.iinc 2 (-1), 3) := by decide +kernel
theorem dX5_sortFirsts_90 : decode cX5_sortFirsts 90 = .ok (.goto (-43), 3) := by decide +kernel
theorem dX5_sortFirsts_93 : decode cX5_sortFirsts 93 = .ok (.iinc 1 1, 3) := by decide +kernel
theorem dX5_sortFirsts_96 : decode cX5_sortFirsts 96 = .ok (.goto (-87), 3) := by decide +kernel
theorem dX5_sortFirsts_99 : decode cX5_sortFirsts 99 = .ok (.return_, 1) := by decide +kernel
theorem dX5_addRowsUnder_0 : decode cX5_addRowsUnder 0 = .ok (.iload_n 2, 1) := by decide +kernel
theorem dX5_addRowsUnder_1 : decode cX5_addRowsUnder 1 = .ok (.iconst 3, 1) := by decide +kernel
theorem dX5_addRowsUnder_2 : decode cX5_addRowsUnder 2 = .ok (.if_icmp .lt 4, 3) := by decide +kernel
theorem dX5_addRowsUnder_5 : decode cX5_addRowsUnder 5 = .ok (.return_, 1) := by decide +kernel
theorem dX5_addRowsUnder_6 : decode cX5_addRowsUnder 6 = .ok (.iconst 0, 1) := by decide +kernel
theorem dX5_addRowsUnder_7 : decode cX5_addRowsUnder 7 = .ok (.istore_n 3, 1) := by decide +kernel
theorem dX5_addRowsUnder_8 : decode cX5_addRowsUnder 8 = .ok (.iload_n 3, 1) := by decide +kernel
theorem dX5_addRowsUnder_9 : decode cX5_addRowsUnder 9 = .ok (.aload_n 0, 1) := by decide +kernel
theorem dX5_addRowsUnder_10 : decode cX5_addRowsUnder 10 = .ok (.getfield 38, 3) := by decide +kernel
theorem dX5_addRowsUnder_13 : decode cX5_addRowsUnder 13 = .ok (.invokevirtual 125, 3) := by decide +kernel
theorem dX5_addRowsUnder_16 : decode cX5_addRowsUnder 16 = .ok (.if_icmp .ge 67, 3) := by decide +kernel
theorem dX5_addRowsUnder_19 : decode cX5_addRowsUnder 19 = .ok (.aload_n 0, 1) := by decide +kernel
theorem dX5_addRowsUnder_20 : decode cX5_addRowsUnder 20 = .ok (.getfield 38, 3) := by decide +kernel
theorem dX5_addRowsUnder_23 : decode cX5_addRowsUnder 23 = .ok (.iload_n 3, 1) := by decide +kernel
theorem dX5_addRowsUnder_24 : decode cX5_addRowsUnder 24 = .ok (.invokevirtual 169, 3) := by decide +kernel
theorem dX5_addRowsUnder_27 : decode cX5_addRowsUnder 27 = .ok (.istore 4, 2) := by decide +kernel
theorem dX5_addRowsUnder_29 : decode cX5_addRowsUnder 29 = .ok (.aload_n 0, 1) := by decide +kernel
theorem dX5_addRowsUnder_30 : decode cX5_addRowsUnder 30 = .ok (.iload 4, 2) := by decide +kernel
theorem dX5_addRowsUnder_32 : decode cX5_addRowsUnder 32 = .ok (.invokevirtual 107, 3) := by decide +kernel
theorem dX5_addRowsUnder_35 : decode cX5_addRowsUnder 35 = .ok (.getfield 172, 3) := by decide +kernel
theorem dX5_addRowsUnder_38 : decode cX5_addRowsUnder 38 = .ok (.iload_n 2, 1) := by decide +kernel
theorem dX5_addRowsUnder_39 : decode cX5_addRowsUnder 39 = .ok (.if_icmp .ne 38, 3) := by decide +kernel
theorem dX5_addRowsUnder_42 : decode cX5_addRowsUnder 42 = .ok (.aload_n 0, 1) := by decide +kernel
theorem dX5_addRowsUnder_43 : decode cX5_addRowsUnder 43 = .ok (.aload_n 0, 1) := by decide +kernel
theorem dX5_addRowsUnder_44 : decode cX5_addRowsUnder 44 = .ok (.iload 4, 2) := by decide +kernel
theorem dX5_addRowsUnder_46 : decode cX5_addRowsUnder 46 = .ok (.invokevirtual 107, 3) := by decide +kernel
theorem dX5_addRowsUnder_49 : decode cX5_addRowsUnder 49 = .ok (.getfield 251, 3) := by decide +kernel
theorem dX5_addRowsUnder_52 : decode cX5_addRowsUnder 52 = .ok (.invokevirtual 254, 3) := by decide +kernel
theorem dX5_addRowsUnder_55 : decode cX5_addRowsUnder 55 = .ok (.iload_n 1, 1) := by decide +kernel
theorem dX5_addRowsUnder_56 : decode cX5_addRowsUnder 56 = .ok (.if_icmp .ne 21, 3) := by decide +kernel
theorem dX5_addRowsUnder_59 : decode cX5_addRowsUnder 59 = .ok (.aload_n 0, 1) := by decide +kernel
theorem dX5_addRowsUnder_60 : decode cX5_addRowsUnder 60 = .ok (.getfield 42, 3) := by decide +kernel
theorem dX5_addRowsUnder_63 : decode cX5_addRowsUnder 63 = .ok (.iload 4, 2) := by decide +kernel
theorem dX5_addRowsUnder_65 : decode cX5_addRowsUnder 65 = .ok (.invokevirtual 158, 3) := by decide +kernel
theorem dX5_addRowsUnder_68 : decode cX5_addRowsUnder 68 = .ok (.aload_n 0, 1) := by decide +kernel
theorem dX5_addRowsUnder_69 : decode cX5_addRowsUnder 69 = .ok (.iload 4, 2) := by decide +kernel
theorem dX5_addRowsUnder_71 : decode cX5_addRowsUnder 71 = .ok (.iload_n 2, 1) := by decide +kernel
theorem dX5_addRowsUnder_72 : decode cX5_addRowsUnder 72 = .ok (.iconst 1, 1) := by decide +kernel
theorem dX5_addRowsUnder_73 : decode cX5_addRowsUnder 73 = .ok (.iadd, 1) := by decide +kernel
theorem dX5_addRowsUnder_74 : decode cX5_addRowsUnder 74 = .ok (.invokevirtual 244, 3) := by decide +kernel
theorem dX5_addRowsUnder_77 : decode cX5_addRowsUnder 77 = .ok (.iinc 3 1, 3) := by decide +kernel
theorem dX5_addRowsUnder_80 : decode cX5_addRowsUnder 80 = .ok (.goto (-72), 3) := by decide +kernel
theorem dX5_addRowsUnder_83 : decode cX5_addRowsUnder 83 = .ok (.return_, 1) := by decide +kernel
theorem dX5_countByRows_0 : decode cX5_countByRows 0 = .ok (.iconst 0, 1) := by decide +kernel
theorem dX5_countByRows_1 : decode cX5_countByRows 1 = .ok (.istore_n 1, 1) := by decide +kernel
theorem dX5_countByRows_2 : decode cX5_countByRows 2 = .ok (.iload_n 1, 1) := by decide +kernel
theorem dX5_countByRows_3 : decode cX5_countByRows 3 = .ok (.aload_n 0, 1) := by decide +kernel
theorem dX5_countByRows_4 : decode cX5_countByRows 4 = .ok (.getfield 22, 3) := by decide +kernel
theorem dX5_countByRows_7 : decode cX5_countByRows 7 = .ok (.if_icmp .ge 17, 3) := by decide +kernel
theorem dX5_countByRows_10 : decode cX5_countByRows 10 = .ok (.aload_n 0, 1) := by decide +kernel
theorem dX5_countByRows_11 : decode cX5_countByRows 11 = .ok (.iload_n 1, 1) := by decide +kernel
theorem dX5_countByRows_12 : decode cX5_countByRows 12 = .ok (.invokevirtual 107, 3) := by decide +kernel
theorem dX5_countByRows_15 : decode cX5_countByRows 15 = .ok (.invokevirtual 293, 3) := by decide +kernel
theorem dX5_countByRows_18 : decode cX5_countByRows 18 = .ok (.iinc 1 1, 3) := by decide +kernel
theorem dX5_countByRows_21 : decode cX5_countByRows 21 = .ok (.goto (-19), 3) := by decide +kernel
theorem dX5_countByRows_24 : decode cX5_countByRows 24 = .ok (.iconst 0, 1) := by decide +kernel
theorem dX5_countByRows_25 : decode cX5_countByRows 25 = .ok (.istore_n 1, 1) := by decide +kernel
theorem dX5_countByRows_26 : decode cX5_countByRows 26 = .ok (.iload_n 1, 1) := by decide +kernel
theorem dX5_countByRows_27 : decode cX5_countByRows 27 = .ok (.aload_n 0, 1) := by decide +kernel
theorem dX5_countByRows_28 : decode cX5_countByRows 28 = .ok (.getfield 22, 3) := by decide +kernel
theorem dX5_countByRows_31 : decode cX5_countByRows 31 = .ok (.if_icmp .ge 88, 3) := by decide +kernel
theorem dX5_countByRows_34 : decode cX5_countByRows 34 = .ok (.aload_n 0, 1) := by decide +kernel
theorem dX5_countByRows_35 : decode cX5_countByRows 35 = .ok (.iload_n 1, 1) := by decide +kernel
theorem dX5_countByRows_36 : decode cX5_countByRows 36 = .ok (.invokevirtual 107, 3) := by decide +kernel
theorem dX5_countByRows_39 : decode cX5_countByRows 39 = .ok (.astore_n 2, 1) := by decide +kernel
