theorem dX5_init_64 : decode cX5_init 64 = .ok (.putfield 42, 3) := by decide +kernel
theorem dX5_init_67 : decode cX5_init 67 = .ok (.aload_n 0, 1) := by decide +kernel
theorem dX5_init_68 : decode cX5_init 68 = .ok (.iconst 0, 1) := by decide +kernel
theorem dX5_init_69 : decode cX5_init 69 = .ok (.putfield 45, 3) := by decide +kernel
theorem dX5_init_72 : decode cX5_init 72 = .ok (.aload_n 0, 1) := by decide +kernel
theorem dX5_init_73 : decode cX5_init 73 = .ok (.new 48, 3) := by decide +kernel
theorem dX5_init_76 : decode cX5_init 76 = .ok (.dup, 1) := by decide +kernel
theorem dX5_init_77 : decode cX5_init 77 = .ok (.sipush 1600, 3) := by decide +kernel
theorem dX5_init_80 : decode cX5_init 80 = .ok (.invokespecial 50, 3) := by decide +kernel
theorem dX5_init_83 : decode cX5_init 83 = .ok (.putfield 51, 3) := by decide +kernel
theorem dX5_init_86 : decode cX5_init 86 = .ok (.aload_n 0, 1) := by decide +kernel
theorem dX5_init_87 : decode cX5_init 87 = .ok (.new 48, 3) := by decide +kernel
theorem dX5_init_90 : decode cX5_init 90 = .ok (.dup, 1) := by decide +kernel
theorem dX5_init_91 : decode cX5_init 91 = .ok (.sipush 1600, 3) := by decide +kernel
theorem dX5_init_94 : decode cX5_init 94 = .ok (.invokespecial 50, 3) := by decide +kernel
theorem dX5_init_97 : decode cX5_init 97 = .ok (.putfield 55, 3) := by decide +kernel
theorem dX5_init_100 : decode cX5_init 100 = .ok (.aload_n 0, 1) := by decide +kernel
theorem dX5_init_101 : decode cX5_init 101 = .ok (.iconst (-1), 1) := by decide +kernel
theorem dX5_init_102 : decode cX5_init 102 = .ok (.putfield 58, 3) := by decide +kernel
theorem dX5_init_105 : decode cX5_init 105 = .ok (.aload_n 0, 1) := by decide +kernel
theorem dX5_init_106 : decode cX5_init 106 = .ok (.new 33, 3) := by decide +kernel
theorem dX5_init_109 : decode cX5_init 109 = .ok (.dup, 1) := by decide +kernel
theorem dX5_init_110 : decode cX5_init 110 = .ok (.bipush 80, 2) := by decide +kernel
theorem dX5_init_112 : decode cX5_init 112 = .ok (.invokespecial 35, 3) := by decide +kernel
theorem dX5_init_115 : decode cX5_init 115 = .ok (.putfield 61, 3) := by decide +kernel
theorem dX5_init_118 : decode cX5_init 118 = .ok (.aload_n 0, 1) := by decide +kernel
theorem dX5_init_119 : decode cX5_init 119 = .ok (.new 64, 3) := by decide +kernel
theorem dX5_init_122 : decode cX5_init 122 = .ok (.dup, 1) := by decide +kernel
theorem dX5_init_123 : decode cX5_init 123 = .ok (.invokespecial 66, 3) := by decide +kernel
theorem dX5_init_126 : decode cX5_init 126 = .ok (.putfield 67, 3) := by decide +kernel
theorem dX5_init_129 : decode cX5_init 129 = .ok (.aload_n 0, 1) := by decide +kernel
theorem dX5_init_130 : decode cX5_init 130 = .ok (.new 33, 3) := by decide +kernel
theorem dX5_init_133 : decode cX5_init 133 = .ok (.dup, 1) := by decide +kernel
theorem dX5_init_134 : decode cX5_init 134 = .ok (.bipush 80, 2) := by decide +kernel
theorem dX5_init_136 : decode cX5_init 136 = .ok (.invokespecial 35, 3) := by decide +kernel
theorem dX5_init_139 : decode cX5_init 139 = .ok (.putfield 71, 3) := by decide +kernel
theorem dX5_init_142 : decode cX5_init 142 = .ok (.aload_n 0, 1) := by decide +kernel
theorem dX5_init_143 : decode cX5_init 143 = .ok (.new 74, 3) := by decide +kernel
theorem dX5_init_146 : decode cX5_init 146 = .ok (.dup, 1) := by decide +kernel
theorem dX5_init_147 : decode cX5_init 147 = .ok (.invokespecial 76, 3) := by decide +kernel
theorem dX5_init_150 : decode cX5_init 150 = .ok (.putfield 77, 3) := by decide +kernel
theorem dX5_init_153 : decode cX5_init 153 = .ok (.aload_n 0, 1) := by decide +kernel
theorem dX5_init_154 : decode cX5_init 154 = .ok (.new 74, 3) := by decide +kernel
theorem dX5_init_157 : decode cX5_init 157 = .ok (.dup, 1) := by decide +kernel
theorem dX5_init_158 : decode cX5_init 158 = .ok (.invokespecial 76, 3) := by decide +kernel
theorem dX5_init_161 : decode cX5_init 161 = .ok (.putfield 81, 3) := by decide +kernel
theorem dX5_init_164 : decode cX5_init 164 = .ok (.return_, 1) := by decide +kernel
theorem dX5_entry_0 : decode cX5_entry 0 = .ok (.iload_n 2, 1) := by decide +kernel
theorem dX5_entry_1 : decode cX5_entry 1 = .ok (.iconst (-1), 1) := by decide +kernel
theorem dX5_entry_2 : decode cX5_entry 2 = .ok (.if_icmp .eq 19, 3) := by decide +kernel
theorem dX5_entry_5 : decode cX5_entry 5 = .ok (.aload_n 0, 1) := by decide +kernel
theorem dX5_entry_6 : decode cX5_entry 6 = .ok (.iload_n 2, 1) := by decide +kernel
theorem dX5_entry_7 : decode cX5_entry 7 = .ok (.invokevirtual 84, 3) := by decide +kernel
theorem dX5_entry_10 : decode cX5_entry 10 = .ok (.ifCond .ne 11, 3) := by decide +kernel
theorem dX5_entry_13 : decode cX5_entry 13 = .ok (.new 88, 3) := by decide +kernel
theorem dX5_entry_16 : decode cX5_entry 16 = .ok (.dup, 1) := by decide +kernel
theorem dX5_entry_17 : decode cX5_entry 17 = .ok (.invokespecial 90, 3) := by decide +kernel
theorem dX5_entry_20 : decode cX5_entry 20 = .ok (.athrow, 1) := by decide +kernel
theorem dX5_entry_21 : decode cX5_entry 21 = .ok (.iload_n 1, 1) := by decide +kernel
theorem dX5_entry_22 : decode cX5_entry 22 = .ok (.ifCond .lt 17, 3) := by decide +kernel
theorem dX5_entry_25 : decode cX5_entry 25 = .ok (.iload_n 1, 1) := by decide +kernel
theorem dX5_entry_26 : decode cX5_entry 26 = .ok (.iconst 3, 1) := by decide +kernel
theorem dX5_entry_27 : decode cX5_entry 27 = .ok (.if_icmp .ge 12, 3) := by decide +kernel
theorem dX5_entry_30 : decode cX5_entry 30 = .ok (.aload_n 0, 1) := by decide +kernel
theorem dX5_entry_31 : decode cX5_entry 31 = .ok (.iload_n 2, 1) := by decide +kernel
theorem dX5_entry_32 : decode cX5_entry 32 = .ok (.iload_n 1, 1) := by decide +kernel
theorem dX5_entry_33 : decode cX5_entry 33 = .ok (.invokevirtual 91, 3) := by decide +kernel
theorem dX5_entry_36 : decode cX5_entry 36 = .ok (.ifCond .ne 11, 3) := by decide +kernel
theorem dX5_entry_39 : decode cX5_entry 39 = .ok (.new 95, 3) := by decide +kernel
theorem dX5_entry_42 : decode cX5_entry 42 = .ok (.dup, 1) := by decide +kernel
theorem dX5_entry_43 : decode cX5_entry 43 = .ok (.invokespecial 97, 3) := by decide +kernel
theorem dX5_entry_46 : decode cX5_entry 46 = .ok (.athrow, 1) := by decide +kernel
theorem dX5_entry_47 : decode cX5_entry 47 = .ok (.aload_n 0, 1) := by decide +kernel
theorem dX5_entry_48 : decode cX5_entry 48 = .ok (.getfield 22, 3) := by decide +kernel
theorem dX5_entry_51 : decode cX5_entry 51 = .ok (.ifCond .lt 15, 3) := by decide +kernel
theorem dX5_entry_54 : decode cX5_entry 54 = .ok (.aload_n 0, 1) := by decide +kernel
theorem dX5_entry_55 : decode cX5_entry 55 = .ok (.getfield 22, 3) := by decide +kernel
theorem dX5_entry_58 : decode cX5_entry 58 = .ok (.aload_n 0, 1) := by decide +kernel
theorem dX5_entry_59 : decode cX5_entry 59 = .ok (.getfield 11, 3) := by decide +kernel
theorem dX5_entry_62 : decode cX5_entry 62 = .ok (.arraylength, 1) := by decide +kernel
theorem dX5_entry_63 : decode cX5_entry 63 = .ok (.if_icmp .lt 11, 3) := by decide +kernel
theorem dX5_entry_66 : decode cX5_entry 66 = .ok (.new 98, 3) := by decide +kernel
theorem dX5_entry_69 : decode cX5_entry 69 = .ok (.dup, 1) := by decide +kernel
theorem dX5_entry_70 : decode cX5_entry 70 = .ok (.invokespecial 100, 3) := by decide +kernel
theorem dX5_entry_73 : decode cX5_entry 73 = .ok (.athrow, 1) := by decide +kernel
theorem dX5_entry_74 : decode cX5_entry 74 = .ok (.aload_n 0, 1) := by decide +kernel
theorem dX5_entry_75 : decode cX5_entry 75 = .ok (.getfield 11, 3) := by decide +kernel
theorem dX5_entry_78 : decode cX5_entry 78 = .ok (.aload_n 0, 1) := by decide +kernel
theorem dX5_entry_79 : decode cX5_entry 79 = .ok (.getfield 22, 3) := by decide +kernel
theorem dX5_entry_82 : decode cX5_entry 82 = .ok (.new 9, 3) := by decide +kernel
theorem dX5_entry_85 : decode cX5_entry 85 = .ok (.dup, 1) := by decide +kernel
theorem dX5_entry_86 : decode cX5_entry 86 = .ok (.iload_n 1, 1) := by decide +kernel
theorem dX5_entry_87 : decode cX5_entry 87 = .ok (.iload_n 2, 1) := by decide +kernel
theorem dX5_entry_88 : decode cX5_entry 88 = .ok (.invokespecial 15, 3) := by decide +kernel
theorem dX5_entry_91 : decode cX5_entry 91 = .ok (.aastore, 1) := by decide +kernel
theorem dX5_entry_92 : decode cX5_entry 92 = .ok (.aload_n 0, 1) := by decide +kernel
theorem dX5_entry_93 : decode cX5_entry 93 = .ok (.dup, 1) := by decide +kernel
theorem dX5_entry_94 : decode cX5_entry 94 = .ok (.getfield 22, 3) := by decide +kernel
theorem dX5_entry_97 : decode cX5_entry 97 = .ok (.iconst 1, 1) := by decide +kernel
theorem dX5_entry_98 : decode cX5_entry 98 = .ok (.iadd, 1) := by decide +kernel
theorem dX5_entry_99 : decode cX5_entry 99 = .ok (.putfield 22, 3) := by decide +kernel
theorem dX5_entry_102 : decode cX5_entry 102 = .ok (.aload_n 0, 1) := by decide +kernel
theorem dX5_entry_103 : decode cX5_entry 103 = .ok (.invokevirtual 101, 3) := by decide +kernel
theorem dX5_entry_106 : decode cX5_entry 106 = .ok (.aload_n 0, 1) := by decide +kernel
theorem dX5_entry_107 : decode cX5_entry 107 = .ok (.getfield 22, 3) := by decide +kernel
theorem dX5_entry_110 : decode cX5_entry 110 = .ok (.iconst 1, 1) := by decide +kernel
theorem dX5_entry_111 : decode cX5_entry 111 = .ok (.isub, 1) := by decide +kernel
theorem dX5_entry_112 : decode cX5_entry 112 = .ok (.ireturn, 1) := by decide +kernel
theorem dX5_sign_0 : decode cX5_sign 0 = .ok (.aload_n 0, 1) := by decide +kernel
theorem dX5_sign_1 : decode cX5_sign 1 = .ok (.iload_n 1, 1) := by decide +kernel
theorem dX5_sign_2 : decode cX5_sign 2 = .ok (.invokevirtual 104, 3) := by decide +kernel
theorem dX5_sign_5 : decode cX5_sign 5 = .ok (.iload_n 2, 1) := by decide +kernel
theorem dX5_sign_6 : decode cX5_sign 6 = .ok (.ifCond .lt 10, 3) := by decide +kernel
theorem dX5_sign_9 : decode cX5_sign 9 = .ok (.iload_n 2, 1) := by decide +kernel
theorem dX5_sign_10 : decode cX5_sign 10 = .ok (.sipush 255, 3) := by decide +kernel
theorem dX5_sign_13 : decode cX5_sign 13 = .ok (.if_icmp .le 11, 3) := by decide +kernel
theorem dX5_sign_16 : decode cX5_sign 16 = .ok (.new 95, 3) := by decide +kernel
theorem dX5_sign_19 : decode cX5_sign 19 = .ok (.dup, 1) := by decide +kernel
theorem dX5_sign_20 : decode cX5_sign 20 = .ok (.invokespecial 97, 3) := by decide +kernel
theorem dX5_sign_23 : decode cX5_sign 23 = .ok (.athrow, 1) := by decide +kernel
theorem dX5_sign_24 : decode cX5_sign 24 = .ok (.aload_n 0, 1) := by decide +kernel
theorem dX5_sign_25 : decode cX5_sign 25 = .ok (.iload_n 1, 1) := by decide +kernel
theorem dX5_sign_26 : decode cX5_sign 26 = .ok (.invokevirtual 107, 3) := by decide +kernel
theorem dX5_sign_29 : decode cX5_sign 29 = .ok (.astore_n 3, 1) := by decide +kernel
theorem dX5_sign_30 : decode cX5_sign 30 = .ok (.aload_n 3, 1) := by decide +kernel
theorem dX5_sign_31 : decode cX5_sign 31 = .ok (.getfield 111, 3) := by decide +kernel
theorem dX5_sign_34 : decode cX5_sign 34 = .ok (.invokevirtual 114, 3) := by decide +kernel
theorem dX5_sign_37 : decode cX5_sign 37 = .ok (.ifCond .eq 11, 3) := by decide +kernel
theorem dX5_sign_40 : decode cX5_sign 40 = .ok (.new 98, 3) := by decide +kernel
theorem dX5_sign_43 : decode cX5_sign 43 = .ok (.dup, 1) := by decide +kernel
theorem dX5_sign_44 : decode cX5_sign 44 = .ok (.invokespecial 100, 3) := by decide +kernel
theorem dX5_sign_47 : decode cX5_sign 47 = .ok (.athrow, 1) := by decide +kernel
theorem dX5_sign_48 : decode cX5_sign 48 = .ok (.aload_n 3, 1) := by decide +kernel
theorem dX5_sign_49 : decode cX5_sign 49 = .ok (.iload_n 2, 1) := by decide +kernel
theorem dX5_sign_50 : decode cX5_sign 50 = .ok (.invokevirtual 118, 3) := by decide +kernel
theorem dX5_sign_53 : decode cX5_sign 53 = .ok (.aload_n 3, 1) := by decide +kernel
theorem dX5_sign_54 : decode cX5_sign 54 = .ok (.aload_n 0, 1) := by decide +kernel
theorem dX5_sign_55 : decode cX5_sign 55 = .ok (.getfield 26, 3) := by decide +kernel
theorem dX5_sign_58 : decode cX5_sign 58 = .ok (.aload_n 0, 1) := by decide +kernel
theorem dX5_sign_59 : decode cX5_sign 59 = .ok (.getfield 30, 3) := by decide +kernel
theorem dX5_sign_62 : decode cX5_sign 62 = .ok (.invokevirtual 121, 3) := by decide +kernel
theorem dX5_sign_65 : decode cX5_sign 65 = .ok (.aload_n 0, 1) := by decide +kernel
theorem dX5_sign_66 : decode cX5_sign 66 = .ok (.invokevirtual 101, 3) := by decide +kernel
theorem dX5_sign_69 : decode cX5_sign 69 = .ok (.aload_n 3, 1) := by decide +kernel
theorem dX5_sign_70 : decode cX5_sign 70 = .ok (.getfield 111, 3) := by decide +kernel
theorem dX5_sign_73 : decode cX5_sign 73 = .ok (.invokevirtual 125, 3) := by decide +kernel
theorem dX5_sign_76 : decode cX5_sign 76 = .ok (.ireturn, 1) := by decide +kernel
theorem dX5_page_0 : decode cX5_page 0 = .ok (.aload_n 0, 1) := by decide +kernel
theorem dX5_page_1 : decode cX5_page 1 = .ok (.iload_n 1, 1) := by decide +kernel
theorem dX5_page_2 : decode cX5_page 2 = .ok (.invokevirtual 104, 3) := by decide +kernel
theorem dX5_page_5 : decode cX5_page 5 = .ok (.iload_n 3, 1) := by decide +kernel
theorem dX5_page_6 : decode cX5_page 6 = .ok (.iconst 1, 1) := by decide +kernel
theorem dX5_page_7 : decode cX5_page 7 = .ok (.if_icmp .lt 11, 3) := by decide +kernel
theorem dX5_page_10 : decode cX5_page 10 = .ok (.iload_n 3, 1) := by decide +kernel
theorem dX5_page_11 : decode cX5_page 11 = .ok (.iload_n 2, 1) := by decide +kernel
theorem dX5_page_12 : decode cX5_page 12 = .ok (.invokestatic 129, 3) := by decide +kernel
theorem dX5_page_15 : decode cX5_page 15 = .ok (.if_icmp .le 11, 3) := by decide +kernel
theorem dX5_page_18 : decode cX5_page 18 = .ok (.new 95, 3) := by decide +kernel
theorem dX5_page_21 : decode cX5_page 21 = .ok (.dup, 1) := by decide +kernel
theorem dX5_page_22 : decode cX5_page 22 = .ok (.invokespecial 97, 3) := by decide +kernel
theorem dX5_page_25 : decode cX5_page 25 = .ok (.athrow, 1) := by decide +kernel
theorem dX5_page_26 : decode cX5_page 26 = .ok (.aload_n 0, 1) := by decide +kernel
theorem dX5_page_27 : decode cX5_page 27 = .ok (.iload_n 1, 1) := by decide +kernel
theorem dX5_page_28 : decode cX5_page 28 = .ok (.invokevirtual 107, 3) := by decide +kernel
theorem dX5_page_31 : decode cX5_page 31 = .ok (.getfield 133, 3) := by decide +kernel
theorem dX5_page_34 : decode cX5_page 34 = .ok (.astore 4, 2) := by decide +kernel
theorem dX5_page_36 : decode cX5_page 36 = .ok (.aload 4, 2) := by decide +kernel
theorem dX5_page_38 : decode cX5_page 38 = .ok (.invokevirtual 136, 3) := by decide +kernel
theorem dX5_page_41 : decode cX5_page 41 = .ok (.ifCond .eq 11, 3) := by decide +kernel
theorem dX5_page_44 : decode cX5_page 44 = .ok (.new 98, 3) := by decide +kernel
theorem dX5_page_47 : decode cX5_page 47 = .ok (.dup, 1) := by decide +kernel
theorem dX5_page_48 : decode cX5_page 48 = .ok (.invokespecial 100, 3) := by decide +kernel
theorem dX5_page_51 : decode cX5_page 51 = .ok (.athrow, 1) := by decide +kernel
theorem dX5_page_52 : decode cX5_page 52 = .ok (.iload_n 2, 1) := by decide +kernel
theorem dX5_page_53 : decode cX5_page 53 = .ok (.ldc 137, 2) := by decide +kernel
theorem dX5_page_55 : decode cX5_page 55 = .ok (.imul, 1) := by decide +kernel
theorem dX5_page_56 : decode cX5_page 56 = .ok (.iload_n 3, 1) := by decide +kernel
theorem dX5_page_57 : decode cX5_page 57 = .ok (.iadd, 1) := by decide +kernel
theorem dX5_page_58 : decode cX5_page 58 = .ok (.istore 5, 2) := by decide +kernel
theorem dX5_page_60 : decode cX5_page 60 = .ok (.aload 4, 2) := by decide +kernel
theorem dX5_page_62 : decode cX5_page 62 = .ok (.iload 5, 2) := by decide +kernel
theorem dX5_page_64 : decode cX5_page 64 = .ok (.iload 5, 2) := by decide +kernel
theorem dX5_page_66 : decode cX5_page 66 = .ok (.iconst 0, 1) := by decide +kernel
theorem dX5_page_67 : decode cX5_page 67 = .ok (.invokevirtual 138, 3) := by decide +kernel
theorem dX5_page_70 : decode cX5_page 70 = .ok (.aload_n 0, 1) := by decide +kernel
theorem dX5_page_71 : decode cX5_page 71 = .ok (.iconst (-1), 1) := by decide +kernel
theorem dX5_page_72 : decode cX5_page 72 = .ok (.putfield 58, 3) := by decide +kernel
theorem dX5_page_75 : decode cX5_page 75 = .ok (.aload 4, 2) := by decide +kernel
theorem dX5_page_77 : decode cX5_page 77 = .ok (.invokevirtual 142, 3) := by decide +kernel
theorem dX5_page_80 : decode cX5_page 80 = .ok (.ireturn, 1) := by decide +kernel
theorem dX5_range_0 : decode cX5_range 0 = .ok (.aload_n 0, 1) := by decide +kernel
theorem dX5_range_1 : decode cX5_range 1 = .ok (.iload_n 1, 1) := by decide +kernel
theorem dX5_range_2 : decode cX5_range 2 = .ok (.invokevirtual 104, 3) := by decide +kernel
theorem dX5_range_5 : decode cX5_range 5 = .ok (.iload_n 2, 1) := by decide +kernel
theorem dX5_range_6 : decode cX5_range 6 = .ok (.iconst 1, 1) := by decide +kernel
theorem dX5_range_7 : decode cX5_range 7 = .ok (.if_icmp .lt 11, 3) := by decide +kernel
theorem dX5_range_10 : decode cX5_range 10 = .ok (.iload_n 2, 1) := by decide +kernel
theorem dX5_range_11 : decode cX5_range 11 = .ok (.iconst 1, 1) := by decide +kernel
theorem dX5_range_12 : decode cX5_range 12 = .ok (.invokestatic 129, 3) := by decide +kernel
theorem dX5_range_15 : decode cX5_range 15 = .ok (.if_icmp .le 11, 3) := by decide +kernel
theorem dX5_range_18 : decode cX5_range 18 = .ok (.new 95, 3) := by decide +kernel
theorem dX5_range_21 : decode cX5_range 21 = .ok (.dup, 1) := by decide +kernel
theorem dX5_range_22 : decode cX5_range 22 = .ok (.invokespecial 97, 3) := by decide +kernel
theorem dX5_range_25 : decode cX5_range 25 = .ok (.athrow, 1) := by decide +kernel
theorem dX5_range_26 : decode cX5_range 26 = .ok (.aload_n 0, 1) := by decide +kernel
theorem dX5_range_27 : decode cX5_range 27 = .ok (.iload_n 1, 1) := by decide +kernel
theorem dX5_range_28 : decode cX5_range 28 = .ok (.invokevirtual 107, 3) := by decide +kernel
theorem dX5_range_31 : decode cX5_range 31 = .ok (.astore 4, 2) := by decide +kernel
theorem dX5_range_33 : decode cX5_range 33 = .ok (.iload_n 3, 1) := by decide +kernel
theorem dX5_range_34 : decode cX5_range 34 = .ok (.ifCond .ne 30, 3) := by decide +kernel
theorem dX5_range_37 : decode cX5_range 37 = .ok (.aload 4, 2) := by decide +kernel
theorem dX5_range_39 : decode cX5_range 39 = .ok (.getfield 143, 3) := by decide +kernel
theorem dX5_range_42 : decode cX5_range 42 = .ok (.ifCond .ge 22, 3) := by decide +kernel
theorem dX5_range_45 : decode cX5_range 45 = .ok (.aload 4, 2) := by decide +kernel
theorem dX5_range_47 : decode cX5_range 47 = .ok (.getfield 133, 3) := by decide +kernel
theorem dX5_range_50 : decode cX5_range 50 = .ok (.invokevirtual 136, 3) := by decide +kernel
theorem dX5_range_53 : decode cX5_range 53 = .ok (.ifCond .eq 11, 3) := by decide +kernel
theorem dX5_range_56 : decode cX5_range 56 = .ok (.new 98, 3) := by decide +kernel
theorem dX5_range_59 : decode cX5_range 59 = .ok (.dup, 1) := by decide +kernel
theorem dX5_range_60 : decode cX5_range 60 = .ok (.invokespecial 100, 3) := by decide +kernel
theorem dX5_range_63 : decode cX5_range 63 = .ok (.athrow, 1) := by decide +kernel
theorem dX5_range_64 : decode cX5_range 64 = .ok (.ldc 137, 2) := by decide +kernel
theorem dX5_range_66 : decode cX5_range 66 = .ok (.iload_n 2, 1) := by decide +kernel
theorem dX5_range_67 : decode cX5_range 67 = .ok (.iadd, 1) := by decide +kernel
theorem dX5_range_68 : decode cX5_range 68 = .ok (.istore 5, 2) := by decide +kernel
theorem dX5_range_70 : decode cX5_range 70 = .ok (.iload_n 3, 1) := by decide +kernel
theorem dX5_range_71 : decode cX5_range 71 = .ok (.ifCond .eq 13, 3) := by decide +kernel
theorem dX5_range_74 : decode cX5_range 74 = .ok (.aload 4, 2) := by decide +kernel
theorem dX5_range_76 : decode cX5_range 76 = .ok (.iload 5, 2) := by decide +kernel
theorem dX5_range_78 : decode cX5_range 78 = .ok (.invokevirtual 146, 3) := by decide +kernel
theorem dX5_range_81 : decode cX5_range 81 = .ok (.goto 10, 3) := by decide +kernel
theorem dX5_range_84 : decode cX5_range 84 = .ok (.aload 4, 2) := by decide +kernel
theorem dX5_range_86 : decode cX5_range 86 = .ok (.iload 5, 2) := by decide +kernel
theorem dX5_range_88 : decode cX5_range 88 = .ok (.invokevirtual 149, 3) := by decide +kernel
theorem dX5_range_91 : decode cX5_range 91 = .ok (.istore 6, 2) := by decide +kernel
theorem dX5_range_93 : decode cX5_range 93 = .ok (.iload 6, 2) := by decide +kernel
theorem dX5_range_95 : decode cX5_range 95 = .ok (.ifCond .eq 8, 3) := by decide +kernel
theorem dX5_range_98 : decode cX5_range 98 = .ok (.aload_n 0, 1) := by decide +kernel
theorem dX5_range_99 : decode cX5_range 99 = .ok (.iconst (-1), 1) := by decide +kernel
theorem dX5_range_100 : decode cX5_range 100 = .ok (.putfield 58, 3) := by decide +kernel
theorem dX5_range_103 : decode cX5_range 103 = .ok (.iload 6, 2) := by decide +kernel
theorem dX5_range_105 : decode cX5_range 105 = .ok (.ifCond .eq 7, 3) := by decide +kernel
theorem dX5_range_108 : decode cX5_range 108 = .ok (.iconst 1, 1) := by decide +kernel
theorem dX5_range_109 : decode cX5_range 109 = .ok (.goto 4, 3) := by decide +kernel
theorem dX5_range_112 : decode cX5_range 112 = .ok (.iconst 0, 1) := by decide +kernel
theorem dX5_range_113 : decode cX5_range 113 = .ok (.ireturn, 1) := by decide +kernel
theorem dX5_see_0 : decode cX5_see 0 = .ok (.aload_n 0, 1) := by decide +kernel
theorem dX5_see_1 : decode cX5_see 1 = .ok (.iload_n 1, 1) := by decide +kernel
theorem dX5_see_2 : decode cX5_see 2 = .ok (.invokevirtual 104, 3) := by decide +kernel
theorem dX5_see_5 : decode cX5_see 5 = .ok (.aload_n 0, 1) := by decide +kernel
theorem dX5_see_6 : decode cX5_see 6 = .ok (.iload_n 2, 1) := by decide +kernel
theorem dX5_see_7 : decode cX5_see 7 = .ok (.invokevirtual 104, 3) := by decide +kernel
theorem dX5_see_10 : decode cX5_see 10 = .ok (.aload_n 0, 1) := by decide +kernel
theorem dX5_see_11 : decode cX5_see 11 = .ok (.iload_n 1, 1) := by decide +kernel
theorem dX5_see_12 : decode cX5_see 12 = .ok (.invokevirtual 107, 3) := by decide +kernel
theorem dX5_see_15 : decode cX5_see 15 = .ok (.getfield 152, 3) := by decide +kernel
theorem dX5_see_18 : decode cX5_see 18 = .ok (.astore_n 3, 1) := by decide +kernel
theorem dX5_see_19 : decode cX5_see 19 = .ok (.aload_n 3, 1) := by decide +kernel
theorem dX5_see_20 : decode cX5_see 20 = .ok (.invokevirtual 114, 3) := by decide +kernel
theorem dX5_see_23 : decode cX5_see 23 = .ok (.ifCond .eq 11, 3) := by decide +kernel
theorem dX5_see_26 : decode cX5_see 26 = .ok (.new 98, 3) := by decide +kernel
theorem dX5_see_29 : decode cX5_see 29 = .ok (.dup, 1) := by decide +kernel
theorem dX5_see_30 : decode cX5_see 30 = .ok (.invokespecial 100, 3) := by decide +kernel
theorem dX5_see_33 : decode cX5_see 33 = .ok (.athrow, 1) := by decide +kernel
theorem dX5_see_34 : decode cX5_see 34 = .ok (.iload_n 1, 1) := by decide +kernel
theorem dX5_see_35 : decode cX5_see 35 = .ok (.iload_n 2, 1) := by decide +kernel
theorem dX5_see_36 : decode cX5_see 36 = .ok (.if_icmp .eq 11, 3) := by decide +kernel
theorem dX5_see_39 : decode cX5_see 39 = .ok (.aload_n 3, 1) := by decide +kernel
theorem dX5_see_40 : decode cX5_see 40 = .ok (.iload_n 2, 1) := by decide +kernel
theorem dX5_see_41 : decode cX5_see 41 = .ok (.invokevirtual 155, 3) := by decide +kernel
theorem dX5_see_44 : decode cX5_see 44 = .ok (.ifCond .eq 5, 3) := by decide +kernel
theorem dX5_see_47 : decode cX5_see 47 = .ok (.iconst 0, 1) := by decide +kernel
theorem dX5_see_48 : decode cX5_see 48 = .ok (.ireturn, 1) := by decide +kernel
theorem dX5_see_49 : decode cX5_see 49 = .ok (.aload_n 3, 1) := by decide +kernel
theorem dX5_see_50 : decode cX5_see 50 = .ok (.iload_n 2, 1) := by decide +kernel
theorem dX5_see_51 : decode cX5_see 51 = .ok (.invokevirtual 158, 3) := by decide +kernel
theorem dX5_see_54 : decode cX5_see 54 = .ok (.iconst 1, 1) := by decide +kernel
theorem dX5_see_55 : decode cX5_see 55 = .ok (.ireturn, 1) := by decide +kernel
theorem dX5_rule_0 : decode cX5_rule 0 = .ok (.iload_n 1, 1) := by decide +kernel
theorem dX5_rule_1 : decode cX5_rule 1 = .ok (.ifCond .lt 8, 3) := by decide +kernel
theorem dX5_rule_4 : decode cX5_rule 4 = .ok (.iload_n 1, 1) := by decide +kernel
theorem dX5_rule_5 : decode cX5_rule 5 = .ok (.iconst 1, 1) := by decide +kernel
theorem dX5_rule_6 : decode cX5_rule 6 = .ok (.if_icmp .le 11, 3) := by decide +kernel
theorem dX5_rule_9 : decode cX5_rule 9 = .ok (.new 95, 3) := by decide +kernel
theorem dX5_rule_12 : decode cX5_rule 12 = .ok (.dup, 1) := by decide +kernel
theorem dX5_rule_13 : decode cX5_rule 13 = .ok (.invokespecial 97, 3) := by decide +kernel
theorem dX5_rule_16 : decode cX5_rule 16 = .ok (.athrow, 1) := by decide +kernel
theorem dX5_rule_17 : decode cX5_rule 17 = .ok (.iload_n 1, 1) := by decide +kernel
theorem dX5_rule_18 : decode cX5_rule 18 = .ok (.ifCond .ne 10, 3) := by decide +kernel
theorem dX5_rule_21 : decode cX5_rule 21 = .ok (.aload_n 0, 1) := by decide +kernel
theorem dX5_rule_22 : decode cX5_rule 22 = .ok (.getfield 26, 3) := by decide +kernel
theorem dX5_rule_25 : decode cX5_rule 25 = .ok (.goto 7, 3) := by decide +kernel
theorem dX5_rule_28 : decode cX5_rule 28 = .ok (.aload_n 0, 1) := by decide +kernel
theorem dX5_rule_29 : decode cX5_rule 29 = .ok (.getfield 30, 3) := by decide +kernel
theorem dX5_rule_32 : decode cX5_rule 32 = .ok (.istore_n 3, 1) := by decide +kernel
theorem dX5_rule_33 : decode cX5_rule 33 = .ok (.iload_n 1, 1) := by decide +kernel
theorem dX5_rule_34 : decode cX5_rule 34 = .ok (.ifCond .ne 11, 3) := by decide +kernel
theorem dX5_rule_37 : decode cX5_rule 37 = .ok (.aload_n 0, 1) := by decide +kernel
theorem dX5_rule_38 : decode cX5_rule 38 = .ok (.iload_n 2, 1) := by decide +kernel
theorem dX5_rule_39 : decode cX5_rule 39 = .ok (.putfield 26, 3) := by decide +kernel
theorem dX5_rule_42 : decode cX5_rule 42 = .ok (.goto 8, 3) := by decide +kernel
theorem dX5_rule_45 : decode cX5_rule 45 = .ok (.aload_n 0, 1) := by decide +kernel
theorem dX5_rule_46 : decode cX5_rule 46 = .ok (.iload_n 2, 1) := by decide +kernel
theorem dX5_rule_47 : decode cX5_rule 47 = .ok (.putfield 30, 3) := by decide +kernel
theorem dX5_rule_50 : decode cX5_rule 50 = .ok (.iload_n 3, 1) := by decide +kernel
theorem dX5_rule_51 : decode cX5_rule 51 = .ok (.iload_n 2, 1) := by decide +kernel
theorem dX5_rule_52 : decode cX5_rule 52 = .ok (.if_icmp .eq 11, 3) := by decide +kernel
theorem dX5_rule_55 : decode cX5_rule 55 = .ok (.aload_n 0, 1) := by decide +kernel
theorem dX5_rule_56 : decode cX5_rule 56 = .ok (.invokevirtual 160, 3) := by decide +kernel
theorem dX5_rule_59 : decode cX5_rule 59 = .ok (.aload_n 0, 1) := by decide +kernel
theorem dX5_rule_60 : decode cX5_rule 60 = .ok (.invokevirtual 101, 3) := by decide +kernel
theorem dX5_rule_63 : decode cX5_rule 63 = .ok (.iload_n 3, 1) := by decide +kernel
theorem dX5_rule_64 : decode cX5_rule 64 = .ok (.ifCond .eq 7, 3) := by decide +kernel
theorem dX5_rule_67 : decode cX5_rule 67 = .ok (.iconst 1, 1) := by decide +kernel
theorem dX5_rule_68 : decode cX5_rule 68 = .ok (.goto 4, 3) := by decide +kernel
theorem dX5_rule_71 : decode cX5_rule 71 = .ok (.iconst 0, 1) := by decide +kernel
theorem dX5_rule_72 : decode cX5_rule 72 = .ok (.ireturn, 1) := by decide +kernel
theorem dX5_run_0 : decode cX5_run 0 = .ok (.aload_n 0, 1) := by decide +kernel
theorem dX5_run_1 : decode cX5_run 1 = .ok (.invokevirtual 163, 3) := by decide +kernel
theorem dX5_run_4 : decode cX5_run 4 = .ok (.aload_n 0, 1) := by decide +kernel
theorem dX5_run_5 : decode cX5_run 5 = .ok (.getfield 42, 3) := by decide +kernel
theorem dX5_run_8 : decode cX5_run 8 = .ok (.invokevirtual 125, 3) := by decide +kernel
theorem dX5_run_11 : decode cX5_run 11 = .ok (.ireturn, 1) := by decide +kernel
theorem dX5_row_0 : decode cX5_row 0 = .ok (.aload_n 0, 1) := by decide +kernel
theorem dX5_row_1 : decode cX5_row 1 = .ok (.invokevirtual 163, 3) := by decide +kernel
theorem dX5_row_4 : decode cX5_row 4 = .ok (.iload_n 1, 1) := by decide +kernel
theorem dX5_row_5 : decode cX5_row 5 = .ok (.ifCond .lt 14, 3) := by decide +kernel
theorem dX5_row_8 : decode cX5_row 8 = .ok (.iload_n 1, 1) := by decide +kernel
theorem dX5_row_9 : decode cX5_row 9 = .ok (.aload_n 0, 1) := by decide +kernel
theorem dX5_row_10 : decode cX5_row 10 = .ok (.getfield 42, 3) := by decide +kernel
theorem dX5_row_13 : decode cX5_row 13 = .ok (.invokevirtual 125, 3) := by decide +kernel
theorem dX5_row_16 : decode cX5_row 16 = .ok (.if_icmp .lt 11, 3) := by decide +kernel
theorem dX5_row_19 : decode cX5_row 19 = .ok (.new 166, 3) := by decide +kernel
theorem dX5_row_22 : decode cX5_row 22 = .ok (.dup, 1) := by decide +kernel
theorem dX5_row_23 : decode cX5_row 23 = .ok (.invokespecial 168, 3) := by decide +kernel
theorem dX5_row_26 : decode cX5_row 26 = .ok (.athrow, 1) := by decide +kernel
theorem dX5_row_27 : decode cX5_row 27 = .ok (.aload_n 0, 1) := by decide +kernel
theorem dX5_row_28 : decode cX5_row 28 = .ok (.getfield 42, 3) := by decide +kernel
theorem dX5_row_31 : decode cX5_row 31 = .ok (.iload_n 1, 1) := by decide +kernel
theorem dX5_row_32 : decode cX5_row 32 = .ok (.invokevirtual 169, 3) := by decide +kernel
theorem dX5_row_35 : decode cX5_row 35 = .ok (.istore_n 3, 1) := by decide +kernel
theorem dX5_row_36 : decode cX5_row 36 = .ok (.iload_n 2, 1) := by decide +kernel
theorem dX5_row_37 : decode cX5_row 37 = .ok (.tableswitch 78 0 4 #[35, 37, 46, 59, 72], 35) := by decide +kernel
theorem dX5_row_72 : decode cX5_row 72 = .ok (.iload_n 3, 1) := by decide +kernel
theorem dX5_row_73 : decode cX5_row 73 = .ok (.ireturn, 1) := by decide +kernel
theorem dX5_row_74 : decode cX5_row 74 = .ok (.aload_n 0, 1) := by decide +kernel
theorem dX5_row_75 : decode cX5_row 75 = .ok (.iload_n 3, 1) := by decide +kernel
theorem dX5_row_76 : decode cX5_row 76 = .ok (.invokevirtual 107, 3) := by decide +kernel
theorem dX5_row_79 : decode cX5_row 79 = .ok (.getfield 172, 3) := by decide +kernel
theorem dX5_row_82 : decode cX5_row 82 = .ok (.ireturn, 1) := by decide +kernel
theorem dX5_row_83 : decode cX5_row 83 = .ok (.aload_n 0, 1) := by decide +kernel
theorem dX5_row_84 : decode cX5_row 84 = .ok (.iload_n 3, 1) := by decide +kernel
theorem dX5_row_85 : decode cX5_row 85 = .ok (.invokevirtual 175, 3) := by decide +kernel
theorem dX5_row_88 : decode cX5_row 88 = .ok (.aload_n 0, 1) := by decide +kernel
theorem dX5_row_89 : decode cX5_row 89 = .ok (.getfield 55, 3) := by decide +kernel
theorem dX5_row_92 : decode cX5_row 92 = .ok (.invokevirtual 142, 3) := by decide +kernel
theorem dX5_row_95 : decode cX5_row 95 = .ok (.ireturn, 1) := by decide +kernel
theorem dX5_row_96 : decode cX5_row 96 = .ok (.aload_n 0, 1) := by decide +kernel
theorem dX5_row_97 : decode cX5_row 97 = .ok (.iload_n 3, 1) := by decide +kernel
theorem dX5_row_98 : decode cX5_row 98 = .ok (.invokevirtual 178, 3) := by decide +kernel
theorem dX5_row_101 : decode cX5_row 101 = .ok (.aload_n 0, 1) := by decide +kernel
theorem dX5_row_102 : decode cX5_row 102 = .ok (.getfield 61, 3) := by decide +kernel
theorem dX5_row_105 : decode cX5_row 105 = .ok (.invokevirtual 125, 3) := by decide +kernel
theorem dX5_row_108 : decode cX5_row 108 = .ok (.ireturn, 1) := by decide +kernel
theorem dX5_row_109 : decode cX5_row 109 = .ok (.aload_n 0, 1) := by decide +kernel
theorem dX5_row_110 : decode cX5_row 110 = .ok (.iload_n 3, 1) := by decide +kernel
theorem dX5_row_111 : decode cX5_row 111 = .ok (.invokevirtual 181, 3) := by decide +kernel
theorem dX5_row_114 : decode cX5_row 114 = .ok (.ireturn, 1) := by decide +kernel
theorem dX5_row_115 : decode cX5_row 115 = .ok (.new 166, 3) := by decide +kernel
theorem dX5_row_118 : decode cX5_row 118 = .ok (.dup, 1) := by decide +kernel
theorem dX5_row_119 : decode cX5_row 119 = .ok (.invokespecial 168, 3) := by decide +kernel
theorem dX5_row_122 : decode cX5_row 122 = .ok (.athrow, 1) := by decide +kernel
theorem dX5_locator_0 : decode cX5_locator 0 = .ok (.aload_n 0, 1) := by decide +kernel
theorem dX5_locator_1 : decode cX5_locator 1 = .ok (.invokevirtual 163, 3) := by decide +kernel
theorem dX5_locator_4 : decode cX5_locator 4 = .ok (.iload_n 1, 1) := by decide +kernel
theorem dX5_locator_5 : decode cX5_locator 5 = .ok (.ifCond .lt 14, 3) := by decide +kernel
theorem dX5_locator_8 : decode cX5_locator 8 = .ok (.iload_n 1, 1) := by decide +kernel
theorem dX5_locator_9 : decode cX5_locator 9 = .ok (.aload_n 0, 1) := by decide +kernel
theorem dX5_locator_10 : decode cX5_locator 10 = .ok (.getfield 42, 3) := by decide +kernel
theorem dX5_locator_13 : decode cX5_locator 13 = .ok (.invokevirtual 125, 3) := by decide +kernel
theorem dX5_locator_16 : decode cX5_locator 16 = .ok (.if_icmp .lt 11, 3) := by decide +kernel
theorem dX5_locator_19 : decode cX5_locator 19 = .ok (.new 166, 3) := by decide +kernel
theorem dX5_locator_22 : decode cX5_locator 22 = .ok (.dup, 1) := by decide +kernel
theorem dX5_locator_23 : decode cX5_locator 23 = .ok (.invokespecial 168, 3) := by decide +kernel
theorem dX5_locator_26 : decode cX5_locator 26 = .ok (.athrow, 1) := by decide +kernel
theorem dX5_locator_27 : decode cX5_locator 27 = .ok (.aload_n 0, 1) := by decide +kernel
theorem dX5_locator_28 : decode cX5_locator 28 = .ok (.aload_n 0, 1) := by decide +kernel
theorem dX5_locator_29 : decode cX5_locator 29 = .ok (.getfield 42, 3) := by decide +kernel
theorem dX5_locator_32 : decode cX5_locator 32 = .ok (.iload_n 1, 1) := by decide +kernel
theorem dX5_locator_33 : decode cX5_locator 33 = .ok (.invokevirtual 169, 3) := by decide +kernel
theorem dX5_locator_36 : decode cX5_locator 36 = .ok (.invokevirtual 175, 3) := by decide +kernel
theorem dX5_locator_39 : decode cX5_locator 39 = .ok (.iload_n 2, 1) := by decide +kernel
theorem dX5_locator_40 : decode cX5_locator 40 = .ok (.ifCond .lt 23, 3) := by decide +kernel
theorem dX5_locator_43 : decode cX5_locator 43 = .ok (.iload_n 2, 1) := by decide +kernel
theorem dX5_locator_44 : decode cX5_locator 44 = .ok (.aload_n 0, 1) := by decide +kernel
theorem dX5_locator_45 : decode cX5_locator 45 = .ok (.getfield 55, 3) := by decide +kernel
theorem dX5_locator_48 : decode cX5_locator 48 = .ok (.invokevirtual 142, 3) := by decide +kernel
theorem dX5_locator_51 : decode cX5_locator 51 = .ok (.if_icmp .ge 12, 3) := by decide +kernel
theorem dX5_locator_54 : decode cX5_locator 54 = .ok (.iload_n 3, 1) := by decide +kernel
theorem dX5_locator_55 : decode cX5_locator 55 = .ok (.ifCond .lt 8, 3) := by decide +kernel
theorem dX5_locator_58 : decode cX5_locator 58 = .ok (.iload_n 3, 1) := by decide +kernel
theorem dX5_locator_59 : decode cX5_locator 59 = .ok (.iconst 2, 1) := by decide +kernel
theorem dX5_locator_60 : decode cX5_locator 60 = .ok (.if_icmp .le 11, 3) := by decide +kernel
theorem dX5_locator_63 : decode cX5_locator 63 = .ok (.new 166, 3) := by decide +kernel
theorem dX5_locator_66 : decode cX5_locator 66 = .ok (.dup, 1) := by decide +kernel
theorem dX5_locator_67 : decode cX5_locator 67 = .ok (.invokespecial 168, 3) := by decide +kernel
theorem dX5_locator_70 : decode cX5_locator 70 = .ok (.athrow, 1) := by decide +kernel
theorem dX5_locator_71 : decode cX5_locator 71 = .ok (.aload_n 0, 1) := by decide +kernel
theorem dX5_locator_72 : decode cX5_locator 72 = .ok (.getfield 55, 3) := by decide +kernel
theorem dX5_locator_75 : decode cX5_locator 75 = .ok (.iload_n 2, 1) := by decide +kernel
theorem dX5_locator_76 : decode cX5_locator 76 = .ok (.invokevirtual 184, 3) := by decide +kernel
theorem dX5_locator_79 : decode cX5_locator 79 = .ok (.istore 4, 2) := by decide +kernel
theorem dX5_locator_81 : decode cX5_locator 81 = .ok (.iload_n 3, 1) := by decide +kernel
theorem dX5_locator_82 : decode cX5_locator 82 = .ok (.ifCond .ne 9, 3) := by decide +kernel
theorem dX5_locator_85 : decode cX5_locator 85 = .ok (.iload 4, 2) := by decide +kernel
theorem dX5_locator_87 : decode cX5_locator 87 = .ok (.ldc 137, 2) := by decide +kernel
theorem dX5_locator_89 : decode cX5_locator 89 = .ok (.idiv, 1) := by decide +kernel
theorem dX5_locator_90 : decode cX5_locator 90 = .ok (.ireturn, 1) := by decide +kernel
theorem dX5_locator_91 : decode cX5_locator 91 = .ok (.iload_n 3, 1) := by decide +kernel
theorem dX5_locator_92 : decode cX5_locator 92 = .ok (.iconst 1, 1) := by decide +kernel
theorem dX5_locator_93 : decode cX5_locator 93 = .ok (.if_icmp .ne 8, 3) := by decide +kernel
theorem dX5_locator_96 : decode cX5_locator 96 = .ok (.iload 4, 2) := by decide +kernel
theorem dX5_locator_98 : decode cX5_locator 98 = .ok (.goto 11, 3) := by decide +kernel
theorem dX5_locator_101 : decode cX5_locator 101 = .ok (.aload_n 0, 1) := by decide +kernel
theorem dX5_locator_102 : decode cX5_locator 102 = .ok (.getfield 55, 3) := by decide +kernel
theorem dX5_locator_105 : decode cX5_locator 105 = .ok (.iload_n 2, 1) := by decide +kernel
theorem dX5_locator_106 : decode cX5_locator 106 = .ok (.invokevirtual 187, 3) := by decide +kernel
theorem dX5_locator_109 : decode cX5_locator 109 = .ok (.ldc 137, 2) := by decide +kernel
theorem dX5_locator_111 : decode cX5_locator 111 = .ok (.irem, 1) := by decide +kernel
theorem dX5_locator_112 : decode cX5_locator 112 = .ok (.ireturn, 1) := by decide +kernel
theorem dX5_compare_0 : decode cX5_compare 0 = .ok (.aload_n 0, 1) := by decide +kernel
theorem dX5_compare_1 : decode cX5_compare 1 = .ok (.iload_n 1, 1) := by decide +kernel
theorem dX5_compare_2 : decode cX5_compare 2 = .ok (.invokevirtual 104, 3) := by decide +kernel
theorem dX5_compare_5 : decode cX5_compare 5 = .ok (.aload_n 0, 1) := by decide +kernel
theorem dX5_compare_6 : decode cX5_compare 6 = .ok (.iload_n 2, 1) := by decide +kernel
theorem dX5_compare_7 : decode cX5_compare 7 = .ok (.invokevirtual 104, 3) := by decide +kernel
theorem dX5_compare_10 : decode cX5_compare 10 = .ok (.aload_n 0, 1) := by decide +kernel
theorem dX5_compare_11 : decode cX5_compare 11 = .ok (.iload_n 1, 1) := by decide +kernel
theorem dX5_compare_12 : decode cX5_compare 12 = .ok (.invokevirtual 107, 3) := by decide +kernel
theorem dX5_compare_15 : decode cX5_compare 15 = .ok (.aload_n 0, 1) := by decide +kernel
theorem dX5_compare_16 : decode cX5_compare 16 = .ok (.iload_n 2, 1) := by decide +kernel
theorem dX5_compare_17 : decode cX5_compare 17 = .ok (.invokevirtual 107, 3) := by decide +kernel
theorem dX5_compare_20 : decode cX5_compare 20 = .ok (.invokevirtual 190, 3) := by decide +kernel
theorem dX5_compare_23 : decode cX5_compare 23 = .ok (.ireturn, 1) := by decide +kernel
theorem dX5_told_0 : decode cX5_told 0 = .ok (.aload_n 0, 1) := by decide +kernel
theorem dX5_told_1 : decode cX5_told 1 = .ok (.invokevirtual 163, 3) := by decide +kernel
theorem dX5_told_4 : decode cX5_told 4 = .ok (.aload_n 0, 1) := by decide +kernel
theorem dX5_told_5 : decode cX5_told 5 = .ok (.invokevirtual 194, 3) := by decide +kernel
theorem dX5_told_8 : decode cX5_told 8 = .ok (.aload_n 0, 1) := by decide +kernel
theorem dX5_told_9 : decode cX5_told 9 = .ok (.getfield 67, 3) := by decide +kernel
theorem dX5_told_12 : decode cX5_told 12 = .ok (.iload_n 1, 1) := by decide +kernel
theorem dX5_told_13 : decode cX5_told 13 = .ok (.invokevirtual 197, 3) := by decide +kernel
theorem dX5_told_16 : decode cX5_told 16 = .ok (.iconst 0, 1) := by decide +kernel
theorem dX5_told_17 : decode cX5_told 17 = .ok (.istore_n 3, 1) := by decide +kernel
theorem dX5_told_18 : decode cX5_told 18 = .ok (.iload_n 3, 1) := by decide +kernel
theorem dX5_told_19 : decode cX5_told 19 = .ok (.aload_n 0, 1) := by decide +kernel
theorem dX5_told_20 : decode cX5_told 20 = .ok (.getfield 22, 3) := by decide +kernel
theorem dX5_told_23 : decode cX5_told 23 = .ok (.if_icmp .ge 14, 3) := by decide +kernel
theorem dX5_told_26 : decode cX5_told 26 = .ok (.aload_n 0, 1) := by decide +kernel
theorem dX5_told_27 : decode cX5_told 27 = .ok (.iload_n 3, 1) := by decide +kernel
theorem dX5_told_28 : decode cX5_told 28 = .ok (.invokevirtual 200, 3) := by decide +kernel
theorem dX5_told_31 : decode cX5_told 31 = .ok (.iinc 3 1, 3) := by decide +kernel
theorem dX5_told_34 : decode cX5_told 34 = .ok (.goto (-16), 3) := by decide +kernel
theorem dX5_told_37 : decode cX5_told 37 = .ok (.iload_n 1, 1) := by decide +kernel
theorem dX5_told_38 : decode cX5_told 38 = .ok (.iconst (-1), 1) := by decide +kernel
theorem dX5_told_39 : decode cX5_told 39 = .ok (.if_icmp .ne 11, 3) := by decide +kernel
theorem dX5_told_42 : decode cX5_told 42 = .ok (.aload_n 0, 1) := by decide +kernel
theorem dX5_told_43 : decode cX5_told 43 = .ok (.getfield 67, 3) := by decide +kernel
theorem dX5_told_46 : decode cX5_told 46 = .ok (.getfield 203, 3) := by decide +kernel
theorem dX5_told_49 : decode cX5_told 49 = .ok (.ireturn, 1) := by decide +kernel
theorem dX5_told_50 : decode cX5_told 50 = .ok (.iload_n 1, 1) := by decide +kernel
theorem dX5_told_51 : decode cX5_told 51 = .ok (.ifCond .lt 23, 3) := by decide +kernel
theorem dX5_told_54 : decode cX5_told 54 = .ok (.iload_n 1, 1) := by decide +kernel
theorem dX5_told_55 : decode cX5_told 55 = .ok (.aload_n 0, 1) := by decide +kernel
theorem dX5_told_56 : decode cX5_told 56 = .ok (.getfield 67, 3) := by decide +kernel
theorem dX5_told_59 : decode cX5_told 59 = .ok (.getfield 203, 3) := by decide +kernel
theorem dX5_told_62 : decode cX5_told 62 = .ok (.if_icmp .ge 12, 3) := by decide +kernel
theorem dX5_told_65 : decode cX5_told 65 = .ok (.iload_n 2, 1) := by decide +kernel
theorem dX5_told_66 : decode cX5_told 66 = .ok (.ifCond .lt 8, 3) := by decide +kernel
theorem dX5_told_69 : decode cX5_told 69 = .ok (.iload_n 2, 1) := by decide +kernel
theorem dX5_told_70 : decode cX5_told 70 = .ok (.iconst 2, 1) := by decide +kernel
theorem dX5_told_71 : decode cX5_told 71 = .ok (.if_icmp .le 11, 3) := by decide +kernel
theorem dX5_told_74 : decode cX5_told 74 = .ok (.new 166, 3) := by decide +kernel
theorem dX5_told_77 : decode cX5_told 77 = .ok (.dup, 1) := by decide +kernel
theorem dX5_told_78 : decode cX5_told 78 = .ok (.invokespecial 168, 3) := by decide +kernel
theorem dX5_told_81 : decode cX5_told 81 = .ok (.athrow, 1) := by decide +kernel
theorem dX5_told_82 : decode cX5_told 82 = .ok (.iload_n 2, 1) := by decide +kernel
theorem dX5_told_83 : decode cX5_told 83 = .ok (.ifCond .ne 11, 3) := by decide +kernel
theorem dX5_told_86 : decode cX5_told 86 = .ok (.aload_n 0, 1) := by decide +kernel
theorem dX5_told_87 : decode cX5_told 87 = .ok (.getfield 67, 3) := by decide +kernel
theorem dX5_told_90 : decode cX5_told 90 = .ok (.getfield 206, 3) := by decide +kernel
theorem dX5_told_93 : decode cX5_told 93 = .ok (.ireturn, 1) := by decide +kernel
theorem dX5_told_94 : decode cX5_told 94 = .ok (.iload_n 2, 1) := by decide +kernel
theorem dX5_told_95 : decode cX5_told 95 = .ok (.iconst 1, 1) := by decide +kernel
theorem dX5_told_96 : decode cX5_told 96 = .ok (.if_icmp .ne 13, 3) := by decide +kernel
theorem dX5_told_99 : decode cX5_told 99 = .ok (.aload_n 0, 1) := by decide +kernel
theorem dX5_told_100 : decode cX5_told 100 = .ok (.getfield 67, 3) := by decide +kernel
theorem dX5_told_103 : decode cX5_told 103 = .ok (.getfield 209, 3) := by decide +kernel
theorem dX5_told_106 : decode cX5_told 106 = .ok (.goto 10, 3) := by decide +kernel
theorem dX5_told_109 : decode cX5_told 109 = .ok (.aload_n 0, 1) := by decide +kernel
theorem dX5_told_110 : decode cX5_told 110 = .ok (.getfield 67, 3) := by decide +kernel
theorem dX5_told_113 : decode cX5_told 113 = .ok (.getfield 212, 3) := by decide +kernel
theorem dX5_told_116 : decode cX5_told 116 = .ok (.ireturn, 1) := by decide +kernel
theorem dX5_style_0 : decode cX5_style 0 = .ok (.iload_n 1, 1) := by decide +kernel
theorem dX5_style_1 : decode cX5_style 1 = .ok (.ifCond .lt 9, 3) := by decide +kernel
theorem dX5_style_4 : decode cX5_style 4 = .ok (.iload_n 1, 1) := by decide +kernel
theorem dX5_style_5 : decode cX5_style 5 = .ok (.bipush 127, 2) := by decide +kernel
theorem dX5_style_7 : decode cX5_style 7 = .ok (.if_icmp .le 11, 3) := by decide +kernel
theorem dX5_style_10 : decode cX5_style 10 = .ok (.new 95, 3) := by decide +kernel
theorem dX5_style_13 : decode cX5_style 13 = .ok (.dup, 1) := by decide +kernel
theorem dX5_style_14 : decode cX5_style 14 = .ok (.invokespecial 97, 3) := by decide +kernel
theorem dX5_style_17 : decode cX5_style 17 = .ok (.athrow, 1) := by decide +kernel
theorem dX5_style_18 : decode cX5_style 18 = .ok (.iload_n 1, 1) := by decide +kernel
theorem dX5_style_19 : decode cX5_style 19 = .ok (.ifCond .ne 12, 3) := by decide +kernel
theorem dX5_style_22 : decode cX5_style 22 = .ok (.aload_n 0, 1) := by decide +kernel
theorem dX5_style_23 : decode cX5_style 23 = .ok (.getfield 71, 3) := by decide +kernel
theorem dX5_style_26 : decode cX5_style 26 = .ok (.invokevirtual 215, 3) := by decide +kernel
theorem dX5_style_29 : decode cX5_style 29 = .ok (.iconst 0, 1) := by decide +kernel
theorem dX5_style_30 : decode cX5_style 30 = .ok (.ireturn, 1) := by decide +kernel
theorem dX5_style_31 : decode cX5_style 31 = .ok (.aload_n 0, 1) := by decide +kernel
theorem dX5_style_32 : decode cX5_style 32 = .ok (.getfield 71, 3) := by decide +kernel
theorem dX5_style_35 : decode cX5_style 35 = .ok (.invokevirtual 114, 3) := by decide +kernel
theorem dX5_style_38 : decode cX5_style 38 = .ok (.ifCond .eq 11, 3) := by decide +kernel
theorem dX5_style_41 : decode cX5_style 41 = .ok (.new 98, 3) := by decide +kernel
theorem dX5_style_44 : decode cX5_style 44 = .ok (.dup, 1) := by decide +kernel
theorem dX5_style_45 : decode cX5_style 45 = .ok (.invokespecial 100, 3) := by decide +kernel
theorem dX5_style_48 : decode cX5_style 48 = .ok (.athrow, 1) := by decide +kernel
theorem dX5_style_49 : decode cX5_style 49 = .ok (.aload_n 0, 1) := by decide +kernel
theorem dX5_style_50 : decode cX5_style 50 = .ok (.getfield 71, 3) := by decide +kernel
theorem dX5_style_53 : decode cX5_style 53 = .ok (.iload_n 1, 1) := by decide +kernel
theorem dX5_style_54 : decode cX5_style 54 = .ok (.invokevirtual 158, 3) := by decide +kernel
theorem dX5_style_57 : decode cX5_style 57 = .ok (.aload_n 0, 1) := by decide +kernel
theorem dX5_style_58 : decode cX5_style 58 = .ok (.getfield 71, 3) := by decide +kernel
theorem dX5_style_61 : decode cX5_style 61 = .ok (.invokevirtual 125, 3) := by decide +kernel
theorem dX5_style_64 : decode cX5_style 64 = .ok (.ireturn, 1) := by decide +kernel
theorem dX5_print_0 : decode cX5_print 0 = .ok (.aload_n 0, 1) := by decide +kernel
theorem dX5_print_1 : decode cX5_print 1 = .ok (.invokevirtual 218, 3) := by decide +kernel
theorem dX5_print_4 : decode cX5_print 4 = .ok (.istore_n 1, 1) := by decide +kernel
theorem dX5_print_5 : decode cX5_print 5 = .ok (.iload_n 1, 1) := by decide +kernel
theorem dX5_print_6 : decode cX5_print 6 = .ok (.ifCond .lt 7, 3) := by decide +kernel
theorem dX5_print_9 : decode cX5_print 9 = .ok (.iconst (-1), 1) := by decide +kernel
theorem dX5_print_10 : decode cX5_print 10 = .ok (.iload_n 1, 1) := by decide +kernel
theorem dX5_print_11 : decode cX5_print 11 = .ok (.isub, 1) := by decide +kernel
theorem dX5_print_12 : decode cX5_print 12 = .ok (.ireturn, 1) := by decide +kernel
theorem dX5_print_13 : decode cX5_print 13 = .ok (.aload_n 0, 1) := by decide +kernel
theorem dX5_print_14 : decode cX5_print 14 = .ok (.invokevirtual 163, 3) := by decide +kernel
theorem dX5_print_17 : decode cX5_print 17 = .ok (.aload_n 0, 1) := by decide +kernel
theorem dX5_print_18 : decode cX5_print 18 = .ok (.getfield 81, 3) := by decide +kernel
theorem dX5_print_21 : decode cX5_print 21 = .ok (.invokevirtual 221, 3) := by decide +kernel
theorem dX5_print_24 : decode cX5_print 24 = .ok (.iconst (-1), 1) := by decide +kernel
theorem dX5_print_25 : decode cX5_print 25 = .ok (.istore_n 2, 1) := by decide +kernel
theorem dX5_print_26 : decode cX5_print 26 = .ok (.iconst 0, 1) := by decide +kernel
theorem dX5_print_27 : decode cX5_print 27 = .ok (.istore_n 3, 1) := by decide +kernel
theorem dX5_print_28 : decode cX5_print 28 = .ok (.iload_n 3, 1) := by decide +kernel
theorem dX5_print_29 : decode cX5_print 29 = .ok (.aload_n 0, 1) := by decide +kernel
theorem dX5_print_30 : decode cX5_print 30 = .ok (.getfield 42, 3) := by decide +kernel
theorem dX5_print_33 : decode cX5_print 33 = .ok (.invokevirtual 125, 3) := by decide +kernel
theorem dX5_print_36 : decode cX5_print 36 = .ok (.if_icmp .ge 95, 3) := by decide +kernel
theorem dX5_print_39 : decode cX5_print 39 = .ok (.aload_n 0, 1) := by decide +kernel
theorem dX5_print_40 : decode cX5_print 40 = .ok (.getfield 81, 3) := by decide +kernel
theorem dX5_print_43 : decode cX5_print 43 = .ok (.getfield 222, 3) := by decide +kernel
theorem dX5_print_46 : decode cX5_print 46 = .ok (.ifCond .ne 85, 3) := by decide +kernel
theorem dX5_print_49 : decode cX5_print 49 = .ok (.aload_n 0, 1) := by decide +kernel
theorem dX5_print_50 : decode cX5_print 50 = .ok (.getfield 42, 3) := by decide +kernel
theorem dX5_print_53 : decode cX5_print 53 = .ok (.iload_n 3, 1) := by decide +kernel
theorem dX5_print_54 : decode cX5_print 54 = .ok (.invokevirtual 169, 3) := by decide +kernel
theorem dX5_print_57 : decode cX5_print 57 = .ok (.istore 4, 2) := by decide +kernel
theorem dX5_print_59 : decode cX5_print 59 = .ok (.aload_n 0, 1) := by decide +kernel
theorem dX5_print_60 : decode cX5_print 60 = .ok (.iload 4, 2) := by decide +kernel
theorem dX5_print_62 : decode cX5_print 62 = .ok (.invokevirtual 107, 3) := by decide +kernel
theorem dX5_print_65 : decode cX5_print 65 = .ok (.getfield 172, 3) := by decide +kernel
theorem dX5_print_68 : decode cX5_print 68 = .ok (.istore 5, 2) := by decide +kernel
theorem dX5_print_70 : decode cX5_print 70 = .ok (.aload_n 0, 1) := by decide +kernel
theorem dX5_print_71 : decode cX5_print 71 = .ok (.iload 4, 2) := by decide +kernel
theorem dX5_print_73 : decode cX5_print 73 = .ok (.invokevirtual 181, 3) := by decide +kernel
theorem dX5_print_76 : decode cX5_print 76 = .ok (.istore 6, 2) := by decide +kernel
theorem dX5_print_78 : decode cX5_print 78 = .ok (.aload_n 0, 1) := by decide +kernel
theorem dX5_print_79 : decode cX5_print 79 = .ok (.iload 4, 2) := by decide +kernel
theorem dX5_print_81 : decode cX5_print 81 = .ok (.invokevirtual 175, 3) := by decide +kernel
theorem dX5_print_84 : decode cX5_print 84 = .ok (.aload_n 0, 1) := by decide +kernel
theorem dX5_print_85 : decode cX5_print 85 = .ok (.iload 4, 2) := by decide +kernel
theorem dX5_print_87 : decode cX5_print 87 = .ok (.invokevirtual 178, 3) := by decide +kernel
theorem dX5_print_90 : decode cX5_print 90 = .ok (.iload 5, 2) := by decide +kernel
theorem dX5_print_92 : decode cX5_print 92 = .ok (.ifCond .ne 21, 3) := by decide +kernel
theorem dX5_print_95 : decode cX5_print 95 = .ok (.iload 6, 2) := by decide +kernel
theorem dX5_print_97 : decode cX5_print 97 = .ok (.iload_n 2, 1) := by decide +kernel
theorem dX5_print_98 : decode cX5_print 98 = .ok (.if_icmp .eq 15, 3) := by decide +kernel
theorem dX5_print_101 : decode cX5_print 101 = .ok (.aload_n 0, 1) := by decide +kernel
theorem dX5_print_102 : decode cX5_print 102 = .ok (.iconst 0, 1) := by decide +kernel
theorem dX5_print_103 : decode cX5_print 103 = .ok (.iload 4, 2) := by decide +kernel
theorem dX5_print_105 : decode cX5_print 105 = .ok (.iload 6, 2) := by decide +kernel
theorem dX5_print_107 : decode cX5_print 107 = .ok (.invokevirtual 225, 3) := by decide +kernel
theorem dX5_print_110 : decode cX5_print 110 = .ok (.iload 6, 2) := by decide +kernel
theorem dX5_print_112 : decode cX5_print 112 = .ok (.istore_n 2, 1) := by decide +kernel
theorem dX5_print_113 : decode cX5_print 113 = .ok (.aload_n 0, 1) := by decide +kernel
theorem dX5_print_114 : decode cX5_print 114 = .ok (.iconst 1, 1) := by decide +kernel
theorem dX5_print_115 : decode cX5_print 115 = .ok (.iload 5, 2) := by decide +kernel
theorem dX5_print_117 : decode cX5_print 117 = .ok (.iadd, 1) := by decide +kernel
theorem dX5_print_118 : decode cX5_print 118 = .ok (.iload 4, 2) := by decide +kernel
theorem dX5_print_120 : decode cX5_print 120 = .ok (.iload 6, 2) := by decide +kernel
theorem dX5_print_122 : decode cX5_print 122 = .ok (.invokevirtual 225, 3) := by decide +kernel
theorem dX5_print_125 : decode cX5_print 125 = .ok (.iinc 3 1, 3) := by decide +kernel
theorem dX5_print_128 : decode cX5_print 128 = .ok (.goto (-100), 3) := by decide +kernel
theorem dX5_print_131 : decode cX5_print 131 = .ok (.aload_n 0, 1) := by decide +kernel
theorem dX5_print_132 : decode cX5_print 132 = .ok (.getfield 81, 3) := by decide +kernel
theorem dX5_print_135 : decode cX5_print 135 = .ok (.getfield 222, 3) := by decide +kernel
theorem dX5_print_138 : decode cX5_print 138 = .ok (.ifCond .eq 11, 3) := by decide +kernel
theorem dX5_print_141 : decode cX5_print 141 = .ok (.new 98, 3) := by decide +kernel
theorem dX5_print_144 : decode cX5_print 144 = .ok (.dup, 1) := by decide +kernel
theorem dX5_print_145 : decode cX5_print 145 = .ok (.invokespecial 100, 3) := by decide +kernel
theorem dX5_print_148 : decode cX5_print 148 = .ok (.athrow, 1) := by decide +kernel
theorem dX5_print_149 : decode cX5_print 149 = .ok (.aload_n 0, 1) := by decide +kernel
theorem dX5_print_150 : decode cX5_print 150 = .ok (.getfield 77, 3) := by decide +kernel
theorem dX5_print_153 : decode cX5_print 153 = .ok (.astore_n 3, 1) := by decide +kernel
theorem dX5_print_154 : decode cX5_print 154 = .ok (.aload_n 0, 1) := by decide +kernel
theorem dX5_print_155 : decode cX5_print 155 = .ok (.aload_n 0, 1) := by decide +kernel
theorem dX5_print_156 : decode cX5_print 156 = .ok (.getfield 81, 3) := by decide +kernel
theorem dX5_print_159 : decode cX5_print 159 = .ok (.putfield 77, 3) := by decide +kernel
theorem dX5_print_162 : decode cX5_print 162 = .ok (.aload_n 0, 1) := by decide +kernel
theorem dX5_print_163 : decode cX5_print 163 = .ok (.aload_n 3, 1) := by decide +kernel
theorem dX5_print_164 : decode cX5_print 164 = .ok (.putfield 81, 3) := by decide +kernel
theorem dX5_print_167 : decode cX5_print 167 = .ok (.aload_n 0, 1) := by decide +kernel
theorem dX5_print_168 : decode cX5_print 168 = .ok (.getfield 77, 3) := by decide +kernel
theorem dX5_print_171 : decode cX5_print 171 = .ok (.invokevirtual 229, 3) := by decide +kernel
theorem dX5_print_174 : decode cX5_print 174 = .ok (.ireturn, 1) := by decide +kernel
theorem dX5_at_0 : decode cX5_at 0 = .ok (.iload_n 1, 1) := by decide +kernel
theorem dX5_at_1 : decode cX5_at 1 = .ok (.ifCond .lt 14, 3) := by decide +kernel
theorem dX5_at_4 : decode cX5_at 4 = .ok (.iload_n 1, 1) := by decide +kernel
theorem dX5_at_5 : decode cX5_at 5 = .ok (.aload_n 0, 1) := by decide +kernel
theorem dX5_at_6 : decode cX5_at 6 = .ok (.getfield 77, 3) := by decide +kernel
theorem dX5_at_9 : decode cX5_at 9 = .ok (.invokevirtual 229, 3) := by decide +kernel
theorem dX5_at_12 : decode cX5_at 12 = .ok (.if_icmp .lt 11, 3) := by decide +kernel
theorem dX5_at_15 : decode cX5_at 15 = .ok (.new 230, 3) := by decide +kernel
theorem dX5_at_18 : decode cX5_at 18 = .ok (.dup, 1) := by decide +kernel
theorem dX5_at_19 : decode cX5_at 19 = .ok (.invokespecial 232, 3) := by decide +kernel
theorem dX5_at_22 : decode cX5_at 22 = .ok (.athrow, 1) := by decide +kernel
theorem dX5_at_23 : decode cX5_at 23 = .ok (.aload_n 0, 1) := by decide +kernel
theorem dX5_at_24 : decode cX5_at 24 = .ok (.getfield 77, 3) := by decide +kernel
theorem dX5_at_27 : decode cX5_at 27 = .ok (.iload_n 1, 1) := by decide +kernel
theorem dX5_at_28 : decode cX5_at 28 = .ok (.invokevirtual 233, 3) := by decide +kernel
theorem dX5_at_31 : decode cX5_at 31 = .ok (.ireturn, 1) := by decide +kernel
theorem dX5_isEntry_0 : decode cX5_isEntry 0 = .ok (.iload_n 1, 1) := by decide +kernel
theorem dX5_isEntry_1 : decode cX5_isEntry 1 = .ok (.ifCond .lt 15, 3) := by decide +kernel
theorem dX5_isEntry_4 : decode cX5_isEntry 4 = .ok (.iload_n 1, 1) := by decide +kernel
theorem dX5_isEntry_5 : decode cX5_isEntry 5 = .ok (.aload_n 0, 1) := by decide +kernel
theorem dX5_isEntry_6 : decode cX5_isEntry 6 = .ok (.getfield 22, 3) := by decide +kernel
theorem dX5_isEntry_9 : decode cX5_isEntry 9 = .ok (.if_icmp .ge 7, 3) := by decide +kernel
theorem dX5_isEntry_12 : decode cX5_isEntry 12 = .ok (.iconst 1, 1) := by decide +kernel
theorem dX5_isEntry_13 : decode cX5_isEntry 13 = .ok (.goto 4, 3) := by decide +kernel
theorem dX5_isEntry_16 : decode cX5_isEntry 16 = .ok (.iconst 0, 1) := by decide +kernel
theorem dX5_isEntry_17 : decode cX5_isEntry 17 = .ok (.ireturn, 1) := by decide +kernel
theorem dX5_needEntry_0 : decode cX5_needEntry 0 = .ok (.aload_n 0, 1) := by decide +kernel
theorem dX5_needEntry_1 : decode cX5_needEntry 1 = .ok (.iload_n 1, 1) := by decide +kernel
theorem dX5_needEntry_2 : decode cX5_needEntry 2 = .ok (.invokevirtual 84, 3) := by decide +kernel
theorem dX5_needEntry_5 : decode cX5_needEntry 5 = .ok (.ifCond .ne 11, 3) := by decide +kernel
theorem dX5_needEntry_8 : decode cX5_needEntry 8 = .ok (.new 88, 3) := by decide +kernel
theorem dX5_needEntry_11 : decode cX5_needEntry 11 = .ok (.dup, 1) := by decide +kernel
theorem dX5_needEntry_12 : decode cX5_needEntry 12 = .ok (.invokespecial 90, 3) := by decide +kernel
theorem dX5_needEntry_15 : decode cX5_needEntry 15 = .ok (.athrow, 1) := by decide +kernel
theorem dX5_needEntry_16 : decode cX5_needEntry 16 = .ok (.return_, 1) := by decide +kernel
theorem dX5_known_0 : decode cX5_known 0 = .ok (.aload_n 0, 1) := by decide +kernel
theorem dX5_known_1 : decode cX5_known 1 = .ok (.iload_n 1, 1) := by decide +kernel
theorem dX5_known_2 : decode cX5_known 2 = .ok (.invokevirtual 84, 3) := by decide +kernel
theorem dX5_known_5 : decode cX5_known 5 = .ok (.ifCond .eq 21, 3) := by decide +kernel
theorem dX5_known_8 : decode cX5_known 8 = .ok (.iload_n 1, 1) := by decide +kernel
theorem dX5_known_9 : decode cX5_known 9 = .ok (.aload_n 0, 1) := by decide +kernel
theorem dX5_known_10 : decode cX5_known 10 = .ok (.getfield 11, 3) := by decide +kernel
theorem dX5_known_13 : decode cX5_known 13 = .ok (.arraylength, 1) := by decide +kernel
theorem dX5_known_14 : decode cX5_known 14 = .ok (.if_icmp .ge 12, 3) := by decide +kernel
theorem dX5_known_17 : decode cX5_known 17 = .ok (.aload_n 0, 1) := by decide +kernel
theorem dX5_known_18 : decode cX5_known 18 = .ok (.getfield 11, 3) := by decide +kernel
theorem dX5_known_21 : decode cX5_known 21 = .ok (.iload_n 1, 1) := by decide +kernel
theorem dX5_known_22 : decode cX5_known 22 = .ok (.aaload, 1) := by decide +kernel
theorem dX5_known_23 : decode cX5_known 23 = .ok (.goto 4, 3) := by decide +kernel
theorem dX5_known_26 : decode cX5_known 26 = .ok (.aconst_null, 1) := by decide +kernel
theorem dX5_known_27 : decode cX5_known 27 = .ok (.astore_n 2, 1) := by decide +kernel
theorem dX5_known_28 : decode cX5_known 28 = .ok (.aload_n 2, 1) := by decide +kernel
theorem dX5_known_29 : decode cX5_known 29 = .ok (.ifnonnull 10, 3) := by decide +kernel
theorem dX5_known_32 : decode cX5_known 32 = .ok (.aload_n 0, 1) := by decide +kernel
theorem dX5_known_33 : decode cX5_known 33 = .ok (.getfield 18, 3) := by decide +kernel
theorem dX5_known_36 : decode cX5_known 36 = .ok (.goto 4, 3) := by decide +kernel
theorem dX5_known_39 : decode cX5_known 39 = .ok (.aload_n 2, 1) := by decide +kernel
theorem dX5_known_40 : decode cX5_known 40 = .ok (.areturn, 1) := by decide +kernel
theorem dX5_isLevelBefore_0 : decode cX5_isLevelBefore 0 = .ok (.iload_n 2, 1) := by decide +kernel
theorem dX5_isLevelBefore_1 : decode cX5_isLevelBefore 1 = .ok (.ifCond .ne 16, 3) := by decide +kernel
theorem dX5_isLevelBefore_4 : decode cX5_isLevelBefore 4 = .ok (.iload_n 1, 1) := by decide +kernel
theorem dX5_isLevelBefore_5 : decode cX5_isLevelBefore 5 = .ok (.iconst (-1), 1) := by decide +kernel
theorem dX5_isLevelBefore_6 : decode cX5_isLevelBefore 6 = .ok (.if_icmp .ne 7, 3) := by decide +kernel
theorem dX5_isLevelBefore_9 : decode cX5_isLevelBefore 9 = .ok (.iconst 1, 1) := by decide +kernel
theorem dX5_isLevelBefore_10 : decode cX5_isLevelBefore 10 = .ok (.goto 31, 3) := by decide +kernel
theorem dX5_isLevelBefore_13 : decode cX5_isLevelBefore 13 = .ok (.iconst 0, 1) := by decide +kernel
theorem dX5_isLevelBefore_14 : decode cX5_isLevelBefore 14 = .ok (.goto 27, 3) := by decide +kernel
theorem dX5_isLevelBefore_17 : decode cX5_isLevelBefore 17 = .ok (.iload_n 1, 1) := by decide +kernel
theorem dX5_isLevelBefore_18 : decode cX5_isLevelBefore 18 = .ok (.iconst (-1), 1) := by decide +kernel
theorem dX5_isLevelBefore_19 : decode cX5_isLevelBefore 19 = .ok (.if_icmp .eq 21, 3) := by decide +kernel
theorem dX5_isLevelBefore_22 : decode cX5_isLevelBefore 22 = .ok (.aload_n 0, 1) := by decide +kernel
theorem dX5_isLevelBefore_23 : decode cX5_isLevelBefore 23 = .ok (.iload_n 1, 1) := by decide +kernel
theorem dX5_isLevelBefore_24 : decode cX5_isLevelBefore 24 = .ok (.invokevirtual 107, 3) := by decide +kernel
theorem dX5_isLevelBefore_27 : decode cX5_isLevelBefore 27 = .ok (.getfield 172, 3) := by decide +kernel
theorem dX5_isLevelBefore_30 : decode cX5_isLevelBefore 30 = .ok (.iload_n 2, 1) := by decide +kernel
theorem dX5_isLevelBefore_31 : decode cX5_isLevelBefore 31 = .ok (.iconst 1, 1) := by decide +kernel
theorem dX5_isLevelBefore_32 : decode cX5_isLevelBefore 32 = .ok (.isub, 1) := by decide +kernel
theorem dX5_isLevelBefore_33 : decode cX5_isLevelBefore 33 = .ok (.if_icmp .ne 7, 3) := by decide +kernel
theorem dX5_isLevelBefore_36 : decode cX5_isLevelBefore 36 = .ok (.iconst 1, 1) := by decide +kernel
theorem dX5_isLevelBefore_37 : decode cX5_isLevelBefore 37 = .ok (.goto 4, 3) := by decide +kernel
theorem dX5_isLevelBefore_40 : decode cX5_isLevelBefore 40 = .ok (.iconst 0, 1) := by decide +kernel
theorem dX5_isLevelBefore_41 : decode cX5_isLevelBefore 41 = .ok (.ireturn, 1) := by decide +kernel
theorem dX5_lastOf_0 : decode cX5_lastOf 0 = .ok (.iload_n 0, 1) := by decide +kernel
theorem dX5_lastOf_1 : decode cX5_lastOf 1 = .ok (.tableswitch 38 0 2 #[27, 31, 34], 27) := by decide +kernel
theorem dX5_lastOf_28 : decode cX5_lastOf 28 = .ok (.sipush 3999, 3) := by decide +kernel
theorem dX5_lastOf_31 : decode cX5_lastOf 31 = .ok (.ireturn, 1) := by decide +kernel
theorem dX5_lastOf_32 : decode cX5_lastOf 32 = .ok (.ldc 234, 2) := by decide +kernel
theorem dX5_lastOf_34 : decode cX5_lastOf 34 = .ok (.ireturn, 1) := by decide +kernel
theorem dX5_lastOf_35 : decode cX5_lastOf 35 = .ok (.sipush 702, 3) := by decide +kernel
theorem dX5_lastOf_38 : decode cX5_lastOf 38 = .ok (.ireturn, 1) := by decide +kernel
theorem dX5_lastOf_39 : decode cX5_lastOf 39 = .ok (.iconst 0, 1) := by decide +kernel
theorem dX5_lastOf_40 : decode cX5_lastOf 40 = .ok (.ireturn, 1) := by decide +kernel
theorem dX5_makeKeys_0 : decode cX5_makeKeys 0 = .ok (.iconst 0, 1) := by decide +kernel
theorem dX5_makeKeys_1 : decode cX5_makeKeys 1 = .ok (.istore_n 1, 1) := by decide +kernel
theorem dX5_makeKeys_2 : decode cX5_makeKeys 2 = .ok (.iload_n 1, 1) := by decide +kernel
theorem dX5_makeKeys_3 : decode cX5_makeKeys 3 = .ok (.aload_n 0, 1) := by decide +kernel
theorem dX5_makeKeys_4 : decode cX5_makeKeys 4 = .ok (.getfield 22, 3) := by decide +kernel
theorem dX5_makeKeys_7 : decode cX5_makeKeys 7 = .ok (.if_icmp .ge 25, 3) := by decide +kernel
theorem dX5_makeKeys_10 : decode cX5_makeKeys 10 = .ok (.aload_n 0, 1) := by decide +kernel
theorem dX5_makeKeys_11 : decode cX5_makeKeys 11 = .ok (.iload_n 1, 1) := by decide +kernel
theorem dX5_makeKeys_12 : decode cX5_makeKeys 12 = .ok (.invokevirtual 107, 3) := by decide +kernel
theorem dX5_makeKeys_15 : decode cX5_makeKeys 15 = .ok (.aload_n 0, 1) := by decide +kernel
theorem dX5_makeKeys_16 : decode cX5_makeKeys 16 = .ok (.getfield 26, 3) := by decide +kernel
theorem dX5_makeKeys_19 : decode cX5_makeKeys 19 = .ok (.aload_n 0, 1) := by decide +kernel
theorem dX5_makeKeys_20 : decode cX5_makeKeys 20 = .ok (.getfield 30, 3) := by decide +kernel
theorem dX5_makeKeys_23 : decode cX5_makeKeys 23 = .ok (.invokevirtual 121, 3) := by decide +kernel
theorem dX5_makeKeys_26 : decode cX5_makeKeys 26 = .ok (.iinc 1 1, 3) := by decide +kernel
theorem dX5_makeKeys_29 : decode cX5_makeKeys 29 = .ok (.goto (-27), 3) := by decide +kernel
theorem dX5_makeKeys_32 : decode cX5_makeKeys 32 = .ok (.return_, 1) := by decide +kernel
theorem dX5_forgetRows_0 : decode cX5_forgetRows 0 = .ok (.aload_n 0, 1) := by decide +kernel
theorem dX5_forgetRows_1 : decode cX5_forgetRows 1 = .ok (.iconst 0, 1) := by decide +kernel
theorem dX5_forgetRows_2 : decode cX5_forgetRows 2 = .ok (.putfield 45, 3) := by decide +kernel
theorem dX5_forgetRows_5 : decode cX5_forgetRows 5 = .ok (.aload_n 0, 1) := by decide +kernel
theorem dX5_forgetRows_6 : decode cX5_forgetRows 6 = .ok (.iconst (-1), 1) := by decide +kernel
theorem dX5_forgetRows_7 : decode cX5_forgetRows 7 = .ok (.putfield 58, 3) := by decide +kernel
theorem dX5_forgetRows_10 : decode cX5_forgetRows 10 = .ok (.return_, 1) := by decide +kernel
theorem dX5_findRows_0 : decode cX5_findRows 0 = .ok (.aload_n 0, 1) := by decide +kernel
theorem dX5_findRows_1 : decode cX5_findRows 1 = .ok (.getfield 45, 3) := by decide +kernel
theorem dX5_findRows_4 : decode cX5_findRows 4 = .ok (.ifCond .eq 4, 3) := by decide +kernel
theorem dX5_findRows_7 : decode cX5_findRows 7 = .ok (.return_, 1) := by decide +kernel
theorem dX5_findRows_8 : decode cX5_findRows 8 = .ok (.iconst 0, 1) := by decide +kernel
theorem dX5_findRows_9 : decode cX5_findRows 9 = .ok (.istore_n 1, 1) := by decide +kernel
theorem dX5_findRows_10 : decode cX5_findRows 10 = .ok (.iload_n 1, 1) := by decide +kernel
theorem dX5_findRows_11 : decode cX5_findRows 11 = .ok (.aload_n 0, 1) := by decide +kernel
theorem dX5_findRows_12 : decode cX5_findRows 12 = .ok (.getfield 22, 3) := by decide +kernel
theorem dX5_findRows_15 : decode cX5_findRows 15 = .ok (.if_icmp .ge 22, 3) := by decide +kernel
theorem dX5_findRows_18 : decode cX5_findRows 18 = .ok (.aload_n 0, 1) := by decide +kernel
theorem dX5_findRows_19 : decode cX5_findRows 19 = .ok (.iload_n 1, 1) := by decide +kernel
theorem dX5_findRows_20 : decode cX5_findRows 20 = .ok (.invokevirtual 107, 3) := by decide +kernel
theorem dX5_findRows_23 : decode cX5_findRows 23 = .ok (.aload_n 0, 1) := by decide +kernel
theorem dX5_findRows_24 : decode cX5_findRows 24 = .ok (.iload_n 1, 1) := by decide +kernel
theorem dX5_findRows_25 : decode cX5_findRows 25 = .ok (.invokevirtual 235, 3) := by decide +kernel
theorem dX5_findRows_28 : decode cX5_findRows 28 = .ok (.putfield 238, 3) := by decide +kernel
theorem dX5_findRows_31 : decode cX5_findRows 31 = .ok (.iinc 1 1, 3) := by decide +kernel
theorem dX5_findRows_34 : decode cX5_findRows 34 = .ok (.goto (-24), 3) := by decide +kernel
theorem dX5_findRows_37 : decode cX5_findRows 37 = .ok (.aload_n 0, 1) := by decide +kernel
theorem dX5_findRows_38 : decode cX5_findRows 38 = .ok (.invokevirtual 241, 3) := by decide +kernel
theorem dX5_findRows_41 : decode cX5_findRows 41 = .ok (.aload_n 0, 1) := by decide +kernel
theorem dX5_findRows_42 : decode cX5_findRows 42 = .ok (.getfield 42, 3) := by decide +kernel
theorem dX5_findRows_45 : decode cX5_findRows 45 = .ok (.invokevirtual 215, 3) := by decide +kernel
theorem dX5_findRows_48 : decode cX5_findRows 48 = .ok (.aload_n 0, 1) := by decide +kernel
theorem dX5_findRows_49 : decode cX5_findRows 49 = .ok (.iconst (-1), 1) := by decide +kernel
theorem dX5_findRows_50 : decode cX5_findRows 50 = .ok (.iconst 0, 1) := by decide +kernel
theorem dX5_findRows_51 : decode cX5_findRows 51 = .ok (.invokevirtual 244, 3) := by decide +kernel
theorem dX5_findRows_54 : decode cX5_findRows 54 = .ok (.aload_n 0, 1) := by decide +kernel
theorem dX5_findRows_55 : decode cX5_findRows 55 = .ok (.iconst 1, 1) := by decide +kernel
theorem dX5_findRows_56 : decode cX5_findRows 56 = .ok (.putfield 45, 3) := by decide +kernel
theorem dX5_findRows_59 : decode cX5_findRows 59 = .ok (.return_, 1) := by decide +kernel
theorem dX5_firstSame_0 : decode cX5_firstSame 0 = .ok (.iconst 0, 1) := by decide +kernel
theorem dX5_firstSame_1 : decode cX5_firstSame 1 = .ok (.istore_n 2, 1) := by decide +kernel
theorem dX5_firstSame_2 : decode cX5_firstSame 2 = .ok (.iload_n 2, 1) := by decide +kernel
theorem dX5_firstSame_3 : decode cX5_firstSame 3 = .ok (.iload_n 1, 1) := by decide +kernel
theorem dX5_firstSame_4 : decode cX5_firstSame 4 = .ok (.if_icmp .ge 28, 3) := by decide +kernel
theorem dX5_firstSame_7 : decode cX5_firstSame 7 = .ok (.aload_n 0, 1) := by decide +kernel
theorem dX5_firstSame_8 : decode cX5_firstSame 8 = .ok (.aload_n 0, 1) := by decide +kernel
theorem dX5_firstSame_9 : decode cX5_firstSame 9 = .ok (.iload_n 1, 1) := by decide +kernel
theorem dX5_firstSame_10 : decode cX5_firstSame 10 = .ok (.invokevirtual 107, 3) := by decide +kernel
theorem dX5_firstSame_13 : decode cX5_firstSame 13 = .ok (.aload_n 0, 1) := by decide +kernel
theorem dX5_firstSame_14 : decode cX5_firstSame 14 = .ok (.iload_n 2, 1) := by decide +kernel
theorem dX5_firstSame_15 : decode cX5_firstSame 15 = .ok (.invokevirtual 107, 3) := by decide +kernel
theorem dX5_firstSame_18 : decode cX5_firstSame 18 = .ok (.invokevirtual 247, 3) := by decide +kernel
theorem dX5_firstSame_21 : decode cX5_firstSame 21 = .ok (.ifCond .eq 5, 3) := by decide +kernel
theorem dX5_firstSame_24 : decode cX5_firstSame 24 = .ok (.iload_n 2, 1) := by decide +kernel
theorem dX5_firstSame_25 : decode cX5_firstSame 25 = .ok (.ireturn, 1) := by decide +kernel
theorem dX5_firstSame_26 : decode cX5_firstSame 26 = .ok (.iinc 2 1, 3) := by decide +kernel
theorem dX5_firstSame_29 : decode cX5_firstSame 29 = .ok (.goto (-27), 3) := by decide +kernel
theorem dX5_firstSame_32 : decode cX5_firstSame 32 = .ok (.iload_n 1, 1) := by decide +kernel
theorem dX5_firstSame_33 : decode cX5_firstSame 33 = .ok (.ireturn, 1) := by decide +kernel
theorem dX5_isSame_0 : decode cX5_isSame 0 = .ok (.aload_n 1, 1) := by decide +kernel
theorem dX5_isSame_1 : decode cX5_isSame 1 = .ok (.getfield 172, 3) := by decide +kernel
theorem dX5_isSame_4 : decode cX5_isSame 4 = .ok (.aload_n 2, 1) := by decide +kernel
theorem dX5_isSame_5 : decode cX5_isSame 5 = .ok (.getfield 172, 3) := by decide +kernel
theorem dX5_isSame_8 : decode cX5_isSame 8 = .ok (.if_icmp .ne 40, 3) := by decide +kernel
theorem dX5_isSame_11 : decode cX5_isSame 11 = .ok (.aload_n 0, 1) := by decide +kernel
theorem dX5_isSame_12 : decode cX5_isSame 12 = .ok (.aload_n 1, 1) := by decide +kernel
theorem dX5_isSame_13 : decode cX5_isSame 13 = .ok (.getfield 251, 3) := by decide +kernel
theorem dX5_isSame_16 : decode cX5_isSame 16 = .ok (.invokevirtual 254, 3) := by decide +kernel
theorem dX5_isSame_19 : decode cX5_isSame 19 = .ok (.aload_n 0, 1) := by decide +kernel
theorem dX5_isSame_20 : decode cX5_isSame 20 = .ok (.aload_n 2, 1) := by decide +kernel
theorem dX5_isSame_21 : decode cX5_isSame 21 = .ok (.getfield 251, 3) := by decide +kernel
theorem dX5_isSame_24 : decode cX5_isSame 24 = .ok (.invokevirtual 254, 3) := by decide +kernel
theorem dX5_isSame_27 : decode cX5_isSame 27 = .ok (.if_icmp .ne 21, 3) := by decide +kernel
theorem dX5_isSame_30 : decode cX5_isSame 30 = .ok (.aload_n 1, 1) := by decide +kernel
theorem dX5_isSame_31 : decode cX5_isSame 31 = .ok (.getfield 257, 3) := by decide +kernel
theorem dX5_isSame_34 : decode cX5_isSame 34 = .ok (.aload_n 2, 1) := by decide +kernel
theorem dX5_isSame_35 : decode cX5_isSame 35 = .ok (.getfield 257, 3) := by decide +kernel
theorem dX5_isSame_38 : decode cX5_isSame 38 = .ok (.invokevirtual 260, 3) := by decide +kernel
theorem dX5_isSame_41 : decode cX5_isSame 41 = .ok (.ifCond .ne 7, 3) := by decide +kernel
theorem dX5_isSame_44 : decode cX5_isSame 44 = .ok (.iconst 1, 1) := by decide +kernel
theorem dX5_isSame_45 : decode cX5_isSame 45 = .ok (.goto 4, 3) := by decide +kernel
theorem dX5_isSame_48 : decode cX5_isSame 48 = .ok (.iconst 0, 1) := by decide +kernel
theorem dX5_isSame_49 : decode cX5_isSame 49 = .ok (.ireturn, 1) := by decide +kernel
theorem dX5_firstOf_0 : decode cX5_firstOf 0 = .ok (.aload_n 0, 1) := by decide +kernel
theorem dX5_firstOf_1 : decode cX5_firstOf 1 = .ok (.iload_n 1, 1) := by decide +kernel
theorem dX5_firstOf_2 : decode cX5_firstOf 2 = .ok (.invokevirtual 84, 3) := by decide +kernel
theorem dX5_firstOf_5 : decode cX5_firstOf 5 = .ok (.ifCond .eq 14, 3) := by decide +kernel
theorem dX5_firstOf_8 : decode cX5_firstOf 8 = .ok (.aload_n 0, 1) := by decide +kernel
theorem dX5_firstOf_9 : decode cX5_firstOf 9 = .ok (.iload_n 1, 1) := by decide +kernel
theorem dX5_firstOf_10 : decode cX5_firstOf 10 = .ok (.invokevirtual 107, 3) := by decide +kernel
theorem dX5_firstOf_13 : decode cX5_firstOf 13 = .ok (.getfield 238, 3) := by decide +kernel
theorem dX5_firstOf_16 : decode cX5_firstOf 16 = .ok (.goto 4, 3) := by decide +kernel
theorem dX5_firstOf_19 : decode cX5_firstOf 19 = .ok (.iconst (-1), 1) := by decide +kernel
theorem dX5_firstOf_20 : decode cX5_firstOf 20 = .ok (.ireturn, 1) := by decide +kernel
theorem dX5_sortFirsts_0 : decode cX5_sortFirsts 0 = .ok (.aload_n 0, 1) := by decide +kernel
theorem dX5_sortFirsts_1 : decode cX5_sortFirsts 1 = .ok (.getfield 38, 3) := by decide +kernel
theorem dX5_sortFirsts_4 : decode cX5_sortFirsts 4 = .ok (.invokevirtual 215, 3) := by decide +kernel
theorem dX5_sortFirsts_7 : decode cX5_sortFirsts 7 = .ok (.iconst 0, 1) := by decide +kernel
theorem dX5_sortFirsts_8 : decode cX5_sortFirsts 8 = .ok (.istore_n 1, 1) := by decide +kernel
theorem dX5_sortFirsts_9 : decode cX5_sortFirsts 9 = .ok (.iload_n 1, 1) := by decide +kernel
theorem dX5_sortFirsts_10 : decode cX5_sortFirsts 10 = .ok (.aload_n 0, 1) := by decide +kernel
theorem dX5_sortFirsts_11 : decode cX5_sortFirsts 11 = .ok (.getfield 22, 3) := by decide +kernel
theorem dX5_sortFirsts_14 : decode cX5_sortFirsts 14 = .ok (.if_icmp .ge 85, 3) := by decide +kernel
theorem dX5_sortFirsts_17 : decode cX5_sortFirsts 17 = .ok (.aload_n 0, 1) := by decide +kernel
theorem dX5_sortFirsts_18 : decode cX5_sortFirsts 18 = .ok (.iload_n 1, 1) := by decide +kernel
theorem dX5_sortFirsts_19 : decode cX5_sortFirsts 19 = .ok (.invokevirtual 254, 3) := by decide +kernel
theorem dX5_sortFirsts_22 : decode cX5_sortFirsts 22 = .ok (.iload_n 1, 1) := by decide +kernel
theorem dX5_sortFirsts_23 : decode cX5_sortFirsts 23 = .ok (.if_icmp .eq 6, 3) := by decide +kernel
theorem dX5_sortFirsts_26 : decode cX5_sortFirsts 26 = .ok (.goto 67, 3) := by decide +kernel
theorem dX5_sortFirsts_29 : decode cX5_sortFirsts 29 = .ok (.aload_n 0, 1) := by decide +kernel
theorem dX5_sortFirsts_30 : decode cX5_sortFirsts 30 = .ok (.getfield 38, 3) := by decide +kernel
theorem dX5_sortFirsts_33 : decode cX5_sortFirsts 33 = .ok (.iload_n 1, 1) := by decide +kernel
theorem dX5_sortFirsts_34 : decode cX5_sortFirsts 34 = .ok (.invokevirtual 158, 3) := by decide +kernel
theorem dX5_sortFirsts_37 : decode cX5_sortFirsts 37 = .ok (.aload_n 0, 1) := by decide +kernel
theorem dX5_sortFirsts_38 : decode cX5_sortFirsts 38 = .ok (.getfield 38, 3) := by decide +kernel
theorem dX5_sortFirsts_41 : decode cX5_sortFirsts 41 = .ok (.invokevirtual 125, 3) := by decide +kernel
theorem dX5_sortFirsts_44 : decode cX5_sortFirsts 44 = .ok (.iconst 1, 1) := by decide +kernel
theorem dX5_sortFirsts_45 : decode cX5_sortFirsts 45 = .ok (.isub, 1) := by decide +kernel
theorem dX5_sortFirsts_46 : decode cX5_sortFirsts 46 = .ok (.istore_n 2, 1) := by decide +kernel
theorem dX5_sortFirsts_47 : decode cX5_sortFirsts 47 = .ok (.iload_n 2, 1) := by decide +kernel
theorem dX5_sortFirsts_48 : decode cX5_sortFirsts 48 = .ok (.ifCond .le 45, 3) := by decide +kernel
theorem dX5_sortFirsts_51 : decode cX5_sortFirsts 51 = .ok (.aload_n 0, 1) := by decide +kernel
theorem dX5_sortFirsts_52 : decode cX5_sortFirsts 52 = .ok (.iload_n 1, 1) := by decide +kernel
theorem dX5_sortFirsts_53 : decode cX5_sortFirsts 53 = .ok (.invokevirtual 107, 3) := by decide +kernel
theorem dX5_sortFirsts_56 : decode cX5_sortFirsts 56 = .ok (.aload_n 0, 1) := by decide +kernel
theorem dX5_sortFirsts_57 : decode cX5_sortFirsts 57 = .ok (.aload_n 0, 1) := by decide +kernel
theorem dX5_sortFirsts_58 : decode cX5_sortFirsts 58 = .ok (.getfield 38, 3) := by decide +kernel
theorem dX5_sortFirsts_61 : decode cX5_sortFirsts 61 = .ok (.iload_n 2, 1) := by decide +kernel
theorem dX5_sortFirsts_62 : decode cX5_sortFirsts 62 = .ok (.iconst 1, 1) := by decide +kernel
theorem dX5_sortFirsts_63 : decode cX5_sortFirsts 63 = .ok (.isub, 1) := by decide +kernel
theorem dX5_sortFirsts_64 : decode cX5_sortFirsts 64 = .ok (.invokevirtual 169, 3) := by decide +kernel
theorem dX5_sortFirsts_67 : decode cX5_sortFirsts 67 = .ok (.invokevirtual 107, 3) := by decide +kernel
theorem dX5_sortFirsts_70 : decode cX5_sortFirsts 70 = .ok (.invokevirtual 190, 3) := by decide +kernel
theorem dX5_sortFirsts_73 : decode cX5_sortFirsts 73 = .ok (.ifCond .ge 20, 3) := by decide +kernel
theorem dX5_sortFirsts_76 : decode cX5_sortFirsts 76 = .ok (.aload_n 0, 1) := by decide +kernel
theorem dX5_sortFirsts_77 : decode cX5_sortFirsts 77 = .ok (.getfield 38, 3) := by decide +kernel
theorem dX5_sortFirsts_80 : decode cX5_sortFirsts 80 = .ok (.iload_n 2, 1) := by decide +kernel
theorem dX5_sortFirsts_81 : decode cX5_sortFirsts 81 = .ok (.iload_n 2, 1) := by decide +kernel
theorem dX5_sortFirsts_82 : decode cX5_sortFirsts 82 = .ok (.iconst 1, 1) := by decide +kernel
theorem dX5_sortFirsts_83 : decode cX5_sortFirsts 83 = .ok (.isub, 1) := by decide +kernel
theorem dX5_sortFirsts_84 : decode cX5_sortFirsts 84 = .ok (.invokevirtual 263, 3) := by decide +kernel
theorem dX5_sortFirsts_87 : decode cX5_sortFirsts 87 = .ok (.iinc 2 (-1), 3) := by decide +kernel
theorem dX5_sortFirsts_90 : decode cX5_sortFirsts 90 = .ok (.goto (-43), 3) := by decide +kernel
theorem dX5_sortFirsts_93 : decode cX5_sortFirsts 93 = .ok (.iinc 1 1, 3) := by decide +kernel
theorem dX5_sortFirsts_96 : decode cX5_sortFirsts 96 = .ok (.goto (-87), 3) := by decide +kernel
theorem dX5_sortFirsts_99 : decode cX5_sortFirsts 99 = .ok (.return_, 1) := by decide +kernel
theorem dX5_addRowsUnder_0 : decode cX5_addRowsUnder 0 = .ok (.iload_n 2, 1) := by decide +kernel
theorem dX5_addRowsUnder_1 : decode cX5_addRowsUnder 1 = .ok (.iconst 3, 1) := by decide +kernel
theorem dX5_addRowsUnder_2 : decode cX5_addRowsUnder 2 = .ok (.if_icmp .lt 4, 3) := by decide +kernel
theorem dX5_addRowsUnder_5 : decode cX5_addRowsUnder 5 = .ok (.return_, 1) := by decide +kernel
theorem dX5_addRowsUnder_6 : decode cX5_addRowsUnder 6 = .ok (.iconst 0, 1) := by decide +kernel
theorem dX5_addRowsUnder_7 : decode cX5_addRowsUnder 7 = .ok (.istore_n 3, 1) := by decide +kernel
theorem dX5_addRowsUnder_8 : decode cX5_addRowsUnder 8 = .ok (.iload_n 3, 1) := by decide +kernel
theorem dX5_addRowsUnder_9 : decode cX5_addRowsUnder 9 = .ok (.aload_n 0, 1) := by decide +kernel
theorem dX5_addRowsUnder_10 : decode cX5_addRowsUnder 10 = .ok (.getfield 38, 3) := by decide +kernel
theorem dX5_addRowsUnder_13 : decode cX5_addRowsUnder 13 = .ok (.invokevirtual 125, 3) := by decide +kernel
theorem dX5_addRowsUnder_16 : decode cX5_addRowsUnder 16 = .ok (.if_icmp .ge 67, 3) := by decide +kernel
theorem dX5_addRowsUnder_19 : decode cX5_addRowsUnder 19 = .ok (.aload_n 0, 1) := by decide +kernel
theorem dX5_addRowsUnder_20 : decode cX5_addRowsUnder 20 = .ok (.getfield 38, 3) := by decide +kernel
theorem dX5_addRowsUnder_23 : decode cX5_addRowsUnder 23 = .ok (.iload_n 3, 1) := by decide +kernel
theorem dX5_addRowsUnder_24 : decode cX5_addRowsUnder 24 = .ok (.invokevirtual 169, 3) := by decide +kernel
theorem dX5_addRowsUnder_27 : decode cX5_addRowsUnder 27 = .ok (.istore 4, 2) := by decide +kernel
theorem dX5_addRowsUnder_29 : decode cX5_addRowsUnder 29 = .ok (.aload_n 0, 1) := by decide +kernel
theorem dX5_addRowsUnder_30 : decode cX5_addRowsUnder 30 = .ok (.iload 4, 2) := by decide +kernel
theorem dX5_addRowsUnder_32 : decode cX5_addRowsUnder 32 = .ok (.invokevirtual 107, 3) := by decide +kernel
theorem dX5_addRowsUnder_35 : decode cX5_addRowsUnder 35 = .ok (.getfield 172, 3) := by decide +kernel
theorem dX5_addRowsUnder_38 : decode cX5_addRowsUnder 38 = .ok (.iload_n 2, 1) := by decide +kernel
theorem dX5_addRowsUnder_39 : decode cX5_addRowsUnder 39 = .ok (.if_icmp .ne 38, 3) := by decide +kernel
theorem dX5_addRowsUnder_42 : decode cX5_addRowsUnder 42 = .ok (.aload_n 0, 1) := by decide +kernel
theorem dX5_addRowsUnder_43 : decode cX5_addRowsUnder 43 = .ok (.aload_n 0, 1) := by decide +kernel
theorem dX5_addRowsUnder_44 : decode cX5_addRowsUnder 44 = .ok (.iload 4, 2) := by decide +kernel
theorem dX5_addRowsUnder_46 : decode cX5_addRowsUnder 46 = .ok (.invokevirtual 107, 3) := by decide +kernel
theorem dX5_addRowsUnder_49 : decode cX5_addRowsUnder 49 = .ok (.getfield 251, 3) := by decide +kernel
theorem dX5_addRowsUnder_52 : decode cX5_addRowsUnder 52 = .ok (.invokevirtual 254, 3) := by decide +kernel
theorem dX5_addRowsUnder_55 : decode cX5_addRowsUnder 55 = .ok (.iload_n 1, 1) := by decide +kernel
theorem dX5_addRowsUnder_56 : decode cX5_addRowsUnder 56 = .ok (.if_icmp .ne 21, 3) := by decide +kernel
theorem dX5_addRowsUnder_59 : decode cX5_addRowsUnder 59 = .ok (.aload_n 0, 1) := by decide +kernel
theorem dX5_addRowsUnder_60 : decode cX5_addRowsUnder 60 = .ok (.getfield 42, 3) := by decide +kernel
theorem dX5_addRowsUnder_63 : decode cX5_addRowsUnder 63 = .ok (.iload 4, 2) := by decide +kernel
theorem dX5_addRowsUnder_65 : decode cX5_addRowsUnder 65 = .ok (.invokevirtual 158, 3) := by decide +kernel
theorem dX5_addRowsUnder_68 : decode cX5_addRowsUnder 68 = .ok (.aload_n 0, 1) := by decide +kernel
theorem dX5_addRowsUnder_69 : decode cX5_addRowsUnder 69 = .ok (.iload 4, 2) := by decide +kernel
theorem dX5_addRowsUnder_71 : decode cX5_addRowsUnder 71 = .ok (.iload_n 2, 1) := by decide +kernel
theorem dX5_addRowsUnder_72 : decode cX5_addRowsUnder 72 = .ok (.iconst 1, 1) := by decide +kernel
theorem dX5_addRowsUnder_73 : decode cX5_addRowsUnder 73 = .ok (.iadd, 1) := by decide +kernel
theorem dX5_addRowsUnder_74 : decode cX5_addRowsUnder 74 = .ok (.invokevirtual 244, 3) := by decide +kernel
theorem dX5_addRowsUnder_77 : decode cX5_addRowsUnder 77 = .ok (.iinc 3 1, 3) := by decide +kernel
theorem dX5_addRowsUnder_80 : decode cX5_addRowsUnder 80 = .ok (.goto (-72), 3) := by decide +kernel
theorem dX5_addRowsUnder_83 : decode cX5_addRowsUnder 83 = .ok (.return_, 1) := by decide +kernel
theorem dX5_groupOf_0 : decode cX5_groupOf 0 = .ok (.iload_n 1, 1) := by decide +kernel
theorem dX5_groupOf_1 : decode cX5_groupOf 1 = .ok (.istore_n 2, 1) := by decide +kernel
theorem dX5_groupOf_2 : decode cX5_groupOf 2 = .ok (.iconst 1, 1) := by decide +kernel
theorem dX5_groupOf_3 : decode cX5_groupOf 3 = .ok (.istore_n 3, 1) := by decide +kernel
theorem dX5_groupOf_4 : decode cX5_groupOf 4 = .ok (.iload_n 3, 1) := by decide +kernel
theorem dX5_groupOf_5 : decode cX5_groupOf 5 = .ok (.iconst 3, 1) := by decide +kernel
theorem dX5_groupOf_6 : decode cX5_groupOf 6 = .ok (.if_icmp .ge 33, 3) := by decide +kernel
theorem dX5_groupOf_9 : decode cX5_groupOf 9 = .ok (.aload_n 0, 1) := by decide +kernel
theorem dX5_groupOf_10 : decode cX5_groupOf 10 = .ok (.iload_n 2, 1) := by decide +kernel
theorem dX5_groupOf_11 : decode cX5_groupOf 11 = .ok (.invokevirtual 107, 3) := by decide +kernel
theorem dX5_groupOf_14 : decode cX5_groupOf 14 = .ok (.getfield 172, 3) := by decide +kernel
theorem dX5_groupOf_17 : decode cX5_groupOf 17 = .ok (.ifCond .le 22, 3) := by decide +kernel
theorem dX5_groupOf_20 : decode cX5_groupOf 20 = .ok (.aload_n 0, 1) := by decide +kernel
theorem dX5_groupOf_21 : decode cX5_groupOf 21 = .ok (.aload_n 0, 1) := by decide +kernel
theorem dX5_groupOf_22 : decode cX5_groupOf 22 = .ok (.iload_n 2, 1) := by decide +kernel
theorem dX5_groupOf_23 : decode cX5_groupOf 23 = .ok (.invokevirtual 107, 3) := by decide +kernel
theorem dX5_groupOf_26 : decode cX5_groupOf 26 = .ok (.getfield 251, 3) := by decide +kernel
theorem dX5_groupOf_29 : decode cX5_groupOf 29 = .ok (.invokevirtual 254, 3) := by decide +kernel
theorem dX5_groupOf_32 : decode cX5_groupOf 32 = .ok (.istore_n 2, 1) := by decide +kernel
theorem dX5_groupOf_33 : decode cX5_groupOf 33 = .ok (.iinc 3 1, 3) := by decide +kernel
theorem dX5_groupOf_36 : decode cX5_groupOf 36 = .ok (.goto (-32), 3) := by decide +kernel
theorem dX5_groupOf_39 : decode cX5_groupOf 39 = .ok (.aload_n 0, 1) := by decide +kernel
theorem dX5_groupOf_40 : decode cX5_groupOf 40 = .ok (.iload_n 2, 1) := by decide +kernel
theorem dX5_groupOf_41 : decode cX5_groupOf 41 = .ok (.invokevirtual 107, 3) := by decide +kernel
theorem dX5_groupOf_44 : decode cX5_groupOf 44 = .ok (.invokevirtual 266, 3) := by decide +kernel
theorem dX5_groupOf_47 : decode cX5_groupOf 47 = .ok (.ireturn, 1) := by decide +kernel
theorem dX5_findLocators_0 : decode cX5_findLocators 0 = .ok (.aload_n 0, 1) := by decide +kernel
theorem dX5_findLocators_1 : decode cX5_findLocators 1 = .ok (.getfield 58, 3) := by decide +kernel
theorem dX5_findLocators_4 : decode cX5_findLocators 4 = .ok (.iload_n 1, 1) := by decide +kernel
theorem dX5_findLocators_5 : decode cX5_findLocators 5 = .ok (.if_icmp .ne 4, 3) := by decide +kernel
theorem dX5_findLocators_8 : decode cX5_findLocators 8 = .ok (.return_, 1) := by decide +kernel
theorem dX5_findLocators_9 : decode cX5_findLocators 9 = .ok (.aload_n 0, 1) := by decide +kernel
theorem dX5_findLocators_10 : decode cX5_findLocators 10 = .ok (.getfield 51, 3) := by decide +kernel
theorem dX5_findLocators_13 : decode cX5_findLocators 13 = .ok (.invokevirtual 269, 3) := by decide +kernel
theorem dX5_findLocators_16 : decode cX5_findLocators 16 = .ok (.iconst 0, 1) := by decide +kernel
theorem dX5_findLocators_17 : decode cX5_findLocators 17 = .ok (.istore_n 2, 1) := by decide +kernel
theorem dX5_findLocators_18 : decode cX5_findLocators 18 = .ok (.iload_n 2, 1) := by decide +kernel
theorem dX5_findLocators_19 : decode cX5_findLocators 19 = .ok (.aload_n 0, 1) := by decide +kernel
theorem dX5_findLocators_20 : decode cX5_findLocators 20 = .ok (.getfield 22, 3) := by decide +kernel
theorem dX5_findLocators_23 : decode cX5_findLocators 23 = .ok (.if_icmp .ge 33, 3) := by decide +kernel
theorem dX5_findLocators_26 : decode cX5_findLocators 26 = .ok (.aload_n 0, 1) := by decide +kernel
theorem dX5_findLocators_27 : decode cX5_findLocators 27 = .ok (.iload_n 2, 1) := by decide +kernel
theorem dX5_findLocators_28 : decode cX5_findLocators 28 = .ok (.invokevirtual 254, 3) := by decide +kernel
theorem dX5_findLocators_31 : decode cX5_findLocators 31 = .ok (.iload_n 1, 1) := by decide +kernel
theorem dX5_findLocators_32 : decode cX5_findLocators 32 = .ok (.if_icmp .ne 18, 3) := by decide +kernel
theorem dX5_findLocators_35 : decode cX5_findLocators 35 = .ok (.aload_n 0, 1) := by decide +kernel
theorem dX5_findLocators_36 : decode cX5_findLocators 36 = .ok (.getfield 51, 3) := by decide +kernel
theorem dX5_findLocators_39 : decode cX5_findLocators 39 = .ok (.aload_n 0, 1) := by decide +kernel
theorem dX5_findLocators_40 : decode cX5_findLocators 40 = .ok (.iload_n 2, 1) := by decide +kernel
theorem dX5_findLocators_41 : decode cX5_findLocators 41 = .ok (.invokevirtual 107, 3) := by decide +kernel
theorem dX5_findLocators_44 : decode cX5_findLocators 44 = .ok (.getfield 133, 3) := by decide +kernel
theorem dX5_findLocators_47 : decode cX5_findLocators 47 = .ok (.invokevirtual 270, 3) := by decide +kernel
theorem dX5_findLocators_50 : decode cX5_findLocators 50 = .ok (.iinc 2 1, 3) := by decide +kernel
theorem dX5_findLocators_53 : decode cX5_findLocators 53 = .ok (.goto (-35), 3) := by decide +kernel
theorem dX5_findLocators_56 : decode cX5_findLocators 56 = .ok (.aload_n 0, 1) := by decide +kernel
theorem dX5_findLocators_57 : decode cX5_findLocators 57 = .ok (.getfield 55, 3) := by decide +kernel
theorem dX5_findLocators_60 : decode cX5_findLocators 60 = .ok (.invokevirtual 269, 3) := by decide +kernel
theorem dX5_findLocators_63 : decode cX5_findLocators 63 = .ok (.aload_n 0, 1) := by decide +kernel
theorem dX5_findLocators_64 : decode cX5_findLocators 64 = .ok (.invokevirtual 274, 3) := by decide +kernel
theorem dX5_findLocators_67 : decode cX5_findLocators 67 = .ok (.aload_n 0, 1) := by decide +kernel
theorem dX5_findLocators_68 : decode cX5_findLocators 68 = .ok (.iload_n 1, 1) := by decide +kernel
theorem dX5_findLocators_69 : decode cX5_findLocators 69 = .ok (.putfield 58, 3) := by decide +kernel
theorem dX5_findLocators_72 : decode cX5_findLocators 72 = .ok (.return_, 1) := by decide +kernel
theorem dX5_joinGathered_0 : decode cX5_joinGathered 0 = .ok (.iconst 0, 1) := by decide +kernel
theorem dX5_joinGathered_1 : decode cX5_joinGathered 1 = .ok (.istore_n 1, 1) := by decide +kernel
theorem dX5_joinGathered_2 : decode cX5_joinGathered 2 = .ok (.iconst 0, 1) := by decide +kernel
theorem dX5_joinGathered_3 : decode cX5_joinGathered 3 = .ok (.istore_n 2, 1) := by decide +kernel
theorem dX5_joinGathered_4 : decode cX5_joinGathered 4 = .ok (.iconst 0, 1) := by decide +kernel
theorem dX5_joinGathered_5 : decode cX5_joinGathered 5 = .ok (.istore_n 3, 1) := by decide +kernel
theorem dX5_joinGathered_6 : decode cX5_joinGathered 6 = .ok (.iconst 0, 1) := by decide +kernel
theorem dX5_joinGathered_7 : decode cX5_joinGathered 7 = .ok (.istore 4, 2) := by decide +kernel
theorem dX5_joinGathered_9 : decode cX5_joinGathered 9 = .ok (.iload 4, 2) := by decide +kernel
theorem dX5_joinGathered_11 : decode cX5_joinGathered 11 = .ok (.aload_n 0, 1) := by decide +kernel
theorem dX5_joinGathered_12 : decode cX5_joinGathered 12 = .ok (.getfield 51, 3) := by decide +kernel
theorem dX5_joinGathered_15 : decode cX5_joinGathered 15 = .ok (.invokevirtual 142, 3) := by decide +kernel
theorem dX5_joinGathered_18 : decode cX5_joinGathered 18 = .ok (.if_icmp .ge 105, 3) := by decide +kernel
theorem dX5_joinGathered_21 : decode cX5_joinGathered 21 = .ok (.iload 4, 2) := by decide +kernel
theorem dX5_joinGathered_23 : decode cX5_joinGathered 23 = .ok (.ifCond .le 57, 3) := by decide +kernel
theorem dX5_joinGathered_26 : decode cX5_joinGathered 26 = .ok (.aload_n 0, 1) := by decide +kernel
theorem dX5_joinGathered_27 : decode cX5_joinGathered 27 = .ok (.getfield 51, 3) := by decide +kernel
theorem dX5_joinGathered_30 : decode cX5_joinGathered 30 = .ok (.iload 4, 2) := by decide +kernel
theorem dX5_joinGathered_32 : decode cX5_joinGathered 32 = .ok (.invokevirtual 184, 3) := by decide +kernel
theorem dX5_joinGathered_35 : decode cX5_joinGathered 35 = .ok (.iload_n 2, 1) := by decide +kernel
theorem dX5_joinGathered_36 : decode cX5_joinGathered 36 = .ok (.iconst 1, 1) := by decide +kernel
theorem dX5_joinGathered_37 : decode cX5_joinGathered 37 = .ok (.iadd, 1) := by decide +kernel
theorem dX5_joinGathered_38 : decode cX5_joinGathered 38 = .ok (.if_icmp .gt 42, 3) := by decide +kernel
theorem dX5_joinGathered_41 : decode cX5_joinGathered 41 = .ok (.iload_n 2, 1) := by decide +kernel
theorem dX5_joinGathered_42 : decode cX5_joinGathered 42 = .ok (.aload_n 0, 1) := by decide +kernel
theorem dX5_joinGathered_43 : decode cX5_joinGathered 43 = .ok (.getfield 51, 3) := by decide +kernel
