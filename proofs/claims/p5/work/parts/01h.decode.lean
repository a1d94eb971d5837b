theorem dX6_putSmallRoman_270 : decode cX6_putSmallRoman 270 = .ok (.return_, 1) := by decide +kernel
theorem dX6_putOne_0 : decode cX6_putOne 0 = .ok (.iload_n 1, 1) := by decide +kernel
theorem dX6_putOne_1 : decode cX6_putOne 1 = .ok (.ifCond .ne 11, 3) := by decide +kernel
theorem dX6_putOne_4 : decode cX6_putOne 4 = .ok (.aload_n 0, 1) := by decide +kernel
theorem dX6_putOne_5 : decode cX6_putOne 5 = .ok (.iload_n 2, 1) := by decide +kernel
theorem dX6_putOne_6 : decode cX6_putOne 6 = .ok (.invokevirtual 229, 3) := by decide +kernel
theorem dX6_putOne_9 : decode cX6_putOne 9 = .ok (.goto 57, 3) := by decide +kernel
theorem dX6_putOne_12 : decode cX6_putOne 12 = .ok (.iload_n 1, 1) := by decide +kernel
theorem dX6_putOne_13 : decode cX6_putOne 13 = .ok (.iconst 1, 1) := by decide +kernel
theorem dX6_putOne_14 : decode cX6_putOne 14 = .ok (.if_icmp .ne 11, 3) := by decide +kernel
theorem dX6_putOne_17 : decode cX6_putOne 17 = .ok (.aload_n 0, 1) := by decide +kernel
theorem dX6_putOne_18 : decode cX6_putOne 18 = .ok (.iload_n 2, 1) := by decide +kernel
theorem dX6_putOne_19 : decode cX6_putOne 19 = .ok (.invokevirtual 232, 3) := by decide +kernel
theorem dX6_putOne_22 : decode cX6_putOne 22 = .ok (.goto 44, 3) := by decide +kernel
theorem dX6_putOne_25 : decode cX6_putOne 25 = .ok (.iload_n 2, 1) := by decide +kernel
theorem dX6_putOne_26 : decode cX6_putOne 26 = .ok (.bipush 26, 2) := by decide +kernel
theorem dX6_putOne_28 : decode cX6_putOne 28 = .ok (.if_icmp .gt 14, 3) := by decide +kernel
theorem dX6_putOne_31 : decode cX6_putOne 31 = .ok (.aload_n 0, 1) := by decide +kernel
theorem dX6_putOne_32 : decode cX6_putOne 32 = .ok (.bipush 96, 2) := by decide +kernel
theorem dX6_putOne_34 : decode cX6_putOne 34 = .ok (.iload_n 2, 1) := by decide +kernel
theorem dX6_putOne_35 : decode cX6_putOne 35 = .ok (.iadd, 1) := by decide +kernel
theorem dX6_putOne_36 : decode cX6_putOne 36 = .ok (.invokevirtual 223, 3) := by decide +kernel
theorem dX6_putOne_39 : decode cX6_putOne 39 = .ok (.goto 27, 3) := by decide +kernel
theorem dX6_putOne_42 : decode cX6_putOne 42 = .ok (.aload_n 0, 1) := by decide +kernel
theorem dX6_putOne_43 : decode cX6_putOne 43 = .ok (.bipush 97, 2) := by decide +kernel
theorem dX6_putOne_45 : decode cX6_putOne 45 = .ok (.iload_n 2, 1) := by decide +kernel
theorem dX6_putOne_46 : decode cX6_putOne 46 = .ok (.bipush 27, 2) := by decide +kernel
theorem dX6_putOne_48 : decode cX6_putOne 48 = .ok (.isub, 1) := by decide +kernel
theorem dX6_putOne_49 : decode cX6_putOne 49 = .ok (.bipush 26, 2) := by decide +kernel
theorem dX6_putOne_51 : decode cX6_putOne 51 = .ok (.idiv, 1) := by decide +kernel
theorem dX6_putOne_52 : decode cX6_putOne 52 = .ok (.iadd, 1) := by decide +kernel
theorem dX6_putOne_53 : decode cX6_putOne 53 = .ok (.bipush 97, 2) := by decide +kernel
theorem dX6_putOne_55 : decode cX6_putOne 55 = .ok (.iload_n 2, 1) := by decide +kernel
theorem dX6_putOne_56 : decode cX6_putOne 56 = .ok (.bipush 27, 2) := by decide +kernel
theorem dX6_putOne_58 : decode cX6_putOne 58 = .ok (.isub, 1) := by decide +kernel
theorem dX6_putOne_59 : decode cX6_putOne 59 = .ok (.bipush 26, 2) := by decide +kernel
theorem dX6_putOne_61 : decode cX6_putOne 61 = .ok (.irem, 1) := by decide +kernel
theorem dX6_putOne_62 : decode cX6_putOne 62 = .ok (.iadd, 1) := by decide +kernel
theorem dX6_putOne_63 : decode cX6_putOne 63 = .ok (.invokevirtual 226, 3) := by decide +kernel
theorem dX6_putOne_66 : decode cX6_putOne 66 = .ok (.return_, 1) := by decide +kernel
theorem dX6_putAll_0 : decode cX6_putAll 0 = .ok (.aload_n 0, 1) := by decide +kernel
theorem dX6_putAll_1 : decode cX6_putAll 1 = .ok (.iload_n 1, 1) := by decide +kernel
theorem dX6_putAll_2 : decode cX6_putAll 2 = .ok (.invokevirtual 193, 3) := by decide +kernel
theorem dX6_putAll_5 : decode cX6_putAll 5 = .ok (.aload_n 0, 1) := by decide +kernel
theorem dX6_putAll_6 : decode cX6_putAll 6 = .ok (.iconst (-1), 1) := by decide +kernel
theorem dX6_putAll_7 : decode cX6_putAll 7 = .ok (.invokevirtual 196, 3) := by decide +kernel
theorem dX6_putAll_10 : decode cX6_putAll 10 = .ok (.istore_n 2, 1) := by decide +kernel
theorem dX6_putAll_11 : decode cX6_putAll 11 = .ok (.iconst 0, 1) := by decide +kernel
theorem dX6_putAll_12 : decode cX6_putAll 12 = .ok (.istore_n 3, 1) := by decide +kernel
theorem dX6_putAll_13 : decode cX6_putAll 13 = .ok (.iload_n 3, 1) := by decide +kernel
theorem dX6_putAll_14 : decode cX6_putAll 14 = .ok (.iload_n 2, 1) := by decide +kernel
theorem dX6_putAll_15 : decode cX6_putAll 15 = .ok (.if_icmp .ge 69, 3) := by decide +kernel
theorem dX6_putAll_18 : decode cX6_putAll 18 = .ok (.aload_n 0, 1) := by decide +kernel
theorem dX6_putAll_19 : decode cX6_putAll 19 = .ok (.iload_n 3, 1) := by decide +kernel
theorem dX6_putAll_20 : decode cX6_putAll 20 = .ok (.invokevirtual 196, 3) := by decide +kernel
theorem dX6_putAll_23 : decode cX6_putAll 23 = .ok (.istore 4, 2) := by decide +kernel
theorem dX6_putAll_25 : decode cX6_putAll 25 = .ok (.iload_n 3, 1) := by decide +kernel
theorem dX6_putAll_26 : decode cX6_putAll 26 = .ok (.ifCond .le 11, 3) := by decide +kernel
theorem dX6_putAll_29 : decode cX6_putAll 29 = .ok (.aload_n 0, 1) := by decide +kernel
theorem dX6_putAll_30 : decode cX6_putAll 30 = .ok (.bipush 44, 2) := by decide +kernel
theorem dX6_putAll_32 : decode cX6_putAll 32 = .ok (.bipush 32, 2) := by decide +kernel
theorem dX6_putAll_34 : decode cX6_putAll 34 = .ok (.invokevirtual 226, 3) := by decide +kernel
theorem dX6_putAll_37 : decode cX6_putAll 37 = .ok (.aload_n 0, 1) := by decide +kernel
theorem dX6_putAll_38 : decode cX6_putAll 38 = .ok (.aload_n 0, 1) := by decide +kernel
theorem dX6_putAll_39 : decode cX6_putAll 39 = .ok (.getfield 178, 3) := by decide +kernel
theorem dX6_putAll_42 : decode cX6_putAll 42 = .ok (.aload_n 0, 1) := by decide +kernel
theorem dX6_putAll_43 : decode cX6_putAll 43 = .ok (.getfield 181, 3) := by decide +kernel
theorem dX6_putAll_46 : decode cX6_putAll 46 = .ok (.invokevirtual 235, 3) := by decide +kernel
theorem dX6_putAll_49 : decode cX6_putAll 49 = .ok (.aload_n 0, 1) := by decide +kernel
theorem dX6_putAll_50 : decode cX6_putAll 50 = .ok (.getfield 184, 3) := by decide +kernel
theorem dX6_putAll_53 : decode cX6_putAll 53 = .ok (.aload_n 0, 1) := by decide +kernel
theorem dX6_putAll_54 : decode cX6_putAll 54 = .ok (.getfield 181, 3) := by decide +kernel
theorem dX6_putAll_57 : decode cX6_putAll 57 = .ok (.if_icmp .le 21, 3) := by decide +kernel
theorem dX6_putAll_60 : decode cX6_putAll 60 = .ok (.aload_n 0, 1) := by decide +kernel
theorem dX6_putAll_61 : decode cX6_putAll 61 = .ok (.bipush 45, 2) := by decide +kernel
theorem dX6_putAll_63 : decode cX6_putAll 63 = .ok (.invokevirtual 223, 3) := by decide +kernel
theorem dX6_putAll_66 : decode cX6_putAll 66 = .ok (.aload_n 0, 1) := by decide +kernel
theorem dX6_putAll_67 : decode cX6_putAll 67 = .ok (.aload_n 0, 1) := by decide +kernel
theorem dX6_putAll_68 : decode cX6_putAll 68 = .ok (.getfield 178, 3) := by decide +kernel
theorem dX6_putAll_71 : decode cX6_putAll 71 = .ok (.aload_n 0, 1) := by decide +kernel
theorem dX6_putAll_72 : decode cX6_putAll 72 = .ok (.getfield 184, 3) := by decide +kernel
theorem dX6_putAll_75 : decode cX6_putAll 75 = .ok (.invokevirtual 235, 3) := by decide +kernel
theorem dX6_putAll_78 : decode cX6_putAll 78 = .ok (.iinc 3 1, 3) := by decide +kernel
theorem dX6_putAll_81 : decode cX6_putAll 81 = .ok (.goto (-68), 3) := by decide +kernel
theorem dX6_putAll_84 : decode cX6_putAll 84 = .ok (.return_, 1) := by decide +kernel
theorem dX6_putShown_0 : decode cX6_putShown 0 = .ok (.aload_n 0, 1) := by decide +kernel
theorem dX6_putShown_1 : decode cX6_putShown 1 = .ok (.iload_n 1, 1) := by decide +kernel
theorem dX6_putShown_2 : decode cX6_putShown 2 = .ok (.invokevirtual 199, 3) := by decide +kernel
theorem dX6_putShown_5 : decode cX6_putShown 5 = .ok (.iconst 0, 1) := by decide +kernel
theorem dX6_putShown_6 : decode cX6_putShown 6 = .ok (.istore_n 2, 1) := by decide +kernel
theorem dX6_putShown_7 : decode cX6_putShown 7 = .ok (.iload_n 2, 1) := by decide +kernel
theorem dX6_putShown_8 : decode cX6_putShown 8 = .ok (.aload_n 0, 1) := by decide +kernel
theorem dX6_putShown_9 : decode cX6_putShown 9 = .ok (.getfield 187, 3) := by decide +kernel
theorem dX6_putShown_12 : decode cX6_putShown 12 = .ok (.if_icmp .ge 31, 3) := by decide +kernel
theorem dX6_putShown_15 : decode cX6_putShown 15 = .ok (.iload_n 2, 1) := by decide +kernel
theorem dX6_putShown_16 : decode cX6_putShown 16 = .ok (.ifCond .le 11, 3) := by decide +kernel
theorem dX6_putShown_19 : decode cX6_putShown 19 = .ok (.aload_n 0, 1) := by decide +kernel
theorem dX6_putShown_20 : decode cX6_putShown 20 = .ok (.bipush 59, 2) := by decide +kernel
theorem dX6_putShown_22 : decode cX6_putShown 22 = .ok (.bipush 32, 2) := by decide +kernel
theorem dX6_putShown_24 : decode cX6_putShown 24 = .ok (.invokevirtual 226, 3) := by decide +kernel
theorem dX6_putShown_27 : decode cX6_putShown 27 = .ok (.aload_n 0, 1) := by decide +kernel
theorem dX6_putShown_28 : decode cX6_putShown 28 = .ok (.aload_n 0, 1) := by decide +kernel
theorem dX6_putShown_29 : decode cX6_putShown 29 = .ok (.getfield 87, 3) := by decide +kernel
theorem dX6_putShown_32 : decode cX6_putShown 32 = .ok (.iload_n 2, 1) := by decide +kernel
theorem dX6_putShown_33 : decode cX6_putShown 33 = .ok (.iaload, 1) := by decide +kernel
theorem dX6_putShown_34 : decode cX6_putShown 34 = .ok (.invokevirtual 238, 3) := by decide +kernel
theorem dX6_putShown_37 : decode cX6_putShown 37 = .ok (.iinc 2 1, 3) := by decide +kernel
theorem dX6_putShown_40 : decode cX6_putShown 40 = .ok (.goto (-33), 3) := by decide +kernel
theorem dX6_putShown_43 : decode cX6_putShown 43 = .ok (.return_, 1) := by decide +kernel
theorem dX6_putPart_0 : decode cX6_putPart 0 = .ok (.iload_n 1, 1) := by decide +kernel
theorem dX6_putPart_1 : decode cX6_putPart 1 = .ok (.ifCond .ne 7, 3) := by decide +kernel
theorem dX6_putPart_4 : decode cX6_putPart 4 = .ok (.iconst 0, 1) := by decide +kernel
theorem dX6_putPart_5 : decode cX6_putPart 5 = .ok (.goto 13, 3) := by decide +kernel
theorem dX6_putPart_8 : decode cX6_putPart 8 = .ok (.aload_n 0, 1) := by decide +kernel
theorem dX6_putPart_9 : decode cX6_putPart 9 = .ok (.getfield 93, 3) := by decide +kernel
theorem dX6_putPart_12 : decode cX6_putPart 12 = .ok (.iload_n 1, 1) := by decide +kernel
theorem dX6_putPart_13 : decode cX6_putPart 13 = .ok (.iconst 1, 1) := by decide +kernel
theorem dX6_putPart_14 : decode cX6_putPart 14 = .ok (.isub, 1) := by decide +kernel
theorem dX6_putPart_15 : decode cX6_putPart 15 = .ok (.iaload, 1) := by decide +kernel
theorem dX6_putPart_16 : decode cX6_putPart 16 = .ok (.iconst 1, 1) := by decide +kernel
theorem dX6_putPart_17 : decode cX6_putPart 17 = .ok (.iadd, 1) := by decide +kernel
theorem dX6_putPart_18 : decode cX6_putPart 18 = .ok (.istore_n 3, 1) := by decide +kernel
theorem dX6_putPart_19 : decode cX6_putPart 19 = .ok (.iload_n 3, 1) := by decide +kernel
theorem dX6_putPart_20 : decode cX6_putPart 20 = .ok (.aload_n 0, 1) := by decide +kernel
theorem dX6_putPart_21 : decode cX6_putPart 21 = .ok (.getfield 93, 3) := by decide +kernel
theorem dX6_putPart_24 : decode cX6_putPart 24 = .ok (.iload_n 1, 1) := by decide +kernel
theorem dX6_putPart_25 : decode cX6_putPart 25 = .ok (.iaload, 1) := by decide +kernel
theorem dX6_putPart_26 : decode cX6_putPart 26 = .ok (.if_icmp .ge 180, 3) := by decide +kernel
theorem dX6_putPart_29 : decode cX6_putPart 29 = .ok (.aload_n 0, 1) := by decide +kernel
theorem dX6_putPart_30 : decode cX6_putPart 30 = .ok (.getfield 90, 3) := by decide +kernel
theorem dX6_putPart_33 : decode cX6_putPart 33 = .ok (.iload_n 3, 1) := by decide +kernel
theorem dX6_putPart_34 : decode cX6_putPart 34 = .ok (.iaload, 1) := by decide +kernel
theorem dX6_putPart_35 : decode cX6_putPart 35 = .ok (.istore 4, 2) := by decide +kernel
theorem dX6_putPart_37 : decode cX6_putPart 37 = .ok (.iload 4, 2) := by decide +kernel
theorem dX6_putPart_39 : decode cX6_putPart 39 = .ok (.bipush 37, 2) := by decide +kernel
theorem dX6_putPart_41 : decode cX6_putPart 41 = .ok (.if_icmp .eq 15, 3) := by decide +kernel
theorem dX6_putPart_44 : decode cX6_putPart 44 = .ok (.aload_n 0, 1) := by decide +kernel
theorem dX6_putPart_45 : decode cX6_putPart 45 = .ok (.iload 4, 2) := by decide +kernel
theorem dX6_putPart_47 : decode cX6_putPart 47 = .ok (.invokevirtual 223, 3) := by decide +kernel
theorem dX6_putPart_50 : decode cX6_putPart 50 = .ok (.iinc 3 1, 3) := by decide +kernel
theorem dX6_putPart_53 : decode cX6_putPart 53 = .ok (.goto 150, 3) := by decide +kernel
theorem dX6_putPart_56 : decode cX6_putPart 56 = .ok (.aload_n 0, 1) := by decide +kernel
theorem dX6_putPart_57 : decode cX6_putPart 57 = .ok (.getfield 90, 3) := by decide +kernel
theorem dX6_putPart_60 : decode cX6_putPart 60 = .ok (.iload_n 3, 1) := by decide +kernel
theorem dX6_putPart_61 : decode cX6_putPart 61 = .ok (.iconst 1, 1) := by decide +kernel
theorem dX6_putPart_62 : decode cX6_putPart 62 = .ok (.iadd, 1) := by decide +kernel
theorem dX6_putPart_63 : decode cX6_putPart 63 = .ok (.iaload, 1) := by decide +kernel
theorem dX6_putPart_64 : decode cX6_putPart 64 = .ok (.istore 4, 2) := by decide +kernel
theorem dX6_putPart_66 : decode cX6_putPart 66 = .ok (.iload_n 3, 1) := by decide +kernel
theorem dX6_putPart_67 : decode cX6_putPart 67 = .ok (.iconst 2, 1) := by decide +kernel
theorem dX6_putPart_68 : decode cX6_putPart 68 = .ok (.iadd, 1) := by decide +kernel
theorem dX6_putPart_69 : decode cX6_putPart 69 = .ok (.istore_n 3, 1) := by decide +kernel
theorem dX6_putPart_70 : decode cX6_putPart 70 = .ok (.iload 4, 2) := by decide +kernel
theorem dX6_putPart_72 : decode cX6_putPart 72 = .ok (.bipush 103, 2) := by decide +kernel
theorem dX6_putPart_74 : decode cX6_putPart 74 = .ok (.if_icmp .ne 11, 3) := by decide +kernel
theorem dX6_putPart_77 : decode cX6_putPart 77 = .ok (.aload_n 0, 1) := by decide +kernel
theorem dX6_putPart_78 : decode cX6_putPart 78 = .ok (.iload_n 2, 1) := by decide +kernel
theorem dX6_putPart_79 : decode cX6_putPart 79 = .ok (.invokevirtual 202, 3) := by decide +kernel
theorem dX6_putPart_82 : decode cX6_putPart 82 = .ok (.goto 4, 3) := by decide +kernel
theorem dX6_putPart_85 : decode cX6_putPart 85 = .ok (.iconst 0, 1) := by decide +kernel
theorem dX6_putPart_86 : decode cX6_putPart 86 = .ok (.istore 5, 2) := by decide +kernel
theorem dX6_putPart_88 : decode cX6_putPart 88 = .ok (.iload 4, 2) := by decide +kernel
theorem dX6_putPart_90 : decode cX6_putPart 90 = .ok (.bipush 110, 2) := by decide +kernel
theorem dX6_putPart_92 : decode cX6_putPart 92 = .ok (.if_icmp .eq 17, 3) := by decide +kernel
theorem dX6_putPart_95 : decode cX6_putPart 95 = .ok (.iload 4, 2) := by decide +kernel
theorem dX6_putPart_97 : decode cX6_putPart 97 = .ok (.bipush 37, 2) := by decide +kernel
theorem dX6_putPart_99 : decode cX6_putPart 99 = .ok (.if_icmp .eq 10, 3) := by decide +kernel
theorem dX6_putPart_102 : decode cX6_putPart 102 = .ok (.iload 4, 2) := by decide +kernel
theorem dX6_putPart_104 : decode cX6_putPart 104 = .ok (.bipush 103, 2) := by decide +kernel
theorem dX6_putPart_106 : decode cX6_putPart 106 = .ok (.if_icmp .ne 50, 3) := by decide +kernel
theorem dX6_putPart_109 : decode cX6_putPart 109 = .ok (.aload_n 0, 1) := by decide +kernel
theorem dX6_putPart_110 : decode cX6_putPart 110 = .ok (.iload 4, 2) := by decide +kernel
theorem dX6_putPart_112 : decode cX6_putPart 112 = .ok (.bipush 110, 2) := by decide +kernel
theorem dX6_putPart_114 : decode cX6_putPart 114 = .ok (.if_icmp .ne 8, 3) := by decide +kernel
theorem dX6_putPart_117 : decode cX6_putPart 117 = .ok (.bipush 10, 2) := by decide +kernel
theorem dX6_putPart_119 : decode cX6_putPart 119 = .ok (.goto 31, 3) := by decide +kernel
theorem dX6_putPart_122 : decode cX6_putPart 122 = .ok (.iload 4, 2) := by decide +kernel
theorem dX6_putPart_124 : decode cX6_putPart 124 = .ok (.bipush 37, 2) := by decide +kernel
theorem dX6_putPart_126 : decode cX6_putPart 126 = .ok (.if_icmp .ne 8, 3) := by decide +kernel
theorem dX6_putPart_129 : decode cX6_putPart 129 = .ok (.bipush 37, 2) := by decide +kernel
theorem dX6_putPart_131 : decode cX6_putPart 131 = .ok (.goto 19, 3) := by decide +kernel
theorem dX6_putPart_134 : decode cX6_putPart 134 = .ok (.iload 5, 2) := by decide +kernel
theorem dX6_putPart_136 : decode cX6_putPart 136 = .ok (.iconst 2, 1) := by decide +kernel
theorem dX6_putPart_137 : decode cX6_putPart 137 = .ok (.if_icmp .ge 11, 3) := by decide +kernel
theorem dX6_putPart_140 : decode cX6_putPart 140 = .ok (.bipush 48, 2) := by decide +kernel
theorem dX6_putPart_142 : decode cX6_putPart 142 = .ok (.iload 5, 2) := by decide +kernel
theorem dX6_putPart_144 : decode cX6_putPart 144 = .ok (.iadd, 1) := by decide +kernel
theorem dX6_putPart_145 : decode cX6_putPart 145 = .ok (.goto 5, 3) := by decide +kernel
theorem dX6_putPart_148 : decode cX6_putPart 148 = .ok (.iload 5, 2) := by decide +kernel
theorem dX6_putPart_150 : decode cX6_putPart 150 = .ok (.invokevirtual 223, 3) := by decide +kernel
theorem dX6_putPart_153 : decode cX6_putPart 153 = .ok (.goto 50, 3) := by decide +kernel
theorem dX6_putPart_156 : decode cX6_putPart 156 = .ok (.iload_n 1, 1) := by decide +kernel
theorem dX6_putPart_157 : decode cX6_putPart 157 = .ok (.ifCond .le 18, 3) := by decide +kernel
theorem dX6_putPart_160 : decode cX6_putPart 160 = .ok (.iload 4, 2) := by decide +kernel
theorem dX6_putPart_162 : decode cX6_putPart 162 = .ok (.bipush 119, 2) := by decide +kernel
theorem dX6_putPart_164 : decode cX6_putPart 164 = .ok (.if_icmp .ne 11, 3) := by decide +kernel
theorem dX6_putPart_167 : decode cX6_putPart 167 = .ok (.aload_n 0, 1) := by decide +kernel
theorem dX6_putPart_168 : decode cX6_putPart 168 = .ok (.iload_n 2, 1) := by decide +kernel
theorem dX6_putPart_169 : decode cX6_putPart 169 = .ok (.invokevirtual 238, 3) := by decide +kernel
theorem dX6_putPart_172 : decode cX6_putPart 172 = .ok (.goto 31, 3) := by decide +kernel
theorem dX6_putPart_175 : decode cX6_putPart 175 = .ok (.iload_n 1, 1) := by decide +kernel
theorem dX6_putPart_176 : decode cX6_putPart 176 = .ok (.ifCond .le 18, 3) := by decide +kernel
theorem dX6_putPart_179 : decode cX6_putPart 179 = .ok (.iload 4, 2) := by decide +kernel
theorem dX6_putPart_181 : decode cX6_putPart 181 = .ok (.bipush 112, 2) := by decide +kernel
theorem dX6_putPart_183 : decode cX6_putPart 183 = .ok (.if_icmp .ne 11, 3) := by decide +kernel
theorem dX6_putPart_186 : decode cX6_putPart 186 = .ok (.aload_n 0, 1) := by decide +kernel
theorem dX6_putPart_187 : decode cX6_putPart 187 = .ok (.iload_n 2, 1) := by decide +kernel
theorem dX6_putPart_188 : decode cX6_putPart 188 = .ok (.invokevirtual 241, 3) := by decide +kernel
theorem dX6_putPart_191 : decode cX6_putPart 191 = .ok (.goto 12, 3) := by decide +kernel
theorem dX6_putPart_194 : decode cX6_putPart 194 = .ok (.iload_n 1, 1) := by decide +kernel
theorem dX6_putPart_195 : decode cX6_putPart 195 = .ok (.ifCond .le 8, 3) := by decide +kernel
theorem dX6_putPart_198 : decode cX6_putPart 198 = .ok (.aload_n 0, 1) := by decide +kernel
theorem dX6_putPart_199 : decode cX6_putPart 199 = .ok (.iload_n 2, 1) := by decide +kernel
theorem dX6_putPart_200 : decode cX6_putPart 200 = .ok (.invokevirtual 244, 3) := by decide +kernel
theorem dX6_putPart_203 : decode cX6_putPart 203 = .ok (.goto (-184), 3) := by decide +kernel
theorem dX6_putPart_206 : decode cX6_putPart 206 = .ok (.return_, 1) := by decide +kernel
theorem dX6_print_0 : decode cX6_print 0 = .ok (.aload_n 0, 1) := by decide +kernel
theorem dX6_print_1 : decode cX6_print 1 = .ok (.invokevirtual 247, 3) := by decide +kernel
theorem dX6_print_4 : decode cX6_print 4 = .ok (.istore_n 1, 1) := by decide +kernel
theorem dX6_print_5 : decode cX6_print 5 = .ok (.iload_n 1, 1) := by decide +kernel
theorem dX6_print_6 : decode cX6_print 6 = .ok (.iconst (-1), 1) := by decide +kernel
theorem dX6_print_7 : decode cX6_print 7 = .ok (.if_icmp .eq 12, 3) := by decide +kernel
theorem dX6_print_10 : decode cX6_print 10 = .ok (.aload_n 0, 1) := by decide +kernel
theorem dX6_print_11 : decode cX6_print 11 = .ok (.iconst 0, 1) := by decide +kernel
theorem dX6_print_12 : decode cX6_print 12 = .ok (.putfield 107, 3) := by decide +kernel
theorem dX6_print_15 : decode cX6_print 15 = .ok (.iconst (-1), 1) := by decide +kernel
theorem dX6_print_16 : decode cX6_print 16 = .ok (.iload_n 1, 1) := by decide +kernel
theorem dX6_print_17 : decode cX6_print 17 = .ok (.isub, 1) := by decide +kernel
theorem dX6_print_18 : decode cX6_print 18 = .ok (.ireturn, 1) := by decide +kernel
theorem dX6_print_19 : decode cX6_print 19 = .ok (.aload_n 0, 1) := by decide +kernel
theorem dX6_print_20 : decode cX6_print 20 = .ok (.invokevirtual 190, 3) := by decide +kernel
theorem dX6_print_23 : decode cX6_print 23 = .ok (.aload_n 0, 1) := by decide +kernel
theorem dX6_print_24 : decode cX6_print 24 = .ok (.iconst 0, 1) := by decide +kernel
theorem dX6_print_25 : decode cX6_print 25 = .ok (.putfield 217, 3) := by decide +kernel
theorem dX6_print_28 : decode cX6_print 28 = .ok (.aload_n 0, 1) := by decide +kernel
theorem dX6_print_29 : decode cX6_print 29 = .ok (.iconst 0, 1) := by decide +kernel
theorem dX6_print_30 : decode cX6_print 30 = .ok (.putfield 220, 3) := by decide +kernel
theorem dX6_print_33 : decode cX6_print 33 = .ok (.iconst (-1), 1) := by decide +kernel
theorem dX6_print_34 : decode cX6_print 34 = .ok (.istore_n 2, 1) := by decide +kernel
theorem dX6_print_35 : decode cX6_print 35 = .ok (.iconst 0, 1) := by decide +kernel
theorem dX6_print_36 : decode cX6_print 36 = .ok (.istore_n 3, 1) := by decide +kernel
theorem dX6_print_37 : decode cX6_print 37 = .ok (.iload_n 3, 1) := by decide +kernel
theorem dX6_print_38 : decode cX6_print 38 = .ok (.aload_n 0, 1) := by decide +kernel
theorem dX6_print_39 : decode cX6_print 39 = .ok (.getfield 161, 3) := by decide +kernel
theorem dX6_print_42 : decode cX6_print 42 = .ok (.if_icmp .ge 66, 3) := by decide +kernel
theorem dX6_print_45 : decode cX6_print 45 = .ok (.aload_n 0, 1) := by decide +kernel
theorem dX6_print_46 : decode cX6_print 46 = .ok (.getfield 57, 3) := by decide +kernel
theorem dX6_print_49 : decode cX6_print 49 = .ok (.iload_n 3, 1) := by decide +kernel
theorem dX6_print_50 : decode cX6_print 50 = .ok (.iaload, 1) := by decide +kernel
theorem dX6_print_51 : decode cX6_print 51 = .ok (.istore 4, 2) := by decide +kernel
theorem dX6_print_53 : decode cX6_print 53 = .ok (.aload_n 0, 1) := by decide +kernel
theorem dX6_print_54 : decode cX6_print 54 = .ok (.getfield 7, 3) := by decide +kernel
theorem dX6_print_57 : decode cX6_print 57 = .ok (.iload 4, 2) := by decide +kernel
theorem dX6_print_59 : decode cX6_print 59 = .ok (.iaload, 1) := by decide +kernel
theorem dX6_print_60 : decode cX6_print 60 = .ok (.ifCond .ne 27, 3) := by decide +kernel
theorem dX6_print_63 : decode cX6_print 63 = .ok (.aload_n 0, 1) := by decide +kernel
theorem dX6_print_64 : decode cX6_print 64 = .ok (.iload 4, 2) := by decide +kernel
theorem dX6_print_66 : decode cX6_print 66 = .ok (.invokevirtual 202, 3) := by decide +kernel
theorem dX6_print_69 : decode cX6_print 69 = .ok (.iload_n 2, 1) := by decide +kernel
theorem dX6_print_70 : decode cX6_print 70 = .ok (.if_icmp .eq 17, 3) := by decide +kernel
theorem dX6_print_73 : decode cX6_print 73 = .ok (.aload_n 0, 1) := by decide +kernel
theorem dX6_print_74 : decode cX6_print 74 = .ok (.iload 4, 2) := by decide +kernel
theorem dX6_print_76 : decode cX6_print 76 = .ok (.invokevirtual 202, 3) := by decide +kernel
theorem dX6_print_79 : decode cX6_print 79 = .ok (.istore_n 2, 1) := by decide +kernel
theorem dX6_print_80 : decode cX6_print 80 = .ok (.aload_n 0, 1) := by decide +kernel
theorem dX6_print_81 : decode cX6_print 81 = .ok (.iconst 0, 1) := by decide +kernel
theorem dX6_print_82 : decode cX6_print 82 = .ok (.iload 4, 2) := by decide +kernel
theorem dX6_print_84 : decode cX6_print 84 = .ok (.invokevirtual 250, 3) := by decide +kernel
theorem dX6_print_87 : decode cX6_print 87 = .ok (.aload_n 0, 1) := by decide +kernel
theorem dX6_print_88 : decode cX6_print 88 = .ok (.iconst 1, 1) := by decide +kernel
theorem dX6_print_89 : decode cX6_print 89 = .ok (.aload_n 0, 1) := by decide +kernel
theorem dX6_print_90 : decode cX6_print 90 = .ok (.getfield 7, 3) := by decide +kernel
theorem dX6_print_93 : decode cX6_print 93 = .ok (.iload 4, 2) := by decide +kernel
theorem dX6_print_95 : decode cX6_print 95 = .ok (.iaload, 1) := by decide +kernel
theorem dX6_print_96 : decode cX6_print 96 = .ok (.iadd, 1) := by decide +kernel
theorem dX6_print_97 : decode cX6_print 97 = .ok (.iload 4, 2) := by decide +kernel
theorem dX6_print_99 : decode cX6_print 99 = .ok (.invokevirtual 250, 3) := by decide +kernel
theorem dX6_print_102 : decode cX6_print 102 = .ok (.iinc 3 1, 3) := by decide +kernel
theorem dX6_print_105 : decode cX6_print 105 = .ok (.goto (-68), 3) := by decide +kernel
theorem dX6_print_108 : decode cX6_print 108 = .ok (.aload_n 0, 1) := by decide +kernel
theorem dX6_print_109 : decode cX6_print 109 = .ok (.aload_n 0, 1) := by decide +kernel
theorem dX6_print_110 : decode cX6_print 110 = .ok (.getfield 220, 3) := by decide +kernel
theorem dX6_print_113 : decode cX6_print 113 = .ok (.iconst 0, 1) := by decide +kernel
theorem dX6_print_114 : decode cX6_print 114 = .ok (.iconst 0, 1) := by decide +kernel
theorem dX6_print_115 : decode cX6_print 115 = .ok (.invokevirtual 115, 3) := by decide +kernel
theorem dX6_print_118 : decode cX6_print 118 = .ok (.ifCond .eq 5, 3) := by decide +kernel
theorem dX6_print_121 : decode cX6_print 121 = .ok (.iconst 0, 1) := by decide +kernel
theorem dX6_print_122 : decode cX6_print 122 = .ok (.ireturn, 1) := by decide +kernel
theorem dX6_print_123 : decode cX6_print 123 = .ok (.iconst 0, 1) := by decide +kernel
theorem dX6_print_124 : decode cX6_print 124 = .ok (.istore_n 3, 1) := by decide +kernel
theorem dX6_print_125 : decode cX6_print 125 = .ok (.iload_n 3, 1) := by decide +kernel
theorem dX6_print_126 : decode cX6_print 126 = .ok (.aload_n 0, 1) := by decide +kernel
theorem dX6_print_127 : decode cX6_print 127 = .ok (.getfield 217, 3) := by decide +kernel
theorem dX6_print_130 : decode cX6_print 130 = .ok (.if_icmp .ge 21, 3) := by decide +kernel
theorem dX6_print_133 : decode cX6_print 133 = .ok (.aload_n 0, 1) := by decide +kernel
theorem dX6_print_134 : decode cX6_print 134 = .ok (.getfield 96, 3) := by decide +kernel
theorem dX6_print_137 : decode cX6_print 137 = .ok (.iload_n 3, 1) := by decide +kernel
theorem dX6_print_138 : decode cX6_print 138 = .ok (.aload_n 0, 1) := by decide +kernel
theorem dX6_print_139 : decode cX6_print 139 = .ok (.getfield 100, 3) := by decide +kernel
theorem dX6_print_142 : decode cX6_print 142 = .ok (.iload_n 3, 1) := by decide +kernel
theorem dX6_print_143 : decode cX6_print 143 = .ok (.baload, 1) := by decide +kernel
theorem dX6_print_144 : decode cX6_print 144 = .ok (.bastore, 1) := by decide +kernel
theorem dX6_print_145 : decode cX6_print 145 = .ok (.iinc 3 1, 3) := by decide +kernel
theorem dX6_print_148 : decode cX6_print 148 = .ok (.goto (-23), 3) := by decide +kernel
theorem dX6_print_151 : decode cX6_print 151 = .ok (.aload_n 0, 1) := by decide +kernel
theorem dX6_print_152 : decode cX6_print 152 = .ok (.aload_n 0, 1) := by decide +kernel
theorem dX6_print_153 : decode cX6_print 153 = .ok (.getfield 217, 3) := by decide +kernel
theorem dX6_print_156 : decode cX6_print 156 = .ok (.putfield 253, 3) := by decide +kernel
theorem dX6_print_159 : decode cX6_print 159 = .ok (.aload_n 0, 1) := by decide +kernel
theorem dX6_print_160 : decode cX6_print 160 = .ok (.getfield 253, 3) := by decide +kernel
theorem dX6_print_163 : decode cX6_print 163 = .ok (.ireturn, 1) := by decide +kernel
theorem dX6_at_0 : decode cX6_at 0 = .ok (.aload_n 0, 1) := by decide +kernel
theorem dX6_at_1 : decode cX6_at 1 = .ok (.iload_n 1, 1) := by decide +kernel
theorem dX6_at_2 : decode cX6_at 2 = .ok (.ifCond .lt 11, 3) := by decide +kernel
theorem dX6_at_5 : decode cX6_at 5 = .ok (.iload_n 1, 1) := by decide +kernel
theorem dX6_at_6 : decode cX6_at 6 = .ok (.aload_n 0, 1) := by decide +kernel
theorem dX6_at_7 : decode cX6_at 7 = .ok (.getfield 253, 3) := by decide +kernel
theorem dX6_at_10 : decode cX6_at 10 = .ok (.if_icmp .lt 7, 3) := by decide +kernel
theorem dX6_at_13 : decode cX6_at 13 = .ok (.iconst 1, 1) := by decide +kernel
theorem dX6_at_14 : decode cX6_at 14 = .ok (.goto 4, 3) := by decide +kernel
theorem dX6_at_17 : decode cX6_at 17 = .ok (.iconst 0, 1) := by decide +kernel
theorem dX6_at_18 : decode cX6_at 18 = .ok (.iconst 0, 1) := by decide +kernel
theorem dX6_at_19 : decode cX6_at 19 = .ok (.iconst 0, 1) := by decide +kernel
theorem dX6_at_20 : decode cX6_at 20 = .ok (.invokevirtual 115, 3) := by decide +kernel
theorem dX6_at_23 : decode cX6_at 23 = .ok (.ifCond .eq 7, 3) := by decide +kernel
theorem dX6_at_26 : decode cX6_at 26 = .ok (.iconst 0, 1) := by decide +kernel
theorem dX6_at_27 : decode cX6_at 27 = .ok (.goto 13, 3) := by decide +kernel
theorem dX6_at_30 : decode cX6_at 30 = .ok (.aload_n 0, 1) := by decide +kernel
theorem dX6_at_31 : decode cX6_at 31 = .ok (.getfield 96, 3) := by decide +kernel
theorem dX6_at_34 : decode cX6_at 34 = .ok (.iload_n 1, 1) := by decide +kernel
theorem dX6_at_35 : decode cX6_at 35 = .ok (.baload, 1) := by decide +kernel
theorem dX6_at_36 : decode cX6_at 36 = .ok (.sipush 255, 3) := by decide +kernel
theorem dX6_at_39 : decode cX6_at 39 = .ok (.iand, 1) := by decide +kernel
theorem dX6_at_40 : decode cX6_at 40 = .ok (.ireturn, 1) := by decide +kernel
theorem dJx00060_init_da8c8_0 : decode cJx00060_init_da8c8 0 = .ok (.aload_n 0, 1) := by decide +kernel
theorem dJx00060_init_da8c8_1 : decode cJx00060_init_da8c8 1 = .ok (.invokespecial 1, 3) := by decide +kernel
theorem dJx00060_init_da8c8_4 : decode cJx00060_init_da8c8 4 = .ok (.return_, 1) := by decide +kernel
theorem dJx00060_init_a7421_0 : decode cJx00060_init_a7421 0 = .ok (.aload_n 0, 1) := by decide +kernel
theorem dJx00060_init_a7421_1 : decode cJx00060_init_a7421 1 = .ok (.aload_n 1, 1) := by decide +kernel
theorem dJx00060_init_a7421_2 : decode cJx00060_init_a7421 2 = .ok (.invokespecial 7, 3) := by decide +kernel
theorem dJx00060_init_a7421_5 : decode cJx00060_init_a7421 5 = .ok (.return_, 1) := by decide +kernel
theorem dJ9_max_7cf53_0 : decode cJ9_max_7cf53 0 = .ok (.iload_n 0, 1) := by decide +kernel
theorem dJ9_max_7cf53_1 : decode cJ9_max_7cf53 1 = .ok (.iload_n 1, 1) := by decide +kernel
theorem dJ9_max_7cf53_2 : decode cJ9_max_7cf53 2 = .ok (.if_icmp .lt 7, 3) := by decide +kernel
theorem dJ9_max_7cf53_5 : decode cJ9_max_7cf53 5 = .ok (.iload_n 0, 1) := by decide +kernel
theorem dJ9_max_7cf53_6 : decode cJ9_max_7cf53 6 = .ok (.goto 4, 3) := by decide +kernel
theorem dJ9_max_7cf53_9 : decode cJ9_max_7cf53 9 = .ok (.iload_n 1, 1) := by decide +kernel
theorem dJ9_max_7cf53_10 : decode cJ9_max_7cf53 10 = .ok (.ireturn, 1) := by decide +kernel
theorem dJ9_min_7cf53_0 : decode cJ9_min_7cf53 0 = .ok (.iload_n 0, 1) := by decide +kernel
theorem dJ9_min_7cf53_1 : decode cJ9_min_7cf53 1 = .ok (.iload_n 1, 1) := by decide +kernel
theorem dJ9_min_7cf53_2 : decode cJ9_min_7cf53 2 = .ok (.if_icmp .gt 7, 3) := by decide +kernel
theorem dJ9_min_7cf53_5 : decode cJ9_min_7cf53 5 = .ok (.iload_n 0, 1) := by decide +kernel
theorem dJ9_min_7cf53_6 : decode cJ9_min_7cf53 6 = .ok (.goto 4, 3) := by decide +kernel
theorem dJ9_min_7cf53_9 : decode cJ9_min_7cf53 9 = .ok (.iload_n 1, 1) := by decide +kernel
theorem dJ9_min_7cf53_10 : decode cJ9_min_7cf53 10 = .ok (.ireturn, 1) := by decide +kernel
theorem dJ7_copyOf_59c91_0 : decode cJ7_copyOf_59c91 0 = .ok (.iload_n 1, 1) := by decide +kernel
theorem dJ7_copyOf_59c91_1 : decode cJ7_copyOf_59c91 1 = .ok (.aload_n 0, 1) := by decide +kernel
theorem dJ7_copyOf_59c91_2 : decode cJ7_copyOf_59c91 2 = .ok (.arraylength, 1) := by decide +kernel
theorem dJ7_copyOf_59c91_3 : decode cJ7_copyOf_59c91 3 = .ok (.if_icmp .ne 11, 3) := by decide +kernel
theorem dJ7_copyOf_59c91_6 : decode cJ7_copyOf_59c91 6 = .ok (.aload_n 0, 1) := by decide +kernel
theorem dJ7_copyOf_59c91_7 : decode cJ7_copyOf_59c91 7 = .ok (.invokevirtual 316, 3) := by decide +kernel
theorem dJ7_copyOf_59c91_10 : decode cJ7_copyOf_59c91 10 = .ok (.checkcast 317, 3) := by decide +kernel
theorem dJ7_copyOf_59c91_13 : decode cJ7_copyOf_59c91 13 = .ok (.areturn, 1) := by decide +kernel
theorem dJ7_copyOf_59c91_14 : decode cJ7_copyOf_59c91 14 = .ok (.iload_n 1, 1) := by decide +kernel
theorem dJ7_copyOf_59c91_15 : decode cJ7_copyOf_59c91 15 = .ok (.newarray .int, 2) := by decide +kernel
theorem dJ7_copyOf_59c91_17 : decode cJ7_copyOf_59c91 17 = .ok (.astore_n 2, 1) := by decide +kernel
theorem dJ7_copyOf_59c91_18 : decode cJ7_copyOf_59c91 18 = .ok (.aload_n 0, 1) := by decide +kernel
theorem dJ7_copyOf_59c91_19 : decode cJ7_copyOf_59c91 19 = .ok (.iconst 0, 1) := by decide +kernel
theorem dJ7_copyOf_59c91_20 : decode cJ7_copyOf_59c91 20 = .ok (.aload_n 2, 1) := by decide +kernel
theorem dJ7_copyOf_59c91_21 : decode cJ7_copyOf_59c91 21 = .ok (.iconst 0, 1) := by decide +kernel
theorem dJ7_copyOf_59c91_22 : decode cJ7_copyOf_59c91 22 = .ok (.aload_n 0, 1) := by decide +kernel
theorem dJ7_copyOf_59c91_23 : decode cJ7_copyOf_59c91 23 = .ok (.arraylength, 1) := by decide +kernel
theorem dJ7_copyOf_59c91_24 : decode cJ7_copyOf_59c91 24 = .ok (.iload_n 1, 1) := by decide +kernel
theorem dJ7_copyOf_59c91_25 : decode cJ7_copyOf_59c91 25 = .ok (.invokestatic 304, 3) := by decide +kernel
theorem dJ7_copyOf_59c91_28 : decode cJ7_copyOf_59c91 28 = .ok (.invokestatic 150, 3) := by decide +kernel
theorem dJ7_copyOf_59c91_31 : decode cJ7_copyOf_59c91 31 = .ok (.aload_n 2, 1) := by decide +kernel
theorem dJ7_copyOf_59c91_32 : decode cJ7_copyOf_59c91 32 = .ok (.areturn, 1) := by decide +kernel
theorem dL_entry_0 : decode cL_entry 0 = .ok (.aload_n 3, 1) := by decide +kernel
theorem dL_entry_1 : decode cL_entry 1 = .ok (.iconst 0, 1) := by decide +kernel
theorem dL_entry_2 : decode cL_entry 2 = .ok (.aload_n 0, 1) := by decide +kernel
theorem dL_entry_3 : decode cL_entry 3 = .ok (.iload_n 1, 1) := by decide +kernel
theorem dL_entry_4 : decode cL_entry 4 = .ok (.iload_n 2, 1) := by decide +kernel
theorem dL_entry_5 : decode cL_entry 5 = .ok (.invokevirtual 7, 3) := by decide +kernel
theorem dL_entry_8 : decode cL_entry 8 = .ok (.i2l, 1) := by decide +kernel
theorem dL_entry_9 : decode cL_entry 9 = .ok (.lastore, 1) := by decide +kernel
theorem dL_entry_10 : decode cL_entry 10 = .ok (.goto 15, 3) := by decide +kernel
theorem dL_entry_13 : decode cL_entry 13 = .ok (.astore 4, 2) := by decide +kernel
theorem dL_entry_15 : decode cL_entry 15 = .ok (.iconst 1, 1) := by decide +kernel
theorem dL_entry_16 : decode cL_entry 16 = .ok (.ireturn, 1) := by decide +kernel
theorem dL_entry_17 : decode cL_entry 17 = .ok (.astore 4, 2) := by decide +kernel
theorem dL_entry_19 : decode cL_entry 19 = .ok (.iconst 2, 1) := by decide +kernel
theorem dL_entry_20 : decode cL_entry 20 = .ok (.ireturn, 1) := by decide +kernel
theorem dL_entry_21 : decode cL_entry 21 = .ok (.astore 4, 2) := by decide +kernel
theorem dL_entry_23 : decode cL_entry 23 = .ok (.iconst 3, 1) := by decide +kernel
theorem dL_entry_24 : decode cL_entry 24 = .ok (.ireturn, 1) := by decide +kernel
theorem dL_entry_25 : decode cL_entry 25 = .ok (.iconst 0, 1) := by decide +kernel
theorem dL_entry_26 : decode cL_entry 26 = .ok (.ireturn, 1) := by decide +kernel
theorem dL_sign_0 : decode cL_sign 0 = .ok (.aload_n 3, 1) := by decide +kernel
theorem dL_sign_1 : decode cL_sign 1 = .ok (.iconst 0, 1) := by decide +kernel
theorem dL_sign_2 : decode cL_sign 2 = .ok (.aload_n 0, 1) := by decide +kernel
theorem dL_sign_3 : decode cL_sign 3 = .ok (.iload_n 1, 1) := by decide +kernel
theorem dL_sign_4 : decode cL_sign 4 = .ok (.iload_n 2, 1) := by decide +kernel
theorem dL_sign_5 : decode cL_sign 5 = .ok (.invokevirtual 19, 3) := by decide +kernel
theorem dL_sign_8 : decode cL_sign 8 = .ok (.i2l, 1) := by decide +kernel
theorem dL_sign_9 : decode cL_sign 9 = .ok (.lastore, 1) := by decide +kernel
theorem dL_sign_10 : decode cL_sign 10 = .ok (.goto 15, 3) := by decide +kernel
theorem dL_sign_13 : decode cL_sign 13 = .ok (.astore 4, 2) := by decide +kernel
theorem dL_sign_15 : decode cL_sign 15 = .ok (.iconst 1, 1) := by decide +kernel
theorem dL_sign_16 : decode cL_sign 16 = .ok (.ireturn, 1) := by decide +kernel
theorem dL_sign_17 : decode cL_sign 17 = .ok (.astore 4, 2) := by decide +kernel
theorem dL_sign_19 : decode cL_sign 19 = .ok (.iconst 2, 1) := by decide +kernel
theorem dL_sign_20 : decode cL_sign 20 = .ok (.ireturn, 1) := by decide +kernel
theorem dL_sign_21 : decode cL_sign 21 = .ok (.astore 4, 2) := by decide +kernel
theorem dL_sign_23 : decode cL_sign 23 = .ok (.iconst 3, 1) := by decide +kernel
theorem dL_sign_24 : decode cL_sign 24 = .ok (.ireturn, 1) := by decide +kernel
theorem dL_sign_25 : decode cL_sign 25 = .ok (.iconst 0, 1) := by decide +kernel
theorem dL_sign_26 : decode cL_sign 26 = .ok (.ireturn, 1) := by decide +kernel
theorem dL_page_0 : decode cL_page 0 = .ok (.aload 4, 2) := by decide +kernel
theorem dL_page_2 : decode cL_page 2 = .ok (.iconst 0, 1) := by decide +kernel
theorem dL_page_3 : decode cL_page 3 = .ok (.aload_n 0, 1) := by decide +kernel
theorem dL_page_4 : decode cL_page 4 = .ok (.iload_n 1, 1) := by decide +kernel
theorem dL_page_5 : decode cL_page 5 = .ok (.iload_n 2, 1) := by decide +kernel
theorem dL_page_6 : decode cL_page 6 = .ok (.iload_n 3, 1) := by decide +kernel
theorem dL_page_7 : decode cL_page 7 = .ok (.invokevirtual 22, 3) := by decide +kernel
theorem dL_page_10 : decode cL_page 10 = .ok (.i2l, 1) := by decide +kernel
theorem dL_page_11 : decode cL_page 11 = .ok (.lastore, 1) := by decide +kernel
theorem dL_page_12 : decode cL_page 12 = .ok (.goto 15, 3) := by decide +kernel
theorem dL_page_15 : decode cL_page 15 = .ok (.astore 5, 2) := by decide +kernel
theorem dL_page_17 : decode cL_page 17 = .ok (.iconst 1, 1) := by decide +kernel
theorem dL_page_18 : decode cL_page 18 = .ok (.ireturn, 1) := by decide +kernel
theorem dL_page_19 : decode cL_page 19 = .ok (.astore 5, 2) := by decide +kernel
theorem dL_page_21 : decode cL_page 21 = .ok (.iconst 2, 1) := by decide +kernel
theorem dL_page_22 : decode cL_page 22 = .ok (.ireturn, 1) := by decide +kernel
theorem dL_page_23 : decode cL_page 23 = .ok (.astore 5, 2) := by decide +kernel
theorem dL_page_25 : decode cL_page 25 = .ok (.iconst 3, 1) := by decide +kernel
theorem dL_page_26 : decode cL_page 26 = .ok (.ireturn, 1) := by decide +kernel
theorem dL_page_27 : decode cL_page 27 = .ok (.iconst 0, 1) := by decide +kernel
theorem dL_page_28 : decode cL_page 28 = .ok (.ireturn, 1) := by decide +kernel
theorem dL_range_0 : decode cL_range 0 = .ok (.aload 4, 2) := by decide +kernel
theorem dL_range_2 : decode cL_range 2 = .ok (.iconst 0, 1) := by decide +kernel
theorem dL_range_3 : decode cL_range 3 = .ok (.aload_n 0, 1) := by decide +kernel
theorem dL_range_4 : decode cL_range 4 = .ok (.iload_n 1, 1) := by decide +kernel
theorem dL_range_5 : decode cL_range 5 = .ok (.iload_n 2, 1) := by decide +kernel
theorem dL_range_6 : decode cL_range 6 = .ok (.iload_n 3, 1) := by decide +kernel
theorem dL_range_7 : decode cL_range 7 = .ok (.invokevirtual 26, 3) := by decide +kernel
theorem dL_range_10 : decode cL_range 10 = .ok (.i2l, 1) := by decide +kernel
theorem dL_range_11 : decode cL_range 11 = .ok (.lastore, 1) := by decide +kernel
theorem dL_range_12 : decode cL_range 12 = .ok (.goto 15, 3) := by decide +kernel
theorem dL_range_15 : decode cL_range 15 = .ok (.astore 5, 2) := by decide +kernel
theorem dL_range_17 : decode cL_range 17 = .ok (.iconst 1, 1) := by decide +kernel
theorem dL_range_18 : decode cL_range 18 = .ok (.ireturn, 1) := by decide +kernel
theorem dL_range_19 : decode cL_range 19 = .ok (.astore 5, 2) := by decide +kernel
theorem dL_range_21 : decode cL_range 21 = .ok (.iconst 2, 1) := by decide +kernel
theorem dL_range_22 : decode cL_range 22 = .ok (.ireturn, 1) := by decide +kernel
theorem dL_range_23 : decode cL_range 23 = .ok (.astore 5, 2) := by decide +kernel
theorem dL_range_25 : decode cL_range 25 = .ok (.iconst 3, 1) := by decide +kernel
theorem dL_range_26 : decode cL_range 26 = .ok (.ireturn, 1) := by decide +kernel
theorem dL_range_27 : decode cL_range 27 = .ok (.iconst 0, 1) := by decide +kernel
theorem dL_range_28 : decode cL_range 28 = .ok (.ireturn, 1) := by decide +kernel
theorem dL_see_0 : decode cL_see 0 = .ok (.aload_n 3, 1) := by decide +kernel
theorem dL_see_1 : decode cL_see 1 = .ok (.iconst 0, 1) := by decide +kernel
theorem dL_see_2 : decode cL_see 2 = .ok (.aload_n 0, 1) := by decide +kernel
theorem dL_see_3 : decode cL_see 3 = .ok (.iload_n 1, 1) := by decide +kernel
theorem dL_see_4 : decode cL_see 4 = .ok (.iload_n 2, 1) := by decide +kernel
theorem dL_see_5 : decode cL_see 5 = .ok (.invokevirtual 30, 3) := by decide +kernel
theorem dL_see_8 : decode cL_see 8 = .ok (.i2l, 1) := by decide +kernel
theorem dL_see_9 : decode cL_see 9 = .ok (.lastore, 1) := by decide +kernel
theorem dL_see_10 : decode cL_see 10 = .ok (.goto 11, 3) := by decide +kernel
theorem dL_see_13 : decode cL_see 13 = .ok (.astore 4, 2) := by decide +kernel
theorem dL_see_15 : decode cL_see 15 = .ok (.iconst 1, 1) := by decide +kernel
theorem dL_see_16 : decode cL_see 16 = .ok (.ireturn, 1) := by decide +kernel
theorem dL_see_17 : decode cL_see 17 = .ok (.astore 4, 2) := by decide +kernel
theorem dL_see_19 : decode cL_see 19 = .ok (.iconst 2, 1) := by decide +kernel
theorem dL_see_20 : decode cL_see 20 = .ok (.ireturn, 1) := by decide +kernel
theorem dL_see_21 : decode cL_see 21 = .ok (.iconst 0, 1) := by decide +kernel
theorem dL_see_22 : decode cL_see 22 = .ok (.ireturn, 1) := by decide +kernel
theorem dL_rule_0 : decode cL_rule 0 = .ok (.aload_n 3, 1) := by decide +kernel
theorem dL_rule_1 : decode cL_rule 1 = .ok (.iconst 0, 1) := by decide +kernel
theorem dL_rule_2 : decode cL_rule 2 = .ok (.aload_n 0, 1) := by decide +kernel
theorem dL_rule_3 : decode cL_rule 3 = .ok (.iload_n 1, 1) := by decide +kernel
theorem dL_rule_4 : decode cL_rule 4 = .ok (.iload_n 2, 1) := by decide +kernel
theorem dL_rule_5 : decode cL_rule 5 = .ok (.invokevirtual 33, 3) := by decide +kernel
theorem dL_rule_8 : decode cL_rule 8 = .ok (.i2l, 1) := by decide +kernel
theorem dL_rule_9 : decode cL_rule 9 = .ok (.lastore, 1) := by decide +kernel
theorem dL_rule_10 : decode cL_rule 10 = .ok (.goto 7, 3) := by decide +kernel
theorem dL_rule_13 : decode cL_rule 13 = .ok (.astore 4, 2) := by decide +kernel
theorem dL_rule_15 : decode cL_rule 15 = .ok (.iconst 1, 1) := by decide +kernel
theorem dL_rule_16 : decode cL_rule 16 = .ok (.ireturn, 1) := by decide +kernel
theorem dL_rule_17 : decode cL_rule 17 = .ok (.iconst 0, 1) := by decide +kernel
theorem dL_rule_18 : decode cL_rule 18 = .ok (.ireturn, 1) := by decide +kernel
theorem dL_row_0 : decode cL_row 0 = .ok (.aload_n 3, 1) := by decide +kernel
theorem dL_row_1 : decode cL_row 1 = .ok (.iconst 0, 1) := by decide +kernel
theorem dL_row_2 : decode cL_row 2 = .ok (.aload_n 0, 1) := by decide +kernel
theorem dL_row_3 : decode cL_row 3 = .ok (.iload_n 1, 1) := by decide +kernel
theorem dL_row_4 : decode cL_row 4 = .ok (.iload_n 2, 1) := by decide +kernel
theorem dL_row_5 : decode cL_row 5 = .ok (.invokevirtual 37, 3) := by decide +kernel
theorem dL_row_8 : decode cL_row 8 = .ok (.i2l, 1) := by decide +kernel
theorem dL_row_9 : decode cL_row 9 = .ok (.lastore, 1) := by decide +kernel
theorem dL_row_10 : decode cL_row 10 = .ok (.goto 7, 3) := by decide +kernel
theorem dL_row_13 : decode cL_row 13 = .ok (.astore 4, 2) := by decide +kernel
theorem dL_row_15 : decode cL_row 15 = .ok (.iconst 1, 1) := by decide +kernel
theorem dL_row_16 : decode cL_row 16 = .ok (.ireturn, 1) := by decide +kernel
theorem dL_row_17 : decode cL_row 17 = .ok (.iconst 0, 1) := by decide +kernel
theorem dL_row_18 : decode cL_row 18 = .ok (.ireturn, 1) := by decide +kernel
theorem dL_locator_0 : decode cL_locator 0 = .ok (.aload 4, 2) := by decide +kernel
theorem dL_locator_2 : decode cL_locator 2 = .ok (.iconst 0, 1) := by decide +kernel
theorem dL_locator_3 : decode cL_locator 3 = .ok (.aload_n 0, 1) := by decide +kernel
theorem dL_locator_4 : decode cL_locator 4 = .ok (.iload_n 1, 1) := by decide +kernel
theorem dL_locator_5 : decode cL_locator 5 = .ok (.iload_n 2, 1) := by decide +kernel
theorem dL_locator_6 : decode cL_locator 6 = .ok (.iload_n 3, 1) := by decide +kernel
theorem dL_locator_7 : decode cL_locator 7 = .ok (.invokevirtual 42, 3) := by decide +kernel
theorem dL_locator_10 : decode cL_locator 10 = .ok (.i2l, 1) := by decide +kernel
theorem dL_locator_11 : decode cL_locator 11 = .ok (.lastore, 1) := by decide +kernel
theorem dL_locator_12 : decode cL_locator 12 = .ok (.goto 7, 3) := by decide +kernel
theorem dL_locator_15 : decode cL_locator 15 = .ok (.astore 5, 2) := by decide +kernel
theorem dL_locator_17 : decode cL_locator 17 = .ok (.iconst 1, 1) := by decide +kernel
theorem dL_locator_18 : decode cL_locator 18 = .ok (.ireturn, 1) := by decide +kernel
theorem dL_locator_19 : decode cL_locator 19 = .ok (.iconst 0, 1) := by decide +kernel
theorem dL_locator_20 : decode cL_locator 20 = .ok (.ireturn, 1) := by decide +kernel
theorem dL_compare_0 : decode cL_compare 0 = .ok (.aload_n 3, 1) := by decide +kernel
theorem dL_compare_1 : decode cL_compare 1 = .ok (.iconst 0, 1) := by decide +kernel
theorem dL_compare_2 : decode cL_compare 2 = .ok (.aload_n 0, 1) := by decide +kernel
theorem dL_compare_3 : decode cL_compare 3 = .ok (.iload_n 1, 1) := by decide +kernel
theorem dL_compare_4 : decode cL_compare 4 = .ok (.iload_n 2, 1) := by decide +kernel
theorem dL_compare_5 : decode cL_compare 5 = .ok (.invokevirtual 45, 3) := by decide +kernel
theorem dL_compare_8 : decode cL_compare 8 = .ok (.i2l, 1) := by decide +kernel
theorem dL_compare_9 : decode cL_compare 9 = .ok (.lastore, 1) := by decide +kernel
theorem dL_compare_10 : decode cL_compare 10 = .ok (.goto 7, 3) := by decide +kernel
theorem dL_compare_13 : decode cL_compare 13 = .ok (.astore 4, 2) := by decide +kernel
theorem dL_compare_15 : decode cL_compare 15 = .ok (.iconst 1, 1) := by decide +kernel
theorem dL_compare_16 : decode cL_compare 16 = .ok (.ireturn, 1) := by decide +kernel
theorem dL_compare_17 : decode cL_compare 17 = .ok (.iconst 0, 1) := by decide +kernel
theorem dL_compare_18 : decode cL_compare 18 = .ok (.ireturn, 1) := by decide +kernel
theorem dL_told_0 : decode cL_told 0 = .ok (.aload_n 3, 1) := by decide +kernel
theorem dL_told_1 : decode cL_told 1 = .ok (.iconst 0, 1) := by decide +kernel
theorem dL_told_2 : decode cL_told 2 = .ok (.aload_n 0, 1) := by decide +kernel
theorem dL_told_3 : decode cL_told 3 = .ok (.iload_n 1, 1) := by decide +kernel
theorem dL_told_4 : decode cL_told 4 = .ok (.iload_n 2, 1) := by decide +kernel
theorem dL_told_5 : decode cL_told 5 = .ok (.invokevirtual 48, 3) := by decide +kernel
theorem dL_told_8 : decode cL_told 8 = .ok (.i2l, 1) := by decide +kernel
theorem dL_told_9 : decode cL_told 9 = .ok (.lastore, 1) := by decide +kernel
theorem dL_told_10 : decode cL_told 10 = .ok (.goto 7, 3) := by decide +kernel
theorem dL_told_13 : decode cL_told 13 = .ok (.astore 4, 2) := by decide +kernel
theorem dL_told_15 : decode cL_told 15 = .ok (.iconst 1, 1) := by decide +kernel
theorem dL_told_16 : decode cL_told 16 = .ok (.ireturn, 1) := by decide +kernel
theorem dL_told_17 : decode cL_told 17 = .ok (.iconst 0, 1) := by decide +kernel
theorem dL_told_18 : decode cL_told 18 = .ok (.ireturn, 1) := by decide +kernel
theorem dL_style_0 : decode cL_style 0 = .ok (.aload_n 2, 1) := by decide +kernel
theorem dL_style_1 : decode cL_style 1 = .ok (.iconst 0, 1) := by decide +kernel
theorem dL_style_2 : decode cL_style 2 = .ok (.aload_n 0, 1) := by decide +kernel
theorem dL_style_3 : decode cL_style 3 = .ok (.iload_n 1, 1) := by decide +kernel
theorem dL_style_4 : decode cL_style 4 = .ok (.invokevirtual 51, 3) := by decide +kernel
theorem dL_style_7 : decode cL_style 7 = .ok (.i2l, 1) := by decide +kernel
theorem dL_style_8 : decode cL_style 8 = .ok (.lastore, 1) := by decide +kernel
theorem dL_style_9 : decode cL_style 9 = .ok (.goto 9, 3) := by decide +kernel
theorem dL_style_12 : decode cL_style 12 = .ok (.astore_n 3, 1) := by decide +kernel
theorem dL_style_13 : decode cL_style 13 = .ok (.iconst 1, 1) := by decide +kernel
theorem dL_style_14 : decode cL_style 14 = .ok (.ireturn, 1) := by decide +kernel
theorem dL_style_15 : decode cL_style 15 = .ok (.astore_n 3, 1) := by decide +kernel
theorem dL_style_16 : decode cL_style 16 = .ok (.iconst 2, 1) := by decide +kernel
theorem dL_style_17 : decode cL_style 17 = .ok (.ireturn, 1) := by decide +kernel
theorem dL_style_18 : decode cL_style 18 = .ok (.iconst 0, 1) := by decide +kernel
theorem dL_style_19 : decode cL_style 19 = .ok (.ireturn, 1) := by decide +kernel
theorem dL_print_0 : decode cL_print 0 = .ok (.aload_n 1, 1) := by decide +kernel
theorem dL_print_1 : decode cL_print 1 = .ok (.iconst 0, 1) := by decide +kernel
theorem dL_print_2 : decode cL_print 2 = .ok (.aload_n 0, 1) := by decide +kernel
theorem dL_print_3 : decode cL_print 3 = .ok (.invokevirtual 55, 3) := by decide +kernel
theorem dL_print_6 : decode cL_print 6 = .ok (.i2l, 1) := by decide +kernel
theorem dL_print_7 : decode cL_print 7 = .ok (.lastore, 1) := by decide +kernel
theorem dL_print_8 : decode cL_print 8 = .ok (.goto 6, 3) := by decide +kernel
theorem dL_print_11 : decode cL_print 11 = .ok (.astore_n 2, 1) := by decide +kernel
theorem dL_print_12 : decode cL_print 12 = .ok (.iconst 1, 1) := by decide +kernel
theorem dL_print_13 : decode cL_print 13 = .ok (.ireturn, 1) := by decide +kernel
theorem dL_print_14 : decode cL_print 14 = .ok (.iconst 0, 1) := by decide +kernel
theorem dL_print_15 : decode cL_print 15 = .ok (.ireturn, 1) := by decide +kernel
theorem dL_at_0 : decode cL_at 0 = .ok (.aload_n 2, 1) := by decide +kernel
theorem dL_at_1 : decode cL_at 1 = .ok (.iconst 0, 1) := by decide +kernel
theorem dL_at_2 : decode cL_at 2 = .ok (.aload_n 0, 1) := by decide +kernel
theorem dL_at_3 : decode cL_at 3 = .ok (.iload_n 1, 1) := by decide +kernel
theorem dL_at_4 : decode cL_at 4 = .ok (.invokevirtual 59, 3) := by decide +kernel
theorem dL_at_7 : decode cL_at 7 = .ok (.i2l, 1) := by decide +kernel
theorem dL_at_8 : decode cL_at 8 = .ok (.lastore, 1) := by decide +kernel
theorem dL_at_9 : decode cL_at 9 = .ok (.goto 6, 3) := by decide +kernel
theorem dL_at_12 : decode cL_at 12 = .ok (.astore_n 3, 1) := by decide +kernel
theorem dL_at_13 : decode cL_at 13 = .ok (.iconst 1, 1) := by decide +kernel
theorem dL_at_14 : decode cL_at 14 = .ok (.ireturn, 1) := by decide +kernel
theorem dL_at_15 : decode cL_at 15 = .ok (.iconst 0, 1) := by decide +kernel
theorem dL_at_16 : decode cL_at 16 = .ok (.ireturn, 1) := by decide +kernel
theorem dL_law_0 : decode cL_law 0 = .ok (.new 8, 3) := by decide +kernel
theorem dL_law_3 : decode cL_law 3 = .ok (.dup, 1) := by decide +kernel
theorem dL_law_4 : decode cL_law 4 = .ok (.invokespecial 64, 3) := by decide +kernel
theorem dL_law_7 : decode cL_law 7 = .ok (.astore_n 1, 1) := by decide +kernel
theorem dL_law_8 : decode cL_law 8 = .ok (.new 65, 3) := by decide +kernel
theorem dL_law_11 : decode cL_law 11 = .ok (.dup, 1) := by decide +kernel
theorem dL_law_12 : decode cL_law 12 = .ok (.invokespecial 67, 3) := by decide +kernel
theorem dL_law_15 : decode cL_law 15 = .ok (.astore_n 2, 1) := by decide +kernel
theorem dL_law_16 : decode cL_law 16 = .ok (.iconst 1, 1) := by decide +kernel
theorem dL_law_17 : decode cL_law 17 = .ok (.newarray .long, 2) := by decide +kernel
theorem dL_law_19 : decode cL_law 19 = .ok (.astore_n 3, 1) := by decide +kernel
theorem dL_law_20 : decode cL_law 20 = .ok (.iconst 0, 1) := by decide +kernel
theorem dL_law_21 : decode cL_law 21 = .ok (.istore 4, 2) := by decide +kernel
theorem dL_law_23 : decode cL_law 23 = .ok (.iload 4, 2) := by decide +kernel
theorem dL_law_25 : decode cL_law 25 = .ok (.aload_n 0, 1) := by decide +kernel
theorem dL_law_26 : decode cL_law 26 = .ok (.arraylength, 1) := by decide +kernel
theorem dL_law_27 : decode cL_law 27 = .ok (.iconst 4, 1) := by decide +kernel
theorem dL_law_28 : decode cL_law 28 = .ok (.isub, 1) := by decide +kernel
theorem dL_law_29 : decode cL_law 29 = .ok (.if_icmp .gt 666, 3) := by decide +kernel
theorem dL_law_32 : decode cL_law 32 = .ok (.aload_n 0, 1) := by decide +kernel
theorem dL_law_33 : decode cL_law 33 = .ok (.iload 4, 2) := by decide +kernel
theorem dL_law_35 : decode cL_law 35 = .ok (.iaload, 1) := by decide +kernel
theorem dL_law_36 : decode cL_law 36 = .ok (.bipush 15, 2) := by decide +kernel
theorem dL_law_38 : decode cL_law 38 = .ok (.iand, 1) := by decide +kernel
theorem dL_law_39 : decode cL_law 39 = .ok (.tableswitch 650 0 13 #[69, 109, 149, 201, 297, 337, 393, 406, 446, 498, 538, 578, 606, 622], 69) := by decide +kernel
theorem dL_law_108 : decode cL_law 108 = .ok (.aload_n 1, 1) := by decide +kernel
theorem dL_law_109 : decode cL_law 109 = .ok (.aload_n 0, 1) := by decide +kernel
theorem dL_law_110 : decode cL_law 110 = .ok (.iload 4, 2) := by decide +kernel
theorem dL_law_112 : decode cL_law 112 = .ok (.iconst 1, 1) := by decide +kernel
theorem dL_law_113 : decode cL_law 113 = .ok (.iadd, 1) := by decide +kernel
theorem dL_law_114 : decode cL_law 114 = .ok (.iaload, 1) := by decide +kernel
theorem dL_law_115 : decode cL_law 115 = .ok (.aload_n 0, 1) := by decide +kernel
theorem dL_law_116 : decode cL_law 116 = .ok (.iload 4, 2) := by decide +kernel
theorem dL_law_118 : decode cL_law 118 = .ok (.iconst 2, 1) := by decide +kernel
theorem dL_law_119 : decode cL_law 119 = .ok (.iadd, 1) := by decide +kernel
theorem dL_law_120 : decode cL_law 120 = .ok (.iaload, 1) := by decide +kernel
theorem dL_law_121 : decode cL_law 121 = .ok (.aload_n 3, 1) := by decide +kernel
theorem dL_law_122 : decode cL_law 122 = .ok (.invokestatic 68, 3) := by decide +kernel
theorem dL_law_125 : decode cL_law 125 = .ok (.istore 5, 2) := by decide +kernel
theorem dL_law_127 : decode cL_law 127 = .ok (.aload_n 2, 1) := by decide +kernel
theorem dL_law_128 : decode cL_law 128 = .ok (.aload_n 0, 1) := by decide +kernel
theorem dL_law_129 : decode cL_law 129 = .ok (.iload 4, 2) := by decide +kernel
theorem dL_law_131 : decode cL_law 131 = .ok (.iconst 1, 1) := by decide +kernel
theorem dL_law_132 : decode cL_law 132 = .ok (.iadd, 1) := by decide +kernel
theorem dL_law_133 : decode cL_law 133 = .ok (.iaload, 1) := by decide +kernel
theorem dL_law_134 : decode cL_law 134 = .ok (.aload_n 0, 1) := by decide +kernel
theorem dL_law_135 : decode cL_law 135 = .ok (.iload 4, 2) := by decide +kernel
theorem dL_law_137 : decode cL_law 137 = .ok (.iconst 2, 1) := by decide +kernel
theorem dL_law_138 : decode cL_law 138 = .ok (.iadd, 1) := by decide +kernel
theorem dL_law_139 : decode cL_law 139 = .ok (.iaload, 1) := by decide +kernel
theorem dL_law_140 : decode cL_law 140 = .ok (.invokevirtual 73, 3) := by decide +kernel
theorem dL_law_143 : decode cL_law 143 = .ok (.istore 6, 2) := by decide +kernel
theorem dL_law_145 : decode cL_law 145 = .ok (.goto 544, 3) := by decide +kernel
theorem dL_law_148 : decode cL_law 148 = .ok (.aload_n 1, 1) := by decide +kernel
theorem dL_law_149 : decode cL_law 149 = .ok (.aload_n 0, 1) := by decide +kernel
theorem dL_law_150 : decode cL_law 150 = .ok (.iload 4, 2) := by decide +kernel
theorem dL_law_152 : decode cL_law 152 = .ok (.iconst 1, 1) := by decide +kernel
theorem dL_law_153 : decode cL_law 153 = .ok (.iadd, 1) := by decide +kernel
theorem dL_law_154 : decode cL_law 154 = .ok (.iaload, 1) := by decide +kernel
theorem dL_law_155 : decode cL_law 155 = .ok (.aload_n 0, 1) := by decide +kernel
theorem dL_law_156 : decode cL_law 156 = .ok (.iload 4, 2) := by decide +kernel
theorem dL_law_158 : decode cL_law 158 = .ok (.iconst 2, 1) := by decide +kernel
theorem dL_law_159 : decode cL_law 159 = .ok (.iadd, 1) := by decide +kernel
theorem dL_law_160 : decode cL_law 160 = .ok (.iaload, 1) := by decide +kernel
theorem dL_law_161 : decode cL_law 161 = .ok (.aload_n 3, 1) := by decide +kernel
theorem dL_law_162 : decode cL_law 162 = .ok (.invokestatic 74, 3) := by decide +kernel
theorem dL_law_165 : decode cL_law 165 = .ok (.istore 5, 2) := by decide +kernel
theorem dL_law_167 : decode cL_law 167 = .ok (.aload_n 2, 1) := by decide +kernel
theorem dL_law_168 : decode cL_law 168 = .ok (.aload_n 0, 1) := by decide +kernel
theorem dL_law_169 : decode cL_law 169 = .ok (.iload 4, 2) := by decide +kernel
theorem dL_law_171 : decode cL_law 171 = .ok (.iconst 1, 1) := by decide +kernel
theorem dL_law_172 : decode cL_law 172 = .ok (.iadd, 1) := by decide +kernel
theorem dL_law_173 : decode cL_law 173 = .ok (.iaload, 1) := by decide +kernel
theorem dL_law_174 : decode cL_law 174 = .ok (.aload_n 0, 1) := by decide +kernel
theorem dL_law_175 : decode cL_law 175 = .ok (.iload 4, 2) := by decide +kernel
theorem dL_law_177 : decode cL_law 177 = .ok (.iconst 2, 1) := by decide +kernel
theorem dL_law_178 : decode cL_law 178 = .ok (.iadd, 1) := by decide +kernel
theorem dL_law_179 : decode cL_law 179 = .ok (.iaload, 1) := by decide +kernel
theorem dL_law_180 : decode cL_law 180 = .ok (.invokevirtual 76, 3) := by decide +kernel
theorem dL_law_183 : decode cL_law 183 = .ok (.istore 6, 2) := by decide +kernel
theorem dL_law_185 : decode cL_law 185 = .ok (.goto 504, 3) := by decide +kernel
theorem dL_law_188 : decode cL_law 188 = .ok (.aload_n 1, 1) := by decide +kernel
theorem dL_law_189 : decode cL_law 189 = .ok (.aload_n 0, 1) := by decide +kernel
theorem dL_law_190 : decode cL_law 190 = .ok (.iload 4, 2) := by decide +kernel
theorem dL_law_192 : decode cL_law 192 = .ok (.iconst 1, 1) := by decide +kernel
theorem dL_law_193 : decode cL_law 193 = .ok (.iadd, 1) := by decide +kernel
theorem dL_law_194 : decode cL_law 194 = .ok (.iaload, 1) := by decide +kernel
theorem dL_law_195 : decode cL_law 195 = .ok (.aload_n 0, 1) := by decide +kernel
theorem dL_law_196 : decode cL_law 196 = .ok (.iload 4, 2) := by decide +kernel
theorem dL_law_198 : decode cL_law 198 = .ok (.iconst 2, 1) := by decide +kernel
theorem dL_law_199 : decode cL_law 199 = .ok (.iadd, 1) := by decide +kernel
theorem dL_law_200 : decode cL_law 200 = .ok (.iaload, 1) := by decide +kernel
theorem dL_law_201 : decode cL_law 201 = .ok (.aload_n 0, 1) := by decide +kernel
theorem dL_law_202 : decode cL_law 202 = .ok (.iload 4, 2) := by decide +kernel
theorem dL_law_204 : decode cL_law 204 = .ok (.iconst 3, 1) := by decide +kernel
theorem dL_law_205 : decode cL_law 205 = .ok (.iadd, 1) := by decide +kernel
theorem dL_law_206 : decode cL_law 206 = .ok (.iaload, 1) := by decide +kernel
theorem dL_law_207 : decode cL_law 207 = .ok (.aload_n 3, 1) := by decide +kernel
theorem dL_law_208 : decode cL_law 208 = .ok (.invokestatic 77, 3) := by decide +kernel
theorem dL_law_211 : decode cL_law 211 = .ok (.istore 5, 2) := by decide +kernel
theorem dL_law_213 : decode cL_law 213 = .ok (.aload_n 2, 1) := by decide +kernel
theorem dL_law_214 : decode cL_law 214 = .ok (.aload_n 0, 1) := by decide +kernel
theorem dL_law_215 : decode cL_law 215 = .ok (.iload 4, 2) := by decide +kernel
theorem dL_law_217 : decode cL_law 217 = .ok (.iconst 1, 1) := by decide +kernel
theorem dL_law_218 : decode cL_law 218 = .ok (.iadd, 1) := by decide +kernel
theorem dL_law_219 : decode cL_law 219 = .ok (.iaload, 1) := by decide +kernel
theorem dL_law_220 : decode cL_law 220 = .ok (.aload_n 0, 1) := by decide +kernel
theorem dL_law_221 : decode cL_law 221 = .ok (.iload 4, 2) := by decide +kernel
theorem dL_law_223 : decode cL_law 223 = .ok (.iconst 2, 1) := by decide +kernel
theorem dL_law_224 : decode cL_law 224 = .ok (.iadd, 1) := by decide +kernel
theorem dL_law_225 : decode cL_law 225 = .ok (.iaload, 1) := by decide +kernel
theorem dL_law_226 : decode cL_law 226 = .ok (.aload_n 0, 1) := by decide +kernel
theorem dL_law_227 : decode cL_law 227 = .ok (.iload 4, 2) := by decide +kernel
theorem dL_law_229 : decode cL_law 229 = .ok (.iconst 3, 1) := by decide +kernel
theorem dL_law_230 : decode cL_law 230 = .ok (.iadd, 1) := by decide +kernel
theorem dL_law_231 : decode cL_law 231 = .ok (.iaload, 1) := by decide +kernel
theorem dL_law_232 : decode cL_law 232 = .ok (.invokevirtual 80, 3) := by decide +kernel
theorem dL_law_235 : decode cL_law 235 = .ok (.istore 6, 2) := by decide +kernel
theorem dL_law_237 : decode cL_law 237 = .ok (.goto 452, 3) := by decide +kernel
theorem dL_law_240 : decode cL_law 240 = .ok (.aload_n 1, 1) := by decide +kernel
theorem dL_law_241 : decode cL_law 241 = .ok (.aload_n 0, 1) := by decide +kernel
theorem dL_law_242 : decode cL_law 242 = .ok (.iload 4, 2) := by decide +kernel
theorem dL_law_244 : decode cL_law 244 = .ok (.iconst 1, 1) := by decide +kernel
theorem dL_law_245 : decode cL_law 245 = .ok (.iadd, 1) := by decide +kernel
theorem dL_law_246 : decode cL_law 246 = .ok (.iaload, 1) := by decide +kernel
theorem dL_law_247 : decode cL_law 247 = .ok (.aload_n 0, 1) := by decide +kernel
theorem dL_law_248 : decode cL_law 248 = .ok (.iload 4, 2) := by decide +kernel
theorem dL_law_250 : decode cL_law 250 = .ok (.iconst 2, 1) := by decide +kernel
theorem dL_law_251 : decode cL_law 251 = .ok (.iadd, 1) := by decide +kernel
theorem dL_law_252 : decode cL_law 252 = .ok (.iaload, 1) := by decide +kernel
theorem dL_law_253 : decode cL_law 253 = .ok (.aload_n 0, 1) := by decide +kernel
theorem dL_law_254 : decode cL_law 254 = .ok (.iload 4, 2) := by decide +kernel
theorem dL_law_256 : decode cL_law 256 = .ok (.iconst 3, 1) := by decide +kernel
theorem dL_law_257 : decode cL_law 257 = .ok (.iadd, 1) := by decide +kernel
theorem dL_law_258 : decode cL_law 258 = .ok (.iaload, 1) := by decide +kernel
theorem dL_law_259 : decode cL_law 259 = .ok (.ifCond .eq 7, 3) := by decide +kernel
theorem dL_law_262 : decode cL_law 262 = .ok (.iconst 1, 1) := by decide +kernel
theorem dL_law_263 : decode cL_law 263 = .ok (.goto 4, 3) := by decide +kernel
theorem dL_law_266 : decode cL_law 266 = .ok (.iconst 0, 1) := by decide +kernel
theorem dL_law_267 : decode cL_law 267 = .ok (.aload_n 3, 1) := by decide +kernel
theorem dL_law_268 : decode cL_law 268 = .ok (.invokestatic 81, 3) := by decide +kernel
theorem dL_law_271 : decode cL_law 271 = .ok (.istore 5, 2) := by decide +kernel
theorem dL_law_273 : decode cL_law 273 = .ok (.aload_n 2, 1) := by decide +kernel
theorem dL_law_274 : decode cL_law 274 = .ok (.aload_n 0, 1) := by decide +kernel
theorem dL_law_275 : decode cL_law 275 = .ok (.iload 4, 2) := by decide +kernel
theorem dL_law_277 : decode cL_law 277 = .ok (.iconst 1, 1) := by decide +kernel
theorem dL_law_278 : decode cL_law 278 = .ok (.iadd, 1) := by decide +kernel
theorem dL_law_279 : decode cL_law 279 = .ok (.iaload, 1) := by decide +kernel
theorem dL_law_280 : decode cL_law 280 = .ok (.aload_n 0, 1) := by decide +kernel
theorem dL_law_281 : decode cL_law 281 = .ok (.iload 4, 2) := by decide +kernel
theorem dL_law_283 : decode cL_law 283 = .ok (.iconst 2, 1) := by decide +kernel
theorem dL_law_284 : decode cL_law 284 = .ok (.iadd, 1) := by decide +kernel
theorem dL_law_285 : decode cL_law 285 = .ok (.iaload, 1) := by decide +kernel
theorem dL_law_286 : decode cL_law 286 = .ok (.aload_n 0, 1) := by decide +kernel
theorem dL_law_287 : decode cL_law 287 = .ok (.iload 4, 2) := by decide +kernel
theorem dL_law_289 : decode cL_law 289 = .ok (.iconst 3, 1) := by decide +kernel
theorem dL_law_290 : decode cL_law 290 = .ok (.iadd, 1) := by decide +kernel
theorem dL_law_291 : decode cL_law 291 = .ok (.iaload, 1) := by decide +kernel
theorem dL_law_292 : decode cL_law 292 = .ok (.ifCond .eq 7, 3) := by decide +kernel
theorem dL_law_295 : decode cL_law 295 = .ok (.iconst 1, 1) := by decide +kernel
theorem dL_law_296 : decode cL_law 296 = .ok (.goto 4, 3) := by decide +kernel
theorem dL_law_299 : decode cL_law 299 = .ok (.iconst 0, 1) := by decide +kernel
theorem dL_law_300 : decode cL_law 300 = .ok (.invokevirtual 84, 3) := by decide +kernel
theorem dL_law_303 : decode cL_law 303 = .ok (.istore 6, 2) := by decide +kernel
theorem dL_law_305 : decode cL_law 305 = .ok (.aload_n 2, 1) := by decide +kernel
theorem dL_law_306 : decode cL_law 306 = .ok (.invokevirtual 85, 3) := by decide +kernel
theorem dL_law_309 : decode cL_law 309 = .ok (.iload 5, 2) := by decide +kernel
theorem dL_law_311 : decode cL_law 311 = .ok (.if_icmp .eq 5, 3) := by decide +kernel
theorem dL_law_314 : decode cL_law 314 = .ok (.iconst 0, 1) := by decide +kernel
theorem dL_law_315 : decode cL_law 315 = .ok (.ireturn, 1) := by decide +kernel
theorem dL_law_316 : decode cL_law 316 = .ok (.iload 5, 2) := by decide +kernel
theorem dL_law_318 : decode cL_law 318 = .ok (.ifCond .ne 15, 3) := by decide +kernel
theorem dL_law_321 : decode cL_law 321 = .ok (.aload_n 3, 1) := by decide +kernel
theorem dL_law_322 : decode cL_law 322 = .ok (.iconst 0, 1) := by decide +kernel
theorem dL_law_323 : decode cL_law 323 = .ok (.laload, 1) := by decide +kernel
theorem dL_law_324 : decode cL_law 324 = .ok (.iload 6, 2) := by decide +kernel
theorem dL_law_326 : decode cL_law 326 = .ok (.i2l, 1) := by decide +kernel
theorem dL_law_327 : decode cL_law 327 = .ok (.lcmp, 1) := by decide +kernel
theorem dL_law_328 : decode cL_law 328 = .ok (.ifCond .eq 5, 3) := by decide +kernel
theorem dL_law_331 : decode cL_law 331 = .ok (.iconst 0, 1) := by decide +kernel
theorem dL_law_332 : decode cL_law 332 = .ok (.ireturn, 1) := by decide +kernel
theorem dL_law_333 : decode cL_law 333 = .ok (.goto 356, 3) := by decide +kernel
theorem dL_law_336 : decode cL_law 336 = .ok (.aload_n 1, 1) := by decide +kernel
theorem dL_law_337 : decode cL_law 337 = .ok (.aload_n 0, 1) := by decide +kernel
theorem dL_law_338 : decode cL_law 338 = .ok (.iload 4, 2) := by decide +kernel
theorem dL_law_340 : decode cL_law 340 = .ok (.iconst 1, 1) := by decide +kernel
theorem dL_law_341 : decode cL_law 341 = .ok (.iadd, 1) := by decide +kernel
theorem dL_law_342 : decode cL_law 342 = .ok (.iaload, 1) := by decide +kernel
theorem dL_law_343 : decode cL_law 343 = .ok (.aload_n 0, 1) := by decide +kernel
theorem dL_law_344 : decode cL_law 344 = .ok (.iload 4, 2) := by decide +kernel
theorem dL_law_346 : decode cL_law 346 = .ok (.iconst 2, 1) := by decide +kernel
theorem dL_law_347 : decode cL_law 347 = .ok (.iadd, 1) := by decide +kernel
theorem dL_law_348 : decode cL_law 348 = .ok (.iaload, 1) := by decide +kernel
theorem dL_law_349 : decode cL_law 349 = .ok (.aload_n 3, 1) := by decide +kernel
theorem dL_law_350 : decode cL_law 350 = .ok (.invokestatic 88, 3) := by decide +kernel
theorem dL_law_353 : decode cL_law 353 = .ok (.istore 5, 2) := by decide +kernel
theorem dL_law_355 : decode cL_law 355 = .ok (.aload_n 2, 1) := by decide +kernel
theorem dL_law_356 : decode cL_law 356 = .ok (.aload_n 0, 1) := by decide +kernel
theorem dL_law_357 : decode cL_law 357 = .ok (.iload 4, 2) := by decide +kernel
theorem dL_law_359 : decode cL_law 359 = .ok (.iconst 1, 1) := by decide +kernel
theorem dL_law_360 : decode cL_law 360 = .ok (.iadd, 1) := by decide +kernel
theorem dL_law_361 : decode cL_law 361 = .ok (.iaload, 1) := by decide +kernel
theorem dL_law_362 : decode cL_law 362 = .ok (.aload_n 0, 1) := by decide +kernel
theorem dL_law_363 : decode cL_law 363 = .ok (.iload 4, 2) := by decide +kernel
theorem dL_law_365 : decode cL_law 365 = .ok (.iconst 2, 1) := by decide +kernel
theorem dL_law_366 : decode cL_law 366 = .ok (.iadd, 1) := by decide +kernel
theorem dL_law_367 : decode cL_law 367 = .ok (.iaload, 1) := by decide +kernel
theorem dL_law_368 : decode cL_law 368 = .ok (.invokevirtual 90, 3) := by decide +kernel
theorem dL_law_371 : decode cL_law 371 = .ok (.istore 6, 2) := by decide +kernel
theorem dL_law_373 : decode cL_law 373 = .ok (.goto 316, 3) := by decide +kernel
theorem dL_law_376 : decode cL_law 376 = .ok (.aload_n 1, 1) := by decide +kernel
theorem dL_law_377 : decode cL_law 377 = .ok (.aload_n 0, 1) := by decide +kernel
theorem dL_law_378 : decode cL_law 378 = .ok (.iload 4, 2) := by decide +kernel
theorem dL_law_380 : decode cL_law 380 = .ok (.iconst 1, 1) := by decide +kernel
theorem dL_law_381 : decode cL_law 381 = .ok (.iadd, 1) := by decide +kernel
theorem dL_law_382 : decode cL_law 382 = .ok (.iaload, 1) := by decide +kernel
theorem dL_law_383 : decode cL_law 383 = .ok (.aload_n 0, 1) := by decide +kernel
theorem dL_law_384 : decode cL_law 384 = .ok (.iload 4, 2) := by decide +kernel
theorem dL_law_386 : decode cL_law 386 = .ok (.iconst 2, 1) := by decide +kernel
theorem dL_law_387 : decode cL_law 387 = .ok (.iadd, 1) := by decide +kernel
theorem dL_law_388 : decode cL_law 388 = .ok (.iaload, 1) := by decide +kernel
theorem dL_law_389 : decode cL_law 389 = .ok (.ifCond .eq 7, 3) := by decide +kernel
theorem dL_law_392 : decode cL_law 392 = .ok (.iconst 1, 1) := by decide +kernel
theorem dL_law_393 : decode cL_law 393 = .ok (.goto 4, 3) := by decide +kernel
theorem dL_law_396 : decode cL_law 396 = .ok (.iconst 0, 1) := by decide +kernel
theorem dL_law_397 : decode cL_law 397 = .ok (.aload_n 3, 1) := by decide +kernel
theorem dL_law_398 : decode cL_law 398 = .ok (.invokestatic 91, 3) := by decide +kernel
theorem dL_law_401 : decode cL_law 401 = .ok (.istore 5, 2) := by decide +kernel
theorem dL_law_403 : decode cL_law 403 = .ok (.aload_n 2, 1) := by decide +kernel
theorem dL_law_404 : decode cL_law 404 = .ok (.aload_n 0, 1) := by decide +kernel
theorem dL_law_405 : decode cL_law 405 = .ok (.iload 4, 2) := by decide +kernel
theorem dL_law_407 : decode cL_law 407 = .ok (.iconst 1, 1) := by decide +kernel
theorem dL_law_408 : decode cL_law 408 = .ok (.iadd, 1) := by decide +kernel
theorem dL_law_409 : decode cL_law 409 = .ok (.iaload, 1) := by decide +kernel
theorem dL_law_410 : decode cL_law 410 = .ok (.aload_n 0, 1) := by decide +kernel
theorem dL_law_411 : decode cL_law 411 = .ok (.iload 4, 2) := by decide +kernel
theorem dL_law_413 : decode cL_law 413 = .ok (.iconst 2, 1) := by decide +kernel
theorem dL_law_414 : decode cL_law 414 = .ok (.iadd, 1) := by decide +kernel
theorem dL_law_415 : decode cL_law 415 = .ok (.iaload, 1) := by decide +kernel
theorem dL_law_416 : decode cL_law 416 = .ok (.ifCond .eq 7, 3) := by decide +kernel
theorem dL_law_419 : decode cL_law 419 = .ok (.iconst 1, 1) := by decide +kernel
theorem dL_law_420 : decode cL_law 420 = .ok (.goto 4, 3) := by decide +kernel
theorem dL_law_423 : decode cL_law 423 = .ok (.iconst 0, 1) := by decide +kernel
theorem dL_law_424 : decode cL_law 424 = .ok (.invokevirtual 94, 3) := by decide +kernel
theorem dL_law_427 : decode cL_law 427 = .ok (.istore 6, 2) := by decide +kernel
theorem dL_law_429 : decode cL_law 429 = .ok (.goto 260, 3) := by decide +kernel
theorem dL_law_432 : decode cL_law 432 = .ok (.aload_n 1, 1) := by decide +kernel
theorem dL_law_433 : decode cL_law 433 = .ok (.invokevirtual 95, 3) := by decide +kernel
theorem dL_law_436 : decode cL_law 436 = .ok (.pop, 1) := by decide +kernel
theorem dL_law_437 : decode cL_law 437 = .ok (.aload_n 2, 1) := by decide +kernel
theorem dL_law_438 : decode cL_law 438 = .ok (.invokevirtual 98, 3) := by decide +kernel
theorem dL_law_441 : decode cL_law 441 = .ok (.pop, 1) := by decide +kernel
theorem dL_law_442 : decode cL_law 442 = .ok (.goto 247, 3) := by decide +kernel
theorem dL_law_445 : decode cL_law 445 = .ok (.aload_n 1, 1) := by decide +kernel
theorem dL_law_446 : decode cL_law 446 = .ok (.aload_n 0, 1) := by decide +kernel
theorem dL_law_447 : decode cL_law 447 = .ok (.iload 4, 2) := by decide +kernel
theorem dL_law_449 : decode cL_law 449 = .ok (.iconst 1, 1) := by decide +kernel
theorem dL_law_450 : decode cL_law 450 = .ok (.iadd, 1) := by decide +kernel
theorem dL_law_451 : decode cL_law 451 = .ok (.iaload, 1) := by decide +kernel
theorem dL_law_452 : decode cL_law 452 = .ok (.aload_n 0, 1) := by decide +kernel
theorem dL_law_453 : decode cL_law 453 = .ok (.iload 4, 2) := by decide +kernel
theorem dL_law_455 : decode cL_law 455 = .ok (.iconst 2, 1) := by decide +kernel
theorem dL_law_456 : decode cL_law 456 = .ok (.iadd, 1) := by decide +kernel
theorem dL_law_457 : decode cL_law 457 = .ok (.iaload, 1) := by decide +kernel
theorem dL_law_458 : decode cL_law 458 = .ok (.aload_n 3, 1) := by decide +kernel
theorem dL_law_459 : decode cL_law 459 = .ok (.invokestatic 99, 3) := by decide +kernel
theorem dL_law_462 : decode cL_law 462 = .ok (.istore 5, 2) := by decide +kernel
theorem dL_law_464 : decode cL_law 464 = .ok (.aload_n 2, 1) := by decide +kernel
theorem dL_law_465 : decode cL_law 465 = .ok (.aload_n 0, 1) := by decide +kernel
theorem dL_law_466 : decode cL_law 466 = .ok (.iload 4, 2) := by decide +kernel
theorem dL_law_468 : decode cL_law 468 = .ok (.iconst 1, 1) := by decide +kernel
theorem dL_law_469 : decode cL_law 469 = .ok (.iadd, 1) := by decide +kernel
theorem dL_law_470 : decode cL_law 470 = .ok (.iaload, 1) := by decide +kernel
theorem dL_law_471 : decode cL_law 471 = .ok (.aload_n 0, 1) := by decide +kernel
theorem dL_law_472 : decode cL_law 472 = .ok (.iload 4, 2) := by decide +kernel
theorem dL_law_474 : decode cL_law 474 = .ok (.iconst 2, 1) := by decide +kernel
theorem dL_law_475 : decode cL_law 475 = .ok (.iadd, 1) := by decide +kernel
theorem dL_law_476 : decode cL_law 476 = .ok (.iaload, 1) := by decide +kernel
theorem dL_law_477 : decode cL_law 477 = .ok (.invokevirtual 101, 3) := by decide +kernel
theorem dL_law_480 : decode cL_law 480 = .ok (.istore 6, 2) := by decide +kernel
theorem dL_law_482 : decode cL_law 482 = .ok (.goto 207, 3) := by decide +kernel
theorem dL_law_485 : decode cL_law 485 = .ok (.aload_n 1, 1) := by decide +kernel
theorem dL_law_486 : decode cL_law 486 = .ok (.aload_n 0, 1) := by decide +kernel
theorem dL_law_487 : decode cL_law 487 = .ok (.iload 4, 2) := by decide +kernel
theorem dL_law_489 : decode cL_law 489 = .ok (.iconst 1, 1) := by decide +kernel
theorem dL_law_490 : decode cL_law 490 = .ok (.iadd, 1) := by decide +kernel
theorem dL_law_491 : decode cL_law 491 = .ok (.iaload, 1) := by decide +kernel
theorem dL_law_492 : decode cL_law 492 = .ok (.aload_n 0, 1) := by decide +kernel
theorem dL_law_493 : decode cL_law 493 = .ok (.iload 4, 2) := by decide +kernel
theorem dL_law_495 : decode cL_law 495 = .ok (.iconst 2, 1) := by decide +kernel
theorem dL_law_496 : decode cL_law 496 = .ok (.iadd, 1) := by decide +kernel
theorem dL_law_497 : decode cL_law 497 = .ok (.iaload, 1) := by decide +kernel
theorem dL_law_498 : decode cL_law 498 = .ok (.aload_n 0, 1) := by decide +kernel
theorem dL_law_499 : decode cL_law 499 = .ok (.iload 4, 2) := by decide +kernel
theorem dL_law_501 : decode cL_law 501 = .ok (.iconst 3, 1) := by decide +kernel
theorem dL_law_502 : decode cL_law 502 = .ok (.iadd, 1) := by decide +kernel
theorem dL_law_503 : decode cL_law 503 = .ok (.iaload, 1) := by decide +kernel
theorem dL_law_504 : decode cL_law 504 = .ok (.aload_n 3, 1) := by decide +kernel
theorem dL_law_505 : decode cL_law 505 = .ok (.invokestatic 102, 3) := by decide +kernel
theorem dL_law_508 : decode cL_law 508 = .ok (.istore 5, 2) := by decide +kernel
theorem dL_law_510 : decode cL_law 510 = .ok (.aload_n 2, 1) := by decide +kernel
theorem dL_law_511 : decode cL_law 511 = .ok (.aload_n 0, 1) := by decide +kernel
theorem dL_law_512 : decode cL_law 512 = .ok (.iload 4, 2) := by decide +kernel
theorem dL_law_514 : decode cL_law 514 = .ok (.iconst 1, 1) := by decide +kernel
theorem dL_law_515 : decode cL_law 515 = .ok (.iadd, 1) := by decide +kernel
theorem dL_law_516 : decode cL_law 516 = .ok (.iaload, 1) := by decide +kernel
theorem dL_law_517 : decode cL_law 517 = .ok (.aload_n 0, 1) := by decide +kernel
theorem dL_law_518 : decode cL_law 518 = .ok (.iload 4, 2) := by decide +kernel
theorem dL_law_520 : decode cL_law 520 = .ok (.iconst 2, 1) := by decide +kernel
theorem dL_law_521 : decode cL_law 521 = .ok (.iadd, 1) := by decide +kernel
theorem dL_law_522 : decode cL_law 522 = .ok (.iaload, 1) := by decide +kernel
theorem dL_law_523 : decode cL_law 523 = .ok (.aload_n 0, 1) := by decide +kernel
theorem dL_law_524 : decode cL_law 524 = .ok (.iload 4, 2) := by decide +kernel
theorem dL_law_526 : decode cL_law 526 = .ok (.iconst 3, 1) := by decide +kernel
theorem dL_law_527 : decode cL_law 527 = .ok (.iadd, 1) := by decide +kernel
theorem dL_law_528 : decode cL_law 528 = .ok (.iaload, 1) := by decide +kernel
theorem dL_law_529 : decode cL_law 529 = .ok (.invokevirtual 104, 3) := by decide +kernel
theorem dL_law_532 : decode cL_law 532 = .ok (.istore 6, 2) := by decide +kernel
theorem dL_law_534 : decode cL_law 534 = .ok (.goto 155, 3) := by decide +kernel
theorem dL_law_537 : decode cL_law 537 = .ok (.aload_n 1, 1) := by decide +kernel
theorem dL_law_538 : decode cL_law 538 = .ok (.aload_n 0, 1) := by decide +kernel
theorem dL_law_539 : decode cL_law 539 = .ok (.iload 4, 2) := by decide +kernel
theorem dL_law_541 : decode cL_law 541 = .ok (.iconst 1, 1) := by decide +kernel
theorem dL_law_542 : decode cL_law 542 = .ok (.iadd, 1) := by decide +kernel
theorem dL_law_543 : decode cL_law 543 = .ok (.iaload, 1) := by decide +kernel
theorem dL_law_544 : decode cL_law 544 = .ok (.aload_n 0, 1) := by decide +kernel
theorem dL_law_545 : decode cL_law 545 = .ok (.iload 4, 2) := by decide +kernel
theorem dL_law_547 : decode cL_law 547 = .ok (.iconst 2, 1) := by decide +kernel
theorem dL_law_548 : decode cL_law 548 = .ok (.iadd, 1) := by decide +kernel
theorem dL_law_549 : decode cL_law 549 = .ok (.iaload, 1) := by decide +kernel
theorem dL_law_550 : decode cL_law 550 = .ok (.aload_n 3, 1) := by decide +kernel
theorem dL_law_551 : decode cL_law 551 = .ok (.invokestatic 105, 3) := by decide +kernel
theorem dL_law_554 : decode cL_law 554 = .ok (.istore 5, 2) := by decide +kernel
theorem dL_law_556 : decode cL_law 556 = .ok (.aload_n 2, 1) := by decide +kernel
theorem dL_law_557 : decode cL_law 557 = .ok (.aload_n 0, 1) := by decide +kernel
theorem dL_law_558 : decode cL_law 558 = .ok (.iload 4, 2) := by decide +kernel
theorem dL_law_560 : decode cL_law 560 = .ok (.iconst 1, 1) := by decide +kernel
theorem dL_law_561 : decode cL_law 561 = .ok (.iadd, 1) := by decide +kernel
theorem dL_law_562 : decode cL_law 562 = .ok (.iaload, 1) := by decide +kernel
theorem dL_law_563 : decode cL_law 563 = .ok (.aload_n 0, 1) := by decide +kernel
theorem dL_law_564 : decode cL_law 564 = .ok (.iload 4, 2) := by decide +kernel
theorem dL_law_566 : decode cL_law 566 = .ok (.iconst 2, 1) := by decide +kernel
theorem dL_law_567 : decode cL_law 567 = .ok (.iadd, 1) := by decide +kernel
theorem dL_law_568 : decode cL_law 568 = .ok (.iaload, 1) := by decide +kernel
theorem dL_law_569 : decode cL_law 569 = .ok (.invokevirtual 107, 3) := by decide +kernel
theorem dL_law_572 : decode cL_law 572 = .ok (.istore 6, 2) := by decide +kernel
theorem dL_law_574 : decode cL_law 574 = .ok (.goto 115, 3) := by decide +kernel
theorem dL_law_577 : decode cL_law 577 = .ok (.aload_n 1, 1) := by decide +kernel
theorem dL_law_578 : decode cL_law 578 = .ok (.aload_n 0, 1) := by decide +kernel
theorem dL_law_579 : decode cL_law 579 = .ok (.iload 4, 2) := by decide +kernel
theorem dL_law_581 : decode cL_law 581 = .ok (.iconst 1, 1) := by decide +kernel
theorem dL_law_582 : decode cL_law 582 = .ok (.iadd, 1) := by decide +kernel
theorem dL_law_583 : decode cL_law 583 = .ok (.iaload, 1) := by decide +kernel
theorem dL_law_584 : decode cL_law 584 = .ok (.aload_n 0, 1) := by decide +kernel
theorem dL_law_585 : decode cL_law 585 = .ok (.iload 4, 2) := by decide +kernel
theorem dL_law_587 : decode cL_law 587 = .ok (.iconst 2, 1) := by decide +kernel
theorem dL_law_588 : decode cL_law 588 = .ok (.iadd, 1) := by decide +kernel
theorem dL_law_589 : decode cL_law 589 = .ok (.iaload, 1) := by decide +kernel
theorem dL_law_590 : decode cL_law 590 = .ok (.aload_n 3, 1) := by decide +kernel
theorem dL_law_591 : decode cL_law 591 = .ok (.invokestatic 108, 3) := by decide +kernel
theorem dL_law_594 : decode cL_law 594 = .ok (.istore 5, 2) := by decide +kernel
theorem dL_law_596 : decode cL_law 596 = .ok (.aload_n 2, 1) := by decide +kernel
theorem dL_law_597 : decode cL_law 597 = .ok (.aload_n 0, 1) := by decide +kernel
theorem dL_law_598 : decode cL_law 598 = .ok (.iload 4, 2) := by decide +kernel
theorem dL_law_600 : decode cL_law 600 = .ok (.iconst 1, 1) := by decide +kernel
theorem dL_law_601 : decode cL_law 601 = .ok (.iadd, 1) := by decide +kernel
theorem dL_law_602 : decode cL_law 602 = .ok (.iaload, 1) := by decide +kernel
theorem dL_law_603 : decode cL_law 603 = .ok (.aload_n 0, 1) := by decide +kernel
theorem dL_law_604 : decode cL_law 604 = .ok (.iload 4, 2) := by decide +kernel
theorem dL_law_606 : decode cL_law 606 = .ok (.iconst 2, 1) := by decide +kernel
theorem dL_law_607 : decode cL_law 607 = .ok (.iadd, 1) := by decide +kernel
theorem dL_law_608 : decode cL_law 608 = .ok (.iaload, 1) := by decide +kernel
theorem dL_law_609 : decode cL_law 609 = .ok (.invokevirtual 110, 3) := by decide +kernel
theorem dL_law_612 : decode cL_law 612 = .ok (.istore 6, 2) := by decide +kernel
theorem dL_law_614 : decode cL_law 614 = .ok (.goto 75, 3) := by decide +kernel
theorem dL_law_617 : decode cL_law 617 = .ok (.aload_n 1, 1) := by decide +kernel
theorem dL_law_618 : decode cL_law 618 = .ok (.aload_n 0, 1) := by decide +kernel
theorem dL_law_619 : decode cL_law 619 = .ok (.iload 4, 2) := by decide +kernel
theorem dL_law_621 : decode cL_law 621 = .ok (.iconst 1, 1) := by decide +kernel
theorem dL_law_622 : decode cL_law 622 = .ok (.iadd, 1) := by decide +kernel
theorem dL_law_623 : decode cL_law 623 = .ok (.iaload, 1) := by decide +kernel
theorem dL_law_624 : decode cL_law 624 = .ok (.aload_n 3, 1) := by decide +kernel
theorem dL_law_625 : decode cL_law 625 = .ok (.invokestatic 111, 3) := by decide +kernel
theorem dL_law_628 : decode cL_law 628 = .ok (.istore 5, 2) := by decide +kernel
theorem dL_law_630 : decode cL_law 630 = .ok (.aload_n 2, 1) := by decide +kernel
theorem dL_law_631 : decode cL_law 631 = .ok (.aload_n 0, 1) := by decide +kernel
theorem dL_law_632 : decode cL_law 632 = .ok (.iload 4, 2) := by decide +kernel
theorem dL_law_634 : decode cL_law 634 = .ok (.iconst 1, 1) := by decide +kernel
theorem dL_law_635 : decode cL_law 635 = .ok (.iadd, 1) := by decide +kernel
theorem dL_law_636 : decode cL_law 636 = .ok (.iaload, 1) := by decide +kernel
theorem dL_law_637 : decode cL_law 637 = .ok (.invokevirtual 114, 3) := by decide +kernel
theorem dL_law_640 : decode cL_law 640 = .ok (.istore 6, 2) := by decide +kernel
theorem dL_law_642 : decode cL_law 642 = .ok (.goto 47, 3) := by decide +kernel
theorem dL_law_645 : decode cL_law 645 = .ok (.aload_n 1, 1) := by decide +kernel
theorem dL_law_646 : decode cL_law 646 = .ok (.aload_n 3, 1) := by decide +kernel
theorem dL_law_647 : decode cL_law 647 = .ok (.invokestatic 115, 3) := by decide +kernel
theorem dL_law_650 : decode cL_law 650 = .ok (.istore 5, 2) := by decide +kernel
theorem dL_law_652 : decode cL_law 652 = .ok (.aload_n 2, 1) := by decide +kernel
theorem dL_law_653 : decode cL_law 653 = .ok (.invokevirtual 118, 3) := by decide +kernel
theorem dL_law_656 : decode cL_law 656 = .ok (.istore 6, 2) := by decide +kernel
theorem dL_law_658 : decode cL_law 658 = .ok (.goto 31, 3) := by decide +kernel
theorem dL_law_661 : decode cL_law 661 = .ok (.aload_n 1, 1) := by decide +kernel
theorem dL_law_662 : decode cL_law 662 = .ok (.aload_n 0, 1) := by decide +kernel
theorem dL_law_663 : decode cL_law 663 = .ok (.iload 4, 2) := by decide +kernel
theorem dL_law_665 : decode cL_law 665 = .ok (.iconst 1, 1) := by decide +kernel
theorem dL_law_666 : decode cL_law 666 = .ok (.iadd, 1) := by decide +kernel
theorem dL_law_667 : decode cL_law 667 = .ok (.iaload, 1) := by decide +kernel
theorem dL_law_668 : decode cL_law 668 = .ok (.aload_n 3, 1) := by decide +kernel
theorem dL_law_669 : decode cL_law 669 = .ok (.invokestatic 119, 3) := by decide +kernel
theorem dL_law_672 : decode cL_law 672 = .ok (.istore 5, 2) := by decide +kernel
theorem dL_law_674 : decode cL_law 674 = .ok (.aload_n 2, 1) := by decide +kernel
theorem dL_law_675 : decode cL_law 675 = .ok (.aload_n 0, 1) := by decide +kernel
theorem dL_law_676 : decode cL_law 676 = .ok (.iload 4, 2) := by decide +kernel
theorem dL_law_678 : decode cL_law 678 = .ok (.iconst 1, 1) := by decide +kernel
theorem dL_law_679 : decode cL_law 679 = .ok (.iadd, 1) := by decide +kernel
theorem dL_law_680 : decode cL_law 680 = .ok (.iaload, 1) := by decide +kernel
theorem dL_law_681 : decode cL_law 681 = .ok (.invokevirtual 121, 3) := by decide +kernel
theorem dL_law_684 : decode cL_law 684 = .ok (.istore 6, 2) := by decide +kernel
theorem dL_law_686 : decode cL_law 686 = .ok (.goto 3, 3) := by decide +kernel
theorem dL_law_689 : decode cL_law 689 = .ok (.iinc 4 4, 3) := by decide +kernel
theorem dL_law_692 : decode cL_law 692 = .ok (.goto (-669), 3) := by decide +kernel
theorem dL_law_695 : decode cL_law 695 = .ok (.iconst 1, 1) := by decide +kernel
theorem dL_law_696 : decode cL_law 696 = .ok (.ireturn, 1) := by decide +kernel
