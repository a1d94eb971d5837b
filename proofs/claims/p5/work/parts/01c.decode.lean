theorem dX0_init_0 : decode cX0_init 0 = .ok (.aload_n 0, 1) := by decide +kernel
theorem dX0_init_1 : decode cX0_init 1 = .ok (.invokespecial 3, 3) := by decide +kernel
theorem dX0_init_4 : decode cX0_init 4 = .ok (.aload_n 0, 1) := by decide +kernel
theorem dX0_init_5 : decode cX0_init 5 = .ok (.new 9, 3) := by decide +kernel
theorem dX0_init_8 : decode cX0_init 8 = .ok (.dup, 1) := by decide +kernel
theorem dX0_init_9 : decode cX0_init 9 = .ok (.bipush 20, 2) := by decide +kernel
theorem dX0_init_11 : decode cX0_init 11 = .ok (.invokespecial 11, 3) := by decide +kernel
theorem dX0_init_14 : decode cX0_init 14 = .ok (.putfield 14, 3) := by decide +kernel
theorem dX0_init_17 : decode cX0_init 17 = .ok (.aload_n 0, 1) := by decide +kernel
theorem dX0_init_18 : decode cX0_init 18 = .ok (.new 9, 3) := by decide +kernel
theorem dX0_init_21 : decode cX0_init 21 = .ok (.dup, 1) := by decide +kernel
theorem dX0_init_22 : decode cX0_init 22 = .ok (.bipush 20, 2) := by decide +kernel
theorem dX0_init_24 : decode cX0_init 24 = .ok (.invokespecial 11, 3) := by decide +kernel
theorem dX0_init_27 : decode cX0_init 27 = .ok (.putfield 20, 3) := by decide +kernel
theorem dX0_init_30 : decode cX0_init 30 = .ok (.aload_n 0, 1) := by decide +kernel
theorem dX0_init_31 : decode cX0_init 31 = .ok (.new 9, 3) := by decide +kernel
theorem dX0_init_34 : decode cX0_init 34 = .ok (.dup, 1) := by decide +kernel
theorem dX0_init_35 : decode cX0_init 35 = .ok (.bipush 40, 2) := by decide +kernel
theorem dX0_init_37 : decode cX0_init 37 = .ok (.invokespecial 11, 3) := by decide +kernel
theorem dX0_init_40 : decode cX0_init 40 = .ok (.putfield 23, 3) := by decide +kernel
theorem dX0_init_43 : decode cX0_init 43 = .ok (.aload_n 0, 1) := by decide +kernel
theorem dX0_init_44 : decode cX0_init 44 = .ok (.new 26, 3) := by decide +kernel
theorem dX0_init_47 : decode cX0_init 47 = .ok (.dup, 1) := by decide +kernel
theorem dX0_init_48 : decode cX0_init 48 = .ok (.bipush 20, 2) := by decide +kernel
theorem dX0_init_50 : decode cX0_init 50 = .ok (.invokespecial 28, 3) := by decide +kernel
theorem dX0_init_53 : decode cX0_init 53 = .ok (.putfield 29, 3) := by decide +kernel
theorem dX0_init_56 : decode cX0_init 56 = .ok (.aload_n 0, 1) := by decide +kernel
theorem dX0_init_57 : decode cX0_init 57 = .ok (.new 9, 3) := by decide +kernel
theorem dX0_init_60 : decode cX0_init 60 = .ok (.dup, 1) := by decide +kernel
theorem dX0_init_61 : decode cX0_init 61 = .ok (.iconst 5, 1) := by decide +kernel
theorem dX0_init_62 : decode cX0_init 62 = .ok (.invokespecial 11, 3) := by decide +kernel
theorem dX0_init_65 : decode cX0_init 65 = .ok (.putfield 33, 3) := by decide +kernel
theorem dX0_init_68 : decode cX0_init 68 = .ok (.aload_n 0, 1) := by decide +kernel
theorem dX0_init_69 : decode cX0_init 69 = .ok (.iconst (-1), 1) := by decide +kernel
theorem dX0_init_70 : decode cX0_init 70 = .ok (.putfield 36, 3) := by decide +kernel
theorem dX0_init_73 : decode cX0_init 73 = .ok (.aload_n 0, 1) := by decide +kernel
theorem dX0_init_74 : decode cX0_init 74 = .ok (.iconst (-1), 1) := by decide +kernel
theorem dX0_init_75 : decode cX0_init 75 = .ok (.putfield 40, 3) := by decide +kernel
theorem dX0_init_78 : decode cX0_init 78 = .ok (.aload_n 0, 1) := by decide +kernel
theorem dX0_init_79 : decode cX0_init 79 = .ok (.iconst 0, 1) := by decide +kernel
theorem dX0_init_80 : decode cX0_init 80 = .ok (.putfield 43, 3) := by decide +kernel
theorem dX0_init_83 : decode cX0_init 83 = .ok (.aload_n 0, 1) := by decide +kernel
theorem dX0_init_84 : decode cX0_init 84 = .ok (.iconst 0, 1) := by decide +kernel
theorem dX0_init_85 : decode cX0_init 85 = .ok (.putfield 46, 3) := by decide +kernel
theorem dX0_init_88 : decode cX0_init 88 = .ok (.aload_n 0, 1) := by decide +kernel
theorem dX0_init_89 : decode cX0_init 89 = .ok (.iconst 0, 1) := by decide +kernel
theorem dX0_init_90 : decode cX0_init 90 = .ok (.putfield 49, 3) := by decide +kernel
theorem dX0_init_93 : decode cX0_init 93 = .ok (.aload_n 0, 1) := by decide +kernel
theorem dX0_init_94 : decode cX0_init 94 = .ok (.iload_n 1, 1) := by decide +kernel
theorem dX0_init_95 : decode cX0_init 95 = .ok (.putfield 52, 3) := by decide +kernel
theorem dX0_init_98 : decode cX0_init 98 = .ok (.aload_n 0, 1) := by decide +kernel
theorem dX0_init_99 : decode cX0_init 99 = .ok (.iload_n 2, 1) := by decide +kernel
theorem dX0_init_100 : decode cX0_init 100 = .ok (.putfield 55, 3) := by decide +kernel
theorem dX0_init_103 : decode cX0_init 103 = .ok (.return_, 1) := by decide +kernel
theorem dX0_addSign_0 : decode cX0_addSign 0 = .ok (.aload_n 0, 1) := by decide +kernel
theorem dX0_addSign_1 : decode cX0_addSign 1 = .ok (.getfield 14, 3) := by decide +kernel
theorem dX0_addSign_4 : decode cX0_addSign 4 = .ok (.iload_n 1, 1) := by decide +kernel
theorem dX0_addSign_5 : decode cX0_addSign 5 = .ok (.invokevirtual 58, 3) := by decide +kernel
theorem dX0_addSign_8 : decode cX0_addSign 8 = .ok (.aload_n 0, 1) := by decide +kernel
theorem dX0_addSign_9 : decode cX0_addSign 9 = .ok (.getfield 20, 3) := by decide +kernel
theorem dX0_addSign_12 : decode cX0_addSign 12 = .ok (.iload_n 1, 1) := by decide +kernel
theorem dX0_addSign_13 : decode cX0_addSign 13 = .ok (.invokestatic 61, 3) := by decide +kernel
theorem dX0_addSign_16 : decode cX0_addSign 16 = .ok (.invokevirtual 58, 3) := by decide +kernel
theorem dX0_addSign_19 : decode cX0_addSign 19 = .ok (.return_, 1) := by decide +kernel
theorem dX0_beginRange_0 : decode cX0_beginRange 0 = .ok (.aload_n 0, 1) := by decide +kernel
theorem dX0_beginRange_1 : decode cX0_beginRange 1 = .ok (.getfield 36, 3) := by decide +kernel
theorem dX0_beginRange_4 : decode cX0_beginRange 4 = .ok (.ifCond .lt 5, 3) := by decide +kernel
theorem dX0_beginRange_7 : decode cX0_beginRange 7 = .ok (.iconst 0, 1) := by decide +kernel
theorem dX0_beginRange_8 : decode cX0_beginRange 8 = .ok (.ireturn, 1) := by decide +kernel
theorem dX0_beginRange_9 : decode cX0_beginRange 9 = .ok (.aload_n 0, 1) := by decide +kernel
theorem dX0_beginRange_10 : decode cX0_beginRange 10 = .ok (.aload_n 0, 1) := by decide +kernel
theorem dX0_beginRange_11 : decode cX0_beginRange 11 = .ok (.getfield 29, 3) := by decide +kernel
theorem dX0_beginRange_14 : decode cX0_beginRange 14 = .ok (.invokevirtual 65, 3) := by decide +kernel
theorem dX0_beginRange_17 : decode cX0_beginRange 17 = .ok (.putfield 36, 3) := by decide +kernel
theorem dX0_beginRange_20 : decode cX0_beginRange 20 = .ok (.aload_n 0, 1) := by decide +kernel
theorem dX0_beginRange_21 : decode cX0_beginRange 21 = .ok (.getfield 29, 3) := by decide +kernel
theorem dX0_beginRange_24 : decode cX0_beginRange 24 = .ok (.iload_n 1, 1) := by decide +kernel
theorem dX0_beginRange_25 : decode cX0_beginRange 25 = .ok (.iload_n 1, 1) := by decide +kernel
theorem dX0_beginRange_26 : decode cX0_beginRange 26 = .ok (.iconst 0, 1) := by decide +kernel
theorem dX0_beginRange_27 : decode cX0_beginRange 27 = .ok (.invokevirtual 69, 3) := by decide +kernel
theorem dX0_beginRange_30 : decode cX0_beginRange 30 = .ok (.iconst 1, 1) := by decide +kernel
theorem dX0_beginRange_31 : decode cX0_beginRange 31 = .ok (.ireturn, 1) := by decide +kernel
theorem dX0_endRange_0 : decode cX0_endRange 0 = .ok (.aload_n 0, 1) := by decide +kernel
theorem dX0_endRange_1 : decode cX0_endRange 1 = .ok (.getfield 36, 3) := by decide +kernel
theorem dX0_endRange_4 : decode cX0_endRange 4 = .ok (.ifCond .lt 18, 3) := by decide +kernel
theorem dX0_endRange_7 : decode cX0_endRange 7 = .ok (.iload_n 1, 1) := by decide +kernel
theorem dX0_endRange_8 : decode cX0_endRange 8 = .ok (.aload_n 0, 1) := by decide +kernel
theorem dX0_endRange_9 : decode cX0_endRange 9 = .ok (.getfield 29, 3) := by decide +kernel
theorem dX0_endRange_12 : decode cX0_endRange 12 = .ok (.aload_n 0, 1) := by decide +kernel
theorem dX0_endRange_13 : decode cX0_endRange 13 = .ok (.getfield 36, 3) := by decide +kernel
theorem dX0_endRange_16 : decode cX0_endRange 16 = .ok (.invokevirtual 72, 3) := by decide +kernel
theorem dX0_endRange_19 : decode cX0_endRange 19 = .ok (.if_icmp .ge 5, 3) := by decide +kernel
theorem dX0_endRange_22 : decode cX0_endRange 22 = .ok (.iconst 0, 1) := by decide +kernel
theorem dX0_endRange_23 : decode cX0_endRange 23 = .ok (.ireturn, 1) := by decide +kernel
theorem dX0_endRange_24 : decode cX0_endRange 24 = .ok (.aload_n 0, 1) := by decide +kernel
theorem dX0_endRange_25 : decode cX0_endRange 25 = .ok (.getfield 29, 3) := by decide +kernel
theorem dX0_endRange_28 : decode cX0_endRange 28 = .ok (.aload_n 0, 1) := by decide +kernel
theorem dX0_endRange_29 : decode cX0_endRange 29 = .ok (.getfield 36, 3) := by decide +kernel
theorem dX0_endRange_32 : decode cX0_endRange 32 = .ok (.iload_n 1, 1) := by decide +kernel
theorem dX0_endRange_33 : decode cX0_endRange 33 = .ok (.invokevirtual 75, 3) := by decide +kernel
theorem dX0_endRange_36 : decode cX0_endRange 36 = .ok (.aload_n 0, 1) := by decide +kernel
theorem dX0_endRange_37 : decode cX0_endRange 37 = .ok (.iconst (-1), 1) := by decide +kernel
theorem dX0_endRange_38 : decode cX0_endRange 38 = .ok (.putfield 36, 3) := by decide +kernel
theorem dX0_endRange_41 : decode cX0_endRange 41 = .ok (.iconst 1, 1) := by decide +kernel
theorem dX0_endRange_42 : decode cX0_endRange 42 = .ok (.ireturn, 1) := by decide +kernel
theorem dX0_clearCounts_0 : decode cX0_clearCounts 0 = .ok (.aload_n 0, 1) := by decide +kernel
theorem dX0_clearCounts_1 : decode cX0_clearCounts 1 = .ok (.iconst 0, 1) := by decide +kernel
theorem dX0_clearCounts_2 : decode cX0_clearCounts 2 = .ok (.putfield 43, 3) := by decide +kernel
theorem dX0_clearCounts_5 : decode cX0_clearCounts 5 = .ok (.aload_n 0, 1) := by decide +kernel
theorem dX0_clearCounts_6 : decode cX0_clearCounts 6 = .ok (.iconst 0, 1) := by decide +kernel
theorem dX0_clearCounts_7 : decode cX0_clearCounts 7 = .ok (.putfield 46, 3) := by decide +kernel
theorem dX0_clearCounts_10 : decode cX0_clearCounts 10 = .ok (.aload_n 0, 1) := by decide +kernel
theorem dX0_clearCounts_11 : decode cX0_clearCounts 11 = .ok (.iconst 0, 1) := by decide +kernel
theorem dX0_clearCounts_12 : decode cX0_clearCounts 12 = .ok (.putfield 49, 3) := by decide +kernel
theorem dX0_clearCounts_15 : decode cX0_clearCounts 15 = .ok (.return_, 1) := by decide +kernel
theorem dX0_isEmptyRow_0 : decode cX0_isEmptyRow 0 = .ok (.aload_n 0, 1) := by decide +kernel
theorem dX0_isEmptyRow_1 : decode cX0_isEmptyRow 1 = .ok (.getfield 43, 3) := by decide +kernel
theorem dX0_isEmptyRow_4 : decode cX0_isEmptyRow 4 = .ok (.ifCond .ne 21, 3) := by decide +kernel
theorem dX0_isEmptyRow_7 : decode cX0_isEmptyRow 7 = .ok (.aload_n 0, 1) := by decide +kernel
theorem dX0_isEmptyRow_8 : decode cX0_isEmptyRow 8 = .ok (.getfield 46, 3) := by decide +kernel
theorem dX0_isEmptyRow_11 : decode cX0_isEmptyRow 11 = .ok (.ifCond .ne 14, 3) := by decide +kernel
theorem dX0_isEmptyRow_14 : decode cX0_isEmptyRow 14 = .ok (.aload_n 0, 1) := by decide +kernel
theorem dX0_isEmptyRow_15 : decode cX0_isEmptyRow 15 = .ok (.getfield 49, 3) := by decide +kernel
theorem dX0_isEmptyRow_18 : decode cX0_isEmptyRow 18 = .ok (.ifCond .ne 7, 3) := by decide +kernel
theorem dX0_isEmptyRow_21 : decode cX0_isEmptyRow 21 = .ok (.iconst 1, 1) := by decide +kernel
theorem dX0_isEmptyRow_22 : decode cX0_isEmptyRow 22 = .ok (.goto 4, 3) := by decide +kernel
theorem dX0_isEmptyRow_25 : decode cX0_isEmptyRow 25 = .ok (.iconst 0, 1) := by decide +kernel
theorem dX0_isEmptyRow_26 : decode cX0_isEmptyRow 26 = .ok (.ireturn, 1) := by decide +kernel
theorem dX0_makeKey_0 : decode cX0_makeKey 0 = .ok (.aload_n 0, 1) := by decide +kernel
theorem dX0_makeKey_1 : decode cX0_makeKey 1 = .ok (.getfield 23, 3) := by decide +kernel
theorem dX0_makeKey_4 : decode cX0_makeKey 4 = .ok (.invokevirtual 79, 3) := by decide +kernel
theorem dX0_makeKey_7 : decode cX0_makeKey 7 = .ok (.iconst 0, 1) := by decide +kernel
theorem dX0_makeKey_8 : decode cX0_makeKey 8 = .ok (.istore_n 3, 1) := by decide +kernel
theorem dX0_makeKey_9 : decode cX0_makeKey 9 = .ok (.iconst 0, 1) := by decide +kernel
theorem dX0_makeKey_10 : decode cX0_makeKey 10 = .ok (.istore 4, 2) := by decide +kernel
theorem dX0_makeKey_12 : decode cX0_makeKey 12 = .ok (.iload 4, 2) := by decide +kernel
theorem dX0_makeKey_14 : decode cX0_makeKey 14 = .ok (.aload_n 0, 1) := by decide +kernel
theorem dX0_makeKey_15 : decode cX0_makeKey 15 = .ok (.getfield 14, 3) := by decide +kernel
theorem dX0_makeKey_18 : decode cX0_makeKey 18 = .ok (.invokevirtual 82, 3) := by decide +kernel
theorem dX0_makeKey_21 : decode cX0_makeKey 21 = .ok (.if_icmp .ge 146, 3) := by decide +kernel
theorem dX0_makeKey_24 : decode cX0_makeKey 24 = .ok (.aload_n 0, 1) := by decide +kernel
theorem dX0_makeKey_25 : decode cX0_makeKey 25 = .ok (.getfield 14, 3) := by decide +kernel
theorem dX0_makeKey_28 : decode cX0_makeKey 28 = .ok (.iload 4, 2) := by decide +kernel
theorem dX0_makeKey_30 : decode cX0_makeKey 30 = .ok (.invokevirtual 83, 3) := by decide +kernel
theorem dX0_makeKey_33 : decode cX0_makeKey 33 = .ok (.istore 5, 2) := by decide +kernel
theorem dX0_makeKey_35 : decode cX0_makeKey 35 = .ok (.iload 5, 2) := by decide +kernel
theorem dX0_makeKey_37 : decode cX0_makeKey 37 = .ok (.invokestatic 86, 3) := by decide +kernel
theorem dX0_makeKey_40 : decode cX0_makeKey 40 = .ok (.ifCond .ne 34, 3) := by decide +kernel
theorem dX0_makeKey_43 : decode cX0_makeKey 43 = .ok (.iload 5, 2) := by decide +kernel
theorem dX0_makeKey_45 : decode cX0_makeKey 45 = .ok (.invokestatic 90, 3) := by decide +kernel
theorem dX0_makeKey_48 : decode cX0_makeKey 48 = .ok (.ifCond .ne 26, 3) := by decide +kernel
theorem dX0_makeKey_51 : decode cX0_makeKey 51 = .ok (.iload_n 2, 1) := by decide +kernel
theorem dX0_makeKey_52 : decode cX0_makeKey 52 = .ok (.ifCond .eq 17, 3) := by decide +kernel
theorem dX0_makeKey_55 : decode cX0_makeKey 55 = .ok (.aload_n 0, 1) := by decide +kernel
theorem dX0_makeKey_56 : decode cX0_makeKey 56 = .ok (.getfield 23, 3) := by decide +kernel
theorem dX0_makeKey_59 : decode cX0_makeKey 59 = .ok (.invokevirtual 82, 3) := by decide +kernel
theorem dX0_makeKey_62 : decode cX0_makeKey 62 = .ok (.ifCond .le 7, 3) := by decide +kernel
theorem dX0_makeKey_65 : decode cX0_makeKey 65 = .ok (.iconst 1, 1) := by decide +kernel
theorem dX0_makeKey_66 : decode cX0_makeKey 66 = .ok (.goto 4, 3) := by decide +kernel
theorem dX0_makeKey_69 : decode cX0_makeKey 69 = .ok (.iconst 0, 1) := by decide +kernel
theorem dX0_makeKey_70 : decode cX0_makeKey 70 = .ok (.istore_n 3, 1) := by decide +kernel
theorem dX0_makeKey_71 : decode cX0_makeKey 71 = .ok (.goto 90, 3) := by decide +kernel
theorem dX0_makeKey_74 : decode cX0_makeKey 74 = .ok (.iload_n 3, 1) := by decide +kernel
theorem dX0_makeKey_75 : decode cX0_makeKey 75 = .ok (.ifCond .eq 13, 3) := by decide +kernel
theorem dX0_makeKey_78 : decode cX0_makeKey 78 = .ok (.aload_n 0, 1) := by decide +kernel
theorem dX0_makeKey_79 : decode cX0_makeKey 79 = .ok (.getfield 23, 3) := by decide +kernel
theorem dX0_makeKey_82 : decode cX0_makeKey 82 = .ok (.iconst 1, 1) := by decide +kernel
theorem dX0_makeKey_83 : decode cX0_makeKey 83 = .ok (.invokevirtual 58, 3) := by decide +kernel
theorem dX0_makeKey_86 : decode cX0_makeKey 86 = .ok (.iconst 0, 1) := by decide +kernel
theorem dX0_makeKey_87 : decode cX0_makeKey 87 = .ok (.istore_n 3, 1) := by decide +kernel
theorem dX0_makeKey_88 : decode cX0_makeKey 88 = .ok (.iload 5, 2) := by decide +kernel
theorem dX0_makeKey_90 : decode cX0_makeKey 90 = .ok (.invokestatic 86, 3) := by decide +kernel
theorem dX0_makeKey_93 : decode cX0_makeKey 93 = .ok (.ifCond .eq 22, 3) := by decide +kernel
theorem dX0_makeKey_96 : decode cX0_makeKey 96 = .ok (.aload_n 0, 1) := by decide +kernel
theorem dX0_makeKey_97 : decode cX0_makeKey 97 = .ok (.getfield 23, 3) := by decide +kernel
theorem dX0_makeKey_100 : decode cX0_makeKey 100 = .ok (.iload 5, 2) := by decide +kernel
theorem dX0_makeKey_102 : decode cX0_makeKey 102 = .ok (.sipush 128, 3) := by decide +kernel
theorem dX0_makeKey_105 : decode cX0_makeKey 105 = .ok (.irem, 1) := by decide +kernel
theorem dX0_makeKey_106 : decode cX0_makeKey 106 = .ok (.invokestatic 93, 3) := by decide +kernel
theorem dX0_makeKey_109 : decode cX0_makeKey 109 = .ok (.invokevirtual 58, 3) := by decide +kernel
theorem dX0_makeKey_112 : decode cX0_makeKey 112 = .ok (.goto 49, 3) := by decide +kernel
theorem dX0_makeKey_115 : decode cX0_makeKey 115 = .ok (.iload_n 1, 1) := by decide +kernel
theorem dX0_makeKey_116 : decode cX0_makeKey 116 = .ok (.ifCond .ne 16, 3) := by decide +kernel
theorem dX0_makeKey_119 : decode cX0_makeKey 119 = .ok (.aload_n 0, 1) := by decide +kernel
theorem dX0_makeKey_120 : decode cX0_makeKey 120 = .ok (.iload 4, 2) := by decide +kernel
theorem dX0_makeKey_122 : decode cX0_makeKey 122 = .ok (.iload 4, 2) := by decide +kernel
theorem dX0_makeKey_124 : decode cX0_makeKey 124 = .ok (.iconst 1, 1) := by decide +kernel
theorem dX0_makeKey_125 : decode cX0_makeKey 125 = .ok (.iadd, 1) := by decide +kernel
theorem dX0_makeKey_126 : decode cX0_makeKey 126 = .ok (.invokevirtual 96, 3) := by decide +kernel
theorem dX0_makeKey_129 : decode cX0_makeKey 129 = .ok (.goto 32, 3) := by decide +kernel
theorem dX0_makeKey_132 : decode cX0_makeKey 132 = .ok (.aload_n 0, 1) := by decide +kernel
theorem dX0_makeKey_133 : decode cX0_makeKey 133 = .ok (.getfield 14, 3) := by decide +kernel
theorem dX0_makeKey_136 : decode cX0_makeKey 136 = .ok (.iload 4, 2) := by decide +kernel
theorem dX0_makeKey_138 : decode cX0_makeKey 138 = .ok (.iconst 1, 1) := by decide +kernel
theorem dX0_makeKey_139 : decode cX0_makeKey 139 = .ok (.isub, 1) := by decide +kernel
theorem dX0_makeKey_140 : decode cX0_makeKey 140 = .ok (.invokevirtual 83, 3) := by decide +kernel
theorem dX0_makeKey_143 : decode cX0_makeKey 143 = .ok (.invokestatic 90, 3) := by decide +kernel
theorem dX0_makeKey_146 : decode cX0_makeKey 146 = .ok (.ifCond .ne 15, 3) := by decide +kernel
theorem dX0_makeKey_149 : decode cX0_makeKey 149 = .ok (.aload_n 0, 1) := by decide +kernel
theorem dX0_makeKey_150 : decode cX0_makeKey 150 = .ok (.iload 4, 2) := by decide +kernel
theorem dX0_makeKey_152 : decode cX0_makeKey 152 = .ok (.aload_n 0, 1) := by decide +kernel
theorem dX0_makeKey_153 : decode cX0_makeKey 153 = .ok (.iload 4, 2) := by decide +kernel
theorem dX0_makeKey_155 : decode cX0_makeKey 155 = .ok (.invokevirtual 99, 3) := by decide +kernel
theorem dX0_makeKey_158 : decode cX0_makeKey 158 = .ok (.invokevirtual 96, 3) := by decide +kernel
theorem dX0_makeKey_161 : decode cX0_makeKey 161 = .ok (.iinc 4 1, 3) := by decide +kernel
theorem dX0_makeKey_164 : decode cX0_makeKey 164 = .ok (.goto (-152), 3) := by decide +kernel
theorem dX0_makeKey_167 : decode cX0_makeKey 167 = .ok (.return_, 1) := by decide +kernel
theorem dX0_addNumber_0 : decode cX0_addNumber 0 = .ok (.iload_n 1, 1) := by decide +kernel
theorem dX0_addNumber_1 : decode cX0_addNumber 1 = .ok (.istore_n 3, 1) := by decide +kernel
theorem dX0_addNumber_2 : decode cX0_addNumber 2 = .ok (.iload_n 3, 1) := by decide +kernel
theorem dX0_addNumber_3 : decode cX0_addNumber 3 = .ok (.iload_n 2, 1) := by decide +kernel
theorem dX0_addNumber_4 : decode cX0_addNumber 4 = .ok (.if_icmp .ge 22, 3) := by decide +kernel
theorem dX0_addNumber_7 : decode cX0_addNumber 7 = .ok (.aload_n 0, 1) := by decide +kernel
theorem dX0_addNumber_8 : decode cX0_addNumber 8 = .ok (.getfield 14, 3) := by decide +kernel
theorem dX0_addNumber_11 : decode cX0_addNumber 11 = .ok (.iload_n 3, 1) := by decide +kernel
theorem dX0_addNumber_12 : decode cX0_addNumber 12 = .ok (.invokevirtual 83, 3) := by decide +kernel
theorem dX0_addNumber_15 : decode cX0_addNumber 15 = .ok (.bipush 48, 2) := by decide +kernel
theorem dX0_addNumber_17 : decode cX0_addNumber 17 = .ok (.if_icmp .ne 9, 3) := by decide +kernel
theorem dX0_addNumber_20 : decode cX0_addNumber 20 = .ok (.iinc 3 1, 3) := by decide +kernel
theorem dX0_addNumber_23 : decode cX0_addNumber 23 = .ok (.goto (-21), 3) := by decide +kernel
theorem dX0_addNumber_26 : decode cX0_addNumber 26 = .ok (.aload_n 0, 1) := by decide +kernel
theorem dX0_addNumber_27 : decode cX0_addNumber 27 = .ok (.getfield 23, 3) := by decide +kernel
theorem dX0_addNumber_30 : decode cX0_addNumber 30 = .ok (.iconst 2, 1) := by decide +kernel
theorem dX0_addNumber_31 : decode cX0_addNumber 31 = .ok (.iload_n 2, 1) := by decide +kernel
theorem dX0_addNumber_32 : decode cX0_addNumber 32 = .ok (.iadd, 1) := by decide +kernel
theorem dX0_addNumber_33 : decode cX0_addNumber 33 = .ok (.iload_n 3, 1) := by decide +kernel
theorem dX0_addNumber_34 : decode cX0_addNumber 34 = .ok (.isub, 1) := by decide +kernel
theorem dX0_addNumber_35 : decode cX0_addNumber 35 = .ok (.invokevirtual 58, 3) := by decide +kernel
theorem dX0_addNumber_38 : decode cX0_addNumber 38 = .ok (.iload_n 3, 1) := by decide +kernel
theorem dX0_addNumber_39 : decode cX0_addNumber 39 = .ok (.istore 4, 2) := by decide +kernel
theorem dX0_addNumber_41 : decode cX0_addNumber 41 = .ok (.iload 4, 2) := by decide +kernel
theorem dX0_addNumber_43 : decode cX0_addNumber 43 = .ok (.iload_n 2, 1) := by decide +kernel
theorem dX0_addNumber_44 : decode cX0_addNumber 44 = .ok (.if_icmp .ge 25, 3) := by decide +kernel
theorem dX0_addNumber_47 : decode cX0_addNumber 47 = .ok (.aload_n 0, 1) := by decide +kernel
theorem dX0_addNumber_48 : decode cX0_addNumber 48 = .ok (.getfield 23, 3) := by decide +kernel
theorem dX0_addNumber_51 : decode cX0_addNumber 51 = .ok (.aload_n 0, 1) := by decide +kernel
theorem dX0_addNumber_52 : decode cX0_addNumber 52 = .ok (.getfield 14, 3) := by decide +kernel
theorem dX0_addNumber_55 : decode cX0_addNumber 55 = .ok (.iload 4, 2) := by decide +kernel
theorem dX0_addNumber_57 : decode cX0_addNumber 57 = .ok (.invokevirtual 83, 3) := by decide +kernel
theorem dX0_addNumber_60 : decode cX0_addNumber 60 = .ok (.invokevirtual 58, 3) := by decide +kernel
theorem dX0_addNumber_63 : decode cX0_addNumber 63 = .ok (.iinc 4 1, 3) := by decide +kernel
theorem dX0_addNumber_66 : decode cX0_addNumber 66 = .ok (.goto (-25), 3) := by decide +kernel
theorem dX0_addNumber_69 : decode cX0_addNumber 69 = .ok (.return_, 1) := by decide +kernel
theorem dX0_digitsEnd_0 : decode cX0_digitsEnd 0 = .ok (.iload_n 1, 1) := by decide +kernel
theorem dX0_digitsEnd_1 : decode cX0_digitsEnd 1 = .ok (.istore_n 2, 1) := by decide +kernel
theorem dX0_digitsEnd_2 : decode cX0_digitsEnd 2 = .ok (.iload_n 2, 1) := by decide +kernel
theorem dX0_digitsEnd_3 : decode cX0_digitsEnd 3 = .ok (.aload_n 0, 1) := by decide +kernel
theorem dX0_digitsEnd_4 : decode cX0_digitsEnd 4 = .ok (.getfield 14, 3) := by decide +kernel
theorem dX0_digitsEnd_7 : decode cX0_digitsEnd 7 = .ok (.invokevirtual 82, 3) := by decide +kernel
theorem dX0_digitsEnd_10 : decode cX0_digitsEnd 10 = .ok (.if_icmp .ge 23, 3) := by decide +kernel
theorem dX0_digitsEnd_13 : decode cX0_digitsEnd 13 = .ok (.aload_n 0, 1) := by decide +kernel
theorem dX0_digitsEnd_14 : decode cX0_digitsEnd 14 = .ok (.getfield 14, 3) := by decide +kernel
theorem dX0_digitsEnd_17 : decode cX0_digitsEnd 17 = .ok (.iload_n 2, 1) := by decide +kernel
theorem dX0_digitsEnd_18 : decode cX0_digitsEnd 18 = .ok (.invokevirtual 83, 3) := by decide +kernel
theorem dX0_digitsEnd_21 : decode cX0_digitsEnd 21 = .ok (.invokestatic 90, 3) := by decide +kernel
theorem dX0_digitsEnd_24 : decode cX0_digitsEnd 24 = .ok (.ifCond .eq 9, 3) := by decide +kernel
theorem dX0_digitsEnd_27 : decode cX0_digitsEnd 27 = .ok (.iinc 2 1, 3) := by decide +kernel
theorem dX0_digitsEnd_30 : decode cX0_digitsEnd 30 = .ok (.goto (-28), 3) := by decide +kernel
theorem dX0_digitsEnd_33 : decode cX0_digitsEnd 33 = .ok (.iload_n 2, 1) := by decide +kernel
theorem dX0_digitsEnd_34 : decode cX0_digitsEnd 34 = .ok (.ireturn, 1) := by decide +kernel
theorem dX0_group_0 : decode cX0_group 0 = .ok (.aload_n 0, 1) := by decide +kernel
theorem dX0_group_1 : decode cX0_group 1 = .ok (.getfield 23, 3) := by decide +kernel
theorem dX0_group_4 : decode cX0_group 4 = .ok (.invokevirtual 82, 3) := by decide +kernel
theorem dX0_group_7 : decode cX0_group 7 = .ok (.ifCond .ne 5, 3) := by decide +kernel
theorem dX0_group_10 : decode cX0_group 10 = .ok (.iconst 0, 1) := by decide +kernel
theorem dX0_group_11 : decode cX0_group 11 = .ok (.ireturn, 1) := by decide +kernel
theorem dX0_group_12 : decode cX0_group 12 = .ok (.aload_n 0, 1) := by decide +kernel
theorem dX0_group_13 : decode cX0_group 13 = .ok (.getfield 23, 3) := by decide +kernel
theorem dX0_group_16 : decode cX0_group 16 = .ok (.iconst 0, 1) := by decide +kernel
theorem dX0_group_17 : decode cX0_group 17 = .ok (.invokevirtual 83, 3) := by decide +kernel
theorem dX0_group_20 : decode cX0_group 20 = .ok (.bipush 97, 2) := by decide +kernel
theorem dX0_group_22 : decode cX0_group 22 = .ok (.if_icmp .ge 7, 3) := by decide +kernel
theorem dX0_group_25 : decode cX0_group 25 = .ok (.iconst 1, 1) := by decide +kernel
theorem dX0_group_26 : decode cX0_group 26 = .ok (.goto 11, 3) := by decide +kernel
theorem dX0_group_29 : decode cX0_group 29 = .ok (.aload_n 0, 1) := by decide +kernel
theorem dX0_group_30 : decode cX0_group 30 = .ok (.getfield 23, 3) := by decide +kernel
theorem dX0_group_33 : decode cX0_group 33 = .ok (.iconst 0, 1) := by decide +kernel
theorem dX0_group_34 : decode cX0_group 34 = .ok (.invokevirtual 83, 3) := by decide +kernel
theorem dX0_group_37 : decode cX0_group 37 = .ok (.ireturn, 1) := by decide +kernel
theorem dX0_orderTo_0 : decode cX0_orderTo 0 = .ok (.aload_n 0, 1) := by decide +kernel
theorem dX0_orderTo_1 : decode cX0_orderTo 1 = .ok (.getfield 23, 3) := by decide +kernel
theorem dX0_orderTo_4 : decode cX0_orderTo 4 = .ok (.aload_n 1, 1) := by decide +kernel
theorem dX0_orderTo_5 : decode cX0_orderTo 5 = .ok (.getfield 23, 3) := by decide +kernel
theorem dX0_orderTo_8 : decode cX0_orderTo 8 = .ok (.invokevirtual 102, 3) := by decide +kernel
theorem dX0_orderTo_11 : decode cX0_orderTo 11 = .ok (.istore_n 2, 1) := by decide +kernel
theorem dX0_orderTo_12 : decode cX0_orderTo 12 = .ok (.iload_n 2, 1) := by decide +kernel
theorem dX0_orderTo_13 : decode cX0_orderTo 13 = .ok (.ifCond .eq 7, 3) := by decide +kernel
theorem dX0_orderTo_16 : decode cX0_orderTo 16 = .ok (.iload_n 2, 1) := by decide +kernel
theorem dX0_orderTo_17 : decode cX0_orderTo 17 = .ok (.goto 14, 3) := by decide +kernel
theorem dX0_orderTo_20 : decode cX0_orderTo 20 = .ok (.aload_n 0, 1) := by decide +kernel
theorem dX0_orderTo_21 : decode cX0_orderTo 21 = .ok (.getfield 20, 3) := by decide +kernel
theorem dX0_orderTo_24 : decode cX0_orderTo 24 = .ok (.aload_n 1, 1) := by decide +kernel
theorem dX0_orderTo_25 : decode cX0_orderTo 25 = .ok (.getfield 20, 3) := by decide +kernel
theorem dX0_orderTo_28 : decode cX0_orderTo 28 = .ok (.invokevirtual 102, 3) := by decide +kernel
theorem dX0_orderTo_31 : decode cX0_orderTo 31 = .ok (.ireturn, 1) := by decide +kernel
theorem dX0_rankOf_0 : decode cX0_rankOf 0 = .ok (.iload_n 0, 1) := by decide +kernel
theorem dX0_rankOf_1 : decode cX0_rankOf 1 = .ok (.sipush 128, 3) := by decide +kernel
theorem dX0_rankOf_4 : decode cX0_rankOf 4 = .ok (.irem, 1) := by decide +kernel
theorem dX0_rankOf_5 : decode cX0_rankOf 5 = .ok (.istore_n 1, 1) := by decide +kernel
theorem dX0_rankOf_6 : decode cX0_rankOf 6 = .ok (.iload_n 1, 1) := by decide +kernel
theorem dX0_rankOf_7 : decode cX0_rankOf 7 = .ok (.invokestatic 93, 3) := by decide +kernel
theorem dX0_rankOf_10 : decode cX0_rankOf 10 = .ok (.istore_n 2, 1) := by decide +kernel
theorem dX0_rankOf_11 : decode cX0_rankOf 11 = .ok (.iconst 4, 1) := by decide +kernel
theorem dX0_rankOf_12 : decode cX0_rankOf 12 = .ok (.iload_n 2, 1) := by decide +kernel
theorem dX0_rankOf_13 : decode cX0_rankOf 13 = .ok (.imul, 1) := by decide +kernel
theorem dX0_rankOf_14 : decode cX0_rankOf 14 = .ok (.iload_n 2, 1) := by decide +kernel
theorem dX0_rankOf_15 : decode cX0_rankOf 15 = .ok (.iload_n 1, 1) := by decide +kernel
theorem dX0_rankOf_16 : decode cX0_rankOf 16 = .ok (.if_icmp .eq 7, 3) := by decide +kernel
theorem dX0_rankOf_19 : decode cX0_rankOf 19 = .ok (.iconst 2, 1) := by decide +kernel
theorem dX0_rankOf_20 : decode cX0_rankOf 20 = .ok (.goto 4, 3) := by decide +kernel
theorem dX0_rankOf_23 : decode cX0_rankOf 23 = .ok (.iconst 0, 1) := by decide +kernel
theorem dX0_rankOf_24 : decode cX0_rankOf 24 = .ok (.iadd, 1) := by decide +kernel
theorem dX0_rankOf_25 : decode cX0_rankOf 25 = .ok (.iload_n 0, 1) := by decide +kernel
theorem dX0_rankOf_26 : decode cX0_rankOf 26 = .ok (.iload_n 1, 1) := by decide +kernel
theorem dX0_rankOf_27 : decode cX0_rankOf 27 = .ok (.if_icmp .eq 7, 3) := by decide +kernel
theorem dX0_rankOf_30 : decode cX0_rankOf 30 = .ok (.iconst 1, 1) := by decide +kernel
theorem dX0_rankOf_31 : decode cX0_rankOf 31 = .ok (.goto 4, 3) := by decide +kernel
theorem dX0_rankOf_34 : decode cX0_rankOf 34 = .ok (.iconst 0, 1) := by decide +kernel
theorem dX0_rankOf_35 : decode cX0_rankOf 35 = .ok (.iadd, 1) := by decide +kernel
theorem dX0_rankOf_36 : decode cX0_rankOf 36 = .ok (.ireturn, 1) := by decide +kernel
theorem dX0_smallOf_0 : decode cX0_smallOf 0 = .ok (.iload_n 0, 1) := by decide +kernel
theorem dX0_smallOf_1 : decode cX0_smallOf 1 = .ok (.bipush 65, 2) := by decide +kernel
theorem dX0_smallOf_3 : decode cX0_smallOf 3 = .ok (.if_icmp .lt 19, 3) := by decide +kernel
theorem dX0_smallOf_6 : decode cX0_smallOf 6 = .ok (.iload_n 0, 1) := by decide +kernel
theorem dX0_smallOf_7 : decode cX0_smallOf 7 = .ok (.bipush 90, 2) := by decide +kernel
theorem dX0_smallOf_9 : decode cX0_smallOf 9 = .ok (.if_icmp .gt 13, 3) := by decide +kernel
theorem dX0_smallOf_12 : decode cX0_smallOf 12 = .ok (.iload_n 0, 1) := by decide +kernel
theorem dX0_smallOf_13 : decode cX0_smallOf 13 = .ok (.bipush 65, 2) := by decide +kernel
theorem dX0_smallOf_15 : decode cX0_smallOf 15 = .ok (.isub, 1) := by decide +kernel
theorem dX0_smallOf_16 : decode cX0_smallOf 16 = .ok (.bipush 97, 2) := by decide +kernel
theorem dX0_smallOf_18 : decode cX0_smallOf 18 = .ok (.iadd, 1) := by decide +kernel
theorem dX0_smallOf_19 : decode cX0_smallOf 19 = .ok (.goto 4, 3) := by decide +kernel
theorem dX0_smallOf_22 : decode cX0_smallOf 22 = .ok (.iload_n 0, 1) := by decide +kernel
theorem dX0_smallOf_23 : decode cX0_smallOf 23 = .ok (.ireturn, 1) := by decide +kernel
theorem dX0_isLetter_0 : decode cX0_isLetter 0 = .ok (.iload_n 0, 1) := by decide +kernel
theorem dX0_isLetter_1 : decode cX0_isLetter 1 = .ok (.sipush 128, 3) := by decide +kernel
theorem dX0_isLetter_4 : decode cX0_isLetter 4 = .ok (.irem, 1) := by decide +kernel
theorem dX0_isLetter_5 : decode cX0_isLetter 5 = .ok (.invokestatic 93, 3) := by decide +kernel
theorem dX0_isLetter_8 : decode cX0_isLetter 8 = .ok (.istore_n 1, 1) := by decide +kernel
theorem dX0_isLetter_9 : decode cX0_isLetter 9 = .ok (.iload_n 1, 1) := by decide +kernel
theorem dX0_isLetter_10 : decode cX0_isLetter 10 = .ok (.bipush 97, 2) := by decide +kernel
theorem dX0_isLetter_12 : decode cX0_isLetter 12 = .ok (.if_icmp .lt 13, 3) := by decide +kernel
theorem dX0_isLetter_15 : decode cX0_isLetter 15 = .ok (.iload_n 1, 1) := by decide +kernel
theorem dX0_isLetter_16 : decode cX0_isLetter 16 = .ok (.bipush 122, 2) := by decide +kernel
theorem dX0_isLetter_18 : decode cX0_isLetter 18 = .ok (.if_icmp .gt 7, 3) := by decide +kernel
theorem dX0_isLetter_21 : decode cX0_isLetter 21 = .ok (.iconst 1, 1) := by decide +kernel
theorem dX0_isLetter_22 : decode cX0_isLetter 22 = .ok (.goto 4, 3) := by decide +kernel
theorem dX0_isLetter_25 : decode cX0_isLetter 25 = .ok (.iconst 0, 1) := by decide +kernel
theorem dX0_isLetter_26 : decode cX0_isLetter 26 = .ok (.ireturn, 1) := by decide +kernel
theorem dX0_isDigit_0 : decode cX0_isDigit 0 = .ok (.iload_n 0, 1) := by decide +kernel
theorem dX0_isDigit_1 : decode cX0_isDigit 1 = .ok (.bipush 48, 2) := by decide +kernel
theorem dX0_isDigit_3 : decode cX0_isDigit 3 = .ok (.if_icmp .lt 13, 3) := by decide +kernel
theorem dX0_isDigit_6 : decode cX0_isDigit 6 = .ok (.iload_n 0, 1) := by decide +kernel
theorem dX0_isDigit_7 : decode cX0_isDigit 7 = .ok (.bipush 57, 2) := by decide +kernel
theorem dX0_isDigit_9 : decode cX0_isDigit 9 = .ok (.if_icmp .gt 7, 3) := by decide +kernel
theorem dX0_isDigit_12 : decode cX0_isDigit 12 = .ok (.iconst 1, 1) := by decide +kernel
theorem dX0_isDigit_13 : decode cX0_isDigit 13 = .ok (.goto 4, 3) := by decide +kernel
theorem dX0_isDigit_16 : decode cX0_isDigit 16 = .ok (.iconst 0, 1) := by decide +kernel
theorem dX0_isDigit_17 : decode cX0_isDigit 17 = .ok (.ireturn, 1) := by decide +kernel
theorem dX1_init_0 : decode cX1_init 0 = .ok (.aload_n 0, 1) := by decide +kernel
theorem dX1_init_1 : decode cX1_init 1 = .ok (.invokespecial 1, 3) := by decide +kernel
theorem dX1_init_4 : decode cX1_init 4 = .ok (.aload_n 0, 1) := by decide +kernel
theorem dX1_init_5 : decode cX1_init 5 = .ok (.iconst 0, 1) := by decide +kernel
theorem dX1_init_6 : decode cX1_init 6 = .ok (.newarray .int, 2) := by decide +kernel
theorem dX1_init_8 : decode cX1_init 8 = .ok (.putfield 7, 3) := by decide +kernel
theorem dX1_init_11 : decode cX1_init 11 = .ok (.aload_n 0, 1) := by decide +kernel
theorem dX1_init_12 : decode cX1_init 12 = .ok (.iconst 0, 1) := by decide +kernel
theorem dX1_init_13 : decode cX1_init 13 = .ok (.putfield 13, 3) := by decide +kernel
theorem dX1_init_16 : decode cX1_init 16 = .ok (.aload_n 0, 1) := by decide +kernel
theorem dX1_init_17 : decode cX1_init 17 = .ok (.iload_n 1, 1) := by decide +kernel
theorem dX1_init_18 : decode cX1_init 18 = .ok (.putfield 17, 3) := by decide +kernel
theorem dX1_init_21 : decode cX1_init 21 = .ok (.return_, 1) := by decide +kernel
theorem dX1_size_0 : decode cX1_size 0 = .ok (.aload_n 0, 1) := by decide +kernel
theorem dX1_size_1 : decode cX1_size 1 = .ok (.getfield 13, 3) := by decide +kernel
theorem dX1_size_4 : decode cX1_size 4 = .ok (.ireturn, 1) := by decide +kernel
theorem dX1_isFull_0 : decode cX1_isFull 0 = .ok (.aload_n 0, 1) := by decide +kernel
theorem dX1_isFull_1 : decode cX1_isFull 1 = .ok (.getfield 13, 3) := by decide +kernel
theorem dX1_isFull_4 : decode cX1_isFull 4 = .ok (.aload_n 0, 1) := by decide +kernel
theorem dX1_isFull_5 : decode cX1_isFull 5 = .ok (.getfield 17, 3) := by decide +kernel
theorem dX1_isFull_8 : decode cX1_isFull 8 = .ok (.if_icmp .lt 7, 3) := by decide +kernel
theorem dX1_isFull_11 : decode cX1_isFull 11 = .ok (.iconst 1, 1) := by decide +kernel
theorem dX1_isFull_12 : decode cX1_isFull 12 = .ok (.goto 4, 3) := by decide +kernel
theorem dX1_isFull_15 : decode cX1_isFull 15 = .ok (.iconst 0, 1) := by decide +kernel
theorem dX1_isFull_16 : decode cX1_isFull 16 = .ok (.ireturn, 1) := by decide +kernel
theorem dX1_clear_0 : decode cX1_clear 0 = .ok (.aload_n 0, 1) := by decide +kernel
theorem dX1_clear_1 : decode cX1_clear 1 = .ok (.iconst 0, 1) := by decide +kernel
theorem dX1_clear_2 : decode cX1_clear 2 = .ok (.putfield 13, 3) := by decide +kernel
theorem dX1_clear_5 : decode cX1_clear 5 = .ok (.return_, 1) := by decide +kernel
theorem dX1_get_0 : decode cX1_get 0 = .ok (.iload_n 1, 1) := by decide +kernel
theorem dX1_get_1 : decode cX1_get 1 = .ok (.ifCond .lt 29, 3) := by decide +kernel
theorem dX1_get_4 : decode cX1_get 4 = .ok (.iload_n 1, 1) := by decide +kernel
theorem dX1_get_5 : decode cX1_get 5 = .ok (.aload_n 0, 1) := by decide +kernel
theorem dX1_get_6 : decode cX1_get 6 = .ok (.getfield 13, 3) := by decide +kernel
theorem dX1_get_9 : decode cX1_get 9 = .ok (.if_icmp .ge 21, 3) := by decide +kernel
theorem dX1_get_12 : decode cX1_get 12 = .ok (.iload_n 1, 1) := by decide +kernel
theorem dX1_get_13 : decode cX1_get 13 = .ok (.aload_n 0, 1) := by decide +kernel
theorem dX1_get_14 : decode cX1_get 14 = .ok (.getfield 7, 3) := by decide +kernel
theorem dX1_get_17 : decode cX1_get 17 = .ok (.arraylength, 1) := by decide +kernel
theorem dX1_get_18 : decode cX1_get 18 = .ok (.if_icmp .ge 12, 3) := by decide +kernel
theorem dX1_get_21 : decode cX1_get 21 = .ok (.aload_n 0, 1) := by decide +kernel
theorem dX1_get_22 : decode cX1_get 22 = .ok (.getfield 7, 3) := by decide +kernel
theorem dX1_get_25 : decode cX1_get 25 = .ok (.iload_n 1, 1) := by decide +kernel
theorem dX1_get_26 : decode cX1_get 26 = .ok (.iaload, 1) := by decide +kernel
theorem dX1_get_27 : decode cX1_get 27 = .ok (.goto 4, 3) := by decide +kernel
theorem dX1_get_30 : decode cX1_get 30 = .ok (.iconst 0, 1) := by decide +kernel
theorem dX1_get_31 : decode cX1_get 31 = .ok (.ireturn, 1) := by decide +kernel
theorem dX1_set_0 : decode cX1_set 0 = .ok (.iload_n 1, 1) := by decide +kernel
theorem dX1_set_1 : decode cX1_set 1 = .ok (.ifCond .lt 27, 3) := by decide +kernel
theorem dX1_set_4 : decode cX1_set 4 = .ok (.iload_n 1, 1) := by decide +kernel
theorem dX1_set_5 : decode cX1_set 5 = .ok (.aload_n 0, 1) := by decide +kernel
theorem dX1_set_6 : decode cX1_set 6 = .ok (.getfield 13, 3) := by decide +kernel
theorem dX1_set_9 : decode cX1_set 9 = .ok (.if_icmp .ge 19, 3) := by decide +kernel
theorem dX1_set_12 : decode cX1_set 12 = .ok (.iload_n 1, 1) := by decide +kernel
theorem dX1_set_13 : decode cX1_set 13 = .ok (.aload_n 0, 1) := by decide +kernel
theorem dX1_set_14 : decode cX1_set 14 = .ok (.getfield 7, 3) := by decide +kernel
theorem dX1_set_17 : decode cX1_set 17 = .ok (.arraylength, 1) := by decide +kernel
theorem dX1_set_18 : decode cX1_set 18 = .ok (.if_icmp .ge 10, 3) := by decide +kernel
theorem dX1_set_21 : decode cX1_set 21 = .ok (.aload_n 0, 1) := by decide +kernel
theorem dX1_set_22 : decode cX1_set 22 = .ok (.getfield 7, 3) := by decide +kernel
theorem dX1_set_25 : decode cX1_set 25 = .ok (.iload_n 1, 1) := by decide +kernel
theorem dX1_set_26 : decode cX1_set 26 = .ok (.iload_n 2, 1) := by decide +kernel
theorem dX1_set_27 : decode cX1_set 27 = .ok (.iastore, 1) := by decide +kernel
theorem dX1_set_28 : decode cX1_set 28 = .ok (.return_, 1) := by decide +kernel
theorem dX1_swap_0 : decode cX1_swap 0 = .ok (.aload_n 0, 1) := by decide +kernel
theorem dX1_swap_1 : decode cX1_swap 1 = .ok (.iload_n 1, 1) := by decide +kernel
theorem dX1_swap_2 : decode cX1_swap 2 = .ok (.invokevirtual 20, 3) := by decide +kernel
theorem dX1_swap_5 : decode cX1_swap 5 = .ok (.istore_n 3, 1) := by decide +kernel
theorem dX1_swap_6 : decode cX1_swap 6 = .ok (.aload_n 0, 1) := by decide +kernel
theorem dX1_swap_7 : decode cX1_swap 7 = .ok (.iload_n 1, 1) := by decide +kernel
theorem dX1_swap_8 : decode cX1_swap 8 = .ok (.aload_n 0, 1) := by decide +kernel
theorem dX1_swap_9 : decode cX1_swap 9 = .ok (.iload_n 2, 1) := by decide +kernel
theorem dX1_swap_10 : decode cX1_swap 10 = .ok (.invokevirtual 20, 3) := by decide +kernel
theorem dX1_swap_13 : decode cX1_swap 13 = .ok (.invokevirtual 24, 3) := by decide +kernel
theorem dX1_swap_16 : decode cX1_swap 16 = .ok (.aload_n 0, 1) := by decide +kernel
theorem dX1_swap_17 : decode cX1_swap 17 = .ok (.iload_n 2, 1) := by decide +kernel
theorem dX1_swap_18 : decode cX1_swap 18 = .ok (.iload_n 3, 1) := by decide +kernel
theorem dX1_swap_19 : decode cX1_swap 19 = .ok (.invokevirtual 24, 3) := by decide +kernel
theorem dX1_swap_22 : decode cX1_swap 22 = .ok (.return_, 1) := by decide +kernel
theorem dX1_add_0 : decode cX1_add 0 = .ok (.aload_n 0, 1) := by decide +kernel
theorem dX1_add_1 : decode cX1_add 1 = .ok (.getfield 13, 3) := by decide +kernel
theorem dX1_add_4 : decode cX1_add 4 = .ok (.ifCond .lt 14, 3) := by decide +kernel
theorem dX1_add_7 : decode cX1_add 7 = .ok (.aload_n 0, 1) := by decide +kernel
theorem dX1_add_8 : decode cX1_add 8 = .ok (.getfield 13, 3) := by decide +kernel
theorem dX1_add_11 : decode cX1_add 11 = .ok (.aload_n 0, 1) := by decide +kernel
theorem dX1_add_12 : decode cX1_add 12 = .ok (.getfield 17, 3) := by decide +kernel
theorem dX1_add_15 : decode cX1_add 15 = .ok (.if_icmp .lt 4, 3) := by decide +kernel
theorem dX1_add_18 : decode cX1_add 18 = .ok (.return_, 1) := by decide +kernel
theorem dX1_add_19 : decode cX1_add 19 = .ok (.aload_n 0, 1) := by decide +kernel
theorem dX1_add_20 : decode cX1_add 20 = .ok (.getfield 13, 3) := by decide +kernel
theorem dX1_add_23 : decode cX1_add 23 = .ok (.aload_n 0, 1) := by decide +kernel
theorem dX1_add_24 : decode cX1_add 24 = .ok (.getfield 7, 3) := by decide +kernel
theorem dX1_add_27 : decode cX1_add 27 = .ok (.arraylength, 1) := by decide +kernel
theorem dX1_add_28 : decode cX1_add 28 = .ok (.if_icmp .lt 29, 3) := by decide +kernel
theorem dX1_add_31 : decode cX1_add 31 = .ok (.aload_n 0, 1) := by decide +kernel
theorem dX1_add_32 : decode cX1_add 32 = .ok (.aload_n 0, 1) := by decide +kernel
theorem dX1_add_33 : decode cX1_add 33 = .ok (.getfield 7, 3) := by decide +kernel
theorem dX1_add_36 : decode cX1_add 36 = .ok (.aload_n 0, 1) := by decide +kernel
theorem dX1_add_37 : decode cX1_add 37 = .ok (.getfield 17, 3) := by decide +kernel
theorem dX1_add_40 : decode cX1_add 40 = .ok (.iconst 2, 1) := by decide +kernel
theorem dX1_add_41 : decode cX1_add 41 = .ok (.aload_n 0, 1) := by decide +kernel
theorem dX1_add_42 : decode cX1_add 42 = .ok (.getfield 13, 3) := by decide +kernel
theorem dX1_add_45 : decode cX1_add 45 = .ok (.imul, 1) := by decide +kernel
theorem dX1_add_46 : decode cX1_add 46 = .ok (.iconst 4, 1) := by decide +kernel
theorem dX1_add_47 : decode cX1_add 47 = .ok (.iadd, 1) := by decide +kernel
theorem dX1_add_48 : decode cX1_add 48 = .ok (.invokestatic 28, 3) := by decide +kernel
theorem dX1_add_51 : decode cX1_add 51 = .ok (.invokestatic 34, 3) := by decide +kernel
theorem dX1_add_54 : decode cX1_add 54 = .ok (.putfield 7, 3) := by decide +kernel
theorem dX1_add_57 : decode cX1_add 57 = .ok (.aload_n 0, 1) := by decide +kernel
theorem dX1_add_58 : decode cX1_add 58 = .ok (.getfield 13, 3) := by decide +kernel
theorem dX1_add_61 : decode cX1_add 61 = .ok (.aload_n 0, 1) := by decide +kernel
theorem dX1_add_62 : decode cX1_add 62 = .ok (.getfield 7, 3) := by decide +kernel
theorem dX1_add_65 : decode cX1_add 65 = .ok (.arraylength, 1) := by decide +kernel
theorem dX1_add_66 : decode cX1_add 66 = .ok (.if_icmp .ge 23, 3) := by decide +kernel
theorem dX1_add_69 : decode cX1_add 69 = .ok (.aload_n 0, 1) := by decide +kernel
theorem dX1_add_70 : decode cX1_add 70 = .ok (.getfield 7, 3) := by decide +kernel
theorem dX1_add_73 : decode cX1_add 73 = .ok (.aload_n 0, 1) := by decide +kernel
theorem dX1_add_74 : decode cX1_add 74 = .ok (.getfield 13, 3) := by decide +kernel
theorem dX1_add_77 : decode cX1_add 77 = .ok (.iload_n 1, 1) := by decide +kernel
theorem dX1_add_78 : decode cX1_add 78 = .ok (.iastore, 1) := by decide +kernel
theorem dX1_add_79 : decode cX1_add 79 = .ok (.aload_n 0, 1) := by decide +kernel
theorem dX1_add_80 : decode cX1_add 80 = .ok (.dup, 1) := by decide +kernel
theorem dX1_add_81 : decode cX1_add 81 = .ok (.getfield 13, 3) := by decide +kernel
theorem dX1_add_84 : decode cX1_add 84 = .ok (.iconst 1, 1) := by decide +kernel
theorem dX1_add_85 : decode cX1_add 85 = .ok (.iadd, 1) := by decide +kernel
theorem dX1_add_86 : decode cX1_add 86 = .ok (.putfield 13, 3) := by decide +kernel
theorem dX1_add_89 : decode cX1_add 89 = .ok (.return_, 1) := by decide +kernel
theorem dX1_has_0 : decode cX1_has 0 = .ok (.iconst 0, 1) := by decide +kernel
theorem dX1_has_1 : decode cX1_has 1 = .ok (.istore_n 2, 1) := by decide +kernel
theorem dX1_has_2 : decode cX1_has 2 = .ok (.iload_n 2, 1) := by decide +kernel
theorem dX1_has_3 : decode cX1_has 3 = .ok (.aload_n 0, 1) := by decide +kernel
theorem dX1_has_4 : decode cX1_has 4 = .ok (.getfield 13, 3) := by decide +kernel
theorem dX1_has_7 : decode cX1_has 7 = .ok (.if_icmp .ge 20, 3) := by decide +kernel
theorem dX1_has_10 : decode cX1_has 10 = .ok (.aload_n 0, 1) := by decide +kernel
theorem dX1_has_11 : decode cX1_has 11 = .ok (.iload_n 2, 1) := by decide +kernel
theorem dX1_has_12 : decode cX1_has 12 = .ok (.invokevirtual 20, 3) := by decide +kernel
theorem dX1_has_15 : decode cX1_has 15 = .ok (.iload_n 1, 1) := by decide +kernel
theorem dX1_has_16 : decode cX1_has 16 = .ok (.if_icmp .ne 5, 3) := by decide +kernel
theorem dX1_has_19 : decode cX1_has 19 = .ok (.iconst 1, 1) := by decide +kernel
theorem dX1_has_20 : decode cX1_has 20 = .ok (.ireturn, 1) := by decide +kernel
theorem dX1_has_21 : decode cX1_has 21 = .ok (.iinc 2 1, 3) := by decide +kernel
theorem dX1_has_24 : decode cX1_has 24 = .ok (.goto (-22), 3) := by decide +kernel
theorem dX1_has_27 : decode cX1_has 27 = .ok (.iconst 0, 1) := by decide +kernel
theorem dX1_has_28 : decode cX1_has 28 = .ok (.ireturn, 1) := by decide +kernel
theorem dX1_orderTo_0 : decode cX1_orderTo 0 = .ok (.iconst 0, 1) := by decide +kernel
theorem dX1_orderTo_1 : decode cX1_orderTo 1 = .ok (.istore_n 2, 1) := by decide +kernel
theorem dX1_orderTo_2 : decode cX1_orderTo 2 = .ok (.iload_n 2, 1) := by decide +kernel
theorem dX1_orderTo_3 : decode cX1_orderTo 3 = .ok (.aload_n 0, 1) := by decide +kernel
theorem dX1_orderTo_4 : decode cX1_orderTo 4 = .ok (.getfield 13, 3) := by decide +kernel
theorem dX1_orderTo_7 : decode cX1_orderTo 7 = .ok (.if_icmp .ge 48, 3) := by decide +kernel
theorem dX1_orderTo_10 : decode cX1_orderTo 10 = .ok (.iload_n 2, 1) := by decide +kernel
theorem dX1_orderTo_11 : decode cX1_orderTo 11 = .ok (.aload_n 1, 1) := by decide +kernel
theorem dX1_orderTo_12 : decode cX1_orderTo 12 = .ok (.getfield 13, 3) := by decide +kernel
theorem dX1_orderTo_15 : decode cX1_orderTo 15 = .ok (.if_icmp .ge 40, 3) := by decide +kernel
theorem dX1_orderTo_18 : decode cX1_orderTo 18 = .ok (.aload_n 0, 1) := by decide +kernel
theorem dX1_orderTo_19 : decode cX1_orderTo 19 = .ok (.iload_n 2, 1) := by decide +kernel
theorem dX1_orderTo_20 : decode cX1_orderTo 20 = .ok (.invokevirtual 20, 3) := by decide +kernel
theorem dX1_orderTo_23 : decode cX1_orderTo 23 = .ok (.istore_n 3, 1) := by decide +kernel
theorem dX1_orderTo_24 : decode cX1_orderTo 24 = .ok (.aload_n 1, 1) := by decide +kernel
theorem dX1_orderTo_25 : decode cX1_orderTo 25 = .ok (.iload_n 2, 1) := by decide +kernel
theorem dX1_orderTo_26 : decode cX1_orderTo 26 = .ok (.invokevirtual 20, 3) := by decide +kernel
theorem dX1_orderTo_29 : decode cX1_orderTo 29 = .ok (.istore 4, 2) := by decide +kernel
theorem dX1_orderTo_31 : decode cX1_orderTo 31 = .ok (.iload_n 3, 1) := by decide +kernel
theorem dX1_orderTo_32 : decode cX1_orderTo 32 = .ok (.iload 4, 2) := by decide +kernel
theorem dX1_orderTo_34 : decode cX1_orderTo 34 = .ok (.if_icmp .eq 15, 3) := by decide +kernel
theorem dX1_orderTo_37 : decode cX1_orderTo 37 = .ok (.iload_n 3, 1) := by decide +kernel
theorem dX1_orderTo_38 : decode cX1_orderTo 38 = .ok (.iload 4, 2) := by decide +kernel
theorem dX1_orderTo_40 : decode cX1_orderTo 40 = .ok (.if_icmp .ge 7, 3) := by decide +kernel
theorem dX1_orderTo_43 : decode cX1_orderTo 43 = .ok (.iconst (-1), 1) := by decide +kernel
theorem dX1_orderTo_44 : decode cX1_orderTo 44 = .ok (.goto 4, 3) := by decide +kernel
theorem dX1_orderTo_47 : decode cX1_orderTo 47 = .ok (.iconst 1, 1) := by decide +kernel
theorem dX1_orderTo_48 : decode cX1_orderTo 48 = .ok (.ireturn, 1) := by decide +kernel
theorem dX1_orderTo_49 : decode cX1_orderTo 49 = .ok (.iinc 2 1, 3) := by decide +kernel
theorem dX1_orderTo_52 : decode cX1_orderTo 52 = .ok (.goto (-50), 3) := by decide +kernel
theorem dX1_orderTo_55 : decode cX1_orderTo 55 = .ok (.aload_n 0, 1) := by decide +kernel
theorem dX1_orderTo_56 : decode cX1_orderTo 56 = .ok (.getfield 13, 3) := by decide +kernel
theorem dX1_orderTo_59 : decode cX1_orderTo 59 = .ok (.aload_n 1, 1) := by decide +kernel
theorem dX1_orderTo_60 : decode cX1_orderTo 60 = .ok (.getfield 13, 3) := by decide +kernel
theorem dX1_orderTo_63 : decode cX1_orderTo 63 = .ok (.if_icmp .ne 7, 3) := by decide +kernel
theorem dX1_orderTo_66 : decode cX1_orderTo 66 = .ok (.iconst 0, 1) := by decide +kernel
theorem dX1_orderTo_67 : decode cX1_orderTo 67 = .ok (.goto 19, 3) := by decide +kernel
theorem dX1_orderTo_70 : decode cX1_orderTo 70 = .ok (.aload_n 0, 1) := by decide +kernel
theorem dX1_orderTo_71 : decode cX1_orderTo 71 = .ok (.getfield 13, 3) := by decide +kernel
theorem dX1_orderTo_74 : decode cX1_orderTo 74 = .ok (.aload_n 1, 1) := by decide +kernel
theorem dX1_orderTo_75 : decode cX1_orderTo 75 = .ok (.getfield 13, 3) := by decide +kernel
theorem dX1_orderTo_78 : decode cX1_orderTo 78 = .ok (.if_icmp .ge 7, 3) := by decide +kernel
theorem dX1_orderTo_81 : decode cX1_orderTo 81 = .ok (.iconst (-1), 1) := by decide +kernel
theorem dX1_orderTo_82 : decode cX1_orderTo 82 = .ok (.goto 4, 3) := by decide +kernel
theorem dX1_orderTo_85 : decode cX1_orderTo 85 = .ok (.iconst 1, 1) := by decide +kernel
theorem dX1_orderTo_86 : decode cX1_orderTo 86 = .ok (.ireturn, 1) := by decide +kernel
theorem dX2_init_0 : decode cX2_init 0 = .ok (.aload_n 0, 1) := by decide +kernel
theorem dX2_init_1 : decode cX2_init 1 = .ok (.invokespecial 3, 3) := by decide +kernel
theorem dX2_init_4 : decode cX2_init 4 = .ok (.aload_n 0, 1) := by decide +kernel
theorem dX2_init_5 : decode cX2_init 5 = .ok (.iconst 0, 1) := by decide +kernel
theorem dX2_init_6 : decode cX2_init 6 = .ok (.newarray .byte, 2) := by decide +kernel
theorem dX2_init_8 : decode cX2_init 8 = .ok (.putfield 9, 3) := by decide +kernel
theorem dX2_init_11 : decode cX2_init 11 = .ok (.aload_n 0, 1) := by decide +kernel
theorem dX2_init_12 : decode cX2_init 12 = .ok (.iconst 0, 1) := by decide +kernel
theorem dX2_init_13 : decode cX2_init 13 = .ok (.putfield 15, 3) := by decide +kernel
theorem dX2_init_16 : decode cX2_init 16 = .ok (.aload_n 0, 1) := by decide +kernel
theorem dX2_init_17 : decode cX2_init 17 = .ok (.iconst 0, 1) := by decide +kernel
theorem dX2_init_18 : decode cX2_init 18 = .ok (.putfield 19, 3) := by decide +kernel
theorem dX2_init_21 : decode cX2_init 21 = .ok (.return_, 1) := by decide +kernel
theorem dX2_size_0 : decode cX2_size 0 = .ok (.aload_n 0, 1) := by decide +kernel
theorem dX2_size_1 : decode cX2_size 1 = .ok (.getfield 15, 3) := by decide +kernel
theorem dX2_size_4 : decode cX2_size 4 = .ok (.ireturn, 1) := by decide +kernel
theorem dX2_get_0 : decode cX2_get 0 = .ok (.iload_n 1, 1) := by decide +kernel
theorem dX2_get_1 : decode cX2_get 1 = .ok (.ifCond .lt 33, 3) := by decide +kernel
theorem dX2_get_4 : decode cX2_get 4 = .ok (.iload_n 1, 1) := by decide +kernel
theorem dX2_get_5 : decode cX2_get 5 = .ok (.aload_n 0, 1) := by decide +kernel
theorem dX2_get_6 : decode cX2_get 6 = .ok (.getfield 15, 3) := by decide +kernel
theorem dX2_get_9 : decode cX2_get 9 = .ok (.if_icmp .ge 25, 3) := by decide +kernel
theorem dX2_get_12 : decode cX2_get 12 = .ok (.iload_n 1, 1) := by decide +kernel
theorem dX2_get_13 : decode cX2_get 13 = .ok (.aload_n 0, 1) := by decide +kernel
theorem dX2_get_14 : decode cX2_get 14 = .ok (.getfield 9, 3) := by decide +kernel
theorem dX2_get_17 : decode cX2_get 17 = .ok (.arraylength, 1) := by decide +kernel
theorem dX2_get_18 : decode cX2_get 18 = .ok (.if_icmp .ge 16, 3) := by decide +kernel
theorem dX2_get_21 : decode cX2_get 21 = .ok (.aload_n 0, 1) := by decide +kernel
theorem dX2_get_22 : decode cX2_get 22 = .ok (.getfield 9, 3) := by decide +kernel
theorem dX2_get_25 : decode cX2_get 25 = .ok (.iload_n 1, 1) := by decide +kernel
theorem dX2_get_26 : decode cX2_get 26 = .ok (.baload, 1) := by decide +kernel
theorem dX2_get_27 : decode cX2_get 27 = .ok (.sipush 255, 3) := by decide +kernel
theorem dX2_get_30 : decode cX2_get 30 = .ok (.iand, 1) := by decide +kernel
theorem dX2_get_31 : decode cX2_get 31 = .ok (.goto 4, 3) := by decide +kernel
theorem dX2_get_34 : decode cX2_get 34 = .ok (.iconst 0, 1) := by decide +kernel
theorem dX2_get_35 : decode cX2_get 35 = .ok (.ireturn, 1) := by decide +kernel
theorem dX2_clear_0 : decode cX2_clear 0 = .ok (.aload_n 0, 1) := by decide +kernel
theorem dX2_clear_1 : decode cX2_clear 1 = .ok (.iconst 0, 1) := by decide +kernel
theorem dX2_clear_2 : decode cX2_clear 2 = .ok (.putfield 15, 3) := by decide +kernel
theorem dX2_clear_5 : decode cX2_clear 5 = .ok (.aload_n 0, 1) := by decide +kernel
theorem dX2_clear_6 : decode cX2_clear 6 = .ok (.iconst 0, 1) := by decide +kernel
theorem dX2_clear_7 : decode cX2_clear 7 = .ok (.putfield 19, 3) := by decide +kernel
theorem dX2_clear_10 : decode cX2_clear 10 = .ok (.aload_n 0, 1) := by decide +kernel
theorem dX2_clear_11 : decode cX2_clear 11 = .ok (.getfield 9, 3) := by decide +kernel
theorem dX2_clear_14 : decode cX2_clear 14 = .ok (.arraylength, 1) := by decide +kernel
theorem dX2_clear_15 : decode cX2_clear 15 = .ok (.sipush 6000, 3) := by decide +kernel
theorem dX2_clear_18 : decode cX2_clear 18 = .ok (.if_icmp .ge 12, 3) := by decide +kernel
theorem dX2_clear_21 : decode cX2_clear 21 = .ok (.aload_n 0, 1) := by decide +kernel
theorem dX2_clear_22 : decode cX2_clear 22 = .ok (.sipush 6000, 3) := by decide +kernel
theorem dX2_clear_25 : decode cX2_clear 25 = .ok (.newarray .byte, 2) := by decide +kernel
theorem dX2_clear_27 : decode cX2_clear 27 = .ok (.putfield 9, 3) := by decide +kernel
theorem dX2_clear_30 : decode cX2_clear 30 = .ok (.return_, 1) := by decide +kernel
theorem dX2_put_0 : decode cX2_put 0 = .ok (.aload_n 0, 1) := by decide +kernel
theorem dX2_put_1 : decode cX2_put 1 = .ok (.getfield 15, 3) := by decide +kernel
theorem dX2_put_4 : decode cX2_put 4 = .ok (.ifCond .lt 15, 3) := by decide +kernel
theorem dX2_put_7 : decode cX2_put 7 = .ok (.aload_n 0, 1) := by decide +kernel
theorem dX2_put_8 : decode cX2_put 8 = .ok (.getfield 15, 3) := by decide +kernel
theorem dX2_put_11 : decode cX2_put 11 = .ok (.aload_n 0, 1) := by decide +kernel
theorem dX2_put_12 : decode cX2_put 12 = .ok (.getfield 9, 3) := by decide +kernel
theorem dX2_put_15 : decode cX2_put 15 = .ok (.arraylength, 1) := by decide +kernel
theorem dX2_put_16 : decode cX2_put 16 = .ok (.if_icmp .lt 9, 3) := by decide +kernel
theorem dX2_put_19 : decode cX2_put 19 = .ok (.aload_n 0, 1) := by decide +kernel
theorem dX2_put_20 : decode cX2_put 20 = .ok (.iconst 1, 1) := by decide +kernel
theorem dX2_put_21 : decode cX2_put 21 = .ok (.putfield 19, 3) := by decide +kernel
theorem dX2_put_24 : decode cX2_put 24 = .ok (.return_, 1) := by decide +kernel
theorem dX2_put_25 : decode cX2_put 25 = .ok (.aload_n 0, 1) := by decide +kernel
theorem dX2_put_26 : decode cX2_put 26 = .ok (.getfield 9, 3) := by decide +kernel
theorem dX2_put_29 : decode cX2_put 29 = .ok (.aload_n 0, 1) := by decide +kernel
theorem dX2_put_30 : decode cX2_put 30 = .ok (.getfield 15, 3) := by decide +kernel
theorem dX2_put_33 : decode cX2_put 33 = .ok (.iload_n 1, 1) := by decide +kernel
theorem dX2_put_34 : decode cX2_put 34 = .ok (.i2b, 1) := by decide +kernel
theorem dX2_put_35 : decode cX2_put 35 = .ok (.bastore, 1) := by decide +kernel
theorem dX2_put_36 : decode cX2_put 36 = .ok (.aload_n 0, 1) := by decide +kernel
theorem dX2_put_37 : decode cX2_put 37 = .ok (.dup, 1) := by decide +kernel
theorem dX2_put_38 : decode cX2_put 38 = .ok (.getfield 15, 3) := by decide +kernel
theorem dX2_put_41 : decode cX2_put 41 = .ok (.iconst 1, 1) := by decide +kernel
theorem dX2_put_42 : decode cX2_put 42 = .ok (.iadd, 1) := by decide +kernel
theorem dX2_put_43 : decode cX2_put 43 = .ok (.putfield 15, 3) := by decide +kernel
theorem dX2_put_46 : decode cX2_put 46 = .ok (.return_, 1) := by decide +kernel
theorem dX2_putAll_0 : decode cX2_putAll 0 = .ok (.iconst 0, 1) := by decide +kernel
theorem dX2_putAll_1 : decode cX2_putAll 1 = .ok (.istore_n 2, 1) := by decide +kernel
theorem dX2_putAll_2 : decode cX2_putAll 2 = .ok (.iload_n 2, 1) := by decide +kernel
theorem dX2_putAll_3 : decode cX2_putAll 3 = .ok (.aload_n 1, 1) := by decide +kernel
theorem dX2_putAll_4 : decode cX2_putAll 4 = .ok (.invokevirtual 23, 3) := by decide +kernel
theorem dX2_putAll_7 : decode cX2_putAll 7 = .ok (.if_icmp .ge 18, 3) := by decide +kernel
theorem dX2_putAll_10 : decode cX2_putAll 10 = .ok (.aload_n 0, 1) := by decide +kernel
theorem dX2_putAll_11 : decode cX2_putAll 11 = .ok (.aload_n 1, 1) := by decide +kernel
theorem dX2_putAll_12 : decode cX2_putAll 12 = .ok (.iload_n 2, 1) := by decide +kernel
theorem dX2_putAll_13 : decode cX2_putAll 13 = .ok (.invokevirtual 28, 3) := by decide +kernel
theorem dX2_putAll_16 : decode cX2_putAll 16 = .ok (.invokevirtual 32, 3) := by decide +kernel
theorem dX2_putAll_19 : decode cX2_putAll 19 = .ok (.iinc 2 1, 3) := by decide +kernel
theorem dX2_putAll_22 : decode cX2_putAll 22 = .ok (.goto (-20), 3) := by decide +kernel
theorem dX2_putAll_25 : decode cX2_putAll 25 = .ok (.return_, 1) := by decide +kernel
theorem dX2_putBetween_0 : decode cX2_putBetween 0 = .ok (.aload_n 0, 1) := by decide +kernel
theorem dX2_putBetween_1 : decode cX2_putBetween 1 = .ok (.iload_n 1, 1) := by decide +kernel
theorem dX2_putBetween_2 : decode cX2_putBetween 2 = .ok (.invokevirtual 32, 3) := by decide +kernel
theorem dX2_putBetween_5 : decode cX2_putBetween 5 = .ok (.aload_n 0, 1) := by decide +kernel
theorem dX2_putBetween_6 : decode cX2_putBetween 6 = .ok (.bipush 32, 2) := by decide +kernel
theorem dX2_putBetween_8 : decode cX2_putBetween 8 = .ok (.invokevirtual 32, 3) := by decide +kernel
theorem dX2_putBetween_11 : decode cX2_putBetween 11 = .ok (.return_, 1) := by decide +kernel
theorem dX2_putPage_0 : decode cX2_putPage 0 = .ok (.iload_n 1, 1) := by decide +kernel
theorem dX2_putPage_1 : decode cX2_putPage 1 = .ok (.ldc 36, 2) := by decide +kernel
theorem dX2_putPage_3 : decode cX2_putPage 3 = .ok (.irem, 1) := by decide +kernel
theorem dX2_putPage_4 : decode cX2_putPage 4 = .ok (.istore_n 2, 1) := by decide +kernel
theorem dX2_putPage_5 : decode cX2_putPage 5 = .ok (.iload_n 1, 1) := by decide +kernel
theorem dX2_putPage_6 : decode cX2_putPage 6 = .ok (.ldc 36, 2) := by decide +kernel
theorem dX2_putPage_8 : decode cX2_putPage 8 = .ok (.idiv, 1) := by decide +kernel
theorem dX2_putPage_9 : decode cX2_putPage 9 = .ok (.lookupswitch 101 #[(0, 27), (1, 93)], 27) := by decide +kernel
theorem dX2_putPage_36 : decode cX2_putPage 36 = .ok (.aload_n 0, 1) := by decide +kernel
theorem dX2_putPage_37 : decode cX2_putPage 37 = .ok (.iload_n 2, 1) := by decide +kernel
theorem dX2_putPage_38 : decode cX2_putPage 38 = .ok (.sipush 1000, 3) := by decide +kernel
theorem dX2_putPage_41 : decode cX2_putPage 41 = .ok (.idiv, 1) := by decide +kernel
theorem dX2_putPage_42 : decode cX2_putPage 42 = .ok (.bipush 109, 2) := by decide +kernel
theorem dX2_putPage_44 : decode cX2_putPage 44 = .ok (.bipush 109, 2) := by decide +kernel
theorem dX2_putPage_46 : decode cX2_putPage 46 = .ok (.bipush 109, 2) := by decide +kernel
theorem dX2_putPage_48 : decode cX2_putPage 48 = .ok (.invokevirtual 37, 3) := by decide +kernel
theorem dX2_putPage_51 : decode cX2_putPage 51 = .ok (.aload_n 0, 1) := by decide +kernel
theorem dX2_putPage_52 : decode cX2_putPage 52 = .ok (.iload_n 2, 1) := by decide +kernel
theorem dX2_putPage_53 : decode cX2_putPage 53 = .ok (.bipush 100, 2) := by decide +kernel
theorem dX2_putPage_55 : decode cX2_putPage 55 = .ok (.idiv, 1) := by decide +kernel
theorem dX2_putPage_56 : decode cX2_putPage 56 = .ok (.bipush 10, 2) := by decide +kernel
theorem dX2_putPage_58 : decode cX2_putPage 58 = .ok (.irem, 1) := by decide +kernel
theorem dX2_putPage_59 : decode cX2_putPage 59 = .ok (.bipush 99, 2) := by decide +kernel
theorem dX2_putPage_61 : decode cX2_putPage 61 = .ok (.bipush 100, 2) := by decide +kernel
theorem dX2_putPage_63 : decode cX2_putPage 63 = .ok (.bipush 109, 2) := by decide +kernel
theorem dX2_putPage_65 : decode cX2_putPage 65 = .ok (.invokevirtual 37, 3) := by decide +kernel
theorem dX2_putPage_68 : decode cX2_putPage 68 = .ok (.aload_n 0, 1) := by decide +kernel
theorem dX2_putPage_69 : decode cX2_putPage 69 = .ok (.iload_n 2, 1) := by decide +kernel
theorem dX2_putPage_70 : decode cX2_putPage 70 = .ok (.bipush 10, 2) := by decide +kernel
theorem dX2_putPage_72 : decode cX2_putPage 72 = .ok (.idiv, 1) := by decide +kernel
theorem dX2_putPage_73 : decode cX2_putPage 73 = .ok (.bipush 10, 2) := by decide +kernel
theorem dX2_putPage_75 : decode cX2_putPage 75 = .ok (.irem, 1) := by decide +kernel
theorem dX2_putPage_76 : decode cX2_putPage 76 = .ok (.bipush 120, 2) := by decide +kernel
theorem dX2_putPage_78 : decode cX2_putPage 78 = .ok (.bipush 108, 2) := by decide +kernel
theorem dX2_putPage_80 : decode cX2_putPage 80 = .ok (.bipush 99, 2) := by decide +kernel
theorem dX2_putPage_82 : decode cX2_putPage 82 = .ok (.invokevirtual 37, 3) := by decide +kernel
theorem dX2_putPage_85 : decode cX2_putPage 85 = .ok (.aload_n 0, 1) := by decide +kernel
theorem dX2_putPage_86 : decode cX2_putPage 86 = .ok (.iload_n 2, 1) := by decide +kernel
theorem dX2_putPage_87 : decode cX2_putPage 87 = .ok (.bipush 10, 2) := by decide +kernel
theorem dX2_putPage_89 : decode cX2_putPage 89 = .ok (.irem, 1) := by decide +kernel
theorem dX2_putPage_90 : decode cX2_putPage 90 = .ok (.bipush 105, 2) := by decide +kernel
theorem dX2_putPage_92 : decode cX2_putPage 92 = .ok (.bipush 118, 2) := by decide +kernel
theorem dX2_putPage_94 : decode cX2_putPage 94 = .ok (.bipush 120, 2) := by decide +kernel
theorem dX2_putPage_96 : decode cX2_putPage 96 = .ok (.invokevirtual 37, 3) := by decide +kernel
theorem dX2_putPage_99 : decode cX2_putPage 99 = .ok (.goto 16, 3) := by decide +kernel
theorem dX2_putPage_102 : decode cX2_putPage 102 = .ok (.aload_n 0, 1) := by decide +kernel
theorem dX2_putPage_103 : decode cX2_putPage 103 = .ok (.iload_n 2, 1) := by decide +kernel
theorem dX2_putPage_104 : decode cX2_putPage 104 = .ok (.invokevirtual 41, 3) := by decide +kernel
theorem dX2_putPage_107 : decode cX2_putPage 107 = .ok (.goto 8, 3) := by decide +kernel
theorem dX2_putPage_110 : decode cX2_putPage 110 = .ok (.aload_n 0, 1) := by decide +kernel
theorem dX2_putPage_111 : decode cX2_putPage 111 = .ok (.iload_n 2, 1) := by decide +kernel
theorem dX2_putPage_112 : decode cX2_putPage 112 = .ok (.invokevirtual 44, 3) := by decide +kernel
theorem dX2_putPage_115 : decode cX2_putPage 115 = .ok (.return_, 1) := by decide +kernel
theorem dX2_putRomanDigit_0 : decode cX2_putRomanDigit 0 = .ok (.iload_n 1, 1) := by decide +kernel
theorem dX2_putRomanDigit_1 : decode cX2_putRomanDigit 1 = .ok (.iconst 5, 1) := by decide +kernel
theorem dX2_putRomanDigit_2 : decode cX2_putRomanDigit 2 = .ok (.irem, 1) := by decide +kernel
theorem dX2_putRomanDigit_3 : decode cX2_putRomanDigit 3 = .ok (.iconst 4, 1) := by decide +kernel
theorem dX2_putRomanDigit_4 : decode cX2_putRomanDigit 4 = .ok (.if_icmp .ne 24, 3) := by decide +kernel
theorem dX2_putRomanDigit_7 : decode cX2_putRomanDigit 7 = .ok (.aload_n 0, 1) := by decide +kernel
theorem dX2_putRomanDigit_8 : decode cX2_putRomanDigit 8 = .ok (.iload_n 2, 1) := by decide +kernel
theorem dX2_putRomanDigit_9 : decode cX2_putRomanDigit 9 = .ok (.invokevirtual 32, 3) := by decide +kernel
theorem dX2_putRomanDigit_12 : decode cX2_putRomanDigit 12 = .ok (.aload_n 0, 1) := by decide +kernel
theorem dX2_putRomanDigit_13 : decode cX2_putRomanDigit 13 = .ok (.iload_n 1, 1) := by decide +kernel
theorem dX2_putRomanDigit_14 : decode cX2_putRomanDigit 14 = .ok (.iconst 4, 1) := by decide +kernel
theorem dX2_putRomanDigit_15 : decode cX2_putRomanDigit 15 = .ok (.if_icmp .ne 7, 3) := by decide +kernel
theorem dX2_putRomanDigit_18 : decode cX2_putRomanDigit 18 = .ok (.iload_n 3, 1) := by decide +kernel
theorem dX2_putRomanDigit_19 : decode cX2_putRomanDigit 19 = .ok (.goto 5, 3) := by decide +kernel
theorem dX2_putRomanDigit_22 : decode cX2_putRomanDigit 22 = .ok (.iload 4, 2) := by decide +kernel
theorem dX2_putRomanDigit_24 : decode cX2_putRomanDigit 24 = .ok (.invokevirtual 32, 3) := by decide +kernel
theorem dX2_putRomanDigit_27 : decode cX2_putRomanDigit 27 = .ok (.return_, 1) := by decide +kernel
theorem dX2_putRomanDigit_28 : decode cX2_putRomanDigit 28 = .ok (.iload_n 1, 1) := by decide +kernel
theorem dX2_putRomanDigit_29 : decode cX2_putRomanDigit 29 = .ok (.iconst 5, 1) := by decide +kernel
theorem dX2_putRomanDigit_30 : decode cX2_putRomanDigit 30 = .ok (.if_icmp .lt 8, 3) := by decide +kernel
theorem dX2_putRomanDigit_33 : decode cX2_putRomanDigit 33 = .ok (.aload_n 0, 1) := by decide +kernel
theorem dX2_putRomanDigit_34 : decode cX2_putRomanDigit 34 = .ok (.iload_n 3, 1) := by decide +kernel
theorem dX2_putRomanDigit_35 : decode cX2_putRomanDigit 35 = .ok (.invokevirtual 32, 3) := by decide +kernel
theorem dX2_putRomanDigit_38 : decode cX2_putRomanDigit 38 = .ok (.iconst 0, 1) := by decide +kernel
theorem dX2_putRomanDigit_39 : decode cX2_putRomanDigit 39 = .ok (.istore 5, 2) := by decide +kernel
theorem dX2_putRomanDigit_41 : decode cX2_putRomanDigit 41 = .ok (.iload 5, 2) := by decide +kernel
theorem dX2_putRomanDigit_43 : decode cX2_putRomanDigit 43 = .ok (.iload_n 1, 1) := by decide +kernel
theorem dX2_putRomanDigit_44 : decode cX2_putRomanDigit 44 = .ok (.iconst 5, 1) := by decide +kernel
theorem dX2_putRomanDigit_45 : decode cX2_putRomanDigit 45 = .ok (.irem, 1) := by decide +kernel
theorem dX2_putRomanDigit_46 : decode cX2_putRomanDigit 46 = .ok (.if_icmp .ge 14, 3) := by decide +kernel
theorem dX2_putRomanDigit_49 : decode cX2_putRomanDigit 49 = .ok (.aload_n 0, 1) := by decide +kernel
theorem dX2_putRomanDigit_50 : decode cX2_putRomanDigit 50 = .ok (.iload_n 2, 1) := by decide +kernel
theorem dX2_putRomanDigit_51 : decode cX2_putRomanDigit 51 = .ok (.invokevirtual 32, 3) := by decide +kernel
theorem dX2_putRomanDigit_54 : decode cX2_putRomanDigit 54 = .ok (.iinc 5 1, 3) := by decide +kernel
theorem dX2_putRomanDigit_57 : decode cX2_putRomanDigit 57 = .ok (.goto (-16), 3) := by decide +kernel
theorem dX2_putRomanDigit_60 : decode cX2_putRomanDigit 60 = .ok (.return_, 1) := by decide +kernel
theorem dX2_putNumber_0 : decode cX2_putNumber 0 = .ok (.sipush 10000, 3) := by decide +kernel
theorem dX2_putNumber_3 : decode cX2_putNumber 3 = .ok (.istore_n 2, 1) := by decide +kernel
theorem dX2_putNumber_4 : decode cX2_putNumber 4 = .ok (.iload_n 2, 1) := by decide +kernel
theorem dX2_putNumber_5 : decode cX2_putNumber 5 = .ok (.ifCond .le 29, 3) := by decide +kernel
theorem dX2_putNumber_8 : decode cX2_putNumber 8 = .ok (.iload_n 1, 1) := by decide +kernel
theorem dX2_putNumber_9 : decode cX2_putNumber 9 = .ok (.iload_n 2, 1) := by decide +kernel
theorem dX2_putNumber_10 : decode cX2_putNumber 10 = .ok (.if_icmp .lt 16, 3) := by decide +kernel
theorem dX2_putNumber_13 : decode cX2_putNumber 13 = .ok (.aload_n 0, 1) := by decide +kernel
theorem dX2_putNumber_14 : decode cX2_putNumber 14 = .ok (.bipush 48, 2) := by decide +kernel
theorem dX2_putNumber_16 : decode cX2_putNumber 16 = .ok (.iload_n 1, 1) := by decide +kernel
theorem dX2_putNumber_17 : decode cX2_putNumber 17 = .ok (.iload_n 2, 1) := by decide +kernel
theorem dX2_putNumber_18 : decode cX2_putNumber 18 = .ok (.idiv, 1) := by decide +kernel
theorem dX2_putNumber_19 : decode cX2_putNumber 19 = .ok (.bipush 10, 2) := by decide +kernel
theorem dX2_putNumber_21 : decode cX2_putNumber 21 = .ok (.irem, 1) := by decide +kernel
theorem dX2_putNumber_22 : decode cX2_putNumber 22 = .ok (.iadd, 1) := by decide +kernel
theorem dX2_putNumber_23 : decode cX2_putNumber 23 = .ok (.invokevirtual 32, 3) := by decide +kernel
theorem dX2_putNumber_26 : decode cX2_putNumber 26 = .ok (.iload_n 2, 1) := by decide +kernel
theorem dX2_putNumber_27 : decode cX2_putNumber 27 = .ok (.bipush 10, 2) := by decide +kernel
theorem dX2_putNumber_29 : decode cX2_putNumber 29 = .ok (.idiv, 1) := by decide +kernel
theorem dX2_putNumber_30 : decode cX2_putNumber 30 = .ok (.istore_n 2, 1) := by decide +kernel
theorem dX2_putNumber_31 : decode cX2_putNumber 31 = .ok (.goto (-27), 3) := by decide +kernel
theorem dX2_putNumber_34 : decode cX2_putNumber 34 = .ok (.return_, 1) := by decide +kernel
theorem dX2_putLetters_0 : decode cX2_putLetters 0 = .ok (.iload_n 1, 1) := by decide +kernel
theorem dX2_putLetters_1 : decode cX2_putLetters 1 = .ok (.bipush 26, 2) := by decide +kernel
theorem dX2_putLetters_3 : decode cX2_putLetters 3 = .ok (.if_icmp .le 18, 3) := by decide +kernel
theorem dX2_putLetters_6 : decode cX2_putLetters 6 = .ok (.aload_n 0, 1) := by decide +kernel
theorem dX2_putLetters_7 : decode cX2_putLetters 7 = .ok (.bipush 97, 2) := by decide +kernel
theorem dX2_putLetters_9 : decode cX2_putLetters 9 = .ok (.iload_n 1, 1) := by decide +kernel
theorem dX2_putLetters_10 : decode cX2_putLetters 10 = .ok (.iconst 1, 1) := by decide +kernel
theorem dX2_putLetters_11 : decode cX2_putLetters 11 = .ok (.isub, 1) := by decide +kernel
theorem dX2_putLetters_12 : decode cX2_putLetters 12 = .ok (.bipush 26, 2) := by decide +kernel
theorem dX2_putLetters_14 : decode cX2_putLetters 14 = .ok (.idiv, 1) := by decide +kernel
theorem dX2_putLetters_15 : decode cX2_putLetters 15 = .ok (.iadd, 1) := by decide +kernel
theorem dX2_putLetters_16 : decode cX2_putLetters 16 = .ok (.iconst 1, 1) := by decide +kernel
theorem dX2_putLetters_17 : decode cX2_putLetters 17 = .ok (.isub, 1) := by decide +kernel
theorem dX2_putLetters_18 : decode cX2_putLetters 18 = .ok (.invokevirtual 32, 3) := by decide +kernel
theorem dX2_putLetters_21 : decode cX2_putLetters 21 = .ok (.aload_n 0, 1) := by decide +kernel
theorem dX2_putLetters_22 : decode cX2_putLetters 22 = .ok (.bipush 97, 2) := by decide +kernel
theorem dX2_putLetters_24 : decode cX2_putLetters 24 = .ok (.iload_n 1, 1) := by decide +kernel
theorem dX2_putLetters_25 : decode cX2_putLetters 25 = .ok (.iconst 1, 1) := by decide +kernel
theorem dX2_putLetters_26 : decode cX2_putLetters 26 = .ok (.isub, 1) := by decide +kernel
theorem dX2_putLetters_27 : decode cX2_putLetters 27 = .ok (.bipush 26, 2) := by decide +kernel
theorem dX2_putLetters_29 : decode cX2_putLetters 29 = .ok (.irem, 1) := by decide +kernel
theorem dX2_putLetters_30 : decode cX2_putLetters 30 = .ok (.iadd, 1) := by decide +kernel
theorem dX2_putLetters_31 : decode cX2_putLetters 31 = .ok (.invokevirtual 32, 3) := by decide +kernel
theorem dX2_putLetters_34 : decode cX2_putLetters 34 = .ok (.return_, 1) := by decide +kernel
theorem dX3_init_0 : decode cX3_init 0 = .ok (.aload_n 0, 1) := by decide +kernel
theorem dX3_init_1 : decode cX3_init 1 = .ok (.invokespecial 1, 3) := by decide +kernel
theorem dX3_init_4 : decode cX3_init 4 = .ok (.aload_n 0, 1) := by decide +kernel
theorem dX3_init_5 : decode cX3_init 5 = .ok (.new 7, 3) := by decide +kernel
theorem dX3_init_8 : decode cX3_init 8 = .ok (.dup, 1) := by decide +kernel
theorem dX3_init_9 : decode cX3_init 9 = .ok (.iload_n 1, 1) := by decide +kernel
theorem dX3_init_10 : decode cX3_init 10 = .ok (.invokespecial 9, 3) := by decide +kernel
theorem dX3_init_13 : decode cX3_init 13 = .ok (.putfield 12, 3) := by decide +kernel
theorem dX3_init_16 : decode cX3_init 16 = .ok (.aload_n 0, 1) := by decide +kernel
theorem dX3_init_17 : decode cX3_init 17 = .ok (.new 7, 3) := by decide +kernel
theorem dX3_init_20 : decode cX3_init 20 = .ok (.dup, 1) := by decide +kernel
theorem dX3_init_21 : decode cX3_init 21 = .ok (.iload_n 1, 1) := by decide +kernel
theorem dX3_init_22 : decode cX3_init 22 = .ok (.invokespecial 9, 3) := by decide +kernel
theorem dX3_init_25 : decode cX3_init 25 = .ok (.putfield 18, 3) := by decide +kernel
theorem dX3_init_28 : decode cX3_init 28 = .ok (.aload_n 0, 1) := by decide +kernel
theorem dX3_init_29 : decode cX3_init 29 = .ok (.new 7, 3) := by decide +kernel
theorem dX3_init_32 : decode cX3_init 32 = .ok (.dup, 1) := by decide +kernel
theorem dX3_init_33 : decode cX3_init 33 = .ok (.iload_n 1, 1) := by decide +kernel
theorem dX3_init_34 : decode cX3_init 34 = .ok (.invokespecial 9, 3) := by decide +kernel
theorem dX3_init_37 : decode cX3_init 37 = .ok (.putfield 21, 3) := by decide +kernel
theorem dX3_init_40 : decode cX3_init 40 = .ok (.return_, 1) := by decide +kernel
theorem dX3_size_0 : decode cX3_size 0 = .ok (.aload_n 0, 1) := by decide +kernel
theorem dX3_size_1 : decode cX3_size 1 = .ok (.getfield 12, 3) := by decide +kernel
theorem dX3_size_4 : decode cX3_size 4 = .ok (.invokevirtual 24, 3) := by decide +kernel
theorem dX3_size_7 : decode cX3_size 7 = .ok (.ireturn, 1) := by decide +kernel
theorem dX3_isFull_0 : decode cX3_isFull 0 = .ok (.aload_n 0, 1) := by decide +kernel
theorem dX3_isFull_1 : decode cX3_isFull 1 = .ok (.getfield 12, 3) := by decide +kernel
theorem dX3_isFull_4 : decode cX3_isFull 4 = .ok (.invokevirtual 28, 3) := by decide +kernel
theorem dX3_isFull_7 : decode cX3_isFull 7 = .ok (.ireturn, 1) := by decide +kernel
theorem dX3_clear_0 : decode cX3_clear 0 = .ok (.aload_n 0, 1) := by decide +kernel
theorem dX3_clear_1 : decode cX3_clear 1 = .ok (.getfield 12, 3) := by decide +kernel
theorem dX3_clear_4 : decode cX3_clear 4 = .ok (.invokevirtual 32, 3) := by decide +kernel
theorem dX3_clear_7 : decode cX3_clear 7 = .ok (.aload_n 0, 1) := by decide +kernel
theorem dX3_clear_8 : decode cX3_clear 8 = .ok (.getfield 18, 3) := by decide +kernel
theorem dX3_clear_11 : decode cX3_clear 11 = .ok (.invokevirtual 32, 3) := by decide +kernel
theorem dX3_clear_14 : decode cX3_clear 14 = .ok (.aload_n 0, 1) := by decide +kernel
theorem dX3_clear_15 : decode cX3_clear 15 = .ok (.getfield 21, 3) := by decide +kernel
theorem dX3_clear_18 : decode cX3_clear 18 = .ok (.invokevirtual 32, 3) := by decide +kernel
theorem dX3_clear_21 : decode cX3_clear 21 = .ok (.return_, 1) := by decide +kernel
theorem dX3_from_0 : decode cX3_from 0 = .ok (.aload_n 0, 1) := by decide +kernel
theorem dX3_from_1 : decode cX3_from 1 = .ok (.getfield 12, 3) := by decide +kernel
theorem dX3_from_4 : decode cX3_from 4 = .ok (.iload_n 1, 1) := by decide +kernel
theorem dX3_from_5 : decode cX3_from 5 = .ok (.invokevirtual 35, 3) := by decide +kernel
theorem dX3_from_8 : decode cX3_from 8 = .ok (.ireturn, 1) := by decide +kernel
theorem dX3_to_0 : decode cX3_to 0 = .ok (.aload_n 0, 1) := by decide +kernel
theorem dX3_to_1 : decode cX3_to 1 = .ok (.getfield 18, 3) := by decide +kernel
theorem dX3_to_4 : decode cX3_to 4 = .ok (.iload_n 1, 1) := by decide +kernel
theorem dX3_to_5 : decode cX3_to 5 = .ok (.invokevirtual 35, 3) := by decide +kernel
theorem dX3_to_8 : decode cX3_to 8 = .ok (.ireturn, 1) := by decide +kernel
theorem dX3_isTold_0 : decode cX3_isTold 0 = .ok (.aload_n 0, 1) := by decide +kernel
theorem dX3_isTold_1 : decode cX3_isTold 1 = .ok (.getfield 21, 3) := by decide +kernel
theorem dX3_isTold_4 : decode cX3_isTold 4 = .ok (.iload_n 1, 1) := by decide +kernel
theorem dX3_isTold_5 : decode cX3_isTold 5 = .ok (.invokevirtual 35, 3) := by decide +kernel
theorem dX3_isTold_8 : decode cX3_isTold 8 = .ok (.iconst 1, 1) := by decide +kernel
theorem dX3_isTold_9 : decode cX3_isTold 9 = .ok (.if_icmp .ne 7, 3) := by decide +kernel
theorem dX3_isTold_12 : decode cX3_isTold 12 = .ok (.iconst 1, 1) := by decide +kernel
theorem dX3_isTold_13 : decode cX3_isTold 13 = .ok (.goto 4, 3) := by decide +kernel
theorem dX3_isTold_16 : decode cX3_isTold 16 = .ok (.iconst 0, 1) := by decide +kernel
theorem dX3_isTold_17 : decode cX3_isTold 17 = .ok (.ireturn, 1) := by decide +kernel
theorem dX3_add_0 : decode cX3_add 0 = .ok (.aload_n 0, 1) := by decide +kernel
theorem dX3_add_1 : decode cX3_add 1 = .ok (.getfield 12, 3) := by decide +kernel
theorem dX3_add_4 : decode cX3_add 4 = .ok (.iload_n 1, 1) := by decide +kernel
theorem dX3_add_5 : decode cX3_add 5 = .ok (.invokevirtual 39, 3) := by decide +kernel
theorem dX3_add_8 : decode cX3_add 8 = .ok (.aload_n 0, 1) := by decide +kernel
theorem dX3_add_9 : decode cX3_add 9 = .ok (.getfield 18, 3) := by decide +kernel
theorem dX3_add_12 : decode cX3_add 12 = .ok (.iload_n 2, 1) := by decide +kernel
theorem dX3_add_13 : decode cX3_add 13 = .ok (.invokevirtual 39, 3) := by decide +kernel
theorem dX3_add_16 : decode cX3_add 16 = .ok (.aload_n 0, 1) := by decide +kernel
theorem dX3_add_17 : decode cX3_add 17 = .ok (.getfield 21, 3) := by decide +kernel
theorem dX3_add_20 : decode cX3_add 20 = .ok (.iload_n 3, 1) := by decide +kernel
theorem dX3_add_21 : decode cX3_add 21 = .ok (.ifCond .eq 7, 3) := by decide +kernel
theorem dX3_add_24 : decode cX3_add 24 = .ok (.iconst 1, 1) := by decide +kernel
theorem dX3_add_25 : decode cX3_add 25 = .ok (.goto 4, 3) := by decide +kernel
theorem dX3_add_28 : decode cX3_add 28 = .ok (.iconst 0, 1) := by decide +kernel
theorem dX3_add_29 : decode cX3_add 29 = .ok (.invokevirtual 39, 3) := by decide +kernel
theorem dX3_add_32 : decode cX3_add 32 = .ok (.return_, 1) := by decide +kernel
theorem dX3_endAt_0 : decode cX3_endAt 0 = .ok (.aload_n 0, 1) := by decide +kernel
theorem dX3_endAt_1 : decode cX3_endAt 1 = .ok (.getfield 18, 3) := by decide +kernel
theorem dX3_endAt_4 : decode cX3_endAt 4 = .ok (.iload_n 1, 1) := by decide +kernel
theorem dX3_endAt_5 : decode cX3_endAt 5 = .ok (.iload_n 2, 1) := by decide +kernel
theorem dX3_endAt_6 : decode cX3_endAt 6 = .ok (.invokevirtual 42, 3) := by decide +kernel
theorem dX3_endAt_9 : decode cX3_endAt 9 = .ok (.aload_n 0, 1) := by decide +kernel
theorem dX3_endAt_10 : decode cX3_endAt 10 = .ok (.getfield 21, 3) := by decide +kernel
theorem dX3_endAt_13 : decode cX3_endAt 13 = .ok (.iload_n 1, 1) := by decide +kernel
theorem dX3_endAt_14 : decode cX3_endAt 14 = .ok (.iconst 1, 1) := by decide +kernel
theorem dX3_endAt_15 : decode cX3_endAt 15 = .ok (.invokevirtual 42, 3) := by decide +kernel
theorem dX3_endAt_18 : decode cX3_endAt 18 = .ok (.return_, 1) := by decide +kernel
theorem dX3_addAllInOrder_0 : decode cX3_addAllInOrder 0 = .ok (.iconst 0, 1) := by decide +kernel
theorem dX3_addAllInOrder_1 : decode cX3_addAllInOrder 1 = .ok (.istore_n 2, 1) := by decide +kernel
theorem dX3_addAllInOrder_2 : decode cX3_addAllInOrder 2 = .ok (.iload_n 2, 1) := by decide +kernel
theorem dX3_addAllInOrder_3 : decode cX3_addAllInOrder 3 = .ok (.aload_n 1, 1) := by decide +kernel
theorem dX3_addAllInOrder_4 : decode cX3_addAllInOrder 4 = .ok (.invokevirtual 46, 3) := by decide +kernel
theorem dX3_addAllInOrder_7 : decode cX3_addAllInOrder 7 = .ok (.if_icmp .ge 32, 3) := by decide +kernel
theorem dX3_addAllInOrder_10 : decode cX3_addAllInOrder 10 = .ok (.aload_n 0, 1) := by decide +kernel
theorem dX3_addAllInOrder_11 : decode cX3_addAllInOrder 11 = .ok (.aload_n 1, 1) := by decide +kernel
theorem dX3_addAllInOrder_12 : decode cX3_addAllInOrder 12 = .ok (.iload_n 2, 1) := by decide +kernel
theorem dX3_addAllInOrder_13 : decode cX3_addAllInOrder 13 = .ok (.invokevirtual 47, 3) := by decide +kernel
theorem dX3_addAllInOrder_16 : decode cX3_addAllInOrder 16 = .ok (.aload_n 1, 1) := by decide +kernel
theorem dX3_addAllInOrder_17 : decode cX3_addAllInOrder 17 = .ok (.iload_n 2, 1) := by decide +kernel
theorem dX3_addAllInOrder_18 : decode cX3_addAllInOrder 18 = .ok (.invokevirtual 50, 3) := by decide +kernel
theorem dX3_addAllInOrder_21 : decode cX3_addAllInOrder 21 = .ok (.aload_n 1, 1) := by decide +kernel
theorem dX3_addAllInOrder_22 : decode cX3_addAllInOrder 22 = .ok (.iload_n 2, 1) := by decide +kernel
theorem dX3_addAllInOrder_23 : decode cX3_addAllInOrder 23 = .ok (.invokevirtual 53, 3) := by decide +kernel
theorem dX3_addAllInOrder_26 : decode cX3_addAllInOrder 26 = .ok (.invokevirtual 57, 3) := by decide +kernel
theorem dX3_addAllInOrder_29 : decode cX3_addAllInOrder 29 = .ok (.aload_n 0, 1) := by decide +kernel
theorem dX3_addAllInOrder_30 : decode cX3_addAllInOrder 30 = .ok (.invokevirtual 60, 3) := by decide +kernel
theorem dX3_addAllInOrder_33 : decode cX3_addAllInOrder 33 = .ok (.iinc 2 1, 3) := by decide +kernel
theorem dX3_addAllInOrder_36 : decode cX3_addAllInOrder 36 = .ok (.goto (-34), 3) := by decide +kernel
theorem dX3_addAllInOrder_39 : decode cX3_addAllInOrder 39 = .ok (.return_, 1) := by decide +kernel
theorem dX3_sinkLast_0 : decode cX3_sinkLast 0 = .ok (.aload_n 0, 1) := by decide +kernel
theorem dX3_sinkLast_1 : decode cX3_sinkLast 1 = .ok (.invokevirtual 46, 3) := by decide +kernel
theorem dX3_sinkLast_4 : decode cX3_sinkLast 4 = .ok (.iconst 1, 1) := by decide +kernel
theorem dX3_sinkLast_5 : decode cX3_sinkLast 5 = .ok (.isub, 1) := by decide +kernel
theorem dX3_sinkLast_6 : decode cX3_sinkLast 6 = .ok (.istore_n 1, 1) := by decide +kernel
theorem dX3_sinkLast_7 : decode cX3_sinkLast 7 = .ok (.iload_n 1, 1) := by decide +kernel
theorem dX3_sinkLast_8 : decode cX3_sinkLast 8 = .ok (.ifCond .le 57, 3) := by decide +kernel
theorem dX3_sinkLast_11 : decode cX3_sinkLast 11 = .ok (.aload_n 0, 1) := by decide +kernel
theorem dX3_sinkLast_12 : decode cX3_sinkLast 12 = .ok (.iload_n 1, 1) := by decide +kernel
theorem dX3_sinkLast_13 : decode cX3_sinkLast 13 = .ok (.invokevirtual 47, 3) := by decide +kernel
theorem dX3_sinkLast_16 : decode cX3_sinkLast 16 = .ok (.aload_n 0, 1) := by decide +kernel
theorem dX3_sinkLast_17 : decode cX3_sinkLast 17 = .ok (.iload_n 1, 1) := by decide +kernel
theorem dX3_sinkLast_18 : decode cX3_sinkLast 18 = .ok (.iconst 1, 1) := by decide +kernel
theorem dX3_sinkLast_19 : decode cX3_sinkLast 19 = .ok (.isub, 1) := by decide +kernel
theorem dX3_sinkLast_20 : decode cX3_sinkLast 20 = .ok (.invokevirtual 47, 3) := by decide +kernel
theorem dX3_sinkLast_23 : decode cX3_sinkLast 23 = .ok (.if_icmp .ge 42, 3) := by decide +kernel
theorem dX3_sinkLast_26 : decode cX3_sinkLast 26 = .ok (.aload_n 0, 1) := by decide +kernel
theorem dX3_sinkLast_27 : decode cX3_sinkLast 27 = .ok (.getfield 12, 3) := by decide +kernel
theorem dX3_sinkLast_30 : decode cX3_sinkLast 30 = .ok (.iload_n 1, 1) := by decide +kernel
theorem dX3_sinkLast_31 : decode cX3_sinkLast 31 = .ok (.iload_n 1, 1) := by decide +kernel
theorem dX3_sinkLast_32 : decode cX3_sinkLast 32 = .ok (.iconst 1, 1) := by decide +kernel
theorem dX3_sinkLast_33 : decode cX3_sinkLast 33 = .ok (.isub, 1) := by decide +kernel
theorem dX3_sinkLast_34 : decode cX3_sinkLast 34 = .ok (.invokevirtual 63, 3) := by decide +kernel
theorem dX3_sinkLast_37 : decode cX3_sinkLast 37 = .ok (.aload_n 0, 1) := by decide +kernel
theorem dX3_sinkLast_38 : decode cX3_sinkLast 38 = .ok (.getfield 18, 3) := by decide +kernel
theorem dX3_sinkLast_41 : decode cX3_sinkLast 41 = .ok (.iload_n 1, 1) := by decide +kernel
theorem dX3_sinkLast_42 : decode cX3_sinkLast 42 = .ok (.iload_n 1, 1) := by decide +kernel
theorem dX3_sinkLast_43 : decode cX3_sinkLast 43 = .ok (.iconst 1, 1) := by decide +kernel
theorem dX3_sinkLast_44 : decode cX3_sinkLast 44 = .ok (.isub, 1) := by decide +kernel
theorem dX3_sinkLast_45 : decode cX3_sinkLast 45 = .ok (.invokevirtual 63, 3) := by decide +kernel
theorem dX3_sinkLast_48 : decode cX3_sinkLast 48 = .ok (.aload_n 0, 1) := by decide +kernel
theorem dX3_sinkLast_49 : decode cX3_sinkLast 49 = .ok (.getfield 21, 3) := by decide +kernel
theorem dX3_sinkLast_52 : decode cX3_sinkLast 52 = .ok (.iload_n 1, 1) := by decide +kernel
theorem dX3_sinkLast_53 : decode cX3_sinkLast 53 = .ok (.iload_n 1, 1) := by decide +kernel
theorem dX3_sinkLast_54 : decode cX3_sinkLast 54 = .ok (.iconst 1, 1) := by decide +kernel
theorem dX3_sinkLast_55 : decode cX3_sinkLast 55 = .ok (.isub, 1) := by decide +kernel
theorem dX3_sinkLast_56 : decode cX3_sinkLast 56 = .ok (.invokevirtual 63, 3) := by decide +kernel
theorem dX3_sinkLast_59 : decode cX3_sinkLast 59 = .ok (.iinc 1 (-1), 3) := by decide +kernel
theorem dX3_sinkLast_62 : decode cX3_sinkLast 62 = .ok (.goto (-55), 3) := by decide +kernel
theorem dX3_sinkLast_65 : decode cX3_sinkLast 65 = .ok (.return_, 1) := by decide +kernel
theorem dX4_init_0 : decode cX4_init 0 = .ok (.aload_n 0, 1) := by decide +kernel
theorem dX4_init_1 : decode cX4_init 1 = .ok (.invokespecial 1, 3) := by decide +kernel
theorem dX4_init_4 : decode cX4_init 4 = .ok (.aload_n 0, 1) := by decide +kernel
theorem dX4_init_5 : decode cX4_init 5 = .ok (.iconst (-1), 1) := by decide +kernel
theorem dX4_init_6 : decode cX4_init 6 = .ok (.putfield 7, 3) := by decide +kernel
theorem dX4_init_9 : decode cX4_init 9 = .ok (.aload_n 0, 1) := by decide +kernel
theorem dX4_init_10 : decode cX4_init 10 = .ok (.iconst 0, 1) := by decide +kernel
theorem dX4_init_11 : decode cX4_init 11 = .ok (.putfield 13, 3) := by decide +kernel
theorem dX4_init_14 : decode cX4_init 14 = .ok (.aload_n 0, 1) := by decide +kernel
theorem dX4_init_15 : decode cX4_init 15 = .ok (.iconst 0, 1) := by decide +kernel
theorem dX4_init_16 : decode cX4_init 16 = .ok (.putfield 16, 3) := by decide +kernel
theorem dX4_init_19 : decode cX4_init 19 = .ok (.aload_n 0, 1) := by decide +kernel
theorem dX4_init_20 : decode cX4_init 20 = .ok (.iconst 0, 1) := by decide +kernel
theorem dX4_init_21 : decode cX4_init 21 = .ok (.putfield 19, 3) := by decide +kernel
theorem dX4_init_24 : decode cX4_init 24 = .ok (.aload_n 0, 1) := by decide +kernel
theorem dX4_init_25 : decode cX4_init 25 = .ok (.iconst 0, 1) := by decide +kernel
theorem dX4_init_26 : decode cX4_init 26 = .ok (.putfield 22, 3) := by decide +kernel
theorem dX4_init_29 : decode cX4_init 29 = .ok (.return_, 1) := by decide +kernel
theorem dX4_lookFor_0 : decode cX4_lookFor 0 = .ok (.aload_n 0, 1) := by decide +kernel
theorem dX4_lookFor_1 : decode cX4_lookFor 1 = .ok (.iload_n 1, 1) := by decide +kernel
theorem dX4_lookFor_2 : decode cX4_lookFor 2 = .ok (.putfield 7, 3) := by decide +kernel
theorem dX4_lookFor_5 : decode cX4_lookFor 5 = .ok (.aload_n 0, 1) := by decide +kernel
theorem dX4_lookFor_6 : decode cX4_lookFor 6 = .ok (.iconst 0, 1) := by decide +kernel
theorem dX4_lookFor_7 : decode cX4_lookFor 7 = .ok (.putfield 13, 3) := by decide +kernel
theorem dX4_lookFor_10 : decode cX4_lookFor 10 = .ok (.return_, 1) := by decide +kernel
theorem dX4_tell_0 : decode cX4_tell 0 = .ok (.aload_n 0, 1) := by decide +kernel
theorem dX4_tell_1 : decode cX4_tell 1 = .ok (.getfield 13, 3) := by decide +kernel
theorem dX4_tell_4 : decode cX4_tell 4 = .ok (.aload_n 0, 1) := by decide +kernel
theorem dX4_tell_5 : decode cX4_tell 5 = .ok (.getfield 7, 3) := by decide +kernel
theorem dX4_tell_8 : decode cX4_tell 8 = .ok (.if_icmp .ne 18, 3) := by decide +kernel
theorem dX4_tell_11 : decode cX4_tell 11 = .ok (.aload_n 0, 1) := by decide +kernel
theorem dX4_tell_12 : decode cX4_tell 12 = .ok (.iload_n 1, 1) := by decide +kernel
theorem dX4_tell_13 : decode cX4_tell 13 = .ok (.putfield 16, 3) := by decide +kernel
theorem dX4_tell_16 : decode cX4_tell 16 = .ok (.aload_n 0, 1) := by decide +kernel
theorem dX4_tell_17 : decode cX4_tell 17 = .ok (.iload_n 2, 1) := by decide +kernel
theorem dX4_tell_18 : decode cX4_tell 18 = .ok (.putfield 19, 3) := by decide +kernel
theorem dX4_tell_21 : decode cX4_tell 21 = .ok (.aload_n 0, 1) := by decide +kernel
theorem dX4_tell_22 : decode cX4_tell 22 = .ok (.iload_n 3, 1) := by decide +kernel
theorem dX4_tell_23 : decode cX4_tell 23 = .ok (.putfield 22, 3) := by decide +kernel
theorem dX4_tell_26 : decode cX4_tell 26 = .ok (.aload_n 0, 1) := by decide +kernel
theorem dX4_tell_27 : decode cX4_tell 27 = .ok (.dup, 1) := by decide +kernel
theorem dX4_tell_28 : decode cX4_tell 28 = .ok (.getfield 13, 3) := by decide +kernel
theorem dX4_tell_31 : decode cX4_tell 31 = .ok (.iconst 1, 1) := by decide +kernel
theorem dX4_tell_32 : decode cX4_tell 32 = .ok (.iadd, 1) := by decide +kernel
theorem dX4_tell_33 : decode cX4_tell 33 = .ok (.putfield 13, 3) := by decide +kernel
theorem dX4_tell_36 : decode cX4_tell 36 = .ok (.return_, 1) := by decide +kernel
theorem dX5_init_0 : decode cX5_init 0 = .ok (.aload_n 0, 1) := by decide +kernel
theorem dX5_init_1 : decode cX5_init 1 = .ok (.invokespecial 1, 3) := by decide +kernel
theorem dX5_init_4 : decode cX5_init 4 = .ok (.aload_n 0, 1) := by decide +kernel
theorem dX5_init_5 : decode cX5_init 5 = .ok (.bipush 80, 2) := by decide +kernel
theorem dX5_init_7 : decode cX5_init 7 = .ok (.anewarray 9, 3) := by decide +kernel
theorem dX5_init_10 : decode cX5_init 10 = .ok (.putfield 11, 3) := by decide +kernel
theorem dX5_init_13 : decode cX5_init 13 = .ok (.aload_n 0, 1) := by decide +kernel
theorem dX5_init_14 : decode cX5_init 14 = .ok (.new 9, 3) := by decide +kernel
theorem dX5_init_17 : decode cX5_init 17 = .ok (.dup, 1) := by decide +kernel
theorem dX5_init_18 : decode cX5_init 18 = .ok (.iconst 0, 1) := by decide +kernel
theorem dX5_init_19 : decode cX5_init 19 = .ok (.iconst (-1), 1) := by decide +kernel
theorem dX5_init_20 : decode cX5_init 20 = .ok (.invokespecial 15, 3) := by decide +kernel
theorem dX5_init_23 : decode cX5_init 23 = .ok (.putfield 18, 3) := by decide +kernel
theorem dX5_init_26 : decode cX5_init 26 = .ok (.aload_n 0, 1) := by decide +kernel
theorem dX5_init_27 : decode cX5_init 27 = .ok (.iconst 0, 1) := by decide +kernel
theorem dX5_init_28 : decode cX5_init 28 = .ok (.putfield 22, 3) := by decide +kernel
theorem dX5_init_31 : decode cX5_init 31 = .ok (.aload_n 0, 1) := by decide +kernel
theorem dX5_init_32 : decode cX5_init 32 = .ok (.iconst 1, 1) := by decide +kernel
theorem dX5_init_33 : decode cX5_init 33 = .ok (.putfield 26, 3) := by decide +kernel
theorem dX5_init_36 : decode cX5_init 36 = .ok (.aload_n 0, 1) := by decide +kernel
theorem dX5_init_37 : decode cX5_init 37 = .ok (.iconst 1, 1) := by decide +kernel
theorem dX5_init_38 : decode cX5_init 38 = .ok (.putfield 30, 3) := by decide +kernel
theorem dX5_init_41 : decode cX5_init 41 = .ok (.aload_n 0, 1) := by decide +kernel
theorem dX5_init_42 : decode cX5_init 42 = .ok (.new 33, 3) := by decide +kernel
theorem dX5_init_45 : decode cX5_init 45 = .ok (.dup, 1) := by decide +kernel
theorem dX5_init_46 : decode cX5_init 46 = .ok (.bipush 80, 2) := by decide +kernel
theorem dX5_init_48 : decode cX5_init 48 = .ok (.invokespecial 35, 3) := by decide +kernel
theorem dX5_init_51 : decode cX5_init 51 = .ok (.putfield 38, 3) := by decide +kernel
theorem dX5_init_54 : decode cX5_init 54 = .ok (.aload_n 0, 1) := by decide +kernel
theorem dX5_init_55 : decode cX5_init 55 = .ok (.new 33, 3) := by decide +kernel
theorem dX5_init_58 : decode cX5_init 58 = .ok (.dup, 1) := by decide +kernel
theorem dX5_init_59 : decode cX5_init 59 = .ok (.bipush 80, 2) := by decide +kernel
theorem dX5_init_61 : decode cX5_init 61 = .ok (.invokespecial 35, 3) := by decide +kernel
