theorem dX6_see_43 : decode cX6_see 43 = .ok (.aload_n 0, 1) := by decide +kernel
theorem dX6_see_44 : decode cX6_see 44 = .ok (.getfield 44, 3) := by decide +kernel
theorem dX6_see_47 : decode cX6_see 47 = .ok (.iload_n 1, 1) := by decide +kernel
theorem dX6_see_48 : decode cX6_see 48 = .ok (.iaload, 1) := by decide +kernel
theorem dX6_see_49 : decode cX6_see 49 = .ok (.if_icmp .ge 36, 3) := by decide +kernel
theorem dX6_see_52 : decode cX6_see 52 = .ok (.iload 4, 2) := by decide +kernel
theorem dX6_see_54 : decode cX6_see 54 = .ok (.ifCond .ne 18, 3) := by decide +kernel
theorem dX6_see_57 : decode cX6_see 57 = .ok (.aload_n 0, 1) := by decide +kernel
theorem dX6_see_58 : decode cX6_see 58 = .ok (.getfield 41, 3) := by decide +kernel
theorem dX6_see_61 : decode cX6_see 61 = .ok (.iconst 5, 1) := by decide +kernel
theorem dX6_see_62 : decode cX6_see 62 = .ok (.iload_n 1, 1) := by decide +kernel
theorem dX6_see_63 : decode cX6_see 63 = .ok (.imul, 1) := by decide +kernel
theorem dX6_see_64 : decode cX6_see 64 = .ok (.iload 5, 2) := by decide +kernel
theorem dX6_see_66 : decode cX6_see 66 = .ok (.iadd, 1) := by decide +kernel
theorem dX6_see_67 : decode cX6_see 67 = .ok (.iaload, 1) := by decide +kernel
theorem dX6_see_68 : decode cX6_see 68 = .ok (.iload_n 2, 1) := by decide +kernel
theorem dX6_see_69 : decode cX6_see 69 = .ok (.if_icmp .ne 7, 3) := by decide +kernel
theorem dX6_see_72 : decode cX6_see 72 = .ok (.iconst 1, 1) := by decide +kernel
theorem dX6_see_73 : decode cX6_see 73 = .ok (.goto 4, 3) := by decide +kernel
theorem dX6_see_76 : decode cX6_see 76 = .ok (.iconst 0, 1) := by decide +kernel
theorem dX6_see_77 : decode cX6_see 77 = .ok (.istore 4, 2) := by decide +kernel
theorem dX6_see_79 : decode cX6_see 79 = .ok (.iinc 5 1, 3) := by decide +kernel
theorem dX6_see_82 : decode cX6_see 82 = .ok (.goto (-45), 3) := by decide +kernel
theorem dX6_see_85 : decode cX6_see 85 = .ok (.aload_n 0, 1) := by decide +kernel
theorem dX6_see_86 : decode cX6_see 86 = .ok (.iload_n 3, 1) := by decide +kernel
theorem dX6_see_87 : decode cX6_see 87 = .ok (.iload_n 3, 1) := by decide +kernel
theorem dX6_see_88 : decode cX6_see 88 = .ok (.ifCond .ne 22, 3) := by decide +kernel
theorem dX6_see_91 : decode cX6_see 91 = .ok (.iload 4, 2) := by decide +kernel
theorem dX6_see_93 : decode cX6_see 93 = .ok (.ifCond .ne 17, 3) := by decide +kernel
theorem dX6_see_96 : decode cX6_see 96 = .ok (.aload_n 0, 1) := by decide +kernel
theorem dX6_see_97 : decode cX6_see 97 = .ok (.getfield 44, 3) := by decide +kernel
theorem dX6_see_100 : decode cX6_see 100 = .ok (.iload_n 1, 1) := by decide +kernel
theorem dX6_see_101 : decode cX6_see 101 = .ok (.iaload, 1) := by decide +kernel
theorem dX6_see_102 : decode cX6_see 102 = .ok (.iconst 5, 1) := by decide +kernel
theorem dX6_see_103 : decode cX6_see 103 = .ok (.if_icmp .ne 7, 3) := by decide +kernel
theorem dX6_see_106 : decode cX6_see 106 = .ok (.iconst 1, 1) := by decide +kernel
theorem dX6_see_107 : decode cX6_see 107 = .ok (.goto 4, 3) := by decide +kernel
theorem dX6_see_110 : decode cX6_see 110 = .ok (.iconst 0, 1) := by decide +kernel
theorem dX6_see_111 : decode cX6_see 111 = .ok (.iconst 0, 1) := by decide +kernel
theorem dX6_see_112 : decode cX6_see 112 = .ok (.invokevirtual 115, 3) := by decide +kernel
theorem dX6_see_115 : decode cX6_see 115 = .ok (.ifCond .ne 8, 3) := by decide +kernel
theorem dX6_see_118 : decode cX6_see 118 = .ok (.iload 4, 2) := by decide +kernel
theorem dX6_see_120 : decode cX6_see 120 = .ok (.ifCond .eq 5, 3) := by decide +kernel
theorem dX6_see_123 : decode cX6_see 123 = .ok (.iconst 0, 1) := by decide +kernel
theorem dX6_see_124 : decode cX6_see 124 = .ok (.ireturn, 1) := by decide +kernel
theorem dX6_see_125 : decode cX6_see 125 = .ok (.aload_n 0, 1) := by decide +kernel
theorem dX6_see_126 : decode cX6_see 126 = .ok (.getfield 41, 3) := by decide +kernel
theorem dX6_see_129 : decode cX6_see 129 = .ok (.iconst 5, 1) := by decide +kernel
theorem dX6_see_130 : decode cX6_see 130 = .ok (.iload_n 1, 1) := by decide +kernel
theorem dX6_see_131 : decode cX6_see 131 = .ok (.imul, 1) := by decide +kernel
theorem dX6_see_132 : decode cX6_see 132 = .ok (.aload_n 0, 1) := by decide +kernel
theorem dX6_see_133 : decode cX6_see 133 = .ok (.getfield 44, 3) := by decide +kernel
theorem dX6_see_136 : decode cX6_see 136 = .ok (.iload_n 1, 1) := by decide +kernel
theorem dX6_see_137 : decode cX6_see 137 = .ok (.iaload, 1) := by decide +kernel
theorem dX6_see_138 : decode cX6_see 138 = .ok (.iadd, 1) := by decide +kernel
theorem dX6_see_139 : decode cX6_see 139 = .ok (.iload_n 2, 1) := by decide +kernel
theorem dX6_see_140 : decode cX6_see 140 = .ok (.iastore, 1) := by decide +kernel
theorem dX6_see_141 : decode cX6_see 141 = .ok (.aload_n 0, 1) := by decide +kernel
theorem dX6_see_142 : decode cX6_see 142 = .ok (.getfield 44, 3) := by decide +kernel
theorem dX6_see_145 : decode cX6_see 145 = .ok (.iload_n 1, 1) := by decide +kernel
theorem dX6_see_146 : decode cX6_see 146 = .ok (.dup2, 1) := by decide +kernel
theorem dX6_see_147 : decode cX6_see 147 = .ok (.iaload, 1) := by decide +kernel
theorem dX6_see_148 : decode cX6_see 148 = .ok (.iconst 1, 1) := by decide +kernel
theorem dX6_see_149 : decode cX6_see 149 = .ok (.iadd, 1) := by decide +kernel
theorem dX6_see_150 : decode cX6_see 150 = .ok (.iastore, 1) := by decide +kernel
theorem dX6_see_151 : decode cX6_see 151 = .ok (.iconst 1, 1) := by decide +kernel
theorem dX6_see_152 : decode cX6_see 152 = .ok (.ireturn, 1) := by decide +kernel
theorem dX6_rule_0 : decode cX6_rule 0 = .ok (.aload_n 0, 1) := by decide +kernel
theorem dX6_rule_1 : decode cX6_rule 1 = .ok (.iload_n 1, 1) := by decide +kernel
theorem dX6_rule_2 : decode cX6_rule 2 = .ok (.ifCond .eq 12, 3) := by decide +kernel
theorem dX6_rule_5 : decode cX6_rule 5 = .ok (.iload_n 1, 1) := by decide +kernel
theorem dX6_rule_6 : decode cX6_rule 6 = .ok (.iconst 1, 1) := by decide +kernel
theorem dX6_rule_7 : decode cX6_rule 7 = .ok (.if_icmp .eq 7, 3) := by decide +kernel
theorem dX6_rule_10 : decode cX6_rule 10 = .ok (.iconst 1, 1) := by decide +kernel
theorem dX6_rule_11 : decode cX6_rule 11 = .ok (.goto 4, 3) := by decide +kernel
theorem dX6_rule_14 : decode cX6_rule 14 = .ok (.iconst 0, 1) := by decide +kernel
theorem dX6_rule_15 : decode cX6_rule 15 = .ok (.iconst 0, 1) := by decide +kernel
theorem dX6_rule_16 : decode cX6_rule 16 = .ok (.iconst 0, 1) := by decide +kernel
theorem dX6_rule_17 : decode cX6_rule 17 = .ok (.invokevirtual 115, 3) := by decide +kernel
theorem dX6_rule_20 : decode cX6_rule 20 = .ok (.ifCond .eq 5, 3) := by decide +kernel
theorem dX6_rule_23 : decode cX6_rule 23 = .ok (.iconst 0, 1) := by decide +kernel
theorem dX6_rule_24 : decode cX6_rule 24 = .ok (.ireturn, 1) := by decide +kernel
theorem dX6_rule_25 : decode cX6_rule 25 = .ok (.iload_n 1, 1) := by decide +kernel
theorem dX6_rule_26 : decode cX6_rule 26 = .ok (.ifCond .ne 10, 3) := by decide +kernel
theorem dX6_rule_29 : decode cX6_rule 29 = .ok (.aload_n 0, 1) := by decide +kernel
theorem dX6_rule_30 : decode cX6_rule 30 = .ok (.getfield 47, 3) := by decide +kernel
theorem dX6_rule_33 : decode cX6_rule 33 = .ok (.goto 7, 3) := by decide +kernel
theorem dX6_rule_36 : decode cX6_rule 36 = .ok (.aload_n 0, 1) := by decide +kernel
theorem dX6_rule_37 : decode cX6_rule 37 = .ok (.getfield 51, 3) := by decide +kernel
theorem dX6_rule_40 : decode cX6_rule 40 = .ok (.istore_n 3, 1) := by decide +kernel
theorem dX6_rule_41 : decode cX6_rule 41 = .ok (.aload_n 0, 1) := by decide +kernel
theorem dX6_rule_42 : decode cX6_rule 42 = .ok (.iload_n 1, 1) := by decide +kernel
theorem dX6_rule_43 : decode cX6_rule 43 = .ok (.ifCond .ne 7, 3) := by decide +kernel
theorem dX6_rule_46 : decode cX6_rule 46 = .ok (.iload_n 2, 1) := by decide +kernel
theorem dX6_rule_47 : decode cX6_rule 47 = .ok (.goto 7, 3) := by decide +kernel
theorem dX6_rule_50 : decode cX6_rule 50 = .ok (.aload_n 0, 1) := by decide +kernel
theorem dX6_rule_51 : decode cX6_rule 51 = .ok (.getfield 47, 3) := by decide +kernel
theorem dX6_rule_54 : decode cX6_rule 54 = .ok (.putfield 47, 3) := by decide +kernel
theorem dX6_rule_57 : decode cX6_rule 57 = .ok (.aload_n 0, 1) := by decide +kernel
theorem dX6_rule_58 : decode cX6_rule 58 = .ok (.iload_n 1, 1) := by decide +kernel
theorem dX6_rule_59 : decode cX6_rule 59 = .ok (.iconst 1, 1) := by decide +kernel
theorem dX6_rule_60 : decode cX6_rule 60 = .ok (.if_icmp .ne 7, 3) := by decide +kernel
theorem dX6_rule_63 : decode cX6_rule 63 = .ok (.iload_n 2, 1) := by decide +kernel
theorem dX6_rule_64 : decode cX6_rule 64 = .ok (.goto 7, 3) := by decide +kernel
theorem dX6_rule_67 : decode cX6_rule 67 = .ok (.aload_n 0, 1) := by decide +kernel
theorem dX6_rule_68 : decode cX6_rule 68 = .ok (.getfield 51, 3) := by decide +kernel
theorem dX6_rule_71 : decode cX6_rule 71 = .ok (.putfield 51, 3) := by decide +kernel
theorem dX6_rule_74 : decode cX6_rule 74 = .ok (.aload_n 0, 1) := by decide +kernel
theorem dX6_rule_75 : decode cX6_rule 75 = .ok (.iconst 0, 1) := by decide +kernel
theorem dX6_rule_76 : decode cX6_rule 76 = .ok (.putfield 119, 3) := by decide +kernel
theorem dX6_rule_79 : decode cX6_rule 79 = .ok (.iload_n 3, 1) := by decide +kernel
theorem dX6_rule_80 : decode cX6_rule 80 = .ok (.ifCond .eq 7, 3) := by decide +kernel
theorem dX6_rule_83 : decode cX6_rule 83 = .ok (.iconst 1, 1) := by decide +kernel
theorem dX6_rule_84 : decode cX6_rule 84 = .ok (.goto 4, 3) := by decide +kernel
theorem dX6_rule_87 : decode cX6_rule 87 = .ok (.iconst 0, 1) := by decide +kernel
theorem dX6_rule_88 : decode cX6_rule 88 = .ok (.ireturn, 1) := by decide +kernel
theorem dX6_isNumber_0 : decode cX6_isNumber 0 = .ok (.iload_n 0, 1) := by decide +kernel
theorem dX6_isNumber_1 : decode cX6_isNumber 1 = .ok (.bipush 48, 2) := by decide +kernel
theorem dX6_isNumber_3 : decode cX6_isNumber 3 = .ok (.if_icmp .lt 13, 3) := by decide +kernel
theorem dX6_isNumber_6 : decode cX6_isNumber 6 = .ok (.iload_n 0, 1) := by decide +kernel
theorem dX6_isNumber_7 : decode cX6_isNumber 7 = .ok (.bipush 57, 2) := by decide +kernel
theorem dX6_isNumber_9 : decode cX6_isNumber 9 = .ok (.if_icmp .gt 7, 3) := by decide +kernel
theorem dX6_isNumber_12 : decode cX6_isNumber 12 = .ok (.iconst 1, 1) := by decide +kernel
theorem dX6_isNumber_13 : decode cX6_isNumber 13 = .ok (.goto 4, 3) := by decide +kernel
theorem dX6_isNumber_16 : decode cX6_isNumber 16 = .ok (.iconst 0, 1) := by decide +kernel
theorem dX6_isNumber_17 : decode cX6_isNumber 17 = .ok (.ireturn, 1) := by decide +kernel
theorem dX6_letterOf_0 : decode cX6_letterOf 0 = .ok (.iload_n 0, 1) := by decide +kernel
theorem dX6_letterOf_1 : decode cX6_letterOf 1 = .ok (.sipush 128, 3) := by decide +kernel
theorem dX6_letterOf_4 : decode cX6_letterOf 4 = .ok (.irem, 1) := by decide +kernel
theorem dX6_letterOf_5 : decode cX6_letterOf 5 = .ok (.istore_n 1, 1) := by decide +kernel
theorem dX6_letterOf_6 : decode cX6_letterOf 6 = .ok (.iload_n 1, 1) := by decide +kernel
theorem dX6_letterOf_7 : decode cX6_letterOf 7 = .ok (.bipush 97, 2) := by decide +kernel
theorem dX6_letterOf_9 : decode cX6_letterOf 9 = .ok (.if_icmp .lt 13, 3) := by decide +kernel
theorem dX6_letterOf_12 : decode cX6_letterOf 12 = .ok (.iload_n 1, 1) := by decide +kernel
theorem dX6_letterOf_13 : decode cX6_letterOf 13 = .ok (.bipush 122, 2) := by decide +kernel
theorem dX6_letterOf_15 : decode cX6_letterOf 15 = .ok (.if_icmp .gt 7, 3) := by decide +kernel
theorem dX6_letterOf_18 : decode cX6_letterOf 18 = .ok (.iload_n 1, 1) := by decide +kernel
theorem dX6_letterOf_19 : decode cX6_letterOf 19 = .ok (.goto 23, 3) := by decide +kernel
theorem dX6_letterOf_22 : decode cX6_letterOf 22 = .ok (.iload_n 1, 1) := by decide +kernel
theorem dX6_letterOf_23 : decode cX6_letterOf 23 = .ok (.bipush 65, 2) := by decide +kernel
theorem dX6_letterOf_25 : decode cX6_letterOf 25 = .ok (.if_icmp .lt 16, 3) := by decide +kernel
theorem dX6_letterOf_28 : decode cX6_letterOf 28 = .ok (.iload_n 1, 1) := by decide +kernel
theorem dX6_letterOf_29 : decode cX6_letterOf 29 = .ok (.bipush 90, 2) := by decide +kernel
theorem dX6_letterOf_31 : decode cX6_letterOf 31 = .ok (.if_icmp .gt 10, 3) := by decide +kernel
theorem dX6_letterOf_34 : decode cX6_letterOf 34 = .ok (.iload_n 1, 1) := by decide +kernel
theorem dX6_letterOf_35 : decode cX6_letterOf 35 = .ok (.bipush 32, 2) := by decide +kernel
theorem dX6_letterOf_37 : decode cX6_letterOf 37 = .ok (.iadd, 1) := by decide +kernel
theorem dX6_letterOf_38 : decode cX6_letterOf 38 = .ok (.goto 4, 3) := by decide +kernel
theorem dX6_letterOf_41 : decode cX6_letterOf 41 = .ok (.iconst 0, 1) := by decide +kernel
theorem dX6_letterOf_42 : decode cX6_letterOf 42 = .ok (.ireturn, 1) := by decide +kernel
theorem dX6_begin_0 : decode cX6_begin 0 = .ok (.aload_n 0, 1) := by decide +kernel
theorem dX6_begin_1 : decode cX6_begin 1 = .ok (.getfield 60, 3) := by decide +kernel
theorem dX6_begin_4 : decode cX6_begin 4 = .ok (.iload_n 1, 1) := by decide +kernel
theorem dX6_begin_5 : decode cX6_begin 5 = .ok (.iconst 0, 1) := by decide +kernel
theorem dX6_begin_6 : decode cX6_begin 6 = .ok (.iastore, 1) := by decide +kernel
theorem dX6_begin_7 : decode cX6_begin 7 = .ok (.aload_n 0, 1) := by decide +kernel
theorem dX6_begin_8 : decode cX6_begin 8 = .ok (.getfield 63, 3) := by decide +kernel
theorem dX6_begin_11 : decode cX6_begin 11 = .ok (.iload_n 1, 1) := by decide +kernel
theorem dX6_begin_12 : decode cX6_begin 12 = .ok (.iconst 0, 1) := by decide +kernel
theorem dX6_begin_13 : decode cX6_begin 13 = .ok (.bastore, 1) := by decide +kernel
theorem dX6_begin_14 : decode cX6_begin 14 = .ok (.return_, 1) := by decide +kernel
theorem dX6_step_0 : decode cX6_step 0 = .ok (.aload_n 0, 1) := by decide +kernel
theorem dX6_step_1 : decode cX6_step 1 = .ok (.getfield 60, 3) := by decide +kernel
theorem dX6_step_4 : decode cX6_step 4 = .ok (.iload_n 1, 1) := by decide +kernel
theorem dX6_step_5 : decode cX6_step 5 = .ok (.iaload, 1) := by decide +kernel
theorem dX6_step_6 : decode cX6_step 6 = .ok (.istore_n 3, 1) := by decide +kernel
theorem dX6_step_7 : decode cX6_step 7 = .ok (.iconst 0, 1) := by decide +kernel
theorem dX6_step_8 : decode cX6_step 8 = .ok (.istore 4, 2) := by decide +kernel
theorem dX6_step_10 : decode cX6_step 10 = .ok (.iload_n 3, 1) := by decide +kernel
theorem dX6_step_11 : decode cX6_step 11 = .ok (.aload_n 0, 1) := by decide +kernel
theorem dX6_step_12 : decode cX6_step 12 = .ok (.getfield 19, 3) := by decide +kernel
theorem dX6_step_15 : decode cX6_step 15 = .ok (.iload_n 2, 1) := by decide +kernel
theorem dX6_step_16 : decode cX6_step 16 = .ok (.iaload, 1) := by decide +kernel
theorem dX6_step_17 : decode cX6_step 17 = .ok (.if_icmp .ge 46, 3) := by decide +kernel
theorem dX6_step_20 : decode cX6_step 20 = .ok (.aload_n 0, 1) := by decide +kernel
theorem dX6_step_21 : decode cX6_step 21 = .ok (.getfield 16, 3) := by decide +kernel
theorem dX6_step_24 : decode cX6_step 24 = .ok (.bipush 20, 2) := by decide +kernel
theorem dX6_step_26 : decode cX6_step 26 = .ok (.iload_n 2, 1) := by decide +kernel
theorem dX6_step_27 : decode cX6_step 27 = .ok (.imul, 1) := by decide +kernel
theorem dX6_step_28 : decode cX6_step 28 = .ok (.iload_n 3, 1) := by decide +kernel
theorem dX6_step_29 : decode cX6_step 29 = .ok (.iadd, 1) := by decide +kernel
theorem dX6_step_30 : decode cX6_step 30 = .ok (.iaload, 1) := by decide +kernel
theorem dX6_step_31 : decode cX6_step 31 = .ok (.invokestatic 133, 3) := by decide +kernel
theorem dX6_step_34 : decode cX6_step 34 = .ok (.ifCond .ne 29, 3) := by decide +kernel
theorem dX6_step_37 : decode cX6_step 37 = .ok (.aload_n 0, 1) := by decide +kernel
theorem dX6_step_38 : decode cX6_step 38 = .ok (.getfield 16, 3) := by decide +kernel
theorem dX6_step_41 : decode cX6_step 41 = .ok (.bipush 20, 2) := by decide +kernel
theorem dX6_step_43 : decode cX6_step 43 = .ok (.iload_n 2, 1) := by decide +kernel
theorem dX6_step_44 : decode cX6_step 44 = .ok (.imul, 1) := by decide +kernel
theorem dX6_step_45 : decode cX6_step 45 = .ok (.iload_n 3, 1) := by decide +kernel
theorem dX6_step_46 : decode cX6_step 46 = .ok (.iadd, 1) := by decide +kernel
theorem dX6_step_47 : decode cX6_step 47 = .ok (.iaload, 1) := by decide +kernel
theorem dX6_step_48 : decode cX6_step 48 = .ok (.invokestatic 136, 3) := by decide +kernel
theorem dX6_step_51 : decode cX6_step 51 = .ok (.ifCond .ne 12, 3) := by decide +kernel
theorem dX6_step_54 : decode cX6_step 54 = .ok (.iconst 1, 1) := by decide +kernel
theorem dX6_step_55 : decode cX6_step 55 = .ok (.istore 4, 2) := by decide +kernel
theorem dX6_step_57 : decode cX6_step 57 = .ok (.iinc 3 1, 3) := by decide +kernel
theorem dX6_step_60 : decode cX6_step 60 = .ok (.goto (-50), 3) := by decide +kernel
theorem dX6_step_63 : decode cX6_step 63 = .ok (.aload_n 0, 1) := by decide +kernel
theorem dX6_step_64 : decode cX6_step 64 = .ok (.getfield 60, 3) := by decide +kernel
theorem dX6_step_67 : decode cX6_step 67 = .ok (.iload_n 1, 1) := by decide +kernel
theorem dX6_step_68 : decode cX6_step 68 = .ok (.iload_n 3, 1) := by decide +kernel
theorem dX6_step_69 : decode cX6_step 69 = .ok (.iastore, 1) := by decide +kernel
theorem dX6_step_70 : decode cX6_step 70 = .ok (.aload_n 0, 1) := by decide +kernel
theorem dX6_step_71 : decode cX6_step 71 = .ok (.getfield 66, 3) := by decide +kernel
theorem dX6_step_74 : decode cX6_step 74 = .ok (.iload_n 1, 1) := by decide +kernel
theorem dX6_step_75 : decode cX6_step 75 = .ok (.iconst (-1), 1) := by decide +kernel
theorem dX6_step_76 : decode cX6_step 76 = .ok (.iastore, 1) := by decide +kernel
theorem dX6_step_77 : decode cX6_step 77 = .ok (.aload_n 0, 1) := by decide +kernel
theorem dX6_step_78 : decode cX6_step 78 = .ok (.getfield 69, 3) := by decide +kernel
theorem dX6_step_81 : decode cX6_step 81 = .ok (.iload_n 1, 1) := by decide +kernel
theorem dX6_step_82 : decode cX6_step 82 = .ok (.iconst 0, 1) := by decide +kernel
theorem dX6_step_83 : decode cX6_step 83 = .ok (.iastore, 1) := by decide +kernel
theorem dX6_step_84 : decode cX6_step 84 = .ok (.aload_n 0, 1) := by decide +kernel
theorem dX6_step_85 : decode cX6_step 85 = .ok (.getfield 72, 3) := by decide +kernel
theorem dX6_step_88 : decode cX6_step 88 = .ok (.iload_n 1, 1) := by decide +kernel
theorem dX6_step_89 : decode cX6_step 89 = .ok (.iconst 0, 1) := by decide +kernel
theorem dX6_step_90 : decode cX6_step 90 = .ok (.iastore, 1) := by decide +kernel
theorem dX6_step_91 : decode cX6_step 91 = .ok (.iload_n 3, 1) := by decide +kernel
theorem dX6_step_92 : decode cX6_step 92 = .ok (.aload_n 0, 1) := by decide +kernel
theorem dX6_step_93 : decode cX6_step 93 = .ok (.getfield 19, 3) := by decide +kernel
theorem dX6_step_96 : decode cX6_step 96 = .ok (.iload_n 2, 1) := by decide +kernel
theorem dX6_step_97 : decode cX6_step 97 = .ok (.iaload, 1) := by decide +kernel
theorem dX6_step_98 : decode cX6_step 98 = .ok (.if_icmp .ne 4, 3) := by decide +kernel
theorem dX6_step_101 : decode cX6_step 101 = .ok (.return_, 1) := by decide +kernel
theorem dX6_step_102 : decode cX6_step 102 = .ok (.iload 4, 2) := by decide +kernel
theorem dX6_step_104 : decode cX6_step 104 = .ok (.ifCond .eq 27, 3) := by decide +kernel
theorem dX6_step_107 : decode cX6_step 107 = .ok (.aload_n 0, 1) := by decide +kernel
theorem dX6_step_108 : decode cX6_step 108 = .ok (.getfield 51, 3) := by decide +kernel
theorem dX6_step_111 : decode cX6_step 111 = .ok (.ifCond .eq 20, 3) := by decide +kernel
theorem dX6_step_114 : decode cX6_step 114 = .ok (.aload_n 0, 1) := by decide +kernel
theorem dX6_step_115 : decode cX6_step 115 = .ok (.getfield 63, 3) := by decide +kernel
theorem dX6_step_118 : decode cX6_step 118 = .ok (.iload_n 1, 1) := by decide +kernel
theorem dX6_step_119 : decode cX6_step 119 = .ok (.baload, 1) := by decide +kernel
theorem dX6_step_120 : decode cX6_step 120 = .ok (.ifCond .eq 11, 3) := by decide +kernel
theorem dX6_step_123 : decode cX6_step 123 = .ok (.aload_n 0, 1) := by decide +kernel
theorem dX6_step_124 : decode cX6_step 124 = .ok (.getfield 66, 3) := by decide +kernel
theorem dX6_step_127 : decode cX6_step 127 = .ok (.iload_n 1, 1) := by decide +kernel
theorem dX6_step_128 : decode cX6_step 128 = .ok (.iconst 0, 1) := by decide +kernel
theorem dX6_step_129 : decode cX6_step 129 = .ok (.iastore, 1) := by decide +kernel
theorem dX6_step_130 : decode cX6_step 130 = .ok (.return_, 1) := by decide +kernel
theorem dX6_step_131 : decode cX6_step 131 = .ok (.aload_n 0, 1) := by decide +kernel
theorem dX6_step_132 : decode cX6_step 132 = .ok (.getfield 63, 3) := by decide +kernel
theorem dX6_step_135 : decode cX6_step 135 = .ok (.iload_n 1, 1) := by decide +kernel
theorem dX6_step_136 : decode cX6_step 136 = .ok (.iconst 1, 1) := by decide +kernel
theorem dX6_step_137 : decode cX6_step 137 = .ok (.bastore, 1) := by decide +kernel
theorem dX6_step_138 : decode cX6_step 138 = .ok (.aload_n 0, 1) := by decide +kernel
theorem dX6_step_139 : decode cX6_step 139 = .ok (.getfield 16, 3) := by decide +kernel
theorem dX6_step_142 : decode cX6_step 142 = .ok (.bipush 20, 2) := by decide +kernel
theorem dX6_step_144 : decode cX6_step 144 = .ok (.iload_n 2, 1) := by decide +kernel
theorem dX6_step_145 : decode cX6_step 145 = .ok (.imul, 1) := by decide +kernel
theorem dX6_step_146 : decode cX6_step 146 = .ok (.iload_n 3, 1) := by decide +kernel
theorem dX6_step_147 : decode cX6_step 147 = .ok (.iadd, 1) := by decide +kernel
theorem dX6_step_148 : decode cX6_step 148 = .ok (.iaload, 1) := by decide +kernel
theorem dX6_step_149 : decode cX6_step 149 = .ok (.istore 5, 2) := by decide +kernel
theorem dX6_step_151 : decode cX6_step 151 = .ok (.iload 5, 2) := by decide +kernel
theorem dX6_step_153 : decode cX6_step 153 = .ok (.invokestatic 133, 3) := by decide +kernel
theorem dX6_step_156 : decode cX6_step 156 = .ok (.ifCond .le 31, 3) := by decide +kernel
theorem dX6_step_159 : decode cX6_step 159 = .ok (.aload_n 0, 1) := by decide +kernel
theorem dX6_step_160 : decode cX6_step 160 = .ok (.getfield 66, 3) := by decide +kernel
theorem dX6_step_163 : decode cX6_step 163 = .ok (.iload_n 1, 1) := by decide +kernel
theorem dX6_step_164 : decode cX6_step 164 = .ok (.iconst 2, 1) := by decide +kernel
theorem dX6_step_165 : decode cX6_step 165 = .ok (.iastore, 1) := by decide +kernel
theorem dX6_step_166 : decode cX6_step 166 = .ok (.aload_n 0, 1) := by decide +kernel
theorem dX6_step_167 : decode cX6_step 167 = .ok (.getfield 69, 3) := by decide +kernel
theorem dX6_step_170 : decode cX6_step 170 = .ok (.iload_n 1, 1) := by decide +kernel
theorem dX6_step_171 : decode cX6_step 171 = .ok (.iload 5, 2) := by decide +kernel
theorem dX6_step_173 : decode cX6_step 173 = .ok (.invokestatic 133, 3) := by decide +kernel
theorem dX6_step_176 : decode cX6_step 176 = .ok (.iastore, 1) := by decide +kernel
theorem dX6_step_177 : decode cX6_step 177 = .ok (.aload_n 0, 1) := by decide +kernel
theorem dX6_step_178 : decode cX6_step 178 = .ok (.getfield 60, 3) := by decide +kernel
theorem dX6_step_181 : decode cX6_step 181 = .ok (.iload_n 1, 1) := by decide +kernel
theorem dX6_step_182 : decode cX6_step 182 = .ok (.iload_n 3, 1) := by decide +kernel
theorem dX6_step_183 : decode cX6_step 183 = .ok (.iconst 1, 1) := by decide +kernel
theorem dX6_step_184 : decode cX6_step 184 = .ok (.iadd, 1) := by decide +kernel
theorem dX6_step_185 : decode cX6_step 185 = .ok (.iastore, 1) := by decide +kernel
theorem dX6_step_186 : decode cX6_step 186 = .ok (.return_, 1) := by decide +kernel
theorem dX6_step_187 : decode cX6_step 187 = .ok (.iload_n 3, 1) := by decide +kernel
theorem dX6_step_188 : decode cX6_step 188 = .ok (.iconst 1, 1) := by decide +kernel
theorem dX6_step_189 : decode cX6_step 189 = .ok (.iadd, 1) := by decide +kernel
theorem dX6_step_190 : decode cX6_step 190 = .ok (.istore 6, 2) := by decide +kernel
theorem dX6_step_192 : decode cX6_step 192 = .ok (.aload_n 0, 1) := by decide +kernel
theorem dX6_step_193 : decode cX6_step 193 = .ok (.getfield 47, 3) := by decide +kernel
theorem dX6_step_196 : decode cX6_step 196 = .ok (.ifCond .eq 38, 3) := by decide +kernel
theorem dX6_step_199 : decode cX6_step 199 = .ok (.iload 6, 2) := by decide +kernel
theorem dX6_step_201 : decode cX6_step 201 = .ok (.aload_n 0, 1) := by decide +kernel
theorem dX6_step_202 : decode cX6_step 202 = .ok (.getfield 19, 3) := by decide +kernel
theorem dX6_step_205 : decode cX6_step 205 = .ok (.iload_n 2, 1) := by decide +kernel
theorem dX6_step_206 : decode cX6_step 206 = .ok (.iaload, 1) := by decide +kernel
theorem dX6_step_207 : decode cX6_step 207 = .ok (.if_icmp .ge 27, 3) := by decide +kernel
theorem dX6_step_210 : decode cX6_step 210 = .ok (.aload_n 0, 1) := by decide +kernel
theorem dX6_step_211 : decode cX6_step 211 = .ok (.getfield 16, 3) := by decide +kernel
theorem dX6_step_214 : decode cX6_step 214 = .ok (.bipush 20, 2) := by decide +kernel
theorem dX6_step_216 : decode cX6_step 216 = .ok (.iload_n 2, 1) := by decide +kernel
theorem dX6_step_217 : decode cX6_step 217 = .ok (.imul, 1) := by decide +kernel
theorem dX6_step_218 : decode cX6_step 218 = .ok (.iload 6, 2) := by decide +kernel
theorem dX6_step_220 : decode cX6_step 220 = .ok (.iadd, 1) := by decide +kernel
theorem dX6_step_221 : decode cX6_step 221 = .ok (.iaload, 1) := by decide +kernel
theorem dX6_step_222 : decode cX6_step 222 = .ok (.invokestatic 136, 3) := by decide +kernel
theorem dX6_step_225 : decode cX6_step 225 = .ok (.ifCond .eq 9, 3) := by decide +kernel
theorem dX6_step_228 : decode cX6_step 228 = .ok (.iinc 6 1, 3) := by decide +kernel
theorem dX6_step_231 : decode cX6_step 231 = .ok (.goto (-39), 3) := by decide +kernel
theorem dX6_step_234 : decode cX6_step 234 = .ok (.iload_n 3, 1) := by decide +kernel
theorem dX6_step_235 : decode cX6_step 235 = .ok (.iload 6, 2) := by decide +kernel
theorem dX6_step_237 : decode cX6_step 237 = .ok (.if_icmp .ge 25, 3) := by decide +kernel
theorem dX6_step_240 : decode cX6_step 240 = .ok (.aload_n 0, 1) := by decide +kernel
theorem dX6_step_241 : decode cX6_step 241 = .ok (.getfield 16, 3) := by decide +kernel
theorem dX6_step_244 : decode cX6_step 244 = .ok (.bipush 20, 2) := by decide +kernel
theorem dX6_step_246 : decode cX6_step 246 = .ok (.iload_n 2, 1) := by decide +kernel
theorem dX6_step_247 : decode cX6_step 247 = .ok (.imul, 1) := by decide +kernel
theorem dX6_step_248 : decode cX6_step 248 = .ok (.iload_n 3, 1) := by decide +kernel
theorem dX6_step_249 : decode cX6_step 249 = .ok (.iadd, 1) := by decide +kernel
theorem dX6_step_250 : decode cX6_step 250 = .ok (.iaload, 1) := by decide +kernel
theorem dX6_step_251 : decode cX6_step 251 = .ok (.bipush 48, 2) := by decide +kernel
theorem dX6_step_253 : decode cX6_step 253 = .ok (.if_icmp .ne 9, 3) := by decide +kernel
theorem dX6_step_256 : decode cX6_step 256 = .ok (.iinc 3 1, 3) := by decide +kernel
theorem dX6_step_259 : decode cX6_step 259 = .ok (.goto (-25), 3) := by decide +kernel
theorem dX6_step_262 : decode cX6_step 262 = .ok (.aload_n 0, 1) := by decide +kernel
theorem dX6_step_263 : decode cX6_step 263 = .ok (.getfield 66, 3) := by decide +kernel
theorem dX6_step_266 : decode cX6_step 266 = .ok (.iload_n 1, 1) := by decide +kernel
theorem dX6_step_267 : decode cX6_step 267 = .ok (.iconst 1, 1) := by decide +kernel
theorem dX6_step_268 : decode cX6_step 268 = .ok (.iastore, 1) := by decide +kernel
theorem dX6_step_269 : decode cX6_step 269 = .ok (.aload_n 0, 1) := by decide +kernel
theorem dX6_step_270 : decode cX6_step 270 = .ok (.getfield 69, 3) := by decide +kernel
theorem dX6_step_273 : decode cX6_step 273 = .ok (.iload_n 1, 1) := by decide +kernel
theorem dX6_step_274 : decode cX6_step 274 = .ok (.bipush 20, 2) := by decide +kernel
theorem dX6_step_276 : decode cX6_step 276 = .ok (.iload_n 2, 1) := by decide +kernel
theorem dX6_step_277 : decode cX6_step 277 = .ok (.imul, 1) := by decide +kernel
theorem dX6_step_278 : decode cX6_step 278 = .ok (.iload_n 3, 1) := by decide +kernel
theorem dX6_step_279 : decode cX6_step 279 = .ok (.iadd, 1) := by decide +kernel
theorem dX6_step_280 : decode cX6_step 280 = .ok (.iastore, 1) := by decide +kernel
theorem dX6_step_281 : decode cX6_step 281 = .ok (.aload_n 0, 1) := by decide +kernel
theorem dX6_step_282 : decode cX6_step 282 = .ok (.getfield 72, 3) := by decide +kernel
theorem dX6_step_285 : decode cX6_step 285 = .ok (.iload_n 1, 1) := by decide +kernel
theorem dX6_step_286 : decode cX6_step 286 = .ok (.iload 6, 2) := by decide +kernel
theorem dX6_step_288 : decode cX6_step 288 = .ok (.iload_n 3, 1) := by decide +kernel
theorem dX6_step_289 : decode cX6_step 289 = .ok (.isub, 1) := by decide +kernel
theorem dX6_step_290 : decode cX6_step 290 = .ok (.iastore, 1) := by decide +kernel
theorem dX6_step_291 : decode cX6_step 291 = .ok (.aload_n 0, 1) := by decide +kernel
theorem dX6_step_292 : decode cX6_step 292 = .ok (.getfield 60, 3) := by decide +kernel
theorem dX6_step_295 : decode cX6_step 295 = .ok (.iload_n 1, 1) := by decide +kernel
theorem dX6_step_296 : decode cX6_step 296 = .ok (.iload 6, 2) := by decide +kernel
theorem dX6_step_298 : decode cX6_step 298 = .ok (.iastore, 1) := by decide +kernel
theorem dX6_step_299 : decode cX6_step 299 = .ok (.return_, 1) := by decide +kernel
theorem dX6_unitsDiffer_0 : decode cX6_unitsDiffer 0 = .ok (.aload_n 0, 1) := by decide +kernel
theorem dX6_unitsDiffer_1 : decode cX6_unitsDiffer 1 = .ok (.getfield 66, 3) := by decide +kernel
theorem dX6_unitsDiffer_4 : decode cX6_unitsDiffer 4 = .ok (.iconst 0, 1) := by decide +kernel
theorem dX6_unitsDiffer_5 : decode cX6_unitsDiffer 5 = .ok (.iaload, 1) := by decide +kernel
theorem dX6_unitsDiffer_6 : decode cX6_unitsDiffer 6 = .ok (.aload_n 0, 1) := by decide +kernel
theorem dX6_unitsDiffer_7 : decode cX6_unitsDiffer 7 = .ok (.getfield 66, 3) := by decide +kernel
theorem dX6_unitsDiffer_10 : decode cX6_unitsDiffer 10 = .ok (.iconst 1, 1) := by decide +kernel
theorem dX6_unitsDiffer_11 : decode cX6_unitsDiffer 11 = .ok (.iaload, 1) := by decide +kernel
theorem dX6_unitsDiffer_12 : decode cX6_unitsDiffer 12 = .ok (.if_icmp .eq 24, 3) := by decide +kernel
theorem dX6_unitsDiffer_15 : decode cX6_unitsDiffer 15 = .ok (.aload_n 0, 1) := by decide +kernel
theorem dX6_unitsDiffer_16 : decode cX6_unitsDiffer 16 = .ok (.getfield 66, 3) := by decide +kernel
theorem dX6_unitsDiffer_19 : decode cX6_unitsDiffer 19 = .ok (.iconst 0, 1) := by decide +kernel
theorem dX6_unitsDiffer_20 : decode cX6_unitsDiffer 20 = .ok (.iaload, 1) := by decide +kernel
theorem dX6_unitsDiffer_21 : decode cX6_unitsDiffer 21 = .ok (.aload_n 0, 1) := by decide +kernel
theorem dX6_unitsDiffer_22 : decode cX6_unitsDiffer 22 = .ok (.getfield 66, 3) := by decide +kernel
theorem dX6_unitsDiffer_25 : decode cX6_unitsDiffer 25 = .ok (.iconst 1, 1) := by decide +kernel
theorem dX6_unitsDiffer_26 : decode cX6_unitsDiffer 26 = .ok (.iaload, 1) := by decide +kernel
theorem dX6_unitsDiffer_27 : decode cX6_unitsDiffer 27 = .ok (.if_icmp .ge 7, 3) := by decide +kernel
theorem dX6_unitsDiffer_30 : decode cX6_unitsDiffer 30 = .ok (.iconst (-1), 1) := by decide +kernel
theorem dX6_unitsDiffer_31 : decode cX6_unitsDiffer 31 = .ok (.goto 4, 3) := by decide +kernel
theorem dX6_unitsDiffer_34 : decode cX6_unitsDiffer 34 = .ok (.iconst 1, 1) := by decide +kernel
theorem dX6_unitsDiffer_35 : decode cX6_unitsDiffer 35 = .ok (.ireturn, 1) := by decide +kernel
theorem dX6_unitsDiffer_36 : decode cX6_unitsDiffer 36 = .ok (.aload_n 0, 1) := by decide +kernel
theorem dX6_unitsDiffer_37 : decode cX6_unitsDiffer 37 = .ok (.getfield 66, 3) := by decide +kernel
theorem dX6_unitsDiffer_40 : decode cX6_unitsDiffer 40 = .ok (.iconst 0, 1) := by decide +kernel
theorem dX6_unitsDiffer_41 : decode cX6_unitsDiffer 41 = .ok (.iaload, 1) := by decide +kernel
theorem dX6_unitsDiffer_42 : decode cX6_unitsDiffer 42 = .ok (.iconst 1, 1) := by decide +kernel
theorem dX6_unitsDiffer_43 : decode cX6_unitsDiffer 43 = .ok (.if_icmp .eq 43, 3) := by decide +kernel
theorem dX6_unitsDiffer_46 : decode cX6_unitsDiffer 46 = .ok (.aload_n 0, 1) := by decide +kernel
theorem dX6_unitsDiffer_47 : decode cX6_unitsDiffer 47 = .ok (.getfield 69, 3) := by decide +kernel
theorem dX6_unitsDiffer_50 : decode cX6_unitsDiffer 50 = .ok (.iconst 0, 1) := by decide +kernel
theorem dX6_unitsDiffer_51 : decode cX6_unitsDiffer 51 = .ok (.iaload, 1) := by decide +kernel
theorem dX6_unitsDiffer_52 : decode cX6_unitsDiffer 52 = .ok (.aload_n 0, 1) := by decide +kernel
theorem dX6_unitsDiffer_53 : decode cX6_unitsDiffer 53 = .ok (.getfield 69, 3) := by decide +kernel
theorem dX6_unitsDiffer_56 : decode cX6_unitsDiffer 56 = .ok (.iconst 1, 1) := by decide +kernel
theorem dX6_unitsDiffer_57 : decode cX6_unitsDiffer 57 = .ok (.iaload, 1) := by decide +kernel
theorem dX6_unitsDiffer_58 : decode cX6_unitsDiffer 58 = .ok (.if_icmp .ge 7, 3) := by decide +kernel
theorem dX6_unitsDiffer_61 : decode cX6_unitsDiffer 61 = .ok (.iconst (-1), 1) := by decide +kernel
theorem dX6_unitsDiffer_62 : decode cX6_unitsDiffer 62 = .ok (.goto 23, 3) := by decide +kernel
theorem dX6_unitsDiffer_65 : decode cX6_unitsDiffer 65 = .ok (.aload_n 0, 1) := by decide +kernel
theorem dX6_unitsDiffer_66 : decode cX6_unitsDiffer 66 = .ok (.getfield 69, 3) := by decide +kernel
theorem dX6_unitsDiffer_69 : decode cX6_unitsDiffer 69 = .ok (.iconst 0, 1) := by decide +kernel
theorem dX6_unitsDiffer_70 : decode cX6_unitsDiffer 70 = .ok (.iaload, 1) := by decide +kernel
theorem dX6_unitsDiffer_71 : decode cX6_unitsDiffer 71 = .ok (.aload_n 0, 1) := by decide +kernel
theorem dX6_unitsDiffer_72 : decode cX6_unitsDiffer 72 = .ok (.getfield 69, 3) := by decide +kernel
theorem dX6_unitsDiffer_75 : decode cX6_unitsDiffer 75 = .ok (.iconst 1, 1) := by decide +kernel
theorem dX6_unitsDiffer_76 : decode cX6_unitsDiffer 76 = .ok (.iaload, 1) := by decide +kernel
theorem dX6_unitsDiffer_77 : decode cX6_unitsDiffer 77 = .ok (.if_icmp .le 7, 3) := by decide +kernel
theorem dX6_unitsDiffer_80 : decode cX6_unitsDiffer 80 = .ok (.iconst 1, 1) := by decide +kernel
theorem dX6_unitsDiffer_81 : decode cX6_unitsDiffer 81 = .ok (.goto 4, 3) := by decide +kernel
theorem dX6_unitsDiffer_84 : decode cX6_unitsDiffer 84 = .ok (.iconst 0, 1) := by decide +kernel
theorem dX6_unitsDiffer_85 : decode cX6_unitsDiffer 85 = .ok (.ireturn, 1) := by decide +kernel
theorem dX6_unitsDiffer_86 : decode cX6_unitsDiffer 86 = .ok (.aload_n 0, 1) := by decide +kernel
theorem dX6_unitsDiffer_87 : decode cX6_unitsDiffer 87 = .ok (.getfield 72, 3) := by decide +kernel
theorem dX6_unitsDiffer_90 : decode cX6_unitsDiffer 90 = .ok (.iconst 0, 1) := by decide +kernel
theorem dX6_unitsDiffer_91 : decode cX6_unitsDiffer 91 = .ok (.iaload, 1) := by decide +kernel
theorem dX6_unitsDiffer_92 : decode cX6_unitsDiffer 92 = .ok (.aload_n 0, 1) := by decide +kernel
theorem dX6_unitsDiffer_93 : decode cX6_unitsDiffer 93 = .ok (.getfield 72, 3) := by decide +kernel
theorem dX6_unitsDiffer_96 : decode cX6_unitsDiffer 96 = .ok (.iconst 1, 1) := by decide +kernel
theorem dX6_unitsDiffer_97 : decode cX6_unitsDiffer 97 = .ok (.iaload, 1) := by decide +kernel
theorem dX6_unitsDiffer_98 : decode cX6_unitsDiffer 98 = .ok (.if_icmp .eq 24, 3) := by decide +kernel
theorem dX6_unitsDiffer_101 : decode cX6_unitsDiffer 101 = .ok (.aload_n 0, 1) := by decide +kernel
theorem dX6_unitsDiffer_102 : decode cX6_unitsDiffer 102 = .ok (.getfield 72, 3) := by decide +kernel
theorem dX6_unitsDiffer_105 : decode cX6_unitsDiffer 105 = .ok (.iconst 0, 1) := by decide +kernel
theorem dX6_unitsDiffer_106 : decode cX6_unitsDiffer 106 = .ok (.iaload, 1) := by decide +kernel
theorem dX6_unitsDiffer_107 : decode cX6_unitsDiffer 107 = .ok (.aload_n 0, 1) := by decide +kernel
theorem dX6_unitsDiffer_108 : decode cX6_unitsDiffer 108 = .ok (.getfield 72, 3) := by decide +kernel
theorem dX6_unitsDiffer_111 : decode cX6_unitsDiffer 111 = .ok (.iconst 1, 1) := by decide +kernel
theorem dX6_unitsDiffer_112 : decode cX6_unitsDiffer 112 = .ok (.iaload, 1) := by decide +kernel
theorem dX6_unitsDiffer_113 : decode cX6_unitsDiffer 113 = .ok (.if_icmp .ge 7, 3) := by decide +kernel
theorem dX6_unitsDiffer_116 : decode cX6_unitsDiffer 116 = .ok (.iconst (-1), 1) := by decide +kernel
theorem dX6_unitsDiffer_117 : decode cX6_unitsDiffer 117 = .ok (.goto 4, 3) := by decide +kernel
theorem dX6_unitsDiffer_120 : decode cX6_unitsDiffer 120 = .ok (.iconst 1, 1) := by decide +kernel
theorem dX6_unitsDiffer_121 : decode cX6_unitsDiffer 121 = .ok (.ireturn, 1) := by decide +kernel
theorem dX6_unitsDiffer_122 : decode cX6_unitsDiffer 122 = .ok (.iconst 0, 1) := by decide +kernel
theorem dX6_unitsDiffer_123 : decode cX6_unitsDiffer 123 = .ok (.istore_n 1, 1) := by decide +kernel
theorem dX6_unitsDiffer_124 : decode cX6_unitsDiffer 124 = .ok (.iload_n 1, 1) := by decide +kernel
theorem dX6_unitsDiffer_125 : decode cX6_unitsDiffer 125 = .ok (.aload_n 0, 1) := by decide +kernel
theorem dX6_unitsDiffer_126 : decode cX6_unitsDiffer 126 = .ok (.getfield 72, 3) := by decide +kernel
theorem dX6_unitsDiffer_129 : decode cX6_unitsDiffer 129 = .ok (.iconst 0, 1) := by decide +kernel
theorem dX6_unitsDiffer_130 : decode cX6_unitsDiffer 130 = .ok (.iaload, 1) := by decide +kernel
theorem dX6_unitsDiffer_131 : decode cX6_unitsDiffer 131 = .ok (.if_icmp .ge 53, 3) := by decide +kernel
theorem dX6_unitsDiffer_134 : decode cX6_unitsDiffer 134 = .ok (.aload_n 0, 1) := by decide +kernel
theorem dX6_unitsDiffer_135 : decode cX6_unitsDiffer 135 = .ok (.getfield 16, 3) := by decide +kernel
theorem dX6_unitsDiffer_138 : decode cX6_unitsDiffer 138 = .ok (.aload_n 0, 1) := by decide +kernel
theorem dX6_unitsDiffer_139 : decode cX6_unitsDiffer 139 = .ok (.getfield 69, 3) := by decide +kernel
theorem dX6_unitsDiffer_142 : decode cX6_unitsDiffer 142 = .ok (.iconst 0, 1) := by decide +kernel
theorem dX6_unitsDiffer_143 : decode cX6_unitsDiffer 143 = .ok (.iaload, 1) := by decide +kernel
theorem dX6_unitsDiffer_144 : decode cX6_unitsDiffer 144 = .ok (.iload_n 1, 1) := by decide +kernel
theorem dX6_unitsDiffer_145 : decode cX6_unitsDiffer 145 = .ok (.iadd, 1) := by decide +kernel
theorem dX6_unitsDiffer_146 : decode cX6_unitsDiffer 146 = .ok (.iaload, 1) := by decide +kernel
theorem dX6_unitsDiffer_147 : decode cX6_unitsDiffer 147 = .ok (.istore_n 2, 1) := by decide +kernel
theorem dX6_unitsDiffer_148 : decode cX6_unitsDiffer 148 = .ok (.aload_n 0, 1) := by decide +kernel
theorem dX6_unitsDiffer_149 : decode cX6_unitsDiffer 149 = .ok (.getfield 16, 3) := by decide +kernel
theorem dX6_unitsDiffer_152 : decode cX6_unitsDiffer 152 = .ok (.aload_n 0, 1) := by decide +kernel
theorem dX6_unitsDiffer_153 : decode cX6_unitsDiffer 153 = .ok (.getfield 69, 3) := by decide +kernel
theorem dX6_unitsDiffer_156 : decode cX6_unitsDiffer 156 = .ok (.iconst 1, 1) := by decide +kernel
theorem dX6_unitsDiffer_157 : decode cX6_unitsDiffer 157 = .ok (.iaload, 1) := by decide +kernel
theorem dX6_unitsDiffer_158 : decode cX6_unitsDiffer 158 = .ok (.iload_n 1, 1) := by decide +kernel
theorem dX6_unitsDiffer_159 : decode cX6_unitsDiffer 159 = .ok (.iadd, 1) := by decide +kernel
theorem dX6_unitsDiffer_160 : decode cX6_unitsDiffer 160 = .ok (.iaload, 1) := by decide +kernel
theorem dX6_unitsDiffer_161 : decode cX6_unitsDiffer 161 = .ok (.istore_n 3, 1) := by decide +kernel
theorem dX6_unitsDiffer_162 : decode cX6_unitsDiffer 162 = .ok (.iload_n 2, 1) := by decide +kernel
theorem dX6_unitsDiffer_163 : decode cX6_unitsDiffer 163 = .ok (.iload_n 3, 1) := by decide +kernel
theorem dX6_unitsDiffer_164 : decode cX6_unitsDiffer 164 = .ok (.if_icmp .eq 14, 3) := by decide +kernel
theorem dX6_unitsDiffer_167 : decode cX6_unitsDiffer 167 = .ok (.iload_n 2, 1) := by decide +kernel
theorem dX6_unitsDiffer_168 : decode cX6_unitsDiffer 168 = .ok (.iload_n 3, 1) := by decide +kernel
theorem dX6_unitsDiffer_169 : decode cX6_unitsDiffer 169 = .ok (.if_icmp .ge 7, 3) := by decide +kernel
theorem dX6_unitsDiffer_172 : decode cX6_unitsDiffer 172 = .ok (.iconst (-1), 1) := by decide +kernel
theorem dX6_unitsDiffer_173 : decode cX6_unitsDiffer 173 = .ok (.goto 4, 3) := by decide +kernel
theorem dX6_unitsDiffer_176 : decode cX6_unitsDiffer 176 = .ok (.iconst 1, 1) := by decide +kernel
theorem dX6_unitsDiffer_177 : decode cX6_unitsDiffer 177 = .ok (.ireturn, 1) := by decide +kernel
theorem dX6_unitsDiffer_178 : decode cX6_unitsDiffer 178 = .ok (.iinc 1 1, 3) := by decide +kernel
theorem dX6_unitsDiffer_181 : decode cX6_unitsDiffer 181 = .ok (.goto (-57), 3) := by decide +kernel
theorem dX6_unitsDiffer_184 : decode cX6_unitsDiffer 184 = .ok (.iconst 0, 1) := by decide +kernel
theorem dX6_unitsDiffer_185 : decode cX6_unitsDiffer 185 = .ok (.ireturn, 1) := by decide +kernel
theorem dX6_signsDiffer_0 : decode cX6_signsDiffer 0 = .ok (.iload_n 0, 1) := by decide +kernel
theorem dX6_signsDiffer_1 : decode cX6_signsDiffer 1 = .ok (.invokestatic 133, 3) := by decide +kernel
theorem dX6_signsDiffer_4 : decode cX6_signsDiffer 4 = .ok (.ifCond .le 10, 3) := by decide +kernel
theorem dX6_signsDiffer_7 : decode cX6_signsDiffer 7 = .ok (.iload_n 0, 1) := by decide +kernel
theorem dX6_signsDiffer_8 : decode cX6_signsDiffer 8 = .ok (.invokestatic 133, 3) := by decide +kernel
theorem dX6_signsDiffer_11 : decode cX6_signsDiffer 11 = .ok (.goto 8, 3) := by decide +kernel
theorem dX6_signsDiffer_14 : decode cX6_signsDiffer 14 = .ok (.iload_n 0, 1) := by decide +kernel
theorem dX6_signsDiffer_15 : decode cX6_signsDiffer 15 = .ok (.sipush 128, 3) := by decide +kernel
theorem dX6_signsDiffer_18 : decode cX6_signsDiffer 18 = .ok (.irem, 1) := by decide +kernel
theorem dX6_signsDiffer_19 : decode cX6_signsDiffer 19 = .ok (.istore_n 2, 1) := by decide +kernel
theorem dX6_signsDiffer_20 : decode cX6_signsDiffer 20 = .ok (.iload_n 1, 1) := by decide +kernel
theorem dX6_signsDiffer_21 : decode cX6_signsDiffer 21 = .ok (.invokestatic 133, 3) := by decide +kernel
theorem dX6_signsDiffer_24 : decode cX6_signsDiffer 24 = .ok (.ifCond .le 10, 3) := by decide +kernel
theorem dX6_signsDiffer_27 : decode cX6_signsDiffer 27 = .ok (.iload_n 1, 1) := by decide +kernel
theorem dX6_signsDiffer_28 : decode cX6_signsDiffer 28 = .ok (.invokestatic 133, 3) := by decide +kernel
theorem dX6_signsDiffer_31 : decode cX6_signsDiffer 31 = .ok (.goto 8, 3) := by decide +kernel
theorem dX6_signsDiffer_34 : decode cX6_signsDiffer 34 = .ok (.iload_n 1, 1) := by decide +kernel
theorem dX6_signsDiffer_35 : decode cX6_signsDiffer 35 = .ok (.sipush 128, 3) := by decide +kernel
theorem dX6_signsDiffer_38 : decode cX6_signsDiffer 38 = .ok (.irem, 1) := by decide +kernel
theorem dX6_signsDiffer_39 : decode cX6_signsDiffer 39 = .ok (.istore_n 3, 1) := by decide +kernel
theorem dX6_signsDiffer_40 : decode cX6_signsDiffer 40 = .ok (.iload_n 2, 1) := by decide +kernel
theorem dX6_signsDiffer_41 : decode cX6_signsDiffer 41 = .ok (.iload_n 3, 1) := by decide +kernel
theorem dX6_signsDiffer_42 : decode cX6_signsDiffer 42 = .ok (.if_icmp .eq 14, 3) := by decide +kernel
theorem dX6_signsDiffer_45 : decode cX6_signsDiffer 45 = .ok (.iload_n 2, 1) := by decide +kernel
theorem dX6_signsDiffer_46 : decode cX6_signsDiffer 46 = .ok (.iload_n 3, 1) := by decide +kernel
theorem dX6_signsDiffer_47 : decode cX6_signsDiffer 47 = .ok (.if_icmp .ge 7, 3) := by decide +kernel
theorem dX6_signsDiffer_50 : decode cX6_signsDiffer 50 = .ok (.iconst (-1), 1) := by decide +kernel
theorem dX6_signsDiffer_51 : decode cX6_signsDiffer 51 = .ok (.goto 4, 3) := by decide +kernel
theorem dX6_signsDiffer_54 : decode cX6_signsDiffer 54 = .ok (.iconst 1, 1) := by decide +kernel
theorem dX6_signsDiffer_55 : decode cX6_signsDiffer 55 = .ok (.ireturn, 1) := by decide +kernel
theorem dX6_signsDiffer_56 : decode cX6_signsDiffer 56 = .ok (.iload_n 0, 1) := by decide +kernel
theorem dX6_signsDiffer_57 : decode cX6_signsDiffer 57 = .ok (.sipush 128, 3) := by decide +kernel
theorem dX6_signsDiffer_60 : decode cX6_signsDiffer 60 = .ok (.irem, 1) := by decide +kernel
theorem dX6_signsDiffer_61 : decode cX6_signsDiffer 61 = .ok (.iload_n 1, 1) := by decide +kernel
theorem dX6_signsDiffer_62 : decode cX6_signsDiffer 62 = .ok (.sipush 128, 3) := by decide +kernel
theorem dX6_signsDiffer_65 : decode cX6_signsDiffer 65 = .ok (.irem, 1) := by decide +kernel
theorem dX6_signsDiffer_66 : decode cX6_signsDiffer 66 = .ok (.if_icmp .eq 22, 3) := by decide +kernel
theorem dX6_signsDiffer_69 : decode cX6_signsDiffer 69 = .ok (.iload_n 0, 1) := by decide +kernel
theorem dX6_signsDiffer_70 : decode cX6_signsDiffer 70 = .ok (.sipush 128, 3) := by decide +kernel
theorem dX6_signsDiffer_73 : decode cX6_signsDiffer 73 = .ok (.irem, 1) := by decide +kernel
theorem dX6_signsDiffer_74 : decode cX6_signsDiffer 74 = .ok (.iload_n 1, 1) := by decide +kernel
theorem dX6_signsDiffer_75 : decode cX6_signsDiffer 75 = .ok (.sipush 128, 3) := by decide +kernel
theorem dX6_signsDiffer_78 : decode cX6_signsDiffer 78 = .ok (.irem, 1) := by decide +kernel
theorem dX6_signsDiffer_79 : decode cX6_signsDiffer 79 = .ok (.if_icmp .le 7, 3) := by decide +kernel
theorem dX6_signsDiffer_82 : decode cX6_signsDiffer 82 = .ok (.iconst (-1), 1) := by decide +kernel
theorem dX6_signsDiffer_83 : decode cX6_signsDiffer 83 = .ok (.goto 4, 3) := by decide +kernel
theorem dX6_signsDiffer_86 : decode cX6_signsDiffer 86 = .ok (.iconst 1, 1) := by decide +kernel
theorem dX6_signsDiffer_87 : decode cX6_signsDiffer 87 = .ok (.ireturn, 1) := by decide +kernel
theorem dX6_signsDiffer_88 : decode cX6_signsDiffer 88 = .ok (.iload_n 0, 1) := by decide +kernel
theorem dX6_signsDiffer_89 : decode cX6_signsDiffer 89 = .ok (.iload_n 1, 1) := by decide +kernel
theorem dX6_signsDiffer_90 : decode cX6_signsDiffer 90 = .ok (.if_icmp .ge 7, 3) := by decide +kernel
theorem dX6_signsDiffer_93 : decode cX6_signsDiffer 93 = .ok (.iconst (-1), 1) := by decide +kernel
theorem dX6_signsDiffer_94 : decode cX6_signsDiffer 94 = .ok (.goto 13, 3) := by decide +kernel
theorem dX6_signsDiffer_97 : decode cX6_signsDiffer 97 = .ok (.iload_n 0, 1) := by decide +kernel
theorem dX6_signsDiffer_98 : decode cX6_signsDiffer 98 = .ok (.iload_n 1, 1) := by decide +kernel
theorem dX6_signsDiffer_99 : decode cX6_signsDiffer 99 = .ok (.if_icmp .le 7, 3) := by decide +kernel
theorem dX6_signsDiffer_102 : decode cX6_signsDiffer 102 = .ok (.iconst 1, 1) := by decide +kernel
theorem dX6_signsDiffer_103 : decode cX6_signsDiffer 103 = .ok (.goto 4, 3) := by decide +kernel
theorem dX6_signsDiffer_106 : decode cX6_signsDiffer 106 = .ok (.iconst 0, 1) := by decide +kernel
theorem dX6_signsDiffer_107 : decode cX6_signsDiffer 107 = .ok (.ireturn, 1) := by decide +kernel
theorem dX6_orderOf_0 : decode cX6_orderOf 0 = .ok (.aload_n 0, 1) := by decide +kernel
theorem dX6_orderOf_1 : decode cX6_orderOf 1 = .ok (.iconst 0, 1) := by decide +kernel
theorem dX6_orderOf_2 : decode cX6_orderOf 2 = .ok (.invokevirtual 139, 3) := by decide +kernel
theorem dX6_orderOf_5 : decode cX6_orderOf 5 = .ok (.aload_n 0, 1) := by decide +kernel
theorem dX6_orderOf_6 : decode cX6_orderOf 6 = .ok (.iconst 1, 1) := by decide +kernel
theorem dX6_orderOf_7 : decode cX6_orderOf 7 = .ok (.invokevirtual 139, 3) := by decide +kernel
theorem dX6_orderOf_10 : decode cX6_orderOf 10 = .ok (.iconst 1, 1) := by decide +kernel
theorem dX6_orderOf_11 : decode cX6_orderOf 11 = .ok (.istore_n 3, 1) := by decide +kernel
theorem dX6_orderOf_12 : decode cX6_orderOf 12 = .ok (.iload_n 3, 1) := by decide +kernel
theorem dX6_orderOf_13 : decode cX6_orderOf 13 = .ok (.ifCond .eq 48, 3) := by decide +kernel
theorem dX6_orderOf_16 : decode cX6_orderOf 16 = .ok (.aload_n 0, 1) := by decide +kernel
theorem dX6_orderOf_17 : decode cX6_orderOf 17 = .ok (.iconst 0, 1) := by decide +kernel
theorem dX6_orderOf_18 : decode cX6_orderOf 18 = .ok (.iload_n 1, 1) := by decide +kernel
theorem dX6_orderOf_19 : decode cX6_orderOf 19 = .ok (.invokevirtual 143, 3) := by decide +kernel
theorem dX6_orderOf_22 : decode cX6_orderOf 22 = .ok (.aload_n 0, 1) := by decide +kernel
theorem dX6_orderOf_23 : decode cX6_orderOf 23 = .ok (.iconst 1, 1) := by decide +kernel
theorem dX6_orderOf_24 : decode cX6_orderOf 24 = .ok (.iload_n 2, 1) := by decide +kernel
theorem dX6_orderOf_25 : decode cX6_orderOf 25 = .ok (.invokevirtual 143, 3) := by decide +kernel
theorem dX6_orderOf_28 : decode cX6_orderOf 28 = .ok (.aload_n 0, 1) := by decide +kernel
theorem dX6_orderOf_29 : decode cX6_orderOf 29 = .ok (.invokevirtual 147, 3) := by decide +kernel
theorem dX6_orderOf_32 : decode cX6_orderOf 32 = .ok (.istore 4, 2) := by decide +kernel
theorem dX6_orderOf_34 : decode cX6_orderOf 34 = .ok (.iload 4, 2) := by decide +kernel
theorem dX6_orderOf_36 : decode cX6_orderOf 36 = .ok (.ifCond .eq 6, 3) := by decide +kernel
theorem dX6_orderOf_39 : decode cX6_orderOf 39 = .ok (.iload 4, 2) := by decide +kernel
theorem dX6_orderOf_41 : decode cX6_orderOf 41 = .ok (.ireturn, 1) := by decide +kernel
theorem dX6_orderOf_42 : decode cX6_orderOf 42 = .ok (.aload_n 0, 1) := by decide +kernel
theorem dX6_orderOf_43 : decode cX6_orderOf 43 = .ok (.getfield 66, 3) := by decide +kernel
theorem dX6_orderOf_46 : decode cX6_orderOf 46 = .ok (.iconst 0, 1) := by decide +kernel
theorem dX6_orderOf_47 : decode cX6_orderOf 47 = .ok (.iaload, 1) := by decide +kernel
theorem dX6_orderOf_48 : decode cX6_orderOf 48 = .ok (.iconst (-1), 1) := by decide +kernel
theorem dX6_orderOf_49 : decode cX6_orderOf 49 = .ok (.if_icmp .eq 7, 3) := by decide +kernel
theorem dX6_orderOf_52 : decode cX6_orderOf 52 = .ok (.iconst 1, 1) := by decide +kernel
theorem dX6_orderOf_53 : decode cX6_orderOf 53 = .ok (.goto 4, 3) := by decide +kernel
theorem dX6_orderOf_56 : decode cX6_orderOf 56 = .ok (.iconst 0, 1) := by decide +kernel
theorem dX6_orderOf_57 : decode cX6_orderOf 57 = .ok (.istore_n 3, 1) := by decide +kernel
theorem dX6_orderOf_58 : decode cX6_orderOf 58 = .ok (.goto (-46), 3) := by decide +kernel
theorem dX6_orderOf_61 : decode cX6_orderOf 61 = .ok (.iconst 0, 1) := by decide +kernel
theorem dX6_orderOf_62 : decode cX6_orderOf 62 = .ok (.istore 4, 2) := by decide +kernel
theorem dX6_orderOf_64 : decode cX6_orderOf 64 = .ok (.iload 4, 2) := by decide +kernel
theorem dX6_orderOf_66 : decode cX6_orderOf 66 = .ok (.aload_n 0, 1) := by decide +kernel
theorem dX6_orderOf_67 : decode cX6_orderOf 67 = .ok (.getfield 19, 3) := by decide +kernel
theorem dX6_orderOf_70 : decode cX6_orderOf 70 = .ok (.iload_n 1, 1) := by decide +kernel
theorem dX6_orderOf_71 : decode cX6_orderOf 71 = .ok (.iaload, 1) := by decide +kernel
theorem dX6_orderOf_72 : decode cX6_orderOf 72 = .ok (.if_icmp .ge 57, 3) := by decide +kernel
theorem dX6_orderOf_75 : decode cX6_orderOf 75 = .ok (.iload 4, 2) := by decide +kernel
theorem dX6_orderOf_77 : decode cX6_orderOf 77 = .ok (.aload_n 0, 1) := by decide +kernel
theorem dX6_orderOf_78 : decode cX6_orderOf 78 = .ok (.getfield 19, 3) := by decide +kernel
theorem dX6_orderOf_81 : decode cX6_orderOf 81 = .ok (.iload_n 2, 1) := by decide +kernel
theorem dX6_orderOf_82 : decode cX6_orderOf 82 = .ok (.iaload, 1) := by decide +kernel
theorem dX6_orderOf_83 : decode cX6_orderOf 83 = .ok (.if_icmp .ge 46, 3) := by decide +kernel
theorem dX6_orderOf_86 : decode cX6_orderOf 86 = .ok (.aload_n 0, 1) := by decide +kernel
theorem dX6_orderOf_87 : decode cX6_orderOf 87 = .ok (.getfield 16, 3) := by decide +kernel
theorem dX6_orderOf_90 : decode cX6_orderOf 90 = .ok (.bipush 20, 2) := by decide +kernel
theorem dX6_orderOf_92 : decode cX6_orderOf 92 = .ok (.iload_n 1, 1) := by decide +kernel
theorem dX6_orderOf_93 : decode cX6_orderOf 93 = .ok (.imul, 1) := by decide +kernel
theorem dX6_orderOf_94 : decode cX6_orderOf 94 = .ok (.iload 4, 2) := by decide +kernel
theorem dX6_orderOf_96 : decode cX6_orderOf 96 = .ok (.iadd, 1) := by decide +kernel
theorem dX6_orderOf_97 : decode cX6_orderOf 97 = .ok (.iaload, 1) := by decide +kernel
theorem dX6_orderOf_98 : decode cX6_orderOf 98 = .ok (.aload_n 0, 1) := by decide +kernel
theorem dX6_orderOf_99 : decode cX6_orderOf 99 = .ok (.getfield 16, 3) := by decide +kernel
theorem dX6_orderOf_102 : decode cX6_orderOf 102 = .ok (.bipush 20, 2) := by decide +kernel
theorem dX6_orderOf_104 : decode cX6_orderOf 104 = .ok (.iload_n 2, 1) := by decide +kernel
theorem dX6_orderOf_105 : decode cX6_orderOf 105 = .ok (.imul, 1) := by decide +kernel
theorem dX6_orderOf_106 : decode cX6_orderOf 106 = .ok (.iload 4, 2) := by decide +kernel
theorem dX6_orderOf_108 : decode cX6_orderOf 108 = .ok (.iadd, 1) := by decide +kernel
theorem dX6_orderOf_109 : decode cX6_orderOf 109 = .ok (.iaload, 1) := by decide +kernel
theorem dX6_orderOf_110 : decode cX6_orderOf 110 = .ok (.invokestatic 151, 3) := by decide +kernel
theorem dX6_orderOf_113 : decode cX6_orderOf 113 = .ok (.istore 5, 2) := by decide +kernel
theorem dX6_orderOf_115 : decode cX6_orderOf 115 = .ok (.iload 5, 2) := by decide +kernel
theorem dX6_orderOf_117 : decode cX6_orderOf 117 = .ok (.ifCond .eq 6, 3) := by decide +kernel
theorem dX6_orderOf_120 : decode cX6_orderOf 120 = .ok (.iload 5, 2) := by decide +kernel
theorem dX6_orderOf_122 : decode cX6_orderOf 122 = .ok (.ireturn, 1) := by decide +kernel
theorem dX6_orderOf_123 : decode cX6_orderOf 123 = .ok (.iinc 4 1, 3) := by decide +kernel
theorem dX6_orderOf_126 : decode cX6_orderOf 126 = .ok (.goto (-62), 3) := by decide +kernel
theorem dX6_orderOf_129 : decode cX6_orderOf 129 = .ok (.aload_n 0, 1) := by decide +kernel
theorem dX6_orderOf_130 : decode cX6_orderOf 130 = .ok (.getfield 19, 3) := by decide +kernel
theorem dX6_orderOf_133 : decode cX6_orderOf 133 = .ok (.iload_n 1, 1) := by decide +kernel
theorem dX6_orderOf_134 : decode cX6_orderOf 134 = .ok (.iaload, 1) := by decide +kernel
theorem dX6_orderOf_135 : decode cX6_orderOf 135 = .ok (.aload_n 0, 1) := by decide +kernel
theorem dX6_orderOf_136 : decode cX6_orderOf 136 = .ok (.getfield 19, 3) := by decide +kernel
theorem dX6_orderOf_139 : decode cX6_orderOf 139 = .ok (.iload_n 2, 1) := by decide +kernel
theorem dX6_orderOf_140 : decode cX6_orderOf 140 = .ok (.iaload, 1) := by decide +kernel
theorem dX6_orderOf_141 : decode cX6_orderOf 141 = .ok (.if_icmp .ge 7, 3) := by decide +kernel
theorem dX6_orderOf_144 : decode cX6_orderOf 144 = .ok (.iconst (-1), 1) := by decide +kernel
theorem dX6_orderOf_145 : decode cX6_orderOf 145 = .ok (.goto 23, 3) := by decide +kernel
theorem dX6_orderOf_148 : decode cX6_orderOf 148 = .ok (.aload_n 0, 1) := by decide +kernel
theorem dX6_orderOf_149 : decode cX6_orderOf 149 = .ok (.getfield 19, 3) := by decide +kernel
theorem dX6_orderOf_152 : decode cX6_orderOf 152 = .ok (.iload_n 1, 1) := by decide +kernel
theorem dX6_orderOf_153 : decode cX6_orderOf 153 = .ok (.iaload, 1) := by decide +kernel
theorem dX6_orderOf_154 : decode cX6_orderOf 154 = .ok (.aload_n 0, 1) := by decide +kernel
theorem dX6_orderOf_155 : decode cX6_orderOf 155 = .ok (.getfield 19, 3) := by decide +kernel
theorem dX6_orderOf_158 : decode cX6_orderOf 158 = .ok (.iload_n 2, 1) := by decide +kernel
theorem dX6_orderOf_159 : decode cX6_orderOf 159 = .ok (.iaload, 1) := by decide +kernel
theorem dX6_orderOf_160 : decode cX6_orderOf 160 = .ok (.if_icmp .le 7, 3) := by decide +kernel
theorem dX6_orderOf_163 : decode cX6_orderOf 163 = .ok (.iconst 1, 1) := by decide +kernel
theorem dX6_orderOf_164 : decode cX6_orderOf 164 = .ok (.goto 4, 3) := by decide +kernel
theorem dX6_orderOf_167 : decode cX6_orderOf 167 = .ok (.iconst 0, 1) := by decide +kernel
theorem dX6_orderOf_168 : decode cX6_orderOf 168 = .ok (.ireturn, 1) := by decide +kernel
theorem dX6_areAlike_0 : decode cX6_areAlike 0 = .ok (.aload_n 0, 1) := by decide +kernel
theorem dX6_areAlike_1 : decode cX6_areAlike 1 = .ok (.getfield 7, 3) := by decide +kernel
theorem dX6_areAlike_4 : decode cX6_areAlike 4 = .ok (.iload_n 1, 1) := by decide +kernel
theorem dX6_areAlike_5 : decode cX6_areAlike 5 = .ok (.iaload, 1) := by decide +kernel
theorem dX6_areAlike_6 : decode cX6_areAlike 6 = .ok (.aload_n 0, 1) := by decide +kernel
theorem dX6_areAlike_7 : decode cX6_areAlike 7 = .ok (.getfield 7, 3) := by decide +kernel
theorem dX6_areAlike_10 : decode cX6_areAlike 10 = .ok (.iload_n 2, 1) := by decide +kernel
theorem dX6_areAlike_11 : decode cX6_areAlike 11 = .ok (.iaload, 1) := by decide +kernel
theorem dX6_areAlike_12 : decode cX6_areAlike 12 = .ok (.if_icmp .ne 56, 3) := by decide +kernel
theorem dX6_areAlike_15 : decode cX6_areAlike 15 = .ok (.aload_n 0, 1) := by decide +kernel
theorem dX6_areAlike_16 : decode cX6_areAlike 16 = .ok (.getfield 19, 3) := by decide +kernel
theorem dX6_areAlike_19 : decode cX6_areAlike 19 = .ok (.iload_n 1, 1) := by decide +kernel
theorem dX6_areAlike_20 : decode cX6_areAlike 20 = .ok (.iaload, 1) := by decide +kernel
theorem dX6_areAlike_21 : decode cX6_areAlike 21 = .ok (.aload_n 0, 1) := by decide +kernel
theorem dX6_areAlike_22 : decode cX6_areAlike 22 = .ok (.getfield 19, 3) := by decide +kernel
theorem dX6_areAlike_25 : decode cX6_areAlike 25 = .ok (.iload_n 2, 1) := by decide +kernel
theorem dX6_areAlike_26 : decode cX6_areAlike 26 = .ok (.iaload, 1) := by decide +kernel
theorem dX6_areAlike_27 : decode cX6_areAlike 27 = .ok (.if_icmp .ne 41, 3) := by decide +kernel
theorem dX6_areAlike_30 : decode cX6_areAlike 30 = .ok (.aload_n 0, 1) := by decide +kernel
theorem dX6_areAlike_31 : decode cX6_areAlike 31 = .ok (.getfield 7, 3) := by decide +kernel
theorem dX6_areAlike_34 : decode cX6_areAlike 34 = .ok (.iload_n 1, 1) := by decide +kernel
theorem dX6_areAlike_35 : decode cX6_areAlike 35 = .ok (.iaload, 1) := by decide +kernel
theorem dX6_areAlike_36 : decode cX6_areAlike 36 = .ok (.ifCond .eq 28, 3) := by decide +kernel
theorem dX6_areAlike_39 : decode cX6_areAlike 39 = .ok (.aload_n 0, 1) := by decide +kernel
theorem dX6_areAlike_40 : decode cX6_areAlike 40 = .ok (.getfield 54, 3) := by decide +kernel
theorem dX6_areAlike_43 : decode cX6_areAlike 43 = .ok (.aload_n 0, 1) := by decide +kernel
theorem dX6_areAlike_44 : decode cX6_areAlike 44 = .ok (.getfield 13, 3) := by decide +kernel
theorem dX6_areAlike_47 : decode cX6_areAlike 47 = .ok (.iload_n 1, 1) := by decide +kernel
theorem dX6_areAlike_48 : decode cX6_areAlike 48 = .ok (.iaload, 1) := by decide +kernel
theorem dX6_areAlike_49 : decode cX6_areAlike 49 = .ok (.iaload, 1) := by decide +kernel
theorem dX6_areAlike_50 : decode cX6_areAlike 50 = .ok (.aload_n 0, 1) := by decide +kernel
theorem dX6_areAlike_51 : decode cX6_areAlike 51 = .ok (.getfield 54, 3) := by decide +kernel
theorem dX6_areAlike_54 : decode cX6_areAlike 54 = .ok (.aload_n 0, 1) := by decide +kernel
theorem dX6_areAlike_55 : decode cX6_areAlike 55 = .ok (.getfield 13, 3) := by decide +kernel
theorem dX6_areAlike_58 : decode cX6_areAlike 58 = .ok (.iload_n 2, 1) := by decide +kernel
theorem dX6_areAlike_59 : decode cX6_areAlike 59 = .ok (.iaload, 1) := by decide +kernel
theorem dX6_areAlike_60 : decode cX6_areAlike 60 = .ok (.iaload, 1) := by decide +kernel
theorem dX6_areAlike_61 : decode cX6_areAlike 61 = .ok (.if_icmp .ne 7, 3) := by decide +kernel
theorem dX6_areAlike_64 : decode cX6_areAlike 64 = .ok (.iconst 1, 1) := by decide +kernel
theorem dX6_areAlike_65 : decode cX6_areAlike 65 = .ok (.goto 4, 3) := by decide +kernel
theorem dX6_areAlike_68 : decode cX6_areAlike 68 = .ok (.iconst 0, 1) := by decide +kernel
theorem dX6_areAlike_69 : decode cX6_areAlike 69 = .ok (.istore_n 3, 1) := by decide +kernel
theorem dX6_areAlike_70 : decode cX6_areAlike 70 = .ok (.iconst 0, 1) := by decide +kernel
theorem dX6_areAlike_71 : decode cX6_areAlike 71 = .ok (.istore 4, 2) := by decide +kernel
theorem dX6_areAlike_73 : decode cX6_areAlike 73 = .ok (.iload 4, 2) := by decide +kernel
theorem dX6_areAlike_75 : decode cX6_areAlike 75 = .ok (.aload_n 0, 1) := by decide +kernel
theorem dX6_areAlike_76 : decode cX6_areAlike 76 = .ok (.getfield 19, 3) := by decide +kernel
theorem dX6_areAlike_79 : decode cX6_areAlike 79 = .ok (.iload_n 1, 1) := by decide +kernel
theorem dX6_areAlike_80 : decode cX6_areAlike 80 = .ok (.iaload, 1) := by decide +kernel
theorem dX6_areAlike_81 : decode cX6_areAlike 81 = .ok (.if_icmp .ge 46, 3) := by decide +kernel
theorem dX6_areAlike_84 : decode cX6_areAlike 84 = .ok (.iload_n 3, 1) := by decide +kernel
theorem dX6_areAlike_85 : decode cX6_areAlike 85 = .ok (.ifCond .eq 42, 3) := by decide +kernel
theorem dX6_areAlike_88 : decode cX6_areAlike 88 = .ok (.aload_n 0, 1) := by decide +kernel
theorem dX6_areAlike_89 : decode cX6_areAlike 89 = .ok (.getfield 16, 3) := by decide +kernel
theorem dX6_areAlike_92 : decode cX6_areAlike 92 = .ok (.bipush 20, 2) := by decide +kernel
theorem dX6_areAlike_94 : decode cX6_areAlike 94 = .ok (.iload_n 1, 1) := by decide +kernel
theorem dX6_areAlike_95 : decode cX6_areAlike 95 = .ok (.imul, 1) := by decide +kernel
theorem dX6_areAlike_96 : decode cX6_areAlike 96 = .ok (.iload 4, 2) := by decide +kernel
theorem dX6_areAlike_98 : decode cX6_areAlike 98 = .ok (.iadd, 1) := by decide +kernel
theorem dX6_areAlike_99 : decode cX6_areAlike 99 = .ok (.iaload, 1) := by decide +kernel
theorem dX6_areAlike_100 : decode cX6_areAlike 100 = .ok (.aload_n 0, 1) := by decide +kernel
theorem dX6_areAlike_101 : decode cX6_areAlike 101 = .ok (.getfield 16, 3) := by decide +kernel
theorem dX6_areAlike_104 : decode cX6_areAlike 104 = .ok (.bipush 20, 2) := by decide +kernel
theorem dX6_areAlike_106 : decode cX6_areAlike 106 = .ok (.iload_n 2, 1) := by decide +kernel
theorem dX6_areAlike_107 : decode cX6_areAlike 107 = .ok (.imul, 1) := by decide +kernel
theorem dX6_areAlike_108 : decode cX6_areAlike 108 = .ok (.iload 4, 2) := by decide +kernel
theorem dX6_areAlike_110 : decode cX6_areAlike 110 = .ok (.iadd, 1) := by decide +kernel
theorem dX6_areAlike_111 : decode cX6_areAlike 111 = .ok (.iaload, 1) := by decide +kernel
theorem dX6_areAlike_112 : decode cX6_areAlike 112 = .ok (.if_icmp .ne 7, 3) := by decide +kernel
theorem dX6_areAlike_115 : decode cX6_areAlike 115 = .ok (.iconst 1, 1) := by decide +kernel
theorem dX6_areAlike_116 : decode cX6_areAlike 116 = .ok (.goto 4, 3) := by decide +kernel
theorem dX6_areAlike_119 : decode cX6_areAlike 119 = .ok (.iconst 0, 1) := by decide +kernel
theorem dX6_areAlike_120 : decode cX6_areAlike 120 = .ok (.istore_n 3, 1) := by decide +kernel
theorem dX6_areAlike_121 : decode cX6_areAlike 121 = .ok (.iinc 4 1, 3) := by decide +kernel
theorem dX6_areAlike_124 : decode cX6_areAlike 124 = .ok (.goto (-51), 3) := by decide +kernel
theorem dX6_areAlike_127 : decode cX6_areAlike 127 = .ok (.iload_n 3, 1) := by decide +kernel
theorem dX6_areAlike_128 : decode cX6_areAlike 128 = .ok (.ireturn, 1) := by decide +kernel
theorem dX6_wayOf_0 : decode cX6_wayOf 0 = .ok (.iload_n 1, 1) := by decide +kernel
theorem dX6_wayOf_1 : decode cX6_wayOf 1 = .ok (.istore_n 3, 1) := by decide +kernel
theorem dX6_wayOf_2 : decode cX6_wayOf 2 = .ok (.aload_n 0, 1) := by decide +kernel
theorem dX6_wayOf_3 : decode cX6_wayOf 3 = .ok (.getfield 7, 3) := by decide +kernel
theorem dX6_wayOf_6 : decode cX6_wayOf 6 = .ok (.iload_n 3, 1) := by decide +kernel
theorem dX6_wayOf_7 : decode cX6_wayOf 7 = .ok (.iaload, 1) := by decide +kernel
theorem dX6_wayOf_8 : decode cX6_wayOf 8 = .ok (.iload_n 2, 1) := by decide +kernel
theorem dX6_wayOf_9 : decode cX6_wayOf 9 = .ok (.if_icmp .le 18, 3) := by decide +kernel
theorem dX6_wayOf_12 : decode cX6_wayOf 12 = .ok (.aload_n 0, 1) := by decide +kernel
theorem dX6_wayOf_13 : decode cX6_wayOf 13 = .ok (.getfield 54, 3) := by decide +kernel
theorem dX6_wayOf_16 : decode cX6_wayOf 16 = .ok (.aload_n 0, 1) := by decide +kernel
theorem dX6_wayOf_17 : decode cX6_wayOf 17 = .ok (.getfield 13, 3) := by decide +kernel
theorem dX6_wayOf_20 : decode cX6_wayOf 20 = .ok (.iload_n 3, 1) := by decide +kernel
theorem dX6_wayOf_21 : decode cX6_wayOf 21 = .ok (.iaload, 1) := by decide +kernel
theorem dX6_wayOf_22 : decode cX6_wayOf 22 = .ok (.iaload, 1) := by decide +kernel
theorem dX6_wayOf_23 : decode cX6_wayOf 23 = .ok (.istore_n 3, 1) := by decide +kernel
theorem dX6_wayOf_24 : decode cX6_wayOf 24 = .ok (.goto (-22), 3) := by decide +kernel
theorem dX6_wayOf_27 : decode cX6_wayOf 27 = .ok (.aload_n 0, 1) := by decide +kernel
theorem dX6_wayOf_28 : decode cX6_wayOf 28 = .ok (.getfield 7, 3) := by decide +kernel
theorem dX6_wayOf_31 : decode cX6_wayOf 31 = .ok (.iload_n 3, 1) := by decide +kernel
theorem dX6_wayOf_32 : decode cX6_wayOf 32 = .ok (.iaload, 1) := by decide +kernel
theorem dX6_wayOf_33 : decode cX6_wayOf 33 = .ok (.iload_n 2, 1) := by decide +kernel
theorem dX6_wayOf_34 : decode cX6_wayOf 34 = .ok (.if_icmp .ne 7, 3) := by decide +kernel
theorem dX6_wayOf_37 : decode cX6_wayOf 37 = .ok (.iload_n 3, 1) := by decide +kernel
theorem dX6_wayOf_38 : decode cX6_wayOf 38 = .ok (.goto 4, 3) := by decide +kernel
theorem dX6_wayOf_41 : decode cX6_wayOf 41 = .ok (.iconst (-1), 1) := by decide +kernel
theorem dX6_wayOf_42 : decode cX6_wayOf 42 = .ok (.ireturn, 1) := by decide +kernel
theorem dX6_isBefore_0 : decode cX6_isBefore 0 = .ok (.iconst 0, 1) := by decide +kernel
theorem dX6_isBefore_1 : decode cX6_isBefore 1 = .ok (.istore_n 3, 1) := by decide +kernel
theorem dX6_isBefore_2 : decode cX6_isBefore 2 = .ok (.iload_n 3, 1) := by decide +kernel
theorem dX6_isBefore_3 : decode cX6_isBefore 3 = .ok (.iconst 3, 1) := by decide +kernel
theorem dX6_isBefore_4 : decode cX6_isBefore 4 = .ok (.if_icmp .ge 85, 3) := by decide +kernel
theorem dX6_isBefore_7 : decode cX6_isBefore 7 = .ok (.aload_n 0, 1) := by decide +kernel
theorem dX6_isBefore_8 : decode cX6_isBefore 8 = .ok (.iload_n 1, 1) := by decide +kernel
theorem dX6_isBefore_9 : decode cX6_isBefore 9 = .ok (.iload_n 3, 1) := by decide +kernel
theorem dX6_isBefore_10 : decode cX6_isBefore 10 = .ok (.invokevirtual 155, 3) := by decide +kernel
theorem dX6_isBefore_13 : decode cX6_isBefore 13 = .ok (.istore 4, 2) := by decide +kernel
theorem dX6_isBefore_15 : decode cX6_isBefore 15 = .ok (.aload_n 0, 1) := by decide +kernel
theorem dX6_isBefore_16 : decode cX6_isBefore 16 = .ok (.iload_n 2, 1) := by decide +kernel
theorem dX6_isBefore_17 : decode cX6_isBefore 17 = .ok (.iload_n 3, 1) := by decide +kernel
theorem dX6_isBefore_18 : decode cX6_isBefore 18 = .ok (.invokevirtual 155, 3) := by decide +kernel
theorem dX6_isBefore_21 : decode cX6_isBefore 21 = .ok (.istore 5, 2) := by decide +kernel
theorem dX6_isBefore_23 : decode cX6_isBefore 23 = .ok (.iload 4, 2) := by decide +kernel
theorem dX6_isBefore_25 : decode cX6_isBefore 25 = .ok (.iload 5, 2) := by decide +kernel
theorem dX6_isBefore_27 : decode cX6_isBefore 27 = .ok (.if_icmp .eq 56, 3) := by decide +kernel
theorem dX6_isBefore_30 : decode cX6_isBefore 30 = .ok (.iload 4, 2) := by decide +kernel
theorem dX6_isBefore_32 : decode cX6_isBefore 32 = .ok (.iconst (-1), 1) := by decide +kernel
theorem dX6_isBefore_33 : decode cX6_isBefore 33 = .ok (.if_icmp .ne 7, 3) := by decide +kernel
theorem dX6_isBefore_36 : decode cX6_isBefore 36 = .ok (.iconst (-1), 1) := by decide +kernel
theorem dX6_isBefore_37 : decode cX6_isBefore 37 = .ok (.goto 21, 3) := by decide +kernel
theorem dX6_isBefore_40 : decode cX6_isBefore 40 = .ok (.iload 5, 2) := by decide +kernel
theorem dX6_isBefore_42 : decode cX6_isBefore 42 = .ok (.iconst (-1), 1) := by decide +kernel
theorem dX6_isBefore_43 : decode cX6_isBefore 43 = .ok (.if_icmp .ne 7, 3) := by decide +kernel
theorem dX6_isBefore_46 : decode cX6_isBefore 46 = .ok (.iconst 1, 1) := by decide +kernel
theorem dX6_isBefore_47 : decode cX6_isBefore 47 = .ok (.goto 11, 3) := by decide +kernel
theorem dX6_isBefore_50 : decode cX6_isBefore 50 = .ok (.aload_n 0, 1) := by decide +kernel
theorem dX6_isBefore_51 : decode cX6_isBefore 51 = .ok (.iload 4, 2) := by decide +kernel
theorem dX6_isBefore_53 : decode cX6_isBefore 53 = .ok (.iload 5, 2) := by decide +kernel
theorem dX6_isBefore_55 : decode cX6_isBefore 55 = .ok (.invokevirtual 158, 3) := by decide +kernel
theorem dX6_isBefore_58 : decode cX6_isBefore 58 = .ok (.istore 6, 2) := by decide +kernel
theorem dX6_isBefore_60 : decode cX6_isBefore 60 = .ok (.iload 6, 2) := by decide +kernel
theorem dX6_isBefore_62 : decode cX6_isBefore 62 = .ok (.ifCond .lt 15, 3) := by decide +kernel
theorem dX6_isBefore_65 : decode cX6_isBefore 65 = .ok (.iload 6, 2) := by decide +kernel
theorem dX6_isBefore_67 : decode cX6_isBefore 67 = .ok (.ifCond .ne 14, 3) := by decide +kernel
theorem dX6_isBefore_70 : decode cX6_isBefore 70 = .ok (.iload 4, 2) := by decide +kernel
theorem dX6_isBefore_72 : decode cX6_isBefore 72 = .ok (.iload 5, 2) := by decide +kernel
theorem dX6_isBefore_74 : decode cX6_isBefore 74 = .ok (.if_icmp .ge 7, 3) := by decide +kernel
theorem dX6_isBefore_77 : decode cX6_isBefore 77 = .ok (.iconst 1, 1) := by decide +kernel
theorem dX6_isBefore_78 : decode cX6_isBefore 78 = .ok (.goto 4, 3) := by decide +kernel
theorem dX6_isBefore_81 : decode cX6_isBefore 81 = .ok (.iconst 0, 1) := by decide +kernel
theorem dX6_isBefore_82 : decode cX6_isBefore 82 = .ok (.ireturn, 1) := by decide +kernel
theorem dX6_isBefore_83 : decode cX6_isBefore 83 = .ok (.iinc 3 1, 3) := by decide +kernel
theorem dX6_isBefore_86 : decode cX6_isBefore 86 = .ok (.goto (-84), 3) := by decide +kernel
theorem dX6_isBefore_89 : decode cX6_isBefore 89 = .ok (.iconst 0, 1) := by decide +kernel
theorem dX6_isBefore_90 : decode cX6_isBefore 90 = .ok (.ireturn, 1) := by decide +kernel
theorem dX6_look_0 : decode cX6_look 0 = .ok (.aload_n 0, 1) := by decide +kernel
theorem dX6_look_1 : decode cX6_look 1 = .ok (.getfield 119, 3) := by decide +kernel
theorem dX6_look_4 : decode cX6_look 4 = .ok (.ifCond .eq 4, 3) := by decide +kernel
theorem dX6_look_7 : decode cX6_look 7 = .ok (.return_, 1) := by decide +kernel
theorem dX6_look_8 : decode cX6_look 8 = .ok (.aload_n 0, 1) := by decide +kernel
theorem dX6_look_9 : decode cX6_look 9 = .ok (.iconst 1, 1) := by decide +kernel
theorem dX6_look_10 : decode cX6_look 10 = .ok (.putfield 119, 3) := by decide +kernel
theorem dX6_look_13 : decode cX6_look 13 = .ok (.aload_n 0, 1) := by decide +kernel
theorem dX6_look_14 : decode cX6_look 14 = .ok (.iconst 0, 1) := by decide +kernel
theorem dX6_look_15 : decode cX6_look 15 = .ok (.putfield 161, 3) := by decide +kernel
theorem dX6_look_18 : decode cX6_look 18 = .ok (.iconst 0, 1) := by decide +kernel
theorem dX6_look_19 : decode cX6_look 19 = .ok (.istore_n 1, 1) := by decide +kernel
theorem dX6_look_20 : decode cX6_look 20 = .ok (.iload_n 1, 1) := by decide +kernel
theorem dX6_look_21 : decode cX6_look 21 = .ok (.aload_n 0, 1) := by decide +kernel
theorem dX6_look_22 : decode cX6_look 22 = .ok (.getfield 103, 3) := by decide +kernel
theorem dX6_look_25 : decode cX6_look 25 = .ok (.if_icmp .ge 137, 3) := by decide +kernel
theorem dX6_look_28 : decode cX6_look 28 = .ok (.aload_n 0, 1) := by decide +kernel
theorem dX6_look_29 : decode cX6_look 29 = .ok (.getfield 54, 3) := by decide +kernel
theorem dX6_look_32 : decode cX6_look 32 = .ok (.iload_n 1, 1) := by decide +kernel
theorem dX6_look_33 : decode cX6_look 33 = .ok (.iload_n 1, 1) := by decide +kernel
theorem dX6_look_34 : decode cX6_look 34 = .ok (.iastore, 1) := by decide +kernel
theorem dX6_look_35 : decode cX6_look 35 = .ok (.iload_n 1, 1) := by decide +kernel
theorem dX6_look_36 : decode cX6_look 36 = .ok (.iconst 1, 1) := by decide +kernel
theorem dX6_look_37 : decode cX6_look 37 = .ok (.isub, 1) := by decide +kernel
theorem dX6_look_38 : decode cX6_look 38 = .ok (.istore_n 2, 1) := by decide +kernel
theorem dX6_look_39 : decode cX6_look 39 = .ok (.iload_n 2, 1) := by decide +kernel
theorem dX6_look_40 : decode cX6_look 40 = .ok (.ifCond .lt 44, 3) := by decide +kernel
theorem dX6_look_43 : decode cX6_look 43 = .ok (.aload_n 0, 1) := by decide +kernel
theorem dX6_look_44 : decode cX6_look 44 = .ok (.getfield 54, 3) := by decide +kernel
theorem dX6_look_47 : decode cX6_look 47 = .ok (.iload_n 1, 1) := by decide +kernel
theorem dX6_look_48 : decode cX6_look 48 = .ok (.aload_n 0, 1) := by decide +kernel
theorem dX6_look_49 : decode cX6_look 49 = .ok (.getfield 54, 3) := by decide +kernel
theorem dX6_look_52 : decode cX6_look 52 = .ok (.iload_n 2, 1) := by decide +kernel
theorem dX6_look_53 : decode cX6_look 53 = .ok (.iaload, 1) := by decide +kernel
theorem dX6_look_54 : decode cX6_look 54 = .ok (.iload_n 2, 1) := by decide +kernel
theorem dX6_look_55 : decode cX6_look 55 = .ok (.if_icmp .ne 16, 3) := by decide +kernel
theorem dX6_look_58 : decode cX6_look 58 = .ok (.aload_n 0, 1) := by decide +kernel
theorem dX6_look_59 : decode cX6_look 59 = .ok (.iload_n 1, 1) := by decide +kernel
theorem dX6_look_60 : decode cX6_look 60 = .ok (.iload_n 2, 1) := by decide +kernel
theorem dX6_look_61 : decode cX6_look 61 = .ok (.invokevirtual 164, 3) := by decide +kernel
theorem dX6_look_64 : decode cX6_look 64 = .ok (.ifCond .eq 7, 3) := by decide +kernel
theorem dX6_look_67 : decode cX6_look 67 = .ok (.iload_n 2, 1) := by decide +kernel
theorem dX6_look_68 : decode cX6_look 68 = .ok (.goto 9, 3) := by decide +kernel
theorem dX6_look_71 : decode cX6_look 71 = .ok (.aload_n 0, 1) := by decide +kernel
theorem dX6_look_72 : decode cX6_look 72 = .ok (.getfield 54, 3) := by decide +kernel
theorem dX6_look_75 : decode cX6_look 75 = .ok (.iload_n 1, 1) := by decide +kernel
theorem dX6_look_76 : decode cX6_look 76 = .ok (.iaload, 1) := by decide +kernel
theorem dX6_look_77 : decode cX6_look 77 = .ok (.iastore, 1) := by decide +kernel
theorem dX6_look_78 : decode cX6_look 78 = .ok (.iinc 2 (-1), 3) := by decide +kernel
theorem dX6_look_81 : decode cX6_look 81 = .ok (.goto (-42), 3) := by decide +kernel
theorem dX6_look_84 : decode cX6_look 84 = .ok (.aload_n 0, 1) := by decide +kernel
theorem dX6_look_85 : decode cX6_look 85 = .ok (.getfield 54, 3) := by decide +kernel
theorem dX6_look_88 : decode cX6_look 88 = .ok (.iload_n 1, 1) := by decide +kernel
theorem dX6_look_89 : decode cX6_look 89 = .ok (.iaload, 1) := by decide +kernel
theorem dX6_look_90 : decode cX6_look 90 = .ok (.iload_n 1, 1) := by decide +kernel
theorem dX6_look_91 : decode cX6_look 91 = .ok (.if_icmp .ne 65, 3) := by decide +kernel
theorem dX6_look_94 : decode cX6_look 94 = .ok (.aload_n 0, 1) := by decide +kernel
theorem dX6_look_95 : decode cX6_look 95 = .ok (.getfield 161, 3) := by decide +kernel
theorem dX6_look_98 : decode cX6_look 98 = .ok (.istore_n 2, 1) := by decide +kernel
theorem dX6_look_99 : decode cX6_look 99 = .ok (.iload_n 2, 1) := by decide +kernel
theorem dX6_look_100 : decode cX6_look 100 = .ok (.ifCond .le 39, 3) := by decide +kernel
theorem dX6_look_103 : decode cX6_look 103 = .ok (.aload_n 0, 1) := by decide +kernel
theorem dX6_look_104 : decode cX6_look 104 = .ok (.iload_n 1, 1) := by decide +kernel
theorem dX6_look_105 : decode cX6_look 105 = .ok (.aload_n 0, 1) := by decide +kernel
theorem dX6_look_106 : decode cX6_look 106 = .ok (.getfield 57, 3) := by decide +kernel
theorem dX6_look_109 : decode cX6_look 109 = .ok (.iload_n 2, 1) := by decide +kernel
theorem dX6_look_110 : decode cX6_look 110 = .ok (.iconst 1, 1) := by decide +kernel
theorem dX6_look_111 : decode cX6_look 111 = .ok (.isub, 1) := by decide +kernel
theorem dX6_look_112 : decode cX6_look 112 = .ok (.iaload, 1) := by decide +kernel
theorem dX6_look_113 : decode cX6_look 113 = .ok (.invokevirtual 168, 3) := by decide +kernel
theorem dX6_look_116 : decode cX6_look 116 = .ok (.ifCond .eq 23, 3) := by decide +kernel
theorem dX6_look_119 : decode cX6_look 119 = .ok (.aload_n 0, 1) := by decide +kernel
theorem dX6_look_120 : decode cX6_look 120 = .ok (.getfield 57, 3) := by decide +kernel
theorem dX6_look_123 : decode cX6_look 123 = .ok (.iload_n 2, 1) := by decide +kernel
theorem dX6_look_124 : decode cX6_look 124 = .ok (.aload_n 0, 1) := by decide +kernel
theorem dX6_look_125 : decode cX6_look 125 = .ok (.getfield 57, 3) := by decide +kernel
theorem dX6_look_128 : decode cX6_look 128 = .ok (.iload_n 2, 1) := by decide +kernel
theorem dX6_look_129 : decode cX6_look 129 = .ok (.iconst 1, 1) := by decide +kernel
theorem dX6_look_130 : decode cX6_look 130 = .ok (.isub, 1) := by decide +kernel
theorem dX6_look_131 : decode cX6_look 131 = .ok (.iaload, 1) := by decide +kernel
theorem dX6_look_132 : decode cX6_look 132 = .ok (.iastore, 1) := by decide +kernel
theorem dX6_look_133 : decode cX6_look 133 = .ok (.iinc 2 (-1), 3) := by decide +kernel
theorem dX6_look_136 : decode cX6_look 136 = .ok (.goto (-37), 3) := by decide +kernel
theorem dX6_look_139 : decode cX6_look 139 = .ok (.aload_n 0, 1) := by decide +kernel
theorem dX6_look_140 : decode cX6_look 140 = .ok (.getfield 57, 3) := by decide +kernel
theorem dX6_look_143 : decode cX6_look 143 = .ok (.iload_n 2, 1) := by decide +kernel
theorem dX6_look_144 : decode cX6_look 144 = .ok (.iload_n 1, 1) := by decide +kernel
theorem dX6_look_145 : decode cX6_look 145 = .ok (.iastore, 1) := by decide +kernel
theorem dX6_look_146 : decode cX6_look 146 = .ok (.aload_n 0, 1) := by decide +kernel
theorem dX6_look_147 : decode cX6_look 147 = .ok (.dup, 1) := by decide +kernel
theorem dX6_look_148 : decode cX6_look 148 = .ok (.getfield 161, 3) := by decide +kernel
theorem dX6_look_151 : decode cX6_look 151 = .ok (.iconst 1, 1) := by decide +kernel
theorem dX6_look_152 : decode cX6_look 152 = .ok (.iadd, 1) := by decide +kernel
theorem dX6_look_153 : decode cX6_look 153 = .ok (.putfield 161, 3) := by decide +kernel
theorem dX6_look_156 : decode cX6_look 156 = .ok (.iinc 1 1, 3) := by decide +kernel
theorem dX6_look_159 : decode cX6_look 159 = .ok (.goto (-139), 3) := by decide +kernel
theorem dX6_look_162 : decode cX6_look 162 = .ok (.return_, 1) := by decide +kernel
theorem dX6_take_0 : decode cX6_take 0 = .ok (.aload_n 0, 1) := by decide +kernel
theorem dX6_take_1 : decode cX6_take 1 = .ok (.getfield 171, 3) := by decide +kernel
theorem dX6_take_4 : decode cX6_take 4 = .ok (.istore 5, 2) := by decide +kernel
theorem dX6_take_6 : decode cX6_take 6 = .ok (.iload 5, 2) := by decide +kernel
theorem dX6_take_8 : decode cX6_take 8 = .ok (.ifCond .le 112, 3) := by decide +kernel
theorem dX6_take_11 : decode cX6_take 11 = .ok (.aload_n 0, 1) := by decide +kernel
theorem dX6_take_12 : decode cX6_take 12 = .ok (.getfield 75, 3) := by decide +kernel
theorem dX6_take_15 : decode cX6_take 15 = .ok (.iload 5, 2) := by decide +kernel
theorem dX6_take_17 : decode cX6_take 17 = .ok (.iconst 1, 1) := by decide +kernel
theorem dX6_take_18 : decode cX6_take 18 = .ok (.isub, 1) := by decide +kernel
theorem dX6_take_19 : decode cX6_take 19 = .ok (.iaload, 1) := by decide +kernel
theorem dX6_take_20 : decode cX6_take 20 = .ok (.iload_n 1, 1) := by decide +kernel
theorem dX6_take_21 : decode cX6_take 21 = .ok (.if_icmp .gt 29, 3) := by decide +kernel
theorem dX6_take_24 : decode cX6_take 24 = .ok (.aload_n 0, 1) := by decide +kernel
theorem dX6_take_25 : decode cX6_take 25 = .ok (.getfield 75, 3) := by decide +kernel
theorem dX6_take_28 : decode cX6_take 28 = .ok (.iload 5, 2) := by decide +kernel
theorem dX6_take_30 : decode cX6_take 30 = .ok (.iconst 1, 1) := by decide +kernel
theorem dX6_take_31 : decode cX6_take 31 = .ok (.isub, 1) := by decide +kernel
theorem dX6_take_32 : decode cX6_take 32 = .ok (.iaload, 1) := by decide +kernel
theorem dX6_take_33 : decode cX6_take 33 = .ok (.iload_n 1, 1) := by decide +kernel
theorem dX6_take_34 : decode cX6_take 34 = .ok (.if_icmp .ne 86, 3) := by decide +kernel
theorem dX6_take_37 : decode cX6_take 37 = .ok (.aload_n 0, 1) := by decide +kernel
theorem dX6_take_38 : decode cX6_take 38 = .ok (.getfield 78, 3) := by decide +kernel
theorem dX6_take_41 : decode cX6_take 41 = .ok (.iload 5, 2) := by decide +kernel
theorem dX6_take_43 : decode cX6_take 43 = .ok (.iconst 1, 1) := by decide +kernel
theorem dX6_take_44 : decode cX6_take 44 = .ok (.isub, 1) := by decide +kernel
theorem dX6_take_45 : decode cX6_take 45 = .ok (.iaload, 1) := by decide +kernel
theorem dX6_take_46 : decode cX6_take 46 = .ok (.iload_n 2, 1) := by decide +kernel
theorem dX6_take_47 : decode cX6_take 47 = .ok (.if_icmp .le 73, 3) := by decide +kernel
theorem dX6_take_50 : decode cX6_take 50 = .ok (.aload_n 0, 1) := by decide +kernel
theorem dX6_take_51 : decode cX6_take 51 = .ok (.getfield 75, 3) := by decide +kernel
theorem dX6_take_54 : decode cX6_take 54 = .ok (.iload 5, 2) := by decide +kernel
theorem dX6_take_56 : decode cX6_take 56 = .ok (.aload_n 0, 1) := by decide +kernel
theorem dX6_take_57 : decode cX6_take 57 = .ok (.getfield 75, 3) := by decide +kernel
theorem dX6_take_60 : decode cX6_take 60 = .ok (.iload 5, 2) := by decide +kernel
theorem dX6_take_62 : decode cX6_take 62 = .ok (.iconst 1, 1) := by decide +kernel
theorem dX6_take_63 : decode cX6_take 63 = .ok (.isub, 1) := by decide +kernel
theorem dX6_take_64 : decode cX6_take 64 = .ok (.iaload, 1) := by decide +kernel
theorem dX6_take_65 : decode cX6_take 65 = .ok (.iastore, 1) := by decide +kernel
theorem dX6_take_66 : decode cX6_take 66 = .ok (.aload_n 0, 1) := by decide +kernel
theorem dX6_take_67 : decode cX6_take 67 = .ok (.getfield 78, 3) := by decide +kernel
theorem dX6_take_70 : decode cX6_take 70 = .ok (.iload 5, 2) := by decide +kernel
theorem dX6_take_72 : decode cX6_take 72 = .ok (.aload_n 0, 1) := by decide +kernel
theorem dX6_take_73 : decode cX6_take 73 = .ok (.getfield 78, 3) := by decide +kernel
theorem dX6_take_76 : decode cX6_take 76 = .ok (.iload 5, 2) := by decide +kernel
theorem dX6_take_78 : decode cX6_take 78 = .ok (.iconst 1, 1) := by decide +kernel
theorem dX6_take_79 : decode cX6_take 79 = .ok (.isub, 1) := by decide +kernel
theorem dX6_take_80 : decode cX6_take 80 = .ok (.iaload, 1) := by decide +kernel
theorem dX6_take_81 : decode cX6_take 81 = .ok (.iastore, 1) := by decide +kernel
theorem dX6_take_82 : decode cX6_take 82 = .ok (.aload_n 0, 1) := by decide +kernel
theorem dX6_take_83 : decode cX6_take 83 = .ok (.getfield 81, 3) := by decide +kernel
theorem dX6_take_86 : decode cX6_take 86 = .ok (.iload 5, 2) := by decide +kernel
theorem dX6_take_88 : decode cX6_take 88 = .ok (.aload_n 0, 1) := by decide +kernel
theorem dX6_take_89 : decode cX6_take 89 = .ok (.getfield 81, 3) := by decide +kernel
theorem dX6_take_92 : decode cX6_take 92 = .ok (.iload 5, 2) := by decide +kernel
theorem dX6_take_94 : decode cX6_take 94 = .ok (.iconst 1, 1) := by decide +kernel
theorem dX6_take_95 : decode cX6_take 95 = .ok (.isub, 1) := by decide +kernel
theorem dX6_take_96 : decode cX6_take 96 = .ok (.iaload, 1) := by decide +kernel
theorem dX6_take_97 : decode cX6_take 97 = .ok (.iastore, 1) := by decide +kernel
theorem dX6_take_98 : decode cX6_take 98 = .ok (.aload_n 0, 1) := by decide +kernel
theorem dX6_take_99 : decode cX6_take 99 = .ok (.getfield 84, 3) := by decide +kernel
theorem dX6_take_102 : decode cX6_take 102 = .ok (.iload 5, 2) := by decide +kernel
theorem dX6_take_104 : decode cX6_take 104 = .ok (.aload_n 0, 1) := by decide +kernel
theorem dX6_take_105 : decode cX6_take 105 = .ok (.getfield 84, 3) := by decide +kernel
theorem dX6_take_108 : decode cX6_take 108 = .ok (.iload 5, 2) := by decide +kernel
theorem dX6_take_110 : decode cX6_take 110 = .ok (.iconst 1, 1) := by decide +kernel
theorem dX6_take_111 : decode cX6_take 111 = .ok (.isub, 1) := by decide +kernel
theorem dX6_take_112 : decode cX6_take 112 = .ok (.baload, 1) := by decide +kernel
theorem dX6_take_113 : decode cX6_take 113 = .ok (.bastore, 1) := by decide +kernel
theorem dX6_take_114 : decode cX6_take 114 = .ok (.iinc 5 (-1), 3) := by decide +kernel
theorem dX6_take_117 : decode cX6_take 117 = .ok (.goto (-111), 3) := by decide +kernel
theorem dX6_take_120 : decode cX6_take 120 = .ok (.aload_n 0, 1) := by decide +kernel
theorem dX6_take_121 : decode cX6_take 121 = .ok (.getfield 75, 3) := by decide +kernel
theorem dX6_take_124 : decode cX6_take 124 = .ok (.iload 5, 2) := by decide +kernel
theorem dX6_take_126 : decode cX6_take 126 = .ok (.iload_n 1, 1) := by decide +kernel
theorem dX6_take_127 : decode cX6_take 127 = .ok (.iastore, 1) := by decide +kernel
theorem dX6_take_128 : decode cX6_take 128 = .ok (.aload_n 0, 1) := by decide +kernel
theorem dX6_take_129 : decode cX6_take 129 = .ok (.getfield 78, 3) := by decide +kernel
theorem dX6_take_132 : decode cX6_take 132 = .ok (.iload 5, 2) := by decide +kernel
theorem dX6_take_134 : decode cX6_take 134 = .ok (.iload_n 2, 1) := by decide +kernel
theorem dX6_take_135 : decode cX6_take 135 = .ok (.iastore, 1) := by decide +kernel
theorem dX6_take_136 : decode cX6_take 136 = .ok (.aload_n 0, 1) := by decide +kernel
theorem dX6_take_137 : decode cX6_take 137 = .ok (.getfield 81, 3) := by decide +kernel
theorem dX6_take_140 : decode cX6_take 140 = .ok (.iload 5, 2) := by decide +kernel
theorem dX6_take_142 : decode cX6_take 142 = .ok (.iload_n 3, 1) := by decide +kernel
theorem dX6_take_143 : decode cX6_take 143 = .ok (.iastore, 1) := by decide +kernel
theorem dX6_take_144 : decode cX6_take 144 = .ok (.aload_n 0, 1) := by decide +kernel
theorem dX6_take_145 : decode cX6_take 145 = .ok (.getfield 84, 3) := by decide +kernel
theorem dX6_take_148 : decode cX6_take 148 = .ok (.iload 5, 2) := by decide +kernel
theorem dX6_take_150 : decode cX6_take 150 = .ok (.iload 4, 2) := by decide +kernel
theorem dX6_take_152 : decode cX6_take 152 = .ok (.bastore, 1) := by decide +kernel
theorem dX6_take_153 : decode cX6_take 153 = .ok (.aload_n 0, 1) := by decide +kernel
theorem dX6_take_154 : decode cX6_take 154 = .ok (.dup, 1) := by decide +kernel
theorem dX6_take_155 : decode cX6_take 155 = .ok (.getfield 171, 3) := by decide +kernel
theorem dX6_take_158 : decode cX6_take 158 = .ok (.iconst 1, 1) := by decide +kernel
theorem dX6_take_159 : decode cX6_take 159 = .ok (.iadd, 1) := by decide +kernel
theorem dX6_take_160 : decode cX6_take 160 = .ok (.putfield 171, 3) := by decide +kernel
theorem dX6_take_163 : decode cX6_take 163 = .ok (.return_, 1) := by decide +kernel
theorem dX6_gather_0 : decode cX6_gather 0 = .ok (.aload_n 0, 1) := by decide +kernel
theorem dX6_gather_1 : decode cX6_gather 1 = .ok (.iconst 0, 1) := by decide +kernel
theorem dX6_gather_2 : decode cX6_gather 2 = .ok (.putfield 171, 3) := by decide +kernel
theorem dX6_gather_5 : decode cX6_gather 5 = .ok (.iconst 0, 1) := by decide +kernel
theorem dX6_gather_6 : decode cX6_gather 6 = .ok (.istore_n 2, 1) := by decide +kernel
theorem dX6_gather_7 : decode cX6_gather 7 = .ok (.iload_n 2, 1) := by decide +kernel
theorem dX6_gather_8 : decode cX6_gather 8 = .ok (.aload_n 0, 1) := by decide +kernel
theorem dX6_gather_9 : decode cX6_gather 9 = .ok (.getfield 103, 3) := by decide +kernel
theorem dX6_gather_12 : decode cX6_gather 12 = .ok (.if_icmp .ge 100, 3) := by decide +kernel
theorem dX6_gather_15 : decode cX6_gather 15 = .ok (.aload_n 0, 1) := by decide +kernel
theorem dX6_gather_16 : decode cX6_gather 16 = .ok (.getfield 54, 3) := by decide +kernel
theorem dX6_gather_19 : decode cX6_gather 19 = .ok (.iload_n 2, 1) := by decide +kernel
theorem dX6_gather_20 : decode cX6_gather 20 = .ok (.iaload, 1) := by decide +kernel
theorem dX6_gather_21 : decode cX6_gather 21 = .ok (.iload_n 1, 1) := by decide +kernel
theorem dX6_gather_22 : decode cX6_gather 22 = .ok (.if_icmp .ne 84, 3) := by decide +kernel
theorem dX6_gather_25 : decode cX6_gather 25 = .ok (.bipush 20, 2) := by decide +kernel
theorem dX6_gather_27 : decode cX6_gather 27 = .ok (.iload_n 2, 1) := by decide +kernel
theorem dX6_gather_28 : decode cX6_gather 28 = .ok (.imul, 1) := by decide +kernel
theorem dX6_gather_29 : decode cX6_gather 29 = .ok (.istore_n 3, 1) := by decide +kernel
theorem dX6_gather_30 : decode cX6_gather 30 = .ok (.iload_n 3, 1) := by decide +kernel
theorem dX6_gather_31 : decode cX6_gather 31 = .ok (.bipush 20, 2) := by decide +kernel
theorem dX6_gather_33 : decode cX6_gather 33 = .ok (.iload_n 2, 1) := by decide +kernel
theorem dX6_gather_34 : decode cX6_gather 34 = .ok (.imul, 1) := by decide +kernel
theorem dX6_gather_35 : decode cX6_gather 35 = .ok (.aload_n 0, 1) := by decide +kernel
theorem dX6_gather_36 : decode cX6_gather 36 = .ok (.getfield 35, 3) := by decide +kernel
theorem dX6_gather_39 : decode cX6_gather 39 = .ok (.iload_n 2, 1) := by decide +kernel
theorem dX6_gather_40 : decode cX6_gather 40 = .ok (.iaload, 1) := by decide +kernel
theorem dX6_gather_41 : decode cX6_gather 41 = .ok (.iadd, 1) := by decide +kernel
theorem dX6_gather_42 : decode cX6_gather 42 = .ok (.if_icmp .ge 37, 3) := by decide +kernel
theorem dX6_gather_45 : decode cX6_gather 45 = .ok (.aload_n 0, 1) := by decide +kernel
theorem dX6_gather_46 : decode cX6_gather 46 = .ok (.aload_n 0, 1) := by decide +kernel
theorem dX6_gather_47 : decode cX6_gather 47 = .ok (.getfield 22, 3) := by decide +kernel
theorem dX6_gather_50 : decode cX6_gather 50 = .ok (.iload_n 3, 1) := by decide +kernel
theorem dX6_gather_51 : decode cX6_gather 51 = .ok (.iaload, 1) := by decide +kernel
theorem dX6_gather_52 : decode cX6_gather 52 = .ok (.aload_n 0, 1) := by decide +kernel
theorem dX6_gather_53 : decode cX6_gather 53 = .ok (.getfield 25, 3) := by decide +kernel
theorem dX6_gather_56 : decode cX6_gather 56 = .ok (.iload_n 3, 1) := by decide +kernel
theorem dX6_gather_57 : decode cX6_gather 57 = .ok (.iaload, 1) := by decide +kernel
theorem dX6_gather_58 : decode cX6_gather 58 = .ok (.aload_n 0, 1) := by decide +kernel
theorem dX6_gather_59 : decode cX6_gather 59 = .ok (.getfield 28, 3) := by decide +kernel
theorem dX6_gather_62 : decode cX6_gather 62 = .ok (.iload_n 3, 1) := by decide +kernel
theorem dX6_gather_63 : decode cX6_gather 63 = .ok (.iaload, 1) := by decide +kernel
theorem dX6_gather_64 : decode cX6_gather 64 = .ok (.aload_n 0, 1) := by decide +kernel
theorem dX6_gather_65 : decode cX6_gather 65 = .ok (.getfield 31, 3) := by decide +kernel
theorem dX6_gather_68 : decode cX6_gather 68 = .ok (.iload_n 3, 1) := by decide +kernel
theorem dX6_gather_69 : decode cX6_gather 69 = .ok (.baload, 1) := by decide +kernel
theorem dX6_gather_70 : decode cX6_gather 70 = .ok (.invokevirtual 174, 3) := by decide +kernel
