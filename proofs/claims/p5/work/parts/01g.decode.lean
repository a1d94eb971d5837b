theorem dX6_gather_73 : decode cX6_gather 73 = .ok (.iinc 3 1, 3) := by decide +kernel
theorem dX6_gather_76 : decode cX6_gather 76 = .ok (.goto (-46), 3) := by decide +kernel
theorem dX6_gather_79 : decode cX6_gather 79 = .ok (.aload_n 0, 1) := by decide +kernel
theorem dX6_gather_80 : decode cX6_gather 80 = .ok (.getfield 38, 3) := by decide +kernel
theorem dX6_gather_83 : decode cX6_gather 83 = .ok (.iload_n 2, 1) := by decide +kernel
theorem dX6_gather_84 : decode cX6_gather 84 = .ok (.iaload, 1) := by decide +kernel
theorem dX6_gather_85 : decode cX6_gather 85 = .ok (.ifCond .le 21, 3) := by decide +kernel
theorem dX6_gather_88 : decode cX6_gather 88 = .ok (.aload_n 0, 1) := by decide +kernel
theorem dX6_gather_89 : decode cX6_gather 89 = .ok (.iconst 1, 1) := by decide +kernel
theorem dX6_gather_90 : decode cX6_gather 90 = .ok (.aload_n 0, 1) := by decide +kernel
theorem dX6_gather_91 : decode cX6_gather 91 = .ok (.getfield 38, 3) := by decide +kernel
theorem dX6_gather_94 : decode cX6_gather 94 = .ok (.iload_n 2, 1) := by decide +kernel
theorem dX6_gather_95 : decode cX6_gather 95 = .ok (.iaload, 1) := by decide +kernel
theorem dX6_gather_96 : decode cX6_gather 96 = .ok (.aload_n 0, 1) := by decide +kernel
theorem dX6_gather_97 : decode cX6_gather 97 = .ok (.getfield 38, 3) := by decide +kernel
theorem dX6_gather_100 : decode cX6_gather 100 = .ok (.iload_n 2, 1) := by decide +kernel
theorem dX6_gather_101 : decode cX6_gather 101 = .ok (.iaload, 1) := by decide +kernel
theorem dX6_gather_102 : decode cX6_gather 102 = .ok (.iconst 0, 1) := by decide +kernel
theorem dX6_gather_103 : decode cX6_gather 103 = .ok (.invokevirtual 174, 3) := by decide +kernel
theorem dX6_gather_106 : decode cX6_gather 106 = .ok (.iinc 2 1, 3) := by decide +kernel
theorem dX6_gather_109 : decode cX6_gather 109 = .ok (.goto (-102), 3) := by decide +kernel
theorem dX6_gather_112 : decode cX6_gather 112 = .ok (.return_, 1) := by decide +kernel
theorem dX6_locate_0 : decode cX6_locate 0 = .ok (.iconst 0, 1) := by decide +kernel
theorem dX6_locate_1 : decode cX6_locate 1 = .ok (.istore_n 2, 1) := by decide +kernel
theorem dX6_locate_2 : decode cX6_locate 2 = .ok (.iconst 0, 1) := by decide +kernel
theorem dX6_locate_3 : decode cX6_locate 3 = .ok (.istore_n 3, 1) := by decide +kernel
theorem dX6_locate_4 : decode cX6_locate 4 = .ok (.iload_n 3, 1) := by decide +kernel
theorem dX6_locate_5 : decode cX6_locate 5 = .ok (.aload_n 0, 1) := by decide +kernel
theorem dX6_locate_6 : decode cX6_locate 6 = .ok (.getfield 171, 3) := by decide +kernel
theorem dX6_locate_9 : decode cX6_locate 9 = .ok (.if_icmp .ge 217, 3) := by decide +kernel
theorem dX6_locate_12 : decode cX6_locate 12 = .ok (.aload_n 0, 1) := by decide +kernel
theorem dX6_locate_13 : decode cX6_locate 13 = .ok (.getfield 75, 3) := by decide +kernel
theorem dX6_locate_16 : decode cX6_locate 16 = .ok (.iload_n 3, 1) := by decide +kernel
theorem dX6_locate_17 : decode cX6_locate 17 = .ok (.iaload, 1) := by decide +kernel
theorem dX6_locate_18 : decode cX6_locate 18 = .ok (.istore 4, 2) := by decide +kernel
theorem dX6_locate_20 : decode cX6_locate 20 = .ok (.aload_n 0, 1) := by decide +kernel
theorem dX6_locate_21 : decode cX6_locate 21 = .ok (.getfield 78, 3) := by decide +kernel
theorem dX6_locate_24 : decode cX6_locate 24 = .ok (.iload_n 3, 1) := by decide +kernel
theorem dX6_locate_25 : decode cX6_locate 25 = .ok (.iaload, 1) := by decide +kernel
theorem dX6_locate_26 : decode cX6_locate 26 = .ok (.istore 5, 2) := by decide +kernel
theorem dX6_locate_28 : decode cX6_locate 28 = .ok (.aload_n 0, 1) := by decide +kernel
theorem dX6_locate_29 : decode cX6_locate 29 = .ok (.getfield 81, 3) := by decide +kernel
theorem dX6_locate_32 : decode cX6_locate 32 = .ok (.iload_n 3, 1) := by decide +kernel
theorem dX6_locate_33 : decode cX6_locate 33 = .ok (.iaload, 1) := by decide +kernel
theorem dX6_locate_34 : decode cX6_locate 34 = .ok (.istore 6, 2) := by decide +kernel
theorem dX6_locate_36 : decode cX6_locate 36 = .ok (.iconst 0, 1) := by decide +kernel
theorem dX6_locate_37 : decode cX6_locate 37 = .ok (.istore 7, 2) := by decide +kernel
theorem dX6_locate_39 : decode cX6_locate 39 = .ok (.iload_n 3, 1) := by decide +kernel
theorem dX6_locate_40 : decode cX6_locate 40 = .ok (.aload_n 0, 1) := by decide +kernel
theorem dX6_locate_41 : decode cX6_locate 41 = .ok (.getfield 171, 3) := by decide +kernel
theorem dX6_locate_44 : decode cX6_locate 44 = .ok (.if_icmp .ge 78, 3) := by decide +kernel
theorem dX6_locate_47 : decode cX6_locate 47 = .ok (.aload_n 0, 1) := by decide +kernel
theorem dX6_locate_48 : decode cX6_locate 48 = .ok (.getfield 75, 3) := by decide +kernel
theorem dX6_locate_51 : decode cX6_locate 51 = .ok (.iload_n 3, 1) := by decide +kernel
theorem dX6_locate_52 : decode cX6_locate 52 = .ok (.iaload, 1) := by decide +kernel
theorem dX6_locate_53 : decode cX6_locate 53 = .ok (.iload 4, 2) := by decide +kernel
theorem dX6_locate_55 : decode cX6_locate 55 = .ok (.if_icmp .ne 67, 3) := by decide +kernel
theorem dX6_locate_58 : decode cX6_locate 58 = .ok (.aload_n 0, 1) := by decide +kernel
theorem dX6_locate_59 : decode cX6_locate 59 = .ok (.getfield 78, 3) := by decide +kernel
theorem dX6_locate_62 : decode cX6_locate 62 = .ok (.iload_n 3, 1) := by decide +kernel
theorem dX6_locate_63 : decode cX6_locate 63 = .ok (.iaload, 1) := by decide +kernel
theorem dX6_locate_64 : decode cX6_locate 64 = .ok (.iload 6, 2) := by decide +kernel
theorem dX6_locate_66 : decode cX6_locate 66 = .ok (.iconst 1, 1) := by decide +kernel
theorem dX6_locate_67 : decode cX6_locate 67 = .ok (.iadd, 1) := by decide +kernel
theorem dX6_locate_68 : decode cX6_locate 68 = .ok (.if_icmp .gt 54, 3) := by decide +kernel
theorem dX6_locate_71 : decode cX6_locate 71 = .ok (.aload_n 0, 1) := by decide +kernel
theorem dX6_locate_72 : decode cX6_locate 72 = .ok (.getfield 81, 3) := by decide +kernel
theorem dX6_locate_75 : decode cX6_locate 75 = .ok (.iload_n 3, 1) := by decide +kernel
theorem dX6_locate_76 : decode cX6_locate 76 = .ok (.iaload, 1) := by decide +kernel
theorem dX6_locate_77 : decode cX6_locate 77 = .ok (.iload 6, 2) := by decide +kernel
theorem dX6_locate_79 : decode cX6_locate 79 = .ok (.if_icmp .le 12, 3) := by decide +kernel
theorem dX6_locate_82 : decode cX6_locate 82 = .ok (.aload_n 0, 1) := by decide +kernel
theorem dX6_locate_83 : decode cX6_locate 83 = .ok (.getfield 81, 3) := by decide +kernel
theorem dX6_locate_86 : decode cX6_locate 86 = .ok (.iload_n 3, 1) := by decide +kernel
theorem dX6_locate_87 : decode cX6_locate 87 = .ok (.iaload, 1) := by decide +kernel
theorem dX6_locate_88 : decode cX6_locate 88 = .ok (.goto 5, 3) := by decide +kernel
theorem dX6_locate_91 : decode cX6_locate 91 = .ok (.iload 6, 2) := by decide +kernel
theorem dX6_locate_93 : decode cX6_locate 93 = .ok (.istore 6, 2) := by decide +kernel
theorem dX6_locate_95 : decode cX6_locate 95 = .ok (.iload 7, 2) := by decide +kernel
theorem dX6_locate_97 : decode cX6_locate 97 = .ok (.ifCond .ne 12, 3) := by decide +kernel
theorem dX6_locate_100 : decode cX6_locate 100 = .ok (.aload_n 0, 1) := by decide +kernel
theorem dX6_locate_101 : decode cX6_locate 101 = .ok (.getfield 84, 3) := by decide +kernel
theorem dX6_locate_104 : decode cX6_locate 104 = .ok (.iload_n 3, 1) := by decide +kernel
theorem dX6_locate_105 : decode cX6_locate 105 = .ok (.baload, 1) := by decide +kernel
theorem dX6_locate_106 : decode cX6_locate 106 = .ok (.ifCond .eq 7, 3) := by decide +kernel
theorem dX6_locate_109 : decode cX6_locate 109 = .ok (.iconst 1, 1) := by decide +kernel
theorem dX6_locate_110 : decode cX6_locate 110 = .ok (.goto 4, 3) := by decide +kernel
theorem dX6_locate_113 : decode cX6_locate 113 = .ok (.iconst 0, 1) := by decide +kernel
theorem dX6_locate_114 : decode cX6_locate 114 = .ok (.istore 7, 2) := by decide +kernel
theorem dX6_locate_116 : decode cX6_locate 116 = .ok (.iinc 3 1, 3) := by decide +kernel
theorem dX6_locate_119 : decode cX6_locate 119 = .ok (.goto (-80), 3) := by decide +kernel
theorem dX6_locate_122 : decode cX6_locate 122 = .ok (.iload 7, 2) := by decide +kernel
theorem dX6_locate_124 : decode cX6_locate 124 = .ok (.ifCond .ne 12, 3) := by decide +kernel
theorem dX6_locate_127 : decode cX6_locate 127 = .ok (.iload 6, 2) := by decide +kernel
theorem dX6_locate_129 : decode cX6_locate 129 = .ok (.iload 5, 2) := by decide +kernel
theorem dX6_locate_131 : decode cX6_locate 131 = .ok (.isub, 1) := by decide +kernel
theorem dX6_locate_132 : decode cX6_locate 132 = .ok (.iconst 1, 1) := by decide +kernel
theorem dX6_locate_133 : decode cX6_locate 133 = .ok (.if_icmp .le 7, 3) := by decide +kernel
theorem dX6_locate_136 : decode cX6_locate 136 = .ok (.iconst 1, 1) := by decide +kernel
theorem dX6_locate_137 : decode cX6_locate 137 = .ok (.goto 4, 3) := by decide +kernel
theorem dX6_locate_140 : decode cX6_locate 140 = .ok (.iconst 0, 1) := by decide +kernel
theorem dX6_locate_141 : decode cX6_locate 141 = .ok (.istore 8, 2) := by decide +kernel
theorem dX6_locate_143 : decode cX6_locate 143 = .ok (.iload 8, 2) := by decide +kernel
theorem dX6_locate_145 : decode cX6_locate 145 = .ok (.ifCond .eq 7, 3) := by decide +kernel
theorem dX6_locate_148 : decode cX6_locate 148 = .ok (.iconst 1, 1) := by decide +kernel
theorem dX6_locate_149 : decode cX6_locate 149 = .ok (.goto 10, 3) := by decide +kernel
theorem dX6_locate_152 : decode cX6_locate 152 = .ok (.iload 6, 2) := by decide +kernel
theorem dX6_locate_154 : decode cX6_locate 154 = .ok (.iload 5, 2) := by decide +kernel
theorem dX6_locate_156 : decode cX6_locate 156 = .ok (.isub, 1) := by decide +kernel
theorem dX6_locate_157 : decode cX6_locate 157 = .ok (.iconst 1, 1) := by decide +kernel
theorem dX6_locate_158 : decode cX6_locate 158 = .ok (.iadd, 1) := by decide +kernel
theorem dX6_locate_159 : decode cX6_locate 159 = .ok (.istore 9, 2) := by decide +kernel
theorem dX6_locate_161 : decode cX6_locate 161 = .ok (.iload_n 1, 1) := by decide +kernel
theorem dX6_locate_162 : decode cX6_locate 162 = .ok (.iload_n 2, 1) := by decide +kernel
theorem dX6_locate_163 : decode cX6_locate 163 = .ok (.if_icmp .lt 55, 3) := by decide +kernel
theorem dX6_locate_166 : decode cX6_locate 166 = .ok (.iload_n 1, 1) := by decide +kernel
theorem dX6_locate_167 : decode cX6_locate 167 = .ok (.iload_n 2, 1) := by decide +kernel
theorem dX6_locate_168 : decode cX6_locate 168 = .ok (.iload 9, 2) := by decide +kernel
theorem dX6_locate_170 : decode cX6_locate 170 = .ok (.iadd, 1) := by decide +kernel
theorem dX6_locate_171 : decode cX6_locate 171 = .ok (.if_icmp .ge 47, 3) := by decide +kernel
theorem dX6_locate_174 : decode cX6_locate 174 = .ok (.aload_n 0, 1) := by decide +kernel
theorem dX6_locate_175 : decode cX6_locate 175 = .ok (.iload 4, 2) := by decide +kernel
theorem dX6_locate_177 : decode cX6_locate 177 = .ok (.putfield 178, 3) := by decide +kernel
theorem dX6_locate_180 : decode cX6_locate 180 = .ok (.aload_n 0, 1) := by decide +kernel
theorem dX6_locate_181 : decode cX6_locate 181 = .ok (.iload 8, 2) := by decide +kernel
theorem dX6_locate_183 : decode cX6_locate 183 = .ok (.ifCond .eq 8, 3) := by decide +kernel
theorem dX6_locate_186 : decode cX6_locate 186 = .ok (.iload 5, 2) := by decide +kernel
theorem dX6_locate_188 : decode cX6_locate 188 = .ok (.goto 9, 3) := by decide +kernel
theorem dX6_locate_191 : decode cX6_locate 191 = .ok (.iload 5, 2) := by decide +kernel
theorem dX6_locate_193 : decode cX6_locate 193 = .ok (.iload_n 1, 1) := by decide +kernel
theorem dX6_locate_194 : decode cX6_locate 194 = .ok (.iadd, 1) := by decide +kernel
theorem dX6_locate_195 : decode cX6_locate 195 = .ok (.iload_n 2, 1) := by decide +kernel
theorem dX6_locate_196 : decode cX6_locate 196 = .ok (.isub, 1) := by decide +kernel
theorem dX6_locate_197 : decode cX6_locate 197 = .ok (.putfield 181, 3) := by decide +kernel
theorem dX6_locate_200 : decode cX6_locate 200 = .ok (.aload_n 0, 1) := by decide +kernel
theorem dX6_locate_201 : decode cX6_locate 201 = .ok (.iload 8, 2) := by decide +kernel
theorem dX6_locate_203 : decode cX6_locate 203 = .ok (.ifCond .eq 8, 3) := by decide +kernel
theorem dX6_locate_206 : decode cX6_locate 206 = .ok (.iload 6, 2) := by decide +kernel
theorem dX6_locate_208 : decode cX6_locate 208 = .ok (.goto 7, 3) := by decide +kernel
theorem dX6_locate_211 : decode cX6_locate 211 = .ok (.aload_n 0, 1) := by decide +kernel
theorem dX6_locate_212 : decode cX6_locate 212 = .ok (.getfield 181, 3) := by decide +kernel
theorem dX6_locate_215 : decode cX6_locate 215 = .ok (.putfield 184, 3) := by decide +kernel
theorem dX6_locate_218 : decode cX6_locate 218 = .ok (.iload_n 2, 1) := by decide +kernel
theorem dX6_locate_219 : decode cX6_locate 219 = .ok (.iload 9, 2) := by decide +kernel
theorem dX6_locate_221 : decode cX6_locate 221 = .ok (.iadd, 1) := by decide +kernel
theorem dX6_locate_222 : decode cX6_locate 222 = .ok (.istore_n 2, 1) := by decide +kernel
theorem dX6_locate_223 : decode cX6_locate 223 = .ok (.goto (-219), 3) := by decide +kernel
theorem dX6_locate_226 : decode cX6_locate 226 = .ok (.iload_n 2, 1) := by decide +kernel
theorem dX6_locate_227 : decode cX6_locate 227 = .ok (.ireturn, 1) := by decide +kernel
theorem dX6_gatherShown_0 : decode cX6_gatherShown 0 = .ok (.aload_n 0, 1) := by decide +kernel
theorem dX6_gatherShown_1 : decode cX6_gatherShown 1 = .ok (.iconst 0, 1) := by decide +kernel
theorem dX6_gatherShown_2 : decode cX6_gatherShown 2 = .ok (.putfield 187, 3) := by decide +kernel
theorem dX6_gatherShown_5 : decode cX6_gatherShown 5 = .ok (.iconst 0, 1) := by decide +kernel
theorem dX6_gatherShown_6 : decode cX6_gatherShown 6 = .ok (.istore_n 2, 1) := by decide +kernel
theorem dX6_gatherShown_7 : decode cX6_gatherShown 7 = .ok (.iload_n 2, 1) := by decide +kernel
theorem dX6_gatherShown_8 : decode cX6_gatherShown 8 = .ok (.aload_n 0, 1) := by decide +kernel
theorem dX6_gatherShown_9 : decode cX6_gatherShown 9 = .ok (.getfield 103, 3) := by decide +kernel
theorem dX6_gatherShown_12 : decode cX6_gatherShown 12 = .ok (.if_icmp .ge 125, 3) := by decide +kernel
theorem dX6_gatherShown_15 : decode cX6_gatherShown 15 = .ok (.iconst 0, 1) := by decide +kernel
theorem dX6_gatherShown_16 : decode cX6_gatherShown 16 = .ok (.istore_n 3, 1) := by decide +kernel
theorem dX6_gatherShown_17 : decode cX6_gatherShown 17 = .ok (.aload_n 0, 1) := by decide +kernel
theorem dX6_gatherShown_18 : decode cX6_gatherShown 18 = .ok (.getfield 54, 3) := by decide +kernel
theorem dX6_gatherShown_21 : decode cX6_gatherShown 21 = .ok (.iload_n 2, 1) := by decide +kernel
theorem dX6_gatherShown_22 : decode cX6_gatherShown 22 = .ok (.iaload, 1) := by decide +kernel
theorem dX6_gatherShown_23 : decode cX6_gatherShown 23 = .ok (.iload_n 1, 1) := by decide +kernel
theorem dX6_gatherShown_24 : decode cX6_gatherShown 24 = .ok (.if_icmp .ne 107, 3) := by decide +kernel
theorem dX6_gatherShown_27 : decode cX6_gatherShown 27 = .ok (.iload_n 3, 1) := by decide +kernel
theorem dX6_gatherShown_28 : decode cX6_gatherShown 28 = .ok (.aload_n 0, 1) := by decide +kernel
theorem dX6_gatherShown_29 : decode cX6_gatherShown 29 = .ok (.getfield 44, 3) := by decide +kernel
theorem dX6_gatherShown_32 : decode cX6_gatherShown 32 = .ok (.iload_n 2, 1) := by decide +kernel
theorem dX6_gatherShown_33 : decode cX6_gatherShown 33 = .ok (.iaload, 1) := by decide +kernel
theorem dX6_gatherShown_34 : decode cX6_gatherShown 34 = .ok (.if_icmp .ge 97, 3) := by decide +kernel
theorem dX6_gatherShown_37 : decode cX6_gatherShown 37 = .ok (.aload_n 0, 1) := by decide +kernel
theorem dX6_gatherShown_38 : decode cX6_gatherShown 38 = .ok (.getfield 54, 3) := by decide +kernel
theorem dX6_gatherShown_41 : decode cX6_gatherShown 41 = .ok (.aload_n 0, 1) := by decide +kernel
theorem dX6_gatherShown_42 : decode cX6_gatherShown 42 = .ok (.getfield 41, 3) := by decide +kernel
theorem dX6_gatherShown_45 : decode cX6_gatherShown 45 = .ok (.iconst 5, 1) := by decide +kernel
theorem dX6_gatherShown_46 : decode cX6_gatherShown 46 = .ok (.iload_n 2, 1) := by decide +kernel
theorem dX6_gatherShown_47 : decode cX6_gatherShown 47 = .ok (.imul, 1) := by decide +kernel
theorem dX6_gatherShown_48 : decode cX6_gatherShown 48 = .ok (.iload_n 3, 1) := by decide +kernel
theorem dX6_gatherShown_49 : decode cX6_gatherShown 49 = .ok (.iadd, 1) := by decide +kernel
theorem dX6_gatherShown_50 : decode cX6_gatherShown 50 = .ok (.iaload, 1) := by decide +kernel
theorem dX6_gatherShown_51 : decode cX6_gatherShown 51 = .ok (.iaload, 1) := by decide +kernel
theorem dX6_gatherShown_52 : decode cX6_gatherShown 52 = .ok (.istore 4, 2) := by decide +kernel
theorem dX6_gatherShown_54 : decode cX6_gatherShown 54 = .ok (.iconst 0, 1) := by decide +kernel
theorem dX6_gatherShown_55 : decode cX6_gatherShown 55 = .ok (.istore 5, 2) := by decide +kernel
theorem dX6_gatherShown_57 : decode cX6_gatherShown 57 = .ok (.iconst 0, 1) := by decide +kernel
theorem dX6_gatherShown_58 : decode cX6_gatherShown 58 = .ok (.istore 6, 2) := by decide +kernel
theorem dX6_gatherShown_60 : decode cX6_gatherShown 60 = .ok (.iload 6, 2) := by decide +kernel
theorem dX6_gatherShown_62 : decode cX6_gatherShown 62 = .ok (.aload_n 0, 1) := by decide +kernel
theorem dX6_gatherShown_63 : decode cX6_gatherShown 63 = .ok (.getfield 187, 3) := by decide +kernel
theorem dX6_gatherShown_66 : decode cX6_gatherShown 66 = .ok (.if_icmp .ge 33, 3) := by decide +kernel
theorem dX6_gatherShown_69 : decode cX6_gatherShown 69 = .ok (.iload 5, 2) := by decide +kernel
theorem dX6_gatherShown_71 : decode cX6_gatherShown 71 = .ok (.ifCond .ne 15, 3) := by decide +kernel
theorem dX6_gatherShown_74 : decode cX6_gatherShown 74 = .ok (.aload_n 0, 1) := by decide +kernel
theorem dX6_gatherShown_75 : decode cX6_gatherShown 75 = .ok (.getfield 87, 3) := by decide +kernel
theorem dX6_gatherShown_78 : decode cX6_gatherShown 78 = .ok (.iload 6, 2) := by decide +kernel
theorem dX6_gatherShown_80 : decode cX6_gatherShown 80 = .ok (.iaload, 1) := by decide +kernel
theorem dX6_gatherShown_81 : decode cX6_gatherShown 81 = .ok (.iload 4, 2) := by decide +kernel
theorem dX6_gatherShown_83 : decode cX6_gatherShown 83 = .ok (.if_icmp .ne 7, 3) := by decide +kernel
theorem dX6_gatherShown_86 : decode cX6_gatherShown 86 = .ok (.iconst 1, 1) := by decide +kernel
theorem dX6_gatherShown_87 : decode cX6_gatherShown 87 = .ok (.goto 4, 3) := by decide +kernel
theorem dX6_gatherShown_90 : decode cX6_gatherShown 90 = .ok (.iconst 0, 1) := by decide +kernel
theorem dX6_gatherShown_91 : decode cX6_gatherShown 91 = .ok (.istore 5, 2) := by decide +kernel
theorem dX6_gatherShown_93 : decode cX6_gatherShown 93 = .ok (.iinc 6 1, 3) := by decide +kernel
theorem dX6_gatherShown_96 : decode cX6_gatherShown 96 = .ok (.goto (-36), 3) := by decide +kernel
theorem dX6_gatherShown_99 : decode cX6_gatherShown 99 = .ok (.iload 5, 2) := by decide +kernel
theorem dX6_gatherShown_101 : decode cX6_gatherShown 101 = .ok (.ifCond .ne 24, 3) := by decide +kernel
theorem dX6_gatherShown_104 : decode cX6_gatherShown 104 = .ok (.aload_n 0, 1) := by decide +kernel
theorem dX6_gatherShown_105 : decode cX6_gatherShown 105 = .ok (.getfield 87, 3) := by decide +kernel
theorem dX6_gatherShown_108 : decode cX6_gatherShown 108 = .ok (.aload_n 0, 1) := by decide +kernel
theorem dX6_gatherShown_109 : decode cX6_gatherShown 109 = .ok (.getfield 187, 3) := by decide +kernel
theorem dX6_gatherShown_112 : decode cX6_gatherShown 112 = .ok (.iload 4, 2) := by decide +kernel
theorem dX6_gatherShown_114 : decode cX6_gatherShown 114 = .ok (.iastore, 1) := by decide +kernel
theorem dX6_gatherShown_115 : decode cX6_gatherShown 115 = .ok (.aload_n 0, 1) := by decide +kernel
theorem dX6_gatherShown_116 : decode cX6_gatherShown 116 = .ok (.dup, 1) := by decide +kernel
theorem dX6_gatherShown_117 : decode cX6_gatherShown 117 = .ok (.getfield 187, 3) := by decide +kernel
theorem dX6_gatherShown_120 : decode cX6_gatherShown 120 = .ok (.iconst 1, 1) := by decide +kernel
theorem dX6_gatherShown_121 : decode cX6_gatherShown 121 = .ok (.iadd, 1) := by decide +kernel
theorem dX6_gatherShown_122 : decode cX6_gatherShown 122 = .ok (.putfield 187, 3) := by decide +kernel
theorem dX6_gatherShown_125 : decode cX6_gatherShown 125 = .ok (.iinc 3 1, 3) := by decide +kernel
theorem dX6_gatherShown_128 : decode cX6_gatherShown 128 = .ok (.goto (-111), 3) := by decide +kernel
theorem dX6_gatherShown_131 : decode cX6_gatherShown 131 = .ok (.iinc 2 1, 3) := by decide +kernel
theorem dX6_gatherShown_134 : decode cX6_gatherShown 134 = .ok (.goto (-127), 3) := by decide +kernel
theorem dX6_gatherShown_137 : decode cX6_gatherShown 137 = .ok (.return_, 1) := by decide +kernel
theorem dX6_groupOf_0 : decode cX6_groupOf 0 = .ok (.aload_n 0, 1) := by decide +kernel
theorem dX6_groupOf_1 : decode cX6_groupOf 1 = .ok (.iload_n 1, 1) := by decide +kernel
theorem dX6_groupOf_2 : decode cX6_groupOf 2 = .ok (.iconst 0, 1) := by decide +kernel
theorem dX6_groupOf_3 : decode cX6_groupOf 3 = .ok (.invokevirtual 155, 3) := by decide +kernel
theorem dX6_groupOf_6 : decode cX6_groupOf 6 = .ok (.istore_n 2, 1) := by decide +kernel
theorem dX6_groupOf_7 : decode cX6_groupOf 7 = .ok (.aload_n 0, 1) := by decide +kernel
theorem dX6_groupOf_8 : decode cX6_groupOf 8 = .ok (.iconst 0, 1) := by decide +kernel
theorem dX6_groupOf_9 : decode cX6_groupOf 9 = .ok (.invokevirtual 139, 3) := by decide +kernel
theorem dX6_groupOf_12 : decode cX6_groupOf 12 = .ok (.aload_n 0, 1) := by decide +kernel
theorem dX6_groupOf_13 : decode cX6_groupOf 13 = .ok (.iconst 0, 1) := by decide +kernel
theorem dX6_groupOf_14 : decode cX6_groupOf 14 = .ok (.iload_n 2, 1) := by decide +kernel
theorem dX6_groupOf_15 : decode cX6_groupOf 15 = .ok (.invokevirtual 143, 3) := by decide +kernel
theorem dX6_groupOf_18 : decode cX6_groupOf 18 = .ok (.aload_n 0, 1) := by decide +kernel
theorem dX6_groupOf_19 : decode cX6_groupOf 19 = .ok (.getfield 66, 3) := by decide +kernel
theorem dX6_groupOf_22 : decode cX6_groupOf 22 = .ok (.iconst 0, 1) := by decide +kernel
theorem dX6_groupOf_23 : decode cX6_groupOf 23 = .ok (.iaload, 1) := by decide +kernel
theorem dX6_groupOf_24 : decode cX6_groupOf 24 = .ok (.iconst (-1), 1) := by decide +kernel
theorem dX6_groupOf_25 : decode cX6_groupOf 25 = .ok (.if_icmp .ne 7, 3) := by decide +kernel
theorem dX6_groupOf_28 : decode cX6_groupOf 28 = .ok (.iconst 0, 1) := by decide +kernel
theorem dX6_groupOf_29 : decode cX6_groupOf 29 = .ok (.goto 23, 3) := by decide +kernel
theorem dX6_groupOf_32 : decode cX6_groupOf 32 = .ok (.aload_n 0, 1) := by decide +kernel
theorem dX6_groupOf_33 : decode cX6_groupOf 33 = .ok (.getfield 66, 3) := by decide +kernel
theorem dX6_groupOf_36 : decode cX6_groupOf 36 = .ok (.iconst 0, 1) := by decide +kernel
theorem dX6_groupOf_37 : decode cX6_groupOf 37 = .ok (.iaload, 1) := by decide +kernel
theorem dX6_groupOf_38 : decode cX6_groupOf 38 = .ok (.iconst 1, 1) := by decide +kernel
theorem dX6_groupOf_39 : decode cX6_groupOf 39 = .ok (.if_icmp .ne 7, 3) := by decide +kernel
theorem dX6_groupOf_42 : decode cX6_groupOf 42 = .ok (.iconst 1, 1) := by decide +kernel
theorem dX6_groupOf_43 : decode cX6_groupOf 43 = .ok (.goto 9, 3) := by decide +kernel
theorem dX6_groupOf_46 : decode cX6_groupOf 46 = .ok (.aload_n 0, 1) := by decide +kernel
theorem dX6_groupOf_47 : decode cX6_groupOf 47 = .ok (.getfield 69, 3) := by decide +kernel
theorem dX6_groupOf_50 : decode cX6_groupOf 50 = .ok (.iconst 0, 1) := by decide +kernel
theorem dX6_groupOf_51 : decode cX6_groupOf 51 = .ok (.iaload, 1) := by decide +kernel
theorem dX6_groupOf_52 : decode cX6_groupOf 52 = .ok (.ireturn, 1) := by decide +kernel
theorem dX6_run_0 : decode cX6_run 0 = .ok (.aload_n 0, 1) := by decide +kernel
theorem dX6_run_1 : decode cX6_run 1 = .ok (.iconst 0, 1) := by decide +kernel
theorem dX6_run_2 : decode cX6_run 2 = .ok (.putfield 107, 3) := by decide +kernel
theorem dX6_run_5 : decode cX6_run 5 = .ok (.aload_n 0, 1) := by decide +kernel
theorem dX6_run_6 : decode cX6_run 6 = .ok (.invokevirtual 190, 3) := by decide +kernel
theorem dX6_run_9 : decode cX6_run 9 = .ok (.aload_n 0, 1) := by decide +kernel
theorem dX6_run_10 : decode cX6_run 10 = .ok (.getfield 161, 3) := by decide +kernel
theorem dX6_run_13 : decode cX6_run 13 = .ok (.ireturn, 1) := by decide +kernel
theorem dX6_row_0 : decode cX6_row 0 = .ok (.aload_n 0, 1) := by decide +kernel
theorem dX6_row_1 : decode cX6_row 1 = .ok (.invokevirtual 190, 3) := by decide +kernel
theorem dX6_row_4 : decode cX6_row 4 = .ok (.aload_n 0, 1) := by decide +kernel
theorem dX6_row_5 : decode cX6_row 5 = .ok (.iload_n 1, 1) := by decide +kernel
theorem dX6_row_6 : decode cX6_row 6 = .ok (.ifCond .lt 20, 3) := by decide +kernel
theorem dX6_row_9 : decode cX6_row 9 = .ok (.iload_n 1, 1) := by decide +kernel
theorem dX6_row_10 : decode cX6_row 10 = .ok (.aload_n 0, 1) := by decide +kernel
theorem dX6_row_11 : decode cX6_row 11 = .ok (.getfield 161, 3) := by decide +kernel
theorem dX6_row_14 : decode cX6_row 14 = .ok (.if_icmp .ge 12, 3) := by decide +kernel
theorem dX6_row_17 : decode cX6_row 17 = .ok (.iload_n 2, 1) := by decide +kernel
theorem dX6_row_18 : decode cX6_row 18 = .ok (.ifCond .lt 8, 3) := by decide +kernel
theorem dX6_row_21 : decode cX6_row 21 = .ok (.iload_n 2, 1) := by decide +kernel
theorem dX6_row_22 : decode cX6_row 22 = .ok (.iconst 4, 1) := by decide +kernel
theorem dX6_row_23 : decode cX6_row 23 = .ok (.if_icmp .le 7, 3) := by decide +kernel
theorem dX6_row_26 : decode cX6_row 26 = .ok (.iconst 1, 1) := by decide +kernel
theorem dX6_row_27 : decode cX6_row 27 = .ok (.goto 4, 3) := by decide +kernel
theorem dX6_row_30 : decode cX6_row 30 = .ok (.iconst 0, 1) := by decide +kernel
theorem dX6_row_31 : decode cX6_row 31 = .ok (.iconst 0, 1) := by decide +kernel
theorem dX6_row_32 : decode cX6_row 32 = .ok (.iconst 0, 1) := by decide +kernel
theorem dX6_row_33 : decode cX6_row 33 = .ok (.invokevirtual 115, 3) := by decide +kernel
theorem dX6_row_36 : decode cX6_row 36 = .ok (.ifCond .eq 5, 3) := by decide +kernel
theorem dX6_row_39 : decode cX6_row 39 = .ok (.iconst 0, 1) := by decide +kernel
theorem dX6_row_40 : decode cX6_row 40 = .ok (.ireturn, 1) := by decide +kernel
theorem dX6_row_41 : decode cX6_row 41 = .ok (.aload_n 0, 1) := by decide +kernel
theorem dX6_row_42 : decode cX6_row 42 = .ok (.getfield 57, 3) := by decide +kernel
theorem dX6_row_45 : decode cX6_row 45 = .ok (.iload_n 1, 1) := by decide +kernel
theorem dX6_row_46 : decode cX6_row 46 = .ok (.iaload, 1) := by decide +kernel
theorem dX6_row_47 : decode cX6_row 47 = .ok (.istore_n 3, 1) := by decide +kernel
theorem dX6_row_48 : decode cX6_row 48 = .ok (.iload_n 2, 1) := by decide +kernel
theorem dX6_row_49 : decode cX6_row 49 = .ok (.iconst 2, 1) := by decide +kernel
theorem dX6_row_50 : decode cX6_row 50 = .ok (.if_icmp .ne 14, 3) := by decide +kernel
theorem dX6_row_53 : decode cX6_row 53 = .ok (.aload_n 0, 1) := by decide +kernel
theorem dX6_row_54 : decode cX6_row 54 = .ok (.iload_n 3, 1) := by decide +kernel
theorem dX6_row_55 : decode cX6_row 55 = .ok (.invokevirtual 193, 3) := by decide +kernel
theorem dX6_row_58 : decode cX6_row 58 = .ok (.aload_n 0, 1) := by decide +kernel
theorem dX6_row_59 : decode cX6_row 59 = .ok (.iconst (-1), 1) := by decide +kernel
theorem dX6_row_60 : decode cX6_row 60 = .ok (.invokevirtual 196, 3) := by decide +kernel
theorem dX6_row_63 : decode cX6_row 63 = .ok (.ireturn, 1) := by decide +kernel
theorem dX6_row_64 : decode cX6_row 64 = .ok (.iload_n 2, 1) := by decide +kernel
theorem dX6_row_65 : decode cX6_row 65 = .ok (.iconst 3, 1) := by decide +kernel
theorem dX6_row_66 : decode cX6_row 66 = .ok (.if_icmp .ne 13, 3) := by decide +kernel
theorem dX6_row_69 : decode cX6_row 69 = .ok (.aload_n 0, 1) := by decide +kernel
theorem dX6_row_70 : decode cX6_row 70 = .ok (.iload_n 3, 1) := by decide +kernel
theorem dX6_row_71 : decode cX6_row 71 = .ok (.invokevirtual 199, 3) := by decide +kernel
theorem dX6_row_74 : decode cX6_row 74 = .ok (.aload_n 0, 1) := by decide +kernel
theorem dX6_row_75 : decode cX6_row 75 = .ok (.getfield 187, 3) := by decide +kernel
theorem dX6_row_78 : decode cX6_row 78 = .ok (.ireturn, 1) := by decide +kernel
theorem dX6_row_79 : decode cX6_row 79 = .ok (.iload_n 2, 1) := by decide +kernel
theorem dX6_row_80 : decode cX6_row 80 = .ok (.ifCond .ne 7, 3) := by decide +kernel
theorem dX6_row_83 : decode cX6_row 83 = .ok (.iload_n 3, 1) := by decide +kernel
theorem dX6_row_84 : decode cX6_row 84 = .ok (.goto 22, 3) := by decide +kernel
theorem dX6_row_87 : decode cX6_row 87 = .ok (.iload_n 2, 1) := by decide +kernel
theorem dX6_row_88 : decode cX6_row 88 = .ok (.iconst 1, 1) := by decide +kernel
theorem dX6_row_89 : decode cX6_row 89 = .ok (.if_icmp .ne 12, 3) := by decide +kernel
theorem dX6_row_92 : decode cX6_row 92 = .ok (.aload_n 0, 1) := by decide +kernel
theorem dX6_row_93 : decode cX6_row 93 = .ok (.getfield 7, 3) := by decide +kernel
theorem dX6_row_96 : decode cX6_row 96 = .ok (.iload_n 3, 1) := by decide +kernel
theorem dX6_row_97 : decode cX6_row 97 = .ok (.iaload, 1) := by decide +kernel
theorem dX6_row_98 : decode cX6_row 98 = .ok (.goto 8, 3) := by decide +kernel
theorem dX6_row_101 : decode cX6_row 101 = .ok (.aload_n 0, 1) := by decide +kernel
theorem dX6_row_102 : decode cX6_row 102 = .ok (.iload_n 3, 1) := by decide +kernel
theorem dX6_row_103 : decode cX6_row 103 = .ok (.invokevirtual 202, 3) := by decide +kernel
theorem dX6_row_106 : decode cX6_row 106 = .ok (.ireturn, 1) := by decide +kernel
theorem dX6_locator_0 : decode cX6_locator 0 = .ok (.aload_n 0, 1) := by decide +kernel
theorem dX6_locator_1 : decode cX6_locator 1 = .ok (.invokevirtual 190, 3) := by decide +kernel
theorem dX6_locator_4 : decode cX6_locator 4 = .ok (.aload_n 0, 1) := by decide +kernel
theorem dX6_locator_5 : decode cX6_locator 5 = .ok (.iload_n 1, 1) := by decide +kernel
theorem dX6_locator_6 : decode cX6_locator 6 = .ok (.ifCond .lt 11, 3) := by decide +kernel
theorem dX6_locator_9 : decode cX6_locator 9 = .ok (.iload_n 1, 1) := by decide +kernel
theorem dX6_locator_10 : decode cX6_locator 10 = .ok (.aload_n 0, 1) := by decide +kernel
theorem dX6_locator_11 : decode cX6_locator 11 = .ok (.getfield 161, 3) := by decide +kernel
theorem dX6_locator_14 : decode cX6_locator 14 = .ok (.if_icmp .lt 7, 3) := by decide +kernel
theorem dX6_locator_17 : decode cX6_locator 17 = .ok (.iconst 1, 1) := by decide +kernel
theorem dX6_locator_18 : decode cX6_locator 18 = .ok (.goto 4, 3) := by decide +kernel
theorem dX6_locator_21 : decode cX6_locator 21 = .ok (.iconst 0, 1) := by decide +kernel
theorem dX6_locator_22 : decode cX6_locator 22 = .ok (.iconst 0, 1) := by decide +kernel
theorem dX6_locator_23 : decode cX6_locator 23 = .ok (.iconst 0, 1) := by decide +kernel
theorem dX6_locator_24 : decode cX6_locator 24 = .ok (.invokevirtual 115, 3) := by decide +kernel
theorem dX6_locator_27 : decode cX6_locator 27 = .ok (.ifCond .eq 5, 3) := by decide +kernel
theorem dX6_locator_30 : decode cX6_locator 30 = .ok (.iconst 0, 1) := by decide +kernel
theorem dX6_locator_31 : decode cX6_locator 31 = .ok (.ireturn, 1) := by decide +kernel
theorem dX6_locator_32 : decode cX6_locator 32 = .ok (.aload_n 0, 1) := by decide +kernel
theorem dX6_locator_33 : decode cX6_locator 33 = .ok (.aload_n 0, 1) := by decide +kernel
theorem dX6_locator_34 : decode cX6_locator 34 = .ok (.getfield 57, 3) := by decide +kernel
theorem dX6_locator_37 : decode cX6_locator 37 = .ok (.iload_n 1, 1) := by decide +kernel
theorem dX6_locator_38 : decode cX6_locator 38 = .ok (.iaload, 1) := by decide +kernel
theorem dX6_locator_39 : decode cX6_locator 39 = .ok (.invokevirtual 193, 3) := by decide +kernel
theorem dX6_locator_42 : decode cX6_locator 42 = .ok (.aload_n 0, 1) := by decide +kernel
theorem dX6_locator_43 : decode cX6_locator 43 = .ok (.iload_n 2, 1) := by decide +kernel
theorem dX6_locator_44 : decode cX6_locator 44 = .ok (.invokevirtual 196, 3) := by decide +kernel
theorem dX6_locator_47 : decode cX6_locator 47 = .ok (.istore 4, 2) := by decide +kernel
theorem dX6_locator_49 : decode cX6_locator 49 = .ok (.aload_n 0, 1) := by decide +kernel
theorem dX6_locator_50 : decode cX6_locator 50 = .ok (.iload_n 2, 1) := by decide +kernel
theorem dX6_locator_51 : decode cX6_locator 51 = .ok (.ifCond .lt 18, 3) := by decide +kernel
theorem dX6_locator_54 : decode cX6_locator 54 = .ok (.iload_n 2, 1) := by decide +kernel
theorem dX6_locator_55 : decode cX6_locator 55 = .ok (.iload 4, 2) := by decide +kernel
theorem dX6_locator_57 : decode cX6_locator 57 = .ok (.if_icmp .ge 12, 3) := by decide +kernel
theorem dX6_locator_60 : decode cX6_locator 60 = .ok (.iload_n 3, 1) := by decide +kernel
theorem dX6_locator_61 : decode cX6_locator 61 = .ok (.ifCond .lt 8, 3) := by decide +kernel
theorem dX6_locator_64 : decode cX6_locator 64 = .ok (.iload_n 3, 1) := by decide +kernel
theorem dX6_locator_65 : decode cX6_locator 65 = .ok (.iconst 2, 1) := by decide +kernel
theorem dX6_locator_66 : decode cX6_locator 66 = .ok (.if_icmp .le 7, 3) := by decide +kernel
theorem dX6_locator_69 : decode cX6_locator 69 = .ok (.iconst 1, 1) := by decide +kernel
theorem dX6_locator_70 : decode cX6_locator 70 = .ok (.goto 4, 3) := by decide +kernel
theorem dX6_locator_73 : decode cX6_locator 73 = .ok (.iconst 0, 1) := by decide +kernel
theorem dX6_locator_74 : decode cX6_locator 74 = .ok (.iconst 0, 1) := by decide +kernel
theorem dX6_locator_75 : decode cX6_locator 75 = .ok (.iconst 0, 1) := by decide +kernel
theorem dX6_locator_76 : decode cX6_locator 76 = .ok (.invokevirtual 115, 3) := by decide +kernel
theorem dX6_locator_79 : decode cX6_locator 79 = .ok (.ifCond .eq 5, 3) := by decide +kernel
theorem dX6_locator_82 : decode cX6_locator 82 = .ok (.iconst 0, 1) := by decide +kernel
theorem dX6_locator_83 : decode cX6_locator 83 = .ok (.ireturn, 1) := by decide +kernel
theorem dX6_locator_84 : decode cX6_locator 84 = .ok (.iload_n 3, 1) := by decide +kernel
theorem dX6_locator_85 : decode cX6_locator 85 = .ok (.ifCond .ne 10, 3) := by decide +kernel
theorem dX6_locator_88 : decode cX6_locator 88 = .ok (.aload_n 0, 1) := by decide +kernel
theorem dX6_locator_89 : decode cX6_locator 89 = .ok (.getfield 178, 3) := by decide +kernel
theorem dX6_locator_92 : decode cX6_locator 92 = .ok (.goto 19, 3) := by decide +kernel
theorem dX6_locator_95 : decode cX6_locator 95 = .ok (.iload_n 3, 1) := by decide +kernel
theorem dX6_locator_96 : decode cX6_locator 96 = .ok (.iconst 1, 1) := by decide +kernel
theorem dX6_locator_97 : decode cX6_locator 97 = .ok (.if_icmp .ne 10, 3) := by decide +kernel
theorem dX6_locator_100 : decode cX6_locator 100 = .ok (.aload_n 0, 1) := by decide +kernel
theorem dX6_locator_101 : decode cX6_locator 101 = .ok (.getfield 181, 3) := by decide +kernel
theorem dX6_locator_104 : decode cX6_locator 104 = .ok (.goto 7, 3) := by decide +kernel
theorem dX6_locator_107 : decode cX6_locator 107 = .ok (.aload_n 0, 1) := by decide +kernel
theorem dX6_locator_108 : decode cX6_locator 108 = .ok (.getfield 184, 3) := by decide +kernel
theorem dX6_locator_111 : decode cX6_locator 111 = .ok (.ireturn, 1) := by decide +kernel
theorem dX6_compare_0 : decode cX6_compare 0 = .ok (.aload_n 0, 1) := by decide +kernel
theorem dX6_compare_1 : decode cX6_compare 1 = .ok (.aload_n 0, 1) := by decide +kernel
theorem dX6_compare_2 : decode cX6_compare 2 = .ok (.iload_n 1, 1) := by decide +kernel
theorem dX6_compare_3 : decode cX6_compare 3 = .ok (.invokevirtual 111, 3) := by decide +kernel
theorem dX6_compare_6 : decode cX6_compare 6 = .ok (.ifCond .ne 11, 3) := by decide +kernel
theorem dX6_compare_9 : decode cX6_compare 9 = .ok (.aload_n 0, 1) := by decide +kernel
theorem dX6_compare_10 : decode cX6_compare 10 = .ok (.iload_n 2, 1) := by decide +kernel
theorem dX6_compare_11 : decode cX6_compare 11 = .ok (.invokevirtual 111, 3) := by decide +kernel
theorem dX6_compare_14 : decode cX6_compare 14 = .ok (.ifCond .eq 7, 3) := by decide +kernel
theorem dX6_compare_17 : decode cX6_compare 17 = .ok (.iconst 1, 1) := by decide +kernel
theorem dX6_compare_18 : decode cX6_compare 18 = .ok (.goto 4, 3) := by decide +kernel
theorem dX6_compare_21 : decode cX6_compare 21 = .ok (.iconst 0, 1) := by decide +kernel
theorem dX6_compare_22 : decode cX6_compare 22 = .ok (.iconst 0, 1) := by decide +kernel
theorem dX6_compare_23 : decode cX6_compare 23 = .ok (.iconst 0, 1) := by decide +kernel
theorem dX6_compare_24 : decode cX6_compare 24 = .ok (.invokevirtual 115, 3) := by decide +kernel
theorem dX6_compare_27 : decode cX6_compare 27 = .ok (.ifCond .eq 7, 3) := by decide +kernel
theorem dX6_compare_30 : decode cX6_compare 30 = .ok (.iconst 0, 1) := by decide +kernel
theorem dX6_compare_31 : decode cX6_compare 31 = .ok (.goto 9, 3) := by decide +kernel
theorem dX6_compare_34 : decode cX6_compare 34 = .ok (.aload_n 0, 1) := by decide +kernel
theorem dX6_compare_35 : decode cX6_compare 35 = .ok (.iload_n 1, 1) := by decide +kernel
theorem dX6_compare_36 : decode cX6_compare 36 = .ok (.iload_n 2, 1) := by decide +kernel
theorem dX6_compare_37 : decode cX6_compare 37 = .ok (.invokevirtual 158, 3) := by decide +kernel
theorem dX6_compare_40 : decode cX6_compare 40 = .ok (.ireturn, 1) := by decide +kernel
theorem dX6_hasPage_0 : decode cX6_hasPage 0 = .ok (.iconst 0, 1) := by decide +kernel
theorem dX6_hasPage_1 : decode cX6_hasPage 1 = .ok (.istore_n 2, 1) := by decide +kernel
theorem dX6_hasPage_2 : decode cX6_hasPage 2 = .ok (.iconst 0, 1) := by decide +kernel
theorem dX6_hasPage_3 : decode cX6_hasPage 3 = .ok (.istore_n 3, 1) := by decide +kernel
theorem dX6_hasPage_4 : decode cX6_hasPage 4 = .ok (.iload_n 3, 1) := by decide +kernel
theorem dX6_hasPage_5 : decode cX6_hasPage 5 = .ok (.aload_n 0, 1) := by decide +kernel
theorem dX6_hasPage_6 : decode cX6_hasPage 6 = .ok (.getfield 103, 3) := by decide +kernel
theorem dX6_hasPage_9 : decode cX6_hasPage 9 = .ok (.if_icmp .ge 37, 3) := by decide +kernel
theorem dX6_hasPage_12 : decode cX6_hasPage 12 = .ok (.iload_n 2, 1) := by decide +kernel
theorem dX6_hasPage_13 : decode cX6_hasPage 13 = .ok (.ifCond .ne 21, 3) := by decide +kernel
theorem dX6_hasPage_16 : decode cX6_hasPage 16 = .ok (.aload_n 0, 1) := by decide +kernel
theorem dX6_hasPage_17 : decode cX6_hasPage 17 = .ok (.getfield 54, 3) := by decide +kernel
theorem dX6_hasPage_20 : decode cX6_hasPage 20 = .ok (.iload_n 3, 1) := by decide +kernel
theorem dX6_hasPage_21 : decode cX6_hasPage 21 = .ok (.iaload, 1) := by decide +kernel
theorem dX6_hasPage_22 : decode cX6_hasPage 22 = .ok (.iload_n 1, 1) := by decide +kernel
theorem dX6_hasPage_23 : decode cX6_hasPage 23 = .ok (.if_icmp .ne 15, 3) := by decide +kernel
theorem dX6_hasPage_26 : decode cX6_hasPage 26 = .ok (.aload_n 0, 1) := by decide +kernel
theorem dX6_hasPage_27 : decode cX6_hasPage 27 = .ok (.iload_n 3, 1) := by decide +kernel
theorem dX6_hasPage_28 : decode cX6_hasPage 28 = .ok (.invokevirtual 126, 3) := by decide +kernel
theorem dX6_hasPage_31 : decode cX6_hasPage 31 = .ok (.ifCond .le 7, 3) := by decide +kernel
theorem dX6_hasPage_34 : decode cX6_hasPage 34 = .ok (.iconst 1, 1) := by decide +kernel
theorem dX6_hasPage_35 : decode cX6_hasPage 35 = .ok (.goto 4, 3) := by decide +kernel
theorem dX6_hasPage_38 : decode cX6_hasPage 38 = .ok (.iconst 0, 1) := by decide +kernel
theorem dX6_hasPage_39 : decode cX6_hasPage 39 = .ok (.istore_n 2, 1) := by decide +kernel
theorem dX6_hasPage_40 : decode cX6_hasPage 40 = .ok (.iinc 3 1, 3) := by decide +kernel
theorem dX6_hasPage_43 : decode cX6_hasPage 43 = .ok (.goto (-39), 3) := by decide +kernel
theorem dX6_hasPage_46 : decode cX6_hasPage 46 = .ok (.iload_n 2, 1) := by decide +kernel
theorem dX6_hasPage_47 : decode cX6_hasPage 47 = .ok (.ireturn, 1) := by decide +kernel
theorem dX6_isBare_0 : decode cX6_isBare 0 = .ok (.aload_n 0, 1) := by decide +kernel
theorem dX6_isBare_1 : decode cX6_isBare 1 = .ok (.getfield 54, 3) := by decide +kernel
theorem dX6_isBare_4 : decode cX6_isBare 4 = .ok (.iload_n 1, 1) := by decide +kernel
theorem dX6_isBare_5 : decode cX6_isBare 5 = .ok (.iaload, 1) := by decide +kernel
theorem dX6_isBare_6 : decode cX6_isBare 6 = .ok (.iload_n 1, 1) := by decide +kernel
theorem dX6_isBare_7 : decode cX6_isBare 7 = .ok (.if_icmp .ne 11, 3) := by decide +kernel
theorem dX6_isBare_10 : decode cX6_isBare 10 = .ok (.aload_n 0, 1) := by decide +kernel
theorem dX6_isBare_11 : decode cX6_isBare 11 = .ok (.iload_n 1, 1) := by decide +kernel
theorem dX6_isBare_12 : decode cX6_isBare 12 = .ok (.invokevirtual 205, 3) := by decide +kernel
theorem dX6_isBare_15 : decode cX6_isBare 15 = .ok (.ifCond .eq 5, 3) := by decide +kernel
theorem dX6_isBare_18 : decode cX6_isBare 18 = .ok (.iconst 0, 1) := by decide +kernel
theorem dX6_isBare_19 : decode cX6_isBare 19 = .ok (.ireturn, 1) := by decide +kernel
theorem dX6_isBare_20 : decode cX6_isBare 20 = .ok (.iconst 1, 1) := by decide +kernel
theorem dX6_isBare_21 : decode cX6_isBare 21 = .ok (.istore_n 2, 1) := by decide +kernel
theorem dX6_isBare_22 : decode cX6_isBare 22 = .ok (.iconst 0, 1) := by decide +kernel
theorem dX6_isBare_23 : decode cX6_isBare 23 = .ok (.istore_n 3, 1) := by decide +kernel
theorem dX6_isBare_24 : decode cX6_isBare 24 = .ok (.iload_n 3, 1) := by decide +kernel
theorem dX6_isBare_25 : decode cX6_isBare 25 = .ok (.aload_n 0, 1) := by decide +kernel
theorem dX6_isBare_26 : decode cX6_isBare 26 = .ok (.getfield 103, 3) := by decide +kernel
theorem dX6_isBare_29 : decode cX6_isBare 29 = .ok (.if_icmp .ge 62, 3) := by decide +kernel
theorem dX6_isBare_32 : decode cX6_isBare 32 = .ok (.iload_n 2, 1) := by decide +kernel
theorem dX6_isBare_33 : decode cX6_isBare 33 = .ok (.ifCond .eq 50, 3) := by decide +kernel
theorem dX6_isBare_36 : decode cX6_isBare 36 = .ok (.aload_n 0, 1) := by decide +kernel
theorem dX6_isBare_37 : decode cX6_isBare 37 = .ok (.getfield 54, 3) := by decide +kernel
theorem dX6_isBare_40 : decode cX6_isBare 40 = .ok (.iload_n 3, 1) := by decide +kernel
theorem dX6_isBare_41 : decode cX6_isBare 41 = .ok (.iaload, 1) := by decide +kernel
theorem dX6_isBare_42 : decode cX6_isBare 42 = .ok (.iload_n 1, 1) := by decide +kernel
theorem dX6_isBare_43 : decode cX6_isBare 43 = .ok (.if_icmp .ne 12, 3) := by decide +kernel
theorem dX6_isBare_46 : decode cX6_isBare 46 = .ok (.aload_n 0, 1) := by decide +kernel
theorem dX6_isBare_47 : decode cX6_isBare 47 = .ok (.getfield 44, 3) := by decide +kernel
theorem dX6_isBare_50 : decode cX6_isBare 50 = .ok (.iload_n 3, 1) := by decide +kernel
theorem dX6_isBare_51 : decode cX6_isBare 51 = .ok (.iaload, 1) := by decide +kernel
theorem dX6_isBare_52 : decode cX6_isBare 52 = .ok (.ifCond .ne 31, 3) := by decide +kernel
theorem dX6_isBare_55 : decode cX6_isBare 55 = .ok (.aload_n 0, 1) := by decide +kernel
theorem dX6_isBare_56 : decode cX6_isBare 56 = .ok (.getfield 7, 3) := by decide +kernel
theorem dX6_isBare_59 : decode cX6_isBare 59 = .ok (.iload_n 3, 1) := by decide +kernel
theorem dX6_isBare_60 : decode cX6_isBare 60 = .ok (.iaload, 1) := by decide +kernel
theorem dX6_isBare_61 : decode cX6_isBare 61 = .ok (.ifCond .eq 18, 3) := by decide +kernel
theorem dX6_isBare_64 : decode cX6_isBare 64 = .ok (.aload_n 0, 1) := by decide +kernel
theorem dX6_isBare_65 : decode cX6_isBare 65 = .ok (.getfield 54, 3) := by decide +kernel
theorem dX6_isBare_68 : decode cX6_isBare 68 = .ok (.aload_n 0, 1) := by decide +kernel
theorem dX6_isBare_69 : decode cX6_isBare 69 = .ok (.getfield 13, 3) := by decide +kernel
theorem dX6_isBare_72 : decode cX6_isBare 72 = .ok (.iload_n 3, 1) := by decide +kernel
theorem dX6_isBare_73 : decode cX6_isBare 73 = .ok (.iaload, 1) := by decide +kernel
theorem dX6_isBare_74 : decode cX6_isBare 74 = .ok (.iaload, 1) := by decide +kernel
theorem dX6_isBare_75 : decode cX6_isBare 75 = .ok (.iload_n 1, 1) := by decide +kernel
theorem dX6_isBare_76 : decode cX6_isBare 76 = .ok (.if_icmp .eq 7, 3) := by decide +kernel
theorem dX6_isBare_79 : decode cX6_isBare 79 = .ok (.iconst 1, 1) := by decide +kernel
theorem dX6_isBare_80 : decode cX6_isBare 80 = .ok (.goto 4, 3) := by decide +kernel
theorem dX6_isBare_83 : decode cX6_isBare 83 = .ok (.iconst 0, 1) := by decide +kernel
theorem dX6_isBare_84 : decode cX6_isBare 84 = .ok (.istore_n 2, 1) := by decide +kernel
theorem dX6_isBare_85 : decode cX6_isBare 85 = .ok (.iinc 3 1, 3) := by decide +kernel
theorem dX6_isBare_88 : decode cX6_isBare 88 = .ok (.goto (-64), 3) := by decide +kernel
theorem dX6_isBare_91 : decode cX6_isBare 91 = .ok (.iload_n 2, 1) := by decide +kernel
theorem dX6_isBare_92 : decode cX6_isBare 92 = .ok (.ireturn, 1) := by decide +kernel
theorem dX6_told_0 : decode cX6_told 0 = .ok (.aload_n 0, 1) := by decide +kernel
theorem dX6_told_1 : decode cX6_told 1 = .ok (.invokevirtual 190, 3) := by decide +kernel
theorem dX6_told_4 : decode cX6_told 4 = .ok (.iconst 0, 1) := by decide +kernel
theorem dX6_told_5 : decode cX6_told 5 = .ok (.istore_n 3, 1) := by decide +kernel
theorem dX6_told_6 : decode cX6_told 6 = .ok (.iconst 0, 1) := by decide +kernel
theorem dX6_told_7 : decode cX6_told 7 = .ok (.istore 4, 2) := by decide +kernel
theorem dX6_told_9 : decode cX6_told 9 = .ok (.iconst 0, 1) := by decide +kernel
theorem dX6_told_10 : decode cX6_told 10 = .ok (.istore 5, 2) := by decide +kernel
theorem dX6_told_12 : decode cX6_told 12 = .ok (.iconst 0, 1) := by decide +kernel
theorem dX6_told_13 : decode cX6_told 13 = .ok (.istore 6, 2) := by decide +kernel
theorem dX6_told_15 : decode cX6_told 15 = .ok (.iconst 0, 1) := by decide +kernel
theorem dX6_told_16 : decode cX6_told 16 = .ok (.istore 7, 2) := by decide +kernel
theorem dX6_told_18 : decode cX6_told 18 = .ok (.iload 7, 2) := by decide +kernel
theorem dX6_told_20 : decode cX6_told 20 = .ok (.aload_n 0, 1) := by decide +kernel
theorem dX6_told_21 : decode cX6_told 21 = .ok (.getfield 103, 3) := by decide +kernel
theorem dX6_told_24 : decode cX6_told 24 = .ok (.if_icmp .ge 200, 3) := by decide +kernel
theorem dX6_told_27 : decode cX6_told 27 = .ok (.aload_n 0, 1) := by decide +kernel
theorem dX6_told_28 : decode cX6_told 28 = .ok (.getfield 38, 3) := by decide +kernel
theorem dX6_told_31 : decode cX6_told 31 = .ok (.iload 7, 2) := by decide +kernel
theorem dX6_told_33 : decode cX6_told 33 = .ok (.iaload, 1) := by decide +kernel
theorem dX6_told_34 : decode cX6_told 34 = .ok (.ifCond .le 52, 3) := by decide +kernel
theorem dX6_told_37 : decode cX6_told 37 = .ok (.iload_n 3, 1) := by decide +kernel
theorem dX6_told_38 : decode cX6_told 38 = .ok (.iload_n 1, 1) := by decide +kernel
theorem dX6_told_39 : decode cX6_told 39 = .ok (.if_icmp .ne 7, 3) := by decide +kernel
theorem dX6_told_42 : decode cX6_told 42 = .ok (.iconst 1, 1) := by decide +kernel
theorem dX6_told_43 : decode cX6_told 43 = .ok (.goto 5, 3) := by decide +kernel
theorem dX6_told_46 : decode cX6_told 46 = .ok (.iload 4, 2) := by decide +kernel
theorem dX6_told_48 : decode cX6_told 48 = .ok (.istore 4, 2) := by decide +kernel
theorem dX6_told_50 : decode cX6_told 50 = .ok (.iload_n 3, 1) := by decide +kernel
theorem dX6_told_51 : decode cX6_told 51 = .ok (.iload_n 1, 1) := by decide +kernel
theorem dX6_told_52 : decode cX6_told 52 = .ok (.if_icmp .ne 8, 3) := by decide +kernel
theorem dX6_told_55 : decode cX6_told 55 = .ok (.iload 7, 2) := by decide +kernel
theorem dX6_told_57 : decode cX6_told 57 = .ok (.goto 5, 3) := by decide +kernel
theorem dX6_told_60 : decode cX6_told 60 = .ok (.iload 5, 2) := by decide +kernel
theorem dX6_told_62 : decode cX6_told 62 = .ok (.istore 5, 2) := by decide +kernel
theorem dX6_told_64 : decode cX6_told 64 = .ok (.iload_n 3, 1) := by decide +kernel
theorem dX6_told_65 : decode cX6_told 65 = .ok (.iload_n 1, 1) := by decide +kernel
theorem dX6_told_66 : decode cX6_told 66 = .ok (.if_icmp .ne 13, 3) := by decide +kernel
theorem dX6_told_69 : decode cX6_told 69 = .ok (.aload_n 0, 1) := by decide +kernel
theorem dX6_told_70 : decode cX6_told 70 = .ok (.getfield 38, 3) := by decide +kernel
theorem dX6_told_73 : decode cX6_told 73 = .ok (.iload 7, 2) := by decide +kernel
theorem dX6_told_75 : decode cX6_told 75 = .ok (.iaload, 1) := by decide +kernel
theorem dX6_told_76 : decode cX6_told 76 = .ok (.goto 5, 3) := by decide +kernel
theorem dX6_told_79 : decode cX6_told 79 = .ok (.iload 6, 2) := by decide +kernel
theorem dX6_told_81 : decode cX6_told 81 = .ok (.istore 6, 2) := by decide +kernel
theorem dX6_told_83 : decode cX6_told 83 = .ok (.iinc 3 1, 3) := by decide +kernel
theorem dX6_told_86 : decode cX6_told 86 = .ok (.iconst 0, 1) := by decide +kernel
theorem dX6_told_87 : decode cX6_told 87 = .ok (.istore 8, 2) := by decide +kernel
theorem dX6_told_89 : decode cX6_told 89 = .ok (.iload 8, 2) := by decide +kernel
theorem dX6_told_91 : decode cX6_told 91 = .ok (.aload_n 0, 1) := by decide +kernel
theorem dX6_told_92 : decode cX6_told 92 = .ok (.getfield 44, 3) := by decide +kernel
theorem dX6_told_95 : decode cX6_told 95 = .ok (.iload 7, 2) := by decide +kernel
theorem dX6_told_97 : decode cX6_told 97 = .ok (.iaload, 1) := by decide +kernel
theorem dX6_told_98 : decode cX6_told 98 = .ok (.if_icmp .ge 81, 3) := by decide +kernel
theorem dX6_told_101 : decode cX6_told 101 = .ok (.aload_n 0, 1) := by decide +kernel
theorem dX6_told_102 : decode cX6_told 102 = .ok (.getfield 41, 3) := by decide +kernel
theorem dX6_told_105 : decode cX6_told 105 = .ok (.iconst 5, 1) := by decide +kernel
theorem dX6_told_106 : decode cX6_told 106 = .ok (.iload 7, 2) := by decide +kernel
theorem dX6_told_108 : decode cX6_told 108 = .ok (.imul, 1) := by decide +kernel
theorem dX6_told_109 : decode cX6_told 109 = .ok (.iload 8, 2) := by decide +kernel
theorem dX6_told_111 : decode cX6_told 111 = .ok (.iadd, 1) := by decide +kernel
theorem dX6_told_112 : decode cX6_told 112 = .ok (.iaload, 1) := by decide +kernel
theorem dX6_told_113 : decode cX6_told 113 = .ok (.istore 9, 2) := by decide +kernel
theorem dX6_told_115 : decode cX6_told 115 = .ok (.aload_n 0, 1) := by decide +kernel
theorem dX6_told_116 : decode cX6_told 116 = .ok (.aload_n 0, 1) := by decide +kernel
theorem dX6_told_117 : decode cX6_told 117 = .ok (.getfield 54, 3) := by decide +kernel
theorem dX6_told_120 : decode cX6_told 120 = .ok (.iload 9, 2) := by decide +kernel
theorem dX6_told_122 : decode cX6_told 122 = .ok (.iaload, 1) := by decide +kernel
theorem dX6_told_123 : decode cX6_told 123 = .ok (.invokevirtual 205, 3) := by decide +kernel
theorem dX6_told_126 : decode cX6_told 126 = .ok (.ifCond .ne 47, 3) := by decide +kernel
theorem dX6_told_129 : decode cX6_told 129 = .ok (.iload_n 3, 1) := by decide +kernel
theorem dX6_told_130 : decode cX6_told 130 = .ok (.iload_n 1, 1) := by decide +kernel
theorem dX6_told_131 : decode cX6_told 131 = .ok (.if_icmp .ne 7, 3) := by decide +kernel
theorem dX6_told_134 : decode cX6_told 134 = .ok (.iconst 2, 1) := by decide +kernel
theorem dX6_told_135 : decode cX6_told 135 = .ok (.goto 5, 3) := by decide +kernel
theorem dX6_told_138 : decode cX6_told 138 = .ok (.iload 4, 2) := by decide +kernel
theorem dX6_told_140 : decode cX6_told 140 = .ok (.istore 4, 2) := by decide +kernel
theorem dX6_told_142 : decode cX6_told 142 = .ok (.iload_n 3, 1) := by decide +kernel
theorem dX6_told_143 : decode cX6_told 143 = .ok (.iload_n 1, 1) := by decide +kernel
theorem dX6_told_144 : decode cX6_told 144 = .ok (.if_icmp .ne 8, 3) := by decide +kernel
theorem dX6_told_147 : decode cX6_told 147 = .ok (.iload 7, 2) := by decide +kernel
theorem dX6_told_149 : decode cX6_told 149 = .ok (.goto 5, 3) := by decide +kernel
theorem dX6_told_152 : decode cX6_told 152 = .ok (.iload 5, 2) := by decide +kernel
theorem dX6_told_154 : decode cX6_told 154 = .ok (.istore 5, 2) := by decide +kernel
theorem dX6_told_156 : decode cX6_told 156 = .ok (.iload_n 3, 1) := by decide +kernel
theorem dX6_told_157 : decode cX6_told 157 = .ok (.iload_n 1, 1) := by decide +kernel
theorem dX6_told_158 : decode cX6_told 158 = .ok (.if_icmp .ne 8, 3) := by decide +kernel
theorem dX6_told_161 : decode cX6_told 161 = .ok (.iload 9, 2) := by decide +kernel
theorem dX6_told_163 : decode cX6_told 163 = .ok (.goto 5, 3) := by decide +kernel
theorem dX6_told_166 : decode cX6_told 166 = .ok (.iload 6, 2) := by decide +kernel
theorem dX6_told_168 : decode cX6_told 168 = .ok (.istore 6, 2) := by decide +kernel
theorem dX6_told_170 : decode cX6_told 170 = .ok (.iinc 3 1, 3) := by decide +kernel
theorem dX6_told_173 : decode cX6_told 173 = .ok (.iinc 8 1, 3) := by decide +kernel
theorem dX6_told_176 : decode cX6_told 176 = .ok (.goto (-87), 3) := by decide +kernel
theorem dX6_told_179 : decode cX6_told 179 = .ok (.aload_n 0, 1) := by decide +kernel
theorem dX6_told_180 : decode cX6_told 180 = .ok (.iload 7, 2) := by decide +kernel
theorem dX6_told_182 : decode cX6_told 182 = .ok (.invokevirtual 208, 3) := by decide +kernel
theorem dX6_told_185 : decode cX6_told 185 = .ok (.ifCond .eq 33, 3) := by decide +kernel
theorem dX6_told_188 : decode cX6_told 188 = .ok (.iload_n 3, 1) := by decide +kernel
theorem dX6_told_189 : decode cX6_told 189 = .ok (.iload_n 1, 1) := by decide +kernel
theorem dX6_told_190 : decode cX6_told 190 = .ok (.if_icmp .ne 7, 3) := by decide +kernel
theorem dX6_told_193 : decode cX6_told 193 = .ok (.iconst 3, 1) := by decide +kernel
theorem dX6_told_194 : decode cX6_told 194 = .ok (.goto 5, 3) := by decide +kernel
theorem dX6_told_197 : decode cX6_told 197 = .ok (.iload 4, 2) := by decide +kernel
theorem dX6_told_199 : decode cX6_told 199 = .ok (.istore 4, 2) := by decide +kernel
theorem dX6_told_201 : decode cX6_told 201 = .ok (.iload_n 3, 1) := by decide +kernel
theorem dX6_told_202 : decode cX6_told 202 = .ok (.iload_n 1, 1) := by decide +kernel
theorem dX6_told_203 : decode cX6_told 203 = .ok (.if_icmp .ne 8, 3) := by decide +kernel
theorem dX6_told_206 : decode cX6_told 206 = .ok (.iload 7, 2) := by decide +kernel
theorem dX6_told_208 : decode cX6_told 208 = .ok (.goto 5, 3) := by decide +kernel
theorem dX6_told_211 : decode cX6_told 211 = .ok (.iload 5, 2) := by decide +kernel
theorem dX6_told_213 : decode cX6_told 213 = .ok (.istore 5, 2) := by decide +kernel
theorem dX6_told_215 : decode cX6_told 215 = .ok (.iinc 3 1, 3) := by decide +kernel
theorem dX6_told_218 : decode cX6_told 218 = .ok (.iinc 7 1, 3) := by decide +kernel
theorem dX6_told_221 : decode cX6_told 221 = .ok (.goto (-203), 3) := by decide +kernel
theorem dX6_told_224 : decode cX6_told 224 = .ok (.aload_n 0, 1) := by decide +kernel
theorem dX6_told_225 : decode cX6_told 225 = .ok (.iload_n 1, 1) := by decide +kernel
theorem dX6_told_226 : decode cX6_told 226 = .ok (.iconst (-1), 1) := by decide +kernel
theorem dX6_told_227 : decode cX6_told 227 = .ok (.if_icmp .eq 21, 3) := by decide +kernel
theorem dX6_told_230 : decode cX6_told 230 = .ok (.iload 4, 2) := by decide +kernel
theorem dX6_told_232 : decode cX6_told 232 = .ok (.ifCond .eq 12, 3) := by decide +kernel
theorem dX6_told_235 : decode cX6_told 235 = .ok (.iload_n 2, 1) := by decide +kernel
theorem dX6_told_236 : decode cX6_told 236 = .ok (.ifCond .lt 8, 3) := by decide +kernel
theorem dX6_told_239 : decode cX6_told 239 = .ok (.iload_n 2, 1) := by decide +kernel
theorem dX6_told_240 : decode cX6_told 240 = .ok (.iconst 2, 1) := by decide +kernel
theorem dX6_told_241 : decode cX6_told 241 = .ok (.if_icmp .le 7, 3) := by decide +kernel
theorem dX6_told_244 : decode cX6_told 244 = .ok (.iconst 1, 1) := by decide +kernel
theorem dX6_told_245 : decode cX6_told 245 = .ok (.goto 4, 3) := by decide +kernel
theorem dX6_told_248 : decode cX6_told 248 = .ok (.iconst 0, 1) := by decide +kernel
theorem dX6_told_249 : decode cX6_told 249 = .ok (.iconst 0, 1) := by decide +kernel
theorem dX6_told_250 : decode cX6_told 250 = .ok (.iconst 0, 1) := by decide +kernel
theorem dX6_told_251 : decode cX6_told 251 = .ok (.invokevirtual 115, 3) := by decide +kernel
theorem dX6_told_254 : decode cX6_told 254 = .ok (.ifCond .eq 5, 3) := by decide +kernel
theorem dX6_told_257 : decode cX6_told 257 = .ok (.iconst 0, 1) := by decide +kernel
theorem dX6_told_258 : decode cX6_told 258 = .ok (.ireturn, 1) := by decide +kernel
theorem dX6_told_259 : decode cX6_told 259 = .ok (.iload_n 1, 1) := by decide +kernel
theorem dX6_told_260 : decode cX6_told 260 = .ok (.iconst (-1), 1) := by decide +kernel
theorem dX6_told_261 : decode cX6_told 261 = .ok (.if_icmp .ne 7, 3) := by decide +kernel
theorem dX6_told_264 : decode cX6_told 264 = .ok (.iload_n 3, 1) := by decide +kernel
theorem dX6_told_265 : decode cX6_told 265 = .ok (.goto 24, 3) := by decide +kernel
theorem dX6_told_268 : decode cX6_told 268 = .ok (.iload_n 2, 1) := by decide +kernel
theorem dX6_told_269 : decode cX6_told 269 = .ok (.ifCond .ne 8, 3) := by decide +kernel
theorem dX6_told_272 : decode cX6_told 272 = .ok (.iload 4, 2) := by decide +kernel
theorem dX6_told_274 : decode cX6_told 274 = .ok (.goto 15, 3) := by decide +kernel
theorem dX6_told_277 : decode cX6_told 277 = .ok (.iload_n 2, 1) := by decide +kernel
theorem dX6_told_278 : decode cX6_told 278 = .ok (.iconst 1, 1) := by decide +kernel
theorem dX6_told_279 : decode cX6_told 279 = .ok (.if_icmp .ne 8, 3) := by decide +kernel
theorem dX6_told_282 : decode cX6_told 282 = .ok (.iload 5, 2) := by decide +kernel
theorem dX6_told_284 : decode cX6_told 284 = .ok (.goto 5, 3) := by decide +kernel
theorem dX6_told_287 : decode cX6_told 287 = .ok (.iload 6, 2) := by decide +kernel
theorem dX6_told_289 : decode cX6_told 289 = .ok (.ireturn, 1) := by decide +kernel
theorem dX6_style_0 : decode cX6_style 0 = .ok (.aload_n 0, 1) := by decide +kernel
theorem dX6_style_1 : decode cX6_style 1 = .ok (.iload_n 1, 1) := by decide +kernel
theorem dX6_style_2 : decode cX6_style 2 = .ok (.ifCond .lt 9, 3) := by decide +kernel
theorem dX6_style_5 : decode cX6_style 5 = .ok (.iload_n 1, 1) := by decide +kernel
theorem dX6_style_6 : decode cX6_style 6 = .ok (.bipush 127, 2) := by decide +kernel
theorem dX6_style_8 : decode cX6_style 8 = .ok (.if_icmp .le 7, 3) := by decide +kernel
theorem dX6_style_11 : decode cX6_style 11 = .ok (.iconst 1, 1) := by decide +kernel
theorem dX6_style_12 : decode cX6_style 12 = .ok (.goto 4, 3) := by decide +kernel
theorem dX6_style_15 : decode cX6_style 15 = .ok (.iconst 0, 1) := by decide +kernel
theorem dX6_style_16 : decode cX6_style 16 = .ok (.iload_n 1, 1) := by decide +kernel
theorem dX6_style_17 : decode cX6_style 17 = .ok (.ifCond .le 16, 3) := by decide +kernel
theorem dX6_style_20 : decode cX6_style 20 = .ok (.aload_n 0, 1) := by decide +kernel
theorem dX6_style_21 : decode cX6_style 21 = .ok (.getfield 211, 3) := by decide +kernel
theorem dX6_style_24 : decode cX6_style 24 = .ok (.bipush 80, 2) := by decide +kernel
theorem dX6_style_26 : decode cX6_style 26 = .ok (.if_icmp .ne 7, 3) := by decide +kernel
theorem dX6_style_29 : decode cX6_style 29 = .ok (.iconst 1, 1) := by decide +kernel
theorem dX6_style_30 : decode cX6_style 30 = .ok (.goto 4, 3) := by decide +kernel
theorem dX6_style_33 : decode cX6_style 33 = .ok (.iconst 0, 1) := by decide +kernel
theorem dX6_style_34 : decode cX6_style 34 = .ok (.iconst 0, 1) := by decide +kernel
theorem dX6_style_35 : decode cX6_style 35 = .ok (.invokevirtual 115, 3) := by decide +kernel
theorem dX6_style_38 : decode cX6_style 38 = .ok (.ifCond .eq 5, 3) := by decide +kernel
theorem dX6_style_41 : decode cX6_style 41 = .ok (.iconst 0, 1) := by decide +kernel
theorem dX6_style_42 : decode cX6_style 42 = .ok (.ireturn, 1) := by decide +kernel
theorem dX6_style_43 : decode cX6_style 43 = .ok (.iload_n 1, 1) := by decide +kernel
theorem dX6_style_44 : decode cX6_style 44 = .ok (.ifCond .le 13, 3) := by decide +kernel
theorem dX6_style_47 : decode cX6_style 47 = .ok (.aload_n 0, 1) := by decide +kernel
theorem dX6_style_48 : decode cX6_style 48 = .ok (.getfield 90, 3) := by decide +kernel
theorem dX6_style_51 : decode cX6_style 51 = .ok (.aload_n 0, 1) := by decide +kernel
theorem dX6_style_52 : decode cX6_style 52 = .ok (.getfield 211, 3) := by decide +kernel
theorem dX6_style_55 : decode cX6_style 55 = .ok (.iload_n 1, 1) := by decide +kernel
theorem dX6_style_56 : decode cX6_style 56 = .ok (.iastore, 1) := by decide +kernel
theorem dX6_style_57 : decode cX6_style 57 = .ok (.aload_n 0, 1) := by decide +kernel
theorem dX6_style_58 : decode cX6_style 58 = .ok (.iload_n 1, 1) := by decide +kernel
theorem dX6_style_59 : decode cX6_style 59 = .ok (.ifCond .le 12, 3) := by decide +kernel
theorem dX6_style_62 : decode cX6_style 62 = .ok (.aload_n 0, 1) := by decide +kernel
theorem dX6_style_63 : decode cX6_style 63 = .ok (.getfield 211, 3) := by decide +kernel
theorem dX6_style_66 : decode cX6_style 66 = .ok (.iconst 1, 1) := by decide +kernel
theorem dX6_style_67 : decode cX6_style 67 = .ok (.iadd, 1) := by decide +kernel
theorem dX6_style_68 : decode cX6_style 68 = .ok (.goto 4, 3) := by decide +kernel
theorem dX6_style_71 : decode cX6_style 71 = .ok (.iconst 0, 1) := by decide +kernel
theorem dX6_style_72 : decode cX6_style 72 = .ok (.putfield 211, 3) := by decide +kernel
theorem dX6_style_75 : decode cX6_style 75 = .ok (.aload_n 0, 1) := by decide +kernel
theorem dX6_style_76 : decode cX6_style 76 = .ok (.getfield 211, 3) := by decide +kernel
theorem dX6_style_79 : decode cX6_style 79 = .ok (.ireturn, 1) := by decide +kernel
theorem dX6_isMark_0 : decode cX6_isMark 0 = .ok (.iload_n 0, 1) := by decide +kernel
theorem dX6_isMark_1 : decode cX6_isMark 1 = .ok (.bipush 119, 2) := by decide +kernel
theorem dX6_isMark_3 : decode cX6_isMark 3 = .ok (.if_icmp .eq 33, 3) := by decide +kernel
theorem dX6_isMark_6 : decode cX6_isMark 6 = .ok (.iload_n 0, 1) := by decide +kernel
theorem dX6_isMark_7 : decode cX6_isMark 7 = .ok (.bipush 112, 2) := by decide +kernel
theorem dX6_isMark_9 : decode cX6_isMark 9 = .ok (.if_icmp .eq 27, 3) := by decide +kernel
theorem dX6_isMark_12 : decode cX6_isMark 12 = .ok (.iload_n 0, 1) := by decide +kernel
theorem dX6_isMark_13 : decode cX6_isMark 13 = .ok (.bipush 115, 2) := by decide +kernel
theorem dX6_isMark_15 : decode cX6_isMark 15 = .ok (.if_icmp .eq 21, 3) := by decide +kernel
theorem dX6_isMark_18 : decode cX6_isMark 18 = .ok (.iload_n 0, 1) := by decide +kernel
theorem dX6_isMark_19 : decode cX6_isMark 19 = .ok (.bipush 103, 2) := by decide +kernel
theorem dX6_isMark_21 : decode cX6_isMark 21 = .ok (.if_icmp .eq 15, 3) := by decide +kernel
theorem dX6_isMark_24 : decode cX6_isMark 24 = .ok (.iload_n 0, 1) := by decide +kernel
theorem dX6_isMark_25 : decode cX6_isMark 25 = .ok (.bipush 110, 2) := by decide +kernel
theorem dX6_isMark_27 : decode cX6_isMark 27 = .ok (.if_icmp .eq 9, 3) := by decide +kernel
theorem dX6_isMark_30 : decode cX6_isMark 30 = .ok (.iload_n 0, 1) := by decide +kernel
theorem dX6_isMark_31 : decode cX6_isMark 31 = .ok (.bipush 37, 2) := by decide +kernel
theorem dX6_isMark_33 : decode cX6_isMark 33 = .ok (.if_icmp .ne 7, 3) := by decide +kernel
theorem dX6_isMark_36 : decode cX6_isMark 36 = .ok (.iconst 1, 1) := by decide +kernel
theorem dX6_isMark_37 : decode cX6_isMark 37 = .ok (.goto 4, 3) := by decide +kernel
theorem dX6_isMark_40 : decode cX6_isMark 40 = .ok (.iconst 0, 1) := by decide +kernel
theorem dX6_isMark_41 : decode cX6_isMark 41 = .ok (.ireturn, 1) := by decide +kernel
theorem dX6_findFault_0 : decode cX6_findFault 0 = .ok (.iconst 0, 1) := by decide +kernel
theorem dX6_findFault_1 : decode cX6_findFault 1 = .ok (.istore_n 1, 1) := by decide +kernel
theorem dX6_findFault_2 : decode cX6_findFault 2 = .ok (.iconst 0, 1) := by decide +kernel
theorem dX6_findFault_3 : decode cX6_findFault 3 = .ok (.istore_n 2, 1) := by decide +kernel
theorem dX6_findFault_4 : decode cX6_findFault 4 = .ok (.iload_n 2, 1) := by decide +kernel
theorem dX6_findFault_5 : decode cX6_findFault 5 = .ok (.aload_n 0, 1) := by decide +kernel
theorem dX6_findFault_6 : decode cX6_findFault 6 = .ok (.getfield 211, 3) := by decide +kernel
theorem dX6_findFault_9 : decode cX6_findFault 9 = .ok (.if_icmp .ge 88, 3) := by decide +kernel
theorem dX6_findFault_12 : decode cX6_findFault 12 = .ok (.aload_n 0, 1) := by decide +kernel
theorem dX6_findFault_13 : decode cX6_findFault 13 = .ok (.getfield 90, 3) := by decide +kernel
theorem dX6_findFault_16 : decode cX6_findFault 16 = .ok (.iload_n 2, 1) := by decide +kernel
theorem dX6_findFault_17 : decode cX6_findFault 17 = .ok (.iaload, 1) := by decide +kernel
theorem dX6_findFault_18 : decode cX6_findFault 18 = .ok (.istore_n 3, 1) := by decide +kernel
theorem dX6_findFault_19 : decode cX6_findFault 19 = .ok (.iload_n 3, 1) := by decide +kernel
theorem dX6_findFault_20 : decode cX6_findFault 20 = .ok (.bipush 37, 2) := by decide +kernel
theorem dX6_findFault_22 : decode cX6_findFault 22 = .ok (.if_icmp .ne 27, 3) := by decide +kernel
theorem dX6_findFault_25 : decode cX6_findFault 25 = .ok (.iload_n 2, 1) := by decide +kernel
theorem dX6_findFault_26 : decode cX6_findFault 26 = .ok (.iconst 1, 1) := by decide +kernel
theorem dX6_findFault_27 : decode cX6_findFault 27 = .ok (.iadd, 1) := by decide +kernel
theorem dX6_findFault_28 : decode cX6_findFault 28 = .ok (.aload_n 0, 1) := by decide +kernel
theorem dX6_findFault_29 : decode cX6_findFault 29 = .ok (.getfield 211, 3) := by decide +kernel
theorem dX6_findFault_32 : decode cX6_findFault 32 = .ok (.if_icmp .eq 28, 3) := by decide +kernel
theorem dX6_findFault_35 : decode cX6_findFault 35 = .ok (.aload_n 0, 1) := by decide +kernel
theorem dX6_findFault_36 : decode cX6_findFault 36 = .ok (.getfield 90, 3) := by decide +kernel
theorem dX6_findFault_39 : decode cX6_findFault 39 = .ok (.iload_n 2, 1) := by decide +kernel
theorem dX6_findFault_40 : decode cX6_findFault 40 = .ok (.iconst 1, 1) := by decide +kernel
theorem dX6_findFault_41 : decode cX6_findFault 41 = .ok (.iadd, 1) := by decide +kernel
theorem dX6_findFault_42 : decode cX6_findFault 42 = .ok (.iaload, 1) := by decide +kernel
theorem dX6_findFault_43 : decode cX6_findFault 43 = .ok (.invokestatic 214, 3) := by decide +kernel
theorem dX6_findFault_46 : decode cX6_findFault 46 = .ok (.ifCond .eq 14, 3) := by decide +kernel
theorem dX6_findFault_49 : decode cX6_findFault 49 = .ok (.iload_n 3, 1) := by decide +kernel
theorem dX6_findFault_50 : decode cX6_findFault 50 = .ok (.bipush 124, 2) := by decide +kernel
theorem dX6_findFault_52 : decode cX6_findFault 52 = .ok (.if_icmp .ne 10, 3) := by decide +kernel
theorem dX6_findFault_55 : decode cX6_findFault 55 = .ok (.iload_n 1, 1) := by decide +kernel
theorem dX6_findFault_56 : decode cX6_findFault 56 = .ok (.iconst 3, 1) := by decide +kernel
theorem dX6_findFault_57 : decode cX6_findFault 57 = .ok (.if_icmp .ne 5, 3) := by decide +kernel
theorem dX6_findFault_60 : decode cX6_findFault 60 = .ok (.iload_n 2, 1) := by decide +kernel
theorem dX6_findFault_61 : decode cX6_findFault 61 = .ok (.ireturn, 1) := by decide +kernel
theorem dX6_findFault_62 : decode cX6_findFault 62 = .ok (.iload_n 3, 1) := by decide +kernel
theorem dX6_findFault_63 : decode cX6_findFault 63 = .ok (.bipush 124, 2) := by decide +kernel
theorem dX6_findFault_65 : decode cX6_findFault 65 = .ok (.if_icmp .ne 13, 3) := by decide +kernel
theorem dX6_findFault_68 : decode cX6_findFault 68 = .ok (.aload_n 0, 1) := by decide +kernel
theorem dX6_findFault_69 : decode cX6_findFault 69 = .ok (.getfield 93, 3) := by decide +kernel
theorem dX6_findFault_72 : decode cX6_findFault 72 = .ok (.iload_n 1, 1) := by decide +kernel
theorem dX6_findFault_73 : decode cX6_findFault 73 = .ok (.iload_n 2, 1) := by decide +kernel
theorem dX6_findFault_74 : decode cX6_findFault 74 = .ok (.iastore, 1) := by decide +kernel
theorem dX6_findFault_75 : decode cX6_findFault 75 = .ok (.iinc 1 1, 3) := by decide +kernel
theorem dX6_findFault_78 : decode cX6_findFault 78 = .ok (.iload_n 3, 1) := by decide +kernel
theorem dX6_findFault_79 : decode cX6_findFault 79 = .ok (.bipush 37, 2) := by decide +kernel
theorem dX6_findFault_81 : decode cX6_findFault 81 = .ok (.if_icmp .ne 9, 3) := by decide +kernel
theorem dX6_findFault_84 : decode cX6_findFault 84 = .ok (.iload_n 2, 1) := by decide +kernel
theorem dX6_findFault_85 : decode cX6_findFault 85 = .ok (.iconst 2, 1) := by decide +kernel
theorem dX6_findFault_86 : decode cX6_findFault 86 = .ok (.iadd, 1) := by decide +kernel
theorem dX6_findFault_87 : decode cX6_findFault 87 = .ok (.goto 6, 3) := by decide +kernel
theorem dX6_findFault_90 : decode cX6_findFault 90 = .ok (.iload_n 2, 1) := by decide +kernel
theorem dX6_findFault_91 : decode cX6_findFault 91 = .ok (.iconst 1, 1) := by decide +kernel
theorem dX6_findFault_92 : decode cX6_findFault 92 = .ok (.iadd, 1) := by decide +kernel
theorem dX6_findFault_93 : decode cX6_findFault 93 = .ok (.istore_n 2, 1) := by decide +kernel
theorem dX6_findFault_94 : decode cX6_findFault 94 = .ok (.goto (-90), 3) := by decide +kernel
theorem dX6_findFault_97 : decode cX6_findFault 97 = .ok (.aload_n 0, 1) := by decide +kernel
theorem dX6_findFault_98 : decode cX6_findFault 98 = .ok (.getfield 93, 3) := by decide +kernel
theorem dX6_findFault_101 : decode cX6_findFault 101 = .ok (.iconst 3, 1) := by decide +kernel
theorem dX6_findFault_102 : decode cX6_findFault 102 = .ok (.aload_n 0, 1) := by decide +kernel
theorem dX6_findFault_103 : decode cX6_findFault 103 = .ok (.getfield 211, 3) := by decide +kernel
theorem dX6_findFault_106 : decode cX6_findFault 106 = .ok (.iastore, 1) := by decide +kernel
theorem dX6_findFault_107 : decode cX6_findFault 107 = .ok (.iload_n 1, 1) := by decide +kernel
theorem dX6_findFault_108 : decode cX6_findFault 108 = .ok (.iconst 3, 1) := by decide +kernel
theorem dX6_findFault_109 : decode cX6_findFault 109 = .ok (.if_icmp .ge 10, 3) := by decide +kernel
theorem dX6_findFault_112 : decode cX6_findFault 112 = .ok (.aload_n 0, 1) := by decide +kernel
theorem dX6_findFault_113 : decode cX6_findFault 113 = .ok (.getfield 211, 3) := by decide +kernel
theorem dX6_findFault_116 : decode cX6_findFault 116 = .ok (.goto 4, 3) := by decide +kernel
theorem dX6_findFault_119 : decode cX6_findFault 119 = .ok (.iconst (-1), 1) := by decide +kernel
theorem dX6_findFault_120 : decode cX6_findFault 120 = .ok (.ireturn, 1) := by decide +kernel
theorem dX6_put_0 : decode cX6_put 0 = .ok (.aload_n 0, 1) := by decide +kernel
theorem dX6_put_1 : decode cX6_put 1 = .ok (.getfield 217, 3) := by decide +kernel
theorem dX6_put_4 : decode cX6_put 4 = .ok (.sipush 6000, 3) := by decide +kernel
theorem dX6_put_7 : decode cX6_put 7 = .ok (.if_icmp .ne 9, 3) := by decide +kernel
theorem dX6_put_10 : decode cX6_put 10 = .ok (.aload_n 0, 1) := by decide +kernel
theorem dX6_put_11 : decode cX6_put 11 = .ok (.iconst 1, 1) := by decide +kernel
theorem dX6_put_12 : decode cX6_put 12 = .ok (.putfield 220, 3) := by decide +kernel
theorem dX6_put_15 : decode cX6_put 15 = .ok (.return_, 1) := by decide +kernel
theorem dX6_put_16 : decode cX6_put 16 = .ok (.aload_n 0, 1) := by decide +kernel
theorem dX6_put_17 : decode cX6_put 17 = .ok (.getfield 100, 3) := by decide +kernel
theorem dX6_put_20 : decode cX6_put 20 = .ok (.aload_n 0, 1) := by decide +kernel
theorem dX6_put_21 : decode cX6_put 21 = .ok (.getfield 217, 3) := by decide +kernel
theorem dX6_put_24 : decode cX6_put 24 = .ok (.iload_n 1, 1) := by decide +kernel
theorem dX6_put_25 : decode cX6_put 25 = .ok (.i2b, 1) := by decide +kernel
theorem dX6_put_26 : decode cX6_put 26 = .ok (.bastore, 1) := by decide +kernel
theorem dX6_put_27 : decode cX6_put 27 = .ok (.aload_n 0, 1) := by decide +kernel
theorem dX6_put_28 : decode cX6_put 28 = .ok (.dup, 1) := by decide +kernel
theorem dX6_put_29 : decode cX6_put 29 = .ok (.getfield 217, 3) := by decide +kernel
theorem dX6_put_32 : decode cX6_put 32 = .ok (.iconst 1, 1) := by decide +kernel
theorem dX6_put_33 : decode cX6_put 33 = .ok (.iadd, 1) := by decide +kernel
theorem dX6_put_34 : decode cX6_put 34 = .ok (.putfield 217, 3) := by decide +kernel
theorem dX6_put_37 : decode cX6_put 37 = .ok (.return_, 1) := by decide +kernel
theorem dX6_putPair_0 : decode cX6_putPair 0 = .ok (.aload_n 0, 1) := by decide +kernel
theorem dX6_putPair_1 : decode cX6_putPair 1 = .ok (.iload_n 1, 1) := by decide +kernel
theorem dX6_putPair_2 : decode cX6_putPair 2 = .ok (.invokevirtual 223, 3) := by decide +kernel
theorem dX6_putPair_5 : decode cX6_putPair 5 = .ok (.aload_n 0, 1) := by decide +kernel
theorem dX6_putPair_6 : decode cX6_putPair 6 = .ok (.iload_n 2, 1) := by decide +kernel
theorem dX6_putPair_7 : decode cX6_putPair 7 = .ok (.invokevirtual 223, 3) := by decide +kernel
theorem dX6_putPair_10 : decode cX6_putPair 10 = .ok (.return_, 1) := by decide +kernel
theorem dX6_putSigns_0 : decode cX6_putSigns 0 = .ok (.iconst 0, 1) := by decide +kernel
theorem dX6_putSigns_1 : decode cX6_putSigns 1 = .ok (.istore_n 2, 1) := by decide +kernel
theorem dX6_putSigns_2 : decode cX6_putSigns 2 = .ok (.iload_n 2, 1) := by decide +kernel
theorem dX6_putSigns_3 : decode cX6_putSigns 3 = .ok (.aload_n 0, 1) := by decide +kernel
theorem dX6_putSigns_4 : decode cX6_putSigns 4 = .ok (.getfield 19, 3) := by decide +kernel
theorem dX6_putSigns_7 : decode cX6_putSigns 7 = .ok (.iload_n 1, 1) := by decide +kernel
theorem dX6_putSigns_8 : decode cX6_putSigns 8 = .ok (.iaload, 1) := by decide +kernel
theorem dX6_putSigns_9 : decode cX6_putSigns 9 = .ok (.if_icmp .ge 24, 3) := by decide +kernel
theorem dX6_putSigns_12 : decode cX6_putSigns 12 = .ok (.aload_n 0, 1) := by decide +kernel
theorem dX6_putSigns_13 : decode cX6_putSigns 13 = .ok (.aload_n 0, 1) := by decide +kernel
theorem dX6_putSigns_14 : decode cX6_putSigns 14 = .ok (.getfield 16, 3) := by decide +kernel
theorem dX6_putSigns_17 : decode cX6_putSigns 17 = .ok (.bipush 20, 2) := by decide +kernel
theorem dX6_putSigns_19 : decode cX6_putSigns 19 = .ok (.iload_n 1, 1) := by decide +kernel
theorem dX6_putSigns_20 : decode cX6_putSigns 20 = .ok (.imul, 1) := by decide +kernel
theorem dX6_putSigns_21 : decode cX6_putSigns 21 = .ok (.iload_n 2, 1) := by decide +kernel
theorem dX6_putSigns_22 : decode cX6_putSigns 22 = .ok (.iadd, 1) := by decide +kernel
theorem dX6_putSigns_23 : decode cX6_putSigns 23 = .ok (.iaload, 1) := by decide +kernel
theorem dX6_putSigns_24 : decode cX6_putSigns 24 = .ok (.invokevirtual 223, 3) := by decide +kernel
theorem dX6_putSigns_27 : decode cX6_putSigns 27 = .ok (.iinc 2 1, 3) := by decide +kernel
theorem dX6_putSigns_30 : decode cX6_putSigns 30 = .ok (.goto (-28), 3) := by decide +kernel
theorem dX6_putSigns_33 : decode cX6_putSigns 33 = .ok (.return_, 1) := by decide +kernel
theorem dX6_putNumber_0 : decode cX6_putNumber 0 = .ok (.iconst 1, 1) := by decide +kernel
theorem dX6_putNumber_1 : decode cX6_putNumber 1 = .ok (.istore_n 2, 1) := by decide +kernel
theorem dX6_putNumber_2 : decode cX6_putNumber 2 = .ok (.iload_n 1, 1) := by decide +kernel
theorem dX6_putNumber_3 : decode cX6_putNumber 3 = .ok (.iload_n 2, 1) := by decide +kernel
theorem dX6_putNumber_4 : decode cX6_putNumber 4 = .ok (.idiv, 1) := by decide +kernel
theorem dX6_putNumber_5 : decode cX6_putNumber 5 = .ok (.bipush 9, 2) := by decide +kernel
theorem dX6_putNumber_7 : decode cX6_putNumber 7 = .ok (.if_icmp .le 11, 3) := by decide +kernel
theorem dX6_putNumber_10 : decode cX6_putNumber 10 = .ok (.bipush 10, 2) := by decide +kernel
theorem dX6_putNumber_12 : decode cX6_putNumber 12 = .ok (.iload_n 2, 1) := by decide +kernel
theorem dX6_putNumber_13 : decode cX6_putNumber 13 = .ok (.imul, 1) := by decide +kernel
theorem dX6_putNumber_14 : decode cX6_putNumber 14 = .ok (.istore_n 2, 1) := by decide +kernel
theorem dX6_putNumber_15 : decode cX6_putNumber 15 = .ok (.goto (-13), 3) := by decide +kernel
theorem dX6_putNumber_18 : decode cX6_putNumber 18 = .ok (.iload_n 2, 1) := by decide +kernel
theorem dX6_putNumber_19 : decode cX6_putNumber 19 = .ok (.ifCond .le 24, 3) := by decide +kernel
theorem dX6_putNumber_22 : decode cX6_putNumber 22 = .ok (.aload_n 0, 1) := by decide +kernel
theorem dX6_putNumber_23 : decode cX6_putNumber 23 = .ok (.bipush 48, 2) := by decide +kernel
theorem dX6_putNumber_25 : decode cX6_putNumber 25 = .ok (.iload_n 1, 1) := by decide +kernel
theorem dX6_putNumber_26 : decode cX6_putNumber 26 = .ok (.iload_n 2, 1) := by decide +kernel
theorem dX6_putNumber_27 : decode cX6_putNumber 27 = .ok (.idiv, 1) := by decide +kernel
theorem dX6_putNumber_28 : decode cX6_putNumber 28 = .ok (.bipush 10, 2) := by decide +kernel
theorem dX6_putNumber_30 : decode cX6_putNumber 30 = .ok (.irem, 1) := by decide +kernel
theorem dX6_putNumber_31 : decode cX6_putNumber 31 = .ok (.iadd, 1) := by decide +kernel
theorem dX6_putNumber_32 : decode cX6_putNumber 32 = .ok (.invokevirtual 223, 3) := by decide +kernel
theorem dX6_putNumber_35 : decode cX6_putNumber 35 = .ok (.iload_n 2, 1) := by decide +kernel
theorem dX6_putNumber_36 : decode cX6_putNumber 36 = .ok (.bipush 10, 2) := by decide +kernel
theorem dX6_putNumber_38 : decode cX6_putNumber 38 = .ok (.idiv, 1) := by decide +kernel
theorem dX6_putNumber_39 : decode cX6_putNumber 39 = .ok (.istore_n 2, 1) := by decide +kernel
theorem dX6_putNumber_40 : decode cX6_putNumber 40 = .ok (.goto (-22), 3) := by decide +kernel
theorem dX6_putNumber_43 : decode cX6_putNumber 43 = .ok (.return_, 1) := by decide +kernel
theorem dX6_putSmallRoman_0 : decode cX6_putSmallRoman 0 = .ok (.iload_n 1, 1) := by decide +kernel
theorem dX6_putSmallRoman_1 : decode cX6_putSmallRoman 1 = .ok (.istore_n 2, 1) := by decide +kernel
theorem dX6_putSmallRoman_2 : decode cX6_putSmallRoman 2 = .ok (.iload_n 2, 1) := by decide +kernel
theorem dX6_putSmallRoman_3 : decode cX6_putSmallRoman 3 = .ok (.ifCond .le 267, 3) := by decide +kernel
theorem dX6_putSmallRoman_6 : decode cX6_putSmallRoman 6 = .ok (.iload_n 2, 1) := by decide +kernel
theorem dX6_putSmallRoman_7 : decode cX6_putSmallRoman 7 = .ok (.sipush 1000, 3) := by decide +kernel
theorem dX6_putSmallRoman_10 : decode cX6_putSmallRoman 10 = .ok (.if_icmp .lt 18, 3) := by decide +kernel
theorem dX6_putSmallRoman_13 : decode cX6_putSmallRoman 13 = .ok (.aload_n 0, 1) := by decide +kernel
theorem dX6_putSmallRoman_14 : decode cX6_putSmallRoman 14 = .ok (.bipush 109, 2) := by decide +kernel
theorem dX6_putSmallRoman_16 : decode cX6_putSmallRoman 16 = .ok (.invokevirtual 223, 3) := by decide +kernel
theorem dX6_putSmallRoman_19 : decode cX6_putSmallRoman 19 = .ok (.iload_n 2, 1) := by decide +kernel
theorem dX6_putSmallRoman_20 : decode cX6_putSmallRoman 20 = .ok (.sipush 1000, 3) := by decide +kernel
theorem dX6_putSmallRoman_23 : decode cX6_putSmallRoman 23 = .ok (.isub, 1) := by decide +kernel
theorem dX6_putSmallRoman_24 : decode cX6_putSmallRoman 24 = .ok (.istore_n 2, 1) := by decide +kernel
theorem dX6_putSmallRoman_25 : decode cX6_putSmallRoman 25 = .ok (.goto (-23), 3) := by decide +kernel
theorem dX6_putSmallRoman_28 : decode cX6_putSmallRoman 28 = .ok (.iload_n 2, 1) := by decide +kernel
theorem dX6_putSmallRoman_29 : decode cX6_putSmallRoman 29 = .ok (.sipush 900, 3) := by decide +kernel
theorem dX6_putSmallRoman_32 : decode cX6_putSmallRoman 32 = .ok (.if_icmp .lt 20, 3) := by decide +kernel
theorem dX6_putSmallRoman_35 : decode cX6_putSmallRoman 35 = .ok (.aload_n 0, 1) := by decide +kernel
theorem dX6_putSmallRoman_36 : decode cX6_putSmallRoman 36 = .ok (.bipush 99, 2) := by decide +kernel
theorem dX6_putSmallRoman_38 : decode cX6_putSmallRoman 38 = .ok (.bipush 109, 2) := by decide +kernel
theorem dX6_putSmallRoman_40 : decode cX6_putSmallRoman 40 = .ok (.invokevirtual 226, 3) := by decide +kernel
theorem dX6_putSmallRoman_43 : decode cX6_putSmallRoman 43 = .ok (.iload_n 2, 1) := by decide +kernel
theorem dX6_putSmallRoman_44 : decode cX6_putSmallRoman 44 = .ok (.sipush 900, 3) := by decide +kernel
theorem dX6_putSmallRoman_47 : decode cX6_putSmallRoman 47 = .ok (.isub, 1) := by decide +kernel
theorem dX6_putSmallRoman_48 : decode cX6_putSmallRoman 48 = .ok (.istore_n 2, 1) := by decide +kernel
theorem dX6_putSmallRoman_49 : decode cX6_putSmallRoman 49 = .ok (.goto (-47), 3) := by decide +kernel
theorem dX6_putSmallRoman_52 : decode cX6_putSmallRoman 52 = .ok (.iload_n 2, 1) := by decide +kernel
theorem dX6_putSmallRoman_53 : decode cX6_putSmallRoman 53 = .ok (.sipush 500, 3) := by decide +kernel
theorem dX6_putSmallRoman_56 : decode cX6_putSmallRoman 56 = .ok (.if_icmp .lt 18, 3) := by decide +kernel
theorem dX6_putSmallRoman_59 : decode cX6_putSmallRoman 59 = .ok (.aload_n 0, 1) := by decide +kernel
theorem dX6_putSmallRoman_60 : decode cX6_putSmallRoman 60 = .ok (.bipush 100, 2) := by decide +kernel
theorem dX6_putSmallRoman_62 : decode cX6_putSmallRoman 62 = .ok (.invokevirtual 223, 3) := by decide +kernel
theorem dX6_putSmallRoman_65 : decode cX6_putSmallRoman 65 = .ok (.iload_n 2, 1) := by decide +kernel
theorem dX6_putSmallRoman_66 : decode cX6_putSmallRoman 66 = .ok (.sipush 500, 3) := by decide +kernel
theorem dX6_putSmallRoman_69 : decode cX6_putSmallRoman 69 = .ok (.isub, 1) := by decide +kernel
theorem dX6_putSmallRoman_70 : decode cX6_putSmallRoman 70 = .ok (.istore_n 2, 1) := by decide +kernel
theorem dX6_putSmallRoman_71 : decode cX6_putSmallRoman 71 = .ok (.goto (-69), 3) := by decide +kernel
theorem dX6_putSmallRoman_74 : decode cX6_putSmallRoman 74 = .ok (.iload_n 2, 1) := by decide +kernel
theorem dX6_putSmallRoman_75 : decode cX6_putSmallRoman 75 = .ok (.sipush 400, 3) := by decide +kernel
theorem dX6_putSmallRoman_78 : decode cX6_putSmallRoman 78 = .ok (.if_icmp .lt 20, 3) := by decide +kernel
theorem dX6_putSmallRoman_81 : decode cX6_putSmallRoman 81 = .ok (.aload_n 0, 1) := by decide +kernel
theorem dX6_putSmallRoman_82 : decode cX6_putSmallRoman 82 = .ok (.bipush 99, 2) := by decide +kernel
theorem dX6_putSmallRoman_84 : decode cX6_putSmallRoman 84 = .ok (.bipush 100, 2) := by decide +kernel
theorem dX6_putSmallRoman_86 : decode cX6_putSmallRoman 86 = .ok (.invokevirtual 226, 3) := by decide +kernel
theorem dX6_putSmallRoman_89 : decode cX6_putSmallRoman 89 = .ok (.iload_n 2, 1) := by decide +kernel
theorem dX6_putSmallRoman_90 : decode cX6_putSmallRoman 90 = .ok (.sipush 400, 3) := by decide +kernel
theorem dX6_putSmallRoman_93 : decode cX6_putSmallRoman 93 = .ok (.isub, 1) := by decide +kernel
theorem dX6_putSmallRoman_94 : decode cX6_putSmallRoman 94 = .ok (.istore_n 2, 1) := by decide +kernel
theorem dX6_putSmallRoman_95 : decode cX6_putSmallRoman 95 = .ok (.goto (-93), 3) := by decide +kernel
theorem dX6_putSmallRoman_98 : decode cX6_putSmallRoman 98 = .ok (.iload_n 2, 1) := by decide +kernel
theorem dX6_putSmallRoman_99 : decode cX6_putSmallRoman 99 = .ok (.bipush 100, 2) := by decide +kernel
theorem dX6_putSmallRoman_101 : decode cX6_putSmallRoman 101 = .ok (.if_icmp .lt 17, 3) := by decide +kernel
theorem dX6_putSmallRoman_104 : decode cX6_putSmallRoman 104 = .ok (.aload_n 0, 1) := by decide +kernel
theorem dX6_putSmallRoman_105 : decode cX6_putSmallRoman 105 = .ok (.bipush 99, 2) := by decide +kernel
theorem dX6_putSmallRoman_107 : decode cX6_putSmallRoman 107 = .ok (.invokevirtual 223, 3) := by decide +kernel
theorem dX6_putSmallRoman_110 : decode cX6_putSmallRoman 110 = .ok (.iload_n 2, 1) := by decide +kernel
theorem dX6_putSmallRoman_111 : decode cX6_putSmallRoman 111 = .ok (.bipush 100, 2) := by decide +kernel
theorem dX6_putSmallRoman_113 : decode cX6_putSmallRoman 113 = .ok (.isub, 1) := by decide +kernel
theorem dX6_putSmallRoman_114 : decode cX6_putSmallRoman 114 = .ok (.istore_n 2, 1) := by decide +kernel
theorem dX6_putSmallRoman_115 : decode cX6_putSmallRoman 115 = .ok (.goto (-113), 3) := by decide +kernel
theorem dX6_putSmallRoman_118 : decode cX6_putSmallRoman 118 = .ok (.iload_n 2, 1) := by decide +kernel
theorem dX6_putSmallRoman_119 : decode cX6_putSmallRoman 119 = .ok (.bipush 90, 2) := by decide +kernel
theorem dX6_putSmallRoman_121 : decode cX6_putSmallRoman 121 = .ok (.if_icmp .lt 19, 3) := by decide +kernel
theorem dX6_putSmallRoman_124 : decode cX6_putSmallRoman 124 = .ok (.aload_n 0, 1) := by decide +kernel
theorem dX6_putSmallRoman_125 : decode cX6_putSmallRoman 125 = .ok (.bipush 120, 2) := by decide +kernel
theorem dX6_putSmallRoman_127 : decode cX6_putSmallRoman 127 = .ok (.bipush 99, 2) := by decide +kernel
theorem dX6_putSmallRoman_129 : decode cX6_putSmallRoman 129 = .ok (.invokevirtual 226, 3) := by decide +kernel
theorem dX6_putSmallRoman_132 : decode cX6_putSmallRoman 132 = .ok (.iload_n 2, 1) := by decide +kernel
theorem dX6_putSmallRoman_133 : decode cX6_putSmallRoman 133 = .ok (.bipush 90, 2) := by decide +kernel
theorem dX6_putSmallRoman_135 : decode cX6_putSmallRoman 135 = .ok (.isub, 1) := by decide +kernel
theorem dX6_putSmallRoman_136 : decode cX6_putSmallRoman 136 = .ok (.istore_n 2, 1) := by decide +kernel
theorem dX6_putSmallRoman_137 : decode cX6_putSmallRoman 137 = .ok (.goto (-135), 3) := by decide +kernel
theorem dX6_putSmallRoman_140 : decode cX6_putSmallRoman 140 = .ok (.iload_n 2, 1) := by decide +kernel
theorem dX6_putSmallRoman_141 : decode cX6_putSmallRoman 141 = .ok (.bipush 50, 2) := by decide +kernel
theorem dX6_putSmallRoman_143 : decode cX6_putSmallRoman 143 = .ok (.if_icmp .lt 17, 3) := by decide +kernel
theorem dX6_putSmallRoman_146 : decode cX6_putSmallRoman 146 = .ok (.aload_n 0, 1) := by decide +kernel
theorem dX6_putSmallRoman_147 : decode cX6_putSmallRoman 147 = .ok (.bipush 108, 2) := by decide +kernel
theorem dX6_putSmallRoman_149 : decode cX6_putSmallRoman 149 = .ok (.invokevirtual 223, 3) := by decide +kernel
theorem dX6_putSmallRoman_152 : decode cX6_putSmallRoman 152 = .ok (.iload_n 2, 1) := by decide +kernel
theorem dX6_putSmallRoman_153 : decode cX6_putSmallRoman 153 = .ok (.bipush 50, 2) := by decide +kernel
theorem dX6_putSmallRoman_155 : decode cX6_putSmallRoman 155 = .ok (.isub, 1) := by decide +kernel
theorem dX6_putSmallRoman_156 : decode cX6_putSmallRoman 156 = .ok (.istore_n 2, 1) := by decide +kernel
theorem dX6_putSmallRoman_157 : decode cX6_putSmallRoman 157 = .ok (.goto (-155), 3) := by decide +kernel
theorem dX6_putSmallRoman_160 : decode cX6_putSmallRoman 160 = .ok (.iload_n 2, 1) := by decide +kernel
theorem dX6_putSmallRoman_161 : decode cX6_putSmallRoman 161 = .ok (.bipush 40, 2) := by decide +kernel
theorem dX6_putSmallRoman_163 : decode cX6_putSmallRoman 163 = .ok (.if_icmp .lt 19, 3) := by decide +kernel
theorem dX6_putSmallRoman_166 : decode cX6_putSmallRoman 166 = .ok (.aload_n 0, 1) := by decide +kernel
theorem dX6_putSmallRoman_167 : decode cX6_putSmallRoman 167 = .ok (.bipush 120, 2) := by decide +kernel
theorem dX6_putSmallRoman_169 : decode cX6_putSmallRoman 169 = .ok (.bipush 108, 2) := by decide +kernel
theorem dX6_putSmallRoman_171 : decode cX6_putSmallRoman 171 = .ok (.invokevirtual 226, 3) := by decide +kernel
theorem dX6_putSmallRoman_174 : decode cX6_putSmallRoman 174 = .ok (.iload_n 2, 1) := by decide +kernel
theorem dX6_putSmallRoman_175 : decode cX6_putSmallRoman 175 = .ok (.bipush 40, 2) := by decide +kernel
theorem dX6_putSmallRoman_177 : decode cX6_putSmallRoman 177 = .ok (.isub, 1) := by decide +kernel
theorem dX6_putSmallRoman_178 : decode cX6_putSmallRoman 178 = .ok (.istore_n 2, 1) := by decide +kernel
theorem dX6_putSmallRoman_179 : decode cX6_putSmallRoman 179 = .ok (.goto (-177), 3) := by decide +kernel
theorem dX6_putSmallRoman_182 : decode cX6_putSmallRoman 182 = .ok (.iload_n 2, 1) := by decide +kernel
theorem dX6_putSmallRoman_183 : decode cX6_putSmallRoman 183 = .ok (.bipush 10, 2) := by decide +kernel
theorem dX6_putSmallRoman_185 : decode cX6_putSmallRoman 185 = .ok (.if_icmp .lt 17, 3) := by decide +kernel
theorem dX6_putSmallRoman_188 : decode cX6_putSmallRoman 188 = .ok (.aload_n 0, 1) := by decide +kernel
theorem dX6_putSmallRoman_189 : decode cX6_putSmallRoman 189 = .ok (.bipush 120, 2) := by decide +kernel
theorem dX6_putSmallRoman_191 : decode cX6_putSmallRoman 191 = .ok (.invokevirtual 223, 3) := by decide +kernel
theorem dX6_putSmallRoman_194 : decode cX6_putSmallRoman 194 = .ok (.iload_n 2, 1) := by decide +kernel
theorem dX6_putSmallRoman_195 : decode cX6_putSmallRoman 195 = .ok (.bipush 10, 2) := by decide +kernel
theorem dX6_putSmallRoman_197 : decode cX6_putSmallRoman 197 = .ok (.isub, 1) := by decide +kernel
theorem dX6_putSmallRoman_198 : decode cX6_putSmallRoman 198 = .ok (.istore_n 2, 1) := by decide +kernel
theorem dX6_putSmallRoman_199 : decode cX6_putSmallRoman 199 = .ok (.goto (-197), 3) := by decide +kernel
theorem dX6_putSmallRoman_202 : decode cX6_putSmallRoman 202 = .ok (.iload_n 2, 1) := by decide +kernel
theorem dX6_putSmallRoman_203 : decode cX6_putSmallRoman 203 = .ok (.bipush 9, 2) := by decide +kernel
theorem dX6_putSmallRoman_205 : decode cX6_putSmallRoman 205 = .ok (.if_icmp .ne 16, 3) := by decide +kernel
theorem dX6_putSmallRoman_208 : decode cX6_putSmallRoman 208 = .ok (.aload_n 0, 1) := by decide +kernel
theorem dX6_putSmallRoman_209 : decode cX6_putSmallRoman 209 = .ok (.bipush 105, 2) := by decide +kernel
theorem dX6_putSmallRoman_211 : decode cX6_putSmallRoman 211 = .ok (.bipush 120, 2) := by decide +kernel
theorem dX6_putSmallRoman_213 : decode cX6_putSmallRoman 213 = .ok (.invokevirtual 226, 3) := by decide +kernel
theorem dX6_putSmallRoman_216 : decode cX6_putSmallRoman 216 = .ok (.iconst 0, 1) := by decide +kernel
theorem dX6_putSmallRoman_217 : decode cX6_putSmallRoman 217 = .ok (.istore_n 2, 1) := by decide +kernel
theorem dX6_putSmallRoman_218 : decode cX6_putSmallRoman 218 = .ok (.goto (-216), 3) := by decide +kernel
theorem dX6_putSmallRoman_221 : decode cX6_putSmallRoman 221 = .ok (.iload_n 2, 1) := by decide +kernel
theorem dX6_putSmallRoman_222 : decode cX6_putSmallRoman 222 = .ok (.iconst 5, 1) := by decide +kernel
theorem dX6_putSmallRoman_223 : decode cX6_putSmallRoman 223 = .ok (.if_icmp .lt 16, 3) := by decide +kernel
theorem dX6_putSmallRoman_226 : decode cX6_putSmallRoman 226 = .ok (.aload_n 0, 1) := by decide +kernel
theorem dX6_putSmallRoman_227 : decode cX6_putSmallRoman 227 = .ok (.bipush 118, 2) := by decide +kernel
theorem dX6_putSmallRoman_229 : decode cX6_putSmallRoman 229 = .ok (.invokevirtual 223, 3) := by decide +kernel
theorem dX6_putSmallRoman_232 : decode cX6_putSmallRoman 232 = .ok (.iload_n 2, 1) := by decide +kernel
theorem dX6_putSmallRoman_233 : decode cX6_putSmallRoman 233 = .ok (.iconst 5, 1) := by decide +kernel
theorem dX6_putSmallRoman_234 : decode cX6_putSmallRoman 234 = .ok (.isub, 1) := by decide +kernel
theorem dX6_putSmallRoman_235 : decode cX6_putSmallRoman 235 = .ok (.istore_n 2, 1) := by decide +kernel
theorem dX6_putSmallRoman_236 : decode cX6_putSmallRoman 236 = .ok (.goto (-234), 3) := by decide +kernel
theorem dX6_putSmallRoman_239 : decode cX6_putSmallRoman 239 = .ok (.iload_n 2, 1) := by decide +kernel
theorem dX6_putSmallRoman_240 : decode cX6_putSmallRoman 240 = .ok (.iconst 4, 1) := by decide +kernel
theorem dX6_putSmallRoman_241 : decode cX6_putSmallRoman 241 = .ok (.if_icmp .ne 16, 3) := by decide +kernel
theorem dX6_putSmallRoman_244 : decode cX6_putSmallRoman 244 = .ok (.aload_n 0, 1) := by decide +kernel
theorem dX6_putSmallRoman_245 : decode cX6_putSmallRoman 245 = .ok (.bipush 105, 2) := by decide +kernel
theorem dX6_putSmallRoman_247 : decode cX6_putSmallRoman 247 = .ok (.bipush 118, 2) := by decide +kernel
theorem dX6_putSmallRoman_249 : decode cX6_putSmallRoman 249 = .ok (.invokevirtual 226, 3) := by decide +kernel
theorem dX6_putSmallRoman_252 : decode cX6_putSmallRoman 252 = .ok (.iconst 0, 1) := by decide +kernel
theorem dX6_putSmallRoman_253 : decode cX6_putSmallRoman 253 = .ok (.istore_n 2, 1) := by decide +kernel
theorem dX6_putSmallRoman_254 : decode cX6_putSmallRoman 254 = .ok (.goto (-252), 3) := by decide +kernel
theorem dX6_putSmallRoman_257 : decode cX6_putSmallRoman 257 = .ok (.aload_n 0, 1) := by decide +kernel
theorem dX6_putSmallRoman_258 : decode cX6_putSmallRoman 258 = .ok (.bipush 105, 2) := by decide +kernel
theorem dX6_putSmallRoman_260 : decode cX6_putSmallRoman 260 = .ok (.invokevirtual 223, 3) := by decide +kernel
theorem dX6_putSmallRoman_263 : decode cX6_putSmallRoman 263 = .ok (.iload_n 2, 1) := by decide +kernel
theorem dX6_putSmallRoman_264 : decode cX6_putSmallRoman 264 = .ok (.iconst 1, 1) := by decide +kernel
theorem dX6_putSmallRoman_265 : decode cX6_putSmallRoman 265 = .ok (.isub, 1) := by decide +kernel
theorem dX6_putSmallRoman_266 : decode cX6_putSmallRoman 266 = .ok (.istore_n 2, 1) := by decide +kernel
theorem dX6_putSmallRoman_267 : decode cX6_putSmallRoman 267 = .ok (.goto (-265), 3) := by decide +kernel
