theorem dX5_countByRows_40 : decode cX5_countByRows 40 = .ok (.aload_n 0, 1) := by decide +kernel
theorem dX5_countByRows_41 : decode cX5_countByRows 41 = .ok (.aload_n 2, 1) := by decide +kernel
theorem dX5_countByRows_42 : decode cX5_countByRows 42 = .ok (.getfield 238, 3) := by decide +kernel
theorem dX5_countByRows_45 : decode cX5_countByRows 45 = .ok (.invokevirtual 107, 3) := by decide +kernel
theorem dX5_countByRows_48 : decode cX5_countByRows 48 = .ok (.astore_n 3, 1) := by decide +kernel
theorem dX5_countByRows_49 : decode cX5_countByRows 49 = .ok (.aload_n 3, 1) := by decide +kernel
theorem dX5_countByRows_50 : decode cX5_countByRows 50 = .ok (.dup, 1) := by decide +kernel
theorem dX5_countByRows_51 : decode cX5_countByRows 51 = .ok (.getfield 296, 3) := by decide +kernel
theorem dX5_countByRows_54 : decode cX5_countByRows 54 = .ok (.aload_n 2, 1) := by decide +kernel
theorem dX5_countByRows_55 : decode cX5_countByRows 55 = .ok (.getfield 133, 3) := by decide +kernel
theorem dX5_countByRows_58 : decode cX5_countByRows 58 = .ok (.invokevirtual 142, 3) := by decide +kernel
theorem dX5_countByRows_61 : decode cX5_countByRows 61 = .ok (.iadd, 1) := by decide +kernel
theorem dX5_countByRows_62 : decode cX5_countByRows 62 = .ok (.putfield 296, 3) := by decide +kernel
theorem dX5_countByRows_65 : decode cX5_countByRows 65 = .ok (.aload_n 3, 1) := by decide +kernel
theorem dX5_countByRows_66 : decode cX5_countByRows 66 = .ok (.dup, 1) := by decide +kernel
theorem dX5_countByRows_67 : decode cX5_countByRows 67 = .ok (.getfield 299, 3) := by decide +kernel
theorem dX5_countByRows_70 : decode cX5_countByRows 70 = .ok (.aload_n 2, 1) := by decide +kernel
theorem dX5_countByRows_71 : decode cX5_countByRows 71 = .ok (.getfield 152, 3) := by decide +kernel
theorem dX5_countByRows_74 : decode cX5_countByRows 74 = .ok (.invokevirtual 125, 3) := by decide +kernel
theorem dX5_countByRows_77 : decode cX5_countByRows 77 = .ok (.iadd, 1) := by decide +kernel
theorem dX5_countByRows_78 : decode cX5_countByRows 78 = .ok (.putfield 299, 3) := by decide +kernel
theorem dX5_countByRows_81 : decode cX5_countByRows 81 = .ok (.aload_n 0, 1) := by decide +kernel
theorem dX5_countByRows_82 : decode cX5_countByRows 82 = .ok (.aload_n 2, 1) := by decide +kernel
theorem dX5_countByRows_83 : decode cX5_countByRows 83 = .ok (.getfield 251, 3) := by decide +kernel
theorem dX5_countByRows_86 : decode cX5_countByRows 86 = .ok (.invokevirtual 84, 3) := by decide +kernel
theorem dX5_countByRows_89 : decode cX5_countByRows 89 = .ok (.ifCond .eq 24, 3) := by decide +kernel
theorem dX5_countByRows_92 : decode cX5_countByRows 92 = .ok (.aload_n 0, 1) := by decide +kernel
theorem dX5_countByRows_93 : decode cX5_countByRows 93 = .ok (.aload_n 0, 1) := by decide +kernel
theorem dX5_countByRows_94 : decode cX5_countByRows 94 = .ok (.aload_n 2, 1) := by decide +kernel
theorem dX5_countByRows_95 : decode cX5_countByRows 95 = .ok (.getfield 251, 3) := by decide +kernel
theorem dX5_countByRows_98 : decode cX5_countByRows 98 = .ok (.invokevirtual 254, 3) := by decide +kernel
theorem dX5_countByRows_101 : decode cX5_countByRows 101 = .ok (.invokevirtual 107, 3) := by decide +kernel
theorem dX5_countByRows_104 : decode cX5_countByRows 104 = .ok (.dup, 1) := by decide +kernel
theorem dX5_countByRows_105 : decode cX5_countByRows 105 = .ok (.getfield 302, 3) := by decide +kernel
theorem dX5_countByRows_108 : decode cX5_countByRows 108 = .ok (.iconst 1, 1) := by decide +kernel
theorem dX5_countByRows_109 : decode cX5_countByRows 109 = .ok (.iadd, 1) := by decide +kernel
theorem dX5_countByRows_110 : decode cX5_countByRows 110 = .ok (.putfield 302, 3) := by decide +kernel
theorem dX5_countByRows_113 : decode cX5_countByRows 113 = .ok (.iinc 1 1, 3) := by decide +kernel
theorem dX5_countByRows_116 : decode cX5_countByRows 116 = .ok (.goto (-90), 3) := by decide +kernel
theorem dX5_countByRows_119 : decode cX5_countByRows 119 = .ok (.return_, 1) := by decide +kernel
theorem dX5_firstFault_0 : decode cX5_firstFault 0 = .ok (.iconst 0, 1) := by decide +kernel
theorem dX5_firstFault_1 : decode cX5_firstFault 1 = .ok (.istore_n 1, 1) := by decide +kernel
theorem dX5_firstFault_2 : decode cX5_firstFault 2 = .ok (.iconst 0, 1) := by decide +kernel
theorem dX5_firstFault_3 : decode cX5_firstFault 3 = .ok (.istore_n 2, 1) := by decide +kernel
theorem dX5_firstFault_4 : decode cX5_firstFault 4 = .ok (.iload_n 2, 1) := by decide +kernel
theorem dX5_firstFault_5 : decode cX5_firstFault 5 = .ok (.aload_n 0, 1) := by decide +kernel
theorem dX5_firstFault_6 : decode cX5_firstFault 6 = .ok (.getfield 71, 3) := by decide +kernel
theorem dX5_firstFault_9 : decode cX5_firstFault 9 = .ok (.invokevirtual 125, 3) := by decide +kernel
theorem dX5_firstFault_12 : decode cX5_firstFault 12 = .ok (.if_icmp .ge 64, 3) := by decide +kernel
theorem dX5_firstFault_15 : decode cX5_firstFault 15 = .ok (.aload_n 0, 1) := by decide +kernel
theorem dX5_firstFault_16 : decode cX5_firstFault 16 = .ok (.getfield 71, 3) := by decide +kernel
theorem dX5_firstFault_19 : decode cX5_firstFault 19 = .ok (.iload_n 2, 1) := by decide +kernel
theorem dX5_firstFault_20 : decode cX5_firstFault 20 = .ok (.invokevirtual 169, 3) := by decide +kernel
theorem dX5_firstFault_23 : decode cX5_firstFault 23 = .ok (.istore_n 3, 1) := by decide +kernel
theorem dX5_firstFault_24 : decode cX5_firstFault 24 = .ok (.iload_n 3, 1) := by decide +kernel
theorem dX5_firstFault_25 : decode cX5_firstFault 25 = .ok (.bipush 37, 2) := by decide +kernel
theorem dX5_firstFault_27 : decode cX5_firstFault 27 = .ok (.if_icmp .ne 27, 3) := by decide +kernel
theorem dX5_firstFault_30 : decode cX5_firstFault 30 = .ok (.aload_n 0, 1) := by decide +kernel
theorem dX5_firstFault_31 : decode cX5_firstFault 31 = .ok (.getfield 71, 3) := by decide +kernel
theorem dX5_firstFault_34 : decode cX5_firstFault 34 = .ok (.iload_n 2, 1) := by decide +kernel
theorem dX5_firstFault_35 : decode cX5_firstFault 35 = .ok (.iconst 1, 1) := by decide +kernel
theorem dX5_firstFault_36 : decode cX5_firstFault 36 = .ok (.iadd, 1) := by decide +kernel
theorem dX5_firstFault_37 : decode cX5_firstFault 37 = .ok (.invokevirtual 169, 3) := by decide +kernel
theorem dX5_firstFault_40 : decode cX5_firstFault 40 = .ok (.invokestatic 311, 3) := by decide +kernel
theorem dX5_firstFault_43 : decode cX5_firstFault 43 = .ok (.ifCond .ne 5, 3) := by decide +kernel
theorem dX5_firstFault_46 : decode cX5_firstFault 46 = .ok (.iload_n 2, 1) := by decide +kernel
theorem dX5_firstFault_47 : decode cX5_firstFault 47 = .ok (.ireturn, 1) := by decide +kernel
theorem dX5_firstFault_48 : decode cX5_firstFault 48 = .ok (.iinc 2 1, 3) := by decide +kernel
theorem dX5_firstFault_51 : decode cX5_firstFault 51 = .ok (.goto 19, 3) := by decide +kernel
theorem dX5_firstFault_54 : decode cX5_firstFault 54 = .ok (.iload_n 3, 1) := by decide +kernel
theorem dX5_firstFault_55 : decode cX5_firstFault 55 = .ok (.bipush 124, 2) := by decide +kernel
theorem dX5_firstFault_57 : decode cX5_firstFault 57 = .ok (.if_icmp .ne 13, 3) := by decide +kernel
theorem dX5_firstFault_60 : decode cX5_firstFault 60 = .ok (.iinc 1 1, 3) := by decide +kernel
theorem dX5_firstFault_63 : decode cX5_firstFault 63 = .ok (.iload_n 1, 1) := by decide +kernel
theorem dX5_firstFault_64 : decode cX5_firstFault 64 = .ok (.iconst 3, 1) := by decide +kernel
theorem dX5_firstFault_65 : decode cX5_firstFault 65 = .ok (.if_icmp .le 5, 3) := by decide +kernel
theorem dX5_firstFault_68 : decode cX5_firstFault 68 = .ok (.iload_n 2, 1) := by decide +kernel
theorem dX5_firstFault_69 : decode cX5_firstFault 69 = .ok (.ireturn, 1) := by decide +kernel
theorem dX5_firstFault_70 : decode cX5_firstFault 70 = .ok (.iinc 2 1, 3) := by decide +kernel
theorem dX5_firstFault_73 : decode cX5_firstFault 73 = .ok (.goto (-69), 3) := by decide +kernel
theorem dX5_firstFault_76 : decode cX5_firstFault 76 = .ok (.iload_n 1, 1) := by decide +kernel
theorem dX5_firstFault_77 : decode cX5_firstFault 77 = .ok (.iconst 3, 1) := by decide +kernel
theorem dX5_firstFault_78 : decode cX5_firstFault 78 = .ok (.if_icmp .ge 13, 3) := by decide +kernel
theorem dX5_firstFault_81 : decode cX5_firstFault 81 = .ok (.aload_n 0, 1) := by decide +kernel
theorem dX5_firstFault_82 : decode cX5_firstFault 82 = .ok (.getfield 71, 3) := by decide +kernel
theorem dX5_firstFault_85 : decode cX5_firstFault 85 = .ok (.invokevirtual 125, 3) := by decide +kernel
theorem dX5_firstFault_88 : decode cX5_firstFault 88 = .ok (.goto 4, 3) := by decide +kernel
theorem dX5_firstFault_91 : decode cX5_firstFault 91 = .ok (.iconst (-1), 1) := by decide +kernel
theorem dX5_firstFault_92 : decode cX5_firstFault 92 = .ok (.ireturn, 1) := by decide +kernel
theorem dX6_init_0 : decode cX6_init 0 = .ok (.aload_n 0, 1) := by decide +kernel
theorem dX6_init_1 : decode cX6_init 1 = .ok (.invokespecial 1, 3) := by decide +kernel
theorem dX6_init_4 : decode cX6_init 4 = .ok (.aload_n 0, 1) := by decide +kernel
theorem dX6_init_5 : decode cX6_init 5 = .ok (.bipush 80, 2) := by decide +kernel
theorem dX6_init_7 : decode cX6_init 7 = .ok (.newarray .int, 2) := by decide +kernel
theorem dX6_init_9 : decode cX6_init 9 = .ok (.putfield 7, 3) := by decide +kernel
theorem dX6_init_12 : decode cX6_init 12 = .ok (.aload_n 0, 1) := by decide +kernel
theorem dX6_init_13 : decode cX6_init 13 = .ok (.bipush 80, 2) := by decide +kernel
theorem dX6_init_15 : decode cX6_init 15 = .ok (.newarray .int, 2) := by decide +kernel
theorem dX6_init_17 : decode cX6_init 17 = .ok (.putfield 13, 3) := by decide +kernel
theorem dX6_init_20 : decode cX6_init 20 = .ok (.aload_n 0, 1) := by decide +kernel
theorem dX6_init_21 : decode cX6_init 21 = .ok (.sipush 1600, 3) := by decide +kernel
theorem dX6_init_24 : decode cX6_init 24 = .ok (.newarray .int, 2) := by decide +kernel
theorem dX6_init_26 : decode cX6_init 26 = .ok (.putfield 16, 3) := by decide +kernel
theorem dX6_init_29 : decode cX6_init 29 = .ok (.aload_n 0, 1) := by decide +kernel
theorem dX6_init_30 : decode cX6_init 30 = .ok (.bipush 80, 2) := by decide +kernel
theorem dX6_init_32 : decode cX6_init 32 = .ok (.newarray .int, 2) := by decide +kernel
theorem dX6_init_34 : decode cX6_init 34 = .ok (.putfield 19, 3) := by decide +kernel
theorem dX6_init_37 : decode cX6_init 37 = .ok (.aload_n 0, 1) := by decide +kernel
theorem dX6_init_38 : decode cX6_init 38 = .ok (.sipush 1600, 3) := by decide +kernel
theorem dX6_init_41 : decode cX6_init 41 = .ok (.newarray .int, 2) := by decide +kernel
theorem dX6_init_43 : decode cX6_init 43 = .ok (.putfield 22, 3) := by decide +kernel
theorem dX6_init_46 : decode cX6_init 46 = .ok (.aload_n 0, 1) := by decide +kernel
theorem dX6_init_47 : decode cX6_init 47 = .ok (.sipush 1600, 3) := by decide +kernel
theorem dX6_init_50 : decode cX6_init 50 = .ok (.newarray .int, 2) := by decide +kernel
theorem dX6_init_52 : decode cX6_init 52 = .ok (.putfield 25, 3) := by decide +kernel
theorem dX6_init_55 : decode cX6_init 55 = .ok (.aload_n 0, 1) := by decide +kernel
theorem dX6_init_56 : decode cX6_init 56 = .ok (.sipush 1600, 3) := by decide +kernel
theorem dX6_init_59 : decode cX6_init 59 = .ok (.newarray .int, 2) := by decide +kernel
theorem dX6_init_61 : decode cX6_init 61 = .ok (.putfield 28, 3) := by decide +kernel
theorem dX6_init_64 : decode cX6_init 64 = .ok (.aload_n 0, 1) := by decide +kernel
theorem dX6_init_65 : decode cX6_init 65 = .ok (.sipush 1600, 3) := by decide +kernel
theorem dX6_init_68 : decode cX6_init 68 = .ok (.newarray .boolean, 2) := by decide +kernel
theorem dX6_init_70 : decode cX6_init 70 = .ok (.putfield 31, 3) := by decide +kernel
theorem dX6_init_73 : decode cX6_init 73 = .ok (.aload_n 0, 1) := by decide +kernel
theorem dX6_init_74 : decode cX6_init 74 = .ok (.bipush 80, 2) := by decide +kernel
theorem dX6_init_76 : decode cX6_init 76 = .ok (.newarray .int, 2) := by decide +kernel
theorem dX6_init_78 : decode cX6_init 78 = .ok (.putfield 35, 3) := by decide +kernel
theorem dX6_init_81 : decode cX6_init 81 = .ok (.aload_n 0, 1) := by decide +kernel
theorem dX6_init_82 : decode cX6_init 82 = .ok (.bipush 80, 2) := by decide +kernel
theorem dX6_init_84 : decode cX6_init 84 = .ok (.newarray .int, 2) := by decide +kernel
theorem dX6_init_86 : decode cX6_init 86 = .ok (.putfield 38, 3) := by decide +kernel
theorem dX6_init_89 : decode cX6_init 89 = .ok (.aload_n 0, 1) := by decide +kernel
theorem dX6_init_90 : decode cX6_init 90 = .ok (.sipush 400, 3) := by decide +kernel
theorem dX6_init_93 : decode cX6_init 93 = .ok (.newarray .int, 2) := by decide +kernel
theorem dX6_init_95 : decode cX6_init 95 = .ok (.putfield 41, 3) := by decide +kernel
theorem dX6_init_98 : decode cX6_init 98 = .ok (.aload_n 0, 1) := by decide +kernel
theorem dX6_init_99 : decode cX6_init 99 = .ok (.bipush 80, 2) := by decide +kernel
theorem dX6_init_101 : decode cX6_init 101 = .ok (.newarray .int, 2) := by decide +kernel
theorem dX6_init_103 : decode cX6_init 103 = .ok (.putfield 44, 3) := by decide +kernel
theorem dX6_init_106 : decode cX6_init 106 = .ok (.aload_n 0, 1) := by decide +kernel
theorem dX6_init_107 : decode cX6_init 107 = .ok (.iconst 1, 1) := by decide +kernel
theorem dX6_init_108 : decode cX6_init 108 = .ok (.putfield 47, 3) := by decide +kernel
theorem dX6_init_111 : decode cX6_init 111 = .ok (.aload_n 0, 1) := by decide +kernel
theorem dX6_init_112 : decode cX6_init 112 = .ok (.iconst 1, 1) := by decide +kernel
theorem dX6_init_113 : decode cX6_init 113 = .ok (.putfield 51, 3) := by decide +kernel
theorem dX6_init_116 : decode cX6_init 116 = .ok (.aload_n 0, 1) := by decide +kernel
theorem dX6_init_117 : decode cX6_init 117 = .ok (.bipush 80, 2) := by decide +kernel
theorem dX6_init_119 : decode cX6_init 119 = .ok (.newarray .int, 2) := by decide +kernel
theorem dX6_init_121 : decode cX6_init 121 = .ok (.putfield 54, 3) := by decide +kernel
theorem dX6_init_124 : decode cX6_init 124 = .ok (.aload_n 0, 1) := by decide +kernel
theorem dX6_init_125 : decode cX6_init 125 = .ok (.bipush 80, 2) := by decide +kernel
theorem dX6_init_127 : decode cX6_init 127 = .ok (.newarray .int, 2) := by decide +kernel
theorem dX6_init_129 : decode cX6_init 129 = .ok (.putfield 57, 3) := by decide +kernel
theorem dX6_init_132 : decode cX6_init 132 = .ok (.aload_n 0, 1) := by decide +kernel
theorem dX6_init_133 : decode cX6_init 133 = .ok (.iconst 2, 1) := by decide +kernel
theorem dX6_init_134 : decode cX6_init 134 = .ok (.newarray .int, 2) := by decide +kernel
theorem dX6_init_136 : decode cX6_init 136 = .ok (.putfield 60, 3) := by decide +kernel
theorem dX6_init_139 : decode cX6_init 139 = .ok (.aload_n 0, 1) := by decide +kernel
theorem dX6_init_140 : decode cX6_init 140 = .ok (.iconst 2, 1) := by decide +kernel
theorem dX6_init_141 : decode cX6_init 141 = .ok (.newarray .boolean, 2) := by decide +kernel
theorem dX6_init_143 : decode cX6_init 143 = .ok (.putfield 63, 3) := by decide +kernel
theorem dX6_init_146 : decode cX6_init 146 = .ok (.aload_n 0, 1) := by decide +kernel
theorem dX6_init_147 : decode cX6_init 147 = .ok (.iconst 2, 1) := by decide +kernel
theorem dX6_init_148 : decode cX6_init 148 = .ok (.newarray .int, 2) := by decide +kernel
theorem dX6_init_150 : decode cX6_init 150 = .ok (.putfield 66, 3) := by decide +kernel
theorem dX6_init_153 : decode cX6_init 153 = .ok (.aload_n 0, 1) := by decide +kernel
theorem dX6_init_154 : decode cX6_init 154 = .ok (.iconst 2, 1) := by decide +kernel
theorem dX6_init_155 : decode cX6_init 155 = .ok (.newarray .int, 2) := by decide +kernel
theorem dX6_init_157 : decode cX6_init 157 = .ok (.putfield 69, 3) := by decide +kernel
theorem dX6_init_160 : decode cX6_init 160 = .ok (.aload_n 0, 1) := by decide +kernel
theorem dX6_init_161 : decode cX6_init 161 = .ok (.iconst 2, 1) := by decide +kernel
theorem dX6_init_162 : decode cX6_init 162 = .ok (.newarray .int, 2) := by decide +kernel
theorem dX6_init_164 : decode cX6_init 164 = .ok (.putfield 72, 3) := by decide +kernel
theorem dX6_init_167 : decode cX6_init 167 = .ok (.aload_n 0, 1) := by decide +kernel
theorem dX6_init_168 : decode cX6_init 168 = .ok (.sipush 1700, 3) := by decide +kernel
theorem dX6_init_171 : decode cX6_init 171 = .ok (.newarray .int, 2) := by decide +kernel
theorem dX6_init_173 : decode cX6_init 173 = .ok (.putfield 75, 3) := by decide +kernel
theorem dX6_init_176 : decode cX6_init 176 = .ok (.aload_n 0, 1) := by decide +kernel
theorem dX6_init_177 : decode cX6_init 177 = .ok (.sipush 1700, 3) := by decide +kernel
theorem dX6_init_180 : decode cX6_init 180 = .ok (.newarray .int, 2) := by decide +kernel
theorem dX6_init_182 : decode cX6_init 182 = .ok (.putfield 78, 3) := by decide +kernel
theorem dX6_init_185 : decode cX6_init 185 = .ok (.aload_n 0, 1) := by decide +kernel
theorem dX6_init_186 : decode cX6_init 186 = .ok (.sipush 1700, 3) := by decide +kernel
theorem dX6_init_189 : decode cX6_init 189 = .ok (.newarray .int, 2) := by decide +kernel
theorem dX6_init_191 : decode cX6_init 191 = .ok (.putfield 81, 3) := by decide +kernel
theorem dX6_init_194 : decode cX6_init 194 = .ok (.aload_n 0, 1) := by decide +kernel
theorem dX6_init_195 : decode cX6_init 195 = .ok (.sipush 1700, 3) := by decide +kernel
theorem dX6_init_198 : decode cX6_init 198 = .ok (.newarray .boolean, 2) := by decide +kernel
theorem dX6_init_200 : decode cX6_init 200 = .ok (.putfield 84, 3) := by decide +kernel
theorem dX6_init_203 : decode cX6_init 203 = .ok (.aload_n 0, 1) := by decide +kernel
theorem dX6_init_204 : decode cX6_init 204 = .ok (.bipush 80, 2) := by decide +kernel
theorem dX6_init_206 : decode cX6_init 206 = .ok (.newarray .int, 2) := by decide +kernel
theorem dX6_init_208 : decode cX6_init 208 = .ok (.putfield 87, 3) := by decide +kernel
theorem dX6_init_211 : decode cX6_init 211 = .ok (.aload_n 0, 1) := by decide +kernel
theorem dX6_init_212 : decode cX6_init 212 = .ok (.bipush 80, 2) := by decide +kernel
theorem dX6_init_214 : decode cX6_init 214 = .ok (.newarray .int, 2) := by decide +kernel
theorem dX6_init_216 : decode cX6_init 216 = .ok (.putfield 90, 3) := by decide +kernel
theorem dX6_init_219 : decode cX6_init 219 = .ok (.aload_n 0, 1) := by decide +kernel
theorem dX6_init_220 : decode cX6_init 220 = .ok (.iconst 4, 1) := by decide +kernel
theorem dX6_init_221 : decode cX6_init 221 = .ok (.newarray .int, 2) := by decide +kernel
theorem dX6_init_223 : decode cX6_init 223 = .ok (.putfield 93, 3) := by decide +kernel
theorem dX6_init_226 : decode cX6_init 226 = .ok (.aload_n 0, 1) := by decide +kernel
theorem dX6_init_227 : decode cX6_init 227 = .ok (.sipush 6000, 3) := by decide +kernel
theorem dX6_init_230 : decode cX6_init 230 = .ok (.newarray .byte, 2) := by decide +kernel
theorem dX6_init_232 : decode cX6_init 232 = .ok (.putfield 96, 3) := by decide +kernel
theorem dX6_init_235 : decode cX6_init 235 = .ok (.aload_n 0, 1) := by decide +kernel
theorem dX6_init_236 : decode cX6_init 236 = .ok (.sipush 6000, 3) := by decide +kernel
theorem dX6_init_239 : decode cX6_init 239 = .ok (.newarray .byte, 2) := by decide +kernel
theorem dX6_init_241 : decode cX6_init 241 = .ok (.putfield 100, 3) := by decide +kernel
theorem dX6_init_244 : decode cX6_init 244 = .ok (.aload_n 0, 1) := by decide +kernel
theorem dX6_init_245 : decode cX6_init 245 = .ok (.iconst 0, 1) := by decide +kernel
theorem dX6_init_246 : decode cX6_init 246 = .ok (.putfield 103, 3) := by decide +kernel
theorem dX6_init_249 : decode cX6_init 249 = .ok (.return_, 1) := by decide +kernel
theorem dX6_thrown_0 : decode cX6_thrown 0 = .ok (.aload_n 0, 1) := by decide +kernel
theorem dX6_thrown_1 : decode cX6_thrown 1 = .ok (.getfield 107, 3) := by decide +kernel
theorem dX6_thrown_4 : decode cX6_thrown 4 = .ok (.ireturn, 1) := by decide +kernel
theorem dX6_refused_0 : decode cX6_refused 0 = .ok (.aload_n 0, 1) := by decide +kernel
theorem dX6_refused_1 : decode cX6_refused 1 = .ok (.iload_n 1, 1) := by decide +kernel
theorem dX6_refused_2 : decode cX6_refused 2 = .ok (.ifCond .eq 7, 3) := by decide +kernel
theorem dX6_refused_5 : decode cX6_refused 5 = .ok (.iconst 1, 1) := by decide +kernel
theorem dX6_refused_6 : decode cX6_refused 6 = .ok (.goto 20, 3) := by decide +kernel
theorem dX6_refused_9 : decode cX6_refused 9 = .ok (.iload_n 2, 1) := by decide +kernel
theorem dX6_refused_10 : decode cX6_refused 10 = .ok (.ifCond .eq 7, 3) := by decide +kernel
theorem dX6_refused_13 : decode cX6_refused 13 = .ok (.iconst 2, 1) := by decide +kernel
theorem dX6_refused_14 : decode cX6_refused 14 = .ok (.goto 12, 3) := by decide +kernel
theorem dX6_refused_17 : decode cX6_refused 17 = .ok (.iload_n 3, 1) := by decide +kernel
theorem dX6_refused_18 : decode cX6_refused 18 = .ok (.ifCond .eq 7, 3) := by decide +kernel
theorem dX6_refused_21 : decode cX6_refused 21 = .ok (.iconst 3, 1) := by decide +kernel
theorem dX6_refused_22 : decode cX6_refused 22 = .ok (.goto 4, 3) := by decide +kernel
theorem dX6_refused_25 : decode cX6_refused 25 = .ok (.iconst 0, 1) := by decide +kernel
theorem dX6_refused_26 : decode cX6_refused 26 = .ok (.putfield 107, 3) := by decide +kernel
theorem dX6_refused_29 : decode cX6_refused 29 = .ok (.aload_n 0, 1) := by decide +kernel
theorem dX6_refused_30 : decode cX6_refused 30 = .ok (.getfield 107, 3) := by decide +kernel
theorem dX6_refused_33 : decode cX6_refused 33 = .ok (.ifCond .le 7, 3) := by decide +kernel
theorem dX6_refused_36 : decode cX6_refused 36 = .ok (.iconst 1, 1) := by decide +kernel
theorem dX6_refused_37 : decode cX6_refused 37 = .ok (.goto 4, 3) := by decide +kernel
theorem dX6_refused_40 : decode cX6_refused 40 = .ok (.iconst 0, 1) := by decide +kernel
theorem dX6_refused_41 : decode cX6_refused 41 = .ok (.ireturn, 1) := by decide +kernel
theorem dX6_isNone_0 : decode cX6_isNone 0 = .ok (.iload_n 1, 1) := by decide +kernel
theorem dX6_isNone_1 : decode cX6_isNone 1 = .ok (.ifCond .lt 11, 3) := by decide +kernel
theorem dX6_isNone_4 : decode cX6_isNone 4 = .ok (.iload_n 1, 1) := by decide +kernel
theorem dX6_isNone_5 : decode cX6_isNone 5 = .ok (.aload_n 0, 1) := by decide +kernel
theorem dX6_isNone_6 : decode cX6_isNone 6 = .ok (.getfield 103, 3) := by decide +kernel
theorem dX6_isNone_9 : decode cX6_isNone 9 = .ok (.if_icmp .lt 7, 3) := by decide +kernel
theorem dX6_isNone_12 : decode cX6_isNone 12 = .ok (.iconst 1, 1) := by decide +kernel
theorem dX6_isNone_13 : decode cX6_isNone 13 = .ok (.goto 4, 3) := by decide +kernel
theorem dX6_isNone_16 : decode cX6_isNone 16 = .ok (.iconst 0, 1) := by decide +kernel
theorem dX6_isNone_17 : decode cX6_isNone 17 = .ok (.ireturn, 1) := by decide +kernel
theorem dX6_most_0 : decode cX6_most 0 = .ok (.iload_n 0, 1) := by decide +kernel
theorem dX6_most_1 : decode cX6_most 1 = .ok (.ifCond .ne 9, 3) := by decide +kernel
theorem dX6_most_4 : decode cX6_most 4 = .ok (.sipush 3999, 3) := by decide +kernel
theorem dX6_most_7 : decode cX6_most 7 = .ok (.goto 25, 3) := by decide +kernel
theorem dX6_most_10 : decode cX6_most 10 = .ok (.iload_n 0, 1) := by decide +kernel
theorem dX6_most_11 : decode cX6_most 11 = .ok (.iconst 1, 1) := by decide +kernel
theorem dX6_most_12 : decode cX6_most 12 = .ok (.if_icmp .ne 8, 3) := by decide +kernel
theorem dX6_most_15 : decode cX6_most 15 = .ok (.ldc 110, 2) := by decide +kernel
theorem dX6_most_17 : decode cX6_most 17 = .ok (.goto 15, 3) := by decide +kernel
theorem dX6_most_20 : decode cX6_most 20 = .ok (.iload_n 0, 1) := by decide +kernel
theorem dX6_most_21 : decode cX6_most 21 = .ok (.iconst 2, 1) := by decide +kernel
theorem dX6_most_22 : decode cX6_most 22 = .ok (.if_icmp .ne 9, 3) := by decide +kernel
theorem dX6_most_25 : decode cX6_most 25 = .ok (.sipush 702, 3) := by decide +kernel
theorem dX6_most_28 : decode cX6_most 28 = .ok (.goto 4, 3) := by decide +kernel
theorem dX6_most_31 : decode cX6_most 31 = .ok (.iconst 0, 1) := by decide +kernel
theorem dX6_most_32 : decode cX6_most 32 = .ok (.ireturn, 1) := by decide +kernel
theorem dX6_entry_0 : decode cX6_entry 0 = .ok (.iload_n 1, 1) := by decide +kernel
theorem dX6_entry_1 : decode cX6_entry 1 = .ok (.ifCond .ne 8, 3) := by decide +kernel
theorem dX6_entry_4 : decode cX6_entry 4 = .ok (.iload_n 2, 1) := by decide +kernel
theorem dX6_entry_5 : decode cX6_entry 5 = .ok (.iconst (-1), 1) := by decide +kernel
theorem dX6_entry_6 : decode cX6_entry 6 = .ok (.if_icmp .eq 33, 3) := by decide +kernel
theorem dX6_entry_9 : decode cX6_entry 9 = .ok (.iload_n 1, 1) := by decide +kernel
theorem dX6_entry_10 : decode cX6_entry 10 = .ok (.iconst 1, 1) := by decide +kernel
theorem dX6_entry_11 : decode cX6_entry 11 = .ok (.if_icmp .eq 8, 3) := by decide +kernel
theorem dX6_entry_14 : decode cX6_entry 14 = .ok (.iload_n 1, 1) := by decide +kernel
theorem dX6_entry_15 : decode cX6_entry 15 = .ok (.iconst 2, 1) := by decide +kernel
theorem dX6_entry_16 : decode cX6_entry 16 = .ok (.if_icmp .ne 27, 3) := by decide +kernel
theorem dX6_entry_19 : decode cX6_entry 19 = .ok (.aload_n 0, 1) := by decide +kernel
theorem dX6_entry_20 : decode cX6_entry 20 = .ok (.iload_n 2, 1) := by decide +kernel
theorem dX6_entry_21 : decode cX6_entry 21 = .ok (.invokevirtual 111, 3) := by decide +kernel
theorem dX6_entry_24 : decode cX6_entry 24 = .ok (.ifCond .ne 19, 3) := by decide +kernel
theorem dX6_entry_27 : decode cX6_entry 27 = .ok (.aload_n 0, 1) := by decide +kernel
theorem dX6_entry_28 : decode cX6_entry 28 = .ok (.getfield 7, 3) := by decide +kernel
theorem dX6_entry_31 : decode cX6_entry 31 = .ok (.iload_n 2, 1) := by decide +kernel
theorem dX6_entry_32 : decode cX6_entry 32 = .ok (.iaload, 1) := by decide +kernel
theorem dX6_entry_33 : decode cX6_entry 33 = .ok (.iload_n 1, 1) := by decide +kernel
theorem dX6_entry_34 : decode cX6_entry 34 = .ok (.iconst 1, 1) := by decide +kernel
theorem dX6_entry_35 : decode cX6_entry 35 = .ok (.isub, 1) := by decide +kernel
theorem dX6_entry_36 : decode cX6_entry 36 = .ok (.if_icmp .ne 7, 3) := by decide +kernel
theorem dX6_entry_39 : decode cX6_entry 39 = .ok (.iconst 1, 1) := by decide +kernel
theorem dX6_entry_40 : decode cX6_entry 40 = .ok (.goto 4, 3) := by decide +kernel
theorem dX6_entry_43 : decode cX6_entry 43 = .ok (.iconst 0, 1) := by decide +kernel
theorem dX6_entry_44 : decode cX6_entry 44 = .ok (.istore_n 3, 1) := by decide +kernel
theorem dX6_entry_45 : decode cX6_entry 45 = .ok (.aload_n 0, 1) := by decide +kernel
theorem dX6_entry_46 : decode cX6_entry 46 = .ok (.iload_n 2, 1) := by decide +kernel
theorem dX6_entry_47 : decode cX6_entry 47 = .ok (.iconst (-1), 1) := by decide +kernel
theorem dX6_entry_48 : decode cX6_entry 48 = .ok (.if_icmp .eq 15, 3) := by decide +kernel
theorem dX6_entry_51 : decode cX6_entry 51 = .ok (.aload_n 0, 1) := by decide +kernel
theorem dX6_entry_52 : decode cX6_entry 52 = .ok (.iload_n 2, 1) := by decide +kernel
theorem dX6_entry_53 : decode cX6_entry 53 = .ok (.invokevirtual 111, 3) := by decide +kernel
theorem dX6_entry_56 : decode cX6_entry 56 = .ok (.ifCond .eq 7, 3) := by decide +kernel
theorem dX6_entry_59 : decode cX6_entry 59 = .ok (.iconst 1, 1) := by decide +kernel
theorem dX6_entry_60 : decode cX6_entry 60 = .ok (.goto 4, 3) := by decide +kernel
theorem dX6_entry_63 : decode cX6_entry 63 = .ok (.iconst 0, 1) := by decide +kernel
theorem dX6_entry_64 : decode cX6_entry 64 = .ok (.iload_n 3, 1) := by decide +kernel
theorem dX6_entry_65 : decode cX6_entry 65 = .ok (.ifCond .ne 7, 3) := by decide +kernel
theorem dX6_entry_68 : decode cX6_entry 68 = .ok (.iconst 1, 1) := by decide +kernel
theorem dX6_entry_69 : decode cX6_entry 69 = .ok (.goto 4, 3) := by decide +kernel
theorem dX6_entry_72 : decode cX6_entry 72 = .ok (.iconst 0, 1) := by decide +kernel
theorem dX6_entry_73 : decode cX6_entry 73 = .ok (.aload_n 0, 1) := by decide +kernel
theorem dX6_entry_74 : decode cX6_entry 74 = .ok (.getfield 103, 3) := by decide +kernel
theorem dX6_entry_77 : decode cX6_entry 77 = .ok (.bipush 80, 2) := by decide +kernel
theorem dX6_entry_79 : decode cX6_entry 79 = .ok (.if_icmp .ne 7, 3) := by decide +kernel
theorem dX6_entry_82 : decode cX6_entry 82 = .ok (.iconst 1, 1) := by decide +kernel
theorem dX6_entry_83 : decode cX6_entry 83 = .ok (.goto 4, 3) := by decide +kernel
theorem dX6_entry_86 : decode cX6_entry 86 = .ok (.iconst 0, 1) := by decide +kernel
theorem dX6_entry_87 : decode cX6_entry 87 = .ok (.invokevirtual 115, 3) := by decide +kernel
theorem dX6_entry_90 : decode cX6_entry 90 = .ok (.ifCond .eq 5, 3) := by decide +kernel
theorem dX6_entry_93 : decode cX6_entry 93 = .ok (.iconst 0, 1) := by decide +kernel
theorem dX6_entry_94 : decode cX6_entry 94 = .ok (.ireturn, 1) := by decide +kernel
theorem dX6_entry_95 : decode cX6_entry 95 = .ok (.aload_n 0, 1) := by decide +kernel
theorem dX6_entry_96 : decode cX6_entry 96 = .ok (.getfield 7, 3) := by decide +kernel
theorem dX6_entry_99 : decode cX6_entry 99 = .ok (.aload_n 0, 1) := by decide +kernel
theorem dX6_entry_100 : decode cX6_entry 100 = .ok (.getfield 103, 3) := by decide +kernel
theorem dX6_entry_103 : decode cX6_entry 103 = .ok (.iload_n 1, 1) := by decide +kernel
theorem dX6_entry_104 : decode cX6_entry 104 = .ok (.iastore, 1) := by decide +kernel
theorem dX6_entry_105 : decode cX6_entry 105 = .ok (.aload_n 0, 1) := by decide +kernel
theorem dX6_entry_106 : decode cX6_entry 106 = .ok (.getfield 13, 3) := by decide +kernel
theorem dX6_entry_109 : decode cX6_entry 109 = .ok (.aload_n 0, 1) := by decide +kernel
theorem dX6_entry_110 : decode cX6_entry 110 = .ok (.getfield 103, 3) := by decide +kernel
theorem dX6_entry_113 : decode cX6_entry 113 = .ok (.iload_n 2, 1) := by decide +kernel
theorem dX6_entry_114 : decode cX6_entry 114 = .ok (.iastore, 1) := by decide +kernel
theorem dX6_entry_115 : decode cX6_entry 115 = .ok (.aload_n 0, 1) := by decide +kernel
theorem dX6_entry_116 : decode cX6_entry 116 = .ok (.iconst 0, 1) := by decide +kernel
theorem dX6_entry_117 : decode cX6_entry 117 = .ok (.putfield 119, 3) := by decide +kernel
theorem dX6_entry_120 : decode cX6_entry 120 = .ok (.aload_n 0, 1) := by decide +kernel
theorem dX6_entry_121 : decode cX6_entry 121 = .ok (.dup, 1) := by decide +kernel
theorem dX6_entry_122 : decode cX6_entry 122 = .ok (.getfield 103, 3) := by decide +kernel
theorem dX6_entry_125 : decode cX6_entry 125 = .ok (.iconst 1, 1) := by decide +kernel
theorem dX6_entry_126 : decode cX6_entry 126 = .ok (.iadd, 1) := by decide +kernel
theorem dX6_entry_127 : decode cX6_entry 127 = .ok (.putfield 103, 3) := by decide +kernel
theorem dX6_entry_130 : decode cX6_entry 130 = .ok (.aload_n 0, 1) := by decide +kernel
theorem dX6_entry_131 : decode cX6_entry 131 = .ok (.getfield 103, 3) := by decide +kernel
theorem dX6_entry_134 : decode cX6_entry 134 = .ok (.iconst 1, 1) := by decide +kernel
theorem dX6_entry_135 : decode cX6_entry 135 = .ok (.isub, 1) := by decide +kernel
theorem dX6_entry_136 : decode cX6_entry 136 = .ok (.ireturn, 1) := by decide +kernel
theorem dX6_sign_0 : decode cX6_sign 0 = .ok (.aload_n 0, 1) := by decide +kernel
theorem dX6_sign_1 : decode cX6_sign 1 = .ok (.aload_n 0, 1) := by decide +kernel
theorem dX6_sign_2 : decode cX6_sign 2 = .ok (.iload_n 1, 1) := by decide +kernel
theorem dX6_sign_3 : decode cX6_sign 3 = .ok (.invokevirtual 111, 3) := by decide +kernel
theorem dX6_sign_6 : decode cX6_sign 6 = .ok (.iload_n 2, 1) := by decide +kernel
theorem dX6_sign_7 : decode cX6_sign 7 = .ok (.ifCond .lt 10, 3) := by decide +kernel
theorem dX6_sign_10 : decode cX6_sign 10 = .ok (.iload_n 2, 1) := by decide +kernel
theorem dX6_sign_11 : decode cX6_sign 11 = .ok (.sipush 255, 3) := by decide +kernel
theorem dX6_sign_14 : decode cX6_sign 14 = .ok (.if_icmp .le 7, 3) := by decide +kernel
theorem dX6_sign_17 : decode cX6_sign 17 = .ok (.iconst 1, 1) := by decide +kernel
theorem dX6_sign_18 : decode cX6_sign 18 = .ok (.goto 4, 3) := by decide +kernel
theorem dX6_sign_21 : decode cX6_sign 21 = .ok (.iconst 0, 1) := by decide +kernel
theorem dX6_sign_22 : decode cX6_sign 22 = .ok (.aload_n 0, 1) := by decide +kernel
theorem dX6_sign_23 : decode cX6_sign 23 = .ok (.iload_n 1, 1) := by decide +kernel
theorem dX6_sign_24 : decode cX6_sign 24 = .ok (.invokevirtual 111, 3) := by decide +kernel
theorem dX6_sign_27 : decode cX6_sign 27 = .ok (.ifCond .ne 18, 3) := by decide +kernel
theorem dX6_sign_30 : decode cX6_sign 30 = .ok (.aload_n 0, 1) := by decide +kernel
theorem dX6_sign_31 : decode cX6_sign 31 = .ok (.getfield 19, 3) := by decide +kernel
theorem dX6_sign_34 : decode cX6_sign 34 = .ok (.iload_n 1, 1) := by decide +kernel
theorem dX6_sign_35 : decode cX6_sign 35 = .ok (.iaload, 1) := by decide +kernel
theorem dX6_sign_36 : decode cX6_sign 36 = .ok (.bipush 20, 2) := by decide +kernel
theorem dX6_sign_38 : decode cX6_sign 38 = .ok (.if_icmp .ne 7, 3) := by decide +kernel
theorem dX6_sign_41 : decode cX6_sign 41 = .ok (.iconst 1, 1) := by decide +kernel
theorem dX6_sign_42 : decode cX6_sign 42 = .ok (.goto 4, 3) := by decide +kernel
theorem dX6_sign_45 : decode cX6_sign 45 = .ok (.iconst 0, 1) := by decide +kernel
theorem dX6_sign_46 : decode cX6_sign 46 = .ok (.invokevirtual 115, 3) := by decide +kernel
theorem dX6_sign_49 : decode cX6_sign 49 = .ok (.ifCond .eq 5, 3) := by decide +kernel
theorem dX6_sign_52 : decode cX6_sign 52 = .ok (.iconst 0, 1) := by decide +kernel
theorem dX6_sign_53 : decode cX6_sign 53 = .ok (.ireturn, 1) := by decide +kernel
theorem dX6_sign_54 : decode cX6_sign 54 = .ok (.aload_n 0, 1) := by decide +kernel
theorem dX6_sign_55 : decode cX6_sign 55 = .ok (.getfield 16, 3) := by decide +kernel
theorem dX6_sign_58 : decode cX6_sign 58 = .ok (.bipush 20, 2) := by decide +kernel
theorem dX6_sign_60 : decode cX6_sign 60 = .ok (.iload_n 1, 1) := by decide +kernel
theorem dX6_sign_61 : decode cX6_sign 61 = .ok (.imul, 1) := by decide +kernel
theorem dX6_sign_62 : decode cX6_sign 62 = .ok (.aload_n 0, 1) := by decide +kernel
theorem dX6_sign_63 : decode cX6_sign 63 = .ok (.getfield 19, 3) := by decide +kernel
theorem dX6_sign_66 : decode cX6_sign 66 = .ok (.iload_n 1, 1) := by decide +kernel
theorem dX6_sign_67 : decode cX6_sign 67 = .ok (.iaload, 1) := by decide +kernel
theorem dX6_sign_68 : decode cX6_sign 68 = .ok (.iadd, 1) := by decide +kernel
theorem dX6_sign_69 : decode cX6_sign 69 = .ok (.iload_n 2, 1) := by decide +kernel
theorem dX6_sign_70 : decode cX6_sign 70 = .ok (.iastore, 1) := by decide +kernel
theorem dX6_sign_71 : decode cX6_sign 71 = .ok (.aload_n 0, 1) := by decide +kernel
theorem dX6_sign_72 : decode cX6_sign 72 = .ok (.getfield 19, 3) := by decide +kernel
theorem dX6_sign_75 : decode cX6_sign 75 = .ok (.iload_n 1, 1) := by decide +kernel
theorem dX6_sign_76 : decode cX6_sign 76 = .ok (.dup2, 1) := by decide +kernel
theorem dX6_sign_77 : decode cX6_sign 77 = .ok (.iaload, 1) := by decide +kernel
theorem dX6_sign_78 : decode cX6_sign 78 = .ok (.iconst 1, 1) := by decide +kernel
theorem dX6_sign_79 : decode cX6_sign 79 = .ok (.iadd, 1) := by decide +kernel
theorem dX6_sign_80 : decode cX6_sign 80 = .ok (.iastore, 1) := by decide +kernel
theorem dX6_sign_81 : decode cX6_sign 81 = .ok (.aload_n 0, 1) := by decide +kernel
theorem dX6_sign_82 : decode cX6_sign 82 = .ok (.iconst 0, 1) := by decide +kernel
theorem dX6_sign_83 : decode cX6_sign 83 = .ok (.putfield 119, 3) := by decide +kernel
theorem dX6_sign_86 : decode cX6_sign 86 = .ok (.aload_n 0, 1) := by decide +kernel
theorem dX6_sign_87 : decode cX6_sign 87 = .ok (.getfield 19, 3) := by decide +kernel
theorem dX6_sign_90 : decode cX6_sign 90 = .ok (.iload_n 1, 1) := by decide +kernel
theorem dX6_sign_91 : decode cX6_sign 91 = .ok (.iaload, 1) := by decide +kernel
theorem dX6_sign_92 : decode cX6_sign 92 = .ok (.ireturn, 1) := by decide +kernel
theorem dX6_page_0 : decode cX6_page 0 = .ok (.aload_n 0, 1) := by decide +kernel
theorem dX6_page_1 : decode cX6_page 1 = .ok (.aload_n 0, 1) := by decide +kernel
theorem dX6_page_2 : decode cX6_page 2 = .ok (.iload_n 1, 1) := by decide +kernel
theorem dX6_page_3 : decode cX6_page 3 = .ok (.invokevirtual 111, 3) := by decide +kernel
theorem dX6_page_6 : decode cX6_page 6 = .ok (.iload_n 3, 1) := by decide +kernel
theorem dX6_page_7 : decode cX6_page 7 = .ok (.iconst 1, 1) := by decide +kernel
theorem dX6_page_8 : decode cX6_page 8 = .ok (.if_icmp .lt 11, 3) := by decide +kernel
theorem dX6_page_11 : decode cX6_page 11 = .ok (.iload_n 3, 1) := by decide +kernel
theorem dX6_page_12 : decode cX6_page 12 = .ok (.iload_n 2, 1) := by decide +kernel
theorem dX6_page_13 : decode cX6_page 13 = .ok (.invokestatic 122, 3) := by decide +kernel
theorem dX6_page_16 : decode cX6_page 16 = .ok (.if_icmp .le 7, 3) := by decide +kernel
theorem dX6_page_19 : decode cX6_page 19 = .ok (.iconst 1, 1) := by decide +kernel
theorem dX6_page_20 : decode cX6_page 20 = .ok (.goto 4, 3) := by decide +kernel
theorem dX6_page_23 : decode cX6_page 23 = .ok (.iconst 0, 1) := by decide +kernel
theorem dX6_page_24 : decode cX6_page 24 = .ok (.aload_n 0, 1) := by decide +kernel
theorem dX6_page_25 : decode cX6_page 25 = .ok (.iload_n 1, 1) := by decide +kernel
theorem dX6_page_26 : decode cX6_page 26 = .ok (.invokevirtual 111, 3) := by decide +kernel
theorem dX6_page_29 : decode cX6_page 29 = .ok (.ifCond .ne 17, 3) := by decide +kernel
theorem dX6_page_32 : decode cX6_page 32 = .ok (.aload_n 0, 1) := by decide +kernel
theorem dX6_page_33 : decode cX6_page 33 = .ok (.iload_n 1, 1) := by decide +kernel
theorem dX6_page_34 : decode cX6_page 34 = .ok (.invokevirtual 126, 3) := by decide +kernel
theorem dX6_page_37 : decode cX6_page 37 = .ok (.bipush 20, 2) := by decide +kernel
theorem dX6_page_39 : decode cX6_page 39 = .ok (.if_icmp .ne 7, 3) := by decide +kernel
theorem dX6_page_42 : decode cX6_page 42 = .ok (.iconst 1, 1) := by decide +kernel
theorem dX6_page_43 : decode cX6_page 43 = .ok (.goto 4, 3) := by decide +kernel
theorem dX6_page_46 : decode cX6_page 46 = .ok (.iconst 0, 1) := by decide +kernel
theorem dX6_page_47 : decode cX6_page 47 = .ok (.invokevirtual 115, 3) := by decide +kernel
theorem dX6_page_50 : decode cX6_page 50 = .ok (.ifCond .eq 5, 3) := by decide +kernel
theorem dX6_page_53 : decode cX6_page 53 = .ok (.iconst 0, 1) := by decide +kernel
theorem dX6_page_54 : decode cX6_page 54 = .ok (.ireturn, 1) := by decide +kernel
theorem dX6_page_55 : decode cX6_page 55 = .ok (.aload_n 0, 1) := by decide +kernel
theorem dX6_page_56 : decode cX6_page 56 = .ok (.iload_n 1, 1) := by decide +kernel
theorem dX6_page_57 : decode cX6_page 57 = .ok (.iload_n 2, 1) := by decide +kernel
theorem dX6_page_58 : decode cX6_page 58 = .ok (.iload_n 3, 1) := by decide +kernel
theorem dX6_page_59 : decode cX6_page 59 = .ok (.iload_n 3, 1) := by decide +kernel
theorem dX6_page_60 : decode cX6_page 60 = .ok (.iconst 0, 1) := by decide +kernel
theorem dX6_page_61 : decode cX6_page 61 = .ok (.invokevirtual 129, 3) := by decide +kernel
theorem dX6_page_64 : decode cX6_page 64 = .ok (.aload_n 0, 1) := by decide +kernel
theorem dX6_page_65 : decode cX6_page 65 = .ok (.iload_n 1, 1) := by decide +kernel
theorem dX6_page_66 : decode cX6_page 66 = .ok (.invokevirtual 126, 3) := by decide +kernel
theorem dX6_page_69 : decode cX6_page 69 = .ok (.ireturn, 1) := by decide +kernel
theorem dX6_range_0 : decode cX6_range 0 = .ok (.aload_n 0, 1) := by decide +kernel
theorem dX6_range_1 : decode cX6_range 1 = .ok (.iload_n 1, 1) := by decide +kernel
theorem dX6_range_2 : decode cX6_range 2 = .ok (.invokevirtual 111, 3) := by decide +kernel
theorem dX6_range_5 : decode cX6_range 5 = .ok (.ifCond .ne 20, 3) := by decide +kernel
theorem dX6_range_8 : decode cX6_range 8 = .ok (.iload_n 3, 1) := by decide +kernel
theorem dX6_range_9 : decode cX6_range 9 = .ok (.ifCond .ne 16, 3) := by decide +kernel
theorem dX6_range_12 : decode cX6_range 12 = .ok (.aload_n 0, 1) := by decide +kernel
theorem dX6_range_13 : decode cX6_range 13 = .ok (.getfield 38, 3) := by decide +kernel
theorem dX6_range_16 : decode cX6_range 16 = .ok (.iload_n 1, 1) := by decide +kernel
theorem dX6_range_17 : decode cX6_range 17 = .ok (.iaload, 1) := by decide +kernel
theorem dX6_range_18 : decode cX6_range 18 = .ok (.ifCond .ne 7, 3) := by decide +kernel
theorem dX6_range_21 : decode cX6_range 21 = .ok (.iconst 1, 1) := by decide +kernel
theorem dX6_range_22 : decode cX6_range 22 = .ok (.goto 4, 3) := by decide +kernel
theorem dX6_range_25 : decode cX6_range 25 = .ok (.iconst 0, 1) := by decide +kernel
theorem dX6_range_26 : decode cX6_range 26 = .ok (.istore 4, 2) := by decide +kernel
theorem dX6_range_28 : decode cX6_range 28 = .ok (.aload_n 0, 1) := by decide +kernel
theorem dX6_range_29 : decode cX6_range 29 = .ok (.aload_n 0, 1) := by decide +kernel
theorem dX6_range_30 : decode cX6_range 30 = .ok (.iload_n 1, 1) := by decide +kernel
theorem dX6_range_31 : decode cX6_range 31 = .ok (.invokevirtual 111, 3) := by decide +kernel
theorem dX6_range_34 : decode cX6_range 34 = .ok (.iload_n 2, 1) := by decide +kernel
theorem dX6_range_35 : decode cX6_range 35 = .ok (.iconst 1, 1) := by decide +kernel
theorem dX6_range_36 : decode cX6_range 36 = .ok (.if_icmp .lt 9, 3) := by decide +kernel
theorem dX6_range_39 : decode cX6_range 39 = .ok (.iload_n 2, 1) := by decide +kernel
theorem dX6_range_40 : decode cX6_range 40 = .ok (.ldc 110, 2) := by decide +kernel
theorem dX6_range_42 : decode cX6_range 42 = .ok (.if_icmp .le 7, 3) := by decide +kernel
theorem dX6_range_45 : decode cX6_range 45 = .ok (.iconst 1, 1) := by decide +kernel
theorem dX6_range_46 : decode cX6_range 46 = .ok (.goto 4, 3) := by decide +kernel
theorem dX6_range_49 : decode cX6_range 49 = .ok (.iconst 0, 1) := by decide +kernel
theorem dX6_range_50 : decode cX6_range 50 = .ok (.iload 4, 2) := by decide +kernel
theorem dX6_range_52 : decode cX6_range 52 = .ok (.ifCond .eq 18, 3) := by decide +kernel
theorem dX6_range_55 : decode cX6_range 55 = .ok (.aload_n 0, 1) := by decide +kernel
theorem dX6_range_56 : decode cX6_range 56 = .ok (.getfield 35, 3) := by decide +kernel
theorem dX6_range_59 : decode cX6_range 59 = .ok (.iload_n 1, 1) := by decide +kernel
theorem dX6_range_60 : decode cX6_range 60 = .ok (.iaload, 1) := by decide +kernel
theorem dX6_range_61 : decode cX6_range 61 = .ok (.bipush 20, 2) := by decide +kernel
theorem dX6_range_63 : decode cX6_range 63 = .ok (.if_icmp .ne 7, 3) := by decide +kernel
theorem dX6_range_66 : decode cX6_range 66 = .ok (.iconst 1, 1) := by decide +kernel
theorem dX6_range_67 : decode cX6_range 67 = .ok (.goto 4, 3) := by decide +kernel
theorem dX6_range_70 : decode cX6_range 70 = .ok (.iconst 0, 1) := by decide +kernel
theorem dX6_range_71 : decode cX6_range 71 = .ok (.invokevirtual 115, 3) := by decide +kernel
theorem dX6_range_74 : decode cX6_range 74 = .ok (.ifCond .eq 5, 3) := by decide +kernel
theorem dX6_range_77 : decode cX6_range 77 = .ok (.iconst 0, 1) := by decide +kernel
theorem dX6_range_78 : decode cX6_range 78 = .ok (.ireturn, 1) := by decide +kernel
theorem dX6_range_79 : decode cX6_range 79 = .ok (.iload 4, 2) := by decide +kernel
theorem dX6_range_81 : decode cX6_range 81 = .ok (.ifCond .eq 12, 3) := by decide +kernel
theorem dX6_range_84 : decode cX6_range 84 = .ok (.aload_n 0, 1) := by decide +kernel
theorem dX6_range_85 : decode cX6_range 85 = .ok (.getfield 38, 3) := by decide +kernel
theorem dX6_range_88 : decode cX6_range 88 = .ok (.iload_n 1, 1) := by decide +kernel
theorem dX6_range_89 : decode cX6_range 89 = .ok (.iload_n 2, 1) := by decide +kernel
theorem dX6_range_90 : decode cX6_range 90 = .ok (.iastore, 1) := by decide +kernel
theorem dX6_range_91 : decode cX6_range 91 = .ok (.iconst 1, 1) := by decide +kernel
theorem dX6_range_92 : decode cX6_range 92 = .ok (.ireturn, 1) := by decide +kernel
theorem dX6_range_93 : decode cX6_range 93 = .ok (.iload_n 3, 1) := by decide +kernel
theorem dX6_range_94 : decode cX6_range 94 = .ok (.ifCond .eq 22, 3) := by decide +kernel
theorem dX6_range_97 : decode cX6_range 97 = .ok (.aload_n 0, 1) := by decide +kernel
theorem dX6_range_98 : decode cX6_range 98 = .ok (.getfield 38, 3) := by decide +kernel
theorem dX6_range_101 : decode cX6_range 101 = .ok (.iload_n 1, 1) := by decide +kernel
theorem dX6_range_102 : decode cX6_range 102 = .ok (.iaload, 1) := by decide +kernel
theorem dX6_range_103 : decode cX6_range 103 = .ok (.ifCond .eq 13, 3) := by decide +kernel
theorem dX6_range_106 : decode cX6_range 106 = .ok (.iload_n 2, 1) := by decide +kernel
theorem dX6_range_107 : decode cX6_range 107 = .ok (.aload_n 0, 1) := by decide +kernel
theorem dX6_range_108 : decode cX6_range 108 = .ok (.getfield 38, 3) := by decide +kernel
theorem dX6_range_111 : decode cX6_range 111 = .ok (.iload_n 1, 1) := by decide +kernel
theorem dX6_range_112 : decode cX6_range 112 = .ok (.iaload, 1) := by decide +kernel
theorem dX6_range_113 : decode cX6_range 113 = .ok (.if_icmp .ge 5, 3) := by decide +kernel
theorem dX6_range_116 : decode cX6_range 116 = .ok (.iconst 0, 1) := by decide +kernel
theorem dX6_range_117 : decode cX6_range 117 = .ok (.ireturn, 1) := by decide +kernel
theorem dX6_range_118 : decode cX6_range 118 = .ok (.aload_n 0, 1) := by decide +kernel
theorem dX6_range_119 : decode cX6_range 119 = .ok (.iload_n 1, 1) := by decide +kernel
theorem dX6_range_120 : decode cX6_range 120 = .ok (.iconst 1, 1) := by decide +kernel
theorem dX6_range_121 : decode cX6_range 121 = .ok (.aload_n 0, 1) := by decide +kernel
theorem dX6_range_122 : decode cX6_range 122 = .ok (.getfield 38, 3) := by decide +kernel
theorem dX6_range_125 : decode cX6_range 125 = .ok (.iload_n 1, 1) := by decide +kernel
theorem dX6_range_126 : decode cX6_range 126 = .ok (.iaload, 1) := by decide +kernel
theorem dX6_range_127 : decode cX6_range 127 = .ok (.iload_n 2, 1) := by decide +kernel
theorem dX6_range_128 : decode cX6_range 128 = .ok (.iconst 1, 1) := by decide +kernel
theorem dX6_range_129 : decode cX6_range 129 = .ok (.invokevirtual 129, 3) := by decide +kernel
theorem dX6_range_132 : decode cX6_range 132 = .ok (.aload_n 0, 1) := by decide +kernel
theorem dX6_range_133 : decode cX6_range 133 = .ok (.getfield 38, 3) := by decide +kernel
theorem dX6_range_136 : decode cX6_range 136 = .ok (.iload_n 1, 1) := by decide +kernel
theorem dX6_range_137 : decode cX6_range 137 = .ok (.iconst 0, 1) := by decide +kernel
theorem dX6_range_138 : decode cX6_range 138 = .ok (.iastore, 1) := by decide +kernel
theorem dX6_range_139 : decode cX6_range 139 = .ok (.iconst 1, 1) := by decide +kernel
theorem dX6_range_140 : decode cX6_range 140 = .ok (.ireturn, 1) := by decide +kernel
theorem dX6_see_0 : decode cX6_see 0 = .ok (.aload_n 0, 1) := by decide +kernel
theorem dX6_see_1 : decode cX6_see 1 = .ok (.iload_n 1, 1) := by decide +kernel
theorem dX6_see_2 : decode cX6_see 2 = .ok (.invokevirtual 111, 3) := by decide +kernel
theorem dX6_see_5 : decode cX6_see 5 = .ok (.ifCond .ne 11, 3) := by decide +kernel
theorem dX6_see_8 : decode cX6_see 8 = .ok (.aload_n 0, 1) := by decide +kernel
theorem dX6_see_9 : decode cX6_see 9 = .ok (.iload_n 2, 1) := by decide +kernel
theorem dX6_see_10 : decode cX6_see 10 = .ok (.invokevirtual 111, 3) := by decide +kernel
theorem dX6_see_13 : decode cX6_see 13 = .ok (.ifCond .eq 7, 3) := by decide +kernel
theorem dX6_see_16 : decode cX6_see 16 = .ok (.iconst 1, 1) := by decide +kernel
theorem dX6_see_17 : decode cX6_see 17 = .ok (.goto 4, 3) := by decide +kernel
theorem dX6_see_20 : decode cX6_see 20 = .ok (.iconst 0, 1) := by decide +kernel
theorem dX6_see_21 : decode cX6_see 21 = .ok (.istore_n 3, 1) := by decide +kernel
theorem dX6_see_22 : decode cX6_see 22 = .ok (.iload_n 1, 1) := by decide +kernel
theorem dX6_see_23 : decode cX6_see 23 = .ok (.iload_n 2, 1) := by decide +kernel
theorem dX6_see_24 : decode cX6_see 24 = .ok (.if_icmp .ne 7, 3) := by decide +kernel
theorem dX6_see_27 : decode cX6_see 27 = .ok (.iconst 1, 1) := by decide +kernel
theorem dX6_see_28 : decode cX6_see 28 = .ok (.goto 4, 3) := by decide +kernel
theorem dX6_see_31 : decode cX6_see 31 = .ok (.iconst 0, 1) := by decide +kernel
theorem dX6_see_32 : decode cX6_see 32 = .ok (.istore 4, 2) := by decide +kernel
theorem dX6_see_34 : decode cX6_see 34 = .ok (.iconst 0, 1) := by decide +kernel
theorem dX6_see_35 : decode cX6_see 35 = .ok (.istore 5, 2) := by decide +kernel
theorem dX6_see_37 : decode cX6_see 37 = .ok (.iload_n 3, 1) := by decide +kernel
theorem dX6_see_38 : decode cX6_see 38 = .ok (.ifCond .ne 47, 3) := by decide +kernel
theorem dX6_see_41 : decode cX6_see 41 = .ok (.iload 5, 2) := by decide +kernel
theorem dX6_see_43 : decode cX6_see 43 = .ok (.aload_n 0, 1) := by decide +kernel
theorem dX6_see_44 : decode cX6_see 44 = .ok (.getfield 44, 3) := by decide +kernel
theorem dX6_see_47 : decode cX6_see 47 = .ok (.iload_n 1, 1) := by decide +kernel
theorem dX6_see_48 : decode cX6_see 48 = .ok (.iaload, 1) := by decide +kernel
theorem dX6_see_49 : decode cX6_see 49 = .ok (.if_icmp .ge 36, 3) := by decide +kernel
theorem dX6_see_52 : decode cX6_see 52 = .ok (.iload 4, 2) := by decide +kernel
theorem dX6_see_54 : decode cX6_see 54 = .ok (.ifCond .ne 18, 3) := by decide +kernel
theorem dX6_see_57 : decode cX6_see 57 = .ok (.aload_n 0, 1) := by decide +kernel
theorem dX6_see_58 : decode cX6_see 58 = .ok (.getfield 41, 3) := by decide +kernel
theorem dX6_see_61 : decode cX6_see 61 = .ok (.iconst 5, 1) := by decide +kernel
theorem dX6_see_62 : decode cX6_see 62 = .ok (.iload_n 1, 1) := by decide +kernel
theorem dX6_see_63 : decode cX6_see 63 = .ok (.imul, 1) := by decide +kernel
theorem dX6_see_64 : decode cX6_see 64 = .ok (.iload 5, 2) := by decide +kernel
theorem dX6_see_66 : decode cX6_see 66 = .ok (.iadd, 1) := by decide +kernel
theorem dX6_see_67 : decode cX6_see 67 = .ok (.iaload, 1) := by decide +kernel
theorem dX6_see_68 : decode cX6_see 68 = .ok (.iload_n 2, 1) := by decide +kernel
theorem dX6_see_69 : decode cX6_see 69 = .ok (.if_icmp .ne 7, 3) := by decide +kernel
theorem dX6_see_72 : decode cX6_see 72 = .ok (.iconst 1, 1) := by decide +kernel
theorem dX6_see_73 : decode cX6_see 73 = .ok (.goto 4, 3) := by decide +kernel
theorem dX6_see_76 : decode cX6_see 76 = .ok (.iconst 0, 1) := by decide +kernel
theorem dX6_see_77 : decode cX6_see 77 = .ok (.istore 4, 2) := by decide +kernel
theorem dX6_see_79 : decode cX6_see 79 = .ok (.iinc 5 1, 3) := by decide +kernel
theorem dX6_see_82 : decode cX6_see 82 = .ok (.goto (-45), 3) := by decide +kernel
theorem dX6_see_85 : decode cX6_see 85 = .ok (.aload_n 0, 1) := by decide +kernel
theorem dX6_see_86 : decode cX6_see 86 = .ok (.iload_n 3, 1) := by decide +kernel
theorem dX6_see_87 : decode cX6_see 87 = .ok (.iload_n 3, 1) := by decide +kernel
theorem dX6_see_88 : decode cX6_see 88 = .ok (.ifCond .ne 22, 3) := by decide +kernel
theorem dX6_see_91 : decode cX6_see 91 = .ok (.iload 4, 2) := by decide +kernel
theorem dX6_see_93 : decode cX6_see 93 = .ok (.ifCond .ne 17, 3) := by decide +kernel
theorem dX6_see_96 : decode cX6_see 96 = .ok (.aload_n 0, 1) := by decide +kernel
theorem dX6_see_97 : decode cX6_see 97 = .ok (.getfield 44, 3) := by decide +kernel
theorem dX6_see_100 : decode cX6_see 100 = .ok (.iload_n 1, 1) := by decide +kernel
theorem dX6_see_101 : decode cX6_see 101 = .ok (.iaload, 1) := by decide +kernel
theorem dX6_see_102 : decode cX6_see 102 = .ok (.iconst 5, 1) := by decide +kernel
theorem dX6_see_103 : decode cX6_see 103 = .ok (.if_icmp .ne 7, 3) := by decide +kernel
theorem dX6_see_106 : decode cX6_see 106 = .ok (.iconst 1, 1) := by decide +kernel
theorem dX6_see_107 : decode cX6_see 107 = .ok (.goto 4, 3) := by decide +kernel
theorem dX6_see_110 : decode cX6_see 110 = .ok (.iconst 0, 1) := by decide +kernel
theorem dX6_see_111 : decode cX6_see 111 = .ok (.iconst 0, 1) := by decide +kernel
theorem dX6_see_112 : decode cX6_see 112 = .ok (.invokevirtual 115, 3) := by decide +kernel
theorem dX6_see_115 : decode cX6_see 115 = .ok (.ifCond .ne 8, 3) := by decide +kernel
theorem dX6_see_118 : decode cX6_see 118 = .ok (.iload 4, 2) := by decide +kernel
theorem dX6_see_120 : decode cX6_see 120 = .ok (.ifCond .eq 5, 3) := by decide +kernel
theorem dX6_see_123 : decode cX6_see 123 = .ok (.iconst 0, 1) := by decide +kernel
theorem dX6_see_124 : decode cX6_see 124 = .ok (.ireturn, 1) := by decide +kernel
theorem dX6_see_125 : decode cX6_see 125 = .ok (.aload_n 0, 1) := by decide +kernel
theorem dX6_see_126 : decode cX6_see 126 = .ok (.getfield 41, 3) := by decide +kernel
theorem dX6_see_129 : decode cX6_see 129 = .ok (.iconst 5, 1) := by decide +kernel
theorem dX6_see_130 : decode cX6_see 130 = .ok (.iload_n 1, 1) := by decide +kernel
theorem dX6_see_131 : decode cX6_see 131 = .ok (.imul, 1) := by decide +kernel
theorem dX6_see_132 : decode cX6_see 132 = .ok (.aload_n 0, 1) := by decide +kernel
theorem dX6_see_133 : decode cX6_see 133 = .ok (.getfield 44, 3) := by decide +kernel
theorem dX6_see_136 : decode cX6_see 136 = .ok (.iload_n 1, 1) := by decide +kernel
theorem dX6_see_137 : decode cX6_see 137 = .ok (.iaload, 1) := by decide +kernel
theorem dX6_see_138 : decode cX6_see 138 = .ok (.iadd, 1) := by decide +kernel
theorem dX6_see_139 : decode cX6_see 139 = .ok (.iload_n 2, 1) := by decide +kernel
theorem dX6_see_140 : decode cX6_see 140 = .ok (.iastore, 1) := by decide +kernel
theorem dX6_see_141 : decode cX6_see 141 = .ok (.aload_n 0, 1) := by decide +kernel
theorem dX6_see_142 : decode cX6_see 142 = .ok (.getfield 44, 3) := by decide +kernel
theorem dX6_see_145 : decode cX6_see 145 = .ok (.iload_n 1, 1) := by decide +kernel
theorem dX6_see_146 : decode cX6_see 146 = .ok (.dup2, 1) := by decide +kernel
theorem dX6_see_147 : decode cX6_see 147 = .ok (.iaload, 1) := by decide +kernel
theorem dX6_see_148 : decode cX6_see 148 = .ok (.iconst 1, 1) := by decide +kernel
theorem dX6_see_149 : decode cX6_see 149 = .ok (.iadd, 1) := by decide +kernel
theorem dX6_see_150 : decode cX6_see 150 = .ok (.iastore, 1) := by decide +kernel
theorem dX6_see_151 : decode cX6_see 151 = .ok (.iconst 1, 1) := by decide +kernel
theorem dX6_see_152 : decode cX6_see 152 = .ok (.ireturn, 1) := by decide +kernel
theorem dX6_rule_0 : decode cX6_rule 0 = .ok (.aload_n 0, 1) := by decide +kernel
theorem dX6_rule_1 : decode cX6_rule 1 = .ok (.iload_n 1, 1) := by decide +kernel
theorem dX6_rule_2 : decode cX6_rule 2 = .ok (.ifCond .eq 12, 3) := by decide +kernel
theorem dX6_rule_5 : decode cX6_rule 5 = .ok (.iload_n 1, 1) := by decide +kernel
theorem dX6_rule_6 : decode cX6_rule 6 = .ok (.iconst 1, 1) := by decide +kernel
theorem dX6_rule_7 : decode cX6_rule 7 = .ok (.if_icmp .eq 7, 3) := by decide +kernel
theorem dX6_rule_10 : decode cX6_rule 10 = .ok (.iconst 1, 1) := by decide +kernel
theorem dX6_rule_11 : decode cX6_rule 11 = .ok (.goto 4, 3) := by decide +kernel
theorem dX6_rule_14 : decode cX6_rule 14 = .ok (.iconst 0, 1) := by decide +kernel
theorem dX6_rule_15 : decode cX6_rule 15 = .ok (.iconst 0, 1) := by decide +kernel
theorem dX6_rule_16 : decode cX6_rule 16 = .ok (.iconst 0, 1) := by decide +kernel
theorem dX6_rule_17 : decode cX6_rule 17 = .ok (.invokevirtual 115, 3) := by decide +kernel
theorem dX6_rule_20 : decode cX6_rule 20 = .ok (.ifCond .eq 5, 3) := by decide +kernel
theorem dX6_rule_23 : decode cX6_rule 23 = .ok (.iconst 0, 1) := by decide +kernel
theorem dX6_rule_24 : decode cX6_rule 24 = .ok (.ireturn, 1) := by decide +kernel
theorem dX6_rule_25 : decode cX6_rule 25 = .ok (.iload_n 1, 1) := by decide +kernel
theorem dX6_rule_26 : decode cX6_rule 26 = .ok (.ifCond .ne 10, 3) := by decide +kernel
theorem dX6_rule_29 : decode cX6_rule 29 = .ok (.aload_n 0, 1) := by decide +kernel
theorem dX6_rule_30 : decode cX6_rule 30 = .ok (.getfield 47, 3) := by decide +kernel
theorem dX6_rule_33 : decode cX6_rule 33 = .ok (.goto 7, 3) := by decide +kernel
theorem dX6_rule_36 : decode cX6_rule 36 = .ok (.aload_n 0, 1) := by decide +kernel
theorem dX6_rule_37 : decode cX6_rule 37 = .ok (.getfield 51, 3) := by decide +kernel
theorem dX6_rule_40 : decode cX6_rule 40 = .ok (.istore_n 3, 1) := by decide +kernel
theorem dX6_rule_41 : decode cX6_rule 41 = .ok (.aload_n 0, 1) := by decide +kernel
theorem dX6_rule_42 : decode cX6_rule 42 = .ok (.iload_n 1, 1) := by decide +kernel
theorem dX6_rule_43 : decode cX6_rule 43 = .ok (.ifCond .ne 7, 3) := by decide +kernel
theorem dX6_rule_46 : decode cX6_rule 46 = .ok (.iload_n 2, 1) := by decide +kernel
theorem dX6_rule_47 : decode cX6_rule 47 = .ok (.goto 7, 3) := by decide +kernel
theorem dX6_rule_50 : decode cX6_rule 50 = .ok (.aload_n 0, 1) := by decide +kernel
theorem dX6_rule_51 : decode cX6_rule 51 = .ok (.getfield 47, 3) := by decide +kernel
theorem dX6_rule_54 : decode cX6_rule 54 = .ok (.putfield 47, 3) := by decide +kernel
theorem dX6_rule_57 : decode cX6_rule 57 = .ok (.aload_n 0, 1) := by decide +kernel
theorem dX6_rule_58 : decode cX6_rule 58 = .ok (.iload_n 1, 1) := by decide +kernel
theorem dX6_rule_59 : decode cX6_rule 59 = .ok (.iconst 1, 1) := by decide +kernel
theorem dX6_rule_60 : decode cX6_rule 60 = .ok (.if_icmp .ne 7, 3) := by decide +kernel
theorem dX6_rule_63 : decode cX6_rule 63 = .ok (.iload_n 2, 1) := by decide +kernel
theorem dX6_rule_64 : decode cX6_rule 64 = .ok (.goto 7, 3) := by decide +kernel
theorem dX6_rule_67 : decode cX6_rule 67 = .ok (.aload_n 0, 1) := by decide +kernel
theorem dX6_rule_68 : decode cX6_rule 68 = .ok (.getfield 51, 3) := by decide +kernel
theorem dX6_rule_71 : decode cX6_rule 71 = .ok (.putfield 51, 3) := by decide +kernel
theorem dX6_rule_74 : decode cX6_rule 74 = .ok (.aload_n 0, 1) := by decide +kernel
theorem dX6_rule_75 : decode cX6_rule 75 = .ok (.iconst 0, 1) := by decide +kernel
theorem dX6_rule_76 : decode cX6_rule 76 = .ok (.putfield 119, 3) := by decide +kernel
theorem dX6_rule_79 : decode cX6_rule 79 = .ok (.iload_n 3, 1) := by decide +kernel
theorem dX6_rule_80 : decode cX6_rule 80 = .ok (.ifCond .eq 7, 3) := by decide +kernel
theorem dX6_rule_83 : decode cX6_rule 83 = .ok (.iconst 1, 1) := by decide +kernel
theorem dX6_rule_84 : decode cX6_rule 84 = .ok (.goto 4, 3) := by decide +kernel
theorem dX6_rule_87 : decode cX6_rule 87 = .ok (.iconst 0, 1) := by decide +kernel
theorem dX6_rule_88 : decode cX6_rule 88 = .ok (.ireturn, 1) := by decide +kernel
theorem dX6_look_0 : decode cX6_look 0 = .ok (.aload_n 0, 1) := by decide +kernel
theorem dX6_look_1 : decode cX6_look 1 = .ok (.getfield 119, 3) := by decide +kernel
theorem dX6_look_4 : decode cX6_look 4 = .ok (.ifCond .eq 4, 3) := by decide +kernel
theorem dX6_look_7 : decode cX6_look 7 = .ok (.return_, 1) := by decide +kernel
theorem dX6_look_8 : decode cX6_look 8 = .ok (.aload_n 0, 1) := by decide +kernel
theorem dX6_look_9 : decode cX6_look 9 = .ok (.iconst 1, 1) := by decide +kernel
theorem dX6_look_10 : decode cX6_look 10 = .ok (.putfield 119, 3) := by decide +kernel
theorem dX6_look_13 : decode cX6_look 13 = .ok (.aload_n 0, 1) := by decide +kernel
theorem dX6_look_14 : decode cX6_look 14 = .ok (.iconst 0, 1) := by decide +kernel
theorem dX6_look_15 : decode cX6_look 15 = .ok (.putfield 161, 3) := by decide +kernel
theorem dX6_look_18 : decode cX6_look 18 = .ok (.iconst 0, 1) := by decide +kernel
theorem dX6_look_19 : decode cX6_look 19 = .ok (.istore_n 1, 1) := by decide +kernel
theorem dX6_look_20 : decode cX6_look 20 = .ok (.iload_n 1, 1) := by decide +kernel
theorem dX6_look_21 : decode cX6_look 21 = .ok (.aload_n 0, 1) := by decide +kernel
theorem dX6_look_22 : decode cX6_look 22 = .ok (.getfield 103, 3) := by decide +kernel
theorem dX6_look_25 : decode cX6_look 25 = .ok (.if_icmp .ge 137, 3) := by decide +kernel
theorem dX6_look_28 : decode cX6_look 28 = .ok (.aload_n 0, 1) := by decide +kernel
theorem dX6_look_29 : decode cX6_look 29 = .ok (.getfield 54, 3) := by decide +kernel
theorem dX6_look_32 : decode cX6_look 32 = .ok (.iload_n 1, 1) := by decide +kernel
theorem dX6_look_33 : decode cX6_look 33 = .ok (.iload_n 1, 1) := by decide +kernel
theorem dX6_look_34 : decode cX6_look 34 = .ok (.iastore, 1) := by decide +kernel
theorem dX6_look_35 : decode cX6_look 35 = .ok (.iload_n 1, 1) := by decide +kernel
theorem dX6_look_36 : decode cX6_look 36 = .ok (.iconst 1, 1) := by decide +kernel
theorem dX6_look_37 : decode cX6_look 37 = .ok (.isub, 1) := by decide +kernel
theorem dX6_look_38 : decode cX6_look 38 = .ok (.istore_n 2, 1) := by decide +kernel
theorem dX6_look_39 : decode cX6_look 39 = .ok (.iload_n 2, 1) := by decide +kernel
theorem dX6_look_40 : decode cX6_look 40 = .ok (.ifCond .lt 44, 3) := by decide +kernel
theorem dX6_look_43 : decode cX6_look 43 = .ok (.aload_n 0, 1) := by decide +kernel
theorem dX6_look_44 : decode cX6_look 44 = .ok (.getfield 54, 3) := by decide +kernel
theorem dX6_look_47 : decode cX6_look 47 = .ok (.iload_n 1, 1) := by decide +kernel
theorem dX6_look_48 : decode cX6_look 48 = .ok (.aload_n 0, 1) := by decide +kernel
theorem dX6_look_49 : decode cX6_look 49 = .ok (.getfield 54, 3) := by decide +kernel
theorem dX6_look_52 : decode cX6_look 52 = .ok (.iload_n 2, 1) := by decide +kernel
theorem dX6_look_53 : decode cX6_look 53 = .ok (.iaload, 1) := by decide +kernel
theorem dX6_look_54 : decode cX6_look 54 = .ok (.iload_n 2, 1) := by decide +kernel
theorem dX6_look_55 : decode cX6_look 55 = .ok (.if_icmp .ne 16, 3) := by decide +kernel
theorem dX6_look_58 : decode cX6_look 58 = .ok (.aload_n 0, 1) := by decide +kernel
theorem dX6_look_59 : decode cX6_look 59 = .ok (.iload_n 1, 1) := by decide +kernel
theorem dX6_look_60 : decode cX6_look 60 = .ok (.iload_n 2, 1) := by decide +kernel
theorem dX6_look_61 : decode cX6_look 61 = .ok (.invokevirtual 164, 3) := by decide +kernel
theorem dX6_look_64 : decode cX6_look 64 = .ok (.ifCond .eq 7, 3) := by decide +kernel
theorem dX6_look_67 : decode cX6_look 67 = .ok (.iload_n 2, 1) := by decide +kernel
theorem dX6_look_68 : decode cX6_look 68 = .ok (.goto 9, 3) := by decide +kernel
theorem dX6_look_71 : decode cX6_look 71 = .ok (.aload_n 0, 1) := by decide +kernel
theorem dX6_look_72 : decode cX6_look 72 = .ok (.getfield 54, 3) := by decide +kernel
theorem dX6_look_75 : decode cX6_look 75 = .ok (.iload_n 1, 1) := by decide +kernel
theorem dX6_look_76 : decode cX6_look 76 = .ok (.iaload, 1) := by decide +kernel
theorem dX6_look_77 : decode cX6_look 77 = .ok (.iastore, 1) := by decide +kernel
theorem dX6_look_78 : decode cX6_look 78 = .ok (.iinc 2 (-1), 3) := by decide +kernel
theorem dX6_look_81 : decode cX6_look 81 = .ok (.goto (-42), 3) := by decide +kernel
theorem dX6_look_84 : decode cX6_look 84 = .ok (.aload_n 0, 1) := by decide +kernel
theorem dX6_look_85 : decode cX6_look 85 = .ok (.getfield 54, 3) := by decide +kernel
theorem dX6_look_88 : decode cX6_look 88 = .ok (.iload_n 1, 1) := by decide +kernel
theorem dX6_look_89 : decode cX6_look 89 = .ok (.iaload, 1) := by decide +kernel
theorem dX6_look_90 : decode cX6_look 90 = .ok (.iload_n 1, 1) := by decide +kernel
theorem dX6_look_91 : decode cX6_look 91 = .ok (.if_icmp .ne 65, 3) := by decide +kernel
theorem dX6_look_94 : decode cX6_look 94 = .ok (.aload_n 0, 1) := by decide +kernel
theorem dX6_look_95 : decode cX6_look 95 = .ok (.getfield 161, 3) := by decide +kernel
theorem dX6_look_98 : decode cX6_look 98 = .ok (.istore_n 2, 1) := by decide +kernel
theorem dX6_look_99 : decode cX6_look 99 = .ok (.iload_n 2, 1) := by decide +kernel
theorem dX6_look_100 : decode cX6_look 100 = .ok (.ifCond .le 39, 3) := by decide +kernel
theorem dX6_look_103 : decode cX6_look 103 = .ok (.aload_n 0, 1) := by decide +kernel
theorem dX6_look_104 : decode cX6_look 104 = .ok (.iload_n 1, 1) := by decide +kernel
theorem dX6_look_105 : decode cX6_look 105 = .ok (.aload_n 0, 1) := by decide +kernel
theorem dX6_look_106 : decode cX6_look 106 = .ok (.getfield 57, 3) := by decide +kernel
theorem dX6_look_109 : decode cX6_look 109 = .ok (.iload_n 2, 1) := by decide +kernel
theorem dX6_look_110 : decode cX6_look 110 = .ok (.iconst 1, 1) := by decide +kernel
theorem dX6_look_111 : decode cX6_look 111 = .ok (.isub, 1) := by decide +kernel
theorem dX6_look_112 : decode cX6_look 112 = .ok (.iaload, 1) := by decide +kernel
theorem dX6_look_113 : decode cX6_look 113 = .ok (.invokevirtual 168, 3) := by decide +kernel
theorem dX6_look_116 : decode cX6_look 116 = .ok (.ifCond .eq 23, 3) := by decide +kernel
theorem dX6_look_119 : decode cX6_look 119 = .ok (.aload_n 0, 1) := by decide +kernel
theorem dX6_look_120 : decode cX6_look 120 = .ok (.getfield 57, 3) := by decide +kernel
theorem dX6_look_123 : decode cX6_look 123 = .ok (.iload_n 2, 1) := by decide +kernel
theorem dX6_look_124 : decode cX6_look 124 = .ok (.aload_n 0, 1) := by decide +kernel
theorem dX6_look_125 : decode cX6_look 125 = .ok (.getfield 57, 3) := by decide +kernel
theorem dX6_look_128 : decode cX6_look 128 = .ok (.iload_n 2, 1) := by decide +kernel
theorem dX6_look_129 : decode cX6_look 129 = .ok (.iconst 1, 1) := by decide +kernel
theorem dX6_look_130 : decode cX6_look 130 = .ok (.isub, 1) := by decide +kernel
theorem dX6_look_131 : decode cX6_look 131 = .ok (.iaload, 1) := by decide +kernel
theorem dX6_look_132 : decode cX6_look 132 = .ok (.iastore, 1) := by decide +kernel
theorem dX6_look_133 : decode cX6_look 133 = .ok (.iinc 2 (-1), 3) := by decide +kernel
theorem dX6_look_136 : decode cX6_look 136 = .ok (.goto (-37), 3) := by decide +kernel
theorem dX6_look_139 : decode cX6_look 139 = .ok (.aload_n 0, 1) := by decide +kernel
theorem dX6_look_140 : decode cX6_look 140 = .ok (.getfield 57, 3) := by decide +kernel
theorem dX6_look_143 : decode cX6_look 143 = .ok (.iload_n 2, 1) := by decide +kernel
theorem dX6_look_144 : decode cX6_look 144 = .ok (.iload_n 1, 1) := by decide +kernel
theorem dX6_look_145 : decode cX6_look 145 = .ok (.iastore, 1) := by decide +kernel
theorem dX6_look_146 : decode cX6_look 146 = .ok (.aload_n 0, 1) := by decide +kernel
theorem dX6_look_147 : decode cX6_look 147 = .ok (.dup, 1) := by decide +kernel
theorem dX6_look_148 : decode cX6_look 148 = .ok (.getfield 161, 3) := by decide +kernel
theorem dX6_look_151 : decode cX6_look 151 = .ok (.iconst 1, 1) := by decide +kernel
theorem dX6_look_152 : decode cX6_look 152 = .ok (.iadd, 1) := by decide +kernel
theorem dX6_look_153 : decode cX6_look 153 = .ok (.putfield 161, 3) := by decide +kernel
theorem dX6_look_156 : decode cX6_look 156 = .ok (.iinc 1 1, 3) := by decide +kernel
theorem dX6_look_159 : decode cX6_look 159 = .ok (.goto (-139), 3) := by decide +kernel
theorem dX6_look_162 : decode cX6_look 162 = .ok (.return_, 1) := by decide +kernel
theorem dX6_run_0 : decode cX6_run 0 = .ok (.aload_n 0, 1) := by decide +kernel
theorem dX6_run_1 : decode cX6_run 1 = .ok (.iconst 0, 1) := by decide +kernel
theorem dX6_run_2 : decode cX6_run 2 = .ok (.putfield 107, 3) := by decide +kernel
theorem dX6_run_5 : decode cX6_run 5 = .ok (.aload_n 0, 1) := by decide +kernel
theorem dX6_run_6 : decode cX6_run 6 = .ok (.invokevirtual 190, 3) := by decide +kernel
theorem dX6_run_9 : decode cX6_run 9 = .ok (.aload_n 0, 1) := by decide +kernel
theorem dX6_run_10 : decode cX6_run 10 = .ok (.getfield 161, 3) := by decide +kernel
theorem dX6_run_13 : decode cX6_run 13 = .ok (.ireturn, 1) := by decide +kernel
theorem dX6_row_0 : decode cX6_row 0 = .ok (.aload_n 0, 1) := by decide +kernel
theorem dX6_row_1 : decode cX6_row 1 = .ok (.invokevirtual 190, 3) := by decide +kernel
theorem dX6_row_4 : decode cX6_row 4 = .ok (.aload_n 0, 1) := by decide +kernel
theorem dX6_row_5 : decode cX6_row 5 = .ok (.iload_n 1, 1) := by decide +kernel
theorem dX6_row_6 : decode cX6_row 6 = .ok (.ifCond .lt 20, 3) := by decide +kernel
theorem dX6_row_9 : decode cX6_row 9 = .ok (.iload_n 1, 1) := by decide +kernel
theorem dX6_row_10 : decode cX6_row 10 = .ok (.aload_n 0, 1) := by decide +kernel
theorem dX6_row_11 : decode cX6_row 11 = .ok (.getfield 161, 3) := by decide +kernel
theorem dX6_row_14 : decode cX6_row 14 = .ok (.if_icmp .ge 12, 3) := by decide +kernel
theorem dX6_row_17 : decode cX6_row 17 = .ok (.iload_n 2, 1) := by decide +kernel
theorem dX6_row_18 : decode cX6_row 18 = .ok (.ifCond .lt 8, 3) := by decide +kernel
theorem dX6_row_21 : decode cX6_row 21 = .ok (.iload_n 2, 1) := by decide +kernel
theorem dX6_row_22 : decode cX6_row 22 = .ok (.iconst 4, 1) := by decide +kernel
theorem dX6_row_23 : decode cX6_row 23 = .ok (.if_icmp .le 7, 3) := by decide +kernel
theorem dX6_row_26 : decode cX6_row 26 = .ok (.iconst 1, 1) := by decide +kernel
theorem dX6_row_27 : decode cX6_row 27 = .ok (.goto 4, 3) := by decide +kernel
theorem dX6_row_30 : decode cX6_row 30 = .ok (.iconst 0, 1) := by decide +kernel
theorem dX6_row_31 : decode cX6_row 31 = .ok (.iconst 0, 1) := by decide +kernel
theorem dX6_row_32 : decode cX6_row 32 = .ok (.iconst 0, 1) := by decide +kernel
theorem dX6_row_33 : decode cX6_row 33 = .ok (.invokevirtual 115, 3) := by decide +kernel
theorem dX6_row_36 : decode cX6_row 36 = .ok (.ifCond .eq 5, 3) := by decide +kernel
theorem dX6_row_39 : decode cX6_row 39 = .ok (.iconst 0, 1) := by decide +kernel
theorem dX6_row_40 : decode cX6_row 40 = .ok (.ireturn, 1) := by decide +kernel
theorem dX6_row_41 : decode cX6_row 41 = .ok (.aload_n 0, 1) := by decide +kernel
theorem dX6_row_42 : decode cX6_row 42 = .ok (.getfield 57, 3) := by decide +kernel
theorem dX6_row_45 : decode cX6_row 45 = .ok (.iload_n 1, 1) := by decide +kernel
theorem dX6_row_46 : decode cX6_row 46 = .ok (.iaload, 1) := by decide +kernel
theorem dX6_row_47 : decode cX6_row 47 = .ok (.istore_n 3, 1) := by decide +kernel
theorem dX6_row_48 : decode cX6_row 48 = .ok (.iload_n 2, 1) := by decide +kernel
theorem dX6_row_49 : decode cX6_row 49 = .ok (.iconst 2, 1) := by decide +kernel
theorem dX6_row_50 : decode cX6_row 50 = .ok (.if_icmp .ne 14, 3) := by decide +kernel
theorem dX6_row_53 : decode cX6_row 53 = .ok (.aload_n 0, 1) := by decide +kernel
theorem dX6_row_54 : decode cX6_row 54 = .ok (.iload_n 3, 1) := by decide +kernel
theorem dX6_row_55 : decode cX6_row 55 = .ok (.invokevirtual 193, 3) := by decide +kernel
theorem dX6_row_58 : decode cX6_row 58 = .ok (.aload_n 0, 1) := by decide +kernel
theorem dX6_row_59 : decode cX6_row 59 = .ok (.iconst (-1), 1) := by decide +kernel
theorem dX6_row_60 : decode cX6_row 60 = .ok (.invokevirtual 196, 3) := by decide +kernel
theorem dX6_row_63 : decode cX6_row 63 = .ok (.ireturn, 1) := by decide +kernel
theorem dX6_row_64 : decode cX6_row 64 = .ok (.iload_n 2, 1) := by decide +kernel
theorem dX6_row_65 : decode cX6_row 65 = .ok (.iconst 3, 1) := by decide +kernel
theorem dX6_row_66 : decode cX6_row 66 = .ok (.if_icmp .ne 13, 3) := by decide +kernel
theorem dX6_row_69 : decode cX6_row 69 = .ok (.aload_n 0, 1) := by decide +kernel
theorem dX6_row_70 : decode cX6_row 70 = .ok (.iload_n 3, 1) := by decide +kernel
theorem dX6_row_71 : decode cX6_row 71 = .ok (.invokevirtual 199, 3) := by decide +kernel
theorem dX6_row_74 : decode cX6_row 74 = .ok (.aload_n 0, 1) := by decide +kernel
theorem dX6_row_75 : decode cX6_row 75 = .ok (.getfield 187, 3) := by decide +kernel
theorem dX6_row_78 : decode cX6_row 78 = .ok (.ireturn, 1) := by decide +kernel
theorem dX6_row_79 : decode cX6_row 79 = .ok (.iload_n 2, 1) := by decide +kernel
theorem dX6_row_80 : decode cX6_row 80 = .ok (.ifCond .ne 7, 3) := by decide +kernel
theorem dX6_row_83 : decode cX6_row 83 = .ok (.iload_n 3, 1) := by decide +kernel
theorem dX6_row_84 : decode cX6_row 84 = .ok (.goto 22, 3) := by decide +kernel
theorem dX6_row_87 : decode cX6_row 87 = .ok (.iload_n 2, 1) := by decide +kernel
theorem dX6_row_88 : decode cX6_row 88 = .ok (.iconst 1, 1) := by decide +kernel
theorem dX6_row_89 : decode cX6_row 89 = .ok (.if_icmp .ne 12, 3) := by decide +kernel
theorem dX6_row_92 : decode cX6_row 92 = .ok (.aload_n 0, 1) := by decide +kernel
theorem dX6_row_93 : decode cX6_row 93 = .ok (.getfield 7, 3) := by decide +kernel
theorem dX6_row_96 : decode cX6_row 96 = .ok (.iload_n 3, 1) := by decide +kernel
theorem dX6_row_97 : decode cX6_row 97 = .ok (.iaload, 1) := by decide +kernel
theorem dX6_row_98 : decode cX6_row 98 = .ok (.goto 8, 3) := by decide +kernel
theorem dX6_row_101 : decode cX6_row 101 = .ok (.aload_n 0, 1) := by decide +kernel
theorem dX6_row_102 : decode cX6_row 102 = .ok (.iload_n 3, 1) := by decide +kernel
theorem dX6_row_103 : decode cX6_row 103 = .ok (.invokevirtual 202, 3) := by decide +kernel
theorem dX6_row_106 : decode cX6_row 106 = .ok (.ireturn, 1) := by decide +kernel
theorem dX6_locator_0 : decode cX6_locator 0 = .ok (.aload_n 0, 1) := by decide +kernel
theorem dX6_locator_1 : decode cX6_locator 1 = .ok (.invokevirtual 190, 3) := by decide +kernel
theorem dX6_locator_4 : decode cX6_locator 4 = .ok (.aload_n 0, 1) := by decide +kernel
theorem dX6_locator_5 : decode cX6_locator 5 = .ok (.iload_n 1, 1) := by decide +kernel
theorem dX6_locator_6 : decode cX6_locator 6 = .ok (.ifCond .lt 11, 3) := by decide +kernel
theorem dX6_locator_9 : decode cX6_locator 9 = .ok (.iload_n 1, 1) := by decide +kernel
theorem dX6_locator_10 : decode cX6_locator 10 = .ok (.aload_n 0, 1) := by decide +kernel
theorem dX6_locator_11 : decode cX6_locator 11 = .ok (.getfield 161, 3) := by decide +kernel
theorem dX6_locator_14 : decode cX6_locator 14 = .ok (.if_icmp .lt 7, 3) := by decide +kernel
theorem dX6_locator_17 : decode cX6_locator 17 = .ok (.iconst 1, 1) := by decide +kernel
theorem dX6_locator_18 : decode cX6_locator 18 = .ok (.goto 4, 3) := by decide +kernel
theorem dX6_locator_21 : decode cX6_locator 21 = .ok (.iconst 0, 1) := by decide +kernel
theorem dX6_locator_22 : decode cX6_locator 22 = .ok (.iconst 0, 1) := by decide +kernel
theorem dX6_locator_23 : decode cX6_locator 23 = .ok (.iconst 0, 1) := by decide +kernel
theorem dX6_locator_24 : decode cX6_locator 24 = .ok (.invokevirtual 115, 3) := by decide +kernel
theorem dX6_locator_27 : decode cX6_locator 27 = .ok (.ifCond .eq 5, 3) := by decide +kernel
theorem dX6_locator_30 : decode cX6_locator 30 = .ok (.iconst 0, 1) := by decide +kernel
theorem dX6_locator_31 : decode cX6_locator 31 = .ok (.ireturn, 1) := by decide +kernel
theorem dX6_locator_32 : decode cX6_locator 32 = .ok (.aload_n 0, 1) := by decide +kernel
theorem dX6_locator_33 : decode cX6_locator 33 = .ok (.aload_n 0, 1) := by decide +kernel
theorem dX6_locator_34 : decode cX6_locator 34 = .ok (.getfield 57, 3) := by decide +kernel
theorem dX6_locator_37 : decode cX6_locator 37 = .ok (.iload_n 1, 1) := by decide +kernel
theorem dX6_locator_38 : decode cX6_locator 38 = .ok (.iaload, 1) := by decide +kernel
theorem dX6_locator_39 : decode cX6_locator 39 = .ok (.invokevirtual 193, 3) := by decide +kernel
theorem dX6_locator_42 : decode cX6_locator 42 = .ok (.aload_n 0, 1) := by decide +kernel
theorem dX6_locator_43 : decode cX6_locator 43 = .ok (.iload_n 2, 1) := by decide +kernel
theorem dX6_locator_44 : decode cX6_locator 44 = .ok (.invokevirtual 196, 3) := by decide +kernel
theorem dX6_locator_47 : decode cX6_locator 47 = .ok (.istore 4, 2) := by decide +kernel
theorem dX6_locator_49 : decode cX6_locator 49 = .ok (.aload_n 0, 1) := by decide +kernel
theorem dX6_locator_50 : decode cX6_locator 50 = .ok (.iload_n 2, 1) := by decide +kernel
theorem dX6_locator_51 : decode cX6_locator 51 = .ok (.ifCond .lt 18, 3) := by decide +kernel
theorem dX6_locator_54 : decode cX6_locator 54 = .ok (.iload_n 2, 1) := by decide +kernel
theorem dX6_locator_55 : decode cX6_locator 55 = .ok (.iload 4, 2) := by decide +kernel
theorem dX6_locator_57 : decode cX6_locator 57 = .ok (.if_icmp .ge 12, 3) := by decide +kernel
theorem dX6_locator_60 : decode cX6_locator 60 = .ok (.iload_n 3, 1) := by decide +kernel
theorem dX6_locator_61 : decode cX6_locator 61 = .ok (.ifCond .lt 8, 3) := by decide +kernel
theorem dX6_locator_64 : decode cX6_locator 64 = .ok (.iload_n 3, 1) := by decide +kernel
theorem dX6_locator_65 : decode cX6_locator 65 = .ok (.iconst 2, 1) := by decide +kernel
theorem dX6_locator_66 : decode cX6_locator 66 = .ok (.if_icmp .le 7, 3) := by decide +kernel
theorem dX6_locator_69 : decode cX6_locator 69 = .ok (.iconst 1, 1) := by decide +kernel
theorem dX6_locator_70 : decode cX6_locator 70 = .ok (.goto 4, 3) := by decide +kernel
theorem dX6_locator_73 : decode cX6_locator 73 = .ok (.iconst 0, 1) := by decide +kernel
theorem dX6_locator_74 : decode cX6_locator 74 = .ok (.iconst 0, 1) := by decide +kernel
theorem dX6_locator_75 : decode cX6_locator 75 = .ok (.iconst 0, 1) := by decide +kernel
theorem dX6_locator_76 : decode cX6_locator 76 = .ok (.invokevirtual 115, 3) := by decide +kernel
theorem dX6_locator_79 : decode cX6_locator 79 = .ok (.ifCond .eq 5, 3) := by decide +kernel
theorem dX6_locator_82 : decode cX6_locator 82 = .ok (.iconst 0, 1) := by decide +kernel
theorem dX6_locator_83 : decode cX6_locator 83 = .ok (.ireturn, 1) := by decide +kernel
theorem dX6_locator_84 : decode cX6_locator 84 = .ok (.iload_n 3, 1) := by decide +kernel
theorem dX6_locator_85 : decode cX6_locator 85 = .ok (.ifCond .ne 10, 3) := by decide +kernel
theorem dX6_locator_88 : decode cX6_locator 88 = .ok (.aload_n 0, 1) := by decide +kernel
theorem dX6_locator_89 : decode cX6_locator 89 = .ok (.getfield 178, 3) := by decide +kernel
theorem dX6_locator_92 : decode cX6_locator 92 = .ok (.goto 19, 3) := by decide +kernel
theorem dX6_locator_95 : decode cX6_locator 95 = .ok (.iload_n 3, 1) := by decide +kernel
theorem dX6_locator_96 : decode cX6_locator 96 = .ok (.iconst 1, 1) := by decide +kernel
theorem dX6_locator_97 : decode cX6_locator 97 = .ok (.if_icmp .ne 10, 3) := by decide +kernel
theorem dX6_locator_100 : decode cX6_locator 100 = .ok (.aload_n 0, 1) := by decide +kernel
theorem dX6_locator_101 : decode cX6_locator 101 = .ok (.getfield 181, 3) := by decide +kernel
theorem dX6_locator_104 : decode cX6_locator 104 = .ok (.goto 7, 3) := by decide +kernel
theorem dX6_locator_107 : decode cX6_locator 107 = .ok (.aload_n 0, 1) := by decide +kernel
theorem dX6_locator_108 : decode cX6_locator 108 = .ok (.getfield 184, 3) := by decide +kernel
theorem dX6_locator_111 : decode cX6_locator 111 = .ok (.ireturn, 1) := by decide +kernel
theorem dX6_compare_0 : decode cX6_compare 0 = .ok (.aload_n 0, 1) := by decide +kernel
theorem dX6_compare_1 : decode cX6_compare 1 = .ok (.aload_n 0, 1) := by decide +kernel
theorem dX6_compare_2 : decode cX6_compare 2 = .ok (.iload_n 1, 1) := by decide +kernel
theorem dX6_compare_3 : decode cX6_compare 3 = .ok (.invokevirtual 111, 3) := by decide +kernel
theorem dX6_compare_6 : decode cX6_compare 6 = .ok (.ifCond .ne 11, 3) := by decide +kernel
theorem dX6_compare_9 : decode cX6_compare 9 = .ok (.aload_n 0, 1) := by decide +kernel
theorem dX6_compare_10 : decode cX6_compare 10 = .ok (.iload_n 2, 1) := by decide +kernel
theorem dX6_compare_11 : decode cX6_compare 11 = .ok (.invokevirtual 111, 3) := by decide +kernel
theorem dX6_compare_14 : decode cX6_compare 14 = .ok (.ifCond .eq 7, 3) := by decide +kernel
theorem dX6_compare_17 : decode cX6_compare 17 = .ok (.iconst 1, 1) := by decide +kernel
theorem dX6_compare_18 : decode cX6_compare 18 = .ok (.goto 4, 3) := by decide +kernel
theorem dX6_compare_21 : decode cX6_compare 21 = .ok (.iconst 0, 1) := by decide +kernel
theorem dX6_compare_22 : decode cX6_compare 22 = .ok (.iconst 0, 1) := by decide +kernel
theorem dX6_compare_23 : decode cX6_compare 23 = .ok (.iconst 0, 1) := by decide +kernel
theorem dX6_compare_24 : decode cX6_compare 24 = .ok (.invokevirtual 115, 3) := by decide +kernel
theorem dX6_compare_27 : decode cX6_compare 27 = .ok (.ifCond .eq 7, 3) := by decide +kernel
theorem dX6_compare_30 : decode cX6_compare 30 = .ok (.iconst 0, 1) := by decide +kernel
theorem dX6_compare_31 : decode cX6_compare 31 = .ok (.goto 9, 3) := by decide +kernel
theorem dX6_compare_34 : decode cX6_compare 34 = .ok (.aload_n 0, 1) := by decide +kernel
theorem dX6_compare_35 : decode cX6_compare 35 = .ok (.iload_n 1, 1) := by decide +kernel
theorem dX6_compare_36 : decode cX6_compare 36 = .ok (.iload_n 2, 1) := by decide +kernel
theorem dX6_compare_37 : decode cX6_compare 37 = .ok (.invokevirtual 158, 3) := by decide +kernel
theorem dX6_compare_40 : decode cX6_compare 40 = .ok (.ireturn, 1) := by decide +kernel
theorem dX6_told_0 : decode cX6_told 0 = .ok (.aload_n 0, 1) := by decide +kernel
theorem dX6_told_1 : decode cX6_told 1 = .ok (.invokevirtual 190, 3) := by decide +kernel
theorem dX6_told_4 : decode cX6_told 4 = .ok (.iconst 0, 1) := by decide +kernel
theorem dX6_told_5 : decode cX6_told 5 = .ok (.istore_n 3, 1) := by decide +kernel
theorem dX6_told_6 : decode cX6_told 6 = .ok (.iconst 0, 1) := by decide +kernel
theorem dX6_told_7 : decode cX6_told 7 = .ok (.istore 4, 2) := by decide +kernel
theorem dX6_told_9 : decode cX6_told 9 = .ok (.iconst 0, 1) := by decide +kernel
theorem dX6_told_10 : decode cX6_told 10 = .ok (.istore 5, 2) := by decide +kernel
theorem dX6_told_12 : decode cX6_told 12 = .ok (.iconst 0, 1) := by decide +kernel
theorem dX6_told_13 : decode cX6_told 13 = .ok (.istore 6, 2) := by decide +kernel
theorem dX6_told_15 : decode cX6_told 15 = .ok (.iconst 0, 1) := by decide +kernel
theorem dX6_told_16 : decode cX6_told 16 = .ok (.istore 7, 2) := by decide +kernel
theorem dX6_told_18 : decode cX6_told 18 = .ok (.iload 7, 2) := by decide +kernel
theorem dX6_told_20 : decode cX6_told 20 = .ok (.aload_n 0, 1) := by decide +kernel
theorem dX6_told_21 : decode cX6_told 21 = .ok (.getfield 103, 3) := by decide +kernel
theorem dX6_told_24 : decode cX6_told 24 = .ok (.if_icmp .ge 200, 3) := by decide +kernel
theorem dX6_told_27 : decode cX6_told 27 = .ok (.aload_n 0, 1) := by decide +kernel
theorem dX6_told_28 : decode cX6_told 28 = .ok (.getfield 38, 3) := by decide +kernel
theorem dX6_told_31 : decode cX6_told 31 = .ok (.iload 7, 2) := by decide +kernel
theorem dX6_told_33 : decode cX6_told 33 = .ok (.iaload, 1) := by decide +kernel
theorem dX6_told_34 : decode cX6_told 34 = .ok (.ifCond .le 52, 3) := by decide +kernel
theorem dX6_told_37 : decode cX6_told 37 = .ok (.iload_n 3, 1) := by decide +kernel
theorem dX6_told_38 : decode cX6_told 38 = .ok (.iload_n 1, 1) := by decide +kernel
theorem dX6_told_39 : decode cX6_told 39 = .ok (.if_icmp .ne 7, 3) := by decide +kernel
theorem dX6_told_42 : decode cX6_told 42 = .ok (.iconst 1, 1) := by decide +kernel
theorem dX6_told_43 : decode cX6_told 43 = .ok (.goto 5, 3) := by decide +kernel
theorem dX6_told_46 : decode cX6_told 46 = .ok (.iload 4, 2) := by decide +kernel
theorem dX6_told_48 : decode cX6_told 48 = .ok (.istore 4, 2) := by decide +kernel
theorem dX6_told_50 : decode cX6_told 50 = .ok (.iload_n 3, 1) := by decide +kernel
theorem dX6_told_51 : decode cX6_told 51 = .ok (.iload_n 1, 1) := by decide +kernel
theorem dX6_told_52 : decode cX6_told 52 = .ok (.if_icmp .ne 8, 3) := by decide +kernel
theorem dX6_told_55 : decode cX6_told 55 = .ok (.iload 7, 2) := by decide +kernel
theorem dX6_told_57 : decode cX6_told 57 = .ok (.goto 5, 3) := by decide +kernel
theorem dX6_told_60 : decode cX6_told 60 = .ok (.iload 5, 2) := by decide +kernel
theorem dX6_told_62 : decode cX6_told 62 = .ok (.istore 5, 2) := by decide +kernel
theorem dX6_told_64 : decode cX6_told 64 = .ok (.iload_n 3, 1) := by decide +kernel
theorem dX6_told_65 : decode cX6_told 65 = .ok (.iload_n 1, 1) := by decide +kernel
theorem dX6_told_66 : decode cX6_told 66 = .ok (.if_icmp .ne 13, 3) := by decide +kernel
theorem dX6_told_69 : decode cX6_told 69 = .ok (.aload_n 0, 1) := by decide +kernel
theorem dX6_told_70 : decode cX6_told 70 = .ok (.getfield 38, 3) := by decide +kernel
theorem dX6_told_73 : decode cX6_told 73 = .ok (.iload 7, 2) := by decide +kernel
theorem dX6_told_75 : decode cX6_told 75 = .ok (.iaload, 1) := by decide +kernel
theorem dX6_told_76 : decode cX6_told 76 = .ok (.goto 5, 3) := by decide +kernel
theorem dX6_told_79 : decode cX6_told 79 = .ok (.iload 6, 2) := by decide +kernel
theorem dX6_told_81 : decode cX6_told 81 = .ok (.istore 6, 2) := by decide +kernel
theorem dX6_told_83 : decode cX6_told 83 = .ok (.iinc 3 1, 3) := by decide +kernel
theorem dX6_told_86 : decode cX6_told 86 = .ok (.iconst 0, 1) := by decide +kernel
theorem dX6_told_87 : decode cX6_told 87 = .ok (.istore 8, 2) := by decide +kernel
theorem dX6_told_89 : decode cX6_told 89 = .ok (.iload 8, 2) := by decide +kernel
theorem dX6_told_91 : decode cX6_told 91 = .ok (.aload_n 0, 1) := by decide +kernel
theorem dX6_told_92 : decode cX6_told 92 = .ok (.getfield 44, 3) := by decide +kernel
theorem dX6_told_95 : decode cX6_told 95 = .ok (.iload 7, 2) := by decide +kernel
theorem dX6_told_97 : decode cX6_told 97 = .ok (.iaload, 1) := by decide +kernel
theorem dX6_told_98 : decode cX6_told 98 = .ok (.if_icmp .ge 81, 3) := by decide +kernel
theorem dX6_told_101 : decode cX6_told 101 = .ok (.aload_n 0, 1) := by decide +kernel
theorem dX6_told_102 : decode cX6_told 102 = .ok (.getfield 41, 3) := by decide +kernel
theorem dX6_told_105 : decode cX6_told 105 = .ok (.iconst 5, 1) := by decide +kernel
theorem dX6_told_106 : decode cX6_told 106 = .ok (.iload 7, 2) := by decide +kernel
theorem dX6_told_108 : decode cX6_told 108 = .ok (.imul, 1) := by decide +kernel
theorem dX6_told_109 : decode cX6_told 109 = .ok (.iload 8, 2) := by decide +kernel
theorem dX6_told_111 : decode cX6_told 111 = .ok (.iadd, 1) := by decide +kernel
theorem dX6_told_112 : decode cX6_told 112 = .ok (.iaload, 1) := by decide +kernel
theorem dX6_told_113 : decode cX6_told 113 = .ok (.istore 9, 2) := by decide +kernel
theorem dX6_told_115 : decode cX6_told 115 = .ok (.aload_n 0, 1) := by decide +kernel
theorem dX6_told_116 : decode cX6_told 116 = .ok (.aload_n 0, 1) := by decide +kernel
theorem dX6_told_117 : decode cX6_told 117 = .ok (.getfield 54, 3) := by decide +kernel
theorem dX6_told_120 : decode cX6_told 120 = .ok (.iload 9, 2) := by decide +kernel
theorem dX6_told_122 : decode cX6_told 122 = .ok (.iaload, 1) := by decide +kernel
theorem dX6_told_123 : decode cX6_told 123 = .ok (.invokevirtual 205, 3) := by decide +kernel
theorem dX6_told_126 : decode cX6_told 126 = .ok (.ifCond .ne 47, 3) := by decide +kernel
theorem dX6_told_129 : decode cX6_told 129 = .ok (.iload_n 3, 1) := by decide +kernel
theorem dX6_told_130 : decode cX6_told 130 = .ok (.iload_n 1, 1) := by decide +kernel
theorem dX6_told_131 : decode cX6_told 131 = .ok (.if_icmp .ne 7, 3) := by decide +kernel
theorem dX6_told_134 : decode cX6_told 134 = .ok (.iconst 2, 1) := by decide +kernel
theorem dX6_told_135 : decode cX6_told 135 = .ok (.goto 5, 3) := by decide +kernel
theorem dX6_told_138 : decode cX6_told 138 = .ok (.iload 4, 2) := by decide +kernel
theorem dX6_told_140 : decode cX6_told 140 = .ok (.istore 4, 2) := by decide +kernel
theorem dX6_told_142 : decode cX6_told 142 = .ok (.iload_n 3, 1) := by decide +kernel
theorem dX6_told_143 : decode cX6_told 143 = .ok (.iload_n 1, 1) := by decide +kernel
theorem dX6_told_144 : decode cX6_told 144 = .ok (.if_icmp .ne 8, 3) := by decide +kernel
theorem dX6_told_147 : decode cX6_told 147 = .ok (.iload 7, 2) := by decide +kernel
theorem dX6_told_149 : decode cX6_told 149 = .ok (.goto 5, 3) := by decide +kernel
theorem dX6_told_152 : decode cX6_told 152 = .ok (.iload 5, 2) := by decide +kernel
theorem dX6_told_154 : decode cX6_told 154 = .ok (.istore 5, 2) := by decide +kernel
theorem dX6_told_156 : decode cX6_told 156 = .ok (.iload_n 3, 1) := by decide +kernel
theorem dX6_told_157 : decode cX6_told 157 = .ok (.iload_n 1, 1) := by decide +kernel
theorem dX6_told_158 : decode cX6_told 158 = .ok (.if_icmp .ne 8, 3) := by decide +kernel
theorem dX6_told_161 : decode cX6_told 161 = .ok (.iload 9, 2) := by decide +kernel
theorem dX6_told_163 : decode cX6_told 163 = .ok (.goto 5, 3) := by decide +kernel
theorem dX6_told_166 : decode cX6_told 166 = .ok (.iload 6, 2) := by decide +kernel
theorem dX6_told_168 : decode cX6_told 168 = .ok (.istore 6, 2) := by decide +kernel
theorem dX6_told_170 : decode cX6_told 170 = .ok (.iinc 3 1, 3) := by decide +kernel
theorem dX6_told_173 : decode cX6_told 173 = .ok (.iinc 8 1, 3) := by decide +kernel
theorem dX6_told_176 : decode cX6_told 176 = .ok (.goto (-87), 3) := by decide +kernel
theorem dX6_told_179 : decode cX6_told 179 = .ok (.aload_n 0, 1) := by decide +kernel
theorem dX6_told_180 : decode cX6_told 180 = .ok (.iload 7, 2) := by decide +kernel
theorem dX6_told_182 : decode cX6_told 182 = .ok (.invokevirtual 208, 3) := by decide +kernel
theorem dX6_told_185 : decode cX6_told 185 = .ok (.ifCond .eq 33, 3) := by decide +kernel
theorem dX6_told_188 : decode cX6_told 188 = .ok (.iload_n 3, 1) := by decide +kernel
theorem dX6_told_189 : decode cX6_told 189 = .ok (.iload_n 1, 1) := by decide +kernel
theorem dX6_told_190 : decode cX6_told 190 = .ok (.if_icmp .ne 7, 3) := by decide +kernel
theorem dX6_told_193 : decode cX6_told 193 = .ok (.iconst 3, 1) := by decide +kernel
theorem dX6_told_194 : decode cX6_told 194 = .ok (.goto 5, 3) := by decide +kernel
theorem dX6_told_197 : decode cX6_told 197 = .ok (.iload 4, 2) := by decide +kernel
theorem dX6_told_199 : decode cX6_told 199 = .ok (.istore 4, 2) := by decide +kernel
theorem dX6_told_201 : decode cX6_told 201 = .ok (.iload_n 3, 1) := by decide +kernel
theorem dX6_told_202 : decode cX6_told 202 = .ok (.iload_n 1, 1) := by decide +kernel
theorem dX6_told_203 : decode cX6_told 203 = .ok (.if_icmp .ne 8, 3) := by decide +kernel
theorem dX6_told_206 : decode cX6_told 206 = .ok (.iload 7, 2) := by decide +kernel
theorem dX6_told_208 : decode cX6_told 208 = .ok (.goto 5, 3) := by decide +kernel
theorem dX6_told_211 : decode cX6_told 211 = .ok (.iload 5, 2) := by decide +kernel
theorem dX6_told_213 : decode cX6_told 213 = .ok (.istore 5, 2) := by decide +kernel
theorem dX6_told_215 : decode cX6_told 215 = .ok (.iinc 3 1, 3) := by decide +kernel
theorem dX6_told_218 : decode cX6_told 218 = .ok (.iinc 7 1, 3) := by decide +kernel
theorem dX6_told_221 : decode cX6_told 221 = .ok (.goto (-203), 3) := by decide +kernel
theorem dX6_told_224 : decode cX6_told 224 = .ok (.aload_n 0, 1) := by decide +kernel
theorem dX6_told_225 : decode cX6_told 225 = .ok (.iload_n 1, 1) := by decide +kernel
theorem dX6_told_226 : decode cX6_told 226 = .ok (.iconst (-1), 1) := by decide +kernel
theorem dX6_told_227 : decode cX6_told 227 = .ok (.if_icmp .eq 21, 3) := by decide +kernel
theorem dX6_told_230 : decode cX6_told 230 = .ok (.iload 4, 2) := by decide +kernel
theorem dX6_told_232 : decode cX6_told 232 = .ok (.ifCond .eq 12, 3) := by decide +kernel
theorem dX6_told_235 : decode cX6_told 235 = .ok (.iload_n 2, 1) := by decide +kernel
theorem dX6_told_236 : decode cX6_told 236 = .ok (.ifCond .lt 8, 3) := by decide +kernel
theorem dX6_told_239 : decode cX6_told 239 = .ok (.iload_n 2, 1) := by decide +kernel
theorem dX6_told_240 : decode cX6_told 240 = .ok (.iconst 2, 1) := by decide +kernel
theorem dX6_told_241 : decode cX6_told 241 = .ok (.if_icmp .le 7, 3) := by decide +kernel
theorem dX6_told_244 : decode cX6_told 244 = .ok (.iconst 1, 1) := by decide +kernel
theorem dX6_told_245 : decode cX6_told 245 = .ok (.goto 4, 3) := by decide +kernel
theorem dX6_told_248 : decode cX6_told 248 = .ok (.iconst 0, 1) := by decide +kernel
theorem dX6_told_249 : decode cX6_told 249 = .ok (.iconst 0, 1) := by decide +kernel
theorem dX6_told_250 : decode cX6_told 250 = .ok (.iconst 0, 1) := by decide +kernel
theorem dX6_told_251 : decode cX6_told 251 = .ok (.invokevirtual 115, 3) := by decide +kernel
theorem dX6_told_254 : decode cX6_told 254 = .ok (.ifCond .eq 5, 3) := by decide +kernel
theorem dX6_told_257 : decode cX6_told 257 = .ok (.iconst 0, 1) := by decide +kernel
theorem dX6_told_258 : decode cX6_told 258 = .ok (.ireturn, 1) := by decide +kernel
theorem dX6_told_259 : decode cX6_told 259 = .ok (.iload_n 1, 1) := by decide +kernel
theorem dX6_told_260 : decode cX6_told 260 = .ok (.iconst (-1), 1) := by decide +kernel
theorem dX6_told_261 : decode cX6_told 261 = .ok (.if_icmp .ne 7, 3) := by decide +kernel
theorem dX6_told_264 : decode cX6_told 264 = .ok (.iload_n 3, 1) := by decide +kernel
theorem dX6_told_265 : decode cX6_told 265 = .ok (.goto 24, 3) := by decide +kernel
theorem dX6_told_268 : decode cX6_told 268 = .ok (.iload_n 2, 1) := by decide +kernel
theorem dX6_told_269 : decode cX6_told 269 = .ok (.ifCond .ne 8, 3) := by decide +kernel
theorem dX6_told_272 : decode cX6_told 272 = .ok (.iload 4, 2) := by decide +kernel
theorem dX6_told_274 : decode cX6_told 274 = .ok (.goto 15, 3) := by decide +kernel
theorem dX6_told_277 : decode cX6_told 277 = .ok (.iload_n 2, 1) := by decide +kernel
theorem dX6_told_278 : decode cX6_told 278 = .ok (.iconst 1, 1) := by decide +kernel
theorem dX6_told_279 : decode cX6_told 279 = .ok (.if_icmp .ne 8, 3) := by decide +kernel
theorem dX6_told_282 : decode cX6_told 282 = .ok (.iload 5, 2) := by decide +kernel
theorem dX6_told_284 : decode cX6_told 284 = .ok (.goto 5, 3) := by decide +kernel
theorem dX6_told_287 : decode cX6_told 287 = .ok (.iload 6, 2) := by decide +kernel
theorem dX6_told_289 : decode cX6_told 289 = .ok (.ireturn, 1) := by decide +kernel
theorem dX6_style_0 : decode cX6_style 0 = .ok (.aload_n 0, 1) := by decide +kernel
theorem dX6_style_1 : decode cX6_style 1 = .ok (.iload_n 1, 1) := by decide +kernel
theorem dX6_style_2 : decode cX6_style 2 = .ok (.ifCond .lt 9, 3) := by decide +kernel
theorem dX6_style_5 : decode cX6_style 5 = .ok (.iload_n 1, 1) := by decide +kernel
theorem dX6_style_6 : decode cX6_style 6 = .ok (.bipush 127, 2) := by decide +kernel
theorem dX6_style_8 : decode cX6_style 8 = .ok (.if_icmp .le 7, 3) := by decide +kernel
theorem dX6_style_11 : decode cX6_style 11 = .ok (.iconst 1, 1) := by decide +kernel
theorem dX6_style_12 : decode cX6_style 12 = .ok (.goto 4, 3) := by decide +kernel
theorem dX6_style_15 : decode cX6_style 15 = .ok (.iconst 0, 1) := by decide +kernel
theorem dX6_style_16 : decode cX6_style 16 = .ok (.iload_n 1, 1) := by decide +kernel
theorem dX6_style_17 : decode cX6_style 17 = .ok (.ifCond .le 16, 3) := by decide +kernel
theorem dX6_style_20 : decode cX6_style 20 = .ok (.aload_n 0, 1) := by decide +kernel
theorem dX6_style_21 : decode cX6_style 21 = .ok (.getfield 211, 3) := by decide +kernel
