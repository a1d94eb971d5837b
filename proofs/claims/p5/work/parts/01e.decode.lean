theorem dX5_joinGathered_46 : decode cX5_joinGathered 46 = .ok (.iload 4, 2) := by decide +kernel
theorem dX5_joinGathered_48 : decode cX5_joinGathered 48 = .ok (.invokevirtual 187, 3) := by decide +kernel
theorem dX5_joinGathered_51 : decode cX5_joinGathered 51 = .ok (.invokestatic 277, 3) := by decide +kernel
theorem dX5_joinGathered_54 : decode cX5_joinGathered 54 = .ok (.istore_n 2, 1) := by decide +kernel
theorem dX5_joinGathered_55 : decode cX5_joinGathered 55 = .ok (.iload_n 3, 1) := by decide +kernel
theorem dX5_joinGathered_56 : decode cX5_joinGathered 56 = .ok (.ifCond .ne 15, 3) := by decide +kernel
theorem dX5_joinGathered_59 : decode cX5_joinGathered 59 = .ok (.aload_n 0, 1) := by decide +kernel
theorem dX5_joinGathered_60 : decode cX5_joinGathered 60 = .ok (.getfield 51, 3) := by decide +kernel
theorem dX5_joinGathered_63 : decode cX5_joinGathered 63 = .ok (.iload 4, 2) := by decide +kernel
theorem dX5_joinGathered_65 : decode cX5_joinGathered 65 = .ok (.invokevirtual 283, 3) := by decide +kernel
theorem dX5_joinGathered_68 : decode cX5_joinGathered 68 = .ok (.ifCond .eq 7, 3) := by decide +kernel
theorem dX5_joinGathered_71 : decode cX5_joinGathered 71 = .ok (.iconst 1, 1) := by decide +kernel
theorem dX5_joinGathered_72 : decode cX5_joinGathered 72 = .ok (.goto 4, 3) := by decide +kernel
theorem dX5_joinGathered_75 : decode cX5_joinGathered 75 = .ok (.iconst 0, 1) := by decide +kernel
theorem dX5_joinGathered_76 : decode cX5_joinGathered 76 = .ok (.istore_n 3, 1) := by decide +kernel
theorem dX5_joinGathered_77 : decode cX5_joinGathered 77 = .ok (.goto 40, 3) := by decide +kernel
theorem dX5_joinGathered_80 : decode cX5_joinGathered 80 = .ok (.aload_n 0, 1) := by decide +kernel
theorem dX5_joinGathered_81 : decode cX5_joinGathered 81 = .ok (.iload_n 1, 1) := by decide +kernel
theorem dX5_joinGathered_82 : decode cX5_joinGathered 82 = .ok (.iload_n 2, 1) := by decide +kernel
theorem dX5_joinGathered_83 : decode cX5_joinGathered 83 = .ok (.iload_n 3, 1) := by decide +kernel
theorem dX5_joinGathered_84 : decode cX5_joinGathered 84 = .ok (.invokevirtual 286, 3) := by decide +kernel
theorem dX5_joinGathered_87 : decode cX5_joinGathered 87 = .ok (.aload_n 0, 1) := by decide +kernel
theorem dX5_joinGathered_88 : decode cX5_joinGathered 88 = .ok (.getfield 51, 3) := by decide +kernel
theorem dX5_joinGathered_91 : decode cX5_joinGathered 91 = .ok (.iload 4, 2) := by decide +kernel
theorem dX5_joinGathered_93 : decode cX5_joinGathered 93 = .ok (.invokevirtual 184, 3) := by decide +kernel
theorem dX5_joinGathered_96 : decode cX5_joinGathered 96 = .ok (.istore_n 1, 1) := by decide +kernel
theorem dX5_joinGathered_97 : decode cX5_joinGathered 97 = .ok (.aload_n 0, 1) := by decide +kernel
theorem dX5_joinGathered_98 : decode cX5_joinGathered 98 = .ok (.getfield 51, 3) := by decide +kernel
theorem dX5_joinGathered_101 : decode cX5_joinGathered 101 = .ok (.iload 4, 2) := by decide +kernel
theorem dX5_joinGathered_103 : decode cX5_joinGathered 103 = .ok (.invokevirtual 187, 3) := by decide +kernel
theorem dX5_joinGathered_106 : decode cX5_joinGathered 106 = .ok (.istore_n 2, 1) := by decide +kernel
theorem dX5_joinGathered_107 : decode cX5_joinGathered 107 = .ok (.aload_n 0, 1) := by decide +kernel
theorem dX5_joinGathered_108 : decode cX5_joinGathered 108 = .ok (.getfield 51, 3) := by decide +kernel
theorem dX5_joinGathered_111 : decode cX5_joinGathered 111 = .ok (.iload 4, 2) := by decide +kernel
theorem dX5_joinGathered_113 : decode cX5_joinGathered 113 = .ok (.invokevirtual 283, 3) := by decide +kernel
theorem dX5_joinGathered_116 : decode cX5_joinGathered 116 = .ok (.istore_n 3, 1) := by decide +kernel
theorem dX5_joinGathered_117 : decode cX5_joinGathered 117 = .ok (.iinc 4 1, 3) := by decide +kernel
theorem dX5_joinGathered_120 : decode cX5_joinGathered 120 = .ok (.goto (-111), 3) := by decide +kernel
theorem dX5_joinGathered_123 : decode cX5_joinGathered 123 = .ok (.aload_n 0, 1) := by decide +kernel
theorem dX5_joinGathered_124 : decode cX5_joinGathered 124 = .ok (.iload_n 1, 1) := by decide +kernel
theorem dX5_joinGathered_125 : decode cX5_joinGathered 125 = .ok (.iload_n 2, 1) := by decide +kernel
theorem dX5_joinGathered_126 : decode cX5_joinGathered 126 = .ok (.iload_n 3, 1) := by decide +kernel
theorem dX5_joinGathered_127 : decode cX5_joinGathered 127 = .ok (.invokevirtual 286, 3) := by decide +kernel
theorem dX5_joinGathered_130 : decode cX5_joinGathered 130 = .ok (.return_, 1) := by decide +kernel
theorem dX5_addLocators_0 : decode cX5_addLocators 0 = .ok (.iload_n 1, 1) := by decide +kernel
theorem dX5_addLocators_1 : decode cX5_addLocators 1 = .ok (.ifCond .ne 4, 3) := by decide +kernel
theorem dX5_addLocators_4 : decode cX5_addLocators 4 = .ok (.return_, 1) := by decide +kernel
theorem dX5_addLocators_5 : decode cX5_addLocators 5 = .ok (.iload_n 3, 1) := by decide +kernel
theorem dX5_addLocators_6 : decode cX5_addLocators 6 = .ok (.ifCond .ne 10, 3) := by decide +kernel
theorem dX5_addLocators_9 : decode cX5_addLocators 9 = .ok (.iload_n 2, 1) := by decide +kernel
theorem dX5_addLocators_10 : decode cX5_addLocators 10 = .ok (.iload_n 1, 1) := by decide +kernel
theorem dX5_addLocators_11 : decode cX5_addLocators 11 = .ok (.isub, 1) := by decide +kernel
theorem dX5_addLocators_12 : decode cX5_addLocators 12 = .ok (.iconst 2, 1) := by decide +kernel
theorem dX5_addLocators_13 : decode cX5_addLocators 13 = .ok (.if_icmp .lt 14, 3) := by decide +kernel
theorem dX5_addLocators_16 : decode cX5_addLocators 16 = .ok (.aload_n 0, 1) := by decide +kernel
theorem dX5_addLocators_17 : decode cX5_addLocators 17 = .ok (.getfield 55, 3) := by decide +kernel
theorem dX5_addLocators_20 : decode cX5_addLocators 20 = .ok (.iload_n 1, 1) := by decide +kernel
theorem dX5_addLocators_21 : decode cX5_addLocators 21 = .ok (.iload_n 2, 1) := by decide +kernel
theorem dX5_addLocators_22 : decode cX5_addLocators 22 = .ok (.iload_n 3, 1) := by decide +kernel
theorem dX5_addLocators_23 : decode cX5_addLocators 23 = .ok (.invokevirtual 138, 3) := by decide +kernel
theorem dX5_addLocators_26 : decode cX5_addLocators 26 = .ok (.return_, 1) := by decide +kernel
theorem dX5_addLocators_27 : decode cX5_addLocators 27 = .ok (.aload_n 0, 1) := by decide +kernel
theorem dX5_addLocators_28 : decode cX5_addLocators 28 = .ok (.getfield 55, 3) := by decide +kernel
theorem dX5_addLocators_31 : decode cX5_addLocators 31 = .ok (.iload_n 1, 1) := by decide +kernel
theorem dX5_addLocators_32 : decode cX5_addLocators 32 = .ok (.iload_n 1, 1) := by decide +kernel
theorem dX5_addLocators_33 : decode cX5_addLocators 33 = .ok (.iconst 0, 1) := by decide +kernel
theorem dX5_addLocators_34 : decode cX5_addLocators 34 = .ok (.invokevirtual 138, 3) := by decide +kernel
theorem dX5_addLocators_37 : decode cX5_addLocators 37 = .ok (.iload_n 2, 1) := by decide +kernel
theorem dX5_addLocators_38 : decode cX5_addLocators 38 = .ok (.iload_n 1, 1) := by decide +kernel
theorem dX5_addLocators_39 : decode cX5_addLocators 39 = .ok (.if_icmp .eq 13, 3) := by decide +kernel
theorem dX5_addLocators_42 : decode cX5_addLocators 42 = .ok (.aload_n 0, 1) := by decide +kernel
theorem dX5_addLocators_43 : decode cX5_addLocators 43 = .ok (.getfield 55, 3) := by decide +kernel
theorem dX5_addLocators_46 : decode cX5_addLocators 46 = .ok (.iload_n 2, 1) := by decide +kernel
theorem dX5_addLocators_47 : decode cX5_addLocators 47 = .ok (.iload_n 2, 1) := by decide +kernel
theorem dX5_addLocators_48 : decode cX5_addLocators 48 = .ok (.iconst 0, 1) := by decide +kernel
theorem dX5_addLocators_49 : decode cX5_addLocators 49 = .ok (.invokevirtual 138, 3) := by decide +kernel
theorem dX5_addLocators_52 : decode cX5_addLocators 52 = .ok (.return_, 1) := by decide +kernel
theorem dX5_findSeen_0 : decode cX5_findSeen 0 = .ok (.aload_n 0, 1) := by decide +kernel
theorem dX5_findSeen_1 : decode cX5_findSeen 1 = .ok (.getfield 61, 3) := by decide +kernel
theorem dX5_findSeen_4 : decode cX5_findSeen 4 = .ok (.invokevirtual 215, 3) := by decide +kernel
theorem dX5_findSeen_7 : decode cX5_findSeen 7 = .ok (.iconst 0, 1) := by decide +kernel
theorem dX5_findSeen_8 : decode cX5_findSeen 8 = .ok (.istore_n 2, 1) := by decide +kernel
theorem dX5_findSeen_9 : decode cX5_findSeen 9 = .ok (.iload_n 2, 1) := by decide +kernel
theorem dX5_findSeen_10 : decode cX5_findSeen 10 = .ok (.aload_n 0, 1) := by decide +kernel
theorem dX5_findSeen_11 : decode cX5_findSeen 11 = .ok (.getfield 22, 3) := by decide +kernel
theorem dX5_findSeen_14 : decode cX5_findSeen 14 = .ok (.if_icmp .ge 30, 3) := by decide +kernel
theorem dX5_findSeen_17 : decode cX5_findSeen 17 = .ok (.aload_n 0, 1) := by decide +kernel
theorem dX5_findSeen_18 : decode cX5_findSeen 18 = .ok (.iload_n 2, 1) := by decide +kernel
theorem dX5_findSeen_19 : decode cX5_findSeen 19 = .ok (.invokevirtual 254, 3) := by decide +kernel
theorem dX5_findSeen_22 : decode cX5_findSeen 22 = .ok (.iload_n 1, 1) := by decide +kernel
theorem dX5_findSeen_23 : decode cX5_findSeen 23 = .ok (.if_icmp .ne 15, 3) := by decide +kernel
theorem dX5_findSeen_26 : decode cX5_findSeen 26 = .ok (.aload_n 0, 1) := by decide +kernel
theorem dX5_findSeen_27 : decode cX5_findSeen 27 = .ok (.aload_n 0, 1) := by decide +kernel
theorem dX5_findSeen_28 : decode cX5_findSeen 28 = .ok (.iload_n 2, 1) := by decide +kernel
theorem dX5_findSeen_29 : decode cX5_findSeen 29 = .ok (.invokevirtual 107, 3) := by decide +kernel
theorem dX5_findSeen_32 : decode cX5_findSeen 32 = .ok (.getfield 152, 3) := by decide +kernel
theorem dX5_findSeen_35 : decode cX5_findSeen 35 = .ok (.invokevirtual 289, 3) := by decide +kernel
theorem dX5_findSeen_38 : decode cX5_findSeen 38 = .ok (.iinc 2 1, 3) := by decide +kernel
theorem dX5_findSeen_41 : decode cX5_findSeen 41 = .ok (.goto (-32), 3) := by decide +kernel
theorem dX5_findSeen_44 : decode cX5_findSeen 44 = .ok (.return_, 1) := by decide +kernel
theorem dX5_addSeenOf_0 : decode cX5_addSeenOf 0 = .ok (.iconst 0, 1) := by decide +kernel
theorem dX5_addSeenOf_1 : decode cX5_addSeenOf 1 = .ok (.istore_n 2, 1) := by decide +kernel
theorem dX5_addSeenOf_2 : decode cX5_addSeenOf 2 = .ok (.iload_n 2, 1) := by decide +kernel
theorem dX5_addSeenOf_3 : decode cX5_addSeenOf 3 = .ok (.aload_n 1, 1) := by decide +kernel
theorem dX5_addSeenOf_4 : decode cX5_addSeenOf 4 = .ok (.invokevirtual 125, 3) := by decide +kernel
theorem dX5_addSeenOf_7 : decode cX5_addSeenOf 7 = .ok (.if_icmp .ge 38, 3) := by decide +kernel
theorem dX5_addSeenOf_10 : decode cX5_addSeenOf 10 = .ok (.aload_n 0, 1) := by decide +kernel
theorem dX5_addSeenOf_11 : decode cX5_addSeenOf 11 = .ok (.aload_n 1, 1) := by decide +kernel
theorem dX5_addSeenOf_12 : decode cX5_addSeenOf 12 = .ok (.iload_n 2, 1) := by decide +kernel
theorem dX5_addSeenOf_13 : decode cX5_addSeenOf 13 = .ok (.invokevirtual 169, 3) := by decide +kernel
theorem dX5_addSeenOf_16 : decode cX5_addSeenOf 16 = .ok (.invokevirtual 254, 3) := by decide +kernel
theorem dX5_addSeenOf_19 : decode cX5_addSeenOf 19 = .ok (.istore_n 3, 1) := by decide +kernel
theorem dX5_addSeenOf_20 : decode cX5_addSeenOf 20 = .ok (.aload_n 0, 1) := by decide +kernel
theorem dX5_addSeenOf_21 : decode cX5_addSeenOf 21 = .ok (.getfield 61, 3) := by decide +kernel
theorem dX5_addSeenOf_24 : decode cX5_addSeenOf 24 = .ok (.iload_n 3, 1) := by decide +kernel
theorem dX5_addSeenOf_25 : decode cX5_addSeenOf 25 = .ok (.invokevirtual 155, 3) := by decide +kernel
theorem dX5_addSeenOf_28 : decode cX5_addSeenOf 28 = .ok (.ifCond .ne 11, 3) := by decide +kernel
theorem dX5_addSeenOf_31 : decode cX5_addSeenOf 31 = .ok (.aload_n 0, 1) := by decide +kernel
theorem dX5_addSeenOf_32 : decode cX5_addSeenOf 32 = .ok (.getfield 61, 3) := by decide +kernel
theorem dX5_addSeenOf_35 : decode cX5_addSeenOf 35 = .ok (.iload_n 3, 1) := by decide +kernel
theorem dX5_addSeenOf_36 : decode cX5_addSeenOf 36 = .ok (.invokevirtual 158, 3) := by decide +kernel
theorem dX5_addSeenOf_39 : decode cX5_addSeenOf 39 = .ok (.iinc 2 1, 3) := by decide +kernel
theorem dX5_addSeenOf_42 : decode cX5_addSeenOf 42 = .ok (.goto (-40), 3) := by decide +kernel
theorem dX5_addSeenOf_45 : decode cX5_addSeenOf 45 = .ok (.return_, 1) := by decide +kernel
theorem dX5_countByRows_0 : decode cX5_countByRows 0 = .ok (.iconst 0, 1) := by decide +kernel
theorem dX5_countByRows_1 : decode cX5_countByRows 1 = .ok (.istore_n 1, 1) := by decide +kernel
theorem dX5_countByRows_2 : decode cX5_countByRows 2 = .ok (.iload_n 1, 1) := by decide +kernel
theorem dX5_countByRows_3 : decode cX5_countByRows 3 = .ok (.aload_n 0, 1) := by decide +kernel
theorem dX5_countByRows_4 : decode cX5_countByRows 4 = .ok (.getfield 22, 3) := by decide +kernel
theorem dX5_countByRows_7 : decode cX5_countByRows 7 = .ok (.if_icmp .ge 17, 3) := by decide +kernel
theorem dX5_countByRows_10 : decode cX5_countByRows 10 = .ok (.aload_n 0, 1) := by decide +kernel
theorem dX5_countByRows_11 : decode cX5_countByRows 11 = .ok (.iload_n 1, 1) := by decide +kernel
theorem dX5_countByRows_12 : decode cX5_countByRows 12 = .ok (.invokevirtual 107, 3) := by decide +kernel
theorem dX5_countByRows_15 : decode cX5_countByRows 15 = .ok (.invokevirtual 293, 3) := by decide +kernel
theorem dX5_countByRows_18 : decode cX5_countByRows 18 = .ok (.iinc 1 1, 3) := by decide +kernel
theorem dX5_countByRows_21 : decode cX5_countByRows 21 = .ok (.goto (-19), 3) := by decide +kernel
theorem dX5_countByRows_24 : decode cX5_countByRows 24 = .ok (.iconst 0, 1) := by decide +kernel
theorem dX5_countByRows_25 : decode cX5_countByRows 25 = .ok (.istore_n 1, 1) := by decide +kernel
theorem dX5_countByRows_26 : decode cX5_countByRows 26 = .ok (.iload_n 1, 1) := by decide +kernel
theorem dX5_countByRows_27 : decode cX5_countByRows 27 = .ok (.aload_n 0, 1) := by decide +kernel
theorem dX5_countByRows_28 : decode cX5_countByRows 28 = .ok (.getfield 22, 3) := by decide +kernel
theorem dX5_countByRows_31 : decode cX5_countByRows 31 = .ok (.if_icmp .ge 88, 3) := by decide +kernel
theorem dX5_countByRows_34 : decode cX5_countByRows 34 = .ok (.aload_n 0, 1) := by decide +kernel
theorem dX5_countByRows_35 : decode cX5_countByRows 35 = .ok (.iload_n 1, 1) := by decide +kernel
theorem dX5_countByRows_36 : decode cX5_countByRows 36 = .ok (.invokevirtual 107, 3) := by decide +kernel
theorem dX5_countByRows_39 : decode cX5_countByRows 39 = .ok (.astore_n 2, 1) := by decide +kernel
theorem dX5_countByRows_40 : decode cX5_countByRows 40 = .ok (.aload_n 0, 1) := by decide +kernel
theorem dX5_countByRows_41 : decode cX5_countByRows 41 = .ok (.aload_n 2, 1) := by decide +kernel
theorem dX5_countByRows_42 : decode cX5_countByRows 42 = .ok (.getfield 238, 3) := by decide +kernel
theorem dX5_countByRows_45 : decode cX5_countByRows 45 = .ok (.invokevirtual 107, 3) := by decide +kernel
theorem dX5_countByRows_48 : decode cX5_countByRows 48 = .ok (.astore_n 3, 1) := by decide +kernel
theorem dX5_countByRows_49 : decode cX5_countByRows 49 = .ok (.aload_n 3, 1) := by decide +kernel
theorem dX5_countByRows_50 : decode cX5_countByRows 50 = .ok (.dup, 1) := by decide +kernel
theorem dX5_countByRows_51 : decode cX5_countByRows 51 = .ok (.getfield 296, 3) := by decide +kernel
theorem dX5_countByRows_54 : decode cX5_countByRows 54 = .ok (.aload_n 2, 1) := by decide +kernel
theorem dX5_countByRows_55 : decode cX5_countByRows 55 = .ok (.getfield 133, 3) := by decide +kernel
theorem dX5_countByRows_58 : decode cX5_countByRows 58 = .ok (.invokevirtual 142, 3) := by decide +kernel
theorem dX5_countByRows_61 : decode cX5_countByRows 61 = .ok (.iadd, 1) := by decide +kernel
theorem dX5_countByRows_62 : decode cX5_countByRows 62 = .ok (.putfield 296, 3) := by decide +kernel
theorem dX5_countByRows_65 : decode cX5_countByRows 65 = .ok (.aload_n 3, 1) := by decide +kernel
theorem dX5_countByRows_66 : decode cX5_countByRows 66 = .ok (.dup, 1) := by decide +kernel
theorem dX5_countByRows_67 : decode cX5_countByRows 67 = .ok (.getfield 299, 3) := by decide +kernel
theorem dX5_countByRows_70 : decode cX5_countByRows 70 = .ok (.aload_n 2, 1) := by decide +kernel
theorem dX5_countByRows_71 : decode cX5_countByRows 71 = .ok (.getfield 152, 3) := by decide +kernel
theorem dX5_countByRows_74 : decode cX5_countByRows 74 = .ok (.invokevirtual 125, 3) := by decide +kernel
theorem dX5_countByRows_77 : decode cX5_countByRows 77 = .ok (.iadd, 1) := by decide +kernel
theorem dX5_countByRows_78 : decode cX5_countByRows 78 = .ok (.putfield 299, 3) := by decide +kernel
theorem dX5_countByRows_81 : decode cX5_countByRows 81 = .ok (.aload_n 0, 1) := by decide +kernel
theorem dX5_countByRows_82 : decode cX5_countByRows 82 = .ok (.aload_n 2, 1) := by decide +kernel
theorem dX5_countByRows_83 : decode cX5_countByRows 83 = .ok (.getfield 251, 3) := by decide +kernel
theorem dX5_countByRows_86 : decode cX5_countByRows 86 = .ok (.invokevirtual 84, 3) := by decide +kernel
theorem dX5_countByRows_89 : decode cX5_countByRows 89 = .ok (.ifCond .eq 24, 3) := by decide +kernel
theorem dX5_countByRows_92 : decode cX5_countByRows 92 = .ok (.aload_n 0, 1) := by decide +kernel
theorem dX5_countByRows_93 : decode cX5_countByRows 93 = .ok (.aload_n 0, 1) := by decide +kernel
theorem dX5_countByRows_94 : decode cX5_countByRows 94 = .ok (.aload_n 2, 1) := by decide +kernel
theorem dX5_countByRows_95 : decode cX5_countByRows 95 = .ok (.getfield 251, 3) := by decide +kernel
theorem dX5_countByRows_98 : decode cX5_countByRows 98 = .ok (.invokevirtual 254, 3) := by decide +kernel
theorem dX5_countByRows_101 : decode cX5_countByRows 101 = .ok (.invokevirtual 107, 3) := by decide +kernel
theorem dX5_countByRows_104 : decode cX5_countByRows 104 = .ok (.dup, 1) := by decide +kernel
theorem dX5_countByRows_105 : decode cX5_countByRows 105 = .ok (.getfield 302, 3) := by decide +kernel
theorem dX5_countByRows_108 : decode cX5_countByRows 108 = .ok (.iconst 1, 1) := by decide +kernel
theorem dX5_countByRows_109 : decode cX5_countByRows 109 = .ok (.iadd, 1) := by decide +kernel
theorem dX5_countByRows_110 : decode cX5_countByRows 110 = .ok (.putfield 302, 3) := by decide +kernel
theorem dX5_countByRows_113 : decode cX5_countByRows 113 = .ok (.iinc 1 1, 3) := by decide +kernel
theorem dX5_countByRows_116 : decode cX5_countByRows 116 = .ok (.goto (-90), 3) := by decide +kernel
theorem dX5_countByRows_119 : decode cX5_countByRows 119 = .ok (.return_, 1) := by decide +kernel
theorem dX5_warnOf_0 : decode cX5_warnOf 0 = .ok (.aload_n 0, 1) := by decide +kernel
theorem dX5_warnOf_1 : decode cX5_warnOf 1 = .ok (.iload_n 1, 1) := by decide +kernel
theorem dX5_warnOf_2 : decode cX5_warnOf 2 = .ok (.invokevirtual 107, 3) := by decide +kernel
theorem dX5_warnOf_5 : decode cX5_warnOf 5 = .ok (.astore_n 2, 1) := by decide +kernel
theorem dX5_warnOf_6 : decode cX5_warnOf 6 = .ok (.aload_n 2, 1) := by decide +kernel
theorem dX5_warnOf_7 : decode cX5_warnOf 7 = .ok (.getfield 143, 3) := by decide +kernel
theorem dX5_warnOf_10 : decode cX5_warnOf 10 = .ok (.ifCond .lt 26, 3) := by decide +kernel
theorem dX5_warnOf_13 : decode cX5_warnOf 13 = .ok (.aload_n 0, 1) := by decide +kernel
theorem dX5_warnOf_14 : decode cX5_warnOf 14 = .ok (.getfield 67, 3) := by decide +kernel
theorem dX5_warnOf_17 : decode cX5_warnOf 17 = .ok (.iconst 1, 1) := by decide +kernel
theorem dX5_warnOf_18 : decode cX5_warnOf 18 = .ok (.iload_n 1, 1) := by decide +kernel
theorem dX5_warnOf_19 : decode cX5_warnOf 19 = .ok (.aload_n 2, 1) := by decide +kernel
theorem dX5_warnOf_20 : decode cX5_warnOf 20 = .ok (.getfield 133, 3) := by decide +kernel
theorem dX5_warnOf_23 : decode cX5_warnOf 23 = .ok (.aload_n 2, 1) := by decide +kernel
theorem dX5_warnOf_24 : decode cX5_warnOf 24 = .ok (.getfield 143, 3) := by decide +kernel
theorem dX5_warnOf_27 : decode cX5_warnOf 27 = .ok (.invokevirtual 184, 3) := by decide +kernel
theorem dX5_warnOf_30 : decode cX5_warnOf 30 = .ok (.ldc 137, 2) := by decide +kernel
theorem dX5_warnOf_32 : decode cX5_warnOf 32 = .ok (.irem, 1) := by decide +kernel
theorem dX5_warnOf_33 : decode cX5_warnOf 33 = .ok (.invokevirtual 305, 3) := by decide +kernel
theorem dX5_warnOf_36 : decode cX5_warnOf 36 = .ok (.iconst 0, 1) := by decide +kernel
theorem dX5_warnOf_37 : decode cX5_warnOf 37 = .ok (.istore_n 3, 1) := by decide +kernel
theorem dX5_warnOf_38 : decode cX5_warnOf 38 = .ok (.iload_n 3, 1) := by decide +kernel
theorem dX5_warnOf_39 : decode cX5_warnOf 39 = .ok (.aload_n 2, 1) := by decide +kernel
theorem dX5_warnOf_40 : decode cX5_warnOf 40 = .ok (.getfield 152, 3) := by decide +kernel
theorem dX5_warnOf_43 : decode cX5_warnOf 43 = .ok (.invokevirtual 125, 3) := by decide +kernel
theorem dX5_warnOf_46 : decode cX5_warnOf 46 = .ok (.if_icmp .ge 46, 3) := by decide +kernel
theorem dX5_warnOf_49 : decode cX5_warnOf 49 = .ok (.aload_n 2, 1) := by decide +kernel
theorem dX5_warnOf_50 : decode cX5_warnOf 50 = .ok (.getfield 152, 3) := by decide +kernel
theorem dX5_warnOf_53 : decode cX5_warnOf 53 = .ok (.iload_n 3, 1) := by decide +kernel
theorem dX5_warnOf_54 : decode cX5_warnOf 54 = .ok (.invokevirtual 169, 3) := by decide +kernel
theorem dX5_warnOf_57 : decode cX5_warnOf 57 = .ok (.istore 4, 2) := by decide +kernel
theorem dX5_warnOf_59 : decode cX5_warnOf 59 = .ok (.aload_n 0, 1) := by decide +kernel
theorem dX5_warnOf_60 : decode cX5_warnOf 60 = .ok (.aload_n 0, 1) := by decide +kernel
theorem dX5_warnOf_61 : decode cX5_warnOf 61 = .ok (.iload 4, 2) := by decide +kernel
theorem dX5_warnOf_63 : decode cX5_warnOf 63 = .ok (.invokevirtual 254, 3) := by decide +kernel
theorem dX5_warnOf_66 : decode cX5_warnOf 66 = .ok (.invokevirtual 107, 3) := by decide +kernel
theorem dX5_warnOf_69 : decode cX5_warnOf 69 = .ok (.getfield 296, 3) := by decide +kernel
theorem dX5_warnOf_72 : decode cX5_warnOf 72 = .ok (.ifCond .ne 14, 3) := by decide +kernel
theorem dX5_warnOf_75 : decode cX5_warnOf 75 = .ok (.aload_n 0, 1) := by decide +kernel
theorem dX5_warnOf_76 : decode cX5_warnOf 76 = .ok (.getfield 67, 3) := by decide +kernel
theorem dX5_warnOf_79 : decode cX5_warnOf 79 = .ok (.iconst 2, 1) := by decide +kernel
theorem dX5_warnOf_80 : decode cX5_warnOf 80 = .ok (.iload_n 1, 1) := by decide +kernel
theorem dX5_warnOf_81 : decode cX5_warnOf 81 = .ok (.iload 4, 2) := by decide +kernel
theorem dX5_warnOf_83 : decode cX5_warnOf 83 = .ok (.invokevirtual 305, 3) := by decide +kernel
theorem dX5_warnOf_86 : decode cX5_warnOf 86 = .ok (.iinc 3 1, 3) := by decide +kernel
theorem dX5_warnOf_89 : decode cX5_warnOf 89 = .ok (.goto (-51), 3) := by decide +kernel
theorem dX5_warnOf_92 : decode cX5_warnOf 92 = .ok (.aload_n 2, 1) := by decide +kernel
theorem dX5_warnOf_93 : decode cX5_warnOf 93 = .ok (.getfield 238, 3) := by decide +kernel
theorem dX5_warnOf_96 : decode cX5_warnOf 96 = .ok (.iload_n 1, 1) := by decide +kernel
theorem dX5_warnOf_97 : decode cX5_warnOf 97 = .ok (.if_icmp .ne 20, 3) := by decide +kernel
theorem dX5_warnOf_100 : decode cX5_warnOf 100 = .ok (.aload_n 2, 1) := by decide +kernel
theorem dX5_warnOf_101 : decode cX5_warnOf 101 = .ok (.invokevirtual 308, 3) := by decide +kernel
theorem dX5_warnOf_104 : decode cX5_warnOf 104 = .ok (.ifCond .eq 13, 3) := by decide +kernel
theorem dX5_warnOf_107 : decode cX5_warnOf 107 = .ok (.aload_n 0, 1) := by decide +kernel
theorem dX5_warnOf_108 : decode cX5_warnOf 108 = .ok (.getfield 67, 3) := by decide +kernel
theorem dX5_warnOf_111 : decode cX5_warnOf 111 = .ok (.iconst 3, 1) := by decide +kernel
theorem dX5_warnOf_112 : decode cX5_warnOf 112 = .ok (.iload_n 1, 1) := by decide +kernel
theorem dX5_warnOf_113 : decode cX5_warnOf 113 = .ok (.iconst 0, 1) := by decide +kernel
theorem dX5_warnOf_114 : decode cX5_warnOf 114 = .ok (.invokevirtual 305, 3) := by decide +kernel
theorem dX5_warnOf_117 : decode cX5_warnOf 117 = .ok (.return_, 1) := by decide +kernel
theorem dX5_firstFault_0 : decode cX5_firstFault 0 = .ok (.iconst 0, 1) := by decide +kernel
theorem dX5_firstFault_1 : decode cX5_firstFault 1 = .ok (.istore_n 1, 1) := by decide +kernel
theorem dX5_firstFault_2 : decode cX5_firstFault 2 = .ok (.iconst 0, 1) := by decide +kernel
theorem dX5_firstFault_3 : decode cX5_firstFault 3 = .ok (.istore_n 2, 1) := by decide +kernel
theorem dX5_firstFault_4 : decode cX5_firstFault 4 = .ok (.iload_n 2, 1) := by decide +kernel
theorem dX5_firstFault_5 : decode cX5_firstFault 5 = .ok (.aload_n 0, 1) := by decide +kernel
theorem dX5_firstFault_6 : decode cX5_firstFault 6 = .ok (.getfield 71, 3) := by decide +kernel
theorem dX5_firstFault_9 : decode cX5_firstFault 9 = .ok (.invokevirtual 125, 3) := by decide +kernel
theorem dX5_firstFault_12 : decode cX5_firstFault 12 = .ok (.if_icmp .ge 64, 3) := by decide +kernel
theorem dX5_firstFault_15 : decode cX5_firstFault 15 = .ok (.aload_n 0, 1) := by decide +kernel
theorem dX5_firstFault_16 : decode cX5_firstFault 16 = .ok (.getfield 71, 3) := by decide +kernel
theorem dX5_firstFault_19 : decode cX5_firstFault 19 = .ok (.iload_n 2, 1) := by decide +kernel
theorem dX5_firstFault_20 : decode cX5_firstFault 20 = .ok (.invokevirtual 169, 3) := by decide +kernel
theorem dX5_firstFault_23 : decode cX5_firstFault 23 = .ok (.istore_n 3, 1) := by decide +kernel
theorem dX5_firstFault_24 : decode cX5_firstFault 24 = .ok (.iload_n 3, 1) := by decide +kernel
theorem dX5_firstFault_25 : decode cX5_firstFault 25 = .ok (.bipush 37, 2) := by decide +kernel
theorem dX5_firstFault_27 : decode cX5_firstFault 27 = .ok (.if_icmp .ne 27, 3) := by decide +kernel
theorem dX5_firstFault_30 : decode cX5_firstFault 30 = .ok (.aload_n 0, 1) := by decide +kernel
theorem dX5_firstFault_31 : decode cX5_firstFault 31 = .ok (.getfield 71, 3) := by decide +kernel
theorem dX5_firstFault_34 : decode cX5_firstFault 34 = .ok (.iload_n 2, 1) := by decide +kernel
theorem dX5_firstFault_35 : decode cX5_firstFault 35 = .ok (.iconst 1, 1) := by decide +kernel
theorem dX5_firstFault_36 : decode cX5_firstFault 36 = .ok (.iadd, 1) := by decide +kernel
theorem dX5_firstFault_37 : decode cX5_firstFault 37 = .ok (.invokevirtual 169, 3) := by decide +kernel
theorem dX5_firstFault_40 : decode cX5_firstFault 40 = .ok (.invokestatic 311, 3) := by decide +kernel
theorem dX5_firstFault_43 : decode cX5_firstFault 43 = .ok (.ifCond .ne 5, 3) := by decide +kernel
theorem dX5_firstFault_46 : decode cX5_firstFault 46 = .ok (.iload_n 2, 1) := by decide +kernel
theorem dX5_firstFault_47 : decode cX5_firstFault 47 = .ok (.ireturn, 1) := by decide +kernel
theorem dX5_firstFault_48 : decode cX5_firstFault 48 = .ok (.iinc 2 1, 3) := by decide +kernel
theorem dX5_firstFault_51 : decode cX5_firstFault 51 = .ok (.goto 19, 3) := by decide +kernel
theorem dX5_firstFault_54 : decode cX5_firstFault 54 = .ok (.iload_n 3, 1) := by decide +kernel
theorem dX5_firstFault_55 : decode cX5_firstFault 55 = .ok (.bipush 124, 2) := by decide +kernel
theorem dX5_firstFault_57 : decode cX5_firstFault 57 = .ok (.if_icmp .ne 13, 3) := by decide +kernel
theorem dX5_firstFault_60 : decode cX5_firstFault 60 = .ok (.iinc 1 1, 3) := by decide +kernel
theorem dX5_firstFault_63 : decode cX5_firstFault 63 = .ok (.iload_n 1, 1) := by decide +kernel
theorem dX5_firstFault_64 : decode cX5_firstFault 64 = .ok (.iconst 3, 1) := by decide +kernel
theorem dX5_firstFault_65 : decode cX5_firstFault 65 = .ok (.if_icmp .le 5, 3) := by decide +kernel
theorem dX5_firstFault_68 : decode cX5_firstFault 68 = .ok (.iload_n 2, 1) := by decide +kernel
theorem dX5_firstFault_69 : decode cX5_firstFault 69 = .ok (.ireturn, 1) := by decide +kernel
theorem dX5_firstFault_70 : decode cX5_firstFault 70 = .ok (.iinc 2 1, 3) := by decide +kernel
theorem dX5_firstFault_73 : decode cX5_firstFault 73 = .ok (.goto (-69), 3) := by decide +kernel
theorem dX5_firstFault_76 : decode cX5_firstFault 76 = .ok (.iload_n 1, 1) := by decide +kernel
theorem dX5_firstFault_77 : decode cX5_firstFault 77 = .ok (.iconst 3, 1) := by decide +kernel
theorem dX5_firstFault_78 : decode cX5_firstFault 78 = .ok (.if_icmp .ge 13, 3) := by decide +kernel
theorem dX5_firstFault_81 : decode cX5_firstFault 81 = .ok (.aload_n 0, 1) := by decide +kernel
theorem dX5_firstFault_82 : decode cX5_firstFault 82 = .ok (.getfield 71, 3) := by decide +kernel
theorem dX5_firstFault_85 : decode cX5_firstFault 85 = .ok (.invokevirtual 125, 3) := by decide +kernel
theorem dX5_firstFault_88 : decode cX5_firstFault 88 = .ok (.goto 4, 3) := by decide +kernel
theorem dX5_firstFault_91 : decode cX5_firstFault 91 = .ok (.iconst (-1), 1) := by decide +kernel
theorem dX5_firstFault_92 : decode cX5_firstFault 92 = .ok (.ireturn, 1) := by decide +kernel
theorem dX5_isMark_0 : decode cX5_isMark 0 = .ok (.iload_n 0, 1) := by decide +kernel
theorem dX5_isMark_1 : decode cX5_isMark 1 = .ok (.bipush 119, 2) := by decide +kernel
theorem dX5_isMark_3 : decode cX5_isMark 3 = .ok (.if_icmp .eq 33, 3) := by decide +kernel
theorem dX5_isMark_6 : decode cX5_isMark 6 = .ok (.iload_n 0, 1) := by decide +kernel
theorem dX5_isMark_7 : decode cX5_isMark 7 = .ok (.bipush 112, 2) := by decide +kernel
theorem dX5_isMark_9 : decode cX5_isMark 9 = .ok (.if_icmp .eq 27, 3) := by decide +kernel
theorem dX5_isMark_12 : decode cX5_isMark 12 = .ok (.iload_n 0, 1) := by decide +kernel
theorem dX5_isMark_13 : decode cX5_isMark 13 = .ok (.bipush 115, 2) := by decide +kernel
theorem dX5_isMark_15 : decode cX5_isMark 15 = .ok (.if_icmp .eq 21, 3) := by decide +kernel
theorem dX5_isMark_18 : decode cX5_isMark 18 = .ok (.iload_n 0, 1) := by decide +kernel
theorem dX5_isMark_19 : decode cX5_isMark 19 = .ok (.bipush 103, 2) := by decide +kernel
theorem dX5_isMark_21 : decode cX5_isMark 21 = .ok (.if_icmp .eq 15, 3) := by decide +kernel
theorem dX5_isMark_24 : decode cX5_isMark 24 = .ok (.iload_n 0, 1) := by decide +kernel
theorem dX5_isMark_25 : decode cX5_isMark 25 = .ok (.bipush 110, 2) := by decide +kernel
theorem dX5_isMark_27 : decode cX5_isMark 27 = .ok (.if_icmp .eq 9, 3) := by decide +kernel
theorem dX5_isMark_30 : decode cX5_isMark 30 = .ok (.iload_n 0, 1) := by decide +kernel
theorem dX5_isMark_31 : decode cX5_isMark 31 = .ok (.bipush 37, 2) := by decide +kernel
theorem dX5_isMark_33 : decode cX5_isMark 33 = .ok (.if_icmp .ne 7, 3) := by decide +kernel
theorem dX5_isMark_36 : decode cX5_isMark 36 = .ok (.iconst 1, 1) := by decide +kernel
theorem dX5_isMark_37 : decode cX5_isMark 37 = .ok (.goto 4, 3) := by decide +kernel
theorem dX5_isMark_40 : decode cX5_isMark 40 = .ok (.iconst 0, 1) := by decide +kernel
theorem dX5_isMark_41 : decode cX5_isMark 41 = .ok (.ireturn, 1) := by decide +kernel
theorem dX5_writePart_0 : decode cX5_writePart 0 = .ok (.iconst 0, 1) := by decide +kernel
theorem dX5_writePart_1 : decode cX5_writePart 1 = .ok (.istore 4, 2) := by decide +kernel
theorem dX5_writePart_3 : decode cX5_writePart 3 = .ok (.iconst 0, 1) := by decide +kernel
theorem dX5_writePart_4 : decode cX5_writePart 4 = .ok (.istore 5, 2) := by decide +kernel
theorem dX5_writePart_6 : decode cX5_writePart 6 = .ok (.iload 5, 2) := by decide +kernel
theorem dX5_writePart_8 : decode cX5_writePart 8 = .ok (.aload_n 0, 1) := by decide +kernel
theorem dX5_writePart_9 : decode cX5_writePart 9 = .ok (.getfield 71, 3) := by decide +kernel
theorem dX5_writePart_12 : decode cX5_writePart 12 = .ok (.invokevirtual 125, 3) := by decide +kernel
theorem dX5_writePart_15 : decode cX5_writePart 15 = .ok (.if_icmp .ge 91, 3) := by decide +kernel
theorem dX5_writePart_18 : decode cX5_writePart 18 = .ok (.aload_n 0, 1) := by decide +kernel
theorem dX5_writePart_19 : decode cX5_writePart 19 = .ok (.getfield 71, 3) := by decide +kernel
theorem dX5_writePart_22 : decode cX5_writePart 22 = .ok (.iload 5, 2) := by decide +kernel
theorem dX5_writePart_24 : decode cX5_writePart 24 = .ok (.invokevirtual 169, 3) := by decide +kernel
theorem dX5_writePart_27 : decode cX5_writePart 27 = .ok (.istore 6, 2) := by decide +kernel
theorem dX5_writePart_29 : decode cX5_writePart 29 = .ok (.iload 6, 2) := by decide +kernel
theorem dX5_writePart_31 : decode cX5_writePart 31 = .ok (.bipush 124, 2) := by decide +kernel
theorem dX5_writePart_33 : decode cX5_writePart 33 = .ok (.if_icmp .ne 9, 3) := by decide +kernel
theorem dX5_writePart_36 : decode cX5_writePart 36 = .ok (.iinc 4 1, 3) := by decide +kernel
theorem dX5_writePart_39 : decode cX5_writePart 39 = .ok (.goto 61, 3) := by decide +kernel
theorem dX5_writePart_42 : decode cX5_writePart 42 = .ok (.iload 6, 2) := by decide +kernel
theorem dX5_writePart_44 : decode cX5_writePart 44 = .ok (.bipush 37, 2) := by decide +kernel
theorem dX5_writePart_46 : decode cX5_writePart 46 = .ok (.if_icmp .ne 39, 3) := by decide +kernel
theorem dX5_writePart_49 : decode cX5_writePart 49 = .ok (.iinc 5 1, 3) := by decide +kernel
theorem dX5_writePart_52 : decode cX5_writePart 52 = .ok (.iload 4, 2) := by decide +kernel
theorem dX5_writePart_54 : decode cX5_writePart 54 = .ok (.iload_n 1, 1) := by decide +kernel
theorem dX5_writePart_55 : decode cX5_writePart 55 = .ok (.if_icmp .ne 45, 3) := by decide +kernel
theorem dX5_writePart_58 : decode cX5_writePart 58 = .ok (.aload_n 0, 1) := by decide +kernel
theorem dX5_writePart_59 : decode cX5_writePart 59 = .ok (.aload_n 0, 1) := by decide +kernel
theorem dX5_writePart_60 : decode cX5_writePart 60 = .ok (.getfield 71, 3) := by decide +kernel
theorem dX5_writePart_63 : decode cX5_writePart 63 = .ok (.iload 5, 2) := by decide +kernel
theorem dX5_writePart_65 : decode cX5_writePart 65 = .ok (.invokevirtual 169, 3) := by decide +kernel
theorem dX5_writePart_68 : decode cX5_writePart 68 = .ok (.iload_n 1, 1) := by decide +kernel
theorem dX5_writePart_69 : decode cX5_writePart 69 = .ok (.ifCond .le 7, 3) := by decide +kernel
theorem dX5_writePart_72 : decode cX5_writePart 72 = .ok (.iconst 1, 1) := by decide +kernel
theorem dX5_writePart_73 : decode cX5_writePart 73 = .ok (.goto 4, 3) := by decide +kernel
theorem dX5_writePart_76 : decode cX5_writePart 76 = .ok (.iconst 0, 1) := by decide +kernel
theorem dX5_writePart_77 : decode cX5_writePart 77 = .ok (.iload_n 2, 1) := by decide +kernel
theorem dX5_writePart_78 : decode cX5_writePart 78 = .ok (.iload_n 3, 1) := by decide +kernel
theorem dX5_writePart_79 : decode cX5_writePart 79 = .ok (.invokevirtual 314, 3) := by decide +kernel
theorem dX5_writePart_82 : decode cX5_writePart 82 = .ok (.goto 18, 3) := by decide +kernel
theorem dX5_writePart_85 : decode cX5_writePart 85 = .ok (.iload 4, 2) := by decide +kernel
theorem dX5_writePart_87 : decode cX5_writePart 87 = .ok (.iload_n 1, 1) := by decide +kernel
theorem dX5_writePart_88 : decode cX5_writePart 88 = .ok (.if_icmp .ne 12, 3) := by decide +kernel
theorem dX5_writePart_91 : decode cX5_writePart 91 = .ok (.aload_n 0, 1) := by decide +kernel
theorem dX5_writePart_92 : decode cX5_writePart 92 = .ok (.getfield 81, 3) := by decide +kernel
theorem dX5_writePart_95 : decode cX5_writePart 95 = .ok (.iload 6, 2) := by decide +kernel
theorem dX5_writePart_97 : decode cX5_writePart 97 = .ok (.invokevirtual 318, 3) := by decide +kernel
theorem dX5_writePart_100 : decode cX5_writePart 100 = .ok (.iinc 5 1, 3) := by decide +kernel
theorem dX5_writePart_103 : decode cX5_writePart 103 = .ok (.goto (-97), 3) := by decide +kernel
theorem dX5_writePart_106 : decode cX5_writePart 106 = .ok (.return_, 1) := by decide +kernel
theorem dX5_writeMark_0 : decode cX5_writeMark 0 = .ok (.iload_n 1, 1) := by decide +kernel
theorem dX5_writeMark_1 : decode cX5_writeMark 1 = .ok (.bipush 37, 2) := by decide +kernel
theorem dX5_writeMark_3 : decode cX5_writeMark 3 = .ok (.if_icmp .ne 15, 3) := by decide +kernel
theorem dX5_writeMark_6 : decode cX5_writeMark 6 = .ok (.aload_n 0, 1) := by decide +kernel
theorem dX5_writeMark_7 : decode cX5_writeMark 7 = .ok (.getfield 81, 3) := by decide +kernel
theorem dX5_writeMark_10 : decode cX5_writeMark 10 = .ok (.bipush 37, 2) := by decide +kernel
theorem dX5_writeMark_12 : decode cX5_writeMark 12 = .ok (.invokevirtual 318, 3) := by decide +kernel
theorem dX5_writeMark_15 : decode cX5_writeMark 15 = .ok (.goto 113, 3) := by decide +kernel
theorem dX5_writeMark_18 : decode cX5_writeMark 18 = .ok (.iload_n 1, 1) := by decide +kernel
theorem dX5_writeMark_19 : decode cX5_writeMark 19 = .ok (.bipush 110, 2) := by decide +kernel
theorem dX5_writeMark_21 : decode cX5_writeMark 21 = .ok (.if_icmp .ne 15, 3) := by decide +kernel
theorem dX5_writeMark_24 : decode cX5_writeMark 24 = .ok (.aload_n 0, 1) := by decide +kernel
theorem dX5_writeMark_25 : decode cX5_writeMark 25 = .ok (.getfield 81, 3) := by decide +kernel
theorem dX5_writeMark_28 : decode cX5_writeMark 28 = .ok (.bipush 10, 2) := by decide +kernel
theorem dX5_writeMark_30 : decode cX5_writeMark 30 = .ok (.invokevirtual 318, 3) := by decide +kernel
theorem dX5_writeMark_33 : decode cX5_writeMark 33 = .ok (.goto 95, 3) := by decide +kernel
theorem dX5_writeMark_36 : decode cX5_writeMark 36 = .ok (.iload_n 1, 1) := by decide +kernel
theorem dX5_writeMark_37 : decode cX5_writeMark 37 = .ok (.bipush 103, 2) := by decide +kernel
theorem dX5_writeMark_39 : decode cX5_writeMark 39 = .ok (.if_icmp .ne 30, 3) := by decide +kernel
theorem dX5_writeMark_42 : decode cX5_writeMark 42 = .ok (.aload_n 0, 1) := by decide +kernel
theorem dX5_writeMark_43 : decode cX5_writeMark 43 = .ok (.getfield 81, 3) := by decide +kernel
theorem dX5_writeMark_46 : decode cX5_writeMark 46 = .ok (.iload 4, 2) := by decide +kernel
theorem dX5_writeMark_48 : decode cX5_writeMark 48 = .ok (.bipush 97, 2) := by decide +kernel
theorem dX5_writeMark_50 : decode cX5_writeMark 50 = .ok (.if_icmp .ge 11, 3) := by decide +kernel
theorem dX5_writeMark_53 : decode cX5_writeMark 53 = .ok (.bipush 48, 2) := by decide +kernel
theorem dX5_writeMark_55 : decode cX5_writeMark 55 = .ok (.iload 4, 2) := by decide +kernel
theorem dX5_writeMark_57 : decode cX5_writeMark 57 = .ok (.iadd, 1) := by decide +kernel
theorem dX5_writeMark_58 : decode cX5_writeMark 58 = .ok (.goto 5, 3) := by decide +kernel
theorem dX5_writeMark_61 : decode cX5_writeMark 61 = .ok (.iload 4, 2) := by decide +kernel
theorem dX5_writeMark_63 : decode cX5_writeMark 63 = .ok (.invokevirtual 318, 3) := by decide +kernel
theorem dX5_writeMark_66 : decode cX5_writeMark 66 = .ok (.goto 62, 3) := by decide +kernel
theorem dX5_writeMark_69 : decode cX5_writeMark 69 = .ok (.iload_n 1, 1) := by decide +kernel
theorem dX5_writeMark_70 : decode cX5_writeMark 70 = .ok (.bipush 119, 2) := by decide +kernel
theorem dX5_writeMark_72 : decode cX5_writeMark 72 = .ok (.if_icmp .ne 25, 3) := by decide +kernel
theorem dX5_writeMark_75 : decode cX5_writeMark 75 = .ok (.iload_n 2, 1) := by decide +kernel
theorem dX5_writeMark_76 : decode cX5_writeMark 76 = .ok (.ifCond .eq 21, 3) := by decide +kernel
theorem dX5_writeMark_79 : decode cX5_writeMark 79 = .ok (.aload_n 0, 1) := by decide +kernel
theorem dX5_writeMark_80 : decode cX5_writeMark 80 = .ok (.getfield 81, 3) := by decide +kernel
theorem dX5_writeMark_83 : decode cX5_writeMark 83 = .ok (.aload_n 0, 1) := by decide +kernel
theorem dX5_writeMark_84 : decode cX5_writeMark 84 = .ok (.iload_n 3, 1) := by decide +kernel
theorem dX5_writeMark_85 : decode cX5_writeMark 85 = .ok (.invokevirtual 107, 3) := by decide +kernel
theorem dX5_writeMark_88 : decode cX5_writeMark 88 = .ok (.getfield 111, 3) := by decide +kernel
theorem dX5_writeMark_91 : decode cX5_writeMark 91 = .ok (.invokevirtual 321, 3) := by decide +kernel
theorem dX5_writeMark_94 : decode cX5_writeMark 94 = .ok (.goto 34, 3) := by decide +kernel
theorem dX5_writeMark_97 : decode cX5_writeMark 97 = .ok (.iload_n 1, 1) := by decide +kernel
theorem dX5_writeMark_98 : decode cX5_writeMark 98 = .ok (.bipush 112, 2) := by decide +kernel
theorem dX5_writeMark_100 : decode cX5_writeMark 100 = .ok (.if_icmp .ne 14, 3) := by decide +kernel
theorem dX5_writeMark_103 : decode cX5_writeMark 103 = .ok (.iload_n 2, 1) := by decide +kernel
theorem dX5_writeMark_104 : decode cX5_writeMark 104 = .ok (.ifCond .eq 10, 3) := by decide +kernel
theorem dX5_writeMark_107 : decode cX5_writeMark 107 = .ok (.aload_n 0, 1) := by decide +kernel
theorem dX5_writeMark_108 : decode cX5_writeMark 108 = .ok (.invokevirtual 324, 3) := by decide +kernel
theorem dX5_writeMark_111 : decode cX5_writeMark 111 = .ok (.goto 17, 3) := by decide +kernel
theorem dX5_writeMark_114 : decode cX5_writeMark 114 = .ok (.iload_n 1, 1) := by decide +kernel
theorem dX5_writeMark_115 : decode cX5_writeMark 115 = .ok (.bipush 115, 2) := by decide +kernel
theorem dX5_writeMark_117 : decode cX5_writeMark 117 = .ok (.if_icmp .ne 11, 3) := by decide +kernel
theorem dX5_writeMark_120 : decode cX5_writeMark 120 = .ok (.iload_n 2, 1) := by decide +kernel
theorem dX5_writeMark_121 : decode cX5_writeMark 121 = .ok (.ifCond .eq 7, 3) := by decide +kernel
theorem dX5_writeMark_124 : decode cX5_writeMark 124 = .ok (.aload_n 0, 1) := by decide +kernel
theorem dX5_writeMark_125 : decode cX5_writeMark 125 = .ok (.invokevirtual 327, 3) := by decide +kernel
theorem dX5_writeMark_128 : decode cX5_writeMark 128 = .ok (.return_, 1) := by decide +kernel
theorem dX5_writeLocators_0 : decode cX5_writeLocators 0 = .ok (.iconst 0, 1) := by decide +kernel
theorem dX5_writeLocators_1 : decode cX5_writeLocators 1 = .ok (.istore_n 1, 1) := by decide +kernel
theorem dX5_writeLocators_2 : decode cX5_writeLocators 2 = .ok (.iload_n 1, 1) := by decide +kernel
theorem dX5_writeLocators_3 : decode cX5_writeLocators 3 = .ok (.aload_n 0, 1) := by decide +kernel
theorem dX5_writeLocators_4 : decode cX5_writeLocators 4 = .ok (.getfield 55, 3) := by decide +kernel
theorem dX5_writeLocators_7 : decode cX5_writeLocators 7 = .ok (.invokevirtual 142, 3) := by decide +kernel
theorem dX5_writeLocators_10 : decode cX5_writeLocators 10 = .ok (.if_icmp .ge 80, 3) := by decide +kernel
theorem dX5_writeLocators_13 : decode cX5_writeLocators 13 = .ok (.iload_n 1, 1) := by decide +kernel
theorem dX5_writeLocators_14 : decode cX5_writeLocators 14 = .ok (.ifCond .le 12, 3) := by decide +kernel
theorem dX5_writeLocators_17 : decode cX5_writeLocators 17 = .ok (.aload_n 0, 1) := by decide +kernel
theorem dX5_writeLocators_18 : decode cX5_writeLocators 18 = .ok (.getfield 81, 3) := by decide +kernel
theorem dX5_writeLocators_21 : decode cX5_writeLocators 21 = .ok (.bipush 44, 2) := by decide +kernel
theorem dX5_writeLocators_23 : decode cX5_writeLocators 23 = .ok (.invokevirtual 330, 3) := by decide +kernel
theorem dX5_writeLocators_26 : decode cX5_writeLocators 26 = .ok (.aload_n 0, 1) := by decide +kernel
theorem dX5_writeLocators_27 : decode cX5_writeLocators 27 = .ok (.getfield 81, 3) := by decide +kernel
theorem dX5_writeLocators_30 : decode cX5_writeLocators 30 = .ok (.aload_n 0, 1) := by decide +kernel
theorem dX5_writeLocators_31 : decode cX5_writeLocators 31 = .ok (.getfield 55, 3) := by decide +kernel
theorem dX5_writeLocators_34 : decode cX5_writeLocators 34 = .ok (.iload_n 1, 1) := by decide +kernel
theorem dX5_writeLocators_35 : decode cX5_writeLocators 35 = .ok (.invokevirtual 184, 3) := by decide +kernel
theorem dX5_writeLocators_38 : decode cX5_writeLocators 38 = .ok (.invokevirtual 333, 3) := by decide +kernel
theorem dX5_writeLocators_41 : decode cX5_writeLocators 41 = .ok (.aload_n 0, 1) := by decide +kernel
theorem dX5_writeLocators_42 : decode cX5_writeLocators 42 = .ok (.getfield 55, 3) := by decide +kernel
theorem dX5_writeLocators_45 : decode cX5_writeLocators 45 = .ok (.iload_n 1, 1) := by decide +kernel
theorem dX5_writeLocators_46 : decode cX5_writeLocators 46 = .ok (.invokevirtual 187, 3) := by decide +kernel
theorem dX5_writeLocators_49 : decode cX5_writeLocators 49 = .ok (.aload_n 0, 1) := by decide +kernel
theorem dX5_writeLocators_50 : decode cX5_writeLocators 50 = .ok (.getfield 55, 3) := by decide +kernel
theorem dX5_writeLocators_53 : decode cX5_writeLocators 53 = .ok (.iload_n 1, 1) := by decide +kernel
theorem dX5_writeLocators_54 : decode cX5_writeLocators 54 = .ok (.invokevirtual 184, 3) := by decide +kernel
theorem dX5_writeLocators_57 : decode cX5_writeLocators 57 = .ok (.if_icmp .eq 27, 3) := by decide +kernel
theorem dX5_writeLocators_60 : decode cX5_writeLocators 60 = .ok (.aload_n 0, 1) := by decide +kernel
theorem dX5_writeLocators_61 : decode cX5_writeLocators 61 = .ok (.getfield 81, 3) := by decide +kernel
theorem dX5_writeLocators_64 : decode cX5_writeLocators 64 = .ok (.bipush 45, 2) := by decide +kernel
theorem dX5_writeLocators_66 : decode cX5_writeLocators 66 = .ok (.invokevirtual 318, 3) := by decide +kernel
theorem dX5_writeLocators_69 : decode cX5_writeLocators 69 = .ok (.aload_n 0, 1) := by decide +kernel
theorem dX5_writeLocators_70 : decode cX5_writeLocators 70 = .ok (.getfield 81, 3) := by decide +kernel
theorem dX5_writeLocators_73 : decode cX5_writeLocators 73 = .ok (.aload_n 0, 1) := by decide +kernel
theorem dX5_writeLocators_74 : decode cX5_writeLocators 74 = .ok (.getfield 55, 3) := by decide +kernel
theorem dX5_writeLocators_77 : decode cX5_writeLocators 77 = .ok (.iload_n 1, 1) := by decide +kernel
theorem dX5_writeLocators_78 : decode cX5_writeLocators 78 = .ok (.invokevirtual 187, 3) := by decide +kernel
theorem dX5_writeLocators_81 : decode cX5_writeLocators 81 = .ok (.invokevirtual 333, 3) := by decide +kernel
theorem dX5_writeLocators_84 : decode cX5_writeLocators 84 = .ok (.iinc 1 1, 3) := by decide +kernel
theorem dX5_writeLocators_87 : decode cX5_writeLocators 87 = .ok (.goto (-85), 3) := by decide +kernel
theorem dX5_writeLocators_90 : decode cX5_writeLocators 90 = .ok (.return_, 1) := by decide +kernel
theorem dX5_writeSeen_0 : decode cX5_writeSeen 0 = .ok (.iconst 0, 1) := by decide +kernel
theorem dX5_writeSeen_1 : decode cX5_writeSeen 1 = .ok (.istore_n 1, 1) := by decide +kernel
theorem dX5_writeSeen_2 : decode cX5_writeSeen 2 = .ok (.iload_n 1, 1) := by decide +kernel
theorem dX5_writeSeen_3 : decode cX5_writeSeen 3 = .ok (.aload_n 0, 1) := by decide +kernel
theorem dX5_writeSeen_4 : decode cX5_writeSeen 4 = .ok (.getfield 61, 3) := by decide +kernel
theorem dX5_writeSeen_7 : decode cX5_writeSeen 7 = .ok (.invokevirtual 125, 3) := by decide +kernel
theorem dX5_writeSeen_10 : decode cX5_writeSeen 10 = .ok (.if_icmp .ge 44, 3) := by decide +kernel
theorem dX5_writeSeen_13 : decode cX5_writeSeen 13 = .ok (.iload_n 1, 1) := by decide +kernel
theorem dX5_writeSeen_14 : decode cX5_writeSeen 14 = .ok (.ifCond .le 12, 3) := by decide +kernel
theorem dX5_writeSeen_17 : decode cX5_writeSeen 17 = .ok (.aload_n 0, 1) := by decide +kernel
theorem dX5_writeSeen_18 : decode cX5_writeSeen 18 = .ok (.getfield 81, 3) := by decide +kernel
theorem dX5_writeSeen_21 : decode cX5_writeSeen 21 = .ok (.bipush 59, 2) := by decide +kernel
theorem dX5_writeSeen_23 : decode cX5_writeSeen 23 = .ok (.invokevirtual 330, 3) := by decide +kernel
theorem dX5_writeSeen_26 : decode cX5_writeSeen 26 = .ok (.aload_n 0, 1) := by decide +kernel
theorem dX5_writeSeen_27 : decode cX5_writeSeen 27 = .ok (.getfield 81, 3) := by decide +kernel
theorem dX5_writeSeen_30 : decode cX5_writeSeen 30 = .ok (.aload_n 0, 1) := by decide +kernel
theorem dX5_writeSeen_31 : decode cX5_writeSeen 31 = .ok (.aload_n 0, 1) := by decide +kernel
theorem dX5_writeSeen_32 : decode cX5_writeSeen 32 = .ok (.getfield 61, 3) := by decide +kernel
theorem dX5_writeSeen_35 : decode cX5_writeSeen 35 = .ok (.iload_n 1, 1) := by decide +kernel
theorem dX5_writeSeen_36 : decode cX5_writeSeen 36 = .ok (.invokevirtual 169, 3) := by decide +kernel
theorem dX5_writeSeen_39 : decode cX5_writeSeen 39 = .ok (.invokevirtual 107, 3) := by decide +kernel
theorem dX5_writeSeen_42 : decode cX5_writeSeen 42 = .ok (.getfield 111, 3) := by decide +kernel
theorem dX5_writeSeen_45 : decode cX5_writeSeen 45 = .ok (.invokevirtual 321, 3) := by decide +kernel
theorem dX5_writeSeen_48 : decode cX5_writeSeen 48 = .ok (.iinc 1 1, 3) := by decide +kernel
theorem dX5_writeSeen_51 : decode cX5_writeSeen 51 = .ok (.goto (-49), 3) := by decide +kernel
theorem dX5_writeSeen_54 : decode cX5_writeSeen 54 = .ok (.return_, 1) := by decide +kernel
theorem dX6_init_0 : decode cX6_init 0 = .ok (.aload_n 0, 1) := by decide +kernel
theorem dX6_init_1 : decode cX6_init 1 = .ok (.invokespecial 1, 3) := by decide +kernel
theorem dX6_init_4 : decode cX6_init 4 = .ok (.aload_n 0, 1) := by decide +kernel
theorem dX6_init_5 : decode cX6_init 5 = .ok (.bipush 80, 2) := by decide +kernel
theorem dX6_init_7 : decode cX6_init 7 = .ok (.newarray .int, 2) := by decide +kernel
theorem dX6_init_9 : decode cX6_init 9 = .ok (.putfield 7, 3) := by decide +kernel
theorem dX6_init_12 : decode cX6_init 12 = .ok (.aload_n 0, 1) := by decide +kernel
theorem dX6_init_13 : decode cX6_init 13 = .ok (.bipush 80, 2) := by decide +kernel
theorem dX6_init_15 : decode cX6_init 15 = .ok (.newarray .int, 2) := by decide +kernel
theorem dX6_init_17 : decode cX6_init 17 = .ok (.putfield 13, 3) := by decide +kernel
theorem dX6_init_20 : decode cX6_init 20 = .ok (.aload_n 0, 1) := by decide +kernel
theorem dX6_init_21 : decode cX6_init 21 = .ok (.sipush 1600, 3) := by decide +kernel
theorem dX6_init_24 : decode cX6_init 24 = .ok (.newarray .int, 2) := by decide +kernel
theorem dX6_init_26 : decode cX6_init 26 = .ok (.putfield 16, 3) := by decide +kernel
theorem dX6_init_29 : decode cX6_init 29 = .ok (.aload_n 0, 1) := by decide +kernel
theorem dX6_init_30 : decode cX6_init 30 = .ok (.bipush 80, 2) := by decide +kernel
theorem dX6_init_32 : decode cX6_init 32 = .ok (.newarray .int, 2) := by decide +kernel
theorem dX6_init_34 : decode cX6_init 34 = .ok (.putfield 19, 3) := by decide +kernel
theorem dX6_init_37 : decode cX6_init 37 = .ok (.aload_n 0, 1) := by decide +kernel
theorem dX6_init_38 : decode cX6_init 38 = .ok (.sipush 1600, 3) := by decide +kernel
theorem dX6_init_41 : decode cX6_init 41 = .ok (.newarray .int, 2) := by decide +kernel
theorem dX6_init_43 : decode cX6_init 43 = .ok (.putfield 22, 3) := by decide +kernel
theorem dX6_init_46 : decode cX6_init 46 = .ok (.aload_n 0, 1) := by decide +kernel
theorem dX6_init_47 : decode cX6_init 47 = .ok (.sipush 1600, 3) := by decide +kernel
theorem dX6_init_50 : decode cX6_init 50 = .ok (.newarray .int, 2) := by decide +kernel
theorem dX6_init_52 : decode cX6_init 52 = .ok (.putfield 25, 3) := by decide +kernel
theorem dX6_init_55 : decode cX6_init 55 = .ok (.aload_n 0, 1) := by decide +kernel
theorem dX6_init_56 : decode cX6_init 56 = .ok (.sipush 1600, 3) := by decide +kernel
theorem dX6_init_59 : decode cX6_init 59 = .ok (.newarray .int, 2) := by decide +kernel
theorem dX6_init_61 : decode cX6_init 61 = .ok (.putfield 28, 3) := by decide +kernel
theorem dX6_init_64 : decode cX6_init 64 = .ok (.aload_n 0, 1) := by decide +kernel
theorem dX6_init_65 : decode cX6_init 65 = .ok (.sipush 1600, 3) := by decide +kernel
theorem dX6_init_68 : decode cX6_init 68 = .ok (.newarray .boolean, 2) := by decide +kernel
theorem dX6_init_70 : decode cX6_init 70 = .ok (.putfield 31, 3) := by decide +kernel
theorem dX6_init_73 : decode cX6_init 73 = .ok (.aload_n 0, 1) := by decide +kernel
theorem dX6_init_74 : decode cX6_init 74 = .ok (.bipush 80, 2) := by decide +kernel
theorem dX6_init_76 : decode cX6_init 76 = .ok (.newarray .int, 2) := by decide +kernel
theorem dX6_init_78 : decode cX6_init 78 = .ok (.putfield 35, 3) := by decide +kernel
theorem dX6_init_81 : decode cX6_init 81 = .ok (.aload_n 0, 1) := by decide +kernel
theorem dX6_init_82 : decode cX6_init 82 = .ok (.bipush 80, 2) := by decide +kernel
theorem dX6_init_84 : decode cX6_init 84 = .ok (.newarray .int, 2) := by decide +kernel
theorem dX6_init_86 : decode cX6_init 86 = .ok (.putfield 38, 3) := by decide +kernel
theorem dX6_init_89 : decode cX6_init 89 = .ok (.aload_n 0, 1) := by decide +kernel
theorem dX6_init_90 : decode cX6_init 90 = .ok (.sipush 400, 3) := by decide +kernel
theorem dX6_init_93 : decode cX6_init 93 = .ok (.newarray .int, 2) := by decide +kernel
theorem dX6_init_95 : decode cX6_init 95 = .ok (.putfield 41, 3) := by decide +kernel
theorem dX6_init_98 : decode cX6_init 98 = .ok (.aload_n 0, 1) := by decide +kernel
theorem dX6_init_99 : decode cX6_init 99 = .ok (.bipush 80, 2) := by decide +kernel
theorem dX6_init_101 : decode cX6_init 101 = .ok (.newarray .int, 2) := by decide +kernel
theorem dX6_init_103 : decode cX6_init 103 = .ok (.putfield 44, 3) := by decide +kernel
theorem dX6_init_106 : decode cX6_init 106 = .ok (.aload_n 0, 1) := by decide +kernel
theorem dX6_init_107 : decode cX6_init 107 = .ok (.iconst 1, 1) := by decide +kernel
theorem dX6_init_108 : decode cX6_init 108 = .ok (.putfield 47, 3) := by decide +kernel
theorem dX6_init_111 : decode cX6_init 111 = .ok (.aload_n 0, 1) := by decide +kernel
theorem dX6_init_112 : decode cX6_init 112 = .ok (.iconst 1, 1) := by decide +kernel
theorem dX6_init_113 : decode cX6_init 113 = .ok (.putfield 51, 3) := by decide +kernel
theorem dX6_init_116 : decode cX6_init 116 = .ok (.aload_n 0, 1) := by decide +kernel
theorem dX6_init_117 : decode cX6_init 117 = .ok (.bipush 80, 2) := by decide +kernel
theorem dX6_init_119 : decode cX6_init 119 = .ok (.newarray .int, 2) := by decide +kernel
theorem dX6_init_121 : decode cX6_init 121 = .ok (.putfield 54, 3) := by decide +kernel
theorem dX6_init_124 : decode cX6_init 124 = .ok (.aload_n 0, 1) := by decide +kernel
theorem dX6_init_125 : decode cX6_init 125 = .ok (.bipush 80, 2) := by decide +kernel
theorem dX6_init_127 : decode cX6_init 127 = .ok (.newarray .int, 2) := by decide +kernel
theorem dX6_init_129 : decode cX6_init 129 = .ok (.putfield 57, 3) := by decide +kernel
theorem dX6_init_132 : decode cX6_init 132 = .ok (.aload_n 0, 1) := by decide +kernel
theorem dX6_init_133 : decode cX6_init 133 = .ok (.iconst 2, 1) := by decide +kernel
theorem dX6_init_134 : decode cX6_init 134 = .ok (.newarray .int, 2) := by decide +kernel
theorem dX6_init_136 : decode cX6_init 136 = .ok (.putfield 60, 3) := by decide +kernel
theorem dX6_init_139 : decode cX6_init 139 = .ok (.aload_n 0, 1) := by decide +kernel
theorem dX6_init_140 : decode cX6_init 140 = .ok (.iconst 2, 1) := by decide +kernel
theorem dX6_init_141 : decode cX6_init 141 = .ok (.newarray .boolean, 2) := by decide +kernel
theorem dX6_init_143 : decode cX6_init 143 = .ok (.putfield 63, 3) := by decide +kernel
theorem dX6_init_146 : decode cX6_init 146 = .ok (.aload_n 0, 1) := by decide +kernel
theorem dX6_init_147 : decode cX6_init 147 = .ok (.iconst 2, 1) := by decide +kernel
theorem dX6_init_148 : decode cX6_init 148 = .ok (.newarray .int, 2) := by decide +kernel
theorem dX6_init_150 : decode cX6_init 150 = .ok (.putfield 66, 3) := by decide +kernel
theorem dX6_init_153 : decode cX6_init 153 = .ok (.aload_n 0, 1) := by decide +kernel
theorem dX6_init_154 : decode cX6_init 154 = .ok (.iconst 2, 1) := by decide +kernel
theorem dX6_init_155 : decode cX6_init 155 = .ok (.newarray .int, 2) := by decide +kernel
theorem dX6_init_157 : decode cX6_init 157 = .ok (.putfield 69, 3) := by decide +kernel
theorem dX6_init_160 : decode cX6_init 160 = .ok (.aload_n 0, 1) := by decide +kernel
theorem dX6_init_161 : decode cX6_init 161 = .ok (.iconst 2, 1) := by decide +kernel
theorem dX6_init_162 : decode cX6_init 162 = .ok (.newarray .int, 2) := by decide +kernel
theorem dX6_init_164 : decode cX6_init 164 = .ok (.putfield 72, 3) := by decide +kernel
theorem dX6_init_167 : decode cX6_init 167 = .ok (.aload_n 0, 1) := by decide +kernel
theorem dX6_init_168 : decode cX6_init 168 = .ok (.sipush 1700, 3) := by decide +kernel
theorem dX6_init_171 : decode cX6_init 171 = .ok (.newarray .int, 2) := by decide +kernel
theorem dX6_init_173 : decode cX6_init 173 = .ok (.putfield 75, 3) := by decide +kernel
theorem dX6_init_176 : decode cX6_init 176 = .ok (.aload_n 0, 1) := by decide +kernel
theorem dX6_init_177 : decode cX6_init 177 = .ok (.sipush 1700, 3) := by decide +kernel
theorem dX6_init_180 : decode cX6_init 180 = .ok (.newarray .int, 2) := by decide +kernel
theorem dX6_init_182 : decode cX6_init 182 = .ok (.putfield 78, 3) := by decide +kernel
theorem dX6_init_185 : decode cX6_init 185 = .ok (.aload_n 0, 1) := by decide +kernel
theorem dX6_init_186 : decode cX6_init 186 = .ok (.sipush 1700, 3) := by decide +kernel
theorem dX6_init_189 : decode cX6_init 189 = .ok (.newarray .int, 2) := by decide +kernel
theorem dX6_init_191 : decode cX6_init 191 = .ok (.putfield 81, 3) := by decide +kernel
theorem dX6_init_194 : decode cX6_init 194 = .ok (.aload_n 0, 1) := by decide +kernel
theorem dX6_init_195 : decode cX6_init 195 = .ok (.sipush 1700, 3) := by decide +kernel
theorem dX6_init_198 : decode cX6_init 198 = .ok (.newarray .boolean, 2) := by decide +kernel
theorem dX6_init_200 : decode cX6_init 200 = .ok (.putfield 84, 3) := by decide +kernel
theorem dX6_init_203 : decode cX6_init 203 = .ok (.aload_n 0, 1) := by decide +kernel
theorem dX6_init_204 : decode cX6_init 204 = .ok (.bipush 80, 2) := by decide +kernel
theorem dX6_init_206 : decode cX6_init 206 = .ok (.newarray .int, 2) := by decide +kernel
theorem dX6_init_208 : decode cX6_init 208 = .ok (.putfield 87, 3) := by decide +kernel
theorem dX6_init_211 : decode cX6_init 211 = .ok (.aload_n 0, 1) := by decide +kernel
theorem dX6_init_212 : decode cX6_init 212 = .ok (.bipush 80, 2) := by decide +kernel
theorem dX6_init_214 : decode cX6_init 214 = .ok (.newarray .int, 2) := by decide +kernel
theorem dX6_init_216 : decode cX6_init 216 = .ok (.putfield 90, 3) := by decide +kernel
theorem dX6_init_219 : decode cX6_init 219 = .ok (.aload_n 0, 1) := by decide +kernel
theorem dX6_init_220 : decode cX6_init 220 = .ok (.iconst 4, 1) := by decide +kernel
theorem dX6_init_221 : decode cX6_init 221 = .ok (.newarray .int, 2) := by decide +kernel
theorem dX6_init_223 : decode cX6_init 223 = .ok (.putfield 93, 3) := by decide +kernel
theorem dX6_init_226 : decode cX6_init 226 = .ok (.aload_n 0, 1) := by decide +kernel
theorem dX6_init_227 : decode cX6_init 227 = .ok (.sipush 6000, 3) := by decide +kernel
theorem dX6_init_230 : decode cX6_init 230 = .ok (.newarray .byte, 2) := by decide +kernel
theorem dX6_init_232 : decode cX6_init 232 = .ok (.putfield 96, 3) := by decide +kernel
theorem dX6_init_235 : decode cX6_init 235 = .ok (.aload_n 0, 1) := by decide +kernel
theorem dX6_init_236 : decode cX6_init 236 = .ok (.sipush 6000, 3) := by decide +kernel
theorem dX6_init_239 : decode cX6_init 239 = .ok (.newarray .byte, 2) := by decide +kernel
theorem dX6_init_241 : decode cX6_init 241 = .ok (.putfield 100, 3) := by decide +kernel
theorem dX6_init_244 : decode cX6_init 244 = .ok (.aload_n 0, 1) := by decide +kernel
theorem dX6_init_245 : decode cX6_init 245 = .ok (.iconst 0, 1) := by decide +kernel
theorem dX6_init_246 : decode cX6_init 246 = .ok (.putfield 103, 3) := by decide +kernel
theorem dX6_init_249 : decode cX6_init 249 = .ok (.return_, 1) := by decide +kernel
theorem dX6_thrown_0 : decode cX6_thrown 0 = .ok (.aload_n 0, 1) := by decide +kernel
theorem dX6_thrown_1 : decode cX6_thrown 1 = .ok (.getfield 107, 3) := by decide +kernel
theorem dX6_thrown_4 : decode cX6_thrown 4 = .ok (.ireturn, 1) := by decide +kernel
theorem dX6_refused_0 : decode cX6_refused 0 = .ok (.aload_n 0, 1) := by decide +kernel
theorem dX6_refused_1 : decode cX6_refused 1 = .ok (.iload_n 1, 1) := by decide +kernel
theorem dX6_refused_2 : decode cX6_refused 2 = .ok (.ifCond .eq 7, 3) := by decide +kernel
theorem dX6_refused_5 : decode cX6_refused 5 = .ok (.iconst 1, 1) := by decide +kernel
theorem dX6_refused_6 : decode cX6_refused 6 = .ok (.goto 20, 3) := by decide +kernel
theorem dX6_refused_9 : decode cX6_refused 9 = .ok (.iload_n 2, 1) := by decide +kernel
theorem dX6_refused_10 : decode cX6_refused 10 = .ok (.ifCond .eq 7, 3) := by decide +kernel
theorem dX6_refused_13 : decode cX6_refused 13 = .ok (.iconst 2, 1) := by decide +kernel
theorem dX6_refused_14 : decode cX6_refused 14 = .ok (.goto 12, 3) := by decide +kernel
theorem dX6_refused_17 : decode cX6_refused 17 = .ok (.iload_n 3, 1) := by decide +kernel
theorem dX6_refused_18 : decode cX6_refused 18 = .ok (.ifCond .eq 7, 3) := by decide +kernel
theorem dX6_refused_21 : decode cX6_refused 21 = .ok (.iconst 3, 1) := by decide +kernel
theorem dX6_refused_22 : decode cX6_refused 22 = .ok (.goto 4, 3) := by decide +kernel
theorem dX6_refused_25 : decode cX6_refused 25 = .ok (.iconst 0, 1) := by decide +kernel
theorem dX6_refused_26 : decode cX6_refused 26 = .ok (.putfield 107, 3) := by decide +kernel
theorem dX6_refused_29 : decode cX6_refused 29 = .ok (.aload_n 0, 1) := by decide +kernel
theorem dX6_refused_30 : decode cX6_refused 30 = .ok (.getfield 107, 3) := by decide +kernel
theorem dX6_refused_33 : decode cX6_refused 33 = .ok (.ifCond .le 7, 3) := by decide +kernel
theorem dX6_refused_36 : decode cX6_refused 36 = .ok (.iconst 1, 1) := by decide +kernel
theorem dX6_refused_37 : decode cX6_refused 37 = .ok (.goto 4, 3) := by decide +kernel
theorem dX6_refused_40 : decode cX6_refused 40 = .ok (.iconst 0, 1) := by decide +kernel
theorem dX6_refused_41 : decode cX6_refused 41 = .ok (.ireturn, 1) := by decide +kernel
theorem dX6_isNone_0 : decode cX6_isNone 0 = .ok (.iload_n 1, 1) := by decide +kernel
theorem dX6_isNone_1 : decode cX6_isNone 1 = .ok (.ifCond .lt 11, 3) := by decide +kernel
theorem dX6_isNone_4 : decode cX6_isNone 4 = .ok (.iload_n 1, 1) := by decide +kernel
theorem dX6_isNone_5 : decode cX6_isNone 5 = .ok (.aload_n 0, 1) := by decide +kernel
theorem dX6_isNone_6 : decode cX6_isNone 6 = .ok (.getfield 103, 3) := by decide +kernel
theorem dX6_isNone_9 : decode cX6_isNone 9 = .ok (.if_icmp .lt 7, 3) := by decide +kernel
theorem dX6_isNone_12 : decode cX6_isNone 12 = .ok (.iconst 1, 1) := by decide +kernel
theorem dX6_isNone_13 : decode cX6_isNone 13 = .ok (.goto 4, 3) := by decide +kernel
theorem dX6_isNone_16 : decode cX6_isNone 16 = .ok (.iconst 0, 1) := by decide +kernel
theorem dX6_isNone_17 : decode cX6_isNone 17 = .ok (.ireturn, 1) := by decide +kernel
theorem dX6_most_0 : decode cX6_most 0 = .ok (.iload_n 0, 1) := by decide +kernel
theorem dX6_most_1 : decode cX6_most 1 = .ok (.ifCond .ne 9, 3) := by decide +kernel
theorem dX6_most_4 : decode cX6_most 4 = .ok (.sipush 3999, 3) := by decide +kernel
theorem dX6_most_7 : decode cX6_most 7 = .ok (.goto 25, 3) := by decide +kernel
theorem dX6_most_10 : decode cX6_most 10 = .ok (.iload_n 0, 1) := by decide +kernel
theorem dX6_most_11 : decode cX6_most 11 = .ok (.iconst 1, 1) := by decide +kernel
theorem dX6_most_12 : decode cX6_most 12 = .ok (.if_icmp .ne 8, 3) := by decide +kernel
theorem dX6_most_15 : decode cX6_most 15 = .ok (.ldc 110, 2) := by decide +kernel
theorem dX6_most_17 : decode cX6_most 17 = .ok (.goto 15, 3) := by decide +kernel
theorem dX6_most_20 : decode cX6_most 20 = .ok (.iload_n 0, 1) := by decide +kernel
theorem dX6_most_21 : decode cX6_most 21 = .ok (.iconst 2, 1) := by decide +kernel
theorem dX6_most_22 : decode cX6_most 22 = .ok (.if_icmp .ne 9, 3) := by decide +kernel
theorem dX6_most_25 : decode cX6_most 25 = .ok (.sipush 702, 3) := by decide +kernel
theorem dX6_most_28 : decode cX6_most 28 = .ok (.goto 4, 3) := by decide +kernel
theorem dX6_most_31 : decode cX6_most 31 = .ok (.iconst 0, 1) := by decide +kernel
theorem dX6_most_32 : decode cX6_most 32 = .ok (.ireturn, 1) := by decide +kernel
theorem dX6_entry_0 : decode cX6_entry 0 = .ok (.iload_n 1, 1) := by decide +kernel
theorem dX6_entry_1 : decode cX6_entry 1 = .ok (.ifCond .ne 8, 3) := by decide +kernel
theorem dX6_entry_4 : decode cX6_entry 4 = .ok (.iload_n 2, 1) := by decide +kernel
theorem dX6_entry_5 : decode cX6_entry 5 = .ok (.iconst (-1), 1) := by decide +kernel
theorem dX6_entry_6 : decode cX6_entry 6 = .ok (.if_icmp .eq 33, 3) := by decide +kernel
theorem dX6_entry_9 : decode cX6_entry 9 = .ok (.iload_n 1, 1) := by decide +kernel
theorem dX6_entry_10 : decode cX6_entry 10 = .ok (.iconst 1, 1) := by decide +kernel
theorem dX6_entry_11 : decode cX6_entry 11 = .ok (.if_icmp .eq 8, 3) := by decide +kernel
theorem dX6_entry_14 : decode cX6_entry 14 = .ok (.iload_n 1, 1) := by decide +kernel
theorem dX6_entry_15 : decode cX6_entry 15 = .ok (.iconst 2, 1) := by decide +kernel
theorem dX6_entry_16 : decode cX6_entry 16 = .ok (.if_icmp .ne 27, 3) := by decide +kernel
theorem dX6_entry_19 : decode cX6_entry 19 = .ok (.aload_n 0, 1) := by decide +kernel
theorem dX6_entry_20 : decode cX6_entry 20 = .ok (.iload_n 2, 1) := by decide +kernel
theorem dX6_entry_21 : decode cX6_entry 21 = .ok (.invokevirtual 111, 3) := by decide +kernel
theorem dX6_entry_24 : decode cX6_entry 24 = .ok (.ifCond .ne 19, 3) := by decide +kernel
theorem dX6_entry_27 : decode cX6_entry 27 = .ok (.aload_n 0, 1) := by decide +kernel
theorem dX6_entry_28 : decode cX6_entry 28 = .ok (.getfield 7, 3) := by decide +kernel
theorem dX6_entry_31 : decode cX6_entry 31 = .ok (.iload_n 2, 1) := by decide +kernel
theorem dX6_entry_32 : decode cX6_entry 32 = .ok (.iaload, 1) := by decide +kernel
theorem dX6_entry_33 : decode cX6_entry 33 = .ok (.iload_n 1, 1) := by decide +kernel
theorem dX6_entry_34 : decode cX6_entry 34 = .ok (.iconst 1, 1) := by decide +kernel
theorem dX6_entry_35 : decode cX6_entry 35 = .ok (.isub, 1) := by decide +kernel
theorem dX6_entry_36 : decode cX6_entry 36 = .ok (.if_icmp .ne 7, 3) := by decide +kernel
theorem dX6_entry_39 : decode cX6_entry 39 = .ok (.iconst 1, 1) := by decide +kernel
theorem dX6_entry_40 : decode cX6_entry 40 = .ok (.goto 4, 3) := by decide +kernel
theorem dX6_entry_43 : decode cX6_entry 43 = .ok (.iconst 0, 1) := by decide +kernel
theorem dX6_entry_44 : decode cX6_entry 44 = .ok (.istore_n 3, 1) := by decide +kernel
theorem dX6_entry_45 : decode cX6_entry 45 = .ok (.aload_n 0, 1) := by decide +kernel
theorem dX6_entry_46 : decode cX6_entry 46 = .ok (.iload_n 2, 1) := by decide +kernel
theorem dX6_entry_47 : decode cX6_entry 47 = .ok (.iconst (-1), 1) := by decide +kernel
theorem dX6_entry_48 : decode cX6_entry 48 = .ok (.if_icmp .eq 15, 3) := by decide +kernel
theorem dX6_entry_51 : decode cX6_entry 51 = .ok (.aload_n 0, 1) := by decide +kernel
theorem dX6_entry_52 : decode cX6_entry 52 = .ok (.iload_n 2, 1) := by decide +kernel
theorem dX6_entry_53 : decode cX6_entry 53 = .ok (.invokevirtual 111, 3) := by decide +kernel
theorem dX6_entry_56 : decode cX6_entry 56 = .ok (.ifCond .eq 7, 3) := by decide +kernel
theorem dX6_entry_59 : decode cX6_entry 59 = .ok (.iconst 1, 1) := by decide +kernel
theorem dX6_entry_60 : decode cX6_entry 60 = .ok (.goto 4, 3) := by decide +kernel
theorem dX6_entry_63 : decode cX6_entry 63 = .ok (.iconst 0, 1) := by decide +kernel
theorem dX6_entry_64 : decode cX6_entry 64 = .ok (.iload_n 3, 1) := by decide +kernel
theorem dX6_entry_65 : decode cX6_entry 65 = .ok (.ifCond .ne 7, 3) := by decide +kernel
theorem dX6_entry_68 : decode cX6_entry 68 = .ok (.iconst 1, 1) := by decide +kernel
theorem dX6_entry_69 : decode cX6_entry 69 = .ok (.goto 4, 3) := by decide +kernel
theorem dX6_entry_72 : decode cX6_entry 72 = .ok (.iconst 0, 1) := by decide +kernel
theorem dX6_entry_73 : decode cX6_entry 73 = .ok (.aload_n 0, 1) := by decide +kernel
theorem dX6_entry_74 : decode cX6_entry 74 = .ok (.getfield 103, 3) := by decide +kernel
theorem dX6_entry_77 : decode cX6_entry 77 = .ok (.bipush 80, 2) := by decide +kernel
theorem dX6_entry_79 : decode cX6_entry 79 = .ok (.if_icmp .ne 7, 3) := by decide +kernel
theorem dX6_entry_82 : decode cX6_entry 82 = .ok (.iconst 1, 1) := by decide +kernel
theorem dX6_entry_83 : decode cX6_entry 83 = .ok (.goto 4, 3) := by decide +kernel
theorem dX6_entry_86 : decode cX6_entry 86 = .ok (.iconst 0, 1) := by decide +kernel
theorem dX6_entry_87 : decode cX6_entry 87 = .ok (.invokevirtual 115, 3) := by decide +kernel
theorem dX6_entry_90 : decode cX6_entry 90 = .ok (.ifCond .eq 5, 3) := by decide +kernel
theorem dX6_entry_93 : decode cX6_entry 93 = .ok (.iconst 0, 1) := by decide +kernel
theorem dX6_entry_94 : decode cX6_entry 94 = .ok (.ireturn, 1) := by decide +kernel
theorem dX6_entry_95 : decode cX6_entry 95 = .ok (.aload_n 0, 1) := by decide +kernel
theorem dX6_entry_96 : decode cX6_entry 96 = .ok (.getfield 7, 3) := by decide +kernel
theorem dX6_entry_99 : decode cX6_entry 99 = .ok (.aload_n 0, 1) := by decide +kernel
theorem dX6_entry_100 : decode cX6_entry 100 = .ok (.getfield 103, 3) := by decide +kernel
theorem dX6_entry_103 : decode cX6_entry 103 = .ok (.iload_n 1, 1) := by decide +kernel
theorem dX6_entry_104 : decode cX6_entry 104 = .ok (.iastore, 1) := by decide +kernel
theorem dX6_entry_105 : decode cX6_entry 105 = .ok (.aload_n 0, 1) := by decide +kernel
theorem dX6_entry_106 : decode cX6_entry 106 = .ok (.getfield 13, 3) := by decide +kernel
theorem dX6_entry_109 : decode cX6_entry 109 = .ok (.aload_n 0, 1) := by decide +kernel
theorem dX6_entry_110 : decode cX6_entry 110 = .ok (.getfield 103, 3) := by decide +kernel
theorem dX6_entry_113 : decode cX6_entry 113 = .ok (.iload_n 2, 1) := by decide +kernel
theorem dX6_entry_114 : decode cX6_entry 114 = .ok (.iastore, 1) := by decide +kernel
theorem dX6_entry_115 : decode cX6_entry 115 = .ok (.aload_n 0, 1) := by decide +kernel
theorem dX6_entry_116 : decode cX6_entry 116 = .ok (.iconst 0, 1) := by decide +kernel
theorem dX6_entry_117 : decode cX6_entry 117 = .ok (.putfield 119, 3) := by decide +kernel
theorem dX6_entry_120 : decode cX6_entry 120 = .ok (.aload_n 0, 1) := by decide +kernel
theorem dX6_entry_121 : decode cX6_entry 121 = .ok (.dup, 1) := by decide +kernel
theorem dX6_entry_122 : decode cX6_entry 122 = .ok (.getfield 103, 3) := by decide +kernel
theorem dX6_entry_125 : decode cX6_entry 125 = .ok (.iconst 1, 1) := by decide +kernel
theorem dX6_entry_126 : decode cX6_entry 126 = .ok (.iadd, 1) := by decide +kernel
theorem dX6_entry_127 : decode cX6_entry 127 = .ok (.putfield 103, 3) := by decide +kernel
theorem dX6_entry_130 : decode cX6_entry 130 = .ok (.aload_n 0, 1) := by decide +kernel
theorem dX6_entry_131 : decode cX6_entry 131 = .ok (.getfield 103, 3) := by decide +kernel
theorem dX6_entry_134 : decode cX6_entry 134 = .ok (.iconst 1, 1) := by decide +kernel
theorem dX6_entry_135 : decode cX6_entry 135 = .ok (.isub, 1) := by decide +kernel
theorem dX6_entry_136 : decode cX6_entry 136 = .ok (.ireturn, 1) := by decide +kernel
theorem dX6_sign_0 : decode cX6_sign 0 = .ok (.aload_n 0, 1) := by decide +kernel
theorem dX6_sign_1 : decode cX6_sign 1 = .ok (.aload_n 0, 1) := by decide +kernel
theorem dX6_sign_2 : decode cX6_sign 2 = .ok (.iload_n 1, 1) := by decide +kernel
theorem dX6_sign_3 : decode cX6_sign 3 = .ok (.invokevirtual 111, 3) := by decide +kernel
theorem dX6_sign_6 : decode cX6_sign 6 = .ok (.iload_n 2, 1) := by decide +kernel
theorem dX6_sign_7 : decode cX6_sign 7 = .ok (.ifCond .lt 10, 3) := by decide +kernel
theorem dX6_sign_10 : decode cX6_sign 10 = .ok (.iload_n 2, 1) := by decide +kernel
theorem dX6_sign_11 : decode cX6_sign 11 = .ok (.sipush 255, 3) := by decide +kernel
theorem dX6_sign_14 : decode cX6_sign 14 = .ok (.if_icmp .le 7, 3) := by decide +kernel
theorem dX6_sign_17 : decode cX6_sign 17 = .ok (.iconst 1, 1) := by decide +kernel
theorem dX6_sign_18 : decode cX6_sign 18 = .ok (.goto 4, 3) := by decide +kernel
theorem dX6_sign_21 : decode cX6_sign 21 = .ok (.iconst 0, 1) := by decide +kernel
theorem dX6_sign_22 : decode cX6_sign 22 = .ok (.aload_n 0, 1) := by decide +kernel
theorem dX6_sign_23 : decode cX6_sign 23 = .ok (.iload_n 1, 1) := by decide +kernel
theorem dX6_sign_24 : decode cX6_sign 24 = .ok (.invokevirtual 111, 3) := by decide +kernel
theorem dX6_sign_27 : decode cX6_sign 27 = .ok (.ifCond .ne 18, 3) := by decide +kernel
theorem dX6_sign_30 : decode cX6_sign 30 = .ok (.aload_n 0, 1) := by decide +kernel
theorem dX6_sign_31 : decode cX6_sign 31 = .ok (.getfield 19, 3) := by decide +kernel
theorem dX6_sign_34 : decode cX6_sign 34 = .ok (.iload_n 1, 1) := by decide +kernel
theorem dX6_sign_35 : decode cX6_sign 35 = .ok (.iaload, 1) := by decide +kernel
theorem dX6_sign_36 : decode cX6_sign 36 = .ok (.bipush 20, 2) := by decide +kernel
theorem dX6_sign_38 : decode cX6_sign 38 = .ok (.if_icmp .ne 7, 3) := by decide +kernel
theorem dX6_sign_41 : decode cX6_sign 41 = .ok (.iconst 1, 1) := by decide +kernel
theorem dX6_sign_42 : decode cX6_sign 42 = .ok (.goto 4, 3) := by decide +kernel
theorem dX6_sign_45 : decode cX6_sign 45 = .ok (.iconst 0, 1) := by decide +kernel
theorem dX6_sign_46 : decode cX6_sign 46 = .ok (.invokevirtual 115, 3) := by decide +kernel
theorem dX6_sign_49 : decode cX6_sign 49 = .ok (.ifCond .eq 5, 3) := by decide +kernel
theorem dX6_sign_52 : decode cX6_sign 52 = .ok (.iconst 0, 1) := by decide +kernel
theorem dX6_sign_53 : decode cX6_sign 53 = .ok (.ireturn, 1) := by decide +kernel
theorem dX6_sign_54 : decode cX6_sign 54 = .ok (.aload_n 0, 1) := by decide +kernel
theorem dX6_sign_55 : decode cX6_sign 55 = .ok (.getfield 16, 3) := by decide +kernel
theorem dX6_sign_58 : decode cX6_sign 58 = .ok (.bipush 20, 2) := by decide +kernel
theorem dX6_sign_60 : decode cX6_sign 60 = .ok (.iload_n 1, 1) := by decide +kernel
theorem dX6_sign_61 : decode cX6_sign 61 = .ok (.imul, 1) := by decide +kernel
theorem dX6_sign_62 : decode cX6_sign 62 = .ok (.aload_n 0, 1) := by decide +kernel
theorem dX6_sign_63 : decode cX6_sign 63 = .ok (.getfield 19, 3) := by decide +kernel
theorem dX6_sign_66 : decode cX6_sign 66 = .ok (.iload_n 1, 1) := by decide +kernel
theorem dX6_sign_67 : decode cX6_sign 67 = .ok (.iaload, 1) := by decide +kernel
theorem dX6_sign_68 : decode cX6_sign 68 = .ok (.iadd, 1) := by decide +kernel
theorem dX6_sign_69 : decode cX6_sign 69 = .ok (.iload_n 2, 1) := by decide +kernel
theorem dX6_sign_70 : decode cX6_sign 70 = .ok (.iastore, 1) := by decide +kernel
theorem dX6_sign_71 : decode cX6_sign 71 = .ok (.aload_n 0, 1) := by decide +kernel
theorem dX6_sign_72 : decode cX6_sign 72 = .ok (.getfield 19, 3) := by decide +kernel
theorem dX6_sign_75 : decode cX6_sign 75 = .ok (.iload_n 1, 1) := by decide +kernel
theorem dX6_sign_76 : decode cX6_sign 76 = .ok (.dup2, 1) := by decide +kernel
theorem dX6_sign_77 : decode cX6_sign 77 = .ok (.iaload, 1) := by decide +kernel
theorem dX6_sign_78 : decode cX6_sign 78 = .ok (.iconst 1, 1) := by decide +kernel
theorem dX6_sign_79 : decode cX6_sign 79 = .ok (.iadd, 1) := by decide +kernel
theorem dX6_sign_80 : decode cX6_sign 80 = .ok (.iastore, 1) := by decide +kernel
theorem dX6_sign_81 : decode cX6_sign 81 = .ok (.aload_n 0, 1) := by decide +kernel
theorem dX6_sign_82 : decode cX6_sign 82 = .ok (.iconst 0, 1) := by decide +kernel
theorem dX6_sign_83 : decode cX6_sign 83 = .ok (.putfield 119, 3) := by decide +kernel
theorem dX6_sign_86 : decode cX6_sign 86 = .ok (.aload_n 0, 1) := by decide +kernel
theorem dX6_sign_87 : decode cX6_sign 87 = .ok (.getfield 19, 3) := by decide +kernel
theorem dX6_sign_90 : decode cX6_sign 90 = .ok (.iload_n 1, 1) := by decide +kernel
theorem dX6_sign_91 : decode cX6_sign 91 = .ok (.iaload, 1) := by decide +kernel
theorem dX6_sign_92 : decode cX6_sign 92 = .ok (.ireturn, 1) := by decide +kernel
theorem dX6_toldOf_0 : decode cX6_toldOf 0 = .ok (.aload_n 0, 1) := by decide +kernel
theorem dX6_toldOf_1 : decode cX6_toldOf 1 = .ok (.getfield 38, 3) := by decide +kernel
theorem dX6_toldOf_4 : decode cX6_toldOf 4 = .ok (.iload_n 1, 1) := by decide +kernel
theorem dX6_toldOf_5 : decode cX6_toldOf 5 = .ok (.iaload, 1) := by decide +kernel
theorem dX6_toldOf_6 : decode cX6_toldOf 6 = .ok (.ifCond .le 14, 3) := by decide +kernel
theorem dX6_toldOf_9 : decode cX6_toldOf 9 = .ok (.aload_n 0, 1) := by decide +kernel
theorem dX6_toldOf_10 : decode cX6_toldOf 10 = .ok (.getfield 35, 3) := by decide +kernel
theorem dX6_toldOf_13 : decode cX6_toldOf 13 = .ok (.iload_n 1, 1) := by decide +kernel
theorem dX6_toldOf_14 : decode cX6_toldOf 14 = .ok (.iaload, 1) := by decide +kernel
theorem dX6_toldOf_15 : decode cX6_toldOf 15 = .ok (.iconst 1, 1) := by decide +kernel
theorem dX6_toldOf_16 : decode cX6_toldOf 16 = .ok (.iadd, 1) := by decide +kernel
theorem dX6_toldOf_17 : decode cX6_toldOf 17 = .ok (.goto 9, 3) := by decide +kernel
theorem dX6_toldOf_20 : decode cX6_toldOf 20 = .ok (.aload_n 0, 1) := by decide +kernel
theorem dX6_toldOf_21 : decode cX6_toldOf 21 = .ok (.getfield 35, 3) := by decide +kernel
theorem dX6_toldOf_24 : decode cX6_toldOf 24 = .ok (.iload_n 1, 1) := by decide +kernel
theorem dX6_toldOf_25 : decode cX6_toldOf 25 = .ok (.iaload, 1) := by decide +kernel
theorem dX6_toldOf_26 : decode cX6_toldOf 26 = .ok (.ireturn, 1) := by decide +kernel
theorem dX6_keep_0 : decode cX6_keep 0 = .ok (.bipush 20, 2) := by decide +kernel
theorem dX6_keep_2 : decode cX6_keep 2 = .ok (.iload_n 1, 1) := by decide +kernel
theorem dX6_keep_3 : decode cX6_keep 3 = .ok (.imul, 1) := by decide +kernel
theorem dX6_keep_4 : decode cX6_keep 4 = .ok (.aload_n 0, 1) := by decide +kernel
theorem dX6_keep_5 : decode cX6_keep 5 = .ok (.getfield 35, 3) := by decide +kernel
theorem dX6_keep_8 : decode cX6_keep 8 = .ok (.iload_n 1, 1) := by decide +kernel
theorem dX6_keep_9 : decode cX6_keep 9 = .ok (.iaload, 1) := by decide +kernel
theorem dX6_keep_10 : decode cX6_keep 10 = .ok (.iadd, 1) := by decide +kernel
theorem dX6_keep_11 : decode cX6_keep 11 = .ok (.istore 6, 2) := by decide +kernel
theorem dX6_keep_13 : decode cX6_keep 13 = .ok (.aload_n 0, 1) := by decide +kernel
theorem dX6_keep_14 : decode cX6_keep 14 = .ok (.getfield 22, 3) := by decide +kernel
theorem dX6_keep_17 : decode cX6_keep 17 = .ok (.iload 6, 2) := by decide +kernel
theorem dX6_keep_19 : decode cX6_keep 19 = .ok (.iload_n 2, 1) := by decide +kernel
theorem dX6_keep_20 : decode cX6_keep 20 = .ok (.iastore, 1) := by decide +kernel
theorem dX6_keep_21 : decode cX6_keep 21 = .ok (.aload_n 0, 1) := by decide +kernel
theorem dX6_keep_22 : decode cX6_keep 22 = .ok (.getfield 25, 3) := by decide +kernel
theorem dX6_keep_25 : decode cX6_keep 25 = .ok (.iload 6, 2) := by decide +kernel
theorem dX6_keep_27 : decode cX6_keep 27 = .ok (.iload_n 3, 1) := by decide +kernel
theorem dX6_keep_28 : decode cX6_keep 28 = .ok (.iastore, 1) := by decide +kernel
theorem dX6_keep_29 : decode cX6_keep 29 = .ok (.aload_n 0, 1) := by decide +kernel
theorem dX6_keep_30 : decode cX6_keep 30 = .ok (.getfield 28, 3) := by decide +kernel
theorem dX6_keep_33 : decode cX6_keep 33 = .ok (.iload 6, 2) := by decide +kernel
theorem dX6_keep_35 : decode cX6_keep 35 = .ok (.iload 4, 2) := by decide +kernel
theorem dX6_keep_37 : decode cX6_keep 37 = .ok (.iastore, 1) := by decide +kernel
theorem dX6_keep_38 : decode cX6_keep 38 = .ok (.aload_n 0, 1) := by decide +kernel
theorem dX6_keep_39 : decode cX6_keep 39 = .ok (.getfield 31, 3) := by decide +kernel
theorem dX6_keep_42 : decode cX6_keep 42 = .ok (.iload 6, 2) := by decide +kernel
theorem dX6_keep_44 : decode cX6_keep 44 = .ok (.iload 5, 2) := by decide +kernel
theorem dX6_keep_46 : decode cX6_keep 46 = .ok (.bastore, 1) := by decide +kernel
theorem dX6_keep_47 : decode cX6_keep 47 = .ok (.aload_n 0, 1) := by decide +kernel
theorem dX6_keep_48 : decode cX6_keep 48 = .ok (.getfield 35, 3) := by decide +kernel
theorem dX6_keep_51 : decode cX6_keep 51 = .ok (.iload_n 1, 1) := by decide +kernel
theorem dX6_keep_52 : decode cX6_keep 52 = .ok (.dup2, 1) := by decide +kernel
theorem dX6_keep_53 : decode cX6_keep 53 = .ok (.iaload, 1) := by decide +kernel
theorem dX6_keep_54 : decode cX6_keep 54 = .ok (.iconst 1, 1) := by decide +kernel
theorem dX6_keep_55 : decode cX6_keep 55 = .ok (.iadd, 1) := by decide +kernel
theorem dX6_keep_56 : decode cX6_keep 56 = .ok (.iastore, 1) := by decide +kernel
theorem dX6_keep_57 : decode cX6_keep 57 = .ok (.return_, 1) := by decide +kernel
theorem dX6_page_0 : decode cX6_page 0 = .ok (.aload_n 0, 1) := by decide +kernel
theorem dX6_page_1 : decode cX6_page 1 = .ok (.aload_n 0, 1) := by decide +kernel
theorem dX6_page_2 : decode cX6_page 2 = .ok (.iload_n 1, 1) := by decide +kernel
theorem dX6_page_3 : decode cX6_page 3 = .ok (.invokevirtual 111, 3) := by decide +kernel
theorem dX6_page_6 : decode cX6_page 6 = .ok (.iload_n 3, 1) := by decide +kernel
theorem dX6_page_7 : decode cX6_page 7 = .ok (.iconst 1, 1) := by decide +kernel
theorem dX6_page_8 : decode cX6_page 8 = .ok (.if_icmp .lt 11, 3) := by decide +kernel
theorem dX6_page_11 : decode cX6_page 11 = .ok (.iload_n 3, 1) := by decide +kernel
theorem dX6_page_12 : decode cX6_page 12 = .ok (.iload_n 2, 1) := by decide +kernel
theorem dX6_page_13 : decode cX6_page 13 = .ok (.invokestatic 122, 3) := by decide +kernel
theorem dX6_page_16 : decode cX6_page 16 = .ok (.if_icmp .le 7, 3) := by decide +kernel
theorem dX6_page_19 : decode cX6_page 19 = .ok (.iconst 1, 1) := by decide +kernel
theorem dX6_page_20 : decode cX6_page 20 = .ok (.goto 4, 3) := by decide +kernel
theorem dX6_page_23 : decode cX6_page 23 = .ok (.iconst 0, 1) := by decide +kernel
theorem dX6_page_24 : decode cX6_page 24 = .ok (.aload_n 0, 1) := by decide +kernel
theorem dX6_page_25 : decode cX6_page 25 = .ok (.iload_n 1, 1) := by decide +kernel
theorem dX6_page_26 : decode cX6_page 26 = .ok (.invokevirtual 111, 3) := by decide +kernel
theorem dX6_page_29 : decode cX6_page 29 = .ok (.ifCond .ne 17, 3) := by decide +kernel
theorem dX6_page_32 : decode cX6_page 32 = .ok (.aload_n 0, 1) := by decide +kernel
theorem dX6_page_33 : decode cX6_page 33 = .ok (.iload_n 1, 1) := by decide +kernel
theorem dX6_page_34 : decode cX6_page 34 = .ok (.invokevirtual 126, 3) := by decide +kernel
theorem dX6_page_37 : decode cX6_page 37 = .ok (.bipush 20, 2) := by decide +kernel
theorem dX6_page_39 : decode cX6_page 39 = .ok (.if_icmp .ne 7, 3) := by decide +kernel
theorem dX6_page_42 : decode cX6_page 42 = .ok (.iconst 1, 1) := by decide +kernel
theorem dX6_page_43 : decode cX6_page 43 = .ok (.goto 4, 3) := by decide +kernel
theorem dX6_page_46 : decode cX6_page 46 = .ok (.iconst 0, 1) := by decide +kernel
theorem dX6_page_47 : decode cX6_page 47 = .ok (.invokevirtual 115, 3) := by decide +kernel
theorem dX6_page_50 : decode cX6_page 50 = .ok (.ifCond .eq 5, 3) := by decide +kernel
theorem dX6_page_53 : decode cX6_page 53 = .ok (.iconst 0, 1) := by decide +kernel
theorem dX6_page_54 : decode cX6_page 54 = .ok (.ireturn, 1) := by decide +kernel
theorem dX6_page_55 : decode cX6_page 55 = .ok (.aload_n 0, 1) := by decide +kernel
theorem dX6_page_56 : decode cX6_page 56 = .ok (.iload_n 1, 1) := by decide +kernel
theorem dX6_page_57 : decode cX6_page 57 = .ok (.iload_n 2, 1) := by decide +kernel
theorem dX6_page_58 : decode cX6_page 58 = .ok (.iload_n 3, 1) := by decide +kernel
theorem dX6_page_59 : decode cX6_page 59 = .ok (.iload_n 3, 1) := by decide +kernel
theorem dX6_page_60 : decode cX6_page 60 = .ok (.iconst 0, 1) := by decide +kernel
theorem dX6_page_61 : decode cX6_page 61 = .ok (.invokevirtual 129, 3) := by decide +kernel
theorem dX6_page_64 : decode cX6_page 64 = .ok (.aload_n 0, 1) := by decide +kernel
theorem dX6_page_65 : decode cX6_page 65 = .ok (.iload_n 1, 1) := by decide +kernel
theorem dX6_page_66 : decode cX6_page 66 = .ok (.invokevirtual 126, 3) := by decide +kernel
theorem dX6_page_69 : decode cX6_page 69 = .ok (.ireturn, 1) := by decide +kernel
theorem dX6_range_0 : decode cX6_range 0 = .ok (.aload_n 0, 1) := by decide +kernel
theorem dX6_range_1 : decode cX6_range 1 = .ok (.iload_n 1, 1) := by decide +kernel
theorem dX6_range_2 : decode cX6_range 2 = .ok (.invokevirtual 111, 3) := by decide +kernel
theorem dX6_range_5 : decode cX6_range 5 = .ok (.ifCond .ne 20, 3) := by decide +kernel
theorem dX6_range_8 : decode cX6_range 8 = .ok (.iload_n 3, 1) := by decide +kernel
theorem dX6_range_9 : decode cX6_range 9 = .ok (.ifCond .ne 16, 3) := by decide +kernel
theorem dX6_range_12 : decode cX6_range 12 = .ok (.aload_n 0, 1) := by decide +kernel
theorem dX6_range_13 : decode cX6_range 13 = .ok (.getfield 38, 3) := by decide +kernel
theorem dX6_range_16 : decode cX6_range 16 = .ok (.iload_n 1, 1) := by decide +kernel
theorem dX6_range_17 : decode cX6_range 17 = .ok (.iaload, 1) := by decide +kernel
theorem dX6_range_18 : decode cX6_range 18 = .ok (.ifCond .ne 7, 3) := by decide +kernel
theorem dX6_range_21 : decode cX6_range 21 = .ok (.iconst 1, 1) := by decide +kernel
theorem dX6_range_22 : decode cX6_range 22 = .ok (.goto 4, 3) := by decide +kernel
theorem dX6_range_25 : decode cX6_range 25 = .ok (.iconst 0, 1) := by decide +kernel
theorem dX6_range_26 : decode cX6_range 26 = .ok (.istore 4, 2) := by decide +kernel
theorem dX6_range_28 : decode cX6_range 28 = .ok (.aload_n 0, 1) := by decide +kernel
theorem dX6_range_29 : decode cX6_range 29 = .ok (.aload_n 0, 1) := by decide +kernel
theorem dX6_range_30 : decode cX6_range 30 = .ok (.iload_n 1, 1) := by decide +kernel
theorem dX6_range_31 : decode cX6_range 31 = .ok (.invokevirtual 111, 3) := by decide +kernel
theorem dX6_range_34 : decode cX6_range 34 = .ok (.iload_n 2, 1) := by decide +kernel
theorem dX6_range_35 : decode cX6_range 35 = .ok (.iconst 1, 1) := by decide +kernel
theorem dX6_range_36 : decode cX6_range 36 = .ok (.if_icmp .lt 9, 3) := by decide +kernel
theorem dX6_range_39 : decode cX6_range 39 = .ok (.iload_n 2, 1) := by decide +kernel
theorem dX6_range_40 : decode cX6_range 40 = .ok (.ldc 110, 2) := by decide +kernel
theorem dX6_range_42 : decode cX6_range 42 = .ok (.if_icmp .le 7, 3) := by decide +kernel
theorem dX6_range_45 : decode cX6_range 45 = .ok (.iconst 1, 1) := by decide +kernel
theorem dX6_range_46 : decode cX6_range 46 = .ok (.goto 4, 3) := by decide +kernel
theorem dX6_range_49 : decode cX6_range 49 = .ok (.iconst 0, 1) := by decide +kernel
theorem dX6_range_50 : decode cX6_range 50 = .ok (.iload 4, 2) := by decide +kernel
theorem dX6_range_52 : decode cX6_range 52 = .ok (.ifCond .eq 18, 3) := by decide +kernel
theorem dX6_range_55 : decode cX6_range 55 = .ok (.aload_n 0, 1) := by decide +kernel
theorem dX6_range_56 : decode cX6_range 56 = .ok (.getfield 35, 3) := by decide +kernel
theorem dX6_range_59 : decode cX6_range 59 = .ok (.iload_n 1, 1) := by decide +kernel
theorem dX6_range_60 : decode cX6_range 60 = .ok (.iaload, 1) := by decide +kernel
theorem dX6_range_61 : decode cX6_range 61 = .ok (.bipush 20, 2) := by decide +kernel
theorem dX6_range_63 : decode cX6_range 63 = .ok (.if_icmp .ne 7, 3) := by decide +kernel
theorem dX6_range_66 : decode cX6_range 66 = .ok (.iconst 1, 1) := by decide +kernel
theorem dX6_range_67 : decode cX6_range 67 = .ok (.goto 4, 3) := by decide +kernel
theorem dX6_range_70 : decode cX6_range 70 = .ok (.iconst 0, 1) := by decide +kernel
theorem dX6_range_71 : decode cX6_range 71 = .ok (.invokevirtual 115, 3) := by decide +kernel
theorem dX6_range_74 : decode cX6_range 74 = .ok (.ifCond .eq 5, 3) := by decide +kernel
theorem dX6_range_77 : decode cX6_range 77 = .ok (.iconst 0, 1) := by decide +kernel
theorem dX6_range_78 : decode cX6_range 78 = .ok (.ireturn, 1) := by decide +kernel
theorem dX6_range_79 : decode cX6_range 79 = .ok (.iload 4, 2) := by decide +kernel
theorem dX6_range_81 : decode cX6_range 81 = .ok (.ifCond .eq 12, 3) := by decide +kernel
theorem dX6_range_84 : decode cX6_range 84 = .ok (.aload_n 0, 1) := by decide +kernel
theorem dX6_range_85 : decode cX6_range 85 = .ok (.getfield 38, 3) := by decide +kernel
theorem dX6_range_88 : decode cX6_range 88 = .ok (.iload_n 1, 1) := by decide +kernel
theorem dX6_range_89 : decode cX6_range 89 = .ok (.iload_n 2, 1) := by decide +kernel
theorem dX6_range_90 : decode cX6_range 90 = .ok (.iastore, 1) := by decide +kernel
theorem dX6_range_91 : decode cX6_range 91 = .ok (.iconst 1, 1) := by decide +kernel
theorem dX6_range_92 : decode cX6_range 92 = .ok (.ireturn, 1) := by decide +kernel
theorem dX6_range_93 : decode cX6_range 93 = .ok (.iload_n 3, 1) := by decide +kernel
theorem dX6_range_94 : decode cX6_range 94 = .ok (.ifCond .eq 22, 3) := by decide +kernel
theorem dX6_range_97 : decode cX6_range 97 = .ok (.aload_n 0, 1) := by decide +kernel
theorem dX6_range_98 : decode cX6_range 98 = .ok (.getfield 38, 3) := by decide +kernel
theorem dX6_range_101 : decode cX6_range 101 = .ok (.iload_n 1, 1) := by decide +kernel
theorem dX6_range_102 : decode cX6_range 102 = .ok (.iaload, 1) := by decide +kernel
theorem dX6_range_103 : decode cX6_range 103 = .ok (.ifCond .eq 13, 3) := by decide +kernel
theorem dX6_range_106 : decode cX6_range 106 = .ok (.iload_n 2, 1) := by decide +kernel
theorem dX6_range_107 : decode cX6_range 107 = .ok (.aload_n 0, 1) := by decide +kernel
theorem dX6_range_108 : decode cX6_range 108 = .ok (.getfield 38, 3) := by decide +kernel
theorem dX6_range_111 : decode cX6_range 111 = .ok (.iload_n 1, 1) := by decide +kernel
theorem dX6_range_112 : decode cX6_range 112 = .ok (.iaload, 1) := by decide +kernel
theorem dX6_range_113 : decode cX6_range 113 = .ok (.if_icmp .ge 5, 3) := by decide +kernel
theorem dX6_range_116 : decode cX6_range 116 = .ok (.iconst 0, 1) := by decide +kernel
theorem dX6_range_117 : decode cX6_range 117 = .ok (.ireturn, 1) := by decide +kernel
theorem dX6_range_118 : decode cX6_range 118 = .ok (.aload_n 0, 1) := by decide +kernel
theorem dX6_range_119 : decode cX6_range 119 = .ok (.iload_n 1, 1) := by decide +kernel
theorem dX6_range_120 : decode cX6_range 120 = .ok (.iconst 1, 1) := by decide +kernel
theorem dX6_range_121 : decode cX6_range 121 = .ok (.aload_n 0, 1) := by decide +kernel
theorem dX6_range_122 : decode cX6_range 122 = .ok (.getfield 38, 3) := by decide +kernel
theorem dX6_range_125 : decode cX6_range 125 = .ok (.iload_n 1, 1) := by decide +kernel
theorem dX6_range_126 : decode cX6_range 126 = .ok (.iaload, 1) := by decide +kernel
theorem dX6_range_127 : decode cX6_range 127 = .ok (.iload_n 2, 1) := by decide +kernel
theorem dX6_range_128 : decode cX6_range 128 = .ok (.iconst 1, 1) := by decide +kernel
theorem dX6_range_129 : decode cX6_range 129 = .ok (.invokevirtual 129, 3) := by decide +kernel
theorem dX6_range_132 : decode cX6_range 132 = .ok (.aload_n 0, 1) := by decide +kernel
theorem dX6_range_133 : decode cX6_range 133 = .ok (.getfield 38, 3) := by decide +kernel
theorem dX6_range_136 : decode cX6_range 136 = .ok (.iload_n 1, 1) := by decide +kernel
theorem dX6_range_137 : decode cX6_range 137 = .ok (.iconst 0, 1) := by decide +kernel
theorem dX6_range_138 : decode cX6_range 138 = .ok (.iastore, 1) := by decide +kernel
theorem dX6_range_139 : decode cX6_range 139 = .ok (.iconst 1, 1) := by decide +kernel
theorem dX6_range_140 : decode cX6_range 140 = .ok (.ireturn, 1) := by decide +kernel
theorem dX6_see_0 : decode cX6_see 0 = .ok (.aload_n 0, 1) := by decide +kernel
theorem dX6_see_1 : decode cX6_see 1 = .ok (.iload_n 1, 1) := by decide +kernel
theorem dX6_see_2 : decode cX6_see 2 = .ok (.invokevirtual 111, 3) := by decide +kernel
theorem dX6_see_5 : decode cX6_see 5 = .ok (.ifCond .ne 11, 3) := by decide +kernel
theorem dX6_see_8 : decode cX6_see 8 = .ok (.aload_n 0, 1) := by decide +kernel
theorem dX6_see_9 : decode cX6_see 9 = .ok (.iload_n 2, 1) := by decide +kernel
theorem dX6_see_10 : decode cX6_see 10 = .ok (.invokevirtual 111, 3) := by decide +kernel
theorem dX6_see_13 : decode cX6_see 13 = .ok (.ifCond .eq 7, 3) := by decide +kernel
theorem dX6_see_16 : decode cX6_see 16 = .ok (.iconst 1, 1) := by decide +kernel
theorem dX6_see_17 : decode cX6_see 17 = .ok (.goto 4, 3) := by decide +kernel
theorem dX6_see_20 : decode cX6_see 20 = .ok (.iconst 0, 1) := by decide +kernel
theorem dX6_see_21 : decode cX6_see 21 = .ok (.istore_n 3, 1) := by decide +kernel
theorem dX6_see_22 : decode cX6_see 22 = .ok (.iload_n 1, 1) := by decide +kernel
theorem dX6_see_23 : decode cX6_see 23 = .ok (.iload_n 2, 1) := by decide +kernel
theorem dX6_see_24 : decode cX6_see 24 = .ok (.if_icmp .ne 7, 3) := by decide +kernel
theorem dX6_see_27 : decode cX6_see 27 = .ok (.iconst 1, 1) := by decide +kernel
theorem dX6_see_28 : decode cX6_see 28 = .ok (.goto 4, 3) := by decide +kernel
theorem dX6_see_31 : decode cX6_see 31 = .ok (.iconst 0, 1) := by decide +kernel
theorem dX6_see_32 : decode cX6_see 32 = .ok (.istore 4, 2) := by decide +kernel
theorem dX6_see_34 : decode cX6_see 34 = .ok (.iconst 0, 1) := by decide +kernel
theorem dX6_see_35 : decode cX6_see 35 = .ok (.istore 5, 2) := by decide +kernel
theorem dX6_see_37 : decode cX6_see 37 = .ok (.iload_n 3, 1) := by decide +kernel
theorem dX6_see_38 : decode cX6_see 38 = .ok (.ifCond .ne 47, 3) := by decide +kernel
theorem dX6_see_41 : decode cX6_see 41 = .ok (.iload 5, 2) := by decide +kernel
