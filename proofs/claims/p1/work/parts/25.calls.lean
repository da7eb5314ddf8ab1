theorem dX6_explore_0 : decode cX6_explore 0 = .ok (.aload_n 0, 1) := by decide +kernel
theorem dX6_explore_1 : decode cX6_explore 1 = .ok (.iload_n 1, 1) := by decide +kernel
theorem dX6_explore_2 : decode cX6_explore 2 = .ok (.invokevirtual 67, 3) := by decide +kernel
theorem dX6_explore_5 : decode cX6_explore 5 = .ok (.ifCond .ne 5, 3) := by decide +kernel
theorem dX6_explore_10 : decode cX6_explore 10 = .ok (.aload_n 0, 1) := by decide +kernel
theorem dX6_explore_11 : decode cX6_explore 11 = .ok (.getfield 41, 3) := by decide +kernel
theorem dX6_explore_14 : decode cX6_explore 14 = .ok (.iconst 0, 1) := by decide +kernel
theorem dX6_explore_15 : decode cX6_explore 15 = .ok (.invokestatic 70, 3) := by decide +kernel
theorem dX6_explore_18 : decode cX6_explore 18 = .ok (.aload_n 0, 1) := by decide +kernel
theorem dX6_explore_19 : decode cX6_explore 19 = .ok (.iconst 0, 1) := by decide +kernel
theorem dX6_explore_20 : decode cX6_explore 20 = .ok (.putfield 52, 3) := by decide +kernel
theorem dX6_explore_23 : decode cX6_explore 23 = .ok (.iconst 0, 1) := by decide +kernel
theorem dX6_explore_24 : decode cX6_explore 24 = .ok (.istore_n 2, 1) := by decide +kernel
theorem dX6_explore_25 : decode cX6_explore 25 = .ok (.iload_n 2, 1) := by decide +kernel
theorem dX6_explore_26 : decode cX6_explore 26 = .ok (.aload_n 0, 1) := by decide +kernel
theorem dX6_explore_27 : decode cX6_explore 27 = .ok (.getfield 76, 3) := by decide +kernel
theorem dX6_explore_30 : decode cX6_explore 30 = .ok (.if_icmp .ge 72, 3) := by decide +kernel
theorem dX6_explore_102 : decode cX6_explore 102 = .ok (.aload_n 0, 1) := by decide +kernel
theorem dX6_explore_103 : decode cX6_explore 103 = .ok (.invokevirtual 82, 3) := by decide +kernel
theorem dX6_explore_106 : decode cX6_explore 106 = .ok (.pop, 1) := by decide +kernel
theorem dX6_explore_107 : decode cX6_explore 107 = .ok (.iconst 0, 1) := by decide +kernel
theorem dX6_explore_108 : decode cX6_explore 108 = .ok (.istore_n 2, 1) := by decide +kernel
theorem dX6_explore_109 : decode cX6_explore 109 = .ok (.iload_n 2, 1) := by decide +kernel
theorem dX6_explore_110 : decode cX6_explore 110 = .ok (.aload_n 0, 1) := by decide +kernel
theorem dX6_explore_111 : decode cX6_explore 111 = .ok (.getfield 52, 3) := by decide +kernel
theorem dX6_explore_114 : decode cX6_explore 114 = .ok (.if_icmp .ge 71, 3) := by decide +kernel
theorem dX6_explore_117 : decode cX6_explore 117 = .ok (.iload_n 2, 1) := by decide +kernel
theorem dX6_explore_118 : decode cX6_explore 118 = .ok (.sipush 3000, 3) := by decide +kernel
theorem dX6_explore_121 : decode cX6_explore 121 = .ok (.if_icmp .ge 64, 3) := by decide +kernel
theorem dX6_explore_124 : decode cX6_explore 124 = .ok (.iconst 0, 1) := by decide +kernel
theorem dX6_explore_125 : decode cX6_explore 125 = .ok (.istore_n 3, 1) := by decide +kernel
theorem dX6_explore_126 : decode cX6_explore 126 = .ok (.iload_n 3, 1) := by decide +kernel
theorem dX6_explore_127 : decode cX6_explore 127 = .ok (.aload_n 0, 1) := by decide +kernel
theorem dX6_explore_128 : decode cX6_explore 128 = .ok (.getfield 56, 3) := by decide +kernel
theorem dX6_explore_131 : decode cX6_explore 131 = .ok (.if_icmp .ge 48, 3) := by decide +kernel
theorem dX6_explore_134 : decode cX6_explore 134 = .ok (.iload_n 3, 1) := by decide +kernel
theorem dX6_explore_135 : decode cX6_explore 135 = .ok (.bipush 16, 2) := by decide +kernel
theorem dX6_explore_137 : decode cX6_explore 137 = .ok (.if_icmp .ge 42, 3) := by decide +kernel
theorem dX6_explore_140 : decode cX6_explore 140 = .ok (.aload_n 0, 1) := by decide +kernel
theorem dX6_explore_141 : decode cX6_explore 141 = .ok (.iload_n 2, 1) := by decide +kernel
theorem dX6_explore_142 : decode cX6_explore 142 = .ok (.iload_n 3, 1) := by decide +kernel
theorem dX6_explore_143 : decode cX6_explore 143 = .ok (.invokevirtual 86, 3) := by decide +kernel
theorem dX6_explore_146 : decode cX6_explore 146 = .ok (.aload_n 0, 1) := by decide +kernel
theorem dX6_explore_147 : decode cX6_explore 147 = .ok (.invokevirtual 82, 3) := by decide +kernel
theorem dX6_explore_150 : decode cX6_explore 150 = .ok (.istore 4, 2) := by decide +kernel
theorem dX6_explore_152 : decode cX6_explore 152 = .ok (.iload 4, 2) := by decide +kernel
theorem dX6_explore_154 : decode cX6_explore 154 = .ok (.iconst (-1), 1) := by decide +kernel
theorem dX6_explore_155 : decode cX6_explore 155 = .ok (.if_icmp .ne 5, 3) := by decide +kernel
theorem dX6_explore_160 : decode cX6_explore 160 = .ok (.aload_n 0, 1) := by decide +kernel
theorem dX6_explore_161 : decode cX6_explore 161 = .ok (.getfield 35, 3) := by decide +kernel
theorem dX6_explore_164 : decode cX6_explore 164 = .ok (.iload_n 2, 1) := by decide +kernel
theorem dX6_explore_165 : decode cX6_explore 165 = .ok (.bipush 16, 2) := by decide +kernel
theorem dX6_explore_167 : decode cX6_explore 167 = .ok (.imul, 1) := by decide +kernel
theorem dX6_explore_168 : decode cX6_explore 168 = .ok (.iload_n 3, 1) := by decide +kernel
theorem dX6_explore_169 : decode cX6_explore 169 = .ok (.iadd, 1) := by decide +kernel
theorem dX6_explore_170 : decode cX6_explore 170 = .ok (.iload 4, 2) := by decide +kernel
theorem dX6_explore_172 : decode cX6_explore 172 = .ok (.iastore, 1) := by decide +kernel
theorem dX6_explore_173 : decode cX6_explore 173 = .ok (.iinc 3 1, 3) := by decide +kernel
theorem dX6_explore_176 : decode cX6_explore 176 = .ok (.goto (-50), 3) := by decide +kernel
theorem dX6_explore_179 : decode cX6_explore 179 = .ok (.iinc 2 1, 3) := by decide +kernel
theorem dX6_explore_182 : decode cX6_explore 182 = .ok (.goto (-73), 3) := by decide +kernel
theorem dX6_explore_185 : decode cX6_explore 185 = .ok (.iconst 1, 1) := by decide +kernel
theorem dX6_explore_186 : decode cX6_explore 186 = .ok (.ireturn, 1) := by decide +kernel
theorem dX6_halve_0 : decode cX6_halve 0 = .ok (.iload_n 1, 1) := by decide +kernel
theorem dX6_halve_1 : decode cX6_halve 1 = .ok (.bipush 32, 2) := by decide +kernel
theorem dX6_halve_3 : decode cX6_halve 3 = .ok (.imul, 1) := by decide +kernel
theorem dX6_halve_4 : decode cX6_halve 4 = .ok (.istore_n 3, 1) := by decide +kernel
theorem dX6_halve_5 : decode cX6_halve 5 = .ok (.iload_n 2, 1) := by decide +kernel
theorem dX6_halve_6 : decode cX6_halve 6 = .ok (.bipush 32, 2) := by decide +kernel
theorem dX6_halve_8 : decode cX6_halve 8 = .ok (.imul, 1) := by decide +kernel
theorem dX6_halve_9 : decode cX6_halve 9 = .ok (.istore 4, 2) := by decide +kernel
theorem dX6_halve_11 : decode cX6_halve 11 = .ok (.iconst 0, 1) := by decide +kernel
theorem dX6_halve_12 : decode cX6_halve 12 = .ok (.istore 5, 2) := by decide +kernel
theorem dX6_halve_14 : decode cX6_halve 14 = .ok (.iload 5, 2) := by decide +kernel
theorem dX6_halve_16 : decode cX6_halve 16 = .ok (.aload_n 0, 1) := by decide +kernel
theorem dX6_halve_17 : decode cX6_halve 17 = .ok (.getfield 76, 3) := by decide +kernel
theorem dX6_halve_20 : decode cX6_halve 20 = .ok (.if_icmp .ge 77, 3) := by decide +kernel
theorem dX6_halve_97 : decode cX6_halve 97 = .ok (.return_, 1) := by decide +kernel
theorem dX6_locate_0 : decode cX6_locate 0 = .ok (.bipush 7, 2) := by decide +kernel
theorem dX6_locate_2 : decode cX6_locate 2 = .ok (.istore_n 1, 1) := by decide +kernel
theorem dX6_locate_3 : decode cX6_locate 3 = .ok (.iconst 0, 1) := by decide +kernel
theorem dX6_locate_4 : decode cX6_locate 4 = .ok (.istore_n 2, 1) := by decide +kernel
theorem dX6_locate_5 : decode cX6_locate 5 = .ok (.iload_n 2, 1) := by decide +kernel
theorem dX6_locate_6 : decode cX6_locate 6 = .ok (.aload_n 0, 1) := by decide +kernel
theorem dX6_locate_7 : decode cX6_locate 7 = .ok (.getfield 76, 3) := by decide +kernel
theorem dX6_locate_10 : decode cX6_locate 10 = .ok (.if_icmp .ge 27, 3) := by decide +kernel
theorem dX6_locate_37 : decode cX6_locate 37 = .ok (.iload_n 1, 1) := by decide +kernel
theorem dX6_locate_38 : decode cX6_locate 38 = .ok (.iload_n 1, 1) := by decide +kernel
theorem dX6_locate_39 : decode cX6_locate 39 = .ok (.bipush 15, 2) := by decide +kernel
theorem dX6_locate_41 : decode cX6_locate 41 = .ok (.iushr, 1) := by decide +kernel
theorem dX6_locate_42 : decode cX6_locate 42 = .ok (.ixor, 1) := by decide +kernel
theorem dX6_locate_43 : decode cX6_locate 43 = .ok (.ldc 116, 2) := by decide +kernel
theorem dX6_locate_45 : decode cX6_locate 45 = .ok (.imul, 1) := by decide +kernel
theorem dX6_locate_46 : decode cX6_locate 46 = .ok (.istore_n 1, 1) := by decide +kernel
theorem dX6_locate_47 : decode cX6_locate 47 = .ok (.iload_n 1, 1) := by decide +kernel
theorem dX6_locate_48 : decode cX6_locate 48 = .ok (.iload_n 1, 1) := by decide +kernel
theorem dX6_locate_49 : decode cX6_locate 49 = .ok (.bipush 13, 2) := by decide +kernel
theorem dX6_locate_51 : decode cX6_locate 51 = .ok (.iushr, 1) := by decide +kernel
theorem dX6_locate_52 : decode cX6_locate 52 = .ok (.ixor, 1) := by decide +kernel
theorem dX6_locate_53 : decode cX6_locate 53 = .ok (.sipush 8191, 3) := by decide +kernel
theorem dX6_locate_56 : decode cX6_locate 56 = .ok (.iand, 1) := by decide +kernel
theorem dX6_locate_57 : decode cX6_locate 57 = .ok (.istore_n 2, 1) := by decide +kernel
theorem dX6_locate_58 : decode cX6_locate 58 = .ok (.iconst 0, 1) := by decide +kernel
theorem dX6_locate_59 : decode cX6_locate 59 = .ok (.istore_n 3, 1) := by decide +kernel
theorem dX6_locate_60 : decode cX6_locate 60 = .ok (.iload_n 3, 1) := by decide +kernel
theorem dX6_locate_61 : decode cX6_locate 61 = .ok (.sipush 8192, 3) := by decide +kernel
theorem dX6_locate_64 : decode cX6_locate 64 = .ok (.if_icmp .ge 50, 3) := by decide +kernel
theorem dX6_locate_67 : decode cX6_locate 67 = .ok (.aload_n 0, 1) := by decide +kernel
theorem dX6_locate_68 : decode cX6_locate 68 = .ok (.getfield 41, 3) := by decide +kernel
theorem dX6_locate_71 : decode cX6_locate 71 = .ok (.iload_n 2, 1) := by decide +kernel
theorem dX6_locate_72 : decode cX6_locate 72 = .ok (.iaload, 1) := by decide +kernel
theorem dX6_locate_73 : decode cX6_locate 73 = .ok (.iconst 1, 1) := by decide +kernel
theorem dX6_locate_74 : decode cX6_locate 74 = .ok (.isub, 1) := by decide +kernel
theorem dX6_locate_75 : decode cX6_locate 75 = .ok (.istore 4, 2) := by decide +kernel
theorem dX6_locate_77 : decode cX6_locate 77 = .ok (.iload 4, 2) := by decide +kernel
theorem dX6_locate_79 : decode cX6_locate 79 = .ok (.ifCond .ge 9, 3) := by decide +kernel
theorem dX6_locate_82 : decode cX6_locate 82 = .ok (.aload_n 0, 1) := by decide +kernel
theorem dX6_locate_83 : decode cX6_locate 83 = .ok (.iload_n 2, 1) := by decide +kernel
theorem dX6_locate_84 : decode cX6_locate 84 = .ok (.invokevirtual 117, 3) := by decide +kernel
theorem dX6_locate_87 : decode cX6_locate 87 = .ok (.ireturn, 1) := by decide +kernel
theorem dX6_locate_88 : decode cX6_locate 88 = .ok (.aload_n 0, 1) := by decide +kernel
theorem dX6_locate_89 : decode cX6_locate 89 = .ok (.iload 4, 2) := by decide +kernel
theorem dX6_locate_91 : decode cX6_locate 91 = .ok (.invokevirtual 120, 3) := by decide +kernel
theorem dX6_locate_94 : decode cX6_locate 94 = .ok (.ifCond .eq 6, 3) := by decide +kernel
theorem dX6_locate_97 : decode cX6_locate 97 = .ok (.iload 4, 2) := by decide +kernel
theorem dX6_locate_99 : decode cX6_locate 99 = .ok (.ireturn, 1) := by decide +kernel
theorem dX6_isFresh_0 : decode cX6_isFresh 0 = .ok (.iload_n 1, 1) := by decide +kernel
theorem dX6_isFresh_1 : decode cX6_isFresh 1 = .ok (.sipush 2999, 3) := by decide +kernel
theorem dX6_isFresh_4 : decode cX6_isFresh 4 = .ok (.invokestatic 96, 3) := by decide +kernel
theorem dX6_isFresh_7 : decode cX6_isFresh 7 = .ok (.bipush 32, 2) := by decide +kernel
theorem dX6_isFresh_9 : decode cX6_isFresh 9 = .ok (.imul, 1) := by decide +kernel
theorem dX6_isFresh_10 : decode cX6_isFresh 10 = .ok (.istore_n 2, 1) := by decide +kernel
theorem dX6_isFresh_11 : decode cX6_isFresh 11 = .ok (.iconst 0, 1) := by decide +kernel
theorem dX6_isFresh_12 : decode cX6_isFresh 12 = .ok (.istore_n 3, 1) := by decide +kernel
theorem dX6_isFresh_13 : decode cX6_isFresh 13 = .ok (.iload_n 3, 1) := by decide +kernel
theorem dX6_isFresh_14 : decode cX6_isFresh 14 = .ok (.aload_n 0, 1) := by decide +kernel
theorem dX6_isFresh_15 : decode cX6_isFresh 15 = .ok (.getfield 76, 3) := by decide +kernel
theorem dX6_isFresh_18 : decode cX6_isFresh 18 = .ok (.if_icmp .ge 34, 3) := by decide +kernel
theorem dX6_isFresh_52 : decode cX6_isFresh 52 = .ok (.iconst 1, 1) := by decide +kernel
theorem dX6_isFresh_53 : decode cX6_isFresh 53 = .ok (.ireturn, 1) := by decide +kernel
theorem dX6_addPlace_0 : decode cX6_addPlace 0 = .ok (.aload_n 0, 1) := by decide +kernel
theorem dX6_addPlace_1 : decode cX6_addPlace 1 = .ok (.getfield 52, 3) := by decide +kernel
theorem dX6_addPlace_4 : decode cX6_addPlace 4 = .ok (.ifCond .lt 13, 3) := by decide +kernel
theorem dX6_addPlace_7 : decode cX6_addPlace 7 = .ok (.aload_n 0, 1) := by decide +kernel
theorem dX6_addPlace_8 : decode cX6_addPlace 8 = .ok (.getfield 52, 3) := by decide +kernel
theorem dX6_addPlace_11 : decode cX6_addPlace 11 = .ok (.sipush 3000, 3) := by decide +kernel
theorem dX6_addPlace_14 : decode cX6_addPlace 14 = .ok (.if_icmp .lt 5, 3) := by decide +kernel
theorem dX6_addPlace_19 : decode cX6_addPlace 19 = .ok (.aload_n 0, 1) := by decide +kernel
theorem dX6_addPlace_20 : decode cX6_addPlace 20 = .ok (.getfield 52, 3) := by decide +kernel
theorem dX6_addPlace_23 : decode cX6_addPlace 23 = .ok (.bipush 32, 2) := by decide +kernel
theorem dX6_addPlace_25 : decode cX6_addPlace 25 = .ok (.imul, 1) := by decide +kernel
theorem dX6_addPlace_26 : decode cX6_addPlace 26 = .ok (.istore_n 2, 1) := by decide +kernel
theorem dX6_addPlace_27 : decode cX6_addPlace 27 = .ok (.iconst 0, 1) := by decide +kernel
theorem dX6_addPlace_28 : decode cX6_addPlace 28 = .ok (.istore_n 3, 1) := by decide +kernel
theorem dX6_addPlace_29 : decode cX6_addPlace 29 = .ok (.iload_n 3, 1) := by decide +kernel
theorem dX6_addPlace_30 : decode cX6_addPlace 30 = .ok (.aload_n 0, 1) := by decide +kernel
theorem dX6_addPlace_31 : decode cX6_addPlace 31 = .ok (.getfield 76, 3) := by decide +kernel
theorem dX6_addPlace_34 : decode cX6_addPlace 34 = .ok (.if_icmp .ge 29, 3) := by decide +kernel
theorem dX6_addPlace_63 : decode cX6_addPlace 63 = .ok (.aload_n 0, 1) := by decide +kernel
theorem dX6_addPlace_64 : decode cX6_addPlace 64 = .ok (.dup, 1) := by decide +kernel
theorem dX6_addPlace_65 : decode cX6_addPlace 65 = .ok (.getfield 52, 3) := by decide +kernel
theorem dX6_addPlace_68 : decode cX6_addPlace 68 = .ok (.iconst 1, 1) := by decide +kernel
theorem dX6_addPlace_69 : decode cX6_addPlace 69 = .ok (.iadd, 1) := by decide +kernel
theorem dX6_addPlace_70 : decode cX6_addPlace 70 = .ok (.putfield 52, 3) := by decide +kernel
theorem dX6_addPlace_73 : decode cX6_addPlace 73 = .ok (.aload_n 0, 1) := by decide +kernel
theorem dX6_addPlace_74 : decode cX6_addPlace 74 = .ok (.getfield 41, 3) := by decide +kernel
theorem dX6_addPlace_77 : decode cX6_addPlace 77 = .ok (.iload_n 1, 1) := by decide +kernel
theorem dX6_addPlace_78 : decode cX6_addPlace 78 = .ok (.sipush 8191, 3) := by decide +kernel
theorem dX6_addPlace_81 : decode cX6_addPlace 81 = .ok (.iand, 1) := by decide +kernel
theorem dX6_addPlace_82 : decode cX6_addPlace 82 = .ok (.aload_n 0, 1) := by decide +kernel
theorem dX6_addPlace_83 : decode cX6_addPlace 83 = .ok (.getfield 52, 3) := by decide +kernel
theorem dX6_addPlace_86 : decode cX6_addPlace 86 = .ok (.iastore, 1) := by decide +kernel
theorem dX6_addPlace_87 : decode cX6_addPlace 87 = .ok (.aload_n 0, 1) := by decide +kernel
theorem dX6_addPlace_88 : decode cX6_addPlace 88 = .ok (.getfield 52, 3) := by decide +kernel
theorem dX6_addPlace_91 : decode cX6_addPlace 91 = .ok (.iconst 1, 1) := by decide +kernel
theorem dX6_addPlace_92 : decode cX6_addPlace 92 = .ok (.isub, 1) := by decide +kernel
theorem dX6_addPlace_93 : decode cX6_addPlace 93 = .ok (.ireturn, 1) := by decide +kernel
theorem dX6_atomsAt_0 : decode cX6_atomsAt 0 = .ok (.iconst 0, 1) := by decide +kernel
theorem dX6_atomsAt_1 : decode cX6_atomsAt 1 = .ok (.istore_n 3, 1) := by decide +kernel
theorem dX6_atomsAt_2 : decode cX6_atomsAt 2 = .ok (.iload_n 1, 1) := by decide +kernel
theorem dX6_atomsAt_3 : decode cX6_atomsAt 3 = .ok (.sipush 2999, 3) := by decide +kernel
theorem dX6_atomsAt_6 : decode cX6_atomsAt 6 = .ok (.invokestatic 96, 3) := by decide +kernel
theorem dX6_atomsAt_9 : decode cX6_atomsAt 9 = .ok (.bipush 32, 2) := by decide +kernel
theorem dX6_atomsAt_11 : decode cX6_atomsAt 11 = .ok (.imul, 1) := by decide +kernel
theorem dX6_atomsAt_12 : decode cX6_atomsAt 12 = .ok (.istore 4, 2) := by decide +kernel
theorem dX6_atomsAt_14 : decode cX6_atomsAt 14 = .ok (.iconst 0, 1) := by decide +kernel
theorem dX6_atomsAt_15 : decode cX6_atomsAt 15 = .ok (.istore 5, 2) := by decide +kernel
theorem dX6_atomsAt_17 : decode cX6_atomsAt 17 = .ok (.iload 5, 2) := by decide +kernel
theorem dX6_atomsAt_19 : decode cX6_atomsAt 19 = .ok (.aload_n 0, 1) := by decide +kernel
theorem dX6_atomsAt_20 : decode cX6_atomsAt 20 = .ok (.getfield 76, 3) := by decide +kernel
theorem dX6_atomsAt_23 : decode cX6_atomsAt 23 = .ok (.if_icmp .ge 126, 3) := by decide +kernel
theorem dX6_atomsAt_149 : decode cX6_atomsAt 149 = .ok (.iload_n 3, 1) := by decide +kernel
theorem dX6_atomsAt_150 : decode cX6_atomsAt 150 = .ok (.ireturn, 1) := by decide +kernel
theorem dX6_soOf_0 : decode cX6_soOf 0 = .ok (.iconst 0, 1) := by decide +kernel
theorem dX6_soOf_1 : decode cX6_soOf 1 = .ok (.istore_n 2, 1) := by decide +kernel
theorem dX6_soOf_2 : decode cX6_soOf 2 = .ok (.iconst 0, 1) := by decide +kernel
theorem dX6_soOf_3 : decode cX6_soOf 3 = .ok (.istore_n 3, 1) := by decide +kernel
theorem dX6_soOf_4 : decode cX6_soOf 4 = .ok (.iload_n 3, 1) := by decide +kernel
theorem dX6_soOf_5 : decode cX6_soOf 5 = .ok (.bipush 24, 2) := by decide +kernel
theorem dX6_soOf_7 : decode cX6_soOf 7 = .ok (.if_icmp .gt 37, 3) := by decide +kernel
theorem dX6_soOf_10 : decode cX6_soOf 10 = .ok (.aload_n 0, 1) := by decide +kernel
theorem dX6_soOf_11 : decode cX6_soOf 11 = .ok (.getfield 90, 3) := by decide +kernel
theorem dX6_soOf_14 : decode cX6_soOf 14 = .ok (.iload_n 3, 1) := by decide +kernel
theorem dX6_soOf_15 : decode cX6_soOf 15 = .ok (.iushr, 1) := by decide +kernel
theorem dX6_soOf_16 : decode cX6_soOf 16 = .ok (.iconst 1, 1) := by decide +kernel
theorem dX6_soOf_17 : decode cX6_soOf 17 = .ok (.iand, 1) := by decide +kernel
theorem dX6_soOf_18 : decode cX6_soOf 18 = .ok (.iconst 1, 1) := by decide +kernel
theorem dX6_soOf_19 : decode cX6_soOf 19 = .ok (.if_icmp .ne 19, 3) := by decide +kernel
theorem dX6_soOf_38 : decode cX6_soOf 38 = .ok (.iinc 3 1, 3) := by decide +kernel
theorem dX6_soOf_41 : decode cX6_soOf 41 = .ok (.goto (-37), 3) := by decide +kernel
theorem dX6_soOf_44 : decode cX6_soOf 44 = .ok (.iload_n 2, 1) := by decide +kernel
theorem dX6_soOf_45 : decode cX6_soOf 45 = .ok (.ireturn, 1) := by decide +kernel
theorem dJ7_fill_53178_0 : decode cJ7_fill_53178 0 = .ok (.iconst 0, 1) := by decide +kernel
theorem dJ7_fill_53178_1 : decode cJ7_fill_53178 1 = .ok (.istore_n 2, 1) := by decide +kernel
theorem dJ7_fill_53178_2 : decode cJ7_fill_53178 2 = .ok (.aload_n 0, 1) := by decide +kernel
theorem dJ7_fill_53178_3 : decode cJ7_fill_53178 3 = .ok (.arraylength, 1) := by decide +kernel
theorem dJ7_fill_53178_4 : decode cJ7_fill_53178 4 = .ok (.istore_n 3, 1) := by decide +kernel
theorem dJ7_fill_53178_5 : decode cJ7_fill_53178 5 = .ok (.iload_n 2, 1) := by decide +kernel
theorem dJ7_fill_53178_6 : decode cJ7_fill_53178 6 = .ok (.iload_n 3, 1) := by decide +kernel
theorem dJ7_fill_53178_7 : decode cJ7_fill_53178 7 = .ok (.if_icmp .ge 13, 3) := by decide +kernel
theorem dJ7_fill_53178_10 : decode cJ7_fill_53178 10 = .ok (.aload_n 0, 1) := by decide +kernel
theorem dJ7_fill_53178_11 : decode cJ7_fill_53178 11 = .ok (.iload_n 2, 1) := by decide +kernel
theorem dJ7_fill_53178_12 : decode cJ7_fill_53178 12 = .ok (.iload_n 1, 1) := by decide +kernel
theorem dJ7_fill_53178_13 : decode cJ7_fill_53178 13 = .ok (.iastore, 1) := by decide +kernel
theorem dJ7_fill_53178_14 : decode cJ7_fill_53178 14 = .ok (.iinc 2 1, 3) := by decide +kernel
theorem dJ7_fill_53178_17 : decode cJ7_fill_53178 17 = .ok (.goto (-12), 3) := by decide +kernel
theorem dJ7_fill_53178_20 : decode cJ7_fill_53178 20 = .ok (.return_, 1) := by decide +kernel
set_option maxHeartbeats 400000000 in
set_option maxRecDepth 100000 in
theorem c_J7_fill_53178_0 (l : Launch) (E : kE) (D : va_G) (cI cJ cB cZ : ClassId) (h0 : Nat) (g0 : Nat → Int32)  : kV l E D (kT cI cJ cB cZ) yJ7_fill_53178 vW_J7_fill_53178 ({ frames := 0, cells := 0, slots := 0, locals := 0 }) [.ref h0, .int 0] [(h0, .inl (cI, 8192, .inl g0))] (fun _ : Unit => [(h0, .inl (cI, 8192, .inl (k_fill 0 8192 g0)))]) 0 0 := by
  intro sz
  refine Met.ofW (cc := cJ7_fill_53178) (maxL := 4) (ret := none) (by decide) rfl ?_
  intro p e s m args below meth c s₁ B hml hv
  obtain ⟨rfl, hsz, hP, hK, hD0, hN, hX⟩ := hv
  have hx := B.exec
  have hb := B.bytes
  have hr := B.returns
  have hts := atoms_spec (ws := vW_J7_fill_53178) B.pre
  have hown : s.vm.findClass RJ7 = some m.cls := findClass_of_methodNamed B.named
  have hlocks := B.notSynchronized
  subst hsz
  have hD := hD0.self (sz := s.heap.size)
  have hAE := k_AE hD0 hX
  generalize hAe : va_A [(h0, .inl (cI, 8192, .inl g0))] s.heap.size = A at hD hAE ⊢
  have hA : ∀ q : Nat, s.heap.size ≤ q → A q := fun q h => by rw [← hAe]; exact Or.inr h
  have hS : va_S A s.heap s.heap [] := va_S.rf
  have hP : va_P D vwCl [(h0, .inl (cI, 8192, .inl g0))] s.heap := hP
  have hl := lv_entry ([.ref h0, .int 0] : List Value) (n := 4) (Nat.le_of_ble_eq_true rfl)
  rw [lg_entry_eq]
  generalize (lg_sl ([.ref h0, .int 0]) ++ List.replicate (4 - (lg_sl ([.ref h0, .int 0])).length) Slot.unset).toArray = ls at hl ⊢
  have hl : lv_has ls 4 [(0, .ref h0), (1, .int 0)] := hl
  refine lv_iconst (v := 0) hx hb dJ7_fill_53178_0 (by decide) ?_
  refine lv_istore_n (lv' := [(2, .int 0), (0, .ref h0), (1, .int 0)]) hx hb dJ7_fill_53178_1 rfl hl (by decide) rfl (fun ls hl => ?_)
  refine lv_aload_n hx hb dJ7_fill_53178_2 rfl (lv_at hl 1 rfl) ?_
  refine va_alen (v := 8192) hx hb hK hP 0 0 rfl rfl rfl dJ7_fill_53178_3 ?_
  refine lv_istore_n (lv' := [(3, .int 8192), (2, .int 0), (0, .ref h0), (1, .int 0)]) hx hb dJ7_fill_53178_4 rfl hl (by decide) rfl (fun ls hl => ?_)
  refine k_loopW (P := fun i H locs ls => va_P D vwCl [(h0, .inl (cI, 8192, .inl (k_fill 0 i g0)))] H ∧ va_D A [(h0, .inl (cI, 8192, .inl (k_fill 0 i g0)))] ∧ va_S A s.heap H locs ∧ lv_has ls 4 [(3, .int 8192), (2, .int (nI i)), (0, .ref h0), (1, .int 0)]) 8192 (fun i H locs ls hi hh kk => ?_) (fun H locs ls hh => ?_) (Nat.zero_le 8192) ⟨by rw [k_fill_0]; exact hP, by rw [k_fill_0]; exact hD, hS, hl⟩
  · obtain ⟨hP, hD, hS, hl⟩ := hh
    refine lv_iload_n hx hb dJ7_fill_53178_5 rfl (lv_at hl 1 rfl) ?_
    refine lv_iload_n hx hb dJ7_fill_53178_6 rfl (lv_at hl 0 rfl) ?_
    refine lv_icmp_ge (tgt := 20) hx hb dJ7_fill_53178_7 (by decide) (fun c9 => absurd c9 (nI_ge hi (by decide))) (fun _ => ?_)
    refine lv_aload_n hx hb dJ7_fill_53178_10 rfl (lv_at hl 2 rfl) ?_
    refine lv_iload_n hx hb dJ7_fill_53178_11 rfl (lv_at hl 1 rfl) ?_
    refine lv_iload_n hx hb dJ7_fill_53178_12 rfl (lv_at hl 3 rfl) ?_
    refine va_iast hx hb hK hP hD hS 0 0 rfl rfl (vp_in_nI hi (by decide)) dJ7_fill_53178_13 (fun H locs hP hD hS => ?_)
    refine lv_iinc (v := nI (i + 1)) (lv' := [(2, .int (nI (i + 1))), (3, .int 8192), (0, .ref h0), (1, .int 0)]) hx hb dJ7_fill_53178_14 hl (k := 1) rfl (nI_succ i).symm (by decide) rfl (fun ls hl => ?_)
    refine lv_goto (tgt := 5) hx hb dJ7_fill_53178_17 (by decide) ?_
    rw [nI_clamp (by omega), k_fill_1] at hP hD
    exact kk _ _ _ ⟨hP, hD, hS, lv_sub hl [1, 0, 2, 3] rfl⟩
  obtain ⟨hP, hD, hS, hl⟩ := hh
  have hP : va_P D vwCl [(h0, .inl (cI, 8192, .inl (k_fill 0 8192 g0)))] H := hP
  have hD : va_D A [(h0, .inl (cI, 8192, .inl (k_fill 0 8192 g0)))] := hD
  have hl : lv_has ls 4 [(3, .int 8192), (2, .int 8192), (0, .ref h0), (1, .int 0)] := hl
  refine lv_iload_n hx hb dJ7_fill_53178_5 rfl (lv_at hl 1 rfl) ?_
  refine lv_iload_n hx hb dJ7_fill_53178_6 rfl (lv_at hl 0 rfl) ?_
  refine lv_icmp_ge (tgt := 20) hx hb dJ7_fill_53178_7 (by decide) (fun _ => ?_) (fun c9 => absurd (by decide) c9)
  exact W.vret hx hb hr (fun t ht hW => ⟨⟨(), rfl, trivial, kB_mk ht hW hP hK hD⟩, hS.F ht⟩) hS.2.2 dJ7_fill_53178_20
set_option maxHeartbeats 400000000 in
set_option maxRecDepth 100000 in
theorem c_X6_addPlace_0 (l : Launch) (E : kE) (D : va_G) (cI cJ cB cZ : ClassId) (h0 : Nat) (f0 : List Value) (h1 : Nat) (g0 : Nat → Int32) (e0 : f0[13]? = some (.int 0)) (e1 : f0[10]? = some (.int 0)) (e2 : f0[9]? = some (.ref h1)) : kI l E D (kT cI cJ cB cZ) yX6_addPlace vW_X6_addPlace ({ frames := 0, cells := 0, slots := 0, locals := 0 }) [.ref h0, .int 782] [(h0, .inr (6, f0)), (h1, .inl (cI, 8192, .inl g0))] (0) [(h0, .inr (6, (f0.set 13 (.int 1)))), (h1, .inl (cI, 8192, .inl (upd g0 782 1)))] 0 0 := by
  intro sz
  refine Met.ofW (cc := cX6_addPlace) (maxL := 4) (ret := (some .int)) (by decide) rfl ?_
  intro p e s m args below meth c s₁ B hml hv
  obtain ⟨rfl, hsz, hP, hK, hD0, hN, hX⟩ := hv
  have hx := B.exec
  have hb := B.bytes
  have hr := B.returns
  have hts := atoms_spec (ws := vW_X6_addPlace) B.pre
  have hown : s.vm.findClass RX6 = some m.cls := findClass_of_methodNamed B.named
  have hlocks := B.notSynchronized
  have hin6 : ∀ w ∈ wsX60, w ∈ vW_X6_addPlace := u9_X6_addPlace_wsX60
  subst hsz
  have hD := hD0.self (sz := s.heap.size)
  have hAE := k_AE hD0 hX
  generalize hAe : va_A [(h0, .inr (6, f0)), (h1, .inl (cI, 8192, .inl g0))] s.heap.size = A at hD hAE ⊢
  have hA : ∀ q : Nat, s.heap.size ≤ q → A q := fun q h => by rw [← hAe]; exact Or.inr h
  have hS : va_S A s.heap s.heap [] := va_S.rf
  have hP : va_P D vwCl [(h0, .inr (6, f0)), (h1, .inl (cI, 8192, .inl g0))] s.heap := hP
  have hl := lv_entry ([.ref h0, .int 782] : List Value) (n := 4) (Nat.le_of_ble_eq_true rfl)
  rw [lg_entry_eq]
  generalize (lg_sl ([.ref h0, .int 782]) ++ List.replicate (4 - (lg_sl ([.ref h0, .int 782])).length) Slot.unset).toArray = ls at hl ⊢
  have hl : lv_has ls 4 [(0, .ref h0), (1, .int 782)] := hl
  refine lv_aload_n hx hb dX6_addPlace_0 rfl (lv_at hl 0 rfl) ?_
  refine k_get (D := D) (ci := 6) (v := .int 0) (N := 14) hx hb hts hin6 hown hK hP 0 rfl rfl (by decide) f9_6_13 (hts (.fieldLink RX6 52 "IntegerHouse$Places" "size" "I") (o9_X6_addPlace _ (List.mem_of_getElem? (i := 0) rfl))) e0 dX6_addPlace_1 ?_
  refine lv_if_lt (tgt := 17) hx hb dX6_addPlace_4 (by decide) (fun c9 => absurd c9 (by decide)) (fun _ => ?_)
  refine lv_aload_n hx hb dX6_addPlace_7 rfl (lv_at hl 0 rfl) ?_
  refine k_get (D := D) (ci := 6) (v := .int 0) (N := 14) hx hb hts hin6 hown hK hP 0 rfl rfl (by decide) f9_6_13 (hts (.fieldLink RX6 52 "IntegerHouse$Places" "size" "I") (o9_X6_addPlace _ (List.mem_of_getElem? (i := 0) rfl))) e0 dX6_addPlace_8 ?_
  refine lv_sipush (v := 3000) hx hb dX6_addPlace_11 (by decide) ?_
  refine lv_icmp_lt (tgt := 19) hx hb dX6_addPlace_14 (by decide) (fun _ => ?_) (fun c9 => absurd (by decide) c9)
  refine lv_aload_n hx hb dX6_addPlace_19 rfl (lv_at hl 0 rfl) ?_
  refine k_get (D := D) (ci := 6) (v := .int 0) (N := 14) hx hb hts hin6 hown hK hP 0 rfl rfl (by decide) f9_6_13 (hts (.fieldLink RX6 52 "IntegerHouse$Places" "size" "I") (o9_X6_addPlace _ (List.mem_of_getElem? (i := 0) rfl))) e0 dX6_addPlace_20 ?_
  refine lv_bipush (v := 32) hx hb dX6_addPlace_23 (by decide) ?_
  refine lv_imul hx hb dX6_addPlace_25 ?_
  refine k_topi (y := 0) (by decide) ?_
  refine lv_istore_n (lv' := [(2, .int 0), (0, .ref h0), (1, .int 782)]) hx hb dX6_addPlace_26 rfl hl (by decide) rfl (fun ls hl => ?_)
  refine lv_iconst (v := 0) hx hb dX6_addPlace_27 (by decide) ?_
  refine lv_istore_n (lv' := [(3, .int 0), (2, .int 0), (0, .ref h0), (1, .int 782)]) hx hb dX6_addPlace_28 rfl hl (by decide) rfl (fun ls hl => ?_)
  refine lv_iload_n hx hb dX6_addPlace_29 rfl (lv_at hl 0 rfl) ?_
  refine lv_aload_n hx hb dX6_addPlace_30 rfl (lv_at hl 2 rfl) ?_
  refine k_get (D := D) (ci := 6) (v := .int 0) (N := 14) hx hb hts hin6 hown hK hP 0 rfl rfl (by decide) f9_6_10 (hts (.fieldLink RX6 76 "IntegerHouse$Places" "atoms" "I") (o9_X6_addPlace _ (List.mem_of_getElem? (i := 1) rfl))) e1 dX6_addPlace_31 ?_
  refine lv_icmp_ge (tgt := 63) hx hb dX6_addPlace_34 (by decide) (fun _ => ?_) (fun c9 => absurd (by decide) c9)
  refine lv_aload_n hx hb dX6_addPlace_63 rfl (lv_at hl 2 rfl) ?_
  refine lv_dup hx hb dX6_addPlace_64 rfl ?_
  refine k_get (D := D) (ci := 6) (v := .int 0) (N := 14) hx hb hts hin6 hown hK hP 0 rfl rfl (by decide) f9_6_13 (hts (.fieldLink RX6 52 "IntegerHouse$Places" "size" "I") (o9_X6_addPlace _ (List.mem_of_getElem? (i := 0) rfl))) e0 dX6_addPlace_65 ?_
  refine lv_iconst (v := 1) hx hb dX6_addPlace_68 (by decide) ?_
  refine lv_iadd hx hb dX6_addPlace_69 ?_
  refine k_topi (y := 1) (by decide) ?_
  refine k_put (D := D) (ci := 6) (v := .int 1) (ty := .int) (N := 14) hx hb hts hin6 tyX6 tyX6_ok nmX6 hown hK hP hD hS 0 rfl rfl (by decide) f9_6_13 (hts (.fieldLink RX6 52 "IntegerHouse$Places" "size" "I") (o9_X6_addPlace _ (List.mem_of_getElem? (i := 0) rfl))) rfl pd_2 rfl rfl (k_len e0) dX6_addPlace_70 (fun H locs hP hD hS => ?_)
  have hP : va_P D vwCl [(h0, .inr (6, (f0.set 13 (.int 1)))), (h1, .inl (cI, 8192, .inl g0))] H := hP
  have hD : va_D A [(h0, .inr (6, (f0.set 13 (.int 1)))), (h1, .inl (cI, 8192, .inl g0))] := hD
  refine lv_aload_n hx hb dX6_addPlace_73 rfl (lv_at hl 2 rfl) ?_
  refine k_get (D := D) (ci := 6) (v := .ref h1) (N := 14) hx hb hts hin6 hown hK hP 0 rfl rfl (by decide) f9_6_9 (hts (.fieldLink RX6 41 "IntegerHouse$Places" "table" "[I") (o9_X6_addPlace _ (List.mem_of_getElem? (i := 2) rfl))) (k_ne (by decide) e2) dX6_addPlace_74 ?_
  refine lv_iload_n hx hb dX6_addPlace_77 rfl (lv_at hl 3 rfl) ?_
  refine lv_sipush (v := 8191) hx hb dX6_addPlace_78 (by decide) ?_
  refine lv_iand hx hb dX6_addPlace_81 ?_
  refine k_topi (y := 782) (by decide) ?_
  refine lv_aload_n hx hb dX6_addPlace_82 rfl (lv_at hl 2 rfl) ?_
  refine k_get (D := D) (ci := 6) (v := .int 1) (N := 14) hx hb hts hin6 hown hK hP 0 rfl rfl (by decide) f9_6_13 (hts (.fieldLink RX6 52 "IntegerHouse$Places" "size" "I") (o9_X6_addPlace _ (List.mem_of_getElem? (i := 0) rfl))) (k_set e0) dX6_addPlace_83 ?_
  refine va_iast hx hb hK hP hD hS 1 0 rfl rfl (k_in (by decide)) dX6_addPlace_86 (fun H locs hP hD hS => ?_)
  have hP : va_P D vwCl [(h0, .inr (6, (f0.set 13 (.int 1)))), (h1, .inl (cI, 8192, .inl (upd g0 782 1)))] H := hP
  have hD : va_D A [(h0, .inr (6, (f0.set 13 (.int 1)))), (h1, .inl (cI, 8192, .inl (upd g0 782 1)))] := hD
  refine lv_aload_n hx hb dX6_addPlace_87 rfl (lv_at hl 2 rfl) ?_
  refine k_get (D := D) (ci := 6) (v := .int 1) (N := 14) hx hb hts hin6 hown hK hP 0 rfl rfl (by decide) f9_6_13 (hts (.fieldLink RX6 52 "IntegerHouse$Places" "size" "I") (o9_X6_addPlace _ (List.mem_of_getElem? (i := 0) rfl))) (k_set e0) dX6_addPlace_88 ?_
  refine lv_iconst (v := 1) hx hb dX6_addPlace_91 (by decide) ?_
  refine lv_isub hx hb dX6_addPlace_92 ?_
  refine k_topi (y := 0) (by decide) ?_
  exact W.iret (v := 0) hx hb hr (fun t ht hW => ⟨⟨0, (), rfl, rfl, kB_mk ht hW hP hK hD⟩, hS.F ht⟩) hS.2.2 dX6_addPlace_93
set_option maxHeartbeats 400000000 in
set_option maxRecDepth 100000 in
theorem c_X6_locate_0 (l : Launch) (E : kE) (D : va_G) (cI cJ cB cZ : ClassId) (h0 : Nat) (f0 : List Value) (h1 : Nat) (g0 : Nat → Int32) (e0 : f0[10]? = some (.int 0)) (e1 : f0[9]? = some (.ref h1)) (e2 : g0 782 = 0) (e3 : f0[13]? = some (.int 0)) : kI l E D (kT cI cJ cB cZ) yX6_locate vW_X6_locate ({ frames := 1, cells := 0, slots := 0, locals := 23 }) [.ref h0] [(h0, .inr (6, f0)), (h1, .inl (cI, 8192, .inl g0))] (0) [(h0, .inr (6, (f0.set 13 (.int 1)))), (h1, .inl (cI, 8192, .inl (upd g0 782 1)))] 0 0 := by
  intro sz
  refine Met.ofW (cc := cX6_locate) (maxL := 5) (ret := (some .int)) (by decide) rfl ?_
  intro p e s m args below meth c s₁ B hml hv
  obtain ⟨rfl, hsz, hP, hK, hD0, hN, hX⟩ := hv
  have hx := B.exec
  have hb := B.bytes
  have hr := B.returns
  have hts := atoms_spec (ws := vW_X6_locate) B.pre
  have hown : s.vm.findClass RX6 = some m.cls := findClass_of_methodNamed B.named
  have hlocks := B.notSynchronized
  have hin6 : ∀ w ∈ wsX60, w ∈ vW_X6_locate := u9_X6_locate_wsX60
  subst hsz
  have hD := hD0.self (sz := s.heap.size)
  have hAE := k_AE hD0 hX
  generalize hAe : va_A [(h0, .inr (6, f0)), (h1, .inl (cI, 8192, .inl g0))] s.heap.size = A at hD hAE ⊢
  have hA : ∀ q : Nat, s.heap.size ≤ q → A q := fun q h => by rw [← hAe]; exact Or.inr h
  have hS : va_S A s.heap s.heap [] := va_S.rf
  have hP : va_P D vwCl [(h0, .inr (6, f0)), (h1, .inl (cI, 8192, .inl g0))] s.heap := hP
  have hl := lv_entry ([.ref h0] : List Value) (n := 5) (Nat.le_of_ble_eq_true rfl)
  rw [lg_entry_eq]
  generalize (lg_sl ([.ref h0]) ++ List.replicate (5 - (lg_sl ([.ref h0])).length) Slot.unset).toArray = ls at hl ⊢
  have hl : lv_has ls 5 [(0, .ref h0)] := hl
  refine lv_bipush (v := 7) hx hb dX6_locate_0 (by decide) ?_
  refine lv_istore_n (lv' := [(1, .int 7), (0, .ref h0)]) hx hb dX6_locate_2 rfl hl (by decide) rfl (fun ls hl => ?_)
  refine lv_iconst (v := 0) hx hb dX6_locate_3 (by decide) ?_
  refine lv_istore_n (lv' := [(2, .int 0), (1, .int 7), (0, .ref h0)]) hx hb dX6_locate_4 rfl hl (by decide) rfl (fun ls hl => ?_)
  refine lv_iload_n hx hb dX6_locate_5 rfl (lv_at hl 0 rfl) ?_
  refine lv_aload_n hx hb dX6_locate_6 rfl (lv_at hl 2 rfl) ?_
  refine k_get (D := D) (ci := 6) (v := .int 0) (N := 14) hx hb hts hin6 hown hK hP 0 rfl rfl (by decide) f9_6_10 (hts (.fieldLink RX6 76 "IntegerHouse$Places" "atoms" "I") (o9_X6_locate _ (List.mem_of_getElem? (i := 0) rfl))) e0 dX6_locate_7 ?_
  refine lv_icmp_ge (tgt := 37) hx hb dX6_locate_10 (by decide) (fun _ => ?_) (fun c9 => absurd (by decide) c9)
  refine lv_iload_n hx hb dX6_locate_37 rfl (lv_at hl 1 rfl) ?_
  refine lv_iload_n hx hb dX6_locate_38 rfl (lv_at hl 1 rfl) ?_
  refine lv_bipush (v := 15) hx hb dX6_locate_39 (by decide) ?_
  refine lv_iushr (v := 0) hx hb dX6_locate_41 (by decide) ?_
  refine lv_ixor hx hb dX6_locate_42 ?_
  refine k_topi (y := 7) (by decide) ?_
  refine lv_ldc (own := RX6) (index := 116) (v := 739982445) hx hb hown (hts (.constant RX6 116 (739982445)) (o9_X6_locate _ (List.mem_of_getElem? (i := 1) rfl))) dX6_locate_43 ?_
  refine lv_imul hx hb dX6_locate_45 ?_
  refine k_topi (y := 884909819) (by decide) ?_
  refine lv_istore_n (lv' := [(1, .int 884909819), (2, .int 0), (0, .ref h0)]) hx hb dX6_locate_46 rfl hl (by decide) rfl (fun ls hl => ?_)
  refine lv_iload_n hx hb dX6_locate_47 rfl (lv_at hl 0 rfl) ?_
  refine lv_iload_n hx hb dX6_locate_48 rfl (lv_at hl 0 rfl) ?_
  refine lv_bipush (v := 13) hx hb dX6_locate_49 (by decide) ?_
  refine lv_iushr (v := 108021) hx hb dX6_locate_51 (by decide) ?_
  refine lv_ixor hx hb dX6_locate_52 ?_
  refine k_topi (y := 884933390) (by decide) ?_
  refine lv_sipush (v := 8191) hx hb dX6_locate_53 (by decide) ?_
  refine lv_iand hx hb dX6_locate_56 ?_
  refine k_topi (y := 782) (by decide) ?_
  refine lv_istore_n (lv' := [(2, .int 782), (1, .int 884909819), (0, .ref h0)]) hx hb dX6_locate_57 rfl hl (by decide) rfl (fun ls hl => ?_)
  refine lv_iconst (v := 0) hx hb dX6_locate_58 (by decide) ?_
  refine lv_istore_n (lv' := [(3, .int 0), (2, .int 782), (1, .int 884909819), (0, .ref h0)]) hx hb dX6_locate_59 rfl hl (by decide) rfl (fun ls hl => ?_)
  refine lv_iload_n hx hb dX6_locate_60 rfl (lv_at hl 0 rfl) ?_
  refine lv_sipush (v := 8192) hx hb dX6_locate_61 (by decide) ?_
  refine lv_icmp_ge (tgt := 114) hx hb dX6_locate_64 (by decide) (fun c9 => absurd c9 (by decide)) (fun _ => ?_)
  refine lv_aload_n hx hb dX6_locate_67 rfl (lv_at hl 3 rfl) ?_
  refine k_get (D := D) (ci := 6) (v := .ref h1) (N := 14) hx hb hts hin6 hown hK hP 0 rfl rfl (by decide) f9_6_9 (hts (.fieldLink RX6 41 "IntegerHouse$Places" "table" "[I") (o9_X6_locate _ (List.mem_of_getElem? (i := 2) rfl))) e1 dX6_locate_68 ?_
  refine lv_iload_n hx hb dX6_locate_71 rfl (lv_at hl 1 rfl) ?_
  refine va_iald hx hb hK hP 1 0 rfl rfl (k_in (by decide)) dX6_locate_72 ?_
  refine k_topi (y := 0) e2 ?_
  refine lv_iconst (v := 1) hx hb dX6_locate_73 (by decide) ?_
  refine lv_isub hx hb dX6_locate_74 ?_
  refine k_topi (y := (-1)) (by decide) ?_
  refine lv_istore (lv' := [(4, .int (-1)), (3, .int 0), (2, .int 782), (1, .int 884909819), (0, .ref h0)]) hx hb dX6_locate_75 hl (by decide) rfl (fun ls hl => ?_)
  refine lv_iload hx hb dX6_locate_77 (lv_at hl 0 rfl) ?_
  refine lv_if_ge (tgt := 88) hx hb dX6_locate_79 (by decide) (fun c9 => absurd c9 (by decide)) (fun _ => ?_)
  refine lv_aload_n hx hb dX6_locate_82 rfl (lv_at hl 4 rfl) ?_
  refine lv_iload_n hx hb dX6_locate_83 rfl (lv_at hl 2 rfl) ?_
  refine k_cVi (As := [.int 782]) (rest := []) (wc := [(h0, .inr (6, f0)), (h1, .inl (cI, 8192, .inl g0))]) (wr := []) (w1 := [(h0, .inr (6, (f0.set 13 (.int 1)))), (h1, .inl (cI, 8192, .inl (upd g0 782 1)))]) ⟨hx, hb, hml, hown, hts⟩ hN hX hAE hK hP hD hS hA [0, 1] [] (ci := 6) rfl rfl rfl rfl (by decide +kernel) (by decide +kernel) (by decide +kernel) (c_X6_addPlace_0 l E D cI cJ cB cZ h0 f0 h1 g0 e3 e0 e1) (cwV 1 hts g9_X6_locate_X6_addPlace_117 rfl rfl rfl (by decide +kernel) ⟨Nat.le_of_ble_eq_true rfl, Nat.le_of_ble_eq_true rfl⟩) rfl hl.1 (Nat.le_of_ble_eq_true rfl) dX6_locate_84 ⟨Nat.le_of_ble_eq_true rfl, Nat.le_of_ble_eq_true rfl⟩ (fun H locs hP hD hS => ?_)
  have hP : va_P D vwCl [(h0, .inr (6, (f0.set 13 (.int 1)))), (h1, .inl (cI, 8192, .inl (upd g0 782 1)))] H := hP
  have hD : va_D A [(h0, .inr (6, (f0.set 13 (.int 1)))), (h1, .inl (cI, 8192, .inl (upd g0 782 1)))] := hD
  exact W.iret (v := 0) hx hb hr (fun t ht hW => ⟨⟨0, (), rfl, rfl, kB_mk ht hW hP hK hD⟩, hS.F ht⟩) hS.2.2 dX6_locate_87
set_option maxHeartbeats 400000000 in
set_option maxRecDepth 100000 in
theorem c_X6_halve_0 (l : Launch) (E : kE) (D : va_G) (cI cJ cB cZ : ClassId) (h0 : Nat) (f0 : List Value) (e0 : f0[10]? = some (.int 0)) : kV l E D (kT cI cJ cB cZ) yX6_halve vW_X6_halve ({ frames := 0, cells := 0, slots := 0, locals := 0 }) [.ref h0, .int 0, .int 0] [(h0, .inr (6, f0))] (fun _ : Unit => [(h0, .inr (6, f0))]) 0 0 := by
  intro sz
  refine Met.ofW (cc := cX6_halve) (maxL := 7) (ret := none) (by decide) rfl ?_
  intro p e s m args below meth c s₁ B hml hv
  obtain ⟨rfl, hsz, hP, hK, hD0, hN, hX⟩ := hv
  have hx := B.exec
  have hb := B.bytes
  have hr := B.returns
  have hts := atoms_spec (ws := vW_X6_halve) B.pre
  have hown : s.vm.findClass RX6 = some m.cls := findClass_of_methodNamed B.named
  have hlocks := B.notSynchronized
  have hin6 : ∀ w ∈ wsX60, w ∈ vW_X6_halve := u9_X6_halve_wsX60
  subst hsz
  have hD := hD0.self (sz := s.heap.size)
  have hAE := k_AE hD0 hX
  generalize hAe : va_A [(h0, .inr (6, f0))] s.heap.size = A at hD hAE ⊢
  have hA : ∀ q : Nat, s.heap.size ≤ q → A q := fun q h => by rw [← hAe]; exact Or.inr h
  have hS : va_S A s.heap s.heap [] := va_S.rf
  have hP : va_P D vwCl [(h0, .inr (6, f0))] s.heap := hP
  have hl := lv_entry ([.ref h0, .int 0, .int 0] : List Value) (n := 7) (Nat.le_of_ble_eq_true rfl)
  rw [lg_entry_eq]
  generalize (lg_sl ([.ref h0, .int 0, .int 0]) ++ List.replicate (7 - (lg_sl ([.ref h0, .int 0, .int 0])).length) Slot.unset).toArray = ls at hl ⊢
  have hl : lv_has ls 7 [(0, .ref h0), (1, .int 0), (2, .int 0)] := hl
  refine lv_iload_n hx hb dX6_halve_0 rfl (lv_at hl 1 rfl) ?_
  refine lv_bipush (v := 32) hx hb dX6_halve_1 (by decide) ?_
  refine lv_imul hx hb dX6_halve_3 ?_
  refine k_topi (y := 0) (by decide) ?_
  refine lv_istore_n (lv' := [(3, .int 0), (0, .ref h0), (1, .int 0), (2, .int 0)]) hx hb dX6_halve_4 rfl hl (by decide) rfl (fun ls hl => ?_)
  refine lv_iload_n hx hb dX6_halve_5 rfl (lv_at hl 3 rfl) ?_
  refine lv_bipush (v := 32) hx hb dX6_halve_6 (by decide) ?_
  refine lv_imul hx hb dX6_halve_8 ?_
  refine k_topi (y := 0) (by decide) ?_
  refine lv_istore (lv' := [(4, .int 0), (3, .int 0), (0, .ref h0), (1, .int 0), (2, .int 0)]) hx hb dX6_halve_9 hl (by decide) rfl (fun ls hl => ?_)
  refine lv_iconst (v := 0) hx hb dX6_halve_11 (by decide) ?_
  refine lv_istore (lv' := [(5, .int 0), (4, .int 0), (3, .int 0), (0, .ref h0), (1, .int 0), (2, .int 0)]) hx hb dX6_halve_12 hl (by decide) rfl (fun ls hl => ?_)
  refine lv_iload hx hb dX6_halve_14 (lv_at hl 0 rfl) ?_
  refine lv_aload_n hx hb dX6_halve_16 rfl (lv_at hl 3 rfl) ?_
  refine k_get (D := D) (ci := 6) (v := .int 0) (N := 14) hx hb hts hin6 hown hK hP 0 rfl rfl (by decide) f9_6_10 (hts (.fieldLink RX6 76 "IntegerHouse$Places" "atoms" "I") (o9_X6_halve _ (List.mem_of_getElem? (i := 0) rfl))) e0 dX6_halve_17 ?_
  refine lv_icmp_ge (tgt := 97) hx hb dX6_halve_20 (by decide) (fun _ => ?_) (fun c9 => absurd (by decide) c9)
  exact W.vret hx hb hr (fun t ht hW => ⟨⟨(), rfl, trivial, kB_mk ht hW hP hK hD⟩, hS.F ht⟩) hS.2.2 dX6_halve_97
set_option maxHeartbeats 400000000 in
set_option maxRecDepth 100000 in
theorem c_X6_isFresh_0 (l : Launch) (E : kE) (D : va_G) (cI cJ cB cZ : ClassId) (h0 : Nat) (f0 : List Value) (e0 : f0[10]? = some (.int 0)) : kI l E D (kT cI cJ cB cZ) yX6_isFresh vW_X6_isFresh ({ frames := 1, cells := 0, slots := 0, locals := 21 }) [.ref h0, .int 0] [(h0, .inr (6, f0))] (1) [(h0, .inr (6, f0))] 0 0 := by
  intro sz
  refine Met.ofW (cc := cX6_isFresh) (maxL := 4) (ret := (some .boolean)) (by decide) rfl ?_
  intro p e s m args below meth c s₁ B hml hv
  obtain ⟨rfl, hsz, hP, hK, hD0, hN, hX⟩ := hv
  have hx := B.exec
  have hb := B.bytes
  have hr := B.returns
  have hts := atoms_spec (ws := vW_X6_isFresh) B.pre
  have hown : s.vm.findClass RX6 = some m.cls := findClass_of_methodNamed B.named
  have hlocks := B.notSynchronized
  have hin6 : ∀ w ∈ wsX60, w ∈ vW_X6_isFresh := u9_X6_isFresh_wsX60
  subst hsz
  have hD := hD0.self (sz := s.heap.size)
  have hAE := k_AE hD0 hX
  generalize hAe : va_A [(h0, .inr (6, f0))] s.heap.size = A at hD hAE ⊢
  have hA : ∀ q : Nat, s.heap.size ≤ q → A q := fun q h => by rw [← hAe]; exact Or.inr h
  have hS : va_S A s.heap s.heap [] := va_S.rf
  have hP : va_P D vwCl [(h0, .inr (6, f0))] s.heap := hP
  have hl := lv_entry ([.ref h0, .int 0] : List Value) (n := 4) (Nat.le_of_ble_eq_true rfl)
  rw [lg_entry_eq]
  generalize (lg_sl ([.ref h0, .int 0]) ++ List.replicate (4 - (lg_sl ([.ref h0, .int 0])).length) Slot.unset).toArray = ls at hl ⊢
  have hl : lv_has ls 4 [(0, .ref h0), (1, .int 0)] := hl
  refine lv_iload_n hx hb dX6_isFresh_0 rfl (lv_at hl 1 rfl) ?_
  refine lv_sipush (v := 2999) hx hb dX6_isFresh_1 (by decide) ?_
  refine va_mmin hx hb (by rw [hml]; exact hl.1.symm) hown (hts (.methodLink RX6 96 Lib.Math.min.name) (o9_X6_isFresh _ (List.mem_of_getElem? (i := 0) rfl))) (hts (.static Lib.Math.min.name) (o9_X6_isFresh _ (List.mem_of_getElem? (i := 1) rfl))) (hts (.initialized "java/lang/Math") (o9_X6_isFresh _ (List.mem_of_getElem? (i := 2) rfl))) (hts (.code Lib.Math.min.name Lib.Math.min.code 2 (some .int)) (o9_X6_isFresh _ (List.mem_of_getElem? (i := 3) rfl))) (Nat.le_of_ble_eq_true rfl) (Nat.le_of_ble_eq_true rfl) (Nat.le_of_ble_eq_true rfl) (Nat.le_of_ble_eq_true rfl) dX6_isFresh_4 ?_
  refine k_topi (y := 0) (by decide) ?_
  refine lv_bipush (v := 32) hx hb dX6_isFresh_7 (by decide) ?_
  refine lv_imul hx hb dX6_isFresh_9 ?_
  refine k_topi (y := 0) (by decide) ?_
  refine lv_istore_n (lv' := [(2, .int 0), (0, .ref h0), (1, .int 0)]) hx hb dX6_isFresh_10 rfl hl (by decide) rfl (fun ls hl => ?_)
  refine lv_iconst (v := 0) hx hb dX6_isFresh_11 (by decide) ?_
  refine lv_istore_n (lv' := [(3, .int 0), (2, .int 0), (0, .ref h0), (1, .int 0)]) hx hb dX6_isFresh_12 rfl hl (by decide) rfl (fun ls hl => ?_)
  refine lv_iload_n hx hb dX6_isFresh_13 rfl (lv_at hl 0 rfl) ?_
  refine lv_aload_n hx hb dX6_isFresh_14 rfl (lv_at hl 2 rfl) ?_
  refine k_get (D := D) (ci := 6) (v := .int 0) (N := 14) hx hb hts hin6 hown hK hP 0 rfl rfl (by decide) f9_6_10 (hts (.fieldLink RX6 76 "IntegerHouse$Places" "atoms" "I") (o9_X6_isFresh _ (List.mem_of_getElem? (i := 4) rfl))) e0 dX6_isFresh_15 ?_
  refine lv_icmp_ge (tgt := 52) hx hb dX6_isFresh_18 (by decide) (fun _ => ?_) (fun c9 => absurd (by decide) c9)
  refine lv_iconst (v := 1) hx hb dX6_isFresh_52 (by decide) ?_
  exact W.zret (v := 1) hx hb hr rfl (fun t ht hW => ⟨⟨1, (), rfl, rfl, kB_mk ht hW hP hK hD⟩, hS.F ht⟩) hS.2.2 dX6_isFresh_53
set_option maxHeartbeats 400000000 in
set_option maxRecDepth 100000 in
theorem c_X6_locate_1 (l : Launch) (E : kE) (D : va_G) (cI cJ cB cZ : ClassId) (h0 : Nat) (f0 : List Value) (h1 : Nat) (g0 : Nat → Int32) (e0 : f0[10]? = some (.int 0)) (e1 : f0[9]? = some (.ref h1)) (e2 : g0 782 = 1) : kI l E D (kT cI cJ cB cZ) yX6_locate vW_X6_locate ({ frames := 2, cells := 0, slots := 0, locals := 44 }) [.ref h0] [(h0, .inr (6, f0)), (h1, .inl (cI, 8192, .inl g0))] (0) [(h0, .inr (6, f0)), (h1, .inl (cI, 8192, .inl g0))] 0 0 := by
  intro sz
  refine Met.ofW (cc := cX6_locate) (maxL := 5) (ret := (some .int)) (by decide) rfl ?_
  intro p e s m args below meth c s₁ B hml hv
  obtain ⟨rfl, hsz, hP, hK, hD0, hN, hX⟩ := hv
  have hx := B.exec
  have hb := B.bytes
  have hr := B.returns
  have hts := atoms_spec (ws := vW_X6_locate) B.pre
  have hown : s.vm.findClass RX6 = some m.cls := findClass_of_methodNamed B.named
  have hlocks := B.notSynchronized
  have hin6 : ∀ w ∈ wsX60, w ∈ vW_X6_locate := u9_X6_locate_wsX60
  subst hsz
  have hD := hD0.self (sz := s.heap.size)
  have hAE := k_AE hD0 hX
  generalize hAe : va_A [(h0, .inr (6, f0)), (h1, .inl (cI, 8192, .inl g0))] s.heap.size = A at hD hAE ⊢
  have hA : ∀ q : Nat, s.heap.size ≤ q → A q := fun q h => by rw [← hAe]; exact Or.inr h
  have hS : va_S A s.heap s.heap [] := va_S.rf
  have hP : va_P D vwCl [(h0, .inr (6, f0)), (h1, .inl (cI, 8192, .inl g0))] s.heap := hP
  have hl := lv_entry ([.ref h0] : List Value) (n := 5) (Nat.le_of_ble_eq_true rfl)
  rw [lg_entry_eq]
  generalize (lg_sl ([.ref h0]) ++ List.replicate (5 - (lg_sl ([.ref h0])).length) Slot.unset).toArray = ls at hl ⊢
  have hl : lv_has ls 5 [(0, .ref h0)] := hl
  refine lv_bipush (v := 7) hx hb dX6_locate_0 (by decide) ?_
  refine lv_istore_n (lv' := [(1, .int 7), (0, .ref h0)]) hx hb dX6_locate_2 rfl hl (by decide) rfl (fun ls hl => ?_)
  refine lv_iconst (v := 0) hx hb dX6_locate_3 (by decide) ?_
  refine lv_istore_n (lv' := [(2, .int 0), (1, .int 7), (0, .ref h0)]) hx hb dX6_locate_4 rfl hl (by decide) rfl (fun ls hl => ?_)
  refine lv_iload_n hx hb dX6_locate_5 rfl (lv_at hl 0 rfl) ?_
  refine lv_aload_n hx hb dX6_locate_6 rfl (lv_at hl 2 rfl) ?_
  refine k_get (D := D) (ci := 6) (v := .int 0) (N := 14) hx hb hts hin6 hown hK hP 0 rfl rfl (by decide) f9_6_10 (hts (.fieldLink RX6 76 "IntegerHouse$Places" "atoms" "I") (o9_X6_locate _ (List.mem_of_getElem? (i := 0) rfl))) e0 dX6_locate_7 ?_
  refine lv_icmp_ge (tgt := 37) hx hb dX6_locate_10 (by decide) (fun _ => ?_) (fun c9 => absurd (by decide) c9)
  refine lv_iload_n hx hb dX6_locate_37 rfl (lv_at hl 1 rfl) ?_
  refine lv_iload_n hx hb dX6_locate_38 rfl (lv_at hl 1 rfl) ?_
  refine lv_bipush (v := 15) hx hb dX6_locate_39 (by decide) ?_
  refine lv_iushr (v := 0) hx hb dX6_locate_41 (by decide) ?_
  refine lv_ixor hx hb dX6_locate_42 ?_
  refine k_topi (y := 7) (by decide) ?_
  refine lv_ldc (own := RX6) (index := 116) (v := 739982445) hx hb hown (hts (.constant RX6 116 (739982445)) (o9_X6_locate _ (List.mem_of_getElem? (i := 1) rfl))) dX6_locate_43 ?_
  refine lv_imul hx hb dX6_locate_45 ?_
  refine k_topi (y := 884909819) (by decide) ?_
  refine lv_istore_n (lv' := [(1, .int 884909819), (2, .int 0), (0, .ref h0)]) hx hb dX6_locate_46 rfl hl (by decide) rfl (fun ls hl => ?_)
  refine lv_iload_n hx hb dX6_locate_47 rfl (lv_at hl 0 rfl) ?_
  refine lv_iload_n hx hb dX6_locate_48 rfl (lv_at hl 0 rfl) ?_
  refine lv_bipush (v := 13) hx hb dX6_locate_49 (by decide) ?_
  refine lv_iushr (v := 108021) hx hb dX6_locate_51 (by decide) ?_
  refine lv_ixor hx hb dX6_locate_52 ?_
  refine k_topi (y := 884933390) (by decide) ?_
  refine lv_sipush (v := 8191) hx hb dX6_locate_53 (by decide) ?_
  refine lv_iand hx hb dX6_locate_56 ?_
  refine k_topi (y := 782) (by decide) ?_
  refine lv_istore_n (lv' := [(2, .int 782), (1, .int 884909819), (0, .ref h0)]) hx hb dX6_locate_57 rfl hl (by decide) rfl (fun ls hl => ?_)
  refine lv_iconst (v := 0) hx hb dX6_locate_58 (by decide) ?_
  refine lv_istore_n (lv' := [(3, .int 0), (2, .int 782), (1, .int 884909819), (0, .ref h0)]) hx hb dX6_locate_59 rfl hl (by decide) rfl (fun ls hl => ?_)
  refine lv_iload_n hx hb dX6_locate_60 rfl (lv_at hl 0 rfl) ?_
  refine lv_sipush (v := 8192) hx hb dX6_locate_61 (by decide) ?_
  refine lv_icmp_ge (tgt := 114) hx hb dX6_locate_64 (by decide) (fun c9 => absurd c9 (by decide)) (fun _ => ?_)
  refine lv_aload_n hx hb dX6_locate_67 rfl (lv_at hl 3 rfl) ?_
  refine k_get (D := D) (ci := 6) (v := .ref h1) (N := 14) hx hb hts hin6 hown hK hP 0 rfl rfl (by decide) f9_6_9 (hts (.fieldLink RX6 41 "IntegerHouse$Places" "table" "[I") (o9_X6_locate _ (List.mem_of_getElem? (i := 2) rfl))) e1 dX6_locate_68 ?_
  refine lv_iload_n hx hb dX6_locate_71 rfl (lv_at hl 1 rfl) ?_
  refine va_iald hx hb hK hP 1 0 rfl rfl (k_in (by decide)) dX6_locate_72 ?_
  refine k_topi (y := 1) e2 ?_
  refine lv_iconst (v := 1) hx hb dX6_locate_73 (by decide) ?_
  refine lv_isub hx hb dX6_locate_74 ?_
  refine k_topi (y := 0) (by decide) ?_
  refine lv_istore (lv' := [(4, .int 0), (3, .int 0), (2, .int 782), (1, .int 884909819), (0, .ref h0)]) hx hb dX6_locate_75 hl (by decide) rfl (fun ls hl => ?_)
  refine lv_iload hx hb dX6_locate_77 (lv_at hl 0 rfl) ?_
  refine lv_if_ge (tgt := 88) hx hb dX6_locate_79 (by decide) (fun _ => ?_) (fun c9 => absurd (by decide) c9)
  refine lv_aload_n hx hb dX6_locate_88 rfl (lv_at hl 4 rfl) ?_
  refine lv_iload hx hb dX6_locate_89 (lv_at hl 0 rfl) ?_
  refine k_cVi (As := [.int 0]) (rest := []) (wc := [(h0, .inr (6, f0))]) (wr := [(h1, .inl (cI, 8192, .inl g0))]) (w1 := [(h0, .inr (6, f0))]) ⟨hx, hb, hml, hown, hts⟩ hN hX hAE hK hP hD hS hA [0] [1] (ci := 6) rfl rfl rfl rfl (by decide +kernel) (by decide +kernel) (by decide +kernel) (c_X6_isFresh_0 l E D cI cJ cB cZ h0 f0 e0) (cwV 1 hts g9_X6_locate_X6_isFresh_120 rfl rfl rfl (by decide +kernel) ⟨Nat.le_of_ble_eq_true rfl, Nat.le_of_ble_eq_true rfl⟩) rfl hl.1 (Nat.le_of_ble_eq_true rfl) dX6_locate_91 ⟨Nat.le_of_ble_eq_true rfl, Nat.le_of_ble_eq_true rfl⟩ (fun H locs hP hD hS => ?_)
  have hP : va_P D vwCl [(h1, .inl (cI, 8192, .inl g0)), (h0, .inr (6, f0))] H := hP
  have hD : va_D A [(h1, .inl (cI, 8192, .inl g0)), (h0, .inr (6, f0))] := hD
  refine lv_if_eq (tgt := 100) hx hb dX6_locate_94 (by decide) (fun c9 => absurd c9 (by decide)) (fun _ => ?_)
  refine lv_iload hx hb dX6_locate_97 (lv_at hl 0 rfl) ?_
  have hP := hP.sub (ws' := [(h0, .inr (6, f0)), (h1, .inl (cI, 8192, .inl g0))]) [1, 0] rfl
  have hD := hD.sub (ws' := [(h0, .inr (6, f0)), (h1, .inl (cI, 8192, .inl g0))]) [1, 0] (by decide +kernel) rfl
  exact W.iret (v := 0) hx hb hr (fun t ht hW => ⟨⟨0, (), rfl, rfl, kB_mk ht hW hP hK hD⟩, hS.F ht⟩) hS.2.2 dX6_locate_99
set_option maxHeartbeats 400000000 in
set_option maxRecDepth 100000 in
theorem c_X6_explore_0 (l : Launch) (E : kE) (D : va_G) (cI cJ cB cZ : ClassId) (h0 : Nat) (f0 : List Value) (h1 : Nat) (f1 : List Value) (h2 : Nat) (g0 : Nat → Int32) (h3 : Nat) (g1 : Nat → Int32) (e0 : f0[10]? = some (.int 0)) (e1 : f0[11]? = some (.int 0)) (e2 : f0[0]? = some (.ref h1)) (e3 : f1[10]? = some (.int 0)) (e4 : f0[12]? = some (.int 0)) (e5 : f0[9]? = some (.ref h2)) (e6 : f0[13]? = some (.int 0)) (e7 : f0[7]? = some (.ref h3)) : kI l E D (kT cI cJ cB cZ) yX6_explore vW_X6_explore ({ frames := 3, cells := 0, slots := 0, locals := 68 }) [.ref h0, .int 0] [(h0, .inr (6, f0)), (h1, .inr (2, f1)), (h2, .inl (cI, 8192, .inl g0)), (h3, .inl (cI, 48000, .inl g1))] (1) [(h0, .inr (6, ((((((((((((((((((((((((((((((f0.set 10 (.int 0)).set 11 (.int 0)).set 12 (.int 1)).set 11 (.int 0)).set 11 (.int 0)).set 11 (.int 0)).set 11 (.int 0)).set 11 (.int 0)).set 11 (.int 0)).set 11 (.int 0)).set 11 (.int 0)).set 11 (.int 0)).set 11 (.int 0)).set 11 (.int 0)).set 11 (.int 0)).set 11 (.int 0)).set 11 (.int 0)).set 11 (.int 0)).set 11 (.int 0)).set 11 (.int 0)).set 11 (.int 0)).set 11 (.int 0)).set 11 (.int 0)).set 11 (.int 0)).set 11 (.int 0)).set 11 (.int 0)).set 11 (.int 0)).set 11 (.int 0)).set 13 (.int 0)).set 13 (.int 1)))), (h1, .inr (2, f1)), (h2, .inl (cI, 8192, .inl (upd (k_fill 0 8192 g0) 782 1))), (h3, .inl (cI, 48000, .inl (upd g1 0 0)))] 0 0 := by
  intro sz
  refine Met.ofW (cc := cX6_explore) (maxL := 5) (ret := (some .boolean)) (by decide) rfl ?_
  intro p e s m args below meth c s₁ B hml hv
  obtain ⟨rfl, hsz, hP, hK, hD0, hN, hX⟩ := hv
  have hx := B.exec
  have hb := B.bytes
  have hr := B.returns
  have hts := atoms_spec (ws := vW_X6_explore) B.pre
  have hown : s.vm.findClass RX6 = some m.cls := findClass_of_methodNamed B.named
  have hlocks := B.notSynchronized
  have hin6 : ∀ w ∈ wsX60, w ∈ vW_X6_explore := u9_X6_explore_wsX60
  subst hsz
  have hD := hD0.self (sz := s.heap.size)
  have hAE := k_AE hD0 hX
  generalize hAe : va_A [(h0, .inr (6, f0)), (h1, .inr (2, f1)), (h2, .inl (cI, 8192, .inl g0)), (h3, .inl (cI, 48000, .inl g1))] s.heap.size = A at hD hAE ⊢
  have hA : ∀ q : Nat, s.heap.size ≤ q → A q := fun q h => by rw [← hAe]; exact Or.inr h
  have hS : va_S A s.heap s.heap [] := va_S.rf
  have hP : va_P D vwCl [(h0, .inr (6, f0)), (h1, .inr (2, f1)), (h2, .inl (cI, 8192, .inl g0)), (h3, .inl (cI, 48000, .inl g1))] s.heap := hP
  have hl := lv_entry ([.ref h0, .int 0] : List Value) (n := 5) (Nat.le_of_ble_eq_true rfl)
  rw [lg_entry_eq]
  generalize (lg_sl ([.ref h0, .int 0]) ++ List.replicate (5 - (lg_sl ([.ref h0, .int 0])).length) Slot.unset).toArray = ls at hl ⊢
  have hl : lv_has ls 5 [(0, .ref h0), (1, .int 0)] := hl
  refine lv_aload_n hx hb dX6_explore_0 rfl (lv_at hl 0 rfl) ?_
  refine lv_iload_n hx hb dX6_explore_1 rfl (lv_at hl 1 rfl) ?_
  refine k_cVi (As := [.int 0]) (rest := []) (wc := [(h0, .inr (6, f0)), (h1, .inr (2, f1))]) (wr := [(h2, .inl (cI, 8192, .inl g0)), (h3, .inl (cI, 48000, .inl g1))]) (w1 := [(h0, .inr (6, ((((((((((((((((((((((((((((f0.set 10 (.int 0)).set 11 (.int 0)).set 12 (.int 1)).set 11 (.int 0)).set 11 (.int 0)).set 11 (.int 0)).set 11 (.int 0)).set 11 (.int 0)).set 11 (.int 0)).set 11 (.int 0)).set 11 (.int 0)).set 11 (.int 0)).set 11 (.int 0)).set 11 (.int 0)).set 11 (.int 0)).set 11 (.int 0)).set 11 (.int 0)).set 11 (.int 0)).set 11 (.int 0)).set 11 (.int 0)).set 11 (.int 0)).set 11 (.int 0)).set 11 (.int 0)).set 11 (.int 0)).set 11 (.int 0)).set 11 (.int 0)).set 11 (.int 0)).set 11 (.int 0)))), (h1, .inr (2, f1))]) ⟨hx, hb, hml, hown, hts⟩ hN hX hAE hK hP hD hS hA [0, 1] [2, 3] (ci := 6) rfl rfl rfl rfl (by decide +kernel) (by decide +kernel) (by decide +kernel) (c_X6_gather_0 l E D cI cJ cB cZ h0 f0 h1 f1 e0 e1 e2 e3 e4) (cwV 1 hts g9_X6_explore_X6_gather_67 rfl rfl rfl (by decide +kernel) ⟨Nat.le_of_ble_eq_true rfl, Nat.le_of_ble_eq_true rfl⟩) rfl hl.1 (Nat.le_of_ble_eq_true rfl) dX6_explore_2 ⟨Nat.le_of_ble_eq_true rfl, Nat.le_of_ble_eq_true rfl⟩ (fun H locs hP hD hS => ?_)
  have hP : va_P D vwCl [(h2, .inl (cI, 8192, .inl g0)), (h3, .inl (cI, 48000, .inl g1)), (h0, .inr (6, ((((((((((((((((((((((((((((f0.set 10 (.int 0)).set 11 (.int 0)).set 12 (.int 1)).set 11 (.int 0)).set 11 (.int 0)).set 11 (.int 0)).set 11 (.int 0)).set 11 (.int 0)).set 11 (.int 0)).set 11 (.int 0)).set 11 (.int 0)).set 11 (.int 0)).set 11 (.int 0)).set 11 (.int 0)).set 11 (.int 0)).set 11 (.int 0)).set 11 (.int 0)).set 11 (.int 0)).set 11 (.int 0)).set 11 (.int 0)).set 11 (.int 0)).set 11 (.int 0)).set 11 (.int 0)).set 11 (.int 0)).set 11 (.int 0)).set 11 (.int 0)).set 11 (.int 0)).set 11 (.int 0)))), (h1, .inr (2, f1))] H := hP
  have hD : va_D A [(h2, .inl (cI, 8192, .inl g0)), (h3, .inl (cI, 48000, .inl g1)), (h0, .inr (6, ((((((((((((((((((((((((((((f0.set 10 (.int 0)).set 11 (.int 0)).set 12 (.int 1)).set 11 (.int 0)).set 11 (.int 0)).set 11 (.int 0)).set 11 (.int 0)).set 11 (.int 0)).set 11 (.int 0)).set 11 (.int 0)).set 11 (.int 0)).set 11 (.int 0)).set 11 (.int 0)).set 11 (.int 0)).set 11 (.int 0)).set 11 (.int 0)).set 11 (.int 0)).set 11 (.int 0)).set 11 (.int 0)).set 11 (.int 0)).set 11 (.int 0)).set 11 (.int 0)).set 11 (.int 0)).set 11 (.int 0)).set 11 (.int 0)).set 11 (.int 0)).set 11 (.int 0)).set 11 (.int 0)))), (h1, .inr (2, f1))] := hD
  refine lv_if_ne (tgt := 10) hx hb dX6_explore_5 (by decide) (fun _ => ?_) (fun c9 => absurd c9 (by decide))
  refine lv_aload_n hx hb dX6_explore_10 rfl (lv_at hl 0 rfl) ?_
  refine k_get (D := D) (ci := 6) (v := .ref h2) (N := 14) hx hb hts hin6 hown hK hP 2 rfl rfl (by decide) f9_6_9 (hts (.fieldLink RX6 41 "IntegerHouse$Places" "table" "[I") (o9_X6_explore _ (List.mem_of_getElem? (i := 4) rfl))) (k_ne (by decide) (k_ne (by decide) (k_ne (by decide) (k_ne (by decide) (k_ne (by decide) (k_ne (by decide) (k_ne (by decide) (k_ne (by decide) (k_ne (by decide) (k_ne (by decide) (k_ne (by decide) (k_ne (by decide) (k_ne (by decide) (k_ne (by decide) (k_ne (by decide) (k_ne (by decide) (k_ne (by decide) (k_ne (by decide) (k_ne (by decide) (k_ne (by decide) (k_ne (by decide) (k_ne (by decide) (k_ne (by decide) (k_ne (by decide) (k_ne (by decide) (k_ne (by decide) (k_ne (by decide) (k_ne (by decide) e5)))))))))))))))))))))))))))) dX6_explore_11 ?_
  refine lv_iconst (v := 0) hx hb dX6_explore_14 (by decide) ?_
  refine k_cSv (As := [.ref h2, .int 0]) (rest := []) (wc := [(h2, .inl (cI, 8192, .inl g0))]) (wr := [(h3, .inl (cI, 48000, .inl g1)), (h0, .inr (6, ((((((((((((((((((((((((((((f0.set 10 (.int 0)).set 11 (.int 0)).set 12 (.int 1)).set 11 (.int 0)).set 11 (.int 0)).set 11 (.int 0)).set 11 (.int 0)).set 11 (.int 0)).set 11 (.int 0)).set 11 (.int 0)).set 11 (.int 0)).set 11 (.int 0)).set 11 (.int 0)).set 11 (.int 0)).set 11 (.int 0)).set 11 (.int 0)).set 11 (.int 0)).set 11 (.int 0)).set 11 (.int 0)).set 11 (.int 0)).set 11 (.int 0)).set 11 (.int 0)).set 11 (.int 0)).set 11 (.int 0)).set 11 (.int 0)).set 11 (.int 0)).set 11 (.int 0)).set 11 (.int 0)))), (h1, .inr (2, f1))]) (w1 := (fun _ : Unit => [(h2, .inl (cI, 8192, .inl (k_fill 0 8192 g0)))])) ⟨hx, hb, hml, hown, hts⟩ hN hX hAE hK hP hD hS hA [0] [1, 2, 3] rfl rfl (by decide +kernel) (by decide +kernel) (by decide +kernel) (c_J7_fill_53178_0 l E D cI cJ cB cZ h2 g0 ) (va_cwS 2 hts g9_X6_explore_J7_fill_53178_70 rfl rfl rfl (by decide +kernel) ⟨Nat.le_of_ble_eq_true rfl, Nat.le_of_ble_eq_true rfl⟩) rfl hl.1 (Nat.le_of_ble_eq_true rfl) dX6_explore_15 ⟨Nat.le_of_ble_eq_true rfl, Nat.le_of_ble_eq_true rfl⟩ (fun _ H locs hP hD hS => ?_)
  have hP : va_P D vwCl [(h3, .inl (cI, 48000, .inl g1)), (h0, .inr (6, ((((((((((((((((((((((((((((f0.set 10 (.int 0)).set 11 (.int 0)).set 12 (.int 1)).set 11 (.int 0)).set 11 (.int 0)).set 11 (.int 0)).set 11 (.int 0)).set 11 (.int 0)).set 11 (.int 0)).set 11 (.int 0)).set 11 (.int 0)).set 11 (.int 0)).set 11 (.int 0)).set 11 (.int 0)).set 11 (.int 0)).set 11 (.int 0)).set 11 (.int 0)).set 11 (.int 0)).set 11 (.int 0)).set 11 (.int 0)).set 11 (.int 0)).set 11 (.int 0)).set 11 (.int 0)).set 11 (.int 0)).set 11 (.int 0)).set 11 (.int 0)).set 11 (.int 0)).set 11 (.int 0)))), (h1, .inr (2, f1)), (h2, .inl (cI, 8192, .inl (k_fill 0 8192 g0)))] H := hP
  have hD : va_D A [(h3, .inl (cI, 48000, .inl g1)), (h0, .inr (6, ((((((((((((((((((((((((((((f0.set 10 (.int 0)).set 11 (.int 0)).set 12 (.int 1)).set 11 (.int 0)).set 11 (.int 0)).set 11 (.int 0)).set 11 (.int 0)).set 11 (.int 0)).set 11 (.int 0)).set 11 (.int 0)).set 11 (.int 0)).set 11 (.int 0)).set 11 (.int 0)).set 11 (.int 0)).set 11 (.int 0)).set 11 (.int 0)).set 11 (.int 0)).set 11 (.int 0)).set 11 (.int 0)).set 11 (.int 0)).set 11 (.int 0)).set 11 (.int 0)).set 11 (.int 0)).set 11 (.int 0)).set 11 (.int 0)).set 11 (.int 0)).set 11 (.int 0)).set 11 (.int 0)))), (h1, .inr (2, f1)), (h2, .inl (cI, 8192, .inl (k_fill 0 8192 g0)))] := hD
  refine lv_aload_n hx hb dX6_explore_18 rfl (lv_at hl 0 rfl) ?_
  refine lv_iconst (v := 0) hx hb dX6_explore_19 (by decide) ?_
  refine k_put (D := D) (ci := 6) (v := .int 0) (ty := .int) (N := 14) hx hb hts hin6 tyX6 tyX6_ok nmX6 hown hK hP hD hS 1 rfl rfl (by decide) f9_6_13 (hts (.fieldLink RX6 52 "IntegerHouse$Places" "size" "I") (o9_X6_explore _ (List.mem_of_getElem? (i := 8) rfl))) rfl pd_2 rfl rfl (k_len (k_ne (by decide) (k_ne (by decide) (k_ne (by decide) (k_ne (by decide) (k_ne (by decide) (k_ne (by decide) (k_ne (by decide) (k_ne (by decide) (k_ne (by decide) (k_ne (by decide) (k_ne (by decide) (k_ne (by decide) (k_ne (by decide) (k_ne (by decide) (k_ne (by decide) (k_ne (by decide) (k_ne (by decide) (k_ne (by decide) (k_ne (by decide) (k_ne (by decide) (k_ne (by decide) (k_ne (by decide) (k_ne (by decide) (k_ne (by decide) (k_ne (by decide) (k_ne (by decide) (k_ne (by decide) (k_ne (by decide) e6))))))))))))))))))))))))))))) dX6_explore_20 (fun H locs hP hD hS => ?_)
  have hP : va_P D vwCl [(h3, .inl (cI, 48000, .inl g1)), (h0, .inr (6, (((((((((((((((((((((((((((((f0.set 10 (.int 0)).set 11 (.int 0)).set 12 (.int 1)).set 11 (.int 0)).set 11 (.int 0)).set 11 (.int 0)).set 11 (.int 0)).set 11 (.int 0)).set 11 (.int 0)).set 11 (.int 0)).set 11 (.int 0)).set 11 (.int 0)).set 11 (.int 0)).set 11 (.int 0)).set 11 (.int 0)).set 11 (.int 0)).set 11 (.int 0)).set 11 (.int 0)).set 11 (.int 0)).set 11 (.int 0)).set 11 (.int 0)).set 11 (.int 0)).set 11 (.int 0)).set 11 (.int 0)).set 11 (.int 0)).set 11 (.int 0)).set 11 (.int 0)).set 11 (.int 0)).set 13 (.int 0)))), (h1, .inr (2, f1)), (h2, .inl (cI, 8192, .inl (k_fill 0 8192 g0)))] H := hP
  have hD : va_D A [(h3, .inl (cI, 48000, .inl g1)), (h0, .inr (6, (((((((((((((((((((((((((((((f0.set 10 (.int 0)).set 11 (.int 0)).set 12 (.int 1)).set 11 (.int 0)).set 11 (.int 0)).set 11 (.int 0)).set 11 (.int 0)).set 11 (.int 0)).set 11 (.int 0)).set 11 (.int 0)).set 11 (.int 0)).set 11 (.int 0)).set 11 (.int 0)).set 11 (.int 0)).set 11 (.int 0)).set 11 (.int 0)).set 11 (.int 0)).set 11 (.int 0)).set 11 (.int 0)).set 11 (.int 0)).set 11 (.int 0)).set 11 (.int 0)).set 11 (.int 0)).set 11 (.int 0)).set 11 (.int 0)).set 11 (.int 0)).set 11 (.int 0)).set 11 (.int 0)).set 13 (.int 0)))), (h1, .inr (2, f1)), (h2, .inl (cI, 8192, .inl (k_fill 0 8192 g0)))] := hD
  refine lv_iconst (v := 0) hx hb dX6_explore_23 (by decide) ?_
  refine lv_istore_n (lv' := [(2, .int 0), (0, .ref h0), (1, .int 0)]) hx hb dX6_explore_24 rfl hl (by decide) rfl (fun ls hl => ?_)
  refine lv_iload_n hx hb dX6_explore_25 rfl (lv_at hl 0 rfl) ?_
  refine lv_aload_n hx hb dX6_explore_26 rfl (lv_at hl 1 rfl) ?_
  refine k_get (D := D) (ci := 6) (v := .int 0) (N := 14) hx hb hts hin6 hown hK hP 1 rfl rfl (by decide) f9_6_10 (hts (.fieldLink RX6 76 "IntegerHouse$Places" "atoms" "I") (o9_X6_explore _ (List.mem_of_getElem? (i := 9) rfl))) (k_ne (by decide) (k_ne (by decide) (k_ne (by decide) (k_ne (by decide) (k_ne (by decide) (k_ne (by decide) (k_ne (by decide) (k_ne (by decide) (k_ne (by decide) (k_ne (by decide) (k_ne (by decide) (k_ne (by decide) (k_ne (by decide) (k_ne (by decide) (k_ne (by decide) (k_ne (by decide) (k_ne (by decide) (k_ne (by decide) (k_ne (by decide) (k_ne (by decide) (k_ne (by decide) (k_ne (by decide) (k_ne (by decide) (k_ne (by decide) (k_ne (by decide) (k_ne (by decide) (k_ne (by decide) (k_ne (by decide) (k_set e0))))))))))))))))))))))))))))) dX6_explore_27 ?_
  refine lv_icmp_ge (tgt := 102) hx hb dX6_explore_30 (by decide) (fun _ => ?_) (fun c9 => absurd (by decide) c9)
  refine lv_aload_n hx hb dX6_explore_102 rfl (lv_at hl 1 rfl) ?_
  refine k_cVi (As := []) (rest := []) (wc := [(h0, .inr (6, (((((((((((((((((((((((((((((f0.set 10 (.int 0)).set 11 (.int 0)).set 12 (.int 1)).set 11 (.int 0)).set 11 (.int 0)).set 11 (.int 0)).set 11 (.int 0)).set 11 (.int 0)).set 11 (.int 0)).set 11 (.int 0)).set 11 (.int 0)).set 11 (.int 0)).set 11 (.int 0)).set 11 (.int 0)).set 11 (.int 0)).set 11 (.int 0)).set 11 (.int 0)).set 11 (.int 0)).set 11 (.int 0)).set 11 (.int 0)).set 11 (.int 0)).set 11 (.int 0)).set 11 (.int 0)).set 11 (.int 0)).set 11 (.int 0)).set 11 (.int 0)).set 11 (.int 0)).set 11 (.int 0)).set 13 (.int 0)))), (h2, .inl (cI, 8192, .inl (k_fill 0 8192 g0)))]) (wr := [(h3, .inl (cI, 48000, .inl g1)), (h1, .inr (2, f1))]) (w1 := [(h0, .inr (6, ((((((((((((((((((((((((((((((f0.set 10 (.int 0)).set 11 (.int 0)).set 12 (.int 1)).set 11 (.int 0)).set 11 (.int 0)).set 11 (.int 0)).set 11 (.int 0)).set 11 (.int 0)).set 11 (.int 0)).set 11 (.int 0)).set 11 (.int 0)).set 11 (.int 0)).set 11 (.int 0)).set 11 (.int 0)).set 11 (.int 0)).set 11 (.int 0)).set 11 (.int 0)).set 11 (.int 0)).set 11 (.int 0)).set 11 (.int 0)).set 11 (.int 0)).set 11 (.int 0)).set 11 (.int 0)).set 11 (.int 0)).set 11 (.int 0)).set 11 (.int 0)).set 11 (.int 0)).set 11 (.int 0)).set 13 (.int 0)).set 13 (.int 1)))), (h2, .inl (cI, 8192, .inl (upd (k_fill 0 8192 g0) 782 1)))]) ⟨hx, hb, hml, hown, hts⟩ hN hX hAE hK hP hD hS hA [1, 3] [0, 2] (ci := 6) rfl rfl rfl rfl (by decide +kernel) (by decide +kernel) (by decide +kernel) (c_X6_locate_0 l E D cI cJ cB cZ h0 ((((((((((((((((((((((((((((((f0.set 10 (.int 0)).set 11 (.int 0)).set 12 (.int 1)).set 11 (.int 0)).set 11 (.int 0)).set 11 (.int 0)).set 11 (.int 0)).set 11 (.int 0)).set 11 (.int 0)).set 11 (.int 0)).set 11 (.int 0)).set 11 (.int 0)).set 11 (.int 0)).set 11 (.int 0)).set 11 (.int 0)).set 11 (.int 0)).set 11 (.int 0)).set 11 (.int 0)).set 11 (.int 0)).set 11 (.int 0)).set 11 (.int 0)).set 11 (.int 0)).set 11 (.int 0)).set 11 (.int 0)).set 11 (.int 0)).set 11 (.int 0)).set 11 (.int 0)).set 11 (.int 0)).set 13 (.int 0))) h2 ((k_fill 0 8192 g0)) (k_ne (by decide) (k_ne (by decide) (k_ne (by decide) (k_ne (by decide) (k_ne (by decide) (k_ne (by decide) (k_ne (by decide) (k_ne (by decide) (k_ne (by decide) (k_ne (by decide) (k_ne (by decide) (k_ne (by decide) (k_ne (by decide) (k_ne (by decide) (k_ne (by decide) (k_ne (by decide) (k_ne (by decide) (k_ne (by decide) (k_ne (by decide) (k_ne (by decide) (k_ne (by decide) (k_ne (by decide) (k_ne (by decide) (k_ne (by decide) (k_ne (by decide) (k_ne (by decide) (k_ne (by decide) (k_ne (by decide) (k_set e0))))))))))))))))))))))))))))) (k_ne (by decide) (k_ne (by decide) (k_ne (by decide) (k_ne (by decide) (k_ne (by decide) (k_ne (by decide) (k_ne (by decide) (k_ne (by decide) (k_ne (by decide) (k_ne (by decide) (k_ne (by decide) (k_ne (by decide) (k_ne (by decide) (k_ne (by decide) (k_ne (by decide) (k_ne (by decide) (k_ne (by decide) (k_ne (by decide) (k_ne (by decide) (k_ne (by decide) (k_ne (by decide) (k_ne (by decide) (k_ne (by decide) (k_ne (by decide) (k_ne (by decide) (k_ne (by decide) (k_ne (by decide) (k_ne (by decide) (k_ne (by decide) e5))))))))))))))))))))))))))))) (if_pos (by decide)) (k_set (k_ne (by decide) (k_ne (by decide) (k_ne (by decide) (k_ne (by decide) (k_ne (by decide) (k_ne (by decide) (k_ne (by decide) (k_ne (by decide) (k_ne (by decide) (k_ne (by decide) (k_ne (by decide) (k_ne (by decide) (k_ne (by decide) (k_ne (by decide) (k_ne (by decide) (k_ne (by decide) (k_ne (by decide) (k_ne (by decide) (k_ne (by decide) (k_ne (by decide) (k_ne (by decide) (k_ne (by decide) (k_ne (by decide) (k_ne (by decide) (k_ne (by decide) (k_ne (by decide) (k_ne (by decide) (k_ne (by decide) e6)))))))))))))))))))))))))))))) (cwV 0 hts g9_X6_explore_X6_locate_82 rfl rfl rfl (by decide +kernel) ⟨Nat.le_of_ble_eq_true rfl, Nat.le_of_ble_eq_true rfl⟩) rfl hl.1 (Nat.le_of_ble_eq_true rfl) dX6_explore_103 ⟨Nat.le_of_ble_eq_true rfl, Nat.le_of_ble_eq_true rfl⟩ (fun H locs hP hD hS => ?_)
  have hP : va_P D vwCl [(h3, .inl (cI, 48000, .inl g1)), (h1, .inr (2, f1)), (h0, .inr (6, ((((((((((((((((((((((((((((((f0.set 10 (.int 0)).set 11 (.int 0)).set 12 (.int 1)).set 11 (.int 0)).set 11 (.int 0)).set 11 (.int 0)).set 11 (.int 0)).set 11 (.int 0)).set 11 (.int 0)).set 11 (.int 0)).set 11 (.int 0)).set 11 (.int 0)).set 11 (.int 0)).set 11 (.int 0)).set 11 (.int 0)).set 11 (.int 0)).set 11 (.int 0)).set 11 (.int 0)).set 11 (.int 0)).set 11 (.int 0)).set 11 (.int 0)).set 11 (.int 0)).set 11 (.int 0)).set 11 (.int 0)).set 11 (.int 0)).set 11 (.int 0)).set 11 (.int 0)).set 11 (.int 0)).set 13 (.int 0)).set 13 (.int 1)))), (h2, .inl (cI, 8192, .inl (upd (k_fill 0 8192 g0) 782 1)))] H := hP
  have hD : va_D A [(h3, .inl (cI, 48000, .inl g1)), (h1, .inr (2, f1)), (h0, .inr (6, ((((((((((((((((((((((((((((((f0.set 10 (.int 0)).set 11 (.int 0)).set 12 (.int 1)).set 11 (.int 0)).set 11 (.int 0)).set 11 (.int 0)).set 11 (.int 0)).set 11 (.int 0)).set 11 (.int 0)).set 11 (.int 0)).set 11 (.int 0)).set 11 (.int 0)).set 11 (.int 0)).set 11 (.int 0)).set 11 (.int 0)).set 11 (.int 0)).set 11 (.int 0)).set 11 (.int 0)).set 11 (.int 0)).set 11 (.int 0)).set 11 (.int 0)).set 11 (.int 0)).set 11 (.int 0)).set 11 (.int 0)).set 11 (.int 0)).set 11 (.int 0)).set 11 (.int 0)).set 11 (.int 0)).set 13 (.int 0)).set 13 (.int 1)))), (h2, .inl (cI, 8192, .inl (upd (k_fill 0 8192 g0) 782 1)))] := hD
  refine lv_pop hx hb dX6_explore_106 rfl ?_
  refine lv_iconst (v := 0) hx hb dX6_explore_107 (by decide) ?_
  refine lv_istore_n (lv' := [(2, .int 0), (0, .ref h0), (1, .int 0)]) hx hb dX6_explore_108 rfl hl (by decide) rfl (fun ls hl => ?_)
  refine lv_iload_n hx hb dX6_explore_109 rfl (lv_at hl 0 rfl) ?_
  refine lv_aload_n hx hb dX6_explore_110 rfl (lv_at hl 1 rfl) ?_
  refine k_get (D := D) (ci := 6) (v := .int 1) (N := 14) hx hb hts hin6 hown hK hP 2 rfl rfl (by decide) f9_6_13 (hts (.fieldLink RX6 52 "IntegerHouse$Places" "size" "I") (o9_X6_explore _ (List.mem_of_getElem? (i := 8) rfl))) (k_set (k_set (k_ne (by decide) (k_ne (by decide) (k_ne (by decide) (k_ne (by decide) (k_ne (by decide) (k_ne (by decide) (k_ne (by decide) (k_ne (by decide) (k_ne (by decide) (k_ne (by decide) (k_ne (by decide) (k_ne (by decide) (k_ne (by decide) (k_ne (by decide) (k_ne (by decide) (k_ne (by decide) (k_ne (by decide) (k_ne (by decide) (k_ne (by decide) (k_ne (by decide) (k_ne (by decide) (k_ne (by decide) (k_ne (by decide) (k_ne (by decide) (k_ne (by decide) (k_ne (by decide) (k_ne (by decide) (k_ne (by decide) e6)))))))))))))))))))))))))))))) dX6_explore_111 ?_
  refine lv_icmp_ge (tgt := 185) hx hb dX6_explore_114 (by decide) (fun c9 => absurd c9 (by decide)) (fun _ => ?_)
  refine lv_iload_n hx hb dX6_explore_117 rfl (lv_at hl 0 rfl) ?_
  refine lv_sipush (v := 3000) hx hb dX6_explore_118 (by decide) ?_
  refine lv_icmp_ge (tgt := 185) hx hb dX6_explore_121 (by decide) (fun c9 => absurd c9 (by decide)) (fun _ => ?_)
  refine lv_iconst (v := 0) hx hb dX6_explore_124 (by decide) ?_
  refine lv_istore_n (lv' := [(3, .int 0), (2, .int 0), (0, .ref h0), (1, .int 0)]) hx hb dX6_explore_125 rfl hl (by decide) rfl (fun ls hl => ?_)
  refine lv_iload_n hx hb dX6_explore_126 rfl (lv_at hl 0 rfl) ?_
  refine lv_aload_n hx hb dX6_explore_127 rfl (lv_at hl 2 rfl) ?_
  refine k_get (D := D) (ci := 6) (v := .int 1) (N := 14) hx hb hts hin6 hown hK hP 2 rfl rfl (by decide) f9_6_12 (hts (.fieldLink RX6 56 "IntegerHouse$Places" "letters" "I") (o9_X6_explore _ (List.mem_of_getElem? (i := 13) rfl))) (k_ne (by decide) (k_ne (by decide) (k_ne (by decide) (k_ne (by decide) (k_ne (by decide) (k_ne (by decide) (k_ne (by decide) (k_ne (by decide) (k_ne (by decide) (k_ne (by decide) (k_ne (by decide) (k_ne (by decide) (k_ne (by decide) (k_ne (by decide) (k_ne (by decide) (k_ne (by decide) (k_ne (by decide) (k_ne (by decide) (k_ne (by decide) (k_ne (by decide) (k_ne (by decide) (k_ne (by decide) (k_ne (by decide) (k_ne (by decide) (k_ne (by decide) (k_ne (by decide) (k_ne (by decide) (k_set (k_ne (by decide) (k_ne (by decide) e4)))))))))))))))))))))))))))))) dX6_explore_128 ?_
  refine lv_icmp_ge (tgt := 179) hx hb dX6_explore_131 (by decide) (fun c9 => absurd c9 (by decide)) (fun _ => ?_)
  refine lv_iload_n hx hb dX6_explore_134 rfl (lv_at hl 0 rfl) ?_
  refine lv_bipush (v := 16) hx hb dX6_explore_135 (by decide) ?_
  refine lv_icmp_ge (tgt := 179) hx hb dX6_explore_137 (by decide) (fun c9 => absurd c9 (by decide)) (fun _ => ?_)
  refine lv_aload_n hx hb dX6_explore_140 rfl (lv_at hl 2 rfl) ?_
  refine lv_iload_n hx hb dX6_explore_141 rfl (lv_at hl 1 rfl) ?_
  refine lv_iload_n hx hb dX6_explore_142 rfl (lv_at hl 0 rfl) ?_
  refine k_cVv (As := [.int 0, .int 0]) (rest := []) (wc := [(h0, .inr (6, ((((((((((((((((((((((((((((((f0.set 10 (.int 0)).set 11 (.int 0)).set 12 (.int 1)).set 11 (.int 0)).set 11 (.int 0)).set 11 (.int 0)).set 11 (.int 0)).set 11 (.int 0)).set 11 (.int 0)).set 11 (.int 0)).set 11 (.int 0)).set 11 (.int 0)).set 11 (.int 0)).set 11 (.int 0)).set 11 (.int 0)).set 11 (.int 0)).set 11 (.int 0)).set 11 (.int 0)).set 11 (.int 0)).set 11 (.int 0)).set 11 (.int 0)).set 11 (.int 0)).set 11 (.int 0)).set 11 (.int 0)).set 11 (.int 0)).set 11 (.int 0)).set 11 (.int 0)).set 11 (.int 0)).set 13 (.int 0)).set 13 (.int 1))))]) (wr := [(h3, .inl (cI, 48000, .inl g1)), (h1, .inr (2, f1)), (h2, .inl (cI, 8192, .inl (upd (k_fill 0 8192 g0) 782 1)))]) (w1 := (fun _ : Unit => [(h0, .inr (6, ((((((((((((((((((((((((((((((f0.set 10 (.int 0)).set 11 (.int 0)).set 12 (.int 1)).set 11 (.int 0)).set 11 (.int 0)).set 11 (.int 0)).set 11 (.int 0)).set 11 (.int 0)).set 11 (.int 0)).set 11 (.int 0)).set 11 (.int 0)).set 11 (.int 0)).set 11 (.int 0)).set 11 (.int 0)).set 11 (.int 0)).set 11 (.int 0)).set 11 (.int 0)).set 11 (.int 0)).set 11 (.int 0)).set 11 (.int 0)).set 11 (.int 0)).set 11 (.int 0)).set 11 (.int 0)).set 11 (.int 0)).set 11 (.int 0)).set 11 (.int 0)).set 11 (.int 0)).set 11 (.int 0)).set 13 (.int 0)).set 13 (.int 1))))])) ⟨hx, hb, hml, hown, hts⟩ hN hX hAE hK hP hD hS hA [2] [0, 1, 3] (ci := 6) rfl rfl rfl rfl (by decide +kernel) (by decide +kernel) (by decide +kernel) (c_X6_halve_0 l E D cI cJ cB cZ h0 (((((((((((((((((((((((((((((((f0.set 10 (.int 0)).set 11 (.int 0)).set 12 (.int 1)).set 11 (.int 0)).set 11 (.int 0)).set 11 (.int 0)).set 11 (.int 0)).set 11 (.int 0)).set 11 (.int 0)).set 11 (.int 0)).set 11 (.int 0)).set 11 (.int 0)).set 11 (.int 0)).set 11 (.int 0)).set 11 (.int 0)).set 11 (.int 0)).set 11 (.int 0)).set 11 (.int 0)).set 11 (.int 0)).set 11 (.int 0)).set 11 (.int 0)).set 11 (.int 0)).set 11 (.int 0)).set 11 (.int 0)).set 11 (.int 0)).set 11 (.int 0)).set 11 (.int 0)).set 11 (.int 0)).set 13 (.int 0)).set 13 (.int 1))) (k_ne (by decide) (k_ne (by decide) (k_ne (by decide) (k_ne (by decide) (k_ne (by decide) (k_ne (by decide) (k_ne (by decide) (k_ne (by decide) (k_ne (by decide) (k_ne (by decide) (k_ne (by decide) (k_ne (by decide) (k_ne (by decide) (k_ne (by decide) (k_ne (by decide) (k_ne (by decide) (k_ne (by decide) (k_ne (by decide) (k_ne (by decide) (k_ne (by decide) (k_ne (by decide) (k_ne (by decide) (k_ne (by decide) (k_ne (by decide) (k_ne (by decide) (k_ne (by decide) (k_ne (by decide) (k_ne (by decide) (k_ne (by decide) (k_set e0))))))))))))))))))))))))))))))) (cwV 2 hts g9_X6_explore_X6_halve_86 rfl rfl rfl (by decide +kernel) ⟨Nat.le_of_ble_eq_true rfl, Nat.le_of_ble_eq_true rfl⟩) rfl hl.1 (Nat.le_of_ble_eq_true rfl) dX6_explore_143 ⟨Nat.le_of_ble_eq_true rfl, Nat.le_of_ble_eq_true rfl⟩ (fun _ H locs hP hD hS => ?_)
  have hP : va_P D vwCl [(h3, .inl (cI, 48000, .inl g1)), (h1, .inr (2, f1)), (h2, .inl (cI, 8192, .inl (upd (k_fill 0 8192 g0) 782 1))), (h0, .inr (6, ((((((((((((((((((((((((((((((f0.set 10 (.int 0)).set 11 (.int 0)).set 12 (.int 1)).set 11 (.int 0)).set 11 (.int 0)).set 11 (.int 0)).set 11 (.int 0)).set 11 (.int 0)).set 11 (.int 0)).set 11 (.int 0)).set 11 (.int 0)).set 11 (.int 0)).set 11 (.int 0)).set 11 (.int 0)).set 11 (.int 0)).set 11 (.int 0)).set 11 (.int 0)).set 11 (.int 0)).set 11 (.int 0)).set 11 (.int 0)).set 11 (.int 0)).set 11 (.int 0)).set 11 (.int 0)).set 11 (.int 0)).set 11 (.int 0)).set 11 (.int 0)).set 11 (.int 0)).set 11 (.int 0)).set 13 (.int 0)).set 13 (.int 1))))] H := hP
  have hD : va_D A [(h3, .inl (cI, 48000, .inl g1)), (h1, .inr (2, f1)), (h2, .inl (cI, 8192, .inl (upd (k_fill 0 8192 g0) 782 1))), (h0, .inr (6, ((((((((((((((((((((((((((((((f0.set 10 (.int 0)).set 11 (.int 0)).set 12 (.int 1)).set 11 (.int 0)).set 11 (.int 0)).set 11 (.int 0)).set 11 (.int 0)).set 11 (.int 0)).set 11 (.int 0)).set 11 (.int 0)).set 11 (.int 0)).set 11 (.int 0)).set 11 (.int 0)).set 11 (.int 0)).set 11 (.int 0)).set 11 (.int 0)).set 11 (.int 0)).set 11 (.int 0)).set 11 (.int 0)).set 11 (.int 0)).set 11 (.int 0)).set 11 (.int 0)).set 11 (.int 0)).set 11 (.int 0)).set 11 (.int 0)).set 11 (.int 0)).set 11 (.int 0)).set 11 (.int 0)).set 13 (.int 0)).set 13 (.int 1))))] := hD
  refine lv_aload_n hx hb dX6_explore_146 rfl (lv_at hl 2 rfl) ?_
  refine k_cVi (As := []) (rest := []) (wc := [(h0, .inr (6, ((((((((((((((((((((((((((((((f0.set 10 (.int 0)).set 11 (.int 0)).set 12 (.int 1)).set 11 (.int 0)).set 11 (.int 0)).set 11 (.int 0)).set 11 (.int 0)).set 11 (.int 0)).set 11 (.int 0)).set 11 (.int 0)).set 11 (.int 0)).set 11 (.int 0)).set 11 (.int 0)).set 11 (.int 0)).set 11 (.int 0)).set 11 (.int 0)).set 11 (.int 0)).set 11 (.int 0)).set 11 (.int 0)).set 11 (.int 0)).set 11 (.int 0)).set 11 (.int 0)).set 11 (.int 0)).set 11 (.int 0)).set 11 (.int 0)).set 11 (.int 0)).set 11 (.int 0)).set 11 (.int 0)).set 13 (.int 0)).set 13 (.int 1)))), (h2, .inl (cI, 8192, .inl (upd (k_fill 0 8192 g0) 782 1)))]) (wr := [(h3, .inl (cI, 48000, .inl g1)), (h1, .inr (2, f1))]) (w1 := [(h0, .inr (6, ((((((((((((((((((((((((((((((f0.set 10 (.int 0)).set 11 (.int 0)).set 12 (.int 1)).set 11 (.int 0)).set 11 (.int 0)).set 11 (.int 0)).set 11 (.int 0)).set 11 (.int 0)).set 11 (.int 0)).set 11 (.int 0)).set 11 (.int 0)).set 11 (.int 0)).set 11 (.int 0)).set 11 (.int 0)).set 11 (.int 0)).set 11 (.int 0)).set 11 (.int 0)).set 11 (.int 0)).set 11 (.int 0)).set 11 (.int 0)).set 11 (.int 0)).set 11 (.int 0)).set 11 (.int 0)).set 11 (.int 0)).set 11 (.int 0)).set 11 (.int 0)).set 11 (.int 0)).set 11 (.int 0)).set 13 (.int 0)).set 13 (.int 1)))), (h2, .inl (cI, 8192, .inl (upd (k_fill 0 8192 g0) 782 1)))]) ⟨hx, hb, hml, hown, hts⟩ hN hX hAE hK hP hD hS hA [3, 2] [0, 1] (ci := 6) rfl rfl rfl rfl (by decide +kernel) (by decide +kernel) (by decide +kernel) (c_X6_locate_1 l E D cI cJ cB cZ h0 (((((((((((((((((((((((((((((((f0.set 10 (.int 0)).set 11 (.int 0)).set 12 (.int 1)).set 11 (.int 0)).set 11 (.int 0)).set 11 (.int 0)).set 11 (.int 0)).set 11 (.int 0)).set 11 (.int 0)).set 11 (.int 0)).set 11 (.int 0)).set 11 (.int 0)).set 11 (.int 0)).set 11 (.int 0)).set 11 (.int 0)).set 11 (.int 0)).set 11 (.int 0)).set 11 (.int 0)).set 11 (.int 0)).set 11 (.int 0)).set 11 (.int 0)).set 11 (.int 0)).set 11 (.int 0)).set 11 (.int 0)).set 11 (.int 0)).set 11 (.int 0)).set 11 (.int 0)).set 11 (.int 0)).set 13 (.int 0)).set 13 (.int 1))) h2 ((upd (k_fill 0 8192 g0) 782 1)) (k_ne (by decide) (k_ne (by decide) (k_ne (by decide) (k_ne (by decide) (k_ne (by decide) (k_ne (by decide) (k_ne (by decide) (k_ne (by decide) (k_ne (by decide) (k_ne (by decide) (k_ne (by decide) (k_ne (by decide) (k_ne (by decide) (k_ne (by decide) (k_ne (by decide) (k_ne (by decide) (k_ne (by decide) (k_ne (by decide) (k_ne (by decide) (k_ne (by decide) (k_ne (by decide) (k_ne (by decide) (k_ne (by decide) (k_ne (by decide) (k_ne (by decide) (k_ne (by decide) (k_ne (by decide) (k_ne (by decide) (k_ne (by decide) (k_set e0)))))))))))))))))))))))))))))) (k_ne (by decide) (k_ne (by decide) (k_ne (by decide) (k_ne (by decide) (k_ne (by decide) (k_ne (by decide) (k_ne (by decide) (k_ne (by decide) (k_ne (by decide) (k_ne (by decide) (k_ne (by decide) (k_ne (by decide) (k_ne (by decide) (k_ne (by decide) (k_ne (by decide) (k_ne (by decide) (k_ne (by decide) (k_ne (by decide) (k_ne (by decide) (k_ne (by decide) (k_ne (by decide) (k_ne (by decide) (k_ne (by decide) (k_ne (by decide) (k_ne (by decide) (k_ne (by decide) (k_ne (by decide) (k_ne (by decide) (k_ne (by decide) (k_ne (by decide) e5)))))))))))))))))))))))))))))) rfl) (cwV 0 hts g9_X6_explore_X6_locate_82 rfl rfl rfl (by decide +kernel) ⟨Nat.le_of_ble_eq_true rfl, Nat.le_of_ble_eq_true rfl⟩) rfl hl.1 (Nat.le_of_ble_eq_true rfl) dX6_explore_147 ⟨Nat.le_of_ble_eq_true rfl, Nat.le_of_ble_eq_true rfl⟩ (fun H locs hP hD hS => ?_)
  have hP : va_P D vwCl [(h3, .inl (cI, 48000, .inl g1)), (h1, .inr (2, f1)), (h0, .inr (6, ((((((((((((((((((((((((((((((f0.set 10 (.int 0)).set 11 (.int 0)).set 12 (.int 1)).set 11 (.int 0)).set 11 (.int 0)).set 11 (.int 0)).set 11 (.int 0)).set 11 (.int 0)).set 11 (.int 0)).set 11 (.int 0)).set 11 (.int 0)).set 11 (.int 0)).set 11 (.int 0)).set 11 (.int 0)).set 11 (.int 0)).set 11 (.int 0)).set 11 (.int 0)).set 11 (.int 0)).set 11 (.int 0)).set 11 (.int 0)).set 11 (.int 0)).set 11 (.int 0)).set 11 (.int 0)).set 11 (.int 0)).set 11 (.int 0)).set 11 (.int 0)).set 11 (.int 0)).set 11 (.int 0)).set 13 (.int 0)).set 13 (.int 1)))), (h2, .inl (cI, 8192, .inl (upd (k_fill 0 8192 g0) 782 1)))] H := hP
  have hD : va_D A [(h3, .inl (cI, 48000, .inl g1)), (h1, .inr (2, f1)), (h0, .inr (6, ((((((((((((((((((((((((((((((f0.set 10 (.int 0)).set 11 (.int 0)).set 12 (.int 1)).set 11 (.int 0)).set 11 (.int 0)).set 11 (.int 0)).set 11 (.int 0)).set 11 (.int 0)).set 11 (.int 0)).set 11 (.int 0)).set 11 (.int 0)).set 11 (.int 0)).set 11 (.int 0)).set 11 (.int 0)).set 11 (.int 0)).set 11 (.int 0)).set 11 (.int 0)).set 11 (.int 0)).set 11 (.int 0)).set 11 (.int 0)).set 11 (.int 0)).set 11 (.int 0)).set 11 (.int 0)).set 11 (.int 0)).set 11 (.int 0)).set 11 (.int 0)).set 11 (.int 0)).set 11 (.int 0)).set 13 (.int 0)).set 13 (.int 1)))), (h2, .inl (cI, 8192, .inl (upd (k_fill 0 8192 g0) 782 1)))] := hD
  refine lv_istore (lv' := [(4, .int 0), (3, .int 0), (2, .int 0), (0, .ref h0), (1, .int 0)]) hx hb dX6_explore_150 hl (by decide) rfl (fun ls hl => ?_)
  refine lv_iload hx hb dX6_explore_152 (lv_at hl 0 rfl) ?_
  refine lv_iconst (v := (-1)) hx hb dX6_explore_154 (by decide) ?_
  refine lv_icmp_ne (tgt := 160) hx hb dX6_explore_155 (by decide) (fun _ => ?_) (fun c9 => absurd c9 (by decide))
  refine lv_aload_n hx hb dX6_explore_160 rfl (lv_at hl 3 rfl) ?_
  refine k_get (D := D) (ci := 6) (v := .ref h3) (N := 14) hx hb hts hin6 hown hK hP 2 rfl rfl (by decide) f9_6_7 (hts (.fieldLink RX6 35 "IntegerHouse$Places" "next" "[I") (o9_X6_explore _ (List.mem_of_getElem? (i := 17) rfl))) (k_ne (by decide) (k_ne (by decide) (k_ne (by decide) (k_ne (by decide) (k_ne (by decide) (k_ne (by decide) (k_ne (by decide) (k_ne (by decide) (k_ne (by decide) (k_ne (by decide) (k_ne (by decide) (k_ne (by decide) (k_ne (by decide) (k_ne (by decide) (k_ne (by decide) (k_ne (by decide) (k_ne (by decide) (k_ne (by decide) (k_ne (by decide) (k_ne (by decide) (k_ne (by decide) (k_ne (by decide) (k_ne (by decide) (k_ne (by decide) (k_ne (by decide) (k_ne (by decide) (k_ne (by decide) (k_ne (by decide) (k_ne (by decide) (k_ne (by decide) e7)))))))))))))))))))))))))))))) dX6_explore_161 ?_
  refine lv_iload_n hx hb dX6_explore_164 rfl (lv_at hl 2 rfl) ?_
  refine lv_bipush (v := 16) hx hb dX6_explore_165 (by decide) ?_
  refine lv_imul hx hb dX6_explore_167 ?_
  refine k_topi (y := 0) (by decide) ?_
  refine lv_iload_n hx hb dX6_explore_168 rfl (lv_at hl 1 rfl) ?_
  refine lv_iadd hx hb dX6_explore_169 ?_
  refine k_topi (y := 0) (by decide) ?_
  refine lv_iload hx hb dX6_explore_170 (lv_at hl 0 rfl) ?_
  refine va_iast hx hb hK hP hD hS 0 0 rfl rfl (k_in (by decide)) dX6_explore_172 (fun H locs hP hD hS => ?_)
  have hP : va_P D vwCl [(h3, .inl (cI, 48000, .inl (upd g1 0 0))), (h1, .inr (2, f1)), (h0, .inr (6, ((((((((((((((((((((((((((((((f0.set 10 (.int 0)).set 11 (.int 0)).set 12 (.int 1)).set 11 (.int 0)).set 11 (.int 0)).set 11 (.int 0)).set 11 (.int 0)).set 11 (.int 0)).set 11 (.int 0)).set 11 (.int 0)).set 11 (.int 0)).set 11 (.int 0)).set 11 (.int 0)).set 11 (.int 0)).set 11 (.int 0)).set 11 (.int 0)).set 11 (.int 0)).set 11 (.int 0)).set 11 (.int 0)).set 11 (.int 0)).set 11 (.int 0)).set 11 (.int 0)).set 11 (.int 0)).set 11 (.int 0)).set 11 (.int 0)).set 11 (.int 0)).set 11 (.int 0)).set 11 (.int 0)).set 13 (.int 0)).set 13 (.int 1)))), (h2, .inl (cI, 8192, .inl (upd (k_fill 0 8192 g0) 782 1)))] H := hP
  have hD : va_D A [(h3, .inl (cI, 48000, .inl (upd g1 0 0))), (h1, .inr (2, f1)), (h0, .inr (6, ((((((((((((((((((((((((((((((f0.set 10 (.int 0)).set 11 (.int 0)).set 12 (.int 1)).set 11 (.int 0)).set 11 (.int 0)).set 11 (.int 0)).set 11 (.int 0)).set 11 (.int 0)).set 11 (.int 0)).set 11 (.int 0)).set 11 (.int 0)).set 11 (.int 0)).set 11 (.int 0)).set 11 (.int 0)).set 11 (.int 0)).set 11 (.int 0)).set 11 (.int 0)).set 11 (.int 0)).set 11 (.int 0)).set 11 (.int 0)).set 11 (.int 0)).set 11 (.int 0)).set 11 (.int 0)).set 11 (.int 0)).set 11 (.int 0)).set 11 (.int 0)).set 11 (.int 0)).set 11 (.int 0)).set 13 (.int 0)).set 13 (.int 1)))), (h2, .inl (cI, 8192, .inl (upd (k_fill 0 8192 g0) 782 1)))] := hD
  refine lv_iinc (v := 1) (lv' := [(3, .int 1), (4, .int 0), (2, .int 0), (0, .ref h0), (1, .int 0)]) hx hb dX6_explore_173 hl (k := 1) rfl (by decide) (by decide) rfl (fun ls hl => ?_)
  refine lv_goto (tgt := 126) hx hb dX6_explore_176 (by decide) ?_
  refine lv_iload_n hx hb dX6_explore_126 rfl (lv_at hl 0 rfl) ?_
  refine lv_aload_n hx hb dX6_explore_127 rfl (lv_at hl 3 rfl) ?_
  refine k_get (D := D) (ci := 6) (v := .int 1) (N := 14) hx hb hts hin6 hown hK hP 2 rfl rfl (by decide) f9_6_12 (hts (.fieldLink RX6 56 "IntegerHouse$Places" "letters" "I") (o9_X6_explore _ (List.mem_of_getElem? (i := 13) rfl))) (k_ne (by decide) (k_ne (by decide) (k_ne (by decide) (k_ne (by decide) (k_ne (by decide) (k_ne (by decide) (k_ne (by decide) (k_ne (by decide) (k_ne (by decide) (k_ne (by decide) (k_ne (by decide) (k_ne (by decide) (k_ne (by decide) (k_ne (by decide) (k_ne (by decide) (k_ne (by decide) (k_ne (by decide) (k_ne (by decide) (k_ne (by decide) (k_ne (by decide) (k_ne (by decide) (k_ne (by decide) (k_ne (by decide) (k_ne (by decide) (k_ne (by decide) (k_ne (by decide) (k_ne (by decide) (k_set (k_ne (by decide) (k_ne (by decide) e4)))))))))))))))))))))))))))))) dX6_explore_128 ?_
  refine lv_icmp_ge (tgt := 179) hx hb dX6_explore_131 (by decide) (fun _ => ?_) (fun c9 => absurd (by decide) c9)
  refine lv_iinc (v := 1) (lv' := [(2, .int 1), (3, .int 1), (4, .int 0), (0, .ref h0), (1, .int 0)]) hx hb dX6_explore_179 hl (k := 2) rfl (by decide) (by decide) rfl (fun ls hl => ?_)
  refine lv_goto (tgt := 109) hx hb dX6_explore_182 (by decide) ?_
  refine lv_iload_n hx hb dX6_explore_109 rfl (lv_at hl 0 rfl) ?_
  refine lv_aload_n hx hb dX6_explore_110 rfl (lv_at hl 3 rfl) ?_
  refine k_get (D := D) (ci := 6) (v := .int 1) (N := 14) hx hb hts hin6 hown hK hP 2 rfl rfl (by decide) f9_6_13 (hts (.fieldLink RX6 52 "IntegerHouse$Places" "size" "I") (o9_X6_explore _ (List.mem_of_getElem? (i := 8) rfl))) (k_set (k_set (k_ne (by decide) (k_ne (by decide) (k_ne (by decide) (k_ne (by decide) (k_ne (by decide) (k_ne (by decide) (k_ne (by decide) (k_ne (by decide) (k_ne (by decide) (k_ne (by decide) (k_ne (by decide) (k_ne (by decide) (k_ne (by decide) (k_ne (by decide) (k_ne (by decide) (k_ne (by decide) (k_ne (by decide) (k_ne (by decide) (k_ne (by decide) (k_ne (by decide) (k_ne (by decide) (k_ne (by decide) (k_ne (by decide) (k_ne (by decide) (k_ne (by decide) (k_ne (by decide) (k_ne (by decide) (k_ne (by decide) e6)))))))))))))))))))))))))))))) dX6_explore_111 ?_
  refine lv_icmp_ge (tgt := 185) hx hb dX6_explore_114 (by decide) (fun _ => ?_) (fun c9 => absurd (by decide) c9)
  refine lv_iconst (v := 1) hx hb dX6_explore_185 (by decide) ?_
  have hP := hP.sub (ws' := [(h0, .inr (6, ((((((((((((((((((((((((((((((f0.set 10 (.int 0)).set 11 (.int 0)).set 12 (.int 1)).set 11 (.int 0)).set 11 (.int 0)).set 11 (.int 0)).set 11 (.int 0)).set 11 (.int 0)).set 11 (.int 0)).set 11 (.int 0)).set 11 (.int 0)).set 11 (.int 0)).set 11 (.int 0)).set 11 (.int 0)).set 11 (.int 0)).set 11 (.int 0)).set 11 (.int 0)).set 11 (.int 0)).set 11 (.int 0)).set 11 (.int 0)).set 11 (.int 0)).set 11 (.int 0)).set 11 (.int 0)).set 11 (.int 0)).set 11 (.int 0)).set 11 (.int 0)).set 11 (.int 0)).set 11 (.int 0)).set 13 (.int 0)).set 13 (.int 1)))), (h1, .inr (2, f1)), (h2, .inl (cI, 8192, .inl (upd (k_fill 0 8192 g0) 782 1))), (h3, .inl (cI, 48000, .inl (upd g1 0 0)))]) [2, 1, 3, 0] rfl
  have hD := hD.sub (ws' := [(h0, .inr (6, ((((((((((((((((((((((((((((((f0.set 10 (.int 0)).set 11 (.int 0)).set 12 (.int 1)).set 11 (.int 0)).set 11 (.int 0)).set 11 (.int 0)).set 11 (.int 0)).set 11 (.int 0)).set 11 (.int 0)).set 11 (.int 0)).set 11 (.int 0)).set 11 (.int 0)).set 11 (.int 0)).set 11 (.int 0)).set 11 (.int 0)).set 11 (.int 0)).set 11 (.int 0)).set 11 (.int 0)).set 11 (.int 0)).set 11 (.int 0)).set 11 (.int 0)).set 11 (.int 0)).set 11 (.int 0)).set 11 (.int 0)).set 11 (.int 0)).set 11 (.int 0)).set 11 (.int 0)).set 11 (.int 0)).set 13 (.int 0)).set 13 (.int 1)))), (h1, .inr (2, f1)), (h2, .inl (cI, 8192, .inl (upd (k_fill 0 8192 g0) 782 1))), (h3, .inl (cI, 48000, .inl (upd g1 0 0)))]) [2, 1, 3, 0] (by decide +kernel) rfl
  exact W.zret (v := 1) hx hb hr rfl (fun t ht hW => ⟨⟨1, (), rfl, rfl, kB_mk ht hW hP hK hD⟩, hS.F ht⟩) hS.2.2 dX6_explore_186
set_option maxHeartbeats 400000000 in
set_option maxRecDepth 100000 in
theorem c_X6_atomsAt_0 (l : Launch) (E : kE) (D : va_G) (cI cJ cB cZ : ClassId) (h0 : Nat) (f0 : List Value) (e0 : f0[10]? = some (.int 0)) : kI l E D (kT cI cJ cB cZ) yX6_atomsAt vW_X6_atomsAt ({ frames := 1, cells := 0, slots := 0, locals := 21 }) [.ref h0, .int 0, .int 0] [(h0, .inr (6, f0))] (0) [(h0, .inr (6, f0))] 0 0 := by
  intro sz
  refine Met.ofW (cc := cX6_atomsAt) (maxL := 10) (ret := (some .int)) (by decide) rfl ?_
  intro p e s m args below meth c s₁ B hml hv
  obtain ⟨rfl, hsz, hP, hK, hD0, hN, hX⟩ := hv
  have hx := B.exec
  have hb := B.bytes
  have hr := B.returns
  have hts := atoms_spec (ws := vW_X6_atomsAt) B.pre
  have hown : s.vm.findClass RX6 = some m.cls := findClass_of_methodNamed B.named
  have hlocks := B.notSynchronized
  have hin6 : ∀ w ∈ wsX60, w ∈ vW_X6_atomsAt := u9_X6_atomsAt_wsX60
  subst hsz
  have hD := hD0.self (sz := s.heap.size)
  have hAE := k_AE hD0 hX
  generalize hAe : va_A [(h0, .inr (6, f0))] s.heap.size = A at hD hAE ⊢
  have hA : ∀ q : Nat, s.heap.size ≤ q → A q := fun q h => by rw [← hAe]; exact Or.inr h
  have hS : va_S A s.heap s.heap [] := va_S.rf
  have hP : va_P D vwCl [(h0, .inr (6, f0))] s.heap := hP
  have hl := lv_entry ([.ref h0, .int 0, .int 0] : List Value) (n := 10) (Nat.le_of_ble_eq_true rfl)
  rw [lg_entry_eq]
  generalize (lg_sl ([.ref h0, .int 0, .int 0]) ++ List.replicate (10 - (lg_sl ([.ref h0, .int 0, .int 0])).length) Slot.unset).toArray = ls at hl ⊢
  have hl : lv_has ls 10 [(0, .ref h0), (1, .int 0), (2, .int 0)] := hl
  refine lv_iconst (v := 0) hx hb dX6_atomsAt_0 (by decide) ?_
  refine lv_istore_n (lv' := [(3, .int 0), (0, .ref h0), (1, .int 0), (2, .int 0)]) hx hb dX6_atomsAt_1 rfl hl (by decide) rfl (fun ls hl => ?_)
  refine lv_iload_n hx hb dX6_atomsAt_2 rfl (lv_at hl 2 rfl) ?_
  refine lv_sipush (v := 2999) hx hb dX6_atomsAt_3 (by decide) ?_
  refine va_mmin hx hb (by rw [hml]; exact hl.1.symm) hown (hts (.methodLink RX6 96 Lib.Math.min.name) (o9_X6_atomsAt _ (List.mem_of_getElem? (i := 0) rfl))) (hts (.static Lib.Math.min.name) (o9_X6_atomsAt _ (List.mem_of_getElem? (i := 1) rfl))) (hts (.initialized "java/lang/Math") (o9_X6_atomsAt _ (List.mem_of_getElem? (i := 2) rfl))) (hts (.code Lib.Math.min.name Lib.Math.min.code 2 (some .int)) (o9_X6_atomsAt _ (List.mem_of_getElem? (i := 3) rfl))) (Nat.le_of_ble_eq_true rfl) (Nat.le_of_ble_eq_true rfl) (Nat.le_of_ble_eq_true rfl) (Nat.le_of_ble_eq_true rfl) dX6_atomsAt_6 ?_
  refine k_topi (y := 0) (by decide) ?_
  refine lv_bipush (v := 32) hx hb dX6_atomsAt_9 (by decide) ?_
  refine lv_imul hx hb dX6_atomsAt_11 ?_
  refine k_topi (y := 0) (by decide) ?_
  refine lv_istore (lv' := [(4, .int 0), (3, .int 0), (0, .ref h0), (1, .int 0), (2, .int 0)]) hx hb dX6_atomsAt_12 hl (by decide) rfl (fun ls hl => ?_)
  refine lv_iconst (v := 0) hx hb dX6_atomsAt_14 (by decide) ?_
  refine lv_istore (lv' := [(5, .int 0), (4, .int 0), (3, .int 0), (0, .ref h0), (1, .int 0), (2, .int 0)]) hx hb dX6_atomsAt_15 hl (by decide) rfl (fun ls hl => ?_)
  refine lv_iload hx hb dX6_atomsAt_17 (lv_at hl 0 rfl) ?_
  refine lv_aload_n hx hb dX6_atomsAt_19 rfl (lv_at hl 3 rfl) ?_
  refine k_get (D := D) (ci := 6) (v := .int 0) (N := 14) hx hb hts hin6 hown hK hP 0 rfl rfl (by decide) f9_6_10 (hts (.fieldLink RX6 76 "IntegerHouse$Places" "atoms" "I") (o9_X6_atomsAt _ (List.mem_of_getElem? (i := 4) rfl))) e0 dX6_atomsAt_20 ?_
  refine lv_icmp_ge (tgt := 149) hx hb dX6_atomsAt_23 (by decide) (fun _ => ?_) (fun c9 => absurd (by decide) c9)
  refine lv_iload_n hx hb dX6_atomsAt_149 rfl (lv_at hl 2 rfl) ?_
  exact W.iret (v := 0) hx hb hr (fun t ht hW => ⟨⟨0, (), rfl, rfl, kB_mk ht hW hP hK hD⟩, hS.F ht⟩) hS.2.2 dX6_atomsAt_150
set_option maxHeartbeats 400000000 in
set_option maxRecDepth 100000 in
theorem c_X6_soOf_0 (l : Launch) (E : kE) (D : va_G) (cI cJ cB cZ : ClassId) (h0 : Nat) (f0 : List Value) (e0 : f0[11]? = some (.int 0)) : kI l E D (kT cI cJ cB cZ) yX6_soOf vW_X6_soOf ({ frames := 0, cells := 0, slots := 0, locals := 0 }) [.ref h0, .int 0] [(h0, .inr (6, f0))] (0) [(h0, .inr (6, f0))] 0 0 := by
  intro sz
  refine Met.ofW (cc := cX6_soOf) (maxL := 4) (ret := (some .int)) (by decide) rfl ?_
  intro p e s m args below meth c s₁ B hml hv
  obtain ⟨rfl, hsz, hP, hK, hD0, hN, hX⟩ := hv
  have hx := B.exec
  have hb := B.bytes
  have hr := B.returns
  have hts := atoms_spec (ws := vW_X6_soOf) B.pre
  have hown : s.vm.findClass RX6 = some m.cls := findClass_of_methodNamed B.named
  have hlocks := B.notSynchronized
  have hin6 : ∀ w ∈ wsX60, w ∈ vW_X6_soOf := u9_X6_soOf_wsX60
  subst hsz
  have hD := hD0.self (sz := s.heap.size)
  have hAE := k_AE hD0 hX
  generalize hAe : va_A [(h0, .inr (6, f0))] s.heap.size = A at hD hAE ⊢
  have hA : ∀ q : Nat, s.heap.size ≤ q → A q := fun q h => by rw [← hAe]; exact Or.inr h
  have hS : va_S A s.heap s.heap [] := va_S.rf
  have hP : va_P D vwCl [(h0, .inr (6, f0))] s.heap := hP
  have hl := lv_entry ([.ref h0, .int 0] : List Value) (n := 4) (Nat.le_of_ble_eq_true rfl)
  rw [lg_entry_eq]
  generalize (lg_sl ([.ref h0, .int 0]) ++ List.replicate (4 - (lg_sl ([.ref h0, .int 0])).length) Slot.unset).toArray = ls at hl ⊢
  have hl : lv_has ls 4 [(0, .ref h0), (1, .int 0)] := hl
  refine lv_iconst (v := 0) hx hb dX6_soOf_0 (by decide) ?_
  refine lv_istore_n (lv' := [(2, .int 0), (0, .ref h0), (1, .int 0)]) hx hb dX6_soOf_1 rfl hl (by decide) rfl (fun ls hl => ?_)
  refine lv_iconst (v := 0) hx hb dX6_soOf_2 (by decide) ?_
  refine lv_istore_n (lv' := [(3, .int 0), (2, .int 0), (0, .ref h0), (1, .int 0)]) hx hb dX6_soOf_3 rfl hl (by decide) rfl (fun ls hl => ?_)
  refine lv_iload_n hx hb dX6_soOf_4 rfl (lv_at hl 0 rfl) ?_
  refine lv_bipush (v := 24) hx hb dX6_soOf_5 (by decide) ?_
  refine lv_icmp_gt (tgt := 44) hx hb dX6_soOf_7 (by decide) (fun c9 => absurd c9 (by decide)) (fun _ => ?_)
  refine lv_aload_n hx hb dX6_soOf_10 rfl (lv_at hl 2 rfl) ?_
  refine k_get (D := D) (ci := 6) (v := .int 0) (N := 14) hx hb hts hin6 hown hK hP 0 rfl rfl (by decide) f9_6_11 (hts (.fieldLink RX6 90 "IntegerHouse$Places" "needed" "I") (o9_X6_soOf _ (List.mem_of_getElem? (i := 0) rfl))) e0 dX6_soOf_11 ?_
  refine lv_iload_n hx hb dX6_soOf_14 rfl (lv_at hl 0 rfl) ?_
  refine lv_iushr (v := 0) hx hb dX6_soOf_15 (by decide) ?_
  refine lv_iconst (v := 1) hx hb dX6_soOf_16 (by decide) ?_
  refine lv_iand hx hb dX6_soOf_17 ?_
  refine k_topi (y := 0) (by decide) ?_
  refine lv_iconst (v := 1) hx hb dX6_soOf_18 (by decide) ?_
  refine lv_icmp_ne (tgt := 38) hx hb dX6_soOf_19 (by decide) (fun _ => ?_) (fun c9 => absurd c9 (by decide))
  refine lv_iinc (v := 1) (lv' := [(3, .int 1), (2, .int 0), (0, .ref h0), (1, .int 0)]) hx hb dX6_soOf_38 hl (k := 0) rfl (by decide) (by decide) rfl (fun ls hl => ?_)
  refine lv_goto (tgt := 4) hx hb dX6_soOf_41 (by decide) ?_
  refine lv_iload_n hx hb dX6_soOf_4 rfl (lv_at hl 0 rfl) ?_
  refine lv_bipush (v := 24) hx hb dX6_soOf_5 (by decide) ?_
  refine lv_icmp_gt (tgt := 44) hx hb dX6_soOf_7 (by decide) (fun c9 => absurd c9 (by decide)) (fun _ => ?_)
  refine lv_aload_n hx hb dX6_soOf_10 rfl (lv_at hl 2 rfl) ?_
  refine k_get (D := D) (ci := 6) (v := .int 0) (N := 14) hx hb hts hin6 hown hK hP 0 rfl rfl (by decide) f9_6_11 (hts (.fieldLink RX6 90 "IntegerHouse$Places" "needed" "I") (o9_X6_soOf _ (List.mem_of_getElem? (i := 0) rfl))) e0 dX6_soOf_11 ?_
  refine lv_iload_n hx hb dX6_soOf_14 rfl (lv_at hl 0 rfl) ?_
  refine lv_iushr (v := 0) hx hb dX6_soOf_15 (by decide) ?_
  refine lv_iconst (v := 1) hx hb dX6_soOf_16 (by decide) ?_
  refine lv_iand hx hb dX6_soOf_17 ?_
  refine k_topi (y := 0) (by decide) ?_
  refine lv_iconst (v := 1) hx hb dX6_soOf_18 (by decide) ?_
  refine lv_icmp_ne (tgt := 38) hx hb dX6_soOf_19 (by decide) (fun _ => ?_) (fun c9 => absurd c9 (by decide))
  refine lv_iinc (v := 2) (lv' := [(3, .int 2), (2, .int 0), (0, .ref h0), (1, .int 0)]) hx hb dX6_soOf_38 hl (k := 0) rfl (by decide) (by decide) rfl (fun ls hl => ?_)
  refine lv_goto (tgt := 4) hx hb dX6_soOf_41 (by decide) ?_
  refine lv_iload_n hx hb dX6_soOf_4 rfl (lv_at hl 0 rfl) ?_
  refine lv_bipush (v := 24) hx hb dX6_soOf_5 (by decide) ?_
  refine lv_icmp_gt (tgt := 44) hx hb dX6_soOf_7 (by decide) (fun c9 => absurd c9 (by decide)) (fun _ => ?_)
  refine lv_aload_n hx hb dX6_soOf_10 rfl (lv_at hl 2 rfl) ?_
  refine k_get (D := D) (ci := 6) (v := .int 0) (N := 14) hx hb hts hin6 hown hK hP 0 rfl rfl (by decide) f9_6_11 (hts (.fieldLink RX6 90 "IntegerHouse$Places" "needed" "I") (o9_X6_soOf _ (List.mem_of_getElem? (i := 0) rfl))) e0 dX6_soOf_11 ?_
  refine lv_iload_n hx hb dX6_soOf_14 rfl (lv_at hl 0 rfl) ?_
  refine lv_iushr (v := 0) hx hb dX6_soOf_15 (by decide) ?_
  refine lv_iconst (v := 1) hx hb dX6_soOf_16 (by decide) ?_
  refine lv_iand hx hb dX6_soOf_17 ?_
  refine k_topi (y := 0) (by decide) ?_
  refine lv_iconst (v := 1) hx hb dX6_soOf_18 (by decide) ?_
  refine lv_icmp_ne (tgt := 38) hx hb dX6_soOf_19 (by decide) (fun _ => ?_) (fun c9 => absurd c9 (by decide))
  refine lv_iinc (v := 3) (lv' := [(3, .int 3), (2, .int 0), (0, .ref h0), (1, .int 0)]) hx hb dX6_soOf_38 hl (k := 0) rfl (by decide) (by decide) rfl (fun ls hl => ?_)
  refine lv_goto (tgt := 4) hx hb dX6_soOf_41 (by decide) ?_
  refine lv_iload_n hx hb dX6_soOf_4 rfl (lv_at hl 0 rfl) ?_
  refine lv_bipush (v := 24) hx hb dX6_soOf_5 (by decide) ?_
  refine lv_icmp_gt (tgt := 44) hx hb dX6_soOf_7 (by decide) (fun c9 => absurd c9 (by decide)) (fun _ => ?_)
  refine lv_aload_n hx hb dX6_soOf_10 rfl (lv_at hl 2 rfl) ?_
  refine k_get (D := D) (ci := 6) (v := .int 0) (N := 14) hx hb hts hin6 hown hK hP 0 rfl rfl (by decide) f9_6_11 (hts (.fieldLink RX6 90 "IntegerHouse$Places" "needed" "I") (o9_X6_soOf _ (List.mem_of_getElem? (i := 0) rfl))) e0 dX6_soOf_11 ?_
  refine lv_iload_n hx hb dX6_soOf_14 rfl (lv_at hl 0 rfl) ?_
  refine lv_iushr (v := 0) hx hb dX6_soOf_15 (by decide) ?_
  refine lv_iconst (v := 1) hx hb dX6_soOf_16 (by decide) ?_
  refine lv_iand hx hb dX6_soOf_17 ?_
  refine k_topi (y := 0) (by decide) ?_
  refine lv_iconst (v := 1) hx hb dX6_soOf_18 (by decide) ?_
  refine lv_icmp_ne (tgt := 38) hx hb dX6_soOf_19 (by decide) (fun _ => ?_) (fun c9 => absurd c9 (by decide))
  refine lv_iinc (v := 4) (lv' := [(3, .int 4), (2, .int 0), (0, .ref h0), (1, .int 0)]) hx hb dX6_soOf_38 hl (k := 0) rfl (by decide) (by decide) rfl (fun ls hl => ?_)
  refine lv_goto (tgt := 4) hx hb dX6_soOf_41 (by decide) ?_
  refine lv_iload_n hx hb dX6_soOf_4 rfl (lv_at hl 0 rfl) ?_
  refine lv_bipush (v := 24) hx hb dX6_soOf_5 (by decide) ?_
  refine lv_icmp_gt (tgt := 44) hx hb dX6_soOf_7 (by decide) (fun c9 => absurd c9 (by decide)) (fun _ => ?_)
  refine lv_aload_n hx hb dX6_soOf_10 rfl (lv_at hl 2 rfl) ?_
  refine k_get (D := D) (ci := 6) (v := .int 0) (N := 14) hx hb hts hin6 hown hK hP 0 rfl rfl (by decide) f9_6_11 (hts (.fieldLink RX6 90 "IntegerHouse$Places" "needed" "I") (o9_X6_soOf _ (List.mem_of_getElem? (i := 0) rfl))) e0 dX6_soOf_11 ?_
  refine lv_iload_n hx hb dX6_soOf_14 rfl (lv_at hl 0 rfl) ?_
  refine lv_iushr (v := 0) hx hb dX6_soOf_15 (by decide) ?_
  refine lv_iconst (v := 1) hx hb dX6_soOf_16 (by decide) ?_
  refine lv_iand hx hb dX6_soOf_17 ?_
  refine k_topi (y := 0) (by decide) ?_
  refine lv_iconst (v := 1) hx hb dX6_soOf_18 (by decide) ?_
  refine lv_icmp_ne (tgt := 38) hx hb dX6_soOf_19 (by decide) (fun _ => ?_) (fun c9 => absurd c9 (by decide))
  refine lv_iinc (v := 5) (lv' := [(3, .int 5), (2, .int 0), (0, .ref h0), (1, .int 0)]) hx hb dX6_soOf_38 hl (k := 0) rfl (by decide) (by decide) rfl (fun ls hl => ?_)
  refine lv_goto (tgt := 4) hx hb dX6_soOf_41 (by decide) ?_
  refine lv_iload_n hx hb dX6_soOf_4 rfl (lv_at hl 0 rfl) ?_
  refine lv_bipush (v := 24) hx hb dX6_soOf_5 (by decide) ?_
  refine lv_icmp_gt (tgt := 44) hx hb dX6_soOf_7 (by decide) (fun c9 => absurd c9 (by decide)) (fun _ => ?_)
  refine lv_aload_n hx hb dX6_soOf_10 rfl (lv_at hl 2 rfl) ?_
  refine k_get (D := D) (ci := 6) (v := .int 0) (N := 14) hx hb hts hin6 hown hK hP 0 rfl rfl (by decide) f9_6_11 (hts (.fieldLink RX6 90 "IntegerHouse$Places" "needed" "I") (o9_X6_soOf _ (List.mem_of_getElem? (i := 0) rfl))) e0 dX6_soOf_11 ?_
  refine lv_iload_n hx hb dX6_soOf_14 rfl (lv_at hl 0 rfl) ?_
  refine lv_iushr (v := 0) hx hb dX6_soOf_15 (by decide) ?_
  refine lv_iconst (v := 1) hx hb dX6_soOf_16 (by decide) ?_
  refine lv_iand hx hb dX6_soOf_17 ?_
  refine k_topi (y := 0) (by decide) ?_
  refine lv_iconst (v := 1) hx hb dX6_soOf_18 (by decide) ?_
  refine lv_icmp_ne (tgt := 38) hx hb dX6_soOf_19 (by decide) (fun _ => ?_) (fun c9 => absurd c9 (by decide))
  refine lv_iinc (v := 6) (lv' := [(3, .int 6), (2, .int 0), (0, .ref h0), (1, .int 0)]) hx hb dX6_soOf_38 hl (k := 0) rfl (by decide) (by decide) rfl (fun ls hl => ?_)
  refine lv_goto (tgt := 4) hx hb dX6_soOf_41 (by decide) ?_
  refine lv_iload_n hx hb dX6_soOf_4 rfl (lv_at hl 0 rfl) ?_
  refine lv_bipush (v := 24) hx hb dX6_soOf_5 (by decide) ?_
  refine lv_icmp_gt (tgt := 44) hx hb dX6_soOf_7 (by decide) (fun c9 => absurd c9 (by decide)) (fun _ => ?_)
  refine lv_aload_n hx hb dX6_soOf_10 rfl (lv_at hl 2 rfl) ?_
  refine k_get (D := D) (ci := 6) (v := .int 0) (N := 14) hx hb hts hin6 hown hK hP 0 rfl rfl (by decide) f9_6_11 (hts (.fieldLink RX6 90 "IntegerHouse$Places" "needed" "I") (o9_X6_soOf _ (List.mem_of_getElem? (i := 0) rfl))) e0 dX6_soOf_11 ?_
  refine lv_iload_n hx hb dX6_soOf_14 rfl (lv_at hl 0 rfl) ?_
  refine lv_iushr (v := 0) hx hb dX6_soOf_15 (by decide) ?_
  refine lv_iconst (v := 1) hx hb dX6_soOf_16 (by decide) ?_
  refine lv_iand hx hb dX6_soOf_17 ?_
  refine k_topi (y := 0) (by decide) ?_
  refine lv_iconst (v := 1) hx hb dX6_soOf_18 (by decide) ?_
  refine lv_icmp_ne (tgt := 38) hx hb dX6_soOf_19 (by decide) (fun _ => ?_) (fun c9 => absurd c9 (by decide))
  refine lv_iinc (v := 7) (lv' := [(3, .int 7), (2, .int 0), (0, .ref h0), (1, .int 0)]) hx hb dX6_soOf_38 hl (k := 0) rfl (by decide) (by decide) rfl (fun ls hl => ?_)
  refine lv_goto (tgt := 4) hx hb dX6_soOf_41 (by decide) ?_
  refine lv_iload_n hx hb dX6_soOf_4 rfl (lv_at hl 0 rfl) ?_
  refine lv_bipush (v := 24) hx hb dX6_soOf_5 (by decide) ?_
  refine lv_icmp_gt (tgt := 44) hx hb dX6_soOf_7 (by decide) (fun c9 => absurd c9 (by decide)) (fun _ => ?_)
  refine lv_aload_n hx hb dX6_soOf_10 rfl (lv_at hl 2 rfl) ?_
  refine k_get (D := D) (ci := 6) (v := .int 0) (N := 14) hx hb hts hin6 hown hK hP 0 rfl rfl (by decide) f9_6_11 (hts (.fieldLink RX6 90 "IntegerHouse$Places" "needed" "I") (o9_X6_soOf _ (List.mem_of_getElem? (i := 0) rfl))) e0 dX6_soOf_11 ?_
  refine lv_iload_n hx hb dX6_soOf_14 rfl (lv_at hl 0 rfl) ?_
  refine lv_iushr (v := 0) hx hb dX6_soOf_15 (by decide) ?_
  refine lv_iconst (v := 1) hx hb dX6_soOf_16 (by decide) ?_
  refine lv_iand hx hb dX6_soOf_17 ?_
  refine k_topi (y := 0) (by decide) ?_
  refine lv_iconst (v := 1) hx hb dX6_soOf_18 (by decide) ?_
  refine lv_icmp_ne (tgt := 38) hx hb dX6_soOf_19 (by decide) (fun _ => ?_) (fun c9 => absurd c9 (by decide))
  refine lv_iinc (v := 8) (lv' := [(3, .int 8), (2, .int 0), (0, .ref h0), (1, .int 0)]) hx hb dX6_soOf_38 hl (k := 0) rfl (by decide) (by decide) rfl (fun ls hl => ?_)
  refine lv_goto (tgt := 4) hx hb dX6_soOf_41 (by decide) ?_
  refine lv_iload_n hx hb dX6_soOf_4 rfl (lv_at hl 0 rfl) ?_
  refine lv_bipush (v := 24) hx hb dX6_soOf_5 (by decide) ?_
  refine lv_icmp_gt (tgt := 44) hx hb dX6_soOf_7 (by decide) (fun c9 => absurd c9 (by decide)) (fun _ => ?_)
  refine lv_aload_n hx hb dX6_soOf_10 rfl (lv_at hl 2 rfl) ?_
  refine k_get (D := D) (ci := 6) (v := .int 0) (N := 14) hx hb hts hin6 hown hK hP 0 rfl rfl (by decide) f9_6_11 (hts (.fieldLink RX6 90 "IntegerHouse$Places" "needed" "I") (o9_X6_soOf _ (List.mem_of_getElem? (i := 0) rfl))) e0 dX6_soOf_11 ?_
  refine lv_iload_n hx hb dX6_soOf_14 rfl (lv_at hl 0 rfl) ?_
  refine lv_iushr (v := 0) hx hb dX6_soOf_15 (by decide) ?_
  refine lv_iconst (v := 1) hx hb dX6_soOf_16 (by decide) ?_
  refine lv_iand hx hb dX6_soOf_17 ?_
  refine k_topi (y := 0) (by decide) ?_
  refine lv_iconst (v := 1) hx hb dX6_soOf_18 (by decide) ?_
  refine lv_icmp_ne (tgt := 38) hx hb dX6_soOf_19 (by decide) (fun _ => ?_) (fun c9 => absurd c9 (by decide))
  refine lv_iinc (v := 9) (lv' := [(3, .int 9), (2, .int 0), (0, .ref h0), (1, .int 0)]) hx hb dX6_soOf_38 hl (k := 0) rfl (by decide) (by decide) rfl (fun ls hl => ?_)
  refine lv_goto (tgt := 4) hx hb dX6_soOf_41 (by decide) ?_
  refine lv_iload_n hx hb dX6_soOf_4 rfl (lv_at hl 0 rfl) ?_
  refine lv_bipush (v := 24) hx hb dX6_soOf_5 (by decide) ?_
  refine lv_icmp_gt (tgt := 44) hx hb dX6_soOf_7 (by decide) (fun c9 => absurd c9 (by decide)) (fun _ => ?_)
  refine lv_aload_n hx hb dX6_soOf_10 rfl (lv_at hl 2 rfl) ?_
  refine k_get (D := D) (ci := 6) (v := .int 0) (N := 14) hx hb hts hin6 hown hK hP 0 rfl rfl (by decide) f9_6_11 (hts (.fieldLink RX6 90 "IntegerHouse$Places" "needed" "I") (o9_X6_soOf _ (List.mem_of_getElem? (i := 0) rfl))) e0 dX6_soOf_11 ?_
  refine lv_iload_n hx hb dX6_soOf_14 rfl (lv_at hl 0 rfl) ?_
  refine lv_iushr (v := 0) hx hb dX6_soOf_15 (by decide) ?_
  refine lv_iconst (v := 1) hx hb dX6_soOf_16 (by decide) ?_
  refine lv_iand hx hb dX6_soOf_17 ?_
  refine k_topi (y := 0) (by decide) ?_
  refine lv_iconst (v := 1) hx hb dX6_soOf_18 (by decide) ?_
  refine lv_icmp_ne (tgt := 38) hx hb dX6_soOf_19 (by decide) (fun _ => ?_) (fun c9 => absurd c9 (by decide))
  refine lv_iinc (v := 10) (lv' := [(3, .int 10), (2, .int 0), (0, .ref h0), (1, .int 0)]) hx hb dX6_soOf_38 hl (k := 0) rfl (by decide) (by decide) rfl (fun ls hl => ?_)
  refine lv_goto (tgt := 4) hx hb dX6_soOf_41 (by decide) ?_
  refine lv_iload_n hx hb dX6_soOf_4 rfl (lv_at hl 0 rfl) ?_
  refine lv_bipush (v := 24) hx hb dX6_soOf_5 (by decide) ?_
  refine lv_icmp_gt (tgt := 44) hx hb dX6_soOf_7 (by decide) (fun c9 => absurd c9 (by decide)) (fun _ => ?_)
  refine lv_aload_n hx hb dX6_soOf_10 rfl (lv_at hl 2 rfl) ?_
  refine k_get (D := D) (ci := 6) (v := .int 0) (N := 14) hx hb hts hin6 hown hK hP 0 rfl rfl (by decide) f9_6_11 (hts (.fieldLink RX6 90 "IntegerHouse$Places" "needed" "I") (o9_X6_soOf _ (List.mem_of_getElem? (i := 0) rfl))) e0 dX6_soOf_11 ?_
  refine lv_iload_n hx hb dX6_soOf_14 rfl (lv_at hl 0 rfl) ?_
  refine lv_iushr (v := 0) hx hb dX6_soOf_15 (by decide) ?_
  refine lv_iconst (v := 1) hx hb dX6_soOf_16 (by decide) ?_
  refine lv_iand hx hb dX6_soOf_17 ?_
  refine k_topi (y := 0) (by decide) ?_
  refine lv_iconst (v := 1) hx hb dX6_soOf_18 (by decide) ?_
  refine lv_icmp_ne (tgt := 38) hx hb dX6_soOf_19 (by decide) (fun _ => ?_) (fun c9 => absurd c9 (by decide))
  refine lv_iinc (v := 11) (lv' := [(3, .int 11), (2, .int 0), (0, .ref h0), (1, .int 0)]) hx hb dX6_soOf_38 hl (k := 0) rfl (by decide) (by decide) rfl (fun ls hl => ?_)
  refine lv_goto (tgt := 4) hx hb dX6_soOf_41 (by decide) ?_
  refine lv_iload_n hx hb dX6_soOf_4 rfl (lv_at hl 0 rfl) ?_
  refine lv_bipush (v := 24) hx hb dX6_soOf_5 (by decide) ?_
  refine lv_icmp_gt (tgt := 44) hx hb dX6_soOf_7 (by decide) (fun c9 => absurd c9 (by decide)) (fun _ => ?_)
  refine lv_aload_n hx hb dX6_soOf_10 rfl (lv_at hl 2 rfl) ?_
  refine k_get (D := D) (ci := 6) (v := .int 0) (N := 14) hx hb hts hin6 hown hK hP 0 rfl rfl (by decide) f9_6_11 (hts (.fieldLink RX6 90 "IntegerHouse$Places" "needed" "I") (o9_X6_soOf _ (List.mem_of_getElem? (i := 0) rfl))) e0 dX6_soOf_11 ?_
  refine lv_iload_n hx hb dX6_soOf_14 rfl (lv_at hl 0 rfl) ?_
  refine lv_iushr (v := 0) hx hb dX6_soOf_15 (by decide) ?_
  refine lv_iconst (v := 1) hx hb dX6_soOf_16 (by decide) ?_
  refine lv_iand hx hb dX6_soOf_17 ?_
  refine k_topi (y := 0) (by decide) ?_
  refine lv_iconst (v := 1) hx hb dX6_soOf_18 (by decide) ?_
  refine lv_icmp_ne (tgt := 38) hx hb dX6_soOf_19 (by decide) (fun _ => ?_) (fun c9 => absurd c9 (by decide))
  refine lv_iinc (v := 12) (lv' := [(3, .int 12), (2, .int 0), (0, .ref h0), (1, .int 0)]) hx hb dX6_soOf_38 hl (k := 0) rfl (by decide) (by decide) rfl (fun ls hl => ?_)
  refine lv_goto (tgt := 4) hx hb dX6_soOf_41 (by decide) ?_
  refine lv_iload_n hx hb dX6_soOf_4 rfl (lv_at hl 0 rfl) ?_
  refine lv_bipush (v := 24) hx hb dX6_soOf_5 (by decide) ?_
  refine lv_icmp_gt (tgt := 44) hx hb dX6_soOf_7 (by decide) (fun c9 => absurd c9 (by decide)) (fun _ => ?_)
  refine lv_aload_n hx hb dX6_soOf_10 rfl (lv_at hl 2 rfl) ?_
  refine k_get (D := D) (ci := 6) (v := .int 0) (N := 14) hx hb hts hin6 hown hK hP 0 rfl rfl (by decide) f9_6_11 (hts (.fieldLink RX6 90 "IntegerHouse$Places" "needed" "I") (o9_X6_soOf _ (List.mem_of_getElem? (i := 0) rfl))) e0 dX6_soOf_11 ?_
  refine lv_iload_n hx hb dX6_soOf_14 rfl (lv_at hl 0 rfl) ?_
  refine lv_iushr (v := 0) hx hb dX6_soOf_15 (by decide) ?_
  refine lv_iconst (v := 1) hx hb dX6_soOf_16 (by decide) ?_
  refine lv_iand hx hb dX6_soOf_17 ?_
  refine k_topi (y := 0) (by decide) ?_
  refine lv_iconst (v := 1) hx hb dX6_soOf_18 (by decide) ?_
  refine lv_icmp_ne (tgt := 38) hx hb dX6_soOf_19 (by decide) (fun _ => ?_) (fun c9 => absurd c9 (by decide))
  refine lv_iinc (v := 13) (lv' := [(3, .int 13), (2, .int 0), (0, .ref h0), (1, .int 0)]) hx hb dX6_soOf_38 hl (k := 0) rfl (by decide) (by decide) rfl (fun ls hl => ?_)
  refine lv_goto (tgt := 4) hx hb dX6_soOf_41 (by decide) ?_
  refine lv_iload_n hx hb dX6_soOf_4 rfl (lv_at hl 0 rfl) ?_
  refine lv_bipush (v := 24) hx hb dX6_soOf_5 (by decide) ?_
  refine lv_icmp_gt (tgt := 44) hx hb dX6_soOf_7 (by decide) (fun c9 => absurd c9 (by decide)) (fun _ => ?_)
  refine lv_aload_n hx hb dX6_soOf_10 rfl (lv_at hl 2 rfl) ?_
  refine k_get (D := D) (ci := 6) (v := .int 0) (N := 14) hx hb hts hin6 hown hK hP 0 rfl rfl (by decide) f9_6_11 (hts (.fieldLink RX6 90 "IntegerHouse$Places" "needed" "I") (o9_X6_soOf _ (List.mem_of_getElem? (i := 0) rfl))) e0 dX6_soOf_11 ?_
  refine lv_iload_n hx hb dX6_soOf_14 rfl (lv_at hl 0 rfl) ?_
  refine lv_iushr (v := 0) hx hb dX6_soOf_15 (by decide) ?_
  refine lv_iconst (v := 1) hx hb dX6_soOf_16 (by decide) ?_
  refine lv_iand hx hb dX6_soOf_17 ?_
  refine k_topi (y := 0) (by decide) ?_
  refine lv_iconst (v := 1) hx hb dX6_soOf_18 (by decide) ?_
  refine lv_icmp_ne (tgt := 38) hx hb dX6_soOf_19 (by decide) (fun _ => ?_) (fun c9 => absurd c9 (by decide))
  refine lv_iinc (v := 14) (lv' := [(3, .int 14), (2, .int 0), (0, .ref h0), (1, .int 0)]) hx hb dX6_soOf_38 hl (k := 0) rfl (by decide) (by decide) rfl (fun ls hl => ?_)
  refine lv_goto (tgt := 4) hx hb dX6_soOf_41 (by decide) ?_
  refine lv_iload_n hx hb dX6_soOf_4 rfl (lv_at hl 0 rfl) ?_
  refine lv_bipush (v := 24) hx hb dX6_soOf_5 (by decide) ?_
  refine lv_icmp_gt (tgt := 44) hx hb dX6_soOf_7 (by decide) (fun c9 => absurd c9 (by decide)) (fun _ => ?_)
  refine lv_aload_n hx hb dX6_soOf_10 rfl (lv_at hl 2 rfl) ?_
  refine k_get (D := D) (ci := 6) (v := .int 0) (N := 14) hx hb hts hin6 hown hK hP 0 rfl rfl (by decide) f9_6_11 (hts (.fieldLink RX6 90 "IntegerHouse$Places" "needed" "I") (o9_X6_soOf _ (List.mem_of_getElem? (i := 0) rfl))) e0 dX6_soOf_11 ?_
  refine lv_iload_n hx hb dX6_soOf_14 rfl (lv_at hl 0 rfl) ?_
  refine lv_iushr (v := 0) hx hb dX6_soOf_15 (by decide) ?_
  refine lv_iconst (v := 1) hx hb dX6_soOf_16 (by decide) ?_
  refine lv_iand hx hb dX6_soOf_17 ?_
  refine k_topi (y := 0) (by decide) ?_
  refine lv_iconst (v := 1) hx hb dX6_soOf_18 (by decide) ?_
  refine lv_icmp_ne (tgt := 38) hx hb dX6_soOf_19 (by decide) (fun _ => ?_) (fun c9 => absurd c9 (by decide))
  refine lv_iinc (v := 15) (lv' := [(3, .int 15), (2, .int 0), (0, .ref h0), (1, .int 0)]) hx hb dX6_soOf_38 hl (k := 0) rfl (by decide) (by decide) rfl (fun ls hl => ?_)
  refine lv_goto (tgt := 4) hx hb dX6_soOf_41 (by decide) ?_
  refine lv_iload_n hx hb dX6_soOf_4 rfl (lv_at hl 0 rfl) ?_
  refine lv_bipush (v := 24) hx hb dX6_soOf_5 (by decide) ?_
  refine lv_icmp_gt (tgt := 44) hx hb dX6_soOf_7 (by decide) (fun c9 => absurd c9 (by decide)) (fun _ => ?_)
  refine lv_aload_n hx hb dX6_soOf_10 rfl (lv_at hl 2 rfl) ?_
  refine k_get (D := D) (ci := 6) (v := .int 0) (N := 14) hx hb hts hin6 hown hK hP 0 rfl rfl (by decide) f9_6_11 (hts (.fieldLink RX6 90 "IntegerHouse$Places" "needed" "I") (o9_X6_soOf _ (List.mem_of_getElem? (i := 0) rfl))) e0 dX6_soOf_11 ?_
  refine lv_iload_n hx hb dX6_soOf_14 rfl (lv_at hl 0 rfl) ?_
  refine lv_iushr (v := 0) hx hb dX6_soOf_15 (by decide) ?_
  refine lv_iconst (v := 1) hx hb dX6_soOf_16 (by decide) ?_
  refine lv_iand hx hb dX6_soOf_17 ?_
  refine k_topi (y := 0) (by decide) ?_
  refine lv_iconst (v := 1) hx hb dX6_soOf_18 (by decide) ?_
  refine lv_icmp_ne (tgt := 38) hx hb dX6_soOf_19 (by decide) (fun _ => ?_) (fun c9 => absurd c9 (by decide))
  refine lv_iinc (v := 16) (lv' := [(3, .int 16), (2, .int 0), (0, .ref h0), (1, .int 0)]) hx hb dX6_soOf_38 hl (k := 0) rfl (by decide) (by decide) rfl (fun ls hl => ?_)
  refine lv_goto (tgt := 4) hx hb dX6_soOf_41 (by decide) ?_
  refine lv_iload_n hx hb dX6_soOf_4 rfl (lv_at hl 0 rfl) ?_
  refine lv_bipush (v := 24) hx hb dX6_soOf_5 (by decide) ?_
  refine lv_icmp_gt (tgt := 44) hx hb dX6_soOf_7 (by decide) (fun c9 => absurd c9 (by decide)) (fun _ => ?_)
  refine lv_aload_n hx hb dX6_soOf_10 rfl (lv_at hl 2 rfl) ?_
  refine k_get (D := D) (ci := 6) (v := .int 0) (N := 14) hx hb hts hin6 hown hK hP 0 rfl rfl (by decide) f9_6_11 (hts (.fieldLink RX6 90 "IntegerHouse$Places" "needed" "I") (o9_X6_soOf _ (List.mem_of_getElem? (i := 0) rfl))) e0 dX6_soOf_11 ?_
  refine lv_iload_n hx hb dX6_soOf_14 rfl (lv_at hl 0 rfl) ?_
  refine lv_iushr (v := 0) hx hb dX6_soOf_15 (by decide) ?_
  refine lv_iconst (v := 1) hx hb dX6_soOf_16 (by decide) ?_
  refine lv_iand hx hb dX6_soOf_17 ?_
  refine k_topi (y := 0) (by decide) ?_
  refine lv_iconst (v := 1) hx hb dX6_soOf_18 (by decide) ?_
  refine lv_icmp_ne (tgt := 38) hx hb dX6_soOf_19 (by decide) (fun _ => ?_) (fun c9 => absurd c9 (by decide))
  refine lv_iinc (v := 17) (lv' := [(3, .int 17), (2, .int 0), (0, .ref h0), (1, .int 0)]) hx hb dX6_soOf_38 hl (k := 0) rfl (by decide) (by decide) rfl (fun ls hl => ?_)
  refine lv_goto (tgt := 4) hx hb dX6_soOf_41 (by decide) ?_
  refine lv_iload_n hx hb dX6_soOf_4 rfl (lv_at hl 0 rfl) ?_
  refine lv_bipush (v := 24) hx hb dX6_soOf_5 (by decide) ?_
  refine lv_icmp_gt (tgt := 44) hx hb dX6_soOf_7 (by decide) (fun c9 => absurd c9 (by decide)) (fun _ => ?_)
  refine lv_aload_n hx hb dX6_soOf_10 rfl (lv_at hl 2 rfl) ?_
  refine k_get (D := D) (ci := 6) (v := .int 0) (N := 14) hx hb hts hin6 hown hK hP 0 rfl rfl (by decide) f9_6_11 (hts (.fieldLink RX6 90 "IntegerHouse$Places" "needed" "I") (o9_X6_soOf _ (List.mem_of_getElem? (i := 0) rfl))) e0 dX6_soOf_11 ?_
  refine lv_iload_n hx hb dX6_soOf_14 rfl (lv_at hl 0 rfl) ?_
  refine lv_iushr (v := 0) hx hb dX6_soOf_15 (by decide) ?_
  refine lv_iconst (v := 1) hx hb dX6_soOf_16 (by decide) ?_
  refine lv_iand hx hb dX6_soOf_17 ?_
  refine k_topi (y := 0) (by decide) ?_
  refine lv_iconst (v := 1) hx hb dX6_soOf_18 (by decide) ?_
  refine lv_icmp_ne (tgt := 38) hx hb dX6_soOf_19 (by decide) (fun _ => ?_) (fun c9 => absurd c9 (by decide))
  refine lv_iinc (v := 18) (lv' := [(3, .int 18), (2, .int 0), (0, .ref h0), (1, .int 0)]) hx hb dX6_soOf_38 hl (k := 0) rfl (by decide) (by decide) rfl (fun ls hl => ?_)
  refine lv_goto (tgt := 4) hx hb dX6_soOf_41 (by decide) ?_
  refine lv_iload_n hx hb dX6_soOf_4 rfl (lv_at hl 0 rfl) ?_
  refine lv_bipush (v := 24) hx hb dX6_soOf_5 (by decide) ?_
  refine lv_icmp_gt (tgt := 44) hx hb dX6_soOf_7 (by decide) (fun c9 => absurd c9 (by decide)) (fun _ => ?_)
  refine lv_aload_n hx hb dX6_soOf_10 rfl (lv_at hl 2 rfl) ?_
  refine k_get (D := D) (ci := 6) (v := .int 0) (N := 14) hx hb hts hin6 hown hK hP 0 rfl rfl (by decide) f9_6_11 (hts (.fieldLink RX6 90 "IntegerHouse$Places" "needed" "I") (o9_X6_soOf _ (List.mem_of_getElem? (i := 0) rfl))) e0 dX6_soOf_11 ?_
  refine lv_iload_n hx hb dX6_soOf_14 rfl (lv_at hl 0 rfl) ?_
  refine lv_iushr (v := 0) hx hb dX6_soOf_15 (by decide) ?_
  refine lv_iconst (v := 1) hx hb dX6_soOf_16 (by decide) ?_
  refine lv_iand hx hb dX6_soOf_17 ?_
  refine k_topi (y := 0) (by decide) ?_
  refine lv_iconst (v := 1) hx hb dX6_soOf_18 (by decide) ?_
  refine lv_icmp_ne (tgt := 38) hx hb dX6_soOf_19 (by decide) (fun _ => ?_) (fun c9 => absurd c9 (by decide))
  refine lv_iinc (v := 19) (lv' := [(3, .int 19), (2, .int 0), (0, .ref h0), (1, .int 0)]) hx hb dX6_soOf_38 hl (k := 0) rfl (by decide) (by decide) rfl (fun ls hl => ?_)
  refine lv_goto (tgt := 4) hx hb dX6_soOf_41 (by decide) ?_
  refine lv_iload_n hx hb dX6_soOf_4 rfl (lv_at hl 0 rfl) ?_
  refine lv_bipush (v := 24) hx hb dX6_soOf_5 (by decide) ?_
  refine lv_icmp_gt (tgt := 44) hx hb dX6_soOf_7 (by decide) (fun c9 => absurd c9 (by decide)) (fun _ => ?_)
  refine lv_aload_n hx hb dX6_soOf_10 rfl (lv_at hl 2 rfl) ?_
  refine k_get (D := D) (ci := 6) (v := .int 0) (N := 14) hx hb hts hin6 hown hK hP 0 rfl rfl (by decide) f9_6_11 (hts (.fieldLink RX6 90 "IntegerHouse$Places" "needed" "I") (o9_X6_soOf _ (List.mem_of_getElem? (i := 0) rfl))) e0 dX6_soOf_11 ?_
  refine lv_iload_n hx hb dX6_soOf_14 rfl (lv_at hl 0 rfl) ?_
  refine lv_iushr (v := 0) hx hb dX6_soOf_15 (by decide) ?_
  refine lv_iconst (v := 1) hx hb dX6_soOf_16 (by decide) ?_
  refine lv_iand hx hb dX6_soOf_17 ?_
  refine k_topi (y := 0) (by decide) ?_
  refine lv_iconst (v := 1) hx hb dX6_soOf_18 (by decide) ?_
  refine lv_icmp_ne (tgt := 38) hx hb dX6_soOf_19 (by decide) (fun _ => ?_) (fun c9 => absurd c9 (by decide))
  refine lv_iinc (v := 20) (lv' := [(3, .int 20), (2, .int 0), (0, .ref h0), (1, .int 0)]) hx hb dX6_soOf_38 hl (k := 0) rfl (by decide) (by decide) rfl (fun ls hl => ?_)
  refine lv_goto (tgt := 4) hx hb dX6_soOf_41 (by decide) ?_
  refine lv_iload_n hx hb dX6_soOf_4 rfl (lv_at hl 0 rfl) ?_
  refine lv_bipush (v := 24) hx hb dX6_soOf_5 (by decide) ?_
  refine lv_icmp_gt (tgt := 44) hx hb dX6_soOf_7 (by decide) (fun c9 => absurd c9 (by decide)) (fun _ => ?_)
  refine lv_aload_n hx hb dX6_soOf_10 rfl (lv_at hl 2 rfl) ?_
  refine k_get (D := D) (ci := 6) (v := .int 0) (N := 14) hx hb hts hin6 hown hK hP 0 rfl rfl (by decide) f9_6_11 (hts (.fieldLink RX6 90 "IntegerHouse$Places" "needed" "I") (o9_X6_soOf _ (List.mem_of_getElem? (i := 0) rfl))) e0 dX6_soOf_11 ?_
  refine lv_iload_n hx hb dX6_soOf_14 rfl (lv_at hl 0 rfl) ?_
  refine lv_iushr (v := 0) hx hb dX6_soOf_15 (by decide) ?_
  refine lv_iconst (v := 1) hx hb dX6_soOf_16 (by decide) ?_
  refine lv_iand hx hb dX6_soOf_17 ?_
  refine k_topi (y := 0) (by decide) ?_
  refine lv_iconst (v := 1) hx hb dX6_soOf_18 (by decide) ?_
  refine lv_icmp_ne (tgt := 38) hx hb dX6_soOf_19 (by decide) (fun _ => ?_) (fun c9 => absurd c9 (by decide))
  refine lv_iinc (v := 21) (lv' := [(3, .int 21), (2, .int 0), (0, .ref h0), (1, .int 0)]) hx hb dX6_soOf_38 hl (k := 0) rfl (by decide) (by decide) rfl (fun ls hl => ?_)
  refine lv_goto (tgt := 4) hx hb dX6_soOf_41 (by decide) ?_
  refine lv_iload_n hx hb dX6_soOf_4 rfl (lv_at hl 0 rfl) ?_
  refine lv_bipush (v := 24) hx hb dX6_soOf_5 (by decide) ?_
  refine lv_icmp_gt (tgt := 44) hx hb dX6_soOf_7 (by decide) (fun c9 => absurd c9 (by decide)) (fun _ => ?_)
  refine lv_aload_n hx hb dX6_soOf_10 rfl (lv_at hl 2 rfl) ?_
  refine k_get (D := D) (ci := 6) (v := .int 0) (N := 14) hx hb hts hin6 hown hK hP 0 rfl rfl (by decide) f9_6_11 (hts (.fieldLink RX6 90 "IntegerHouse$Places" "needed" "I") (o9_X6_soOf _ (List.mem_of_getElem? (i := 0) rfl))) e0 dX6_soOf_11 ?_
  refine lv_iload_n hx hb dX6_soOf_14 rfl (lv_at hl 0 rfl) ?_
  refine lv_iushr (v := 0) hx hb dX6_soOf_15 (by decide) ?_
  refine lv_iconst (v := 1) hx hb dX6_soOf_16 (by decide) ?_
  refine lv_iand hx hb dX6_soOf_17 ?_
  refine k_topi (y := 0) (by decide) ?_
  refine lv_iconst (v := 1) hx hb dX6_soOf_18 (by decide) ?_
  refine lv_icmp_ne (tgt := 38) hx hb dX6_soOf_19 (by decide) (fun _ => ?_) (fun c9 => absurd c9 (by decide))
  refine lv_iinc (v := 22) (lv' := [(3, .int 22), (2, .int 0), (0, .ref h0), (1, .int 0)]) hx hb dX6_soOf_38 hl (k := 0) rfl (by decide) (by decide) rfl (fun ls hl => ?_)
  refine lv_goto (tgt := 4) hx hb dX6_soOf_41 (by decide) ?_
  refine lv_iload_n hx hb dX6_soOf_4 rfl (lv_at hl 0 rfl) ?_
  refine lv_bipush (v := 24) hx hb dX6_soOf_5 (by decide) ?_
  refine lv_icmp_gt (tgt := 44) hx hb dX6_soOf_7 (by decide) (fun c9 => absurd c9 (by decide)) (fun _ => ?_)
  refine lv_aload_n hx hb dX6_soOf_10 rfl (lv_at hl 2 rfl) ?_
  refine k_get (D := D) (ci := 6) (v := .int 0) (N := 14) hx hb hts hin6 hown hK hP 0 rfl rfl (by decide) f9_6_11 (hts (.fieldLink RX6 90 "IntegerHouse$Places" "needed" "I") (o9_X6_soOf _ (List.mem_of_getElem? (i := 0) rfl))) e0 dX6_soOf_11 ?_
  refine lv_iload_n hx hb dX6_soOf_14 rfl (lv_at hl 0 rfl) ?_
  refine lv_iushr (v := 0) hx hb dX6_soOf_15 (by decide) ?_
  refine lv_iconst (v := 1) hx hb dX6_soOf_16 (by decide) ?_
  refine lv_iand hx hb dX6_soOf_17 ?_
  refine k_topi (y := 0) (by decide) ?_
  refine lv_iconst (v := 1) hx hb dX6_soOf_18 (by decide) ?_
  refine lv_icmp_ne (tgt := 38) hx hb dX6_soOf_19 (by decide) (fun _ => ?_) (fun c9 => absurd c9 (by decide))
  refine lv_iinc (v := 23) (lv' := [(3, .int 23), (2, .int 0), (0, .ref h0), (1, .int 0)]) hx hb dX6_soOf_38 hl (k := 0) rfl (by decide) (by decide) rfl (fun ls hl => ?_)
  refine lv_goto (tgt := 4) hx hb dX6_soOf_41 (by decide) ?_
  refine lv_iload_n hx hb dX6_soOf_4 rfl (lv_at hl 0 rfl) ?_
  refine lv_bipush (v := 24) hx hb dX6_soOf_5 (by decide) ?_
  refine lv_icmp_gt (tgt := 44) hx hb dX6_soOf_7 (by decide) (fun c9 => absurd c9 (by decide)) (fun _ => ?_)
  refine lv_aload_n hx hb dX6_soOf_10 rfl (lv_at hl 2 rfl) ?_
  refine k_get (D := D) (ci := 6) (v := .int 0) (N := 14) hx hb hts hin6 hown hK hP 0 rfl rfl (by decide) f9_6_11 (hts (.fieldLink RX6 90 "IntegerHouse$Places" "needed" "I") (o9_X6_soOf _ (List.mem_of_getElem? (i := 0) rfl))) e0 dX6_soOf_11 ?_
  refine lv_iload_n hx hb dX6_soOf_14 rfl (lv_at hl 0 rfl) ?_
  refine lv_iushr (v := 0) hx hb dX6_soOf_15 (by decide) ?_
  refine lv_iconst (v := 1) hx hb dX6_soOf_16 (by decide) ?_
  refine lv_iand hx hb dX6_soOf_17 ?_
  refine k_topi (y := 0) (by decide) ?_
  refine lv_iconst (v := 1) hx hb dX6_soOf_18 (by decide) ?_
  refine lv_icmp_ne (tgt := 38) hx hb dX6_soOf_19 (by decide) (fun _ => ?_) (fun c9 => absurd c9 (by decide))
  refine lv_iinc (v := 24) (lv' := [(3, .int 24), (2, .int 0), (0, .ref h0), (1, .int 0)]) hx hb dX6_soOf_38 hl (k := 0) rfl (by decide) (by decide) rfl (fun ls hl => ?_)
  refine lv_goto (tgt := 4) hx hb dX6_soOf_41 (by decide) ?_
  refine lv_iload_n hx hb dX6_soOf_4 rfl (lv_at hl 0 rfl) ?_
  refine lv_bipush (v := 24) hx hb dX6_soOf_5 (by decide) ?_
  refine lv_icmp_gt (tgt := 44) hx hb dX6_soOf_7 (by decide) (fun c9 => absurd c9 (by decide)) (fun _ => ?_)
  refine lv_aload_n hx hb dX6_soOf_10 rfl (lv_at hl 2 rfl) ?_
  refine k_get (D := D) (ci := 6) (v := .int 0) (N := 14) hx hb hts hin6 hown hK hP 0 rfl rfl (by decide) f9_6_11 (hts (.fieldLink RX6 90 "IntegerHouse$Places" "needed" "I") (o9_X6_soOf _ (List.mem_of_getElem? (i := 0) rfl))) e0 dX6_soOf_11 ?_
  refine lv_iload_n hx hb dX6_soOf_14 rfl (lv_at hl 0 rfl) ?_
  refine lv_iushr (v := 0) hx hb dX6_soOf_15 (by decide) ?_
  refine lv_iconst (v := 1) hx hb dX6_soOf_16 (by decide) ?_
  refine lv_iand hx hb dX6_soOf_17 ?_
  refine k_topi (y := 0) (by decide) ?_
  refine lv_iconst (v := 1) hx hb dX6_soOf_18 (by decide) ?_
  refine lv_icmp_ne (tgt := 38) hx hb dX6_soOf_19 (by decide) (fun _ => ?_) (fun c9 => absurd c9 (by decide))
  refine lv_iinc (v := 25) (lv' := [(3, .int 25), (2, .int 0), (0, .ref h0), (1, .int 0)]) hx hb dX6_soOf_38 hl (k := 0) rfl (by decide) (by decide) rfl (fun ls hl => ?_)
  refine lv_goto (tgt := 4) hx hb dX6_soOf_41 (by decide) ?_
  refine lv_iload_n hx hb dX6_soOf_4 rfl (lv_at hl 0 rfl) ?_
  refine lv_bipush (v := 24) hx hb dX6_soOf_5 (by decide) ?_
  refine lv_icmp_gt (tgt := 44) hx hb dX6_soOf_7 (by decide) (fun _ => ?_) (fun c9 => absurd (by decide) c9)
  refine lv_iload_n hx hb dX6_soOf_44 rfl (lv_at hl 1 rfl) ?_
  exact W.iret (v := 0) hx hb hr (fun t ht hW => ⟨⟨0, (), rfl, rfl, kB_mk ht hW hP hK hD⟩, hS.F ht⟩) hS.2.2 dX6_soOf_45
