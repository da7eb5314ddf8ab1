theorem dX12_reckonSlots_0 : decode cX12_reckonSlots 0 = .ok (.iconst 0, 1) := by decide +kernel
theorem dX12_reckonSlots_1 : decode cX12_reckonSlots 1 = .ok (.istore_n 1, 1) := by decide +kernel
theorem dX12_reckonSlots_2 : decode cX12_reckonSlots 2 = .ok (.iload_n 1, 1) := by decide +kernel
theorem dX12_reckonSlots_3 : decode cX12_reckonSlots 3 = .ok (.bipush 24, 2) := by decide +kernel
theorem dX12_reckonSlots_5 : decode cX12_reckonSlots 5 = .ok (.if_icmp .gt 75, 3) := by decide +kernel
theorem dX12_reckonSlots_8 : decode cX12_reckonSlots 8 = .ok (.aload_n 0, 1) := by decide +kernel
theorem dX12_reckonSlots_9 : decode cX12_reckonSlots 9 = .ok (.getfield 304, 3) := by decide +kernel
theorem dX12_reckonSlots_12 : decode cX12_reckonSlots 12 = .ok (.iload_n 1, 1) := by decide +kernel
theorem dX12_reckonSlots_13 : decode cX12_reckonSlots 13 = .ok (.baload, 1) := by decide +kernel
theorem dX12_reckonSlots_14 : decode cX12_reckonSlots 14 = .ok (.ifCond .eq 60, 3) := by decide +kernel
theorem dX12_reckonSlots_74 : decode cX12_reckonSlots 74 = .ok (.iinc 1 1, 3) := by decide +kernel
theorem dX12_reckonSlots_77 : decode cX12_reckonSlots 77 = .ok (.goto (-75), 3) := by decide +kernel
theorem dX12_reckonSlots_80 : decode cX12_reckonSlots 80 = .ok (.return_, 1) := by decide +kernel
theorem dX12_placeOf_0 : decode cX12_placeOf 0 = .ok (.bipush 17, 2) := by decide +kernel
theorem dX12_placeOf_2 : decode cX12_placeOf 2 = .ok (.istore_n 1, 1) := by decide +kernel
theorem dX12_placeOf_3 : decode cX12_placeOf 3 = .ok (.iconst 0, 1) := by decide +kernel
theorem dX12_placeOf_4 : decode cX12_placeOf 4 = .ok (.istore_n 2, 1) := by decide +kernel
theorem dX12_placeOf_5 : decode cX12_placeOf 5 = .ok (.iload_n 2, 1) := by decide +kernel
theorem dX12_placeOf_6 : decode cX12_placeOf 6 = .ok (.aload_n 0, 1) := by decide +kernel
theorem dX12_placeOf_7 : decode cX12_placeOf 7 = .ok (.getfield 928, 3) := by decide +kernel
theorem dX12_placeOf_10 : decode cX12_placeOf 10 = .ok (.if_icmp .ge 29, 3) := by decide +kernel
theorem dX12_placeOf_39 : decode cX12_placeOf 39 = .ok (.iload_n 1, 1) := by decide +kernel
theorem dX12_placeOf_40 : decode cX12_placeOf 40 = .ok (.sipush 32767, 3) := by decide +kernel
theorem dX12_placeOf_43 : decode cX12_placeOf 43 = .ok (.iand, 1) := by decide +kernel
theorem dX12_placeOf_44 : decode cX12_placeOf 44 = .ok (.istore_n 1, 1) := by decide +kernel
theorem dX12_placeOf_45 : decode cX12_placeOf 45 = .ok (.aload_n 0, 1) := by decide +kernel
theorem dX12_placeOf_46 : decode cX12_placeOf 46 = .ok (.getfield 325, 3) := by decide +kernel
theorem dX12_placeOf_49 : decode cX12_placeOf 49 = .ok (.iload_n 1, 1) := by decide +kernel
theorem dX12_placeOf_50 : decode cX12_placeOf 50 = .ok (.iaload, 1) := by decide +kernel
theorem dX12_placeOf_51 : decode cX12_placeOf 51 = .ok (.istore_n 2, 1) := by decide +kernel
theorem dX12_placeOf_52 : decode cX12_placeOf 52 = .ok (.iload_n 2, 1) := by decide +kernel
theorem dX12_placeOf_53 : decode cX12_placeOf 53 = .ok (.iconst (-1), 1) := by decide +kernel
theorem dX12_placeOf_54 : decode cX12_placeOf 54 = .ok (.if_icmp .eq 71, 3) := by decide +kernel
theorem dX12_placeOf_57 : decode cX12_placeOf 57 = .ok (.iconst 1, 1) := by decide +kernel
theorem dX12_placeOf_58 : decode cX12_placeOf 58 = .ok (.istore_n 3, 1) := by decide +kernel
theorem dX12_placeOf_59 : decode cX12_placeOf 59 = .ok (.iconst 0, 1) := by decide +kernel
theorem dX12_placeOf_60 : decode cX12_placeOf 60 = .ok (.istore 4, 2) := by decide +kernel
theorem dX12_placeOf_62 : decode cX12_placeOf 62 = .ok (.iload 4, 2) := by decide +kernel
theorem dX12_placeOf_64 : decode cX12_placeOf 64 = .ok (.aload_n 0, 1) := by decide +kernel
theorem dX12_placeOf_65 : decode cX12_placeOf 65 = .ok (.getfield 928, 3) := by decide +kernel
theorem dX12_placeOf_68 : decode cX12_placeOf 68 = .ok (.if_icmp .ge 41, 3) := by decide +kernel
theorem dX12_placeOf_109 : decode cX12_placeOf 109 = .ok (.iload_n 3, 1) := by decide +kernel
theorem dX12_placeOf_110 : decode cX12_placeOf 110 = .ok (.ifCond .eq 5, 3) := by decide +kernel
theorem dX12_placeOf_113 : decode cX12_placeOf 113 = .ok (.iload_n 2, 1) := by decide +kernel
theorem dX12_placeOf_114 : decode cX12_placeOf 114 = .ok (.ireturn, 1) := by decide +kernel
theorem dX12_placeOf_125 : decode cX12_placeOf 125 = .ok (.aload_n 0, 1) := by decide +kernel
theorem dX12_placeOf_126 : decode cX12_placeOf 126 = .ok (.getfield 957, 3) := by decide +kernel
theorem dX12_placeOf_129 : decode cX12_placeOf 129 = .ok (.sipush 3000, 3) := by decide +kernel
theorem dX12_placeOf_132 : decode cX12_placeOf 132 = .ok (.if_icmp .ne 7, 3) := by decide +kernel
theorem dX12_placeOf_139 : decode cX12_placeOf 139 = .ok (.iconst 0, 1) := by decide +kernel
theorem dX12_placeOf_140 : decode cX12_placeOf 140 = .ok (.istore_n 2, 1) := by decide +kernel
theorem dX12_placeOf_141 : decode cX12_placeOf 141 = .ok (.iload_n 2, 1) := by decide +kernel
theorem dX12_placeOf_142 : decode cX12_placeOf 142 = .ok (.aload_n 0, 1) := by decide +kernel
theorem dX12_placeOf_143 : decode cX12_placeOf 143 = .ok (.getfield 928, 3) := by decide +kernel
theorem dX12_placeOf_146 : decode cX12_placeOf 146 = .ok (.if_icmp .ge 29, 3) := by decide +kernel
theorem dX12_placeOf_175 : decode cX12_placeOf 175 = .ok (.aload_n 0, 1) := by decide +kernel
theorem dX12_placeOf_176 : decode cX12_placeOf 176 = .ok (.getfield 328, 3) := by decide +kernel
theorem dX12_placeOf_179 : decode cX12_placeOf 179 = .ok (.aload_n 0, 1) := by decide +kernel
theorem dX12_placeOf_180 : decode cX12_placeOf 180 = .ok (.getfield 957, 3) := by decide +kernel
theorem dX12_placeOf_183 : decode cX12_placeOf 183 = .ok (.aload_n 0, 1) := by decide +kernel
theorem dX12_placeOf_184 : decode cX12_placeOf 184 = .ok (.getfield 325, 3) := by decide +kernel
theorem dX12_placeOf_187 : decode cX12_placeOf 187 = .ok (.iload_n 1, 1) := by decide +kernel
theorem dX12_placeOf_188 : decode cX12_placeOf 188 = .ok (.iaload, 1) := by decide +kernel
theorem dX12_placeOf_189 : decode cX12_placeOf 189 = .ok (.iastore, 1) := by decide +kernel
theorem dX12_placeOf_190 : decode cX12_placeOf 190 = .ok (.aload_n 0, 1) := by decide +kernel
theorem dX12_placeOf_191 : decode cX12_placeOf 191 = .ok (.getfield 325, 3) := by decide +kernel
theorem dX12_placeOf_194 : decode cX12_placeOf 194 = .ok (.iload_n 1, 1) := by decide +kernel
theorem dX12_placeOf_195 : decode cX12_placeOf 195 = .ok (.aload_n 0, 1) := by decide +kernel
theorem dX12_placeOf_196 : decode cX12_placeOf 196 = .ok (.getfield 957, 3) := by decide +kernel
theorem dX12_placeOf_199 : decode cX12_placeOf 199 = .ok (.iastore, 1) := by decide +kernel
theorem dX12_placeOf_200 : decode cX12_placeOf 200 = .ok (.aload_n 0, 1) := by decide +kernel
theorem dX12_placeOf_201 : decode cX12_placeOf 201 = .ok (.dup, 1) := by decide +kernel
theorem dX12_placeOf_202 : decode cX12_placeOf 202 = .ok (.getfield 957, 3) := by decide +kernel
theorem dX12_placeOf_205 : decode cX12_placeOf 205 = .ok (.iconst 1, 1) := by decide +kernel
theorem dX12_placeOf_206 : decode cX12_placeOf 206 = .ok (.iadd, 1) := by decide +kernel
theorem dX12_placeOf_207 : decode cX12_placeOf 207 = .ok (.putfield 957, 3) := by decide +kernel
theorem dX12_placeOf_210 : decode cX12_placeOf 210 = .ok (.aload_n 0, 1) := by decide +kernel
theorem dX12_placeOf_211 : decode cX12_placeOf 211 = .ok (.getfield 957, 3) := by decide +kernel
theorem dX12_placeOf_214 : decode cX12_placeOf 214 = .ok (.iconst 1, 1) := by decide +kernel
theorem dX12_placeOf_215 : decode cX12_placeOf 215 = .ok (.isub, 1) := by decide +kernel
theorem dX12_placeOf_216 : decode cX12_placeOf 216 = .ok (.ireturn, 1) := by decide +kernel
theorem dX12_explore_0 : decode cX12_explore 0 = .ok (.aload_n 0, 1) := by decide +kernel
theorem dX12_explore_1 : decode cX12_explore 1 = .ok (.getfield 928, 3) := by decide +kernel
theorem dX12_explore_4 : decode cX12_explore 4 = .ok (.bipush 32, 2) := by decide +kernel
theorem dX12_explore_6 : decode cX12_explore 6 = .ok (.if_icmp .le 5, 3) := by decide +kernel
theorem dX12_explore_11 : decode cX12_explore 11 = .ok (.aload_n 0, 1) := by decide +kernel
theorem dX12_explore_12 : decode cX12_explore 12 = .ok (.invokevirtual 951, 3) := by decide +kernel
theorem dX12_explore_15 : decode cX12_explore 15 = .ok (.aload_n 0, 1) := by decide +kernel
theorem dX12_explore_16 : decode cX12_explore 16 = .ok (.iconst 1, 1) := by decide +kernel
theorem dX12_explore_17 : decode cX12_explore 17 = .ok (.aload_n 0, 1) := by decide +kernel
theorem dX12_explore_18 : decode cX12_explore 18 = .ok (.getfield 815, 3) := by decide +kernel
theorem dX12_explore_21 : decode cX12_explore 21 = .ok (.ishl, 1) := by decide +kernel
theorem dX12_explore_22 : decode cX12_explore 22 = .ok (.putfield 960, 3) := by decide +kernel
theorem dX12_explore_25 : decode cX12_explore 25 = .ok (.iconst 0, 1) := by decide +kernel
theorem dX12_explore_26 : decode cX12_explore 26 = .ok (.istore_n 1, 1) := by decide +kernel
theorem dX12_explore_27 : decode cX12_explore 27 = .ok (.iload_n 1, 1) := by decide +kernel
theorem dX12_explore_28 : decode cX12_explore 28 = .ok (.ldc_w 324, 3) := by decide +kernel
theorem dX12_explore_31 : decode cX12_explore 31 = .ok (.if_icmp .ge 16, 3) := by decide +kernel
theorem dX12_explore_34 : decode cX12_explore 34 = .ok (.aload_n 0, 1) := by decide +kernel
theorem dX12_explore_35 : decode cX12_explore 35 = .ok (.getfield 325, 3) := by decide +kernel
theorem dX12_explore_38 : decode cX12_explore 38 = .ok (.iload_n 1, 1) := by decide +kernel
theorem dX12_explore_39 : decode cX12_explore 39 = .ok (.iconst (-1), 1) := by decide +kernel
theorem dX12_explore_40 : decode cX12_explore 40 = .ok (.iastore, 1) := by decide +kernel
theorem dX12_explore_41 : decode cX12_explore 41 = .ok (.iinc 1 1, 3) := by decide +kernel
theorem dX12_explore_44 : decode cX12_explore 44 = .ok (.goto (-17), 3) := by decide +kernel
theorem dX12_explore_47 : decode cX12_explore 47 = .ok (.aload_n 0, 1) := by decide +kernel
theorem dX12_explore_48 : decode cX12_explore 48 = .ok (.iconst 0, 1) := by decide +kernel
theorem dX12_explore_49 : decode cX12_explore 49 = .ok (.putfield 957, 3) := by decide +kernel
theorem dX12_explore_52 : decode cX12_explore 52 = .ok (.iconst 0, 1) := by decide +kernel
theorem dX12_explore_53 : decode cX12_explore 53 = .ok (.istore_n 1, 1) := by decide +kernel
theorem dX12_explore_54 : decode cX12_explore 54 = .ok (.iload_n 1, 1) := by decide +kernel
theorem dX12_explore_55 : decode cX12_explore 55 = .ok (.aload_n 0, 1) := by decide +kernel
theorem dX12_explore_56 : decode cX12_explore 56 = .ok (.getfield 928, 3) := by decide +kernel
theorem dX12_explore_59 : decode cX12_explore 59 = .ok (.if_icmp .ge 49, 3) := by decide +kernel
theorem dX12_explore_108 : decode cX12_explore 108 = .ok (.aload_n 0, 1) := by decide +kernel
theorem dX12_explore_109 : decode cX12_explore 109 = .ok (.invokevirtual 963, 3) := by decide +kernel
theorem dX12_explore_112 : decode cX12_explore 112 = .ok (.istore_n 1, 1) := by decide +kernel
theorem dX12_explore_113 : decode cX12_explore 113 = .ok (.iconst 0, 1) := by decide +kernel
theorem dX12_explore_114 : decode cX12_explore 114 = .ok (.istore_n 2, 1) := by decide +kernel
theorem dX12_explore_115 : decode cX12_explore 115 = .ok (.iload_n 2, 1) := by decide +kernel
theorem dX12_explore_116 : decode cX12_explore 116 = .ok (.aload_n 0, 1) := by decide +kernel
theorem dX12_explore_117 : decode cX12_explore 117 = .ok (.getfield 957, 3) := by decide +kernel
theorem dX12_explore_120 : decode cX12_explore 120 = .ok (.if_icmp .ge 98, 3) := by decide +kernel
theorem dX12_explore_123 : decode cX12_explore 123 = .ok (.iconst 0, 1) := by decide +kernel
theorem dX12_explore_124 : decode cX12_explore 124 = .ok (.istore_n 3, 1) := by decide +kernel
theorem dX12_explore_125 : decode cX12_explore 125 = .ok (.iload_n 3, 1) := by decide +kernel
theorem dX12_explore_126 : decode cX12_explore 126 = .ok (.aload_n 0, 1) := by decide +kernel
theorem dX12_explore_127 : decode cX12_explore 127 = .ok (.getfield 960, 3) := by decide +kernel
theorem dX12_explore_130 : decode cX12_explore 130 = .ok (.if_icmp .ge 82, 3) := by decide +kernel
theorem dX12_explore_133 : decode cX12_explore 133 = .ok (.iconst 0, 1) := by decide +kernel
theorem dX12_explore_134 : decode cX12_explore 134 = .ok (.istore 4, 2) := by decide +kernel
theorem dX12_explore_136 : decode cX12_explore 136 = .ok (.iload 4, 2) := by decide +kernel
theorem dX12_explore_138 : decode cX12_explore 138 = .ok (.aload_n 0, 1) := by decide +kernel
theorem dX12_explore_139 : decode cX12_explore 139 = .ok (.getfield 928, 3) := by decide +kernel
theorem dX12_explore_142 : decode cX12_explore 142 = .ok (.if_icmp .ge 35, 3) := by decide +kernel
theorem dX12_explore_177 : decode cX12_explore 177 = .ok (.aload_n 0, 1) := by decide +kernel
theorem dX12_explore_178 : decode cX12_explore 178 = .ok (.invokevirtual 963, 3) := by decide +kernel
theorem dX12_explore_181 : decode cX12_explore 181 = .ok (.istore 4, 2) := by decide +kernel
theorem dX12_explore_183 : decode cX12_explore 183 = .ok (.iload 4, 2) := by decide +kernel
theorem dX12_explore_185 : decode cX12_explore 185 = .ok (.sipush 3000, 3) := by decide +kernel
theorem dX12_explore_188 : decode cX12_explore 188 = .ok (.if_icmp .ne 5, 3) := by decide +kernel
theorem dX12_explore_193 : decode cX12_explore 193 = .ok (.aload_n 0, 1) := by decide +kernel
theorem dX12_explore_194 : decode cX12_explore 194 = .ok (.getfield 321, 3) := by decide +kernel
theorem dX12_explore_197 : decode cX12_explore 197 = .ok (.bipush 16, 2) := by decide +kernel
theorem dX12_explore_199 : decode cX12_explore 199 = .ok (.iload_n 2, 1) := by decide +kernel
theorem dX12_explore_200 : decode cX12_explore 200 = .ok (.imul, 1) := by decide +kernel
theorem dX12_explore_201 : decode cX12_explore 201 = .ok (.iload_n 3, 1) := by decide +kernel
theorem dX12_explore_202 : decode cX12_explore 202 = .ok (.iadd, 1) := by decide +kernel
theorem dX12_explore_203 : decode cX12_explore 203 = .ok (.iload 4, 2) := by decide +kernel
theorem dX12_explore_205 : decode cX12_explore 205 = .ok (.iastore, 1) := by decide +kernel
theorem dX12_explore_206 : decode cX12_explore 206 = .ok (.iinc 3 1, 3) := by decide +kernel
theorem dX12_explore_209 : decode cX12_explore 209 = .ok (.goto (-84), 3) := by decide +kernel
theorem dX12_explore_212 : decode cX12_explore 212 = .ok (.iinc 2 1, 3) := by decide +kernel
theorem dX12_explore_215 : decode cX12_explore 215 = .ok (.goto (-100), 3) := by decide +kernel
theorem dX12_explore_218 : decode cX12_explore 218 = .ok (.iconst 1, 1) := by decide +kernel
theorem dX12_explore_219 : decode cX12_explore 219 = .ok (.ireturn, 1) := by decide +kernel
theorem dX12_isAnswer_0 : decode cX12_isAnswer 0 = .ok (.iload_n 1, 1) := by decide +kernel
theorem dX12_isAnswer_1 : decode cX12_isAnswer 1 = .ok (.iconst 2, 1) := by decide +kernel
theorem dX12_isAnswer_2 : decode cX12_isAnswer 2 = .ok (.if_icmp .ne 10, 3) := by decide +kernel
theorem dX12_isAnswer_12 : decode cX12_isAnswer 12 = .ok (.iconst 1, 1) := by decide +kernel
theorem dX12_isAnswer_13 : decode cX12_isAnswer 13 = .ok (.istore_n 3, 1) := by decide +kernel
theorem dX12_isAnswer_14 : decode cX12_isAnswer 14 = .ok (.iconst 0, 1) := by decide +kernel
theorem dX12_isAnswer_15 : decode cX12_isAnswer 15 = .ok (.istore 4, 2) := by decide +kernel
theorem dX12_isAnswer_17 : decode cX12_isAnswer 17 = .ok (.iload 4, 2) := by decide +kernel
theorem dX12_isAnswer_19 : decode cX12_isAnswer 19 = .ok (.aload_n 0, 1) := by decide +kernel
theorem dX12_isAnswer_20 : decode cX12_isAnswer 20 = .ok (.getfield 818, 3) := by decide +kernel
theorem dX12_isAnswer_23 : decode cX12_isAnswer 23 = .ok (.if_icmp .ge 49, 3) := by decide +kernel
theorem dX12_isAnswer_72 : decode cX12_isAnswer 72 = .ok (.iload_n 1, 1) := by decide +kernel
theorem dX12_isAnswer_73 : decode cX12_isAnswer 73 = .ok (.ifCond .ne 7, 3) := by decide +kernel
theorem dX12_isAnswer_76 : decode cX12_isAnswer 76 = .ok (.iload_n 3, 1) := by decide +kernel
theorem dX12_isAnswer_77 : decode cX12_isAnswer 77 = .ok (.goto 47, 3) := by decide +kernel
theorem dX12_isAnswer_124 : decode cX12_isAnswer 124 = .ok (.ireturn, 1) := by decide +kernel
theorem dX12_judge_0 : decode cX12_judge 0 = .ok (.iconst 0, 1) := by decide +kernel
theorem dX12_judge_1 : decode cX12_judge 1 = .ok (.istore 4, 2) := by decide +kernel
theorem dX12_judge_3 : decode cX12_judge 3 = .ok (.iload 4, 2) := by decide +kernel
theorem dX12_judge_5 : decode cX12_judge 5 = .ok (.sipush 4096, 3) := by decide +kernel
theorem dX12_judge_8 : decode cX12_judge 8 = .ok (.if_icmp .ge 17, 3) := by decide +kernel
theorem dX12_judge_11 : decode cX12_judge 11 = .ok (.aload_n 0, 1) := by decide +kernel
theorem dX12_judge_12 : decode cX12_judge 12 = .ok (.getfield 346, 3) := by decide +kernel
theorem dX12_judge_15 : decode cX12_judge 15 = .ok (.iload 4, 2) := by decide +kernel
theorem dX12_judge_17 : decode cX12_judge 17 = .ok (.iconst (-1), 1) := by decide +kernel
theorem dX12_judge_18 : decode cX12_judge 18 = .ok (.iastore, 1) := by decide +kernel
theorem dX12_judge_19 : decode cX12_judge 19 = .ok (.iinc 4 1, 3) := by decide +kernel
theorem dX12_judge_22 : decode cX12_judge 22 = .ok (.goto (-19), 3) := by decide +kernel
theorem dX12_judge_25 : decode cX12_judge 25 = .ok (.iconst 0, 1) := by decide +kernel
theorem dX12_judge_26 : decode cX12_judge 26 = .ok (.istore 4, 2) := by decide +kernel
theorem dX12_judge_28 : decode cX12_judge 28 = .ok (.iload 4, 2) := by decide +kernel
theorem dX12_judge_30 : decode cX12_judge 30 = .ok (.aload_n 0, 1) := by decide +kernel
theorem dX12_judge_31 : decode cX12_judge 31 = .ok (.getfield 957, 3) := by decide +kernel
theorem dX12_judge_34 : decode cX12_judge 34 = .ok (.if_icmp .ge 266, 3) := by decide +kernel
theorem dX12_judge_37 : decode cX12_judge 37 = .ok (.aload_n 0, 1) := by decide +kernel
theorem dX12_judge_38 : decode cX12_judge 38 = .ok (.getfield 334, 3) := by decide +kernel
theorem dX12_judge_41 : decode cX12_judge 41 = .ok (.iload 4, 2) := by decide +kernel
theorem dX12_judge_43 : decode cX12_judge 43 = .ok (.iconst 0, 1) := by decide +kernel
theorem dX12_judge_44 : decode cX12_judge 44 = .ok (.iastore, 1) := by decide +kernel
theorem dX12_judge_45 : decode cX12_judge 45 = .ok (.aload_n 0, 1) := by decide +kernel
theorem dX12_judge_46 : decode cX12_judge 46 = .ok (.getfield 337, 3) := by decide +kernel
theorem dX12_judge_49 : decode cX12_judge 49 = .ok (.iload 4, 2) := by decide +kernel
theorem dX12_judge_51 : decode cX12_judge 51 = .ok (.iconst 0, 1) := by decide +kernel
theorem dX12_judge_52 : decode cX12_judge 52 = .ok (.iastore, 1) := by decide +kernel
theorem dX12_judge_53 : decode cX12_judge 53 = .ok (.iconst 0, 1) := by decide +kernel
theorem dX12_judge_54 : decode cX12_judge 54 = .ok (.istore 5, 2) := by decide +kernel
theorem dX12_judge_56 : decode cX12_judge 56 = .ok (.iload 5, 2) := by decide +kernel
theorem dX12_judge_58 : decode cX12_judge 58 = .ok (.aload_n 0, 1) := by decide +kernel
theorem dX12_judge_59 : decode cX12_judge 59 = .ok (.getfield 960, 3) := by decide +kernel
theorem dX12_judge_62 : decode cX12_judge 62 = .ok (.if_icmp .ge 232, 3) := by decide +kernel
theorem dX12_judge_65 : decode cX12_judge 65 = .ok (.iconst 0, 1) := by decide +kernel
theorem dX12_judge_66 : decode cX12_judge 66 = .ok (.istore 6, 2) := by decide +kernel
theorem dX12_judge_68 : decode cX12_judge 68 = .ok (.iconst 0, 1) := by decide +kernel
theorem dX12_judge_69 : decode cX12_judge 69 = .ok (.istore 7, 2) := by decide +kernel
theorem dX12_judge_71 : decode cX12_judge 71 = .ok (.iload 7, 2) := by decide +kernel
theorem dX12_judge_73 : decode cX12_judge 73 = .ok (.aload_n 0, 1) := by decide +kernel
theorem dX12_judge_74 : decode cX12_judge 74 = .ok (.getfield 928, 3) := by decide +kernel
theorem dX12_judge_77 : decode cX12_judge 77 = .ok (.if_icmp .ge 60, 3) := by decide +kernel
theorem dX12_judge_137 : decode cX12_judge 137 = .ok (.iload 6, 2) := by decide +kernel
theorem dX12_judge_139 : decode cX12_judge 139 = .ok (.iload 6, 2) := by decide +kernel
theorem dX12_judge_141 : decode cX12_judge 141 = .ok (.bipush 12, 2) := by decide +kernel
theorem dX12_judge_143 : decode cX12_judge 143 = .ok (.iushr, 1) := by decide +kernel
theorem dX12_judge_144 : decode cX12_judge 144 = .ok (.ixor, 1) := by decide +kernel
theorem dX12_judge_145 : decode cX12_judge 145 = .ok (.iload 6, 2) := by decide +kernel
theorem dX12_judge_147 : decode cX12_judge 147 = .ok (.bipush 24, 2) := by decide +kernel
theorem dX12_judge_149 : decode cX12_judge 149 = .ok (.iushr, 1) := by decide +kernel
theorem dX12_judge_150 : decode cX12_judge 150 = .ok (.ixor, 1) := by decide +kernel
theorem dX12_judge_151 : decode cX12_judge 151 = .ok (.sipush 4095, 3) := by decide +kernel
theorem dX12_judge_154 : decode cX12_judge 154 = .ok (.iand, 1) := by decide +kernel
theorem dX12_judge_155 : decode cX12_judge 155 = .ok (.istore 7, 2) := by decide +kernel
theorem dX12_judge_157 : decode cX12_judge 157 = .ok (.aload_n 0, 1) := by decide +kernel
theorem dX12_judge_158 : decode cX12_judge 158 = .ok (.getfield 346, 3) := by decide +kernel
theorem dX12_judge_161 : decode cX12_judge 161 = .ok (.iload 7, 2) := by decide +kernel
theorem dX12_judge_163 : decode cX12_judge 163 = .ok (.iaload, 1) := by decide +kernel
theorem dX12_judge_164 : decode cX12_judge 164 = .ok (.iconst (-1), 1) := by decide +kernel
theorem dX12_judge_165 : decode cX12_judge 165 = .ok (.if_icmp .eq 15, 3) := by decide +kernel
theorem dX12_judge_180 : decode cX12_judge 180 = .ok (.aload_n 0, 1) := by decide +kernel
theorem dX12_judge_181 : decode cX12_judge 181 = .ok (.invokevirtual 954, 3) := by decide +kernel
theorem dX12_judge_184 : decode cX12_judge 184 = .ok (.aload_n 0, 1) := by decide +kernel
theorem dX12_judge_185 : decode cX12_judge 185 = .ok (.getfield 343, 3) := by decide +kernel
theorem dX12_judge_188 : decode cX12_judge 188 = .ok (.iload 7, 2) := by decide +kernel
theorem dX12_judge_190 : decode cX12_judge 190 = .ok (.iload 6, 2) := by decide +kernel
theorem dX12_judge_192 : decode cX12_judge 192 = .ok (.iastore, 1) := by decide +kernel
theorem dX12_judge_193 : decode cX12_judge 193 = .ok (.aload_n 0, 1) := by decide +kernel
theorem dX12_judge_194 : decode cX12_judge 194 = .ok (.getfield 346, 3) := by decide +kernel
theorem dX12_judge_197 : decode cX12_judge 197 = .ok (.iload 7, 2) := by decide +kernel
theorem dX12_judge_199 : decode cX12_judge 199 = .ok (.aload_n 0, 1) := by decide +kernel
theorem dX12_judge_200 : decode cX12_judge 200 = .ok (.iload_n 1, 1) := by decide +kernel
theorem dX12_judge_201 : decode cX12_judge 201 = .ok (.iload_n 2, 1) := by decide +kernel
theorem dX12_judge_202 : decode cX12_judge 202 = .ok (.invokevirtual 973, 3) := by decide +kernel
theorem dX12_judge_205 : decode cX12_judge 205 = .ok (.ifCond .eq 7, 3) := by decide +kernel
theorem dX12_judge_208 : decode cX12_judge 208 = .ok (.iconst 1, 1) := by decide +kernel
theorem dX12_judge_209 : decode cX12_judge 209 = .ok (.goto 4, 3) := by decide +kernel
theorem dX12_judge_213 : decode cX12_judge 213 = .ok (.iload_n 3, 1) := by decide +kernel
theorem dX12_judge_214 : decode cX12_judge 214 = .ok (.iconst (-1), 1) := by decide +kernel
theorem dX12_judge_215 : decode cX12_judge 215 = .ok (.if_icmp .eq 16, 3) := by decide +kernel
theorem dX12_judge_231 : decode cX12_judge 231 = .ok (.iconst 0, 1) := by decide +kernel
theorem dX12_judge_232 : decode cX12_judge 232 = .ok (.iadd, 1) := by decide +kernel
theorem dX12_judge_233 : decode cX12_judge 233 = .ok (.iastore, 1) := by decide +kernel
theorem dX12_judge_234 : decode cX12_judge 234 = .ok (.aload_n 0, 1) := by decide +kernel
theorem dX12_judge_235 : decode cX12_judge 235 = .ok (.getfield 334, 3) := by decide +kernel
theorem dX12_judge_238 : decode cX12_judge 238 = .ok (.iload 4, 2) := by decide +kernel
theorem dX12_judge_240 : decode cX12_judge 240 = .ok (.aload_n 0, 1) := by decide +kernel
theorem dX12_judge_241 : decode cX12_judge 241 = .ok (.getfield 334, 3) := by decide +kernel
theorem dX12_judge_244 : decode cX12_judge 244 = .ok (.iload 4, 2) := by decide +kernel
theorem dX12_judge_246 : decode cX12_judge 246 = .ok (.iaload, 1) := by decide +kernel
theorem dX12_judge_247 : decode cX12_judge 247 = .ok (.aload_n 0, 1) := by decide +kernel
theorem dX12_judge_248 : decode cX12_judge 248 = .ok (.getfield 346, 3) := by decide +kernel
theorem dX12_judge_251 : decode cX12_judge 251 = .ok (.iload 7, 2) := by decide +kernel
theorem dX12_judge_253 : decode cX12_judge 253 = .ok (.iaload, 1) := by decide +kernel
theorem dX12_judge_254 : decode cX12_judge 254 = .ok (.iconst 2, 1) := by decide +kernel
theorem dX12_judge_255 : decode cX12_judge 255 = .ok (.irem, 1) := by decide +kernel
theorem dX12_judge_256 : decode cX12_judge 256 = .ok (.iload 5, 2) := by decide +kernel
theorem dX12_judge_258 : decode cX12_judge 258 = .ok (.ishl, 1) := by decide +kernel
theorem dX12_judge_259 : decode cX12_judge 259 = .ok (.ior, 1) := by decide +kernel
theorem dX12_judge_260 : decode cX12_judge 260 = .ok (.iastore, 1) := by decide +kernel
theorem dX12_judge_261 : decode cX12_judge 261 = .ok (.aload_n 0, 1) := by decide +kernel
theorem dX12_judge_262 : decode cX12_judge 262 = .ok (.getfield 337, 3) := by decide +kernel
theorem dX12_judge_265 : decode cX12_judge 265 = .ok (.iload 4, 2) := by decide +kernel
theorem dX12_judge_267 : decode cX12_judge 267 = .ok (.aload_n 0, 1) := by decide +kernel
theorem dX12_judge_268 : decode cX12_judge 268 = .ok (.getfield 337, 3) := by decide +kernel
theorem dX12_judge_271 : decode cX12_judge 271 = .ok (.iload 4, 2) := by decide +kernel
theorem dX12_judge_273 : decode cX12_judge 273 = .ok (.iaload, 1) := by decide +kernel
theorem dX12_judge_274 : decode cX12_judge 274 = .ok (.aload_n 0, 1) := by decide +kernel
theorem dX12_judge_275 : decode cX12_judge 275 = .ok (.getfield 346, 3) := by decide +kernel
theorem dX12_judge_278 : decode cX12_judge 278 = .ok (.iload 7, 2) := by decide +kernel
theorem dX12_judge_280 : decode cX12_judge 280 = .ok (.iaload, 1) := by decide +kernel
theorem dX12_judge_281 : decode cX12_judge 281 = .ok (.iconst 2, 1) := by decide +kernel
theorem dX12_judge_282 : decode cX12_judge 282 = .ok (.idiv, 1) := by decide +kernel
theorem dX12_judge_283 : decode cX12_judge 283 = .ok (.iload 5, 2) := by decide +kernel
theorem dX12_judge_285 : decode cX12_judge 285 = .ok (.ishl, 1) := by decide +kernel
theorem dX12_judge_286 : decode cX12_judge 286 = .ok (.ior, 1) := by decide +kernel
theorem dX12_judge_287 : decode cX12_judge 287 = .ok (.iastore, 1) := by decide +kernel
theorem dX12_judge_288 : decode cX12_judge 288 = .ok (.iinc 5 1, 3) := by decide +kernel
theorem dX12_judge_291 : decode cX12_judge 291 = .ok (.goto (-235), 3) := by decide +kernel
theorem dX12_judge_294 : decode cX12_judge 294 = .ok (.iinc 4 1, 3) := by decide +kernel
theorem dX12_judge_297 : decode cX12_judge 297 = .ok (.goto (-269), 3) := by decide +kernel
theorem dX12_judge_300 : decode cX12_judge 300 = .ok (.return_, 1) := by decide +kernel
set_option maxHeartbeats 400000000 in
set_option maxRecDepth 100000 in
theorem c_X12_placeOf_0 (l : Launch) (E : kE) (D : va_G) (cI cJ cB cZ : ClassId) (h0 : Nat) (f0 : List Value) (h1 : Nat) (g0 : Nat → Int32) (h2 : Nat) (g1 : Nat → Int32) (e0 : f0[119]? = some (.int 0)) (e1 : f0[127]? = some (.ref h1)) (e2 : g0 17 = (-1)) (e3 : f0[129]? = some (.int 0)) (e4 : f0[128]? = some (.ref h2)) : kI l E D (kT cI cJ cB cZ) yX12_placeOf vW_X12_placeOf ({ frames := 0, cells := 0, slots := 0, locals := 0 }) [.ref h0] [(h0, .inr (12, f0)), (h1, .inl (cI, 32768, .inl g0)), (h2, .inl (cI, 3000, .inl g1))] (0) [(h0, .inr (12, (f0.set 129 (.int 1)))), (h1, .inl (cI, 32768, .inl (upd g0 17 0))), (h2, .inl (cI, 3000, .inl (upd g1 0 (-1))))] 0 0 := by
  intro sz
  refine Met.ofW (cc := cX12_placeOf) (maxL := 5) (ret := (some .int)) (by decide) rfl ?_
  intro p e s m args below meth c s₁ B hml hv
  obtain ⟨rfl, hsz, hP, hK, hD0, hN, hX⟩ := hv
  have hx := B.exec
  have hb := B.bytes
  have hr := B.returns
  have hts := atoms_spec (ws := vW_X12_placeOf) B.pre
  have hown : s.vm.findClass RX12 = some m.cls := findClass_of_methodNamed B.named
  have hlocks := B.notSynchronized
  have hin12 : ∀ w ∈ wsX120, w ∈ vW_X12_placeOf := u9_X12_placeOf_wsX120
  subst hsz
  have hD := hD0.self (sz := s.heap.size)
  have hAE := k_AE hD0 hX
  generalize hAe : va_A [(h0, .inr (12, f0)), (h1, .inl (cI, 32768, .inl g0)), (h2, .inl (cI, 3000, .inl g1))] s.heap.size = A at hD hAE ⊢
  have hA : ∀ q : Nat, s.heap.size ≤ q → A q := fun q h => by rw [← hAe]; exact Or.inr h
  have hS : va_S A s.heap s.heap [] := va_S.rf
  have hP : va_P D vwCl [(h0, .inr (12, f0)), (h1, .inl (cI, 32768, .inl g0)), (h2, .inl (cI, 3000, .inl g1))] s.heap := hP
  have hl := lv_entry ([.ref h0] : List Value) (n := 5) (Nat.le_of_ble_eq_true rfl)
  rw [lg_entry_eq]
  generalize (lg_sl ([.ref h0]) ++ List.replicate (5 - (lg_sl ([.ref h0])).length) Slot.unset).toArray = ls at hl ⊢
  have hl : lv_has ls 5 [(0, .ref h0)] := hl
  refine lv_bipush (v := 17) hx hb dX12_placeOf_0 (by decide) ?_
  refine lv_istore_n (lv' := [(1, .int 17), (0, .ref h0)]) hx hb dX12_placeOf_2 rfl hl (by decide) rfl (fun ls hl => ?_)
  refine lv_iconst (v := 0) hx hb dX12_placeOf_3 (by decide) ?_
  refine lv_istore_n (lv' := [(2, .int 0), (1, .int 17), (0, .ref h0)]) hx hb dX12_placeOf_4 rfl hl (by decide) rfl (fun ls hl => ?_)
  refine lv_iload_n hx hb dX12_placeOf_5 rfl (lv_at hl 0 rfl) ?_
  refine lv_aload_n hx hb dX12_placeOf_6 rfl (lv_at hl 2 rfl) ?_
  refine k_get (D := D) (ci := 12) (v := .int 0) (N := 195) hx hb hts hin12 hown hK hP 0 rfl rfl (by decide) f9_12_119 (hts (.fieldLink RX12 928 "IntegerHouseModel" "work" "I") (o9_X12_placeOf _ (List.mem_of_getElem? (i := 0) rfl))) e0 dX12_placeOf_7 ?_
  refine lv_icmp_ge (tgt := 39) hx hb dX12_placeOf_10 (by decide) (fun _ => ?_) (fun c9 => absurd (by decide) c9)
  refine lv_iload_n hx hb dX12_placeOf_39 rfl (lv_at hl 1 rfl) ?_
  refine lv_sipush (v := 32767) hx hb dX12_placeOf_40 (by decide) ?_
  refine lv_iand hx hb dX12_placeOf_43 ?_
  refine k_topi (y := 17) (by decide) ?_
  refine lv_istore_n (lv' := [(1, .int 17), (2, .int 0), (0, .ref h0)]) hx hb dX12_placeOf_44 rfl hl (by decide) rfl (fun ls hl => ?_)
  refine lv_aload_n hx hb dX12_placeOf_45 rfl (lv_at hl 2 rfl) ?_
  refine k_get (D := D) (ci := 12) (v := .ref h1) (N := 195) hx hb hts hin12 hown hK hP 0 rfl rfl (by decide) f9_12_127 (hts (.fieldLink RX12 325 "IntegerHouseModel" "heads" "[I") (o9_X12_placeOf _ (List.mem_of_getElem? (i := 1) rfl))) e1 dX12_placeOf_46 ?_
  refine lv_iload_n hx hb dX12_placeOf_49 rfl (lv_at hl 0 rfl) ?_
  refine va_iald hx hb hK hP 1 0 rfl rfl (k_in (by decide)) dX12_placeOf_50 ?_
  refine k_topi (y := (-1)) e2 ?_
  refine lv_istore_n (lv' := [(2, .int (-1)), (1, .int 17), (0, .ref h0)]) hx hb dX12_placeOf_51 rfl hl (by decide) rfl (fun ls hl => ?_)
  refine lv_iload_n hx hb dX12_placeOf_52 rfl (lv_at hl 0 rfl) ?_
  refine lv_iconst (v := (-1)) hx hb dX12_placeOf_53 (by decide) ?_
  refine lv_icmp_eq (tgt := 125) hx hb dX12_placeOf_54 (by decide) (fun _ => ?_) (fun c9 => absurd (by decide) c9)
  refine lv_aload_n hx hb dX12_placeOf_125 rfl (lv_at hl 2 rfl) ?_
  refine k_get (D := D) (ci := 12) (v := .int 0) (N := 195) hx hb hts hin12 hown hK hP 0 rfl rfl (by decide) f9_12_129 (hts (.fieldLink RX12 957 "IntegerHouseModel" "places" "I") (o9_X12_placeOf _ (List.mem_of_getElem? (i := 2) rfl))) e3 dX12_placeOf_126 ?_
  refine lv_sipush (v := 3000) hx hb dX12_placeOf_129 (by decide) ?_
  refine lv_icmp_ne (tgt := 139) hx hb dX12_placeOf_132 (by decide) (fun _ => ?_) (fun c9 => absurd c9 (by decide))
  refine lv_iconst (v := 0) hx hb dX12_placeOf_139 (by decide) ?_
  refine lv_istore_n (lv' := [(2, .int 0), (1, .int 17), (0, .ref h0)]) hx hb dX12_placeOf_140 rfl hl (by decide) rfl (fun ls hl => ?_)
  refine lv_iload_n hx hb dX12_placeOf_141 rfl (lv_at hl 0 rfl) ?_
  refine lv_aload_n hx hb dX12_placeOf_142 rfl (lv_at hl 2 rfl) ?_
  refine k_get (D := D) (ci := 12) (v := .int 0) (N := 195) hx hb hts hin12 hown hK hP 0 rfl rfl (by decide) f9_12_119 (hts (.fieldLink RX12 928 "IntegerHouseModel" "work" "I") (o9_X12_placeOf _ (List.mem_of_getElem? (i := 0) rfl))) e0 dX12_placeOf_143 ?_
  refine lv_icmp_ge (tgt := 175) hx hb dX12_placeOf_146 (by decide) (fun _ => ?_) (fun c9 => absurd (by decide) c9)
  refine lv_aload_n hx hb dX12_placeOf_175 rfl (lv_at hl 2 rfl) ?_
  refine k_get (D := D) (ci := 12) (v := .ref h2) (N := 195) hx hb hts hin12 hown hK hP 0 rfl rfl (by decide) f9_12_128 (hts (.fieldLink RX12 328 "IntegerHouseModel" "chain" "[I") (o9_X12_placeOf _ (List.mem_of_getElem? (i := 3) rfl))) e4 dX12_placeOf_176 ?_
  refine lv_aload_n hx hb dX12_placeOf_179 rfl (lv_at hl 2 rfl) ?_
  refine k_get (D := D) (ci := 12) (v := .int 0) (N := 195) hx hb hts hin12 hown hK hP 0 rfl rfl (by decide) f9_12_129 (hts (.fieldLink RX12 957 "IntegerHouseModel" "places" "I") (o9_X12_placeOf _ (List.mem_of_getElem? (i := 2) rfl))) e3 dX12_placeOf_180 ?_
  refine lv_aload_n hx hb dX12_placeOf_183 rfl (lv_at hl 2 rfl) ?_
  refine k_get (D := D) (ci := 12) (v := .ref h1) (N := 195) hx hb hts hin12 hown hK hP 0 rfl rfl (by decide) f9_12_127 (hts (.fieldLink RX12 325 "IntegerHouseModel" "heads" "[I") (o9_X12_placeOf _ (List.mem_of_getElem? (i := 1) rfl))) e1 dX12_placeOf_184 ?_
  refine lv_iload_n hx hb dX12_placeOf_187 rfl (lv_at hl 1 rfl) ?_
  refine va_iald hx hb hK hP 1 0 rfl rfl (k_in (by decide)) dX12_placeOf_188 ?_
  refine k_topi (y := (-1)) e2 ?_
  refine va_iast hx hb hK hP hD hS 2 0 rfl rfl (k_in (by decide)) dX12_placeOf_189 (fun H locs hP hD hS => ?_)
  have hP : va_P D vwCl [(h0, .inr (12, f0)), (h1, .inl (cI, 32768, .inl g0)), (h2, .inl (cI, 3000, .inl (upd g1 0 (-1))))] H := hP
  have hD : va_D A [(h0, .inr (12, f0)), (h1, .inl (cI, 32768, .inl g0)), (h2, .inl (cI, 3000, .inl (upd g1 0 (-1))))] := hD
  refine lv_aload_n hx hb dX12_placeOf_190 rfl (lv_at hl 2 rfl) ?_
  refine k_get (D := D) (ci := 12) (v := .ref h1) (N := 195) hx hb hts hin12 hown hK hP 0 rfl rfl (by decide) f9_12_127 (hts (.fieldLink RX12 325 "IntegerHouseModel" "heads" "[I") (o9_X12_placeOf _ (List.mem_of_getElem? (i := 1) rfl))) e1 dX12_placeOf_191 ?_
  refine lv_iload_n hx hb dX12_placeOf_194 rfl (lv_at hl 1 rfl) ?_
  refine lv_aload_n hx hb dX12_placeOf_195 rfl (lv_at hl 2 rfl) ?_
  refine k_get (D := D) (ci := 12) (v := .int 0) (N := 195) hx hb hts hin12 hown hK hP 0 rfl rfl (by decide) f9_12_129 (hts (.fieldLink RX12 957 "IntegerHouseModel" "places" "I") (o9_X12_placeOf _ (List.mem_of_getElem? (i := 2) rfl))) e3 dX12_placeOf_196 ?_
  refine va_iast hx hb hK hP hD hS 1 0 rfl rfl (k_in (by decide)) dX12_placeOf_199 (fun H locs hP hD hS => ?_)
  have hP : va_P D vwCl [(h0, .inr (12, f0)), (h1, .inl (cI, 32768, .inl (upd g0 17 0))), (h2, .inl (cI, 3000, .inl (upd g1 0 (-1))))] H := hP
  have hD : va_D A [(h0, .inr (12, f0)), (h1, .inl (cI, 32768, .inl (upd g0 17 0))), (h2, .inl (cI, 3000, .inl (upd g1 0 (-1))))] := hD
  refine lv_aload_n hx hb dX12_placeOf_200 rfl (lv_at hl 2 rfl) ?_
  refine lv_dup hx hb dX12_placeOf_201 rfl ?_
  refine k_get (D := D) (ci := 12) (v := .int 0) (N := 195) hx hb hts hin12 hown hK hP 0 rfl rfl (by decide) f9_12_129 (hts (.fieldLink RX12 957 "IntegerHouseModel" "places" "I") (o9_X12_placeOf _ (List.mem_of_getElem? (i := 2) rfl))) e3 dX12_placeOf_202 ?_
  refine lv_iconst (v := 1) hx hb dX12_placeOf_205 (by decide) ?_
  refine lv_iadd hx hb dX12_placeOf_206 ?_
  refine k_topi (y := 1) (by decide) ?_
  refine k_put (D := D) (ci := 12) (v := .int 1) (ty := .int) (N := 195) hx hb hts hin12 tyX12 tyX12_ok nmX12 hown hK hP hD hS 0 rfl rfl (by decide) f9_12_129 (hts (.fieldLink RX12 957 "IntegerHouseModel" "places" "I") (o9_X12_placeOf _ (List.mem_of_getElem? (i := 2) rfl))) rfl pd_2 rfl rfl (k_len e3) dX12_placeOf_207 (fun H locs hP hD hS => ?_)
  have hP : va_P D vwCl [(h0, .inr (12, (f0.set 129 (.int 1)))), (h1, .inl (cI, 32768, .inl (upd g0 17 0))), (h2, .inl (cI, 3000, .inl (upd g1 0 (-1))))] H := hP
  have hD : va_D A [(h0, .inr (12, (f0.set 129 (.int 1)))), (h1, .inl (cI, 32768, .inl (upd g0 17 0))), (h2, .inl (cI, 3000, .inl (upd g1 0 (-1))))] := hD
  refine lv_aload_n hx hb dX12_placeOf_210 rfl (lv_at hl 2 rfl) ?_
  refine k_get (D := D) (ci := 12) (v := .int 1) (N := 195) hx hb hts hin12 hown hK hP 0 rfl rfl (by decide) f9_12_129 (hts (.fieldLink RX12 957 "IntegerHouseModel" "places" "I") (o9_X12_placeOf _ (List.mem_of_getElem? (i := 2) rfl))) (k_set e3) dX12_placeOf_211 ?_
  refine lv_iconst (v := 1) hx hb dX12_placeOf_214 (by decide) ?_
  refine lv_isub hx hb dX12_placeOf_215 ?_
  refine k_topi (y := 0) (by decide) ?_
  exact W.iret (v := 0) hx hb hr (fun t ht hW => ⟨⟨0, (), rfl, rfl, kB_mk ht hW hP hK hD⟩, hS.F ht⟩) hS.2.2 dX12_placeOf_216
set_option maxHeartbeats 400000000 in
set_option maxRecDepth 100000 in
theorem c_X12_placeOf_1 (l : Launch) (E : kE) (D : va_G) (cI cJ cB cZ : ClassId) (h0 : Nat) (f0 : List Value) (h1 : Nat) (g0 : Nat → Int32) (e0 : f0[119]? = some (.int 0)) (e1 : f0[127]? = some (.ref h1)) (e2 : g0 17 = 0) : kI l E D (kT cI cJ cB cZ) yX12_placeOf vW_X12_placeOf ({ frames := 0, cells := 0, slots := 0, locals := 0 }) [.ref h0] [(h0, .inr (12, f0)), (h1, .inl (cI, 32768, .inl g0))] (0) [(h0, .inr (12, f0)), (h1, .inl (cI, 32768, .inl g0))] 0 0 := by
  intro sz
  refine Met.ofW (cc := cX12_placeOf) (maxL := 5) (ret := (some .int)) (by decide) rfl ?_
  intro p e s m args below meth c s₁ B hml hv
  obtain ⟨rfl, hsz, hP, hK, hD0, hN, hX⟩ := hv
  have hx := B.exec
  have hb := B.bytes
  have hr := B.returns
  have hts := atoms_spec (ws := vW_X12_placeOf) B.pre
  have hown : s.vm.findClass RX12 = some m.cls := findClass_of_methodNamed B.named
  have hlocks := B.notSynchronized
  have hin12 : ∀ w ∈ wsX120, w ∈ vW_X12_placeOf := u9_X12_placeOf_wsX120
  subst hsz
  have hD := hD0.self (sz := s.heap.size)
  have hAE := k_AE hD0 hX
  generalize hAe : va_A [(h0, .inr (12, f0)), (h1, .inl (cI, 32768, .inl g0))] s.heap.size = A at hD hAE ⊢
  have hA : ∀ q : Nat, s.heap.size ≤ q → A q := fun q h => by rw [← hAe]; exact Or.inr h
  have hS : va_S A s.heap s.heap [] := va_S.rf
  have hP : va_P D vwCl [(h0, .inr (12, f0)), (h1, .inl (cI, 32768, .inl g0))] s.heap := hP
  have hl := lv_entry ([.ref h0] : List Value) (n := 5) (Nat.le_of_ble_eq_true rfl)
  rw [lg_entry_eq]
  generalize (lg_sl ([.ref h0]) ++ List.replicate (5 - (lg_sl ([.ref h0])).length) Slot.unset).toArray = ls at hl ⊢
  have hl : lv_has ls 5 [(0, .ref h0)] := hl
  refine lv_bipush (v := 17) hx hb dX12_placeOf_0 (by decide) ?_
  refine lv_istore_n (lv' := [(1, .int 17), (0, .ref h0)]) hx hb dX12_placeOf_2 rfl hl (by decide) rfl (fun ls hl => ?_)
  refine lv_iconst (v := 0) hx hb dX12_placeOf_3 (by decide) ?_
  refine lv_istore_n (lv' := [(2, .int 0), (1, .int 17), (0, .ref h0)]) hx hb dX12_placeOf_4 rfl hl (by decide) rfl (fun ls hl => ?_)
  refine lv_iload_n hx hb dX12_placeOf_5 rfl (lv_at hl 0 rfl) ?_
  refine lv_aload_n hx hb dX12_placeOf_6 rfl (lv_at hl 2 rfl) ?_
  refine k_get (D := D) (ci := 12) (v := .int 0) (N := 195) hx hb hts hin12 hown hK hP 0 rfl rfl (by decide) f9_12_119 (hts (.fieldLink RX12 928 "IntegerHouseModel" "work" "I") (o9_X12_placeOf _ (List.mem_of_getElem? (i := 0) rfl))) e0 dX12_placeOf_7 ?_
  refine lv_icmp_ge (tgt := 39) hx hb dX12_placeOf_10 (by decide) (fun _ => ?_) (fun c9 => absurd (by decide) c9)
  refine lv_iload_n hx hb dX12_placeOf_39 rfl (lv_at hl 1 rfl) ?_
  refine lv_sipush (v := 32767) hx hb dX12_placeOf_40 (by decide) ?_
  refine lv_iand hx hb dX12_placeOf_43 ?_
  refine k_topi (y := 17) (by decide) ?_
  refine lv_istore_n (lv' := [(1, .int 17), (2, .int 0), (0, .ref h0)]) hx hb dX12_placeOf_44 rfl hl (by decide) rfl (fun ls hl => ?_)
  refine lv_aload_n hx hb dX12_placeOf_45 rfl (lv_at hl 2 rfl) ?_
  refine k_get (D := D) (ci := 12) (v := .ref h1) (N := 195) hx hb hts hin12 hown hK hP 0 rfl rfl (by decide) f9_12_127 (hts (.fieldLink RX12 325 "IntegerHouseModel" "heads" "[I") (o9_X12_placeOf _ (List.mem_of_getElem? (i := 1) rfl))) e1 dX12_placeOf_46 ?_
  refine lv_iload_n hx hb dX12_placeOf_49 rfl (lv_at hl 0 rfl) ?_
  refine va_iald hx hb hK hP 1 0 rfl rfl (k_in (by decide)) dX12_placeOf_50 ?_
  refine k_topi (y := 0) e2 ?_
  refine lv_istore_n (lv' := [(2, .int 0), (1, .int 17), (0, .ref h0)]) hx hb dX12_placeOf_51 rfl hl (by decide) rfl (fun ls hl => ?_)
  refine lv_iload_n hx hb dX12_placeOf_52 rfl (lv_at hl 0 rfl) ?_
  refine lv_iconst (v := (-1)) hx hb dX12_placeOf_53 (by decide) ?_
  refine lv_icmp_eq (tgt := 125) hx hb dX12_placeOf_54 (by decide) (fun c9 => absurd c9 (by decide)) (fun _ => ?_)
  refine lv_iconst (v := 1) hx hb dX12_placeOf_57 (by decide) ?_
  refine lv_istore_n (lv' := [(3, .int 1), (2, .int 0), (1, .int 17), (0, .ref h0)]) hx hb dX12_placeOf_58 rfl hl (by decide) rfl (fun ls hl => ?_)
  refine lv_iconst (v := 0) hx hb dX12_placeOf_59 (by decide) ?_
  refine lv_istore (lv' := [(4, .int 0), (3, .int 1), (2, .int 0), (1, .int 17), (0, .ref h0)]) hx hb dX12_placeOf_60 hl (by decide) rfl (fun ls hl => ?_)
  refine lv_iload hx hb dX12_placeOf_62 (lv_at hl 0 rfl) ?_
  refine lv_aload_n hx hb dX12_placeOf_64 rfl (lv_at hl 4 rfl) ?_
  refine k_get (D := D) (ci := 12) (v := .int 0) (N := 195) hx hb hts hin12 hown hK hP 0 rfl rfl (by decide) f9_12_119 (hts (.fieldLink RX12 928 "IntegerHouseModel" "work" "I") (o9_X12_placeOf _ (List.mem_of_getElem? (i := 0) rfl))) e0 dX12_placeOf_65 ?_
  refine lv_icmp_ge (tgt := 109) hx hb dX12_placeOf_68 (by decide) (fun _ => ?_) (fun c9 => absurd (by decide) c9)
  refine lv_iload_n hx hb dX12_placeOf_109 rfl (lv_at hl 1 rfl) ?_
  refine lv_if_eq (tgt := 115) hx hb dX12_placeOf_110 (by decide) (fun c9 => absurd c9 (by decide)) (fun _ => ?_)
  refine lv_iload_n hx hb dX12_placeOf_113 rfl (lv_at hl 2 rfl) ?_
  exact W.iret (v := 0) hx hb hr (fun t ht hW => ⟨⟨0, (), rfl, rfl, kB_mk ht hW hP hK hD⟩, hS.F ht⟩) hS.2.2 dX12_placeOf_114
set_option maxHeartbeats 400000000 in
set_option maxRecDepth 100000 in
theorem c_X12_explore_0 (l : Launch) (E : kE) (D : va_G) (cI cJ cB cZ : ClassId) (h0 : Nat) (f0 : List Value) (h1 : Nat) (g0 : Nat → Int32) (h2 : Nat) (g1 : Nat → Int32) (h3 : Nat) (g2 : Nat → Int32) (h4 : Nat) (g3 : Nat → Int32) (e0 : f0[119]? = some (.int 0)) (e1 : f0[121]? = some (.ref h1)) (e2 : g0 24 = 0) (e3 : g0 23 = 0) (e4 : g0 22 = 0) (e5 : g0 21 = 0) (e6 : g0 20 = 0) (e7 : g0 19 = 0) (e8 : g0 18 = 0) (e9 : g0 17 = 0) (e10 : g0 16 = 0) (e11 : g0 15 = 0) (e12 : g0 14 = 0) (e13 : g0 13 = 0) (e14 : g0 12 = 0) (e15 : g0 11 = 0) (e16 : g0 10 = 0) (e17 : g0 9 = 0) (e18 : g0 8 = 0) (e19 : g0 7 = 0) (e20 : g0 6 = 0) (e21 : g0 5 = 0) (e22 : g0 4 = 0) (e23 : g0 3 = 0) (e24 : g0 2 = 0) (e25 : g0 1 = 0) (e26 : g0 0 = 0) (e27 : f0[32]? = some (.int 0)) (e28 : f0[131]? = some (.int 0)) (e29 : f0[127]? = some (.ref h2)) (e30 : f0[129]? = some (.int 0)) (e31 : f0[128]? = some (.ref h3)) (e32 : f0[126]? = some (.ref h4)) : kI l E D (kT cI cJ cB cZ) yX12_explore vW_X12_explore ({ frames := 1, cells := 0, slots := 0, locals := 24 }) [.ref h0] [(h0, .inr (12, f0)), (h1, .inl (cZ, 26, .inl g0)), (h2, .inl (cI, 32768, .inl g1)), (h3, .inl (cI, 3000, .inl g2)), (h4, .inl (cI, 48000, .inl g3))] (1) [(h0, .inr (12, (((f0.set 131 (.int 1)).set 129 (.int 0)).set 129 (.int 1)))), (h1, .inl (cZ, 26, .inl g0)), (h2, .inl (cI, 32768, .inl (upd (k_fill (-1) 32768 g1) 17 0))), (h3, .inl (cI, 3000, .inl (upd g2 0 (-1)))), (h4, .inl (cI, 48000, .inl (upd g3 0 0)))] 0 0 := by
  intro sz
  refine Met.ofW (cc := cX12_explore) (maxL := 5) (ret := (some .boolean)) (by decide) rfl ?_
  intro p e s m args below meth c s₁ B hml hv
  obtain ⟨rfl, hsz, hP, hK, hD0, hN, hX⟩ := hv
  have hx := B.exec
  have hb := B.bytes
  have hr := B.returns
  have hts := atoms_spec (ws := vW_X12_explore) B.pre
  have hown : s.vm.findClass RX12 = some m.cls := findClass_of_methodNamed B.named
  have hlocks := B.notSynchronized
  have hin12 : ∀ w ∈ wsX120, w ∈ vW_X12_explore := u9_X12_explore_wsX120
  subst hsz
  have hD := hD0.self (sz := s.heap.size)
  have hAE := k_AE hD0 hX
  generalize hAe : va_A [(h0, .inr (12, f0)), (h1, .inl (cZ, 26, .inl g0)), (h2, .inl (cI, 32768, .inl g1)), (h3, .inl (cI, 3000, .inl g2)), (h4, .inl (cI, 48000, .inl g3))] s.heap.size = A at hD hAE ⊢
  have hA : ∀ q : Nat, s.heap.size ≤ q → A q := fun q h => by rw [← hAe]; exact Or.inr h
  have hS : va_S A s.heap s.heap [] := va_S.rf
  have hP : va_P D vwCl [(h0, .inr (12, f0)), (h1, .inl (cZ, 26, .inl g0)), (h2, .inl (cI, 32768, .inl g1)), (h3, .inl (cI, 3000, .inl g2)), (h4, .inl (cI, 48000, .inl g3))] s.heap := hP
  have hl := lv_entry ([.ref h0] : List Value) (n := 5) (Nat.le_of_ble_eq_true rfl)
  rw [lg_entry_eq]
  generalize (lg_sl ([.ref h0]) ++ List.replicate (5 - (lg_sl ([.ref h0])).length) Slot.unset).toArray = ls at hl ⊢
  have hl : lv_has ls 5 [(0, .ref h0)] := hl
  refine lv_aload_n hx hb dX12_explore_0 rfl (lv_at hl 0 rfl) ?_
  refine k_get (D := D) (ci := 12) (v := .int 0) (N := 195) hx hb hts hin12 hown hK hP 0 rfl rfl (by decide) f9_12_119 (hts (.fieldLink RX12 928 "IntegerHouseModel" "work" "I") (o9_X12_explore _ (List.mem_of_getElem? (i := 0) rfl))) e0 dX12_explore_1 ?_
  refine lv_bipush (v := 32) hx hb dX12_explore_4 (by decide) ?_
  refine lv_icmp_le (tgt := 11) hx hb dX12_explore_6 (by decide) (fun _ => ?_) (fun c9 => absurd (by decide) c9)
  refine lv_aload_n hx hb dX12_explore_11 rfl (lv_at hl 0 rfl) ?_
  refine k_cVv (As := []) (rest := []) (wc := [(h0, .inr (12, f0)), (h1, .inl (cZ, 26, .inl g0))]) (wr := [(h2, .inl (cI, 32768, .inl g1)), (h3, .inl (cI, 3000, .inl g2)), (h4, .inl (cI, 48000, .inl g3))]) (w1 := (fun _ : Unit => [(h0, .inr (12, f0)), (h1, .inl (cZ, 26, .inl g0))])) ⟨hx, hb, hml, hown, hts⟩ hN hX hAE hK hP hD hS hA [0, 1] [2, 3, 4] (ci := 12) rfl rfl rfl rfl (by decide +kernel) (by decide +kernel) (by decide +kernel) (c_X12_findWork_0 l E D cI cJ cB cZ h0 f0 h1 g0 e1 e2 e3 e4 e5 e6 e7 e8 e9 e10 e11 e12 e13 e14 e15 e16 e17 e18 e19 e20 e21 e22 e23 e24 e25 e26) (cwV 0 hts g9_X12_explore_X12_findWork_951 rfl rfl rfl (by decide +kernel) ⟨Nat.le_of_ble_eq_true rfl, Nat.le_of_ble_eq_true rfl⟩) rfl hl.1 (Nat.le_of_ble_eq_true rfl) dX12_explore_12 ⟨Nat.le_of_ble_eq_true rfl, Nat.le_of_ble_eq_true rfl⟩ (fun _ H locs hP hD hS => ?_)
  have hP : va_P D vwCl [(h2, .inl (cI, 32768, .inl g1)), (h3, .inl (cI, 3000, .inl g2)), (h4, .inl (cI, 48000, .inl g3)), (h0, .inr (12, f0)), (h1, .inl (cZ, 26, .inl g0))] H := hP
  have hD : va_D A [(h2, .inl (cI, 32768, .inl g1)), (h3, .inl (cI, 3000, .inl g2)), (h4, .inl (cI, 48000, .inl g3)), (h0, .inr (12, f0)), (h1, .inl (cZ, 26, .inl g0))] := hD
  refine lv_aload_n hx hb dX12_explore_15 rfl (lv_at hl 0 rfl) ?_
  refine lv_iconst (v := 1) hx hb dX12_explore_16 (by decide) ?_
  refine lv_aload_n hx hb dX12_explore_17 rfl (lv_at hl 0 rfl) ?_
  refine k_get (D := D) (ci := 12) (v := .int 0) (N := 195) hx hb hts hin12 hown hK hP 3 rfl rfl (by decide) f9_12_32 (hts (.fieldLink RX12 815 "IntegerHouseModel" "variables" "I") (o9_X12_explore _ (List.mem_of_getElem? (i := 5) rfl))) e27 dX12_explore_18 ?_
  refine lv_ishl hx hb dX12_explore_21 ?_
  refine k_topi (y := 1) (by decide) ?_
  refine k_put (D := D) (ci := 12) (v := .int 1) (ty := .int) (N := 195) hx hb hts hin12 tyX12 tyX12_ok nmX12 hown hK hP hD hS 3 rfl rfl (by decide) f9_12_131 (hts (.fieldLink RX12 960 "IntegerHouseModel" "letters" "I") (o9_X12_explore _ (List.mem_of_getElem? (i := 6) rfl))) rfl pd_2 rfl rfl (k_len e28) dX12_explore_22 (fun H locs hP hD hS => ?_)
  have hP : va_P D vwCl [(h2, .inl (cI, 32768, .inl g1)), (h3, .inl (cI, 3000, .inl g2)), (h4, .inl (cI, 48000, .inl g3)), (h0, .inr (12, (f0.set 131 (.int 1)))), (h1, .inl (cZ, 26, .inl g0))] H := hP
  have hD : va_D A [(h2, .inl (cI, 32768, .inl g1)), (h3, .inl (cI, 3000, .inl g2)), (h4, .inl (cI, 48000, .inl g3)), (h0, .inr (12, (f0.set 131 (.int 1)))), (h1, .inl (cZ, 26, .inl g0))] := hD
  refine lv_iconst (v := 0) hx hb dX12_explore_25 (by decide) ?_
  refine lv_istore_n (lv' := [(1, .int 0), (0, .ref h0)]) hx hb dX12_explore_26 rfl hl (by decide) rfl (fun ls hl => ?_)
  refine k_loopW (P := fun i H locs ls => va_P D vwCl [(h2, .inl (cI, 32768, .inl (k_fill (-1) i g1))), (h3, .inl (cI, 3000, .inl g2)), (h4, .inl (cI, 48000, .inl g3)), (h0, .inr (12, (f0.set 131 (.int 1)))), (h1, .inl (cZ, 26, .inl g0))] H ∧ va_D A [(h2, .inl (cI, 32768, .inl (k_fill (-1) i g1))), (h3, .inl (cI, 3000, .inl g2)), (h4, .inl (cI, 48000, .inl g3)), (h0, .inr (12, (f0.set 131 (.int 1)))), (h1, .inl (cZ, 26, .inl g0))] ∧ va_S A s.heap H locs ∧ lv_has ls 5 [(1, .int (nI i)), (0, .ref h0)]) 32768 (fun i H locs ls hi hh kk => ?_) (fun H locs ls hh => ?_) (Nat.zero_le 32768) ⟨by rw [k_fill_0]; exact hP, by rw [k_fill_0]; exact hD, hS, hl⟩
  · obtain ⟨hP, hD, hS, hl⟩ := hh
    refine lv_iload_n hx hb dX12_explore_27 rfl (lv_at hl 0 rfl) ?_
    refine lv_ldcw (own := RX12) (index := 324) (v := 32768) hx hb hown (hts (.constant RX12 324 (32768)) (o9_X12_explore _ (List.mem_of_getElem? (i := 7) rfl))) dX12_explore_28 ?_
    refine lv_icmp_ge (tgt := 47) hx hb dX12_explore_31 (by decide) (fun c9 => absurd c9 (nI_ge hi (by decide))) (fun _ => ?_)
    refine lv_aload_n hx hb dX12_explore_34 rfl (lv_at hl 1 rfl) ?_
    refine k_get (D := D) (ci := 12) (v := .ref h2) (N := 195) hx hb hts hin12 hown hK hP 3 rfl rfl (by decide) f9_12_127 (hts (.fieldLink RX12 325 "IntegerHouseModel" "heads" "[I") (o9_X12_explore _ (List.mem_of_getElem? (i := 13) rfl))) (k_ne (by decide) e29) dX12_explore_35 ?_
    refine lv_iload_n hx hb dX12_explore_38 rfl (lv_at hl 0 rfl) ?_
    refine lv_iconst (v := (-1)) hx hb dX12_explore_39 (by decide) ?_
    refine va_iast hx hb hK hP hD hS 0 0 rfl rfl (vp_in_nI hi (by decide)) dX12_explore_40 (fun H locs hP hD hS => ?_)
    refine lv_iinc (v := nI (i + 1)) (lv' := [(1, .int (nI (i + 1))), (0, .ref h0)]) hx hb dX12_explore_41 hl (k := 0) rfl (nI_succ i).symm (by decide) rfl (fun ls hl => ?_)
    refine lv_goto (tgt := 27) hx hb dX12_explore_44 (by decide) ?_
    rw [nI_clamp (by omega), k_fill_1] at hP hD
    exact kk _ _ _ ⟨hP, hD, hS, lv_sub hl [0, 1] rfl⟩
  obtain ⟨hP, hD, hS, hl⟩ := hh
  have hP : va_P D vwCl [(h2, .inl (cI, 32768, .inl (k_fill (-1) 32768 g1))), (h3, .inl (cI, 3000, .inl g2)), (h4, .inl (cI, 48000, .inl g3)), (h0, .inr (12, (f0.set 131 (.int 1)))), (h1, .inl (cZ, 26, .inl g0))] H := hP
  have hD : va_D A [(h2, .inl (cI, 32768, .inl (k_fill (-1) 32768 g1))), (h3, .inl (cI, 3000, .inl g2)), (h4, .inl (cI, 48000, .inl g3)), (h0, .inr (12, (f0.set 131 (.int 1)))), (h1, .inl (cZ, 26, .inl g0))] := hD
  have hl : lv_has ls 5 [(1, .int 32768), (0, .ref h0)] := hl
  refine lv_iload_n hx hb dX12_explore_27 rfl (lv_at hl 0 rfl) ?_
  refine lv_ldcw (own := RX12) (index := 324) (v := 32768) hx hb hown (hts (.constant RX12 324 (32768)) (o9_X12_explore _ (List.mem_of_getElem? (i := 7) rfl))) dX12_explore_28 ?_
  refine lv_icmp_ge (tgt := 47) hx hb dX12_explore_31 (by decide) (fun _ => ?_) (fun c9 => absurd (by decide) c9)
  refine lv_aload_n hx hb dX12_explore_47 rfl (lv_at hl 1 rfl) ?_
  refine lv_iconst (v := 0) hx hb dX12_explore_48 (by decide) ?_
  refine k_put (D := D) (ci := 12) (v := .int 0) (ty := .int) (N := 195) hx hb hts hin12 tyX12 tyX12_ok nmX12 hown hK hP hD hS 3 rfl rfl (by decide) f9_12_129 (hts (.fieldLink RX12 957 "IntegerHouseModel" "places" "I") (o9_X12_explore _ (List.mem_of_getElem? (i := 8) rfl))) rfl pd_2 rfl rfl (k_len (k_ne (by decide) e30)) dX12_explore_49 (fun H locs hP hD hS => ?_)
  have hP : va_P D vwCl [(h2, .inl (cI, 32768, .inl (k_fill (-1) 32768 g1))), (h3, .inl (cI, 3000, .inl g2)), (h4, .inl (cI, 48000, .inl g3)), (h0, .inr (12, ((f0.set 131 (.int 1)).set 129 (.int 0)))), (h1, .inl (cZ, 26, .inl g0))] H := hP
  have hD : va_D A [(h2, .inl (cI, 32768, .inl (k_fill (-1) 32768 g1))), (h3, .inl (cI, 3000, .inl g2)), (h4, .inl (cI, 48000, .inl g3)), (h0, .inr (12, ((f0.set 131 (.int 1)).set 129 (.int 0)))), (h1, .inl (cZ, 26, .inl g0))] := hD
  refine lv_iconst (v := 0) hx hb dX12_explore_52 (by decide) ?_
  refine lv_istore_n (lv' := [(1, .int 0), (0, .ref h0)]) hx hb dX12_explore_53 rfl hl (by decide) rfl (fun ls hl => ?_)
  refine lv_iload_n hx hb dX12_explore_54 rfl (lv_at hl 0 rfl) ?_
  refine lv_aload_n hx hb dX12_explore_55 rfl (lv_at hl 1 rfl) ?_
  refine k_get (D := D) (ci := 12) (v := .int 0) (N := 195) hx hb hts hin12 hown hK hP 3 rfl rfl (by decide) f9_12_119 (hts (.fieldLink RX12 928 "IntegerHouseModel" "work" "I") (o9_X12_explore _ (List.mem_of_getElem? (i := 0) rfl))) (k_ne (by decide) (k_ne (by decide) e0)) dX12_explore_56 ?_
  refine lv_icmp_ge (tgt := 108) hx hb dX12_explore_59 (by decide) (fun _ => ?_) (fun c9 => absurd (by decide) c9)
  refine lv_aload_n hx hb dX12_explore_108 rfl (lv_at hl 1 rfl) ?_
  refine k_cVi (As := []) (rest := []) (wc := [(h0, .inr (12, ((f0.set 131 (.int 1)).set 129 (.int 0)))), (h2, .inl (cI, 32768, .inl (k_fill (-1) 32768 g1))), (h3, .inl (cI, 3000, .inl g2))]) (wr := [(h4, .inl (cI, 48000, .inl g3)), (h1, .inl (cZ, 26, .inl g0))]) (w1 := [(h0, .inr (12, (((f0.set 131 (.int 1)).set 129 (.int 0)).set 129 (.int 1)))), (h2, .inl (cI, 32768, .inl (upd (k_fill (-1) 32768 g1) 17 0))), (h3, .inl (cI, 3000, .inl (upd g2 0 (-1))))]) ⟨hx, hb, hml, hown, hts⟩ hN hX hAE hK hP hD hS hA [3, 0, 1] [2, 4] (ci := 12) rfl rfl rfl rfl (by decide +kernel) (by decide +kernel) (by decide +kernel) (c_X12_placeOf_0 l E D cI cJ cB cZ h0 (((f0.set 131 (.int 1)).set 129 (.int 0))) h2 ((k_fill (-1) 32768 g1)) h3 g2 (k_ne (by decide) (k_ne (by decide) e0)) (k_ne (by decide) (k_ne (by decide) e29)) (if_pos (by decide)) (k_set (k_ne (by decide) e30)) (k_ne (by decide) (k_ne (by decide) e31))) (cwV 0 hts g9_X12_explore_X12_placeOf_963 rfl rfl rfl (by decide +kernel) ⟨Nat.le_of_ble_eq_true rfl, Nat.le_of_ble_eq_true rfl⟩) rfl hl.1 (Nat.le_of_ble_eq_true rfl) dX12_explore_109 ⟨Nat.le_of_ble_eq_true rfl, Nat.le_of_ble_eq_true rfl⟩ (fun H locs hP hD hS => ?_)
  have hP : va_P D vwCl [(h4, .inl (cI, 48000, .inl g3)), (h1, .inl (cZ, 26, .inl g0)), (h0, .inr (12, (((f0.set 131 (.int 1)).set 129 (.int 0)).set 129 (.int 1)))), (h2, .inl (cI, 32768, .inl (upd (k_fill (-1) 32768 g1) 17 0))), (h3, .inl (cI, 3000, .inl (upd g2 0 (-1))))] H := hP
  have hD : va_D A [(h4, .inl (cI, 48000, .inl g3)), (h1, .inl (cZ, 26, .inl g0)), (h0, .inr (12, (((f0.set 131 (.int 1)).set 129 (.int 0)).set 129 (.int 1)))), (h2, .inl (cI, 32768, .inl (upd (k_fill (-1) 32768 g1) 17 0))), (h3, .inl (cI, 3000, .inl (upd g2 0 (-1))))] := hD
  refine lv_istore_n (lv' := [(1, .int 0), (0, .ref h0)]) hx hb dX12_explore_112 rfl hl (by decide) rfl (fun ls hl => ?_)
  refine lv_iconst (v := 0) hx hb dX12_explore_113 (by decide) ?_
  refine lv_istore_n (lv' := [(2, .int 0), (1, .int 0), (0, .ref h0)]) hx hb dX12_explore_114 rfl hl (by decide) rfl (fun ls hl => ?_)
  refine lv_iload_n hx hb dX12_explore_115 rfl (lv_at hl 0 rfl) ?_
  refine lv_aload_n hx hb dX12_explore_116 rfl (lv_at hl 2 rfl) ?_
  refine k_get (D := D) (ci := 12) (v := .int 1) (N := 195) hx hb hts hin12 hown hK hP 2 rfl rfl (by decide) f9_12_129 (hts (.fieldLink RX12 957 "IntegerHouseModel" "places" "I") (o9_X12_explore _ (List.mem_of_getElem? (i := 8) rfl))) (k_set (k_set (k_ne (by decide) e30))) dX12_explore_117 ?_
  refine lv_icmp_ge (tgt := 218) hx hb dX12_explore_120 (by decide) (fun c9 => absurd c9 (by decide)) (fun _ => ?_)
  refine lv_iconst (v := 0) hx hb dX12_explore_123 (by decide) ?_
  refine lv_istore_n (lv' := [(3, .int 0), (2, .int 0), (1, .int 0), (0, .ref h0)]) hx hb dX12_explore_124 rfl hl (by decide) rfl (fun ls hl => ?_)
  refine lv_iload_n hx hb dX12_explore_125 rfl (lv_at hl 0 rfl) ?_
  refine lv_aload_n hx hb dX12_explore_126 rfl (lv_at hl 3 rfl) ?_
  refine k_get (D := D) (ci := 12) (v := .int 1) (N := 195) hx hb hts hin12 hown hK hP 2 rfl rfl (by decide) f9_12_131 (hts (.fieldLink RX12 960 "IntegerHouseModel" "letters" "I") (o9_X12_explore _ (List.mem_of_getElem? (i := 6) rfl))) (k_ne (by decide) (k_ne (by decide) (k_set e28))) dX12_explore_127 ?_
  refine lv_icmp_ge (tgt := 212) hx hb dX12_explore_130 (by decide) (fun c9 => absurd c9 (by decide)) (fun _ => ?_)
  refine lv_iconst (v := 0) hx hb dX12_explore_133 (by decide) ?_
  refine lv_istore (lv' := [(4, .int 0), (3, .int 0), (2, .int 0), (1, .int 0), (0, .ref h0)]) hx hb dX12_explore_134 hl (by decide) rfl (fun ls hl => ?_)
  refine lv_iload hx hb dX12_explore_136 (lv_at hl 0 rfl) ?_
  refine lv_aload_n hx hb dX12_explore_138 rfl (lv_at hl 4 rfl) ?_
  refine k_get (D := D) (ci := 12) (v := .int 0) (N := 195) hx hb hts hin12 hown hK hP 2 rfl rfl (by decide) f9_12_119 (hts (.fieldLink RX12 928 "IntegerHouseModel" "work" "I") (o9_X12_explore _ (List.mem_of_getElem? (i := 0) rfl))) (k_ne (by decide) (k_ne (by decide) (k_ne (by decide) e0))) dX12_explore_139 ?_
  refine lv_icmp_ge (tgt := 177) hx hb dX12_explore_142 (by decide) (fun _ => ?_) (fun c9 => absurd (by decide) c9)
  refine lv_aload_n hx hb dX12_explore_177 rfl (lv_at hl 4 rfl) ?_
  refine k_cVi (As := []) (rest := []) (wc := [(h0, .inr (12, (((f0.set 131 (.int 1)).set 129 (.int 0)).set 129 (.int 1)))), (h2, .inl (cI, 32768, .inl (upd (k_fill (-1) 32768 g1) 17 0)))]) (wr := [(h4, .inl (cI, 48000, .inl g3)), (h1, .inl (cZ, 26, .inl g0)), (h3, .inl (cI, 3000, .inl (upd g2 0 (-1))))]) (w1 := [(h0, .inr (12, (((f0.set 131 (.int 1)).set 129 (.int 0)).set 129 (.int 1)))), (h2, .inl (cI, 32768, .inl (upd (k_fill (-1) 32768 g1) 17 0)))]) ⟨hx, hb, hml, hown, hts⟩ hN hX hAE hK hP hD hS hA [2, 3] [0, 1, 4] (ci := 12) rfl rfl rfl rfl (by decide +kernel) (by decide +kernel) (by decide +kernel) (c_X12_placeOf_1 l E D cI cJ cB cZ h0 ((((f0.set 131 (.int 1)).set 129 (.int 0)).set 129 (.int 1))) h2 ((upd (k_fill (-1) 32768 g1) 17 0)) (k_ne (by decide) (k_ne (by decide) (k_ne (by decide) e0))) (k_ne (by decide) (k_ne (by decide) (k_ne (by decide) e29))) rfl) (cwV 0 hts g9_X12_explore_X12_placeOf_963 rfl rfl rfl (by decide +kernel) ⟨Nat.le_of_ble_eq_true rfl, Nat.le_of_ble_eq_true rfl⟩) rfl hl.1 (Nat.le_of_ble_eq_true rfl) dX12_explore_178 ⟨Nat.le_of_ble_eq_true rfl, Nat.le_of_ble_eq_true rfl⟩ (fun H locs hP hD hS => ?_)
  have hP : va_P D vwCl [(h4, .inl (cI, 48000, .inl g3)), (h1, .inl (cZ, 26, .inl g0)), (h3, .inl (cI, 3000, .inl (upd g2 0 (-1)))), (h0, .inr (12, (((f0.set 131 (.int 1)).set 129 (.int 0)).set 129 (.int 1)))), (h2, .inl (cI, 32768, .inl (upd (k_fill (-1) 32768 g1) 17 0)))] H := hP
  have hD : va_D A [(h4, .inl (cI, 48000, .inl g3)), (h1, .inl (cZ, 26, .inl g0)), (h3, .inl (cI, 3000, .inl (upd g2 0 (-1)))), (h0, .inr (12, (((f0.set 131 (.int 1)).set 129 (.int 0)).set 129 (.int 1)))), (h2, .inl (cI, 32768, .inl (upd (k_fill (-1) 32768 g1) 17 0)))] := hD
  refine lv_istore (lv' := [(4, .int 0), (3, .int 0), (2, .int 0), (1, .int 0), (0, .ref h0)]) hx hb dX12_explore_181 hl (by decide) rfl (fun ls hl => ?_)
  refine lv_iload hx hb dX12_explore_183 (lv_at hl 0 rfl) ?_
  refine lv_sipush (v := 3000) hx hb dX12_explore_185 (by decide) ?_
  refine lv_icmp_ne (tgt := 193) hx hb dX12_explore_188 (by decide) (fun _ => ?_) (fun c9 => absurd c9 (by decide))
  refine lv_aload_n hx hb dX12_explore_193 rfl (lv_at hl 4 rfl) ?_
  refine k_get (D := D) (ci := 12) (v := .ref h4) (N := 195) hx hb hts hin12 hown hK hP 3 rfl rfl (by decide) f9_12_126 (hts (.fieldLink RX12 321 "IntegerHouseModel" "behind" "[I") (o9_X12_explore _ (List.mem_of_getElem? (i := 12) rfl))) (k_ne (by decide) (k_ne (by decide) (k_ne (by decide) e32))) dX12_explore_194 ?_
  refine lv_bipush (v := 16) hx hb dX12_explore_197 (by decide) ?_
  refine lv_iload_n hx hb dX12_explore_199 rfl (lv_at hl 2 rfl) ?_
  refine lv_imul hx hb dX12_explore_200 ?_
  refine k_topi (y := 0) (by decide) ?_
  refine lv_iload_n hx hb dX12_explore_201 rfl (lv_at hl 1 rfl) ?_
  refine lv_iadd hx hb dX12_explore_202 ?_
  refine k_topi (y := 0) (by decide) ?_
  refine lv_iload hx hb dX12_explore_203 (lv_at hl 0 rfl) ?_
  refine va_iast hx hb hK hP hD hS 0 0 rfl rfl (k_in (by decide)) dX12_explore_205 (fun H locs hP hD hS => ?_)
  have hP : va_P D vwCl [(h4, .inl (cI, 48000, .inl (upd g3 0 0))), (h1, .inl (cZ, 26, .inl g0)), (h3, .inl (cI, 3000, .inl (upd g2 0 (-1)))), (h0, .inr (12, (((f0.set 131 (.int 1)).set 129 (.int 0)).set 129 (.int 1)))), (h2, .inl (cI, 32768, .inl (upd (k_fill (-1) 32768 g1) 17 0)))] H := hP
  have hD : va_D A [(h4, .inl (cI, 48000, .inl (upd g3 0 0))), (h1, .inl (cZ, 26, .inl g0)), (h3, .inl (cI, 3000, .inl (upd g2 0 (-1)))), (h0, .inr (12, (((f0.set 131 (.int 1)).set 129 (.int 0)).set 129 (.int 1)))), (h2, .inl (cI, 32768, .inl (upd (k_fill (-1) 32768 g1) 17 0)))] := hD
  refine lv_iinc (v := 1) (lv' := [(3, .int 1), (4, .int 0), (2, .int 0), (1, .int 0), (0, .ref h0)]) hx hb dX12_explore_206 hl (k := 1) rfl (by decide) (by decide) rfl (fun ls hl => ?_)
  refine lv_goto (tgt := 125) hx hb dX12_explore_209 (by decide) ?_
  refine lv_iload_n hx hb dX12_explore_125 rfl (lv_at hl 0 rfl) ?_
  refine lv_aload_n hx hb dX12_explore_126 rfl (lv_at hl 4 rfl) ?_
  refine k_get (D := D) (ci := 12) (v := .int 1) (N := 195) hx hb hts hin12 hown hK hP 3 rfl rfl (by decide) f9_12_131 (hts (.fieldLink RX12 960 "IntegerHouseModel" "letters" "I") (o9_X12_explore _ (List.mem_of_getElem? (i := 6) rfl))) (k_ne (by decide) (k_ne (by decide) (k_set e28))) dX12_explore_127 ?_
  refine lv_icmp_ge (tgt := 212) hx hb dX12_explore_130 (by decide) (fun _ => ?_) (fun c9 => absurd (by decide) c9)
  refine lv_iinc (v := 1) (lv' := [(2, .int 1), (3, .int 1), (4, .int 0), (1, .int 0), (0, .ref h0)]) hx hb dX12_explore_212 hl (k := 2) rfl (by decide) (by decide) rfl (fun ls hl => ?_)
  refine lv_goto (tgt := 115) hx hb dX12_explore_215 (by decide) ?_
  refine lv_iload_n hx hb dX12_explore_115 rfl (lv_at hl 0 rfl) ?_
  refine lv_aload_n hx hb dX12_explore_116 rfl (lv_at hl 4 rfl) ?_
  refine k_get (D := D) (ci := 12) (v := .int 1) (N := 195) hx hb hts hin12 hown hK hP 3 rfl rfl (by decide) f9_12_129 (hts (.fieldLink RX12 957 "IntegerHouseModel" "places" "I") (o9_X12_explore _ (List.mem_of_getElem? (i := 8) rfl))) (k_set (k_set (k_ne (by decide) e30))) dX12_explore_117 ?_
  refine lv_icmp_ge (tgt := 218) hx hb dX12_explore_120 (by decide) (fun _ => ?_) (fun c9 => absurd (by decide) c9)
  refine lv_iconst (v := 1) hx hb dX12_explore_218 (by decide) ?_
  have hP := hP.sub (ws' := [(h0, .inr (12, (((f0.set 131 (.int 1)).set 129 (.int 0)).set 129 (.int 1)))), (h1, .inl (cZ, 26, .inl g0)), (h2, .inl (cI, 32768, .inl (upd (k_fill (-1) 32768 g1) 17 0))), (h3, .inl (cI, 3000, .inl (upd g2 0 (-1)))), (h4, .inl (cI, 48000, .inl (upd g3 0 0)))]) [3, 1, 4, 2, 0] rfl
  have hD := hD.sub (ws' := [(h0, .inr (12, (((f0.set 131 (.int 1)).set 129 (.int 0)).set 129 (.int 1)))), (h1, .inl (cZ, 26, .inl g0)), (h2, .inl (cI, 32768, .inl (upd (k_fill (-1) 32768 g1) 17 0))), (h3, .inl (cI, 3000, .inl (upd g2 0 (-1)))), (h4, .inl (cI, 48000, .inl (upd g3 0 0)))]) [3, 1, 4, 2, 0] (by decide +kernel) rfl
  exact W.zret (v := 1) hx hb hr rfl (fun t ht hW => ⟨⟨1, (), rfl, rfl, kB_mk ht hW hP hK hD⟩, hS.F ht⟩) hS.2.2 dX12_explore_219
set_option maxHeartbeats 400000000 in
set_option maxRecDepth 100000 in
theorem c_X12_reckonSlots_0 (l : Launch) (E : kE) (D : va_G) (cI cJ cB cZ : ClassId) (h0 : Nat) (f0 : List Value) (h1 : Nat) (g0 : Nat → Int32) (e0 : f0[121]? = some (.ref h1)) (e1 : g0 0 = 0) (e2 : g0 1 = 0) (e3 : g0 2 = 0) (e4 : g0 3 = 0) (e5 : g0 4 = 0) (e6 : g0 5 = 0) (e7 : g0 6 = 0) (e8 : g0 7 = 0) (e9 : g0 8 = 0) (e10 : g0 9 = 0) (e11 : g0 10 = 0) (e12 : g0 11 = 0) (e13 : g0 12 = 0) (e14 : g0 13 = 0) (e15 : g0 14 = 0) (e16 : g0 15 = 0) (e17 : g0 16 = 0) (e18 : g0 17 = 0) (e19 : g0 18 = 0) (e20 : g0 19 = 0) (e21 : g0 20 = 0) (e22 : g0 21 = 0) (e23 : g0 22 = 0) (e24 : g0 23 = 0) (e25 : g0 24 = 0) : kV l E D (kT cI cJ cB cZ) yX12_reckonSlots vW_X12_reckonSlots ({ frames := 0, cells := 0, slots := 0, locals := 0 }) [.ref h0] [(h0, .inr (12, f0)), (h1, .inl (cZ, 26, .inl g0))] (fun _ : Unit => [(h0, .inr (12, f0)), (h1, .inl (cZ, 26, .inl g0))]) 0 0 := by
  intro sz
  refine Met.ofW (cc := cX12_reckonSlots) (maxL := 3) (ret := none) (by decide) rfl ?_
  intro p e s m args below meth c s₁ B hml hv
  obtain ⟨rfl, hsz, hP, hK, hD0, hN, hX⟩ := hv
  have hx := B.exec
  have hb := B.bytes
  have hr := B.returns
  have hts := atoms_spec (ws := vW_X12_reckonSlots) B.pre
  have hown : s.vm.findClass RX12 = some m.cls := findClass_of_methodNamed B.named
  have hlocks := B.notSynchronized
  have hin12 : ∀ w ∈ wsX120, w ∈ vW_X12_reckonSlots := u9_X12_reckonSlots_wsX120
  subst hsz
  have hD := hD0.self (sz := s.heap.size)
  have hAE := k_AE hD0 hX
  generalize hAe : va_A [(h0, .inr (12, f0)), (h1, .inl (cZ, 26, .inl g0))] s.heap.size = A at hD hAE ⊢
  have hA : ∀ q : Nat, s.heap.size ≤ q → A q := fun q h => by rw [← hAe]; exact Or.inr h
  have hS : va_S A s.heap s.heap [] := va_S.rf
  have hP : va_P D vwCl [(h0, .inr (12, f0)), (h1, .inl (cZ, 26, .inl g0))] s.heap := hP
  have hl := lv_entry ([.ref h0] : List Value) (n := 3) (Nat.le_of_ble_eq_true rfl)
  rw [lg_entry_eq]
  generalize (lg_sl ([.ref h0]) ++ List.replicate (3 - (lg_sl ([.ref h0])).length) Slot.unset).toArray = ls at hl ⊢
  have hl : lv_has ls 3 [(0, .ref h0)] := hl
  refine lv_iconst (v := 0) hx hb dX12_reckonSlots_0 (by decide) ?_
  refine lv_istore_n (lv' := [(1, .int 0), (0, .ref h0)]) hx hb dX12_reckonSlots_1 rfl hl (by decide) rfl (fun ls hl => ?_)
  refine lv_iload_n hx hb dX12_reckonSlots_2 rfl (lv_at hl 0 rfl) ?_
  refine lv_bipush (v := 24) hx hb dX12_reckonSlots_3 (by decide) ?_
  refine lv_icmp_gt (tgt := 80) hx hb dX12_reckonSlots_5 (by decide) (fun c9 => absurd c9 (by decide)) (fun _ => ?_)
  refine lv_aload_n hx hb dX12_reckonSlots_8 rfl (lv_at hl 1 rfl) ?_
  refine k_get (D := D) (ci := 12) (v := .ref h1) (N := 195) hx hb hts hin12 hown hK hP 0 rfl rfl (by decide) f9_12_121 (hts (.fieldLink RX12 304 "IntegerHouseModel" "needed" "[Z") (o9_X12_reckonSlots _ (List.mem_of_getElem? (i := 0) rfl))) e0 dX12_reckonSlots_9 ?_
  refine lv_iload_n hx hb dX12_reckonSlots_12 rfl (lv_at hl 0 rfl) ?_
  refine va_zald hx hb hK hP 1 3 rfl rfl (k_in (by decide)) dX12_reckonSlots_13 ?_
  refine k_topi (y := 0) e1 ?_
  refine lv_if_eq (tgt := 74) hx hb dX12_reckonSlots_14 (by decide) (fun _ => ?_) (fun c9 => absurd (by decide) c9)
  refine lv_iinc (v := 1) (lv' := [(1, .int 1), (0, .ref h0)]) hx hb dX12_reckonSlots_74 hl (k := 0) rfl (by decide) (by decide) rfl (fun ls hl => ?_)
  refine lv_goto (tgt := 2) hx hb dX12_reckonSlots_77 (by decide) ?_
  refine lv_iload_n hx hb dX12_reckonSlots_2 rfl (lv_at hl 0 rfl) ?_
  refine lv_bipush (v := 24) hx hb dX12_reckonSlots_3 (by decide) ?_
  refine lv_icmp_gt (tgt := 80) hx hb dX12_reckonSlots_5 (by decide) (fun c9 => absurd c9 (by decide)) (fun _ => ?_)
  refine lv_aload_n hx hb dX12_reckonSlots_8 rfl (lv_at hl 1 rfl) ?_
  refine k_get (D := D) (ci := 12) (v := .ref h1) (N := 195) hx hb hts hin12 hown hK hP 0 rfl rfl (by decide) f9_12_121 (hts (.fieldLink RX12 304 "IntegerHouseModel" "needed" "[Z") (o9_X12_reckonSlots _ (List.mem_of_getElem? (i := 0) rfl))) e0 dX12_reckonSlots_9 ?_
  refine lv_iload_n hx hb dX12_reckonSlots_12 rfl (lv_at hl 0 rfl) ?_
  refine va_zald hx hb hK hP 1 3 rfl rfl (k_in (by decide)) dX12_reckonSlots_13 ?_
  refine k_topi (y := 0) e2 ?_
  refine lv_if_eq (tgt := 74) hx hb dX12_reckonSlots_14 (by decide) (fun _ => ?_) (fun c9 => absurd (by decide) c9)
  refine lv_iinc (v := 2) (lv' := [(1, .int 2), (0, .ref h0)]) hx hb dX12_reckonSlots_74 hl (k := 0) rfl (by decide) (by decide) rfl (fun ls hl => ?_)
  refine lv_goto (tgt := 2) hx hb dX12_reckonSlots_77 (by decide) ?_
  refine lv_iload_n hx hb dX12_reckonSlots_2 rfl (lv_at hl 0 rfl) ?_
  refine lv_bipush (v := 24) hx hb dX12_reckonSlots_3 (by decide) ?_
  refine lv_icmp_gt (tgt := 80) hx hb dX12_reckonSlots_5 (by decide) (fun c9 => absurd c9 (by decide)) (fun _ => ?_)
  refine lv_aload_n hx hb dX12_reckonSlots_8 rfl (lv_at hl 1 rfl) ?_
  refine k_get (D := D) (ci := 12) (v := .ref h1) (N := 195) hx hb hts hin12 hown hK hP 0 rfl rfl (by decide) f9_12_121 (hts (.fieldLink RX12 304 "IntegerHouseModel" "needed" "[Z") (o9_X12_reckonSlots _ (List.mem_of_getElem? (i := 0) rfl))) e0 dX12_reckonSlots_9 ?_
  refine lv_iload_n hx hb dX12_reckonSlots_12 rfl (lv_at hl 0 rfl) ?_
  refine va_zald hx hb hK hP 1 3 rfl rfl (k_in (by decide)) dX12_reckonSlots_13 ?_
  refine k_topi (y := 0) e3 ?_
  refine lv_if_eq (tgt := 74) hx hb dX12_reckonSlots_14 (by decide) (fun _ => ?_) (fun c9 => absurd (by decide) c9)
  refine lv_iinc (v := 3) (lv' := [(1, .int 3), (0, .ref h0)]) hx hb dX12_reckonSlots_74 hl (k := 0) rfl (by decide) (by decide) rfl (fun ls hl => ?_)
  refine lv_goto (tgt := 2) hx hb dX12_reckonSlots_77 (by decide) ?_
  refine lv_iload_n hx hb dX12_reckonSlots_2 rfl (lv_at hl 0 rfl) ?_
  refine lv_bipush (v := 24) hx hb dX12_reckonSlots_3 (by decide) ?_
  refine lv_icmp_gt (tgt := 80) hx hb dX12_reckonSlots_5 (by decide) (fun c9 => absurd c9 (by decide)) (fun _ => ?_)
  refine lv_aload_n hx hb dX12_reckonSlots_8 rfl (lv_at hl 1 rfl) ?_
  refine k_get (D := D) (ci := 12) (v := .ref h1) (N := 195) hx hb hts hin12 hown hK hP 0 rfl rfl (by decide) f9_12_121 (hts (.fieldLink RX12 304 "IntegerHouseModel" "needed" "[Z") (o9_X12_reckonSlots _ (List.mem_of_getElem? (i := 0) rfl))) e0 dX12_reckonSlots_9 ?_
  refine lv_iload_n hx hb dX12_reckonSlots_12 rfl (lv_at hl 0 rfl) ?_
  refine va_zald hx hb hK hP 1 3 rfl rfl (k_in (by decide)) dX12_reckonSlots_13 ?_
  refine k_topi (y := 0) e4 ?_
  refine lv_if_eq (tgt := 74) hx hb dX12_reckonSlots_14 (by decide) (fun _ => ?_) (fun c9 => absurd (by decide) c9)
  refine lv_iinc (v := 4) (lv' := [(1, .int 4), (0, .ref h0)]) hx hb dX12_reckonSlots_74 hl (k := 0) rfl (by decide) (by decide) rfl (fun ls hl => ?_)
  refine lv_goto (tgt := 2) hx hb dX12_reckonSlots_77 (by decide) ?_
  refine lv_iload_n hx hb dX12_reckonSlots_2 rfl (lv_at hl 0 rfl) ?_
  refine lv_bipush (v := 24) hx hb dX12_reckonSlots_3 (by decide) ?_
  refine lv_icmp_gt (tgt := 80) hx hb dX12_reckonSlots_5 (by decide) (fun c9 => absurd c9 (by decide)) (fun _ => ?_)
  refine lv_aload_n hx hb dX12_reckonSlots_8 rfl (lv_at hl 1 rfl) ?_
  refine k_get (D := D) (ci := 12) (v := .ref h1) (N := 195) hx hb hts hin12 hown hK hP 0 rfl rfl (by decide) f9_12_121 (hts (.fieldLink RX12 304 "IntegerHouseModel" "needed" "[Z") (o9_X12_reckonSlots _ (List.mem_of_getElem? (i := 0) rfl))) e0 dX12_reckonSlots_9 ?_
  refine lv_iload_n hx hb dX12_reckonSlots_12 rfl (lv_at hl 0 rfl) ?_
  refine va_zald hx hb hK hP 1 3 rfl rfl (k_in (by decide)) dX12_reckonSlots_13 ?_
  refine k_topi (y := 0) e5 ?_
  refine lv_if_eq (tgt := 74) hx hb dX12_reckonSlots_14 (by decide) (fun _ => ?_) (fun c9 => absurd (by decide) c9)
  refine lv_iinc (v := 5) (lv' := [(1, .int 5), (0, .ref h0)]) hx hb dX12_reckonSlots_74 hl (k := 0) rfl (by decide) (by decide) rfl (fun ls hl => ?_)
  refine lv_goto (tgt := 2) hx hb dX12_reckonSlots_77 (by decide) ?_
  refine lv_iload_n hx hb dX12_reckonSlots_2 rfl (lv_at hl 0 rfl) ?_
  refine lv_bipush (v := 24) hx hb dX12_reckonSlots_3 (by decide) ?_
  refine lv_icmp_gt (tgt := 80) hx hb dX12_reckonSlots_5 (by decide) (fun c9 => absurd c9 (by decide)) (fun _ => ?_)
  refine lv_aload_n hx hb dX12_reckonSlots_8 rfl (lv_at hl 1 rfl) ?_
  refine k_get (D := D) (ci := 12) (v := .ref h1) (N := 195) hx hb hts hin12 hown hK hP 0 rfl rfl (by decide) f9_12_121 (hts (.fieldLink RX12 304 "IntegerHouseModel" "needed" "[Z") (o9_X12_reckonSlots _ (List.mem_of_getElem? (i := 0) rfl))) e0 dX12_reckonSlots_9 ?_
  refine lv_iload_n hx hb dX12_reckonSlots_12 rfl (lv_at hl 0 rfl) ?_
  refine va_zald hx hb hK hP 1 3 rfl rfl (k_in (by decide)) dX12_reckonSlots_13 ?_
  refine k_topi (y := 0) e6 ?_
  refine lv_if_eq (tgt := 74) hx hb dX12_reckonSlots_14 (by decide) (fun _ => ?_) (fun c9 => absurd (by decide) c9)
  refine lv_iinc (v := 6) (lv' := [(1, .int 6), (0, .ref h0)]) hx hb dX12_reckonSlots_74 hl (k := 0) rfl (by decide) (by decide) rfl (fun ls hl => ?_)
  refine lv_goto (tgt := 2) hx hb dX12_reckonSlots_77 (by decide) ?_
  refine lv_iload_n hx hb dX12_reckonSlots_2 rfl (lv_at hl 0 rfl) ?_
  refine lv_bipush (v := 24) hx hb dX12_reckonSlots_3 (by decide) ?_
  refine lv_icmp_gt (tgt := 80) hx hb dX12_reckonSlots_5 (by decide) (fun c9 => absurd c9 (by decide)) (fun _ => ?_)
  refine lv_aload_n hx hb dX12_reckonSlots_8 rfl (lv_at hl 1 rfl) ?_
  refine k_get (D := D) (ci := 12) (v := .ref h1) (N := 195) hx hb hts hin12 hown hK hP 0 rfl rfl (by decide) f9_12_121 (hts (.fieldLink RX12 304 "IntegerHouseModel" "needed" "[Z") (o9_X12_reckonSlots _ (List.mem_of_getElem? (i := 0) rfl))) e0 dX12_reckonSlots_9 ?_
  refine lv_iload_n hx hb dX12_reckonSlots_12 rfl (lv_at hl 0 rfl) ?_
  refine va_zald hx hb hK hP 1 3 rfl rfl (k_in (by decide)) dX12_reckonSlots_13 ?_
  refine k_topi (y := 0) e7 ?_
  refine lv_if_eq (tgt := 74) hx hb dX12_reckonSlots_14 (by decide) (fun _ => ?_) (fun c9 => absurd (by decide) c9)
  refine lv_iinc (v := 7) (lv' := [(1, .int 7), (0, .ref h0)]) hx hb dX12_reckonSlots_74 hl (k := 0) rfl (by decide) (by decide) rfl (fun ls hl => ?_)
  refine lv_goto (tgt := 2) hx hb dX12_reckonSlots_77 (by decide) ?_
  refine lv_iload_n hx hb dX12_reckonSlots_2 rfl (lv_at hl 0 rfl) ?_
  refine lv_bipush (v := 24) hx hb dX12_reckonSlots_3 (by decide) ?_
  refine lv_icmp_gt (tgt := 80) hx hb dX12_reckonSlots_5 (by decide) (fun c9 => absurd c9 (by decide)) (fun _ => ?_)
  refine lv_aload_n hx hb dX12_reckonSlots_8 rfl (lv_at hl 1 rfl) ?_
  refine k_get (D := D) (ci := 12) (v := .ref h1) (N := 195) hx hb hts hin12 hown hK hP 0 rfl rfl (by decide) f9_12_121 (hts (.fieldLink RX12 304 "IntegerHouseModel" "needed" "[Z") (o9_X12_reckonSlots _ (List.mem_of_getElem? (i := 0) rfl))) e0 dX12_reckonSlots_9 ?_
  refine lv_iload_n hx hb dX12_reckonSlots_12 rfl (lv_at hl 0 rfl) ?_
  refine va_zald hx hb hK hP 1 3 rfl rfl (k_in (by decide)) dX12_reckonSlots_13 ?_
  refine k_topi (y := 0) e8 ?_
  refine lv_if_eq (tgt := 74) hx hb dX12_reckonSlots_14 (by decide) (fun _ => ?_) (fun c9 => absurd (by decide) c9)
  refine lv_iinc (v := 8) (lv' := [(1, .int 8), (0, .ref h0)]) hx hb dX12_reckonSlots_74 hl (k := 0) rfl (by decide) (by decide) rfl (fun ls hl => ?_)
  refine lv_goto (tgt := 2) hx hb dX12_reckonSlots_77 (by decide) ?_
  refine lv_iload_n hx hb dX12_reckonSlots_2 rfl (lv_at hl 0 rfl) ?_
  refine lv_bipush (v := 24) hx hb dX12_reckonSlots_3 (by decide) ?_
  refine lv_icmp_gt (tgt := 80) hx hb dX12_reckonSlots_5 (by decide) (fun c9 => absurd c9 (by decide)) (fun _ => ?_)
  refine lv_aload_n hx hb dX12_reckonSlots_8 rfl (lv_at hl 1 rfl) ?_
  refine k_get (D := D) (ci := 12) (v := .ref h1) (N := 195) hx hb hts hin12 hown hK hP 0 rfl rfl (by decide) f9_12_121 (hts (.fieldLink RX12 304 "IntegerHouseModel" "needed" "[Z") (o9_X12_reckonSlots _ (List.mem_of_getElem? (i := 0) rfl))) e0 dX12_reckonSlots_9 ?_
  refine lv_iload_n hx hb dX12_reckonSlots_12 rfl (lv_at hl 0 rfl) ?_
  refine va_zald hx hb hK hP 1 3 rfl rfl (k_in (by decide)) dX12_reckonSlots_13 ?_
  refine k_topi (y := 0) e9 ?_
  refine lv_if_eq (tgt := 74) hx hb dX12_reckonSlots_14 (by decide) (fun _ => ?_) (fun c9 => absurd (by decide) c9)
  refine lv_iinc (v := 9) (lv' := [(1, .int 9), (0, .ref h0)]) hx hb dX12_reckonSlots_74 hl (k := 0) rfl (by decide) (by decide) rfl (fun ls hl => ?_)
  refine lv_goto (tgt := 2) hx hb dX12_reckonSlots_77 (by decide) ?_
  refine lv_iload_n hx hb dX12_reckonSlots_2 rfl (lv_at hl 0 rfl) ?_
  refine lv_bipush (v := 24) hx hb dX12_reckonSlots_3 (by decide) ?_
  refine lv_icmp_gt (tgt := 80) hx hb dX12_reckonSlots_5 (by decide) (fun c9 => absurd c9 (by decide)) (fun _ => ?_)
  refine lv_aload_n hx hb dX12_reckonSlots_8 rfl (lv_at hl 1 rfl) ?_
  refine k_get (D := D) (ci := 12) (v := .ref h1) (N := 195) hx hb hts hin12 hown hK hP 0 rfl rfl (by decide) f9_12_121 (hts (.fieldLink RX12 304 "IntegerHouseModel" "needed" "[Z") (o9_X12_reckonSlots _ (List.mem_of_getElem? (i := 0) rfl))) e0 dX12_reckonSlots_9 ?_
  refine lv_iload_n hx hb dX12_reckonSlots_12 rfl (lv_at hl 0 rfl) ?_
  refine va_zald hx hb hK hP 1 3 rfl rfl (k_in (by decide)) dX12_reckonSlots_13 ?_
  refine k_topi (y := 0) e10 ?_
  refine lv_if_eq (tgt := 74) hx hb dX12_reckonSlots_14 (by decide) (fun _ => ?_) (fun c9 => absurd (by decide) c9)
  refine lv_iinc (v := 10) (lv' := [(1, .int 10), (0, .ref h0)]) hx hb dX12_reckonSlots_74 hl (k := 0) rfl (by decide) (by decide) rfl (fun ls hl => ?_)
  refine lv_goto (tgt := 2) hx hb dX12_reckonSlots_77 (by decide) ?_
  refine lv_iload_n hx hb dX12_reckonSlots_2 rfl (lv_at hl 0 rfl) ?_
  refine lv_bipush (v := 24) hx hb dX12_reckonSlots_3 (by decide) ?_
  refine lv_icmp_gt (tgt := 80) hx hb dX12_reckonSlots_5 (by decide) (fun c9 => absurd c9 (by decide)) (fun _ => ?_)
  refine lv_aload_n hx hb dX12_reckonSlots_8 rfl (lv_at hl 1 rfl) ?_
  refine k_get (D := D) (ci := 12) (v := .ref h1) (N := 195) hx hb hts hin12 hown hK hP 0 rfl rfl (by decide) f9_12_121 (hts (.fieldLink RX12 304 "IntegerHouseModel" "needed" "[Z") (o9_X12_reckonSlots _ (List.mem_of_getElem? (i := 0) rfl))) e0 dX12_reckonSlots_9 ?_
  refine lv_iload_n hx hb dX12_reckonSlots_12 rfl (lv_at hl 0 rfl) ?_
  refine va_zald hx hb hK hP 1 3 rfl rfl (k_in (by decide)) dX12_reckonSlots_13 ?_
  refine k_topi (y := 0) e11 ?_
  refine lv_if_eq (tgt := 74) hx hb dX12_reckonSlots_14 (by decide) (fun _ => ?_) (fun c9 => absurd (by decide) c9)
  refine lv_iinc (v := 11) (lv' := [(1, .int 11), (0, .ref h0)]) hx hb dX12_reckonSlots_74 hl (k := 0) rfl (by decide) (by decide) rfl (fun ls hl => ?_)
  refine lv_goto (tgt := 2) hx hb dX12_reckonSlots_77 (by decide) ?_
  refine lv_iload_n hx hb dX12_reckonSlots_2 rfl (lv_at hl 0 rfl) ?_
  refine lv_bipush (v := 24) hx hb dX12_reckonSlots_3 (by decide) ?_
  refine lv_icmp_gt (tgt := 80) hx hb dX12_reckonSlots_5 (by decide) (fun c9 => absurd c9 (by decide)) (fun _ => ?_)
  refine lv_aload_n hx hb dX12_reckonSlots_8 rfl (lv_at hl 1 rfl) ?_
  refine k_get (D := D) (ci := 12) (v := .ref h1) (N := 195) hx hb hts hin12 hown hK hP 0 rfl rfl (by decide) f9_12_121 (hts (.fieldLink RX12 304 "IntegerHouseModel" "needed" "[Z") (o9_X12_reckonSlots _ (List.mem_of_getElem? (i := 0) rfl))) e0 dX12_reckonSlots_9 ?_
  refine lv_iload_n hx hb dX12_reckonSlots_12 rfl (lv_at hl 0 rfl) ?_
  refine va_zald hx hb hK hP 1 3 rfl rfl (k_in (by decide)) dX12_reckonSlots_13 ?_
  refine k_topi (y := 0) e12 ?_
  refine lv_if_eq (tgt := 74) hx hb dX12_reckonSlots_14 (by decide) (fun _ => ?_) (fun c9 => absurd (by decide) c9)
  refine lv_iinc (v := 12) (lv' := [(1, .int 12), (0, .ref h0)]) hx hb dX12_reckonSlots_74 hl (k := 0) rfl (by decide) (by decide) rfl (fun ls hl => ?_)
  refine lv_goto (tgt := 2) hx hb dX12_reckonSlots_77 (by decide) ?_
  refine lv_iload_n hx hb dX12_reckonSlots_2 rfl (lv_at hl 0 rfl) ?_
  refine lv_bipush (v := 24) hx hb dX12_reckonSlots_3 (by decide) ?_
  refine lv_icmp_gt (tgt := 80) hx hb dX12_reckonSlots_5 (by decide) (fun c9 => absurd c9 (by decide)) (fun _ => ?_)
  refine lv_aload_n hx hb dX12_reckonSlots_8 rfl (lv_at hl 1 rfl) ?_
  refine k_get (D := D) (ci := 12) (v := .ref h1) (N := 195) hx hb hts hin12 hown hK hP 0 rfl rfl (by decide) f9_12_121 (hts (.fieldLink RX12 304 "IntegerHouseModel" "needed" "[Z") (o9_X12_reckonSlots _ (List.mem_of_getElem? (i := 0) rfl))) e0 dX12_reckonSlots_9 ?_
  refine lv_iload_n hx hb dX12_reckonSlots_12 rfl (lv_at hl 0 rfl) ?_
  refine va_zald hx hb hK hP 1 3 rfl rfl (k_in (by decide)) dX12_reckonSlots_13 ?_
  refine k_topi (y := 0) e13 ?_
  refine lv_if_eq (tgt := 74) hx hb dX12_reckonSlots_14 (by decide) (fun _ => ?_) (fun c9 => absurd (by decide) c9)
  refine lv_iinc (v := 13) (lv' := [(1, .int 13), (0, .ref h0)]) hx hb dX12_reckonSlots_74 hl (k := 0) rfl (by decide) (by decide) rfl (fun ls hl => ?_)
  refine lv_goto (tgt := 2) hx hb dX12_reckonSlots_77 (by decide) ?_
  refine lv_iload_n hx hb dX12_reckonSlots_2 rfl (lv_at hl 0 rfl) ?_
  refine lv_bipush (v := 24) hx hb dX12_reckonSlots_3 (by decide) ?_
  refine lv_icmp_gt (tgt := 80) hx hb dX12_reckonSlots_5 (by decide) (fun c9 => absurd c9 (by decide)) (fun _ => ?_)
  refine lv_aload_n hx hb dX12_reckonSlots_8 rfl (lv_at hl 1 rfl) ?_
  refine k_get (D := D) (ci := 12) (v := .ref h1) (N := 195) hx hb hts hin12 hown hK hP 0 rfl rfl (by decide) f9_12_121 (hts (.fieldLink RX12 304 "IntegerHouseModel" "needed" "[Z") (o9_X12_reckonSlots _ (List.mem_of_getElem? (i := 0) rfl))) e0 dX12_reckonSlots_9 ?_
  refine lv_iload_n hx hb dX12_reckonSlots_12 rfl (lv_at hl 0 rfl) ?_
  refine va_zald hx hb hK hP 1 3 rfl rfl (k_in (by decide)) dX12_reckonSlots_13 ?_
  refine k_topi (y := 0) e14 ?_
  refine lv_if_eq (tgt := 74) hx hb dX12_reckonSlots_14 (by decide) (fun _ => ?_) (fun c9 => absurd (by decide) c9)
  refine lv_iinc (v := 14) (lv' := [(1, .int 14), (0, .ref h0)]) hx hb dX12_reckonSlots_74 hl (k := 0) rfl (by decide) (by decide) rfl (fun ls hl => ?_)
  refine lv_goto (tgt := 2) hx hb dX12_reckonSlots_77 (by decide) ?_
  refine lv_iload_n hx hb dX12_reckonSlots_2 rfl (lv_at hl 0 rfl) ?_
  refine lv_bipush (v := 24) hx hb dX12_reckonSlots_3 (by decide) ?_
  refine lv_icmp_gt (tgt := 80) hx hb dX12_reckonSlots_5 (by decide) (fun c9 => absurd c9 (by decide)) (fun _ => ?_)
  refine lv_aload_n hx hb dX12_reckonSlots_8 rfl (lv_at hl 1 rfl) ?_
  refine k_get (D := D) (ci := 12) (v := .ref h1) (N := 195) hx hb hts hin12 hown hK hP 0 rfl rfl (by decide) f9_12_121 (hts (.fieldLink RX12 304 "IntegerHouseModel" "needed" "[Z") (o9_X12_reckonSlots _ (List.mem_of_getElem? (i := 0) rfl))) e0 dX12_reckonSlots_9 ?_
  refine lv_iload_n hx hb dX12_reckonSlots_12 rfl (lv_at hl 0 rfl) ?_
  refine va_zald hx hb hK hP 1 3 rfl rfl (k_in (by decide)) dX12_reckonSlots_13 ?_
  refine k_topi (y := 0) e15 ?_
  refine lv_if_eq (tgt := 74) hx hb dX12_reckonSlots_14 (by decide) (fun _ => ?_) (fun c9 => absurd (by decide) c9)
  refine lv_iinc (v := 15) (lv' := [(1, .int 15), (0, .ref h0)]) hx hb dX12_reckonSlots_74 hl (k := 0) rfl (by decide) (by decide) rfl (fun ls hl => ?_)
  refine lv_goto (tgt := 2) hx hb dX12_reckonSlots_77 (by decide) ?_
  refine lv_iload_n hx hb dX12_reckonSlots_2 rfl (lv_at hl 0 rfl) ?_
  refine lv_bipush (v := 24) hx hb dX12_reckonSlots_3 (by decide) ?_
  refine lv_icmp_gt (tgt := 80) hx hb dX12_reckonSlots_5 (by decide) (fun c9 => absurd c9 (by decide)) (fun _ => ?_)
  refine lv_aload_n hx hb dX12_reckonSlots_8 rfl (lv_at hl 1 rfl) ?_
  refine k_get (D := D) (ci := 12) (v := .ref h1) (N := 195) hx hb hts hin12 hown hK hP 0 rfl rfl (by decide) f9_12_121 (hts (.fieldLink RX12 304 "IntegerHouseModel" "needed" "[Z") (o9_X12_reckonSlots _ (List.mem_of_getElem? (i := 0) rfl))) e0 dX12_reckonSlots_9 ?_
  refine lv_iload_n hx hb dX12_reckonSlots_12 rfl (lv_at hl 0 rfl) ?_
  refine va_zald hx hb hK hP 1 3 rfl rfl (k_in (by decide)) dX12_reckonSlots_13 ?_
  refine k_topi (y := 0) e16 ?_
  refine lv_if_eq (tgt := 74) hx hb dX12_reckonSlots_14 (by decide) (fun _ => ?_) (fun c9 => absurd (by decide) c9)
  refine lv_iinc (v := 16) (lv' := [(1, .int 16), (0, .ref h0)]) hx hb dX12_reckonSlots_74 hl (k := 0) rfl (by decide) (by decide) rfl (fun ls hl => ?_)
  refine lv_goto (tgt := 2) hx hb dX12_reckonSlots_77 (by decide) ?_
  refine lv_iload_n hx hb dX12_reckonSlots_2 rfl (lv_at hl 0 rfl) ?_
  refine lv_bipush (v := 24) hx hb dX12_reckonSlots_3 (by decide) ?_
  refine lv_icmp_gt (tgt := 80) hx hb dX12_reckonSlots_5 (by decide) (fun c9 => absurd c9 (by decide)) (fun _ => ?_)
  refine lv_aload_n hx hb dX12_reckonSlots_8 rfl (lv_at hl 1 rfl) ?_
  refine k_get (D := D) (ci := 12) (v := .ref h1) (N := 195) hx hb hts hin12 hown hK hP 0 rfl rfl (by decide) f9_12_121 (hts (.fieldLink RX12 304 "IntegerHouseModel" "needed" "[Z") (o9_X12_reckonSlots _ (List.mem_of_getElem? (i := 0) rfl))) e0 dX12_reckonSlots_9 ?_
  refine lv_iload_n hx hb dX12_reckonSlots_12 rfl (lv_at hl 0 rfl) ?_
  refine va_zald hx hb hK hP 1 3 rfl rfl (k_in (by decide)) dX12_reckonSlots_13 ?_
  refine k_topi (y := 0) e17 ?_
  refine lv_if_eq (tgt := 74) hx hb dX12_reckonSlots_14 (by decide) (fun _ => ?_) (fun c9 => absurd (by decide) c9)
  refine lv_iinc (v := 17) (lv' := [(1, .int 17), (0, .ref h0)]) hx hb dX12_reckonSlots_74 hl (k := 0) rfl (by decide) (by decide) rfl (fun ls hl => ?_)
  refine lv_goto (tgt := 2) hx hb dX12_reckonSlots_77 (by decide) ?_
  refine lv_iload_n hx hb dX12_reckonSlots_2 rfl (lv_at hl 0 rfl) ?_
  refine lv_bipush (v := 24) hx hb dX12_reckonSlots_3 (by decide) ?_
  refine lv_icmp_gt (tgt := 80) hx hb dX12_reckonSlots_5 (by decide) (fun c9 => absurd c9 (by decide)) (fun _ => ?_)
  refine lv_aload_n hx hb dX12_reckonSlots_8 rfl (lv_at hl 1 rfl) ?_
  refine k_get (D := D) (ci := 12) (v := .ref h1) (N := 195) hx hb hts hin12 hown hK hP 0 rfl rfl (by decide) f9_12_121 (hts (.fieldLink RX12 304 "IntegerHouseModel" "needed" "[Z") (o9_X12_reckonSlots _ (List.mem_of_getElem? (i := 0) rfl))) e0 dX12_reckonSlots_9 ?_
  refine lv_iload_n hx hb dX12_reckonSlots_12 rfl (lv_at hl 0 rfl) ?_
  refine va_zald hx hb hK hP 1 3 rfl rfl (k_in (by decide)) dX12_reckonSlots_13 ?_
  refine k_topi (y := 0) e18 ?_
  refine lv_if_eq (tgt := 74) hx hb dX12_reckonSlots_14 (by decide) (fun _ => ?_) (fun c9 => absurd (by decide) c9)
  refine lv_iinc (v := 18) (lv' := [(1, .int 18), (0, .ref h0)]) hx hb dX12_reckonSlots_74 hl (k := 0) rfl (by decide) (by decide) rfl (fun ls hl => ?_)
  refine lv_goto (tgt := 2) hx hb dX12_reckonSlots_77 (by decide) ?_
  refine lv_iload_n hx hb dX12_reckonSlots_2 rfl (lv_at hl 0 rfl) ?_
  refine lv_bipush (v := 24) hx hb dX12_reckonSlots_3 (by decide) ?_
  refine lv_icmp_gt (tgt := 80) hx hb dX12_reckonSlots_5 (by decide) (fun c9 => absurd c9 (by decide)) (fun _ => ?_)
  refine lv_aload_n hx hb dX12_reckonSlots_8 rfl (lv_at hl 1 rfl) ?_
  refine k_get (D := D) (ci := 12) (v := .ref h1) (N := 195) hx hb hts hin12 hown hK hP 0 rfl rfl (by decide) f9_12_121 (hts (.fieldLink RX12 304 "IntegerHouseModel" "needed" "[Z") (o9_X12_reckonSlots _ (List.mem_of_getElem? (i := 0) rfl))) e0 dX12_reckonSlots_9 ?_
  refine lv_iload_n hx hb dX12_reckonSlots_12 rfl (lv_at hl 0 rfl) ?_
  refine va_zald hx hb hK hP 1 3 rfl rfl (k_in (by decide)) dX12_reckonSlots_13 ?_
  refine k_topi (y := 0) e19 ?_
  refine lv_if_eq (tgt := 74) hx hb dX12_reckonSlots_14 (by decide) (fun _ => ?_) (fun c9 => absurd (by decide) c9)
  refine lv_iinc (v := 19) (lv' := [(1, .int 19), (0, .ref h0)]) hx hb dX12_reckonSlots_74 hl (k := 0) rfl (by decide) (by decide) rfl (fun ls hl => ?_)
  refine lv_goto (tgt := 2) hx hb dX12_reckonSlots_77 (by decide) ?_
  refine lv_iload_n hx hb dX12_reckonSlots_2 rfl (lv_at hl 0 rfl) ?_
  refine lv_bipush (v := 24) hx hb dX12_reckonSlots_3 (by decide) ?_
  refine lv_icmp_gt (tgt := 80) hx hb dX12_reckonSlots_5 (by decide) (fun c9 => absurd c9 (by decide)) (fun _ => ?_)
  refine lv_aload_n hx hb dX12_reckonSlots_8 rfl (lv_at hl 1 rfl) ?_
  refine k_get (D := D) (ci := 12) (v := .ref h1) (N := 195) hx hb hts hin12 hown hK hP 0 rfl rfl (by decide) f9_12_121 (hts (.fieldLink RX12 304 "IntegerHouseModel" "needed" "[Z") (o9_X12_reckonSlots _ (List.mem_of_getElem? (i := 0) rfl))) e0 dX12_reckonSlots_9 ?_
  refine lv_iload_n hx hb dX12_reckonSlots_12 rfl (lv_at hl 0 rfl) ?_
  refine va_zald hx hb hK hP 1 3 rfl rfl (k_in (by decide)) dX12_reckonSlots_13 ?_
  refine k_topi (y := 0) e20 ?_
  refine lv_if_eq (tgt := 74) hx hb dX12_reckonSlots_14 (by decide) (fun _ => ?_) (fun c9 => absurd (by decide) c9)
  refine lv_iinc (v := 20) (lv' := [(1, .int 20), (0, .ref h0)]) hx hb dX12_reckonSlots_74 hl (k := 0) rfl (by decide) (by decide) rfl (fun ls hl => ?_)
  refine lv_goto (tgt := 2) hx hb dX12_reckonSlots_77 (by decide) ?_
  refine lv_iload_n hx hb dX12_reckonSlots_2 rfl (lv_at hl 0 rfl) ?_
  refine lv_bipush (v := 24) hx hb dX12_reckonSlots_3 (by decide) ?_
  refine lv_icmp_gt (tgt := 80) hx hb dX12_reckonSlots_5 (by decide) (fun c9 => absurd c9 (by decide)) (fun _ => ?_)
  refine lv_aload_n hx hb dX12_reckonSlots_8 rfl (lv_at hl 1 rfl) ?_
  refine k_get (D := D) (ci := 12) (v := .ref h1) (N := 195) hx hb hts hin12 hown hK hP 0 rfl rfl (by decide) f9_12_121 (hts (.fieldLink RX12 304 "IntegerHouseModel" "needed" "[Z") (o9_X12_reckonSlots _ (List.mem_of_getElem? (i := 0) rfl))) e0 dX12_reckonSlots_9 ?_
  refine lv_iload_n hx hb dX12_reckonSlots_12 rfl (lv_at hl 0 rfl) ?_
  refine va_zald hx hb hK hP 1 3 rfl rfl (k_in (by decide)) dX12_reckonSlots_13 ?_
  refine k_topi (y := 0) e21 ?_
  refine lv_if_eq (tgt := 74) hx hb dX12_reckonSlots_14 (by decide) (fun _ => ?_) (fun c9 => absurd (by decide) c9)
  refine lv_iinc (v := 21) (lv' := [(1, .int 21), (0, .ref h0)]) hx hb dX12_reckonSlots_74 hl (k := 0) rfl (by decide) (by decide) rfl (fun ls hl => ?_)
  refine lv_goto (tgt := 2) hx hb dX12_reckonSlots_77 (by decide) ?_
  refine lv_iload_n hx hb dX12_reckonSlots_2 rfl (lv_at hl 0 rfl) ?_
  refine lv_bipush (v := 24) hx hb dX12_reckonSlots_3 (by decide) ?_
  refine lv_icmp_gt (tgt := 80) hx hb dX12_reckonSlots_5 (by decide) (fun c9 => absurd c9 (by decide)) (fun _ => ?_)
  refine lv_aload_n hx hb dX12_reckonSlots_8 rfl (lv_at hl 1 rfl) ?_
  refine k_get (D := D) (ci := 12) (v := .ref h1) (N := 195) hx hb hts hin12 hown hK hP 0 rfl rfl (by decide) f9_12_121 (hts (.fieldLink RX12 304 "IntegerHouseModel" "needed" "[Z") (o9_X12_reckonSlots _ (List.mem_of_getElem? (i := 0) rfl))) e0 dX12_reckonSlots_9 ?_
  refine lv_iload_n hx hb dX12_reckonSlots_12 rfl (lv_at hl 0 rfl) ?_
  refine va_zald hx hb hK hP 1 3 rfl rfl (k_in (by decide)) dX12_reckonSlots_13 ?_
  refine k_topi (y := 0) e22 ?_
  refine lv_if_eq (tgt := 74) hx hb dX12_reckonSlots_14 (by decide) (fun _ => ?_) (fun c9 => absurd (by decide) c9)
  refine lv_iinc (v := 22) (lv' := [(1, .int 22), (0, .ref h0)]) hx hb dX12_reckonSlots_74 hl (k := 0) rfl (by decide) (by decide) rfl (fun ls hl => ?_)
  refine lv_goto (tgt := 2) hx hb dX12_reckonSlots_77 (by decide) ?_
  refine lv_iload_n hx hb dX12_reckonSlots_2 rfl (lv_at hl 0 rfl) ?_
  refine lv_bipush (v := 24) hx hb dX12_reckonSlots_3 (by decide) ?_
  refine lv_icmp_gt (tgt := 80) hx hb dX12_reckonSlots_5 (by decide) (fun c9 => absurd c9 (by decide)) (fun _ => ?_)
  refine lv_aload_n hx hb dX12_reckonSlots_8 rfl (lv_at hl 1 rfl) ?_
  refine k_get (D := D) (ci := 12) (v := .ref h1) (N := 195) hx hb hts hin12 hown hK hP 0 rfl rfl (by decide) f9_12_121 (hts (.fieldLink RX12 304 "IntegerHouseModel" "needed" "[Z") (o9_X12_reckonSlots _ (List.mem_of_getElem? (i := 0) rfl))) e0 dX12_reckonSlots_9 ?_
  refine lv_iload_n hx hb dX12_reckonSlots_12 rfl (lv_at hl 0 rfl) ?_
  refine va_zald hx hb hK hP 1 3 rfl rfl (k_in (by decide)) dX12_reckonSlots_13 ?_
  refine k_topi (y := 0) e23 ?_
  refine lv_if_eq (tgt := 74) hx hb dX12_reckonSlots_14 (by decide) (fun _ => ?_) (fun c9 => absurd (by decide) c9)
  refine lv_iinc (v := 23) (lv' := [(1, .int 23), (0, .ref h0)]) hx hb dX12_reckonSlots_74 hl (k := 0) rfl (by decide) (by decide) rfl (fun ls hl => ?_)
  refine lv_goto (tgt := 2) hx hb dX12_reckonSlots_77 (by decide) ?_
  refine lv_iload_n hx hb dX12_reckonSlots_2 rfl (lv_at hl 0 rfl) ?_
  refine lv_bipush (v := 24) hx hb dX12_reckonSlots_3 (by decide) ?_
  refine lv_icmp_gt (tgt := 80) hx hb dX12_reckonSlots_5 (by decide) (fun c9 => absurd c9 (by decide)) (fun _ => ?_)
  refine lv_aload_n hx hb dX12_reckonSlots_8 rfl (lv_at hl 1 rfl) ?_
  refine k_get (D := D) (ci := 12) (v := .ref h1) (N := 195) hx hb hts hin12 hown hK hP 0 rfl rfl (by decide) f9_12_121 (hts (.fieldLink RX12 304 "IntegerHouseModel" "needed" "[Z") (o9_X12_reckonSlots _ (List.mem_of_getElem? (i := 0) rfl))) e0 dX12_reckonSlots_9 ?_
  refine lv_iload_n hx hb dX12_reckonSlots_12 rfl (lv_at hl 0 rfl) ?_
  refine va_zald hx hb hK hP 1 3 rfl rfl (k_in (by decide)) dX12_reckonSlots_13 ?_
  refine k_topi (y := 0) e24 ?_
  refine lv_if_eq (tgt := 74) hx hb dX12_reckonSlots_14 (by decide) (fun _ => ?_) (fun c9 => absurd (by decide) c9)
  refine lv_iinc (v := 24) (lv' := [(1, .int 24), (0, .ref h0)]) hx hb dX12_reckonSlots_74 hl (k := 0) rfl (by decide) (by decide) rfl (fun ls hl => ?_)
  refine lv_goto (tgt := 2) hx hb dX12_reckonSlots_77 (by decide) ?_
  refine lv_iload_n hx hb dX12_reckonSlots_2 rfl (lv_at hl 0 rfl) ?_
  refine lv_bipush (v := 24) hx hb dX12_reckonSlots_3 (by decide) ?_
  refine lv_icmp_gt (tgt := 80) hx hb dX12_reckonSlots_5 (by decide) (fun c9 => absurd c9 (by decide)) (fun _ => ?_)
  refine lv_aload_n hx hb dX12_reckonSlots_8 rfl (lv_at hl 1 rfl) ?_
  refine k_get (D := D) (ci := 12) (v := .ref h1) (N := 195) hx hb hts hin12 hown hK hP 0 rfl rfl (by decide) f9_12_121 (hts (.fieldLink RX12 304 "IntegerHouseModel" "needed" "[Z") (o9_X12_reckonSlots _ (List.mem_of_getElem? (i := 0) rfl))) e0 dX12_reckonSlots_9 ?_
  refine lv_iload_n hx hb dX12_reckonSlots_12 rfl (lv_at hl 0 rfl) ?_
  refine va_zald hx hb hK hP 1 3 rfl rfl (k_in (by decide)) dX12_reckonSlots_13 ?_
  refine k_topi (y := 0) e25 ?_
  refine lv_if_eq (tgt := 74) hx hb dX12_reckonSlots_14 (by decide) (fun _ => ?_) (fun c9 => absurd (by decide) c9)
  refine lv_iinc (v := 25) (lv' := [(1, .int 25), (0, .ref h0)]) hx hb dX12_reckonSlots_74 hl (k := 0) rfl (by decide) (by decide) rfl (fun ls hl => ?_)
  refine lv_goto (tgt := 2) hx hb dX12_reckonSlots_77 (by decide) ?_
  refine lv_iload_n hx hb dX12_reckonSlots_2 rfl (lv_at hl 0 rfl) ?_
  refine lv_bipush (v := 24) hx hb dX12_reckonSlots_3 (by decide) ?_
  refine lv_icmp_gt (tgt := 80) hx hb dX12_reckonSlots_5 (by decide) (fun _ => ?_) (fun c9 => absurd (by decide) c9)
  exact W.vret hx hb hr (fun t ht hW => ⟨⟨(), rfl, trivial, kB_mk ht hW hP hK hD⟩, hS.F ht⟩) hS.2.2 dX12_reckonSlots_80
set_option maxHeartbeats 400000000 in
set_option maxRecDepth 100000 in
theorem c_X12_isAnswer_0 (l : Launch) (E : kE) (D : va_G) (cI cJ cB cZ : ClassId) (h0 : Nat) (f0 : List Value) (e0 : f0[33]? = some (.int 0)) : kI l E D (kT cI cJ cB cZ) yX12_isAnswer vW_X12_isAnswer ({ frames := 0, cells := 0, slots := 0, locals := 0 }) [.ref h0, .int 0, .int 0] [(h0, .inr (12, f0))] (1) [(h0, .inr (12, f0))] 0 0 := by
  intro sz
  refine Met.ofW (cc := cX12_isAnswer) (maxL := 5) (ret := (some .boolean)) (by decide) rfl ?_
  intro p e s m args below meth c s₁ B hml hv
  obtain ⟨rfl, hsz, hP, hK, hD0, hN, hX⟩ := hv
  have hx := B.exec
  have hb := B.bytes
  have hr := B.returns
  have hts := atoms_spec (ws := vW_X12_isAnswer) B.pre
  have hown : s.vm.findClass RX12 = some m.cls := findClass_of_methodNamed B.named
  have hlocks := B.notSynchronized
  have hin12 : ∀ w ∈ wsX120, w ∈ vW_X12_isAnswer := u9_X12_isAnswer_wsX120
  subst hsz
  have hD := hD0.self (sz := s.heap.size)
  have hAE := k_AE hD0 hX
  generalize hAe : va_A [(h0, .inr (12, f0))] s.heap.size = A at hD hAE ⊢
  have hA : ∀ q : Nat, s.heap.size ≤ q → A q := fun q h => by rw [← hAe]; exact Or.inr h
  have hS : va_S A s.heap s.heap [] := va_S.rf
  have hP : va_P D vwCl [(h0, .inr (12, f0))] s.heap := hP
  have hl := lv_entry ([.ref h0, .int 0, .int 0] : List Value) (n := 5) (Nat.le_of_ble_eq_true rfl)
  rw [lg_entry_eq]
  generalize (lg_sl ([.ref h0, .int 0, .int 0]) ++ List.replicate (5 - (lg_sl ([.ref h0, .int 0, .int 0])).length) Slot.unset).toArray = ls at hl ⊢
  have hl : lv_has ls 5 [(0, .ref h0), (1, .int 0), (2, .int 0)] := hl
  refine lv_iload_n hx hb dX12_isAnswer_0 rfl (lv_at hl 1 rfl) ?_
  refine lv_iconst (v := 2) hx hb dX12_isAnswer_1 (by decide) ?_
  refine lv_icmp_ne (tgt := 12) hx hb dX12_isAnswer_2 (by decide) (fun _ => ?_) (fun c9 => absurd c9 (by decide))
  refine lv_iconst (v := 1) hx hb dX12_isAnswer_12 (by decide) ?_
  refine lv_istore_n (lv' := [(3, .int 1), (0, .ref h0), (1, .int 0), (2, .int 0)]) hx hb dX12_isAnswer_13 rfl hl (by decide) rfl (fun ls hl => ?_)
  refine lv_iconst (v := 0) hx hb dX12_isAnswer_14 (by decide) ?_
  refine lv_istore (lv' := [(4, .int 0), (3, .int 1), (0, .ref h0), (1, .int 0), (2, .int 0)]) hx hb dX12_isAnswer_15 hl (by decide) rfl (fun ls hl => ?_)
  refine lv_iload hx hb dX12_isAnswer_17 (lv_at hl 0 rfl) ?_
  refine lv_aload_n hx hb dX12_isAnswer_19 rfl (lv_at hl 2 rfl) ?_
  refine k_get (D := D) (ci := 12) (v := .int 0) (N := 195) hx hb hts hin12 hown hK hP 0 rfl rfl (by decide) f9_12_33 (hts (.fieldLink RX12 818 "IntegerHouseModel" "claims" "I") (o9_X12_isAnswer _ (List.mem_of_getElem? (i := 0) rfl))) e0 dX12_isAnswer_20 ?_
  refine lv_icmp_ge (tgt := 72) hx hb dX12_isAnswer_23 (by decide) (fun _ => ?_) (fun c9 => absurd (by decide) c9)
  refine lv_iload_n hx hb dX12_isAnswer_72 rfl (lv_at hl 3 rfl) ?_
  refine lv_if_ne (tgt := 80) hx hb dX12_isAnswer_73 (by decide) (fun c9 => absurd (by decide) c9) (fun _ => ?_)
  refine lv_iload_n hx hb dX12_isAnswer_76 rfl (lv_at hl 1 rfl) ?_
  refine lv_goto (tgt := 124) hx hb dX12_isAnswer_77 (by decide) ?_
  exact W.zret (v := 1) hx hb hr rfl (fun t ht hW => ⟨⟨1, (), rfl, rfl, kB_mk ht hW hP hK hD⟩, hS.F ht⟩) hS.2.2 dX12_isAnswer_124
set_option maxHeartbeats 400000000 in
set_option maxRecDepth 100000 in
theorem c_X12_judge_0 (l : Launch) (E : kE) (D : va_G) (cI cJ cB cZ : ClassId) (h0 : Nat) (f0 : List Value) (h1 : Nat) (g0 : Nat → Int32) (h2 : Nat) (g1 : Nat → Int32) (h3 : Nat) (g2 : Nat → Int32) (h4 : Nat) (g3 : Nat → Int32) (h5 : Nat) (g4 : Nat → Int32) (e0 : f0[136]? = some (.ref h1)) (e1 : f0[129]? = some (.int 1)) (e2 : f0[132]? = some (.ref h2)) (e3 : f0[133]? = some (.ref h3)) (e4 : f0[131]? = some (.int 1)) (e5 : f0[119]? = some (.int 0)) (e6 : f0[121]? = some (.ref h4)) (e7 : g3 0 = 0) (e8 : g3 1 = 0) (e9 : g3 2 = 0) (e10 : g3 3 = 0) (e11 : g3 4 = 0) (e12 : g3 5 = 0) (e13 : g3 6 = 0) (e14 : g3 7 = 0) (e15 : g3 8 = 0) (e16 : g3 9 = 0) (e17 : g3 10 = 0) (e18 : g3 11 = 0) (e19 : g3 12 = 0) (e20 : g3 13 = 0) (e21 : g3 14 = 0) (e22 : g3 15 = 0) (e23 : g3 16 = 0) (e24 : g3 17 = 0) (e25 : g3 18 = 0) (e26 : g3 19 = 0) (e27 : g3 20 = 0) (e28 : g3 21 = 0) (e29 : g3 22 = 0) (e30 : g3 23 = 0) (e31 : g3 24 = 0) (e32 : f0[135]? = some (.ref h5)) (e33 : f0[33]? = some (.int 0)) : kV l E D (kT cI cJ cB cZ) yX12_judge vW_X12_judge ({ frames := 1, cells := 0, slots := 0, locals := 24 }) [.ref h0, .int 0, .int 0, .int (-1)] [(h0, .inr (12, f0)), (h1, .inl (cI, 4096, .inl g0)), (h2, .inl (cI, 3000, .inl g1)), (h3, .inl (cI, 3000, .inl g2)), (h4, .inl (cZ, 26, .inl g3)), (h5, .inl (cI, 4096, .inl g4))] (fun _ : Unit => [(h0, .inr (12, f0)), (h1, .inl (cI, 4096, .inl (upd (k_fill (-1) 4096 g0) 0 1))), (h2, .inl (cI, 3000, .inl (upd (upd g1 0 0) 0 1))), (h3, .inl (cI, 3000, .inl (upd (upd g2 0 0) 0 0))), (h4, .inl (cZ, 26, .inl g3)), (h5, .inl (cI, 4096, .inl (upd g4 0 0)))]) 0 0 := by
  intro sz
  refine Met.ofW (cc := cX12_judge) (maxL := 8) (ret := none) (by decide) rfl ?_
  intro p e s m args below meth c s₁ B hml hv
  obtain ⟨rfl, hsz, hP, hK, hD0, hN, hX⟩ := hv
  have hx := B.exec
  have hb := B.bytes
  have hr := B.returns
  have hts := atoms_spec (ws := vW_X12_judge) B.pre
  have hown : s.vm.findClass RX12 = some m.cls := findClass_of_methodNamed B.named
  have hlocks := B.notSynchronized
  have hin12 : ∀ w ∈ wsX120, w ∈ vW_X12_judge := u9_X12_judge_wsX120
  subst hsz
  have hD := hD0.self (sz := s.heap.size)
  have hAE := k_AE hD0 hX
  generalize hAe : va_A [(h0, .inr (12, f0)), (h1, .inl (cI, 4096, .inl g0)), (h2, .inl (cI, 3000, .inl g1)), (h3, .inl (cI, 3000, .inl g2)), (h4, .inl (cZ, 26, .inl g3)), (h5, .inl (cI, 4096, .inl g4))] s.heap.size = A at hD hAE ⊢
  have hA : ∀ q : Nat, s.heap.size ≤ q → A q := fun q h => by rw [← hAe]; exact Or.inr h
  have hS : va_S A s.heap s.heap [] := va_S.rf
  have hP : va_P D vwCl [(h0, .inr (12, f0)), (h1, .inl (cI, 4096, .inl g0)), (h2, .inl (cI, 3000, .inl g1)), (h3, .inl (cI, 3000, .inl g2)), (h4, .inl (cZ, 26, .inl g3)), (h5, .inl (cI, 4096, .inl g4))] s.heap := hP
  have hl := lv_entry ([.ref h0, .int 0, .int 0, .int (-1)] : List Value) (n := 8) (Nat.le_of_ble_eq_true rfl)
  rw [lg_entry_eq]
  generalize (lg_sl ([.ref h0, .int 0, .int 0, .int (-1)]) ++ List.replicate (8 - (lg_sl ([.ref h0, .int 0, .int 0, .int (-1)])).length) Slot.unset).toArray = ls at hl ⊢
  have hl : lv_has ls 8 [(0, .ref h0), (1, .int 0), (2, .int 0), (3, .int (-1))] := hl
  refine lv_iconst (v := 0) hx hb dX12_judge_0 (by decide) ?_
  refine lv_istore (lv' := [(4, .int 0), (0, .ref h0), (1, .int 0), (2, .int 0), (3, .int (-1))]) hx hb dX12_judge_1 hl (by decide) rfl (fun ls hl => ?_)
  refine k_loopW (P := fun i H locs ls => va_P D vwCl [(h0, .inr (12, f0)), (h1, .inl (cI, 4096, .inl (k_fill (-1) i g0))), (h2, .inl (cI, 3000, .inl g1)), (h3, .inl (cI, 3000, .inl g2)), (h4, .inl (cZ, 26, .inl g3)), (h5, .inl (cI, 4096, .inl g4))] H ∧ va_D A [(h0, .inr (12, f0)), (h1, .inl (cI, 4096, .inl (k_fill (-1) i g0))), (h2, .inl (cI, 3000, .inl g1)), (h3, .inl (cI, 3000, .inl g2)), (h4, .inl (cZ, 26, .inl g3)), (h5, .inl (cI, 4096, .inl g4))] ∧ va_S A s.heap H locs ∧ lv_has ls 8 [(4, .int (nI i)), (0, .ref h0), (1, .int 0), (2, .int 0), (3, .int (-1))]) 4096 (fun i H locs ls hi hh kk => ?_) (fun H locs ls hh => ?_) (Nat.zero_le 4096) ⟨by rw [k_fill_0]; exact hP, by rw [k_fill_0]; exact hD, hS, hl⟩
  · obtain ⟨hP, hD, hS, hl⟩ := hh
    refine lv_iload hx hb dX12_judge_3 (lv_at hl 0 rfl) ?_
    refine lv_sipush (v := 4096) hx hb dX12_judge_5 (by decide) ?_
    refine lv_icmp_ge (tgt := 25) hx hb dX12_judge_8 (by decide) (fun c9 => absurd c9 (nI_ge hi (by decide))) (fun _ => ?_)
    refine lv_aload_n hx hb dX12_judge_11 rfl (lv_at hl 1 rfl) ?_
    refine k_get (D := D) (ci := 12) (v := .ref h1) (N := 195) hx hb hts hin12 hown hK hP 0 rfl rfl (by decide) f9_12_136 (hts (.fieldLink RX12 346 "IntegerHouseModel" "keptAnswer" "[I") (o9_X12_judge _ (List.mem_of_getElem? (i := 5) rfl))) e0 dX12_judge_12 ?_
    refine lv_iload hx hb dX12_judge_15 (lv_at hl 0 rfl) ?_
    refine lv_iconst (v := (-1)) hx hb dX12_judge_17 (by decide) ?_
    refine va_iast hx hb hK hP hD hS 1 0 rfl rfl (vp_in_nI hi (by decide)) dX12_judge_18 (fun H locs hP hD hS => ?_)
    refine lv_iinc (v := nI (i + 1)) (lv' := [(4, .int (nI (i + 1))), (0, .ref h0), (1, .int 0), (2, .int 0), (3, .int (-1))]) hx hb dX12_judge_19 hl (k := 0) rfl (nI_succ i).symm (by decide) rfl (fun ls hl => ?_)
    refine lv_goto (tgt := 3) hx hb dX12_judge_22 (by decide) ?_
    rw [nI_clamp (by omega), k_fill_1] at hP hD
    exact kk _ _ _ ⟨hP, hD, hS, lv_sub hl [0, 1, 2, 3, 4] rfl⟩
  obtain ⟨hP, hD, hS, hl⟩ := hh
  have hP : va_P D vwCl [(h0, .inr (12, f0)), (h1, .inl (cI, 4096, .inl (k_fill (-1) 4096 g0))), (h2, .inl (cI, 3000, .inl g1)), (h3, .inl (cI, 3000, .inl g2)), (h4, .inl (cZ, 26, .inl g3)), (h5, .inl (cI, 4096, .inl g4))] H := hP
  have hD : va_D A [(h0, .inr (12, f0)), (h1, .inl (cI, 4096, .inl (k_fill (-1) 4096 g0))), (h2, .inl (cI, 3000, .inl g1)), (h3, .inl (cI, 3000, .inl g2)), (h4, .inl (cZ, 26, .inl g3)), (h5, .inl (cI, 4096, .inl g4))] := hD
  have hl : lv_has ls 8 [(4, .int 4096), (0, .ref h0), (1, .int 0), (2, .int 0), (3, .int (-1))] := hl
  refine lv_iload hx hb dX12_judge_3 (lv_at hl 0 rfl) ?_
  refine lv_sipush (v := 4096) hx hb dX12_judge_5 (by decide) ?_
  refine lv_icmp_ge (tgt := 25) hx hb dX12_judge_8 (by decide) (fun _ => ?_) (fun c9 => absurd (by decide) c9)
  refine lv_iconst (v := 0) hx hb dX12_judge_25 (by decide) ?_
  refine lv_istore (lv' := [(4, .int 0), (0, .ref h0), (1, .int 0), (2, .int 0), (3, .int (-1))]) hx hb dX12_judge_26 hl (by decide) rfl (fun ls hl => ?_)
  refine lv_iload hx hb dX12_judge_28 (lv_at hl 0 rfl) ?_
  refine lv_aload_n hx hb dX12_judge_30 rfl (lv_at hl 1 rfl) ?_
  refine k_get (D := D) (ci := 12) (v := .int 1) (N := 195) hx hb hts hin12 hown hK hP 0 rfl rfl (by decide) f9_12_129 (hts (.fieldLink RX12 957 "IntegerHouseModel" "places" "I") (o9_X12_judge _ (List.mem_of_getElem? (i := 0) rfl))) e1 dX12_judge_31 ?_
  refine lv_icmp_ge (tgt := 300) hx hb dX12_judge_34 (by decide) (fun c9 => absurd c9 (by decide)) (fun _ => ?_)
  refine lv_aload_n hx hb dX12_judge_37 rfl (lv_at hl 1 rfl) ?_
  refine k_get (D := D) (ci := 12) (v := .ref h2) (N := 195) hx hb hts hin12 hown hK hP 0 rfl rfl (by decide) f9_12_132 (hts (.fieldLink RX12 334 "IntegerHouseModel" "takes" "[I") (o9_X12_judge _ (List.mem_of_getElem? (i := 1) rfl))) e2 dX12_judge_38 ?_
  refine lv_iload hx hb dX12_judge_41 (lv_at hl 0 rfl) ?_
  refine lv_iconst (v := 0) hx hb dX12_judge_43 (by decide) ?_
  refine va_iast hx hb hK hP hD hS 2 0 rfl rfl (k_in (by decide)) dX12_judge_44 (fun H locs hP hD hS => ?_)
  have hP : va_P D vwCl [(h0, .inr (12, f0)), (h1, .inl (cI, 4096, .inl (k_fill (-1) 4096 g0))), (h2, .inl (cI, 3000, .inl (upd g1 0 0))), (h3, .inl (cI, 3000, .inl g2)), (h4, .inl (cZ, 26, .inl g3)), (h5, .inl (cI, 4096, .inl g4))] H := hP
  have hD : va_D A [(h0, .inr (12, f0)), (h1, .inl (cI, 4096, .inl (k_fill (-1) 4096 g0))), (h2, .inl (cI, 3000, .inl (upd g1 0 0))), (h3, .inl (cI, 3000, .inl g2)), (h4, .inl (cZ, 26, .inl g3)), (h5, .inl (cI, 4096, .inl g4))] := hD
  refine lv_aload_n hx hb dX12_judge_45 rfl (lv_at hl 1 rfl) ?_
  refine k_get (D := D) (ci := 12) (v := .ref h3) (N := 195) hx hb hts hin12 hown hK hP 0 rfl rfl (by decide) f9_12_133 (hts (.fieldLink RX12 337 "IntegerHouseModel" "takes2" "[I") (o9_X12_judge _ (List.mem_of_getElem? (i := 2) rfl))) e3 dX12_judge_46 ?_
  refine lv_iload hx hb dX12_judge_49 (lv_at hl 0 rfl) ?_
  refine lv_iconst (v := 0) hx hb dX12_judge_51 (by decide) ?_
  refine va_iast hx hb hK hP hD hS 3 0 rfl rfl (k_in (by decide)) dX12_judge_52 (fun H locs hP hD hS => ?_)
  have hP : va_P D vwCl [(h0, .inr (12, f0)), (h1, .inl (cI, 4096, .inl (k_fill (-1) 4096 g0))), (h2, .inl (cI, 3000, .inl (upd g1 0 0))), (h3, .inl (cI, 3000, .inl (upd g2 0 0))), (h4, .inl (cZ, 26, .inl g3)), (h5, .inl (cI, 4096, .inl g4))] H := hP
  have hD : va_D A [(h0, .inr (12, f0)), (h1, .inl (cI, 4096, .inl (k_fill (-1) 4096 g0))), (h2, .inl (cI, 3000, .inl (upd g1 0 0))), (h3, .inl (cI, 3000, .inl (upd g2 0 0))), (h4, .inl (cZ, 26, .inl g3)), (h5, .inl (cI, 4096, .inl g4))] := hD
  refine lv_iconst (v := 0) hx hb dX12_judge_53 (by decide) ?_
  refine lv_istore (lv' := [(5, .int 0), (4, .int 0), (0, .ref h0), (1, .int 0), (2, .int 0), (3, .int (-1))]) hx hb dX12_judge_54 hl (by decide) rfl (fun ls hl => ?_)
  refine lv_iload hx hb dX12_judge_56 (lv_at hl 0 rfl) ?_
  refine lv_aload_n hx hb dX12_judge_58 rfl (lv_at hl 2 rfl) ?_
  refine k_get (D := D) (ci := 12) (v := .int 1) (N := 195) hx hb hts hin12 hown hK hP 0 rfl rfl (by decide) f9_12_131 (hts (.fieldLink RX12 960 "IntegerHouseModel" "letters" "I") (o9_X12_judge _ (List.mem_of_getElem? (i := 3) rfl))) e4 dX12_judge_59 ?_
  refine lv_icmp_ge (tgt := 294) hx hb dX12_judge_62 (by decide) (fun c9 => absurd c9 (by decide)) (fun _ => ?_)
  refine lv_iconst (v := 0) hx hb dX12_judge_65 (by decide) ?_
  refine lv_istore (lv' := [(6, .int 0), (5, .int 0), (4, .int 0), (0, .ref h0), (1, .int 0), (2, .int 0), (3, .int (-1))]) hx hb dX12_judge_66 hl (by decide) rfl (fun ls hl => ?_)
  refine lv_iconst (v := 0) hx hb dX12_judge_68 (by decide) ?_
  refine lv_istore (lv' := [(7, .int 0), (6, .int 0), (5, .int 0), (4, .int 0), (0, .ref h0), (1, .int 0), (2, .int 0), (3, .int (-1))]) hx hb dX12_judge_69 hl (by decide) rfl (fun ls hl => ?_)
  refine lv_iload hx hb dX12_judge_71 (lv_at hl 0 rfl) ?_
  refine lv_aload_n hx hb dX12_judge_73 rfl (lv_at hl 4 rfl) ?_
  refine k_get (D := D) (ci := 12) (v := .int 0) (N := 195) hx hb hts hin12 hown hK hP 0 rfl rfl (by decide) f9_12_119 (hts (.fieldLink RX12 928 "IntegerHouseModel" "work" "I") (o9_X12_judge _ (List.mem_of_getElem? (i := 4) rfl))) e5 dX12_judge_74 ?_
  refine lv_icmp_ge (tgt := 137) hx hb dX12_judge_77 (by decide) (fun _ => ?_) (fun c9 => absurd (by decide) c9)
  refine lv_iload hx hb dX12_judge_137 (lv_at hl 1 rfl) ?_
  refine lv_iload hx hb dX12_judge_139 (lv_at hl 1 rfl) ?_
  refine lv_bipush (v := 12) hx hb dX12_judge_141 (by decide) ?_
  refine lv_iushr (v := 0) hx hb dX12_judge_143 (by decide) ?_
  refine lv_ixor hx hb dX12_judge_144 ?_
  refine k_topi (y := 0) (by decide) ?_
  refine lv_iload hx hb dX12_judge_145 (lv_at hl 1 rfl) ?_
  refine lv_bipush (v := 24) hx hb dX12_judge_147 (by decide) ?_
  refine lv_iushr (v := 0) hx hb dX12_judge_149 (by decide) ?_
  refine lv_ixor hx hb dX12_judge_150 ?_
  refine k_topi (y := 0) (by decide) ?_
  refine lv_sipush (v := 4095) hx hb dX12_judge_151 (by decide) ?_
  refine lv_iand hx hb dX12_judge_154 ?_
  refine k_topi (y := 0) (by decide) ?_
  refine lv_istore (lv' := [(7, .int 0), (6, .int 0), (5, .int 0), (4, .int 0), (0, .ref h0), (1, .int 0), (2, .int 0), (3, .int (-1))]) hx hb dX12_judge_155 hl (by decide) rfl (fun ls hl => ?_)
  refine lv_aload_n hx hb dX12_judge_157 rfl (lv_at hl 4 rfl) ?_
  refine k_get (D := D) (ci := 12) (v := .ref h1) (N := 195) hx hb hts hin12 hown hK hP 0 rfl rfl (by decide) f9_12_136 (hts (.fieldLink RX12 346 "IntegerHouseModel" "keptAnswer" "[I") (o9_X12_judge _ (List.mem_of_getElem? (i := 5) rfl))) e0 dX12_judge_158 ?_
  refine lv_iload hx hb dX12_judge_161 (lv_at hl 0 rfl) ?_
  refine va_iald hx hb hK hP 1 0 rfl rfl (k_in (by decide)) dX12_judge_163 ?_
  refine k_topi (y := (-1)) (if_pos (by decide)) ?_
  refine lv_iconst (v := (-1)) hx hb dX12_judge_164 (by decide) ?_
  refine lv_icmp_eq (tgt := 180) hx hb dX12_judge_165 (by decide) (fun _ => ?_) (fun c9 => absurd (by decide) c9)
  refine lv_aload_n hx hb dX12_judge_180 rfl (lv_at hl 4 rfl) ?_
  refine k_cVv (As := []) (rest := []) (wc := [(h0, .inr (12, f0)), (h4, .inl (cZ, 26, .inl g3))]) (wr := [(h1, .inl (cI, 4096, .inl (k_fill (-1) 4096 g0))), (h2, .inl (cI, 3000, .inl (upd g1 0 0))), (h3, .inl (cI, 3000, .inl (upd g2 0 0))), (h5, .inl (cI, 4096, .inl g4))]) (w1 := (fun _ : Unit => [(h0, .inr (12, f0)), (h4, .inl (cZ, 26, .inl g3))])) ⟨hx, hb, hml, hown, hts⟩ hN hX hAE hK hP hD hS hA [0, 4] [1, 2, 3, 5] (ci := 12) rfl rfl rfl rfl (by decide +kernel) (by decide +kernel) (by decide +kernel) (c_X12_reckonSlots_0 l E D cI cJ cB cZ h0 f0 h4 g3 e6 e7 e8 e9 e10 e11 e12 e13 e14 e15 e16 e17 e18 e19 e20 e21 e22 e23 e24 e25 e26 e27 e28 e29 e30 e31) (cwV 0 hts g9_X12_judge_X12_reckonSlots_954 rfl rfl rfl (by decide +kernel) ⟨Nat.le_of_ble_eq_true rfl, Nat.le_of_ble_eq_true rfl⟩) rfl hl.1 (Nat.le_of_ble_eq_true rfl) dX12_judge_181 ⟨Nat.le_of_ble_eq_true rfl, Nat.le_of_ble_eq_true rfl⟩ (fun _ H locs hP hD hS => ?_)
  have hP : va_P D vwCl [(h1, .inl (cI, 4096, .inl (k_fill (-1) 4096 g0))), (h2, .inl (cI, 3000, .inl (upd g1 0 0))), (h3, .inl (cI, 3000, .inl (upd g2 0 0))), (h5, .inl (cI, 4096, .inl g4)), (h0, .inr (12, f0)), (h4, .inl (cZ, 26, .inl g3))] H := hP
  have hD : va_D A [(h1, .inl (cI, 4096, .inl (k_fill (-1) 4096 g0))), (h2, .inl (cI, 3000, .inl (upd g1 0 0))), (h3, .inl (cI, 3000, .inl (upd g2 0 0))), (h5, .inl (cI, 4096, .inl g4)), (h0, .inr (12, f0)), (h4, .inl (cZ, 26, .inl g3))] := hD
  refine lv_aload_n hx hb dX12_judge_184 rfl (lv_at hl 4 rfl) ?_
  refine k_get (D := D) (ci := 12) (v := .ref h5) (N := 195) hx hb hts hin12 hown hK hP 4 rfl rfl (by decide) f9_12_135 (hts (.fieldLink RX12 343 "IntegerHouseModel" "keptRow" "[I") (o9_X12_judge _ (List.mem_of_getElem? (i := 10) rfl))) e32 dX12_judge_185 ?_
  refine lv_iload hx hb dX12_judge_188 (lv_at hl 0 rfl) ?_
  refine lv_iload hx hb dX12_judge_190 (lv_at hl 1 rfl) ?_
  refine va_iast hx hb hK hP hD hS 3 0 rfl rfl (k_in (by decide)) dX12_judge_192 (fun H locs hP hD hS => ?_)
  have hP : va_P D vwCl [(h1, .inl (cI, 4096, .inl (k_fill (-1) 4096 g0))), (h2, .inl (cI, 3000, .inl (upd g1 0 0))), (h3, .inl (cI, 3000, .inl (upd g2 0 0))), (h5, .inl (cI, 4096, .inl (upd g4 0 0))), (h0, .inr (12, f0)), (h4, .inl (cZ, 26, .inl g3))] H := hP
  have hD : va_D A [(h1, .inl (cI, 4096, .inl (k_fill (-1) 4096 g0))), (h2, .inl (cI, 3000, .inl (upd g1 0 0))), (h3, .inl (cI, 3000, .inl (upd g2 0 0))), (h5, .inl (cI, 4096, .inl (upd g4 0 0))), (h0, .inr (12, f0)), (h4, .inl (cZ, 26, .inl g3))] := hD
  refine lv_aload_n hx hb dX12_judge_193 rfl (lv_at hl 4 rfl) ?_
  refine k_get (D := D) (ci := 12) (v := .ref h1) (N := 195) hx hb hts hin12 hown hK hP 4 rfl rfl (by decide) f9_12_136 (hts (.fieldLink RX12 346 "IntegerHouseModel" "keptAnswer" "[I") (o9_X12_judge _ (List.mem_of_getElem? (i := 5) rfl))) e0 dX12_judge_194 ?_
  refine lv_iload hx hb dX12_judge_197 (lv_at hl 0 rfl) ?_
  refine lv_aload_n hx hb dX12_judge_199 rfl (lv_at hl 4 rfl) ?_
  refine lv_iload_n hx hb dX12_judge_200 rfl (lv_at hl 5 rfl) ?_
  refine lv_iload_n hx hb dX12_judge_201 rfl (lv_at hl 6 rfl) ?_
  refine k_cVi (As := [.int 0, .int 0]) (rest := [.int 0, .ref h1]) (wc := [(h0, .inr (12, f0))]) (wr := [(h1, .inl (cI, 4096, .inl (k_fill (-1) 4096 g0))), (h2, .inl (cI, 3000, .inl (upd g1 0 0))), (h3, .inl (cI, 3000, .inl (upd g2 0 0))), (h5, .inl (cI, 4096, .inl (upd g4 0 0))), (h4, .inl (cZ, 26, .inl g3))]) (w1 := [(h0, .inr (12, f0))]) ⟨hx, hb, hml, hown, hts⟩ hN hX hAE hK hP hD hS hA [4] [0, 1, 2, 3, 5] (ci := 12) rfl rfl rfl rfl (by decide +kernel) (by decide +kernel) (by decide +kernel) (c_X12_isAnswer_0 l E D cI cJ cB cZ h0 f0 e33) (cwV 2 hts g9_X12_judge_X12_isAnswer_973 rfl rfl rfl (by decide +kernel) ⟨Nat.le_of_ble_eq_true rfl, Nat.le_of_ble_eq_true rfl⟩) rfl hl.1 (Nat.le_of_ble_eq_true rfl) dX12_judge_202 ⟨Nat.le_of_ble_eq_true rfl, Nat.le_of_ble_eq_true rfl⟩ (fun H locs hP hD hS => ?_)
  have hP : va_P D vwCl [(h1, .inl (cI, 4096, .inl (k_fill (-1) 4096 g0))), (h2, .inl (cI, 3000, .inl (upd g1 0 0))), (h3, .inl (cI, 3000, .inl (upd g2 0 0))), (h5, .inl (cI, 4096, .inl (upd g4 0 0))), (h4, .inl (cZ, 26, .inl g3)), (h0, .inr (12, f0))] H := hP
  have hD : va_D A [(h1, .inl (cI, 4096, .inl (k_fill (-1) 4096 g0))), (h2, .inl (cI, 3000, .inl (upd g1 0 0))), (h3, .inl (cI, 3000, .inl (upd g2 0 0))), (h5, .inl (cI, 4096, .inl (upd g4 0 0))), (h4, .inl (cZ, 26, .inl g3)), (h0, .inr (12, f0))] := hD
  refine lv_if_eq (tgt := 212) hx hb dX12_judge_205 (by decide) (fun c9 => absurd c9 (by decide)) (fun _ => ?_)
  refine lv_iconst (v := 1) hx hb dX12_judge_208 (by decide) ?_
  refine lv_goto (tgt := 213) hx hb dX12_judge_209 (by decide) ?_
  refine lv_iload_n hx hb dX12_judge_213 rfl (lv_at hl 7 rfl) ?_
  refine lv_iconst (v := (-1)) hx hb dX12_judge_214 (by decide) ?_
  refine lv_icmp_eq (tgt := 231) hx hb dX12_judge_215 (by decide) (fun _ => ?_) (fun c9 => absurd (by decide) c9)
  refine lv_iconst (v := 0) hx hb dX12_judge_231 (by decide) ?_
  refine lv_iadd hx hb dX12_judge_232 ?_
  refine k_topi (y := 1) (by decide) ?_
  refine va_iast hx hb hK hP hD hS 0 0 rfl rfl (k_in (by decide)) dX12_judge_233 (fun H locs hP hD hS => ?_)
  have hP : va_P D vwCl [(h1, .inl (cI, 4096, .inl (upd (k_fill (-1) 4096 g0) 0 1))), (h2, .inl (cI, 3000, .inl (upd g1 0 0))), (h3, .inl (cI, 3000, .inl (upd g2 0 0))), (h5, .inl (cI, 4096, .inl (upd g4 0 0))), (h4, .inl (cZ, 26, .inl g3)), (h0, .inr (12, f0))] H := hP
  have hD : va_D A [(h1, .inl (cI, 4096, .inl (upd (k_fill (-1) 4096 g0) 0 1))), (h2, .inl (cI, 3000, .inl (upd g1 0 0))), (h3, .inl (cI, 3000, .inl (upd g2 0 0))), (h5, .inl (cI, 4096, .inl (upd g4 0 0))), (h4, .inl (cZ, 26, .inl g3)), (h0, .inr (12, f0))] := hD
  refine lv_aload_n hx hb dX12_judge_234 rfl (lv_at hl 4 rfl) ?_
  refine k_get (D := D) (ci := 12) (v := .ref h2) (N := 195) hx hb hts hin12 hown hK hP 5 rfl rfl (by decide) f9_12_132 (hts (.fieldLink RX12 334 "IntegerHouseModel" "takes" "[I") (o9_X12_judge _ (List.mem_of_getElem? (i := 1) rfl))) e2 dX12_judge_235 ?_
  refine lv_iload hx hb dX12_judge_238 (lv_at hl 3 rfl) ?_
  refine lv_aload_n hx hb dX12_judge_240 rfl (lv_at hl 4 rfl) ?_
  refine k_get (D := D) (ci := 12) (v := .ref h2) (N := 195) hx hb hts hin12 hown hK hP 5 rfl rfl (by decide) f9_12_132 (hts (.fieldLink RX12 334 "IntegerHouseModel" "takes" "[I") (o9_X12_judge _ (List.mem_of_getElem? (i := 1) rfl))) e2 dX12_judge_241 ?_
  refine lv_iload hx hb dX12_judge_244 (lv_at hl 3 rfl) ?_
  refine va_iald hx hb hK hP 1 0 rfl rfl (k_in (by decide)) dX12_judge_246 ?_
  refine k_topi (y := 0) rfl ?_
  refine lv_aload_n hx hb dX12_judge_247 rfl (lv_at hl 4 rfl) ?_
  refine k_get (D := D) (ci := 12) (v := .ref h1) (N := 195) hx hb hts hin12 hown hK hP 5 rfl rfl (by decide) f9_12_136 (hts (.fieldLink RX12 346 "IntegerHouseModel" "keptAnswer" "[I") (o9_X12_judge _ (List.mem_of_getElem? (i := 5) rfl))) e0 dX12_judge_248 ?_
  refine lv_iload hx hb dX12_judge_251 (lv_at hl 0 rfl) ?_
  refine va_iald hx hb hK hP 0 0 rfl rfl (k_in (by decide)) dX12_judge_253 ?_
  refine k_topi (y := 1) rfl ?_
  refine lv_iconst (v := 2) hx hb dX12_judge_254 (by decide) ?_
  refine lv_irem hx hb dX12_judge_255 (by decide) ?_
  refine k_topi (y := 1) (by decide) ?_
  refine lv_iload hx hb dX12_judge_256 (lv_at hl 2 rfl) ?_
  refine lv_ishl hx hb dX12_judge_258 ?_
  refine k_topi (y := 1) (by decide) ?_
  refine lv_ior hx hb dX12_judge_259 ?_
  refine k_topi (y := 1) (by decide) ?_
  refine va_iast hx hb hK hP hD hS 1 0 rfl rfl (k_in (by decide)) dX12_judge_260 (fun H locs hP hD hS => ?_)
  have hP : va_P D vwCl [(h1, .inl (cI, 4096, .inl (upd (k_fill (-1) 4096 g0) 0 1))), (h2, .inl (cI, 3000, .inl (upd (upd g1 0 0) 0 1))), (h3, .inl (cI, 3000, .inl (upd g2 0 0))), (h5, .inl (cI, 4096, .inl (upd g4 0 0))), (h4, .inl (cZ, 26, .inl g3)), (h0, .inr (12, f0))] H := hP
  have hD : va_D A [(h1, .inl (cI, 4096, .inl (upd (k_fill (-1) 4096 g0) 0 1))), (h2, .inl (cI, 3000, .inl (upd (upd g1 0 0) 0 1))), (h3, .inl (cI, 3000, .inl (upd g2 0 0))), (h5, .inl (cI, 4096, .inl (upd g4 0 0))), (h4, .inl (cZ, 26, .inl g3)), (h0, .inr (12, f0))] := hD
  refine lv_aload_n hx hb dX12_judge_261 rfl (lv_at hl 4 rfl) ?_
  refine k_get (D := D) (ci := 12) (v := .ref h3) (N := 195) hx hb hts hin12 hown hK hP 5 rfl rfl (by decide) f9_12_133 (hts (.fieldLink RX12 337 "IntegerHouseModel" "takes2" "[I") (o9_X12_judge _ (List.mem_of_getElem? (i := 2) rfl))) e3 dX12_judge_262 ?_
  refine lv_iload hx hb dX12_judge_265 (lv_at hl 3 rfl) ?_
  refine lv_aload_n hx hb dX12_judge_267 rfl (lv_at hl 4 rfl) ?_
  refine k_get (D := D) (ci := 12) (v := .ref h3) (N := 195) hx hb hts hin12 hown hK hP 5 rfl rfl (by decide) f9_12_133 (hts (.fieldLink RX12 337 "IntegerHouseModel" "takes2" "[I") (o9_X12_judge _ (List.mem_of_getElem? (i := 2) rfl))) e3 dX12_judge_268 ?_
  refine lv_iload hx hb dX12_judge_271 (lv_at hl 3 rfl) ?_
  refine va_iald hx hb hK hP 2 0 rfl rfl (k_in (by decide)) dX12_judge_273 ?_
  refine k_topi (y := 0) rfl ?_
  refine lv_aload_n hx hb dX12_judge_274 rfl (lv_at hl 4 rfl) ?_
  refine k_get (D := D) (ci := 12) (v := .ref h1) (N := 195) hx hb hts hin12 hown hK hP 5 rfl rfl (by decide) f9_12_136 (hts (.fieldLink RX12 346 "IntegerHouseModel" "keptAnswer" "[I") (o9_X12_judge _ (List.mem_of_getElem? (i := 5) rfl))) e0 dX12_judge_275 ?_
  refine lv_iload hx hb dX12_judge_278 (lv_at hl 0 rfl) ?_
  refine va_iald hx hb hK hP 0 0 rfl rfl (k_in (by decide)) dX12_judge_280 ?_
  refine k_topi (y := 1) rfl ?_
  refine lv_iconst (v := 2) hx hb dX12_judge_281 (by decide) ?_
  refine lv_idiv hx hb dX12_judge_282 (by decide) ?_
  refine k_topi (y := 0) (by decide) ?_
  refine lv_iload hx hb dX12_judge_283 (lv_at hl 2 rfl) ?_
  refine lv_ishl hx hb dX12_judge_285 ?_
  refine k_topi (y := 0) (by decide) ?_
  refine lv_ior hx hb dX12_judge_286 ?_
  refine k_topi (y := 0) (by decide) ?_
  refine va_iast hx hb hK hP hD hS 2 0 rfl rfl (k_in (by decide)) dX12_judge_287 (fun H locs hP hD hS => ?_)
  have hP : va_P D vwCl [(h1, .inl (cI, 4096, .inl (upd (k_fill (-1) 4096 g0) 0 1))), (h2, .inl (cI, 3000, .inl (upd (upd g1 0 0) 0 1))), (h3, .inl (cI, 3000, .inl (upd (upd g2 0 0) 0 0))), (h5, .inl (cI, 4096, .inl (upd g4 0 0))), (h4, .inl (cZ, 26, .inl g3)), (h0, .inr (12, f0))] H := hP
  have hD : va_D A [(h1, .inl (cI, 4096, .inl (upd (k_fill (-1) 4096 g0) 0 1))), (h2, .inl (cI, 3000, .inl (upd (upd g1 0 0) 0 1))), (h3, .inl (cI, 3000, .inl (upd (upd g2 0 0) 0 0))), (h5, .inl (cI, 4096, .inl (upd g4 0 0))), (h4, .inl (cZ, 26, .inl g3)), (h0, .inr (12, f0))] := hD
  refine lv_iinc (v := 1) (lv' := [(5, .int 1), (7, .int 0), (6, .int 0), (4, .int 0), (0, .ref h0), (1, .int 0), (2, .int 0), (3, .int (-1))]) hx hb dX12_judge_288 hl (k := 2) rfl (by decide) (by decide) rfl (fun ls hl => ?_)
  refine lv_goto (tgt := 56) hx hb dX12_judge_291 (by decide) ?_
  refine lv_iload hx hb dX12_judge_56 (lv_at hl 0 rfl) ?_
  refine lv_aload_n hx hb dX12_judge_58 rfl (lv_at hl 4 rfl) ?_
  refine k_get (D := D) (ci := 12) (v := .int 1) (N := 195) hx hb hts hin12 hown hK hP 5 rfl rfl (by decide) f9_12_131 (hts (.fieldLink RX12 960 "IntegerHouseModel" "letters" "I") (o9_X12_judge _ (List.mem_of_getElem? (i := 3) rfl))) e4 dX12_judge_59 ?_
  refine lv_icmp_ge (tgt := 294) hx hb dX12_judge_62 (by decide) (fun _ => ?_) (fun c9 => absurd (by decide) c9)
  refine lv_iinc (v := 1) (lv' := [(4, .int 1), (5, .int 1), (7, .int 0), (6, .int 0), (0, .ref h0), (1, .int 0), (2, .int 0), (3, .int (-1))]) hx hb dX12_judge_294 hl (k := 3) rfl (by decide) (by decide) rfl (fun ls hl => ?_)
  refine lv_goto (tgt := 28) hx hb dX12_judge_297 (by decide) ?_
  refine lv_iload hx hb dX12_judge_28 (lv_at hl 0 rfl) ?_
  refine lv_aload_n hx hb dX12_judge_30 rfl (lv_at hl 4 rfl) ?_
  refine k_get (D := D) (ci := 12) (v := .int 1) (N := 195) hx hb hts hin12 hown hK hP 5 rfl rfl (by decide) f9_12_129 (hts (.fieldLink RX12 957 "IntegerHouseModel" "places" "I") (o9_X12_judge _ (List.mem_of_getElem? (i := 0) rfl))) e1 dX12_judge_31 ?_
  refine lv_icmp_ge (tgt := 300) hx hb dX12_judge_34 (by decide) (fun _ => ?_) (fun c9 => absurd (by decide) c9)
  have hP := hP.sub (ws' := [(h0, .inr (12, f0)), (h1, .inl (cI, 4096, .inl (upd (k_fill (-1) 4096 g0) 0 1))), (h2, .inl (cI, 3000, .inl (upd (upd g1 0 0) 0 1))), (h3, .inl (cI, 3000, .inl (upd (upd g2 0 0) 0 0))), (h4, .inl (cZ, 26, .inl g3)), (h5, .inl (cI, 4096, .inl (upd g4 0 0)))]) [5, 0, 1, 2, 4, 3] rfl
  have hD := hD.sub (ws' := [(h0, .inr (12, f0)), (h1, .inl (cI, 4096, .inl (upd (k_fill (-1) 4096 g0) 0 1))), (h2, .inl (cI, 3000, .inl (upd (upd g1 0 0) 0 1))), (h3, .inl (cI, 3000, .inl (upd (upd g2 0 0) 0 0))), (h4, .inl (cZ, 26, .inl g3)), (h5, .inl (cI, 4096, .inl (upd g4 0 0)))]) [5, 0, 1, 2, 4, 3] (by decide +kernel) rfl
  exact W.vret hx hb hr (fun t ht hW => ⟨⟨(), rfl, trivial, kB_mk ht hW hP hK hD⟩, hS.F ht⟩) hS.2.2 dX12_judge_300
