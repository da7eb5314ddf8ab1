theorem dX0_gainFrom_0 : decode cX0_gainFrom 0 = .ok (.iload_n 1, 1) := by decide +kernel
theorem dX0_gainFrom_1 : decode cX0_gainFrom 1 = .ok (.ifCond .lt 19, 3) := by decide +kernel
theorem dX0_gainFrom_4 : decode cX0_gainFrom 4 = .ok (.iload_n 1, 1) := by decide +kernel
theorem dX0_gainFrom_5 : decode cX0_gainFrom 5 = .ok (.sipush 3000, 3) := by decide +kernel
theorem dX0_gainFrom_8 : decode cX0_gainFrom 8 = .ok (.if_icmp .ge 12, 3) := by decide +kernel
theorem dX0_gainFrom_11 : decode cX0_gainFrom 11 = .ok (.aload_n 0, 1) := by decide +kernel
theorem dX0_gainFrom_12 : decode cX0_gainFrom 12 = .ok (.getfield 28, 3) := by decide +kernel
theorem dX0_gainFrom_15 : decode cX0_gainFrom 15 = .ok (.iload_n 1, 1) := by decide +kernel
theorem dX0_gainFrom_16 : decode cX0_gainFrom 16 = .ok (.laload, 1) := by decide +kernel
theorem dX0_gainFrom_17 : decode cX0_gainFrom 17 = .ok (.goto 6, 3) := by decide +kernel
theorem dX0_gainFrom_23 : decode cX0_gainFrom 23 = .ok (.lreturn, 1) := by decide +kernel
theorem dX0_howMany_0 : decode cX0_howMany 0 = .ok (.aload_n 0, 1) := by decide +kernel
theorem dX0_howMany_1 : decode cX0_howMany 1 = .ok (.iload_n 1, 1) := by decide +kernel
theorem dX0_howMany_2 : decode cX0_howMany 2 = .ok (.iconst 0, 1) := by decide +kernel
theorem dX0_howMany_3 : decode cX0_howMany 3 = .ok (.invokevirtual 82, 3) := by decide +kernel
theorem dX0_howMany_6 : decode cX0_howMany 6 = .ok (.istore_n 2, 1) := by decide +kernel
theorem dX0_howMany_7 : decode cX0_howMany 7 = .ok (.iconst 0, 1) := by decide +kernel
theorem dX0_howMany_8 : decode cX0_howMany 8 = .ok (.istore_n 3, 1) := by decide +kernel
theorem dX0_howMany_9 : decode cX0_howMany 9 = .ok (.iload_n 3, 1) := by decide +kernel
theorem dX0_howMany_10 : decode cX0_howMany 10 = .ok (.iload_n 2, 1) := by decide +kernel
theorem dX0_howMany_11 : decode cX0_howMany 11 = .ok (.if_icmp .ge 75, 3) := by decide +kernel
theorem dX0_howMany_14 : decode cX0_howMany 14 = .ok (.aload_n 0, 1) := by decide +kernel
theorem dX0_howMany_15 : decode cX0_howMany 15 = .ok (.getfield 18, 3) := by decide +kernel
theorem dX0_howMany_18 : decode cX0_howMany 18 = .ok (.iload_n 3, 1) := by decide +kernel
theorem dX0_howMany_19 : decode cX0_howMany 19 = .ok (.iconst 0, 1) := by decide +kernel
theorem dX0_howMany_20 : decode cX0_howMany 20 = .ok (.iastore, 1) := by decide +kernel
theorem dX0_howMany_21 : decode cX0_howMany 21 = .ok (.iconst 0, 1) := by decide +kernel
theorem dX0_howMany_22 : decode cX0_howMany 22 = .ok (.istore 4, 2) := by decide +kernel
theorem dX0_howMany_24 : decode cX0_howMany 24 = .ok (.iload 4, 2) := by decide +kernel
theorem dX0_howMany_26 : decode cX0_howMany 26 = .ok (.aload_n 0, 1) := by decide +kernel
theorem dX0_howMany_27 : decode cX0_howMany 27 = .ok (.getfield 48, 3) := by decide +kernel
theorem dX0_howMany_30 : decode cX0_howMany 30 = .ok (.getfield 92, 3) := by decide +kernel
theorem dX0_howMany_33 : decode cX0_howMany 33 = .ok (.if_icmp .ge 47, 3) := by decide +kernel
theorem dX0_howMany_36 : decode cX0_howMany 36 = .ok (.aload_n 0, 1) := by decide +kernel
theorem dX0_howMany_37 : decode cX0_howMany 37 = .ok (.getfield 18, 3) := by decide +kernel
theorem dX0_howMany_40 : decode cX0_howMany 40 = .ok (.iload_n 3, 1) := by decide +kernel
theorem dX0_howMany_41 : decode cX0_howMany 41 = .ok (.dup2, 1) := by decide +kernel
theorem dX0_howMany_42 : decode cX0_howMany 42 = .ok (.iaload, 1) := by decide +kernel
theorem dX0_howMany_43 : decode cX0_howMany 43 = .ok (.aload_n 0, 1) := by decide +kernel
theorem dX0_howMany_44 : decode cX0_howMany 44 = .ok (.aload_n 0, 1) := by decide +kernel
theorem dX0_howMany_45 : decode cX0_howMany 45 = .ok (.getfield 48, 3) := by decide +kernel
theorem dX0_howMany_48 : decode cX0_howMany 48 = .ok (.iload_n 3, 1) := by decide +kernel
theorem dX0_howMany_49 : decode cX0_howMany 49 = .ok (.iload 4, 2) := by decide +kernel
theorem dX0_howMany_51 : decode cX0_howMany 51 = .ok (.invokevirtual 95, 3) := by decide +kernel
theorem dX0_howMany_54 : decode cX0_howMany 54 = .ok (.invokevirtual 112, 3) := by decide +kernel
theorem dX0_howMany_57 : decode cX0_howMany 57 = .ok (.iconst 1, 1) := by decide +kernel
theorem dX0_howMany_58 : decode cX0_howMany 58 = .ok (.iload 4, 2) := by decide +kernel
theorem dX0_howMany_60 : decode cX0_howMany 60 = .ok (.ishl, 1) := by decide +kernel
theorem dX0_howMany_61 : decode cX0_howMany 61 = .ok (.iconst (-1), 1) := by decide +kernel
theorem dX0_howMany_62 : decode cX0_howMany 62 = .ok (.ixor, 1) := by decide +kernel
theorem dX0_howMany_63 : decode cX0_howMany 63 = .ok (.iand, 1) := by decide +kernel
theorem dX0_howMany_64 : decode cX0_howMany 64 = .ok (.ifCond .eq 7, 3) := by decide +kernel
theorem dX0_howMany_71 : decode cX0_howMany 71 = .ok (.iconst 0, 1) := by decide +kernel
theorem dX0_howMany_72 : decode cX0_howMany 72 = .ok (.ior, 1) := by decide +kernel
theorem dX0_howMany_73 : decode cX0_howMany 73 = .ok (.iastore, 1) := by decide +kernel
theorem dX0_howMany_74 : decode cX0_howMany 74 = .ok (.iinc 4 1, 3) := by decide +kernel
theorem dX0_howMany_77 : decode cX0_howMany 77 = .ok (.goto (-53), 3) := by decide +kernel
theorem dX0_howMany_80 : decode cX0_howMany 80 = .ok (.iinc 3 1, 3) := by decide +kernel
theorem dX0_howMany_83 : decode cX0_howMany 83 = .ok (.goto (-74), 3) := by decide +kernel
theorem dX0_howMany_86 : decode cX0_howMany 86 = .ok (.iconst 1, 1) := by decide +kernel
theorem dX0_howMany_87 : decode cX0_howMany 87 = .ok (.istore_n 3, 1) := by decide +kernel
theorem dX0_howMany_88 : decode cX0_howMany 88 = .ok (.iconst 0, 1) := by decide +kernel
theorem dX0_howMany_89 : decode cX0_howMany 89 = .ok (.istore 4, 2) := by decide +kernel
theorem dX0_howMany_91 : decode cX0_howMany 91 = .ok (.iload 4, 2) := by decide +kernel
theorem dX0_howMany_93 : decode cX0_howMany 93 = .ok (.iload_n 2, 1) := by decide +kernel
theorem dX0_howMany_94 : decode cX0_howMany 94 = .ok (.if_icmp .gt 20, 3) := by decide +kernel
theorem dX0_howMany_97 : decode cX0_howMany 97 = .ok (.iload_n 3, 1) := by decide +kernel
theorem dX0_howMany_98 : decode cX0_howMany 98 = .ok (.ifCond .eq 16, 3) := by decide +kernel
theorem dX0_howMany_101 : decode cX0_howMany 101 = .ok (.aload_n 0, 1) := by decide +kernel
theorem dX0_howMany_102 : decode cX0_howMany 102 = .ok (.iload_n 2, 1) := by decide +kernel
theorem dX0_howMany_103 : decode cX0_howMany 103 = .ok (.iconst 0, 1) := by decide +kernel
theorem dX0_howMany_104 : decode cX0_howMany 104 = .ok (.invokevirtual 152, 3) := by decide +kernel
theorem dX0_howMany_107 : decode cX0_howMany 107 = .ok (.istore_n 3, 1) := by decide +kernel
theorem dX0_howMany_108 : decode cX0_howMany 108 = .ok (.iinc 4 1, 3) := by decide +kernel
theorem dX0_howMany_111 : decode cX0_howMany 111 = .ok (.goto (-20), 3) := by decide +kernel
theorem dX0_howMany_114 : decode cX0_howMany 114 = .ok (.iconst 1, 1) := by decide +kernel
theorem dX0_howMany_115 : decode cX0_howMany 115 = .ok (.istore 4, 2) := by decide +kernel
theorem dX0_howMany_117 : decode cX0_howMany 117 = .ok (.iconst 0, 1) := by decide +kernel
theorem dX0_howMany_118 : decode cX0_howMany 118 = .ok (.istore 5, 2) := by decide +kernel
theorem dX0_howMany_120 : decode cX0_howMany 120 = .ok (.iload 5, 2) := by decide +kernel
theorem dX0_howMany_122 : decode cX0_howMany 122 = .ok (.iload_n 2, 1) := by decide +kernel
theorem dX0_howMany_123 : decode cX0_howMany 123 = .ok (.if_icmp .gt 22, 3) := by decide +kernel
theorem dX0_howMany_126 : decode cX0_howMany 126 = .ok (.iload 4, 2) := by decide +kernel
theorem dX0_howMany_128 : decode cX0_howMany 128 = .ok (.ifCond .eq 17, 3) := by decide +kernel
theorem dX0_howMany_131 : decode cX0_howMany 131 = .ok (.aload_n 0, 1) := by decide +kernel
theorem dX0_howMany_132 : decode cX0_howMany 132 = .ok (.iload_n 2, 1) := by decide +kernel
theorem dX0_howMany_133 : decode cX0_howMany 133 = .ok (.iconst 1, 1) := by decide +kernel
theorem dX0_howMany_134 : decode cX0_howMany 134 = .ok (.invokevirtual 152, 3) := by decide +kernel
theorem dX0_howMany_137 : decode cX0_howMany 137 = .ok (.istore 4, 2) := by decide +kernel
theorem dX0_howMany_139 : decode cX0_howMany 139 = .ok (.iinc 5 1, 3) := by decide +kernel
theorem dX0_howMany_142 : decode cX0_howMany 142 = .ok (.goto (-22), 3) := by decide +kernel
theorem dX0_howMany_145 : decode cX0_howMany 145 = .ok (.iconst 0, 1) := by decide +kernel
theorem dX0_howMany_146 : decode cX0_howMany 146 = .ok (.istore 5, 2) := by decide +kernel
theorem dX0_howMany_148 : decode cX0_howMany 148 = .ok (.iload 5, 2) := by decide +kernel
theorem dX0_howMany_150 : decode cX0_howMany 150 = .ok (.iload_n 2, 1) := by decide +kernel
theorem dX0_howMany_151 : decode cX0_howMany 151 = .ok (.if_icmp .ge 23, 3) := by decide +kernel
theorem dX0_howMany_154 : decode cX0_howMany 154 = .ok (.aload_n 0, 1) := by decide +kernel
theorem dX0_howMany_155 : decode cX0_howMany 155 = .ok (.getfield 18, 3) := by decide +kernel
theorem dX0_howMany_158 : decode cX0_howMany 158 = .ok (.iload 5, 2) := by decide +kernel
theorem dX0_howMany_160 : decode cX0_howMany 160 = .ok (.iaload, 1) := by decide +kernel
theorem dX0_howMany_161 : decode cX0_howMany 161 = .ok (.iconst 1, 1) := by decide +kernel
theorem dX0_howMany_162 : decode cX0_howMany 162 = .ok (.if_icmp .ne 6, 3) := by decide +kernel
theorem dX0_howMany_168 : decode cX0_howMany 168 = .ok (.iinc 5 1, 3) := by decide +kernel
theorem dX0_howMany_171 : decode cX0_howMany 171 = .ok (.goto (-23), 3) := by decide +kernel
theorem dX0_howMany_174 : decode cX0_howMany 174 = .ok (.aload_n 0, 1) := by decide +kernel
theorem dX0_howMany_175 : decode cX0_howMany 175 = .ok (.iload_n 2, 1) := by decide +kernel
theorem dX0_howMany_176 : decode cX0_howMany 176 = .ok (.invokevirtual 155, 3) := by decide +kernel
theorem dX0_howMany_179 : decode cX0_howMany 179 = .ok (.ireturn, 1) := by decide +kernel
theorem dX0_countAll_0 : decode cX0_countAll 0 = .ok (.iconst 0, 1) := by decide +kernel
theorem dX0_countAll_1 : decode cX0_countAll 1 = .ok (.istore_n 2, 1) := by decide +kernel
theorem dX0_countAll_2 : decode cX0_countAll 2 = .ok (.iload_n 2, 1) := by decide +kernel
theorem dX0_countAll_3 : decode cX0_countAll 3 = .ok (.iload_n 1, 1) := by decide +kernel
theorem dX0_countAll_4 : decode cX0_countAll 4 = .ok (.if_icmp .ge 32, 3) := by decide +kernel
theorem dX0_countAll_7 : decode cX0_countAll 7 = .ok (.iload_n 2, 1) := by decide +kernel
theorem dX0_countAll_8 : decode cX0_countAll 8 = .ok (.sipush 3000, 3) := by decide +kernel
theorem dX0_countAll_11 : decode cX0_countAll 11 = .ok (.if_icmp .ge 25, 3) := by decide +kernel
theorem dX0_countAll_14 : decode cX0_countAll 14 = .ok (.aload_n 0, 1) := by decide +kernel
theorem dX0_countAll_15 : decode cX0_countAll 15 = .ok (.getfield 28, 3) := by decide +kernel
theorem dX0_countAll_18 : decode cX0_countAll 18 = .ok (.iload_n 2, 1) := by decide +kernel
theorem dX0_countAll_19 : decode cX0_countAll 19 = .ok (.aload_n 0, 1) := by decide +kernel
theorem dX0_countAll_20 : decode cX0_countAll 20 = .ok (.getfield 22, 3) := by decide +kernel
theorem dX0_countAll_23 : decode cX0_countAll 23 = .ok (.iload_n 2, 1) := by decide +kernel
theorem dX0_countAll_24 : decode cX0_countAll 24 = .ok (.iaload, 1) := by decide +kernel
theorem dX0_countAll_25 : decode cX0_countAll 25 = .ok (.invokestatic 158, 3) := by decide +kernel
theorem dX0_countAll_28 : decode cX0_countAll 28 = .ok (.i2l, 1) := by decide +kernel
theorem dX0_countAll_29 : decode cX0_countAll 29 = .ok (.lastore, 1) := by decide +kernel
theorem dX0_countAll_30 : decode cX0_countAll 30 = .ok (.iinc 2 1, 3) := by decide +kernel
theorem dX0_countAll_33 : decode cX0_countAll 33 = .ok (.goto (-31), 3) := by decide +kernel
theorem dX0_countAll_36 : decode cX0_countAll 36 = .ok (.iconst 1, 1) := by decide +kernel
theorem dX0_countAll_37 : decode cX0_countAll 37 = .ok (.istore_n 2, 1) := by decide +kernel
theorem dX0_countAll_38 : decode cX0_countAll 38 = .ok (.iconst 0, 1) := by decide +kernel
theorem dX0_countAll_39 : decode cX0_countAll 39 = .ok (.istore_n 3, 1) := by decide +kernel
theorem dX0_countAll_40 : decode cX0_countAll 40 = .ok (.iload_n 3, 1) := by decide +kernel
theorem dX0_countAll_41 : decode cX0_countAll 41 = .ok (.iload_n 1, 1) := by decide +kernel
theorem dX0_countAll_42 : decode cX0_countAll 42 = .ok (.if_icmp .gt 135, 3) := by decide +kernel
theorem dX0_countAll_45 : decode cX0_countAll 45 = .ok (.iload_n 2, 1) := by decide +kernel
theorem dX0_countAll_46 : decode cX0_countAll 46 = .ok (.ifCond .eq 131, 3) := by decide +kernel
theorem dX0_countAll_49 : decode cX0_countAll 49 = .ok (.iconst 0, 1) := by decide +kernel
theorem dX0_countAll_50 : decode cX0_countAll 50 = .ok (.istore_n 2, 1) := by decide +kernel
theorem dX0_countAll_51 : decode cX0_countAll 51 = .ok (.iconst 0, 1) := by decide +kernel
theorem dX0_countAll_52 : decode cX0_countAll 52 = .ok (.istore 4, 2) := by decide +kernel
theorem dX0_countAll_54 : decode cX0_countAll 54 = .ok (.iload 4, 2) := by decide +kernel
theorem dX0_countAll_56 : decode cX0_countAll 56 = .ok (.iload_n 1, 1) := by decide +kernel
theorem dX0_countAll_57 : decode cX0_countAll 57 = .ok (.if_icmp .ge 94, 3) := by decide +kernel
theorem dX0_countAll_60 : decode cX0_countAll 60 = .ok (.lconst 0, 1) := by decide +kernel
theorem dX0_countAll_61 : decode cX0_countAll 61 = .ok (.lstore 5, 2) := by decide +kernel
theorem dX0_countAll_63 : decode cX0_countAll 63 = .ok (.iconst 0, 1) := by decide +kernel
theorem dX0_countAll_64 : decode cX0_countAll 64 = .ok (.istore 7, 2) := by decide +kernel
theorem dX0_countAll_66 : decode cX0_countAll 66 = .ok (.iload 7, 2) := by decide +kernel
theorem dX0_countAll_68 : decode cX0_countAll 68 = .ok (.aload_n 0, 1) := by decide +kernel
theorem dX0_countAll_69 : decode cX0_countAll 69 = .ok (.getfield 48, 3) := by decide +kernel
theorem dX0_countAll_72 : decode cX0_countAll 72 = .ok (.getfield 92, 3) := by decide +kernel
theorem dX0_countAll_75 : decode cX0_countAll 75 = .ok (.if_icmp .ge 29, 3) := by decide +kernel
theorem dX0_countAll_78 : decode cX0_countAll 78 = .ok (.lload 5, 2) := by decide +kernel
theorem dX0_countAll_80 : decode cX0_countAll 80 = .ok (.aload_n 0, 1) := by decide +kernel
theorem dX0_countAll_81 : decode cX0_countAll 81 = .ok (.aload_n 0, 1) := by decide +kernel
theorem dX0_countAll_82 : decode cX0_countAll 82 = .ok (.getfield 48, 3) := by decide +kernel
theorem dX0_countAll_85 : decode cX0_countAll 85 = .ok (.iload 4, 2) := by decide +kernel
theorem dX0_countAll_87 : decode cX0_countAll 87 = .ok (.iload 7, 2) := by decide +kernel
theorem dX0_countAll_89 : decode cX0_countAll 89 = .ok (.invokevirtual 95, 3) := by decide +kernel
theorem dX0_countAll_92 : decode cX0_countAll 92 = .ok (.invokevirtual 138, 3) := by decide +kernel
theorem dX0_countAll_95 : decode cX0_countAll 95 = .ok (.ladd, 1) := by decide +kernel
theorem dX0_countAll_96 : decode cX0_countAll 96 = .ok (.lstore 5, 2) := by decide +kernel
theorem dX0_countAll_98 : decode cX0_countAll 98 = .ok (.iinc 7 1, 3) := by decide +kernel
theorem dX0_countAll_101 : decode cX0_countAll 101 = .ok (.goto (-35), 3) := by decide +kernel
theorem dX0_countAll_104 : decode cX0_countAll 104 = .ok (.aload_n 0, 1) := by decide +kernel
theorem dX0_countAll_105 : decode cX0_countAll 105 = .ok (.getfield 31, 3) := by decide +kernel
theorem dX0_countAll_108 : decode cX0_countAll 108 = .ok (.iload 4, 2) := by decide +kernel
theorem dX0_countAll_110 : decode cX0_countAll 110 = .ok (.lload 5, 2) := by decide +kernel
theorem dX0_countAll_112 : decode cX0_countAll 112 = .ok (.ldc2_w 163, 3) := by decide +kernel
theorem dX0_countAll_115 : decode cX0_countAll 115 = .ok (.invokestatic 165, 3) := by decide +kernel
theorem dX0_countAll_118 : decode cX0_countAll 118 = .ok (.lastore, 1) := by decide +kernel
theorem dX0_countAll_119 : decode cX0_countAll 119 = .ok (.iload_n 2, 1) := by decide +kernel
theorem dX0_countAll_120 : decode cX0_countAll 120 = .ok (.aload_n 0, 1) := by decide +kernel
theorem dX0_countAll_121 : decode cX0_countAll 121 = .ok (.getfield 31, 3) := by decide +kernel
theorem dX0_countAll_124 : decode cX0_countAll 124 = .ok (.iload 4, 2) := by decide +kernel
theorem dX0_countAll_126 : decode cX0_countAll 126 = .ok (.laload, 1) := by decide +kernel
theorem dX0_countAll_127 : decode cX0_countAll 127 = .ok (.aload_n 0, 1) := by decide +kernel
theorem dX0_countAll_128 : decode cX0_countAll 128 = .ok (.getfield 28, 3) := by decide +kernel
theorem dX0_countAll_131 : decode cX0_countAll 131 = .ok (.iload 4, 2) := by decide +kernel
theorem dX0_countAll_133 : decode cX0_countAll 133 = .ok (.laload, 1) := by decide +kernel
theorem dX0_countAll_134 : decode cX0_countAll 134 = .ok (.lcmp, 1) := by decide +kernel
theorem dX0_countAll_135 : decode cX0_countAll 135 = .ok (.ifCond .eq 7, 3) := by decide +kernel
theorem dX0_countAll_142 : decode cX0_countAll 142 = .ok (.iconst 0, 1) := by decide +kernel
theorem dX0_countAll_143 : decode cX0_countAll 143 = .ok (.ior, 1) := by decide +kernel
theorem dX0_countAll_144 : decode cX0_countAll 144 = .ok (.istore_n 2, 1) := by decide +kernel
theorem dX0_countAll_145 : decode cX0_countAll 145 = .ok (.iinc 4 1, 3) := by decide +kernel
theorem dX0_countAll_148 : decode cX0_countAll 148 = .ok (.goto (-94), 3) := by decide +kernel
theorem dX0_countAll_151 : decode cX0_countAll 151 = .ok (.aload_n 0, 1) := by decide +kernel
theorem dX0_countAll_152 : decode cX0_countAll 152 = .ok (.getfield 31, 3) := by decide +kernel
theorem dX0_countAll_155 : decode cX0_countAll 155 = .ok (.iconst 0, 1) := by decide +kernel
theorem dX0_countAll_156 : decode cX0_countAll 156 = .ok (.aload_n 0, 1) := by decide +kernel
theorem dX0_countAll_157 : decode cX0_countAll 157 = .ok (.getfield 28, 3) := by decide +kernel
theorem dX0_countAll_160 : decode cX0_countAll 160 = .ok (.iconst 0, 1) := by decide +kernel
theorem dX0_countAll_161 : decode cX0_countAll 161 = .ok (.iload_n 1, 1) := by decide +kernel
theorem dX0_countAll_162 : decode cX0_countAll 162 = .ok (.sipush 3000, 3) := by decide +kernel
theorem dX0_countAll_165 : decode cX0_countAll 165 = .ok (.invokestatic 75, 3) := by decide +kernel
theorem dX0_countAll_168 : decode cX0_countAll 168 = .ok (.invokestatic 146, 3) := by decide +kernel
theorem dX0_countAll_171 : decode cX0_countAll 171 = .ok (.iinc 3 1, 3) := by decide +kernel
theorem dX0_countAll_174 : decode cX0_countAll 174 = .ok (.goto (-134), 3) := by decide +kernel
theorem dX0_countAll_177 : decode cX0_countAll 177 = .ok (.aload_n 0, 1) := by decide +kernel
theorem dX0_countAll_178 : decode cX0_countAll 178 = .ok (.getfield 28, 3) := by decide +kernel
theorem dX0_countAll_181 : decode cX0_countAll 181 = .ok (.iconst 0, 1) := by decide +kernel
theorem dX0_countAll_182 : decode cX0_countAll 182 = .ok (.laload, 1) := by decide +kernel
theorem dX0_countAll_183 : decode cX0_countAll 183 = .ok (.l2i, 1) := by decide +kernel
theorem dX0_countAll_184 : decode cX0_countAll 184 = .ok (.ireturn, 1) := by decide +kernel
theorem dX11_many_0 : decode cX11_many 0 = .ok (.aload_n 0, 1) := by decide +kernel
theorem dX11_many_1 : decode cX11_many 1 = .ok (.getfield 16, 3) := by decide +kernel
theorem dX11_many_4 : decode cX11_many 4 = .ok (.getfield 122, 3) := by decide +kernel
theorem dX11_many_7 : decode cX11_many 7 = .ok (.ifCond .eq 6, 3) := by decide +kernel
theorem dX11_many_13 : decode cX11_many 13 = .ok (.aload_n 0, 1) := by decide +kernel
theorem dX11_many_14 : decode cX11_many 14 = .ok (.getfield 55, 3) := by decide +kernel
theorem dX11_many_17 : decode cX11_many 17 = .ok (.aload_n 0, 1) := by decide +kernel
theorem dX11_many_18 : decode cX11_many 18 = .ok (.getfield 23, 3) := by decide +kernel
theorem dX11_many_21 : decode cX11_many 21 = .ok (.getfield 213, 3) := by decide +kernel
theorem dX11_many_24 : decode cX11_many 24 = .ok (.invokevirtual 298, 3) := by decide +kernel
theorem dX11_many_27 : decode cX11_many 27 = .ok (.ifCond .eq 20, 3) := by decide +kernel
theorem dX11_many_30 : decode cX11_many 30 = .ok (.aload_n 0, 1) := by decide +kernel
theorem dX11_many_31 : decode cX11_many 31 = .ok (.getfield 64, 3) := by decide +kernel
theorem dX11_many_34 : decode cX11_many 34 = .ok (.aload_n 0, 1) := by decide +kernel
theorem dX11_many_35 : decode cX11_many 35 = .ok (.getfield 23, 3) := by decide +kernel
theorem dX11_many_38 : decode cX11_many 38 = .ok (.getfield 213, 3) := by decide +kernel
theorem dX11_many_41 : decode cX11_many 41 = .ok (.invokevirtual 339, 3) := by decide +kernel
theorem dX11_many_44 : decode cX11_many 44 = .ok (.goto 5, 3) := by decide +kernel
theorem dX11_many_49 : decode cX11_many 49 = .ok (.ireturn, 1) := by decide +kernel
theorem dX12_firstNews_0 : decode cX12_firstNews 0 = .ok (.iconst 0, 1) := by decide +kernel
theorem dX12_firstNews_1 : decode cX12_firstNews 1 = .ok (.istore_n 2, 1) := by decide +kernel
theorem dX12_firstNews_2 : decode cX12_firstNews 2 = .ok (.iconst 0, 1) := by decide +kernel
theorem dX12_firstNews_3 : decode cX12_firstNews 3 = .ok (.istore_n 3, 1) := by decide +kernel
theorem dX12_firstNews_4 : decode cX12_firstNews 4 = .ok (.iload_n 3, 1) := by decide +kernel
theorem dX12_firstNews_5 : decode cX12_firstNews 5 = .ok (.aload_n 0, 1) := by decide +kernel
theorem dX12_firstNews_6 : decode cX12_firstNews 6 = .ok (.getfield 960, 3) := by decide +kernel
theorem dX12_firstNews_9 : decode cX12_firstNews 9 = .ok (.if_icmp .ge 70, 3) := by decide +kernel
theorem dX12_firstNews_12 : decode cX12_firstNews 12 = .ok (.aload_n 0, 1) := by decide +kernel
theorem dX12_firstNews_13 : decode cX12_firstNews 13 = .ok (.getfield 334, 3) := by decide +kernel
theorem dX12_firstNews_16 : decode cX12_firstNews 16 = .ok (.aload_n 0, 1) := by decide +kernel
theorem dX12_firstNews_17 : decode cX12_firstNews 17 = .ok (.getfield 321, 3) := by decide +kernel
theorem dX12_firstNews_20 : decode cX12_firstNews 20 = .ok (.bipush 16, 2) := by decide +kernel
theorem dX12_firstNews_22 : decode cX12_firstNews 22 = .ok (.iload_n 1, 1) := by decide +kernel
theorem dX12_firstNews_23 : decode cX12_firstNews 23 = .ok (.imul, 1) := by decide +kernel
theorem dX12_firstNews_24 : decode cX12_firstNews 24 = .ok (.iload_n 3, 1) := by decide +kernel
theorem dX12_firstNews_25 : decode cX12_firstNews 25 = .ok (.iadd, 1) := by decide +kernel
theorem dX12_firstNews_26 : decode cX12_firstNews 26 = .ok (.iaload, 1) := by decide +kernel
theorem dX12_firstNews_27 : decode cX12_firstNews 27 = .ok (.iaload, 1) := by decide +kernel
theorem dX12_firstNews_28 : decode cX12_firstNews 28 = .ok (.istore 4, 2) := by decide +kernel
theorem dX12_firstNews_30 : decode cX12_firstNews 30 = .ok (.iconst 0, 1) := by decide +kernel
theorem dX12_firstNews_31 : decode cX12_firstNews 31 = .ok (.istore 5, 2) := by decide +kernel
theorem dX12_firstNews_33 : decode cX12_firstNews 33 = .ok (.iload 5, 2) := by decide +kernel
theorem dX12_firstNews_35 : decode cX12_firstNews 35 = .ok (.aload_n 0, 1) := by decide +kernel
theorem dX12_firstNews_36 : decode cX12_firstNews 36 = .ok (.getfield 960, 3) := by decide +kernel
theorem dX12_firstNews_39 : decode cX12_firstNews 39 = .ok (.if_icmp .ge 34, 3) := by decide +kernel
theorem dX12_firstNews_42 : decode cX12_firstNews 42 = .ok (.iload_n 2, 1) := by decide +kernel
theorem dX12_firstNews_43 : decode cX12_firstNews 43 = .ok (.iload 5, 2) := by decide +kernel
theorem dX12_firstNews_45 : decode cX12_firstNews 45 = .ok (.iload_n 3, 1) := by decide +kernel
theorem dX12_firstNews_46 : decode cX12_firstNews 46 = .ok (.if_icmp .eq 18, 3) := by decide +kernel
theorem dX12_firstNews_64 : decode cX12_firstNews 64 = .ok (.iconst 0, 1) := by decide +kernel
theorem dX12_firstNews_65 : decode cX12_firstNews 65 = .ok (.iadd, 1) := by decide +kernel
theorem dX12_firstNews_66 : decode cX12_firstNews 66 = .ok (.istore_n 2, 1) := by decide +kernel
theorem dX12_firstNews_67 : decode cX12_firstNews 67 = .ok (.iinc 5 1, 3) := by decide +kernel
theorem dX12_firstNews_70 : decode cX12_firstNews 70 = .ok (.goto (-37), 3) := by decide +kernel
theorem dX12_firstNews_73 : decode cX12_firstNews 73 = .ok (.iinc 3 1, 3) := by decide +kernel
theorem dX12_firstNews_76 : decode cX12_firstNews 76 = .ok (.goto (-72), 3) := by decide +kernel
theorem dX12_firstNews_79 : decode cX12_firstNews 79 = .ok (.iload_n 2, 1) := by decide +kernel
theorem dX12_firstNews_80 : decode cX12_firstNews 80 = .ok (.ireturn, 1) := by decide +kernel
set_option maxHeartbeats 400000000 in
set_option maxRecDepth 100000 in
theorem c_J6_bitCount_0f7a4_1 (l : Launch) (E : kE) (D : va_G) (cI cJ cB cZ : ClassId)   : kI l E D (kT cI cJ cB cZ) yJ6_bitCount_0f7a4 vW_J6_bitCount_0f7a4 ({ frames := 0, cells := 0, slots := 0, locals := 0 }) [.int 1] [] (1) [] 0 0 := by
  intro sz
  refine Met.ofW (cc := cJ6_bitCount_0f7a4) (maxL := 1) (ret := (some .int)) (by decide) rfl ?_
  intro p e s m args below meth c s₁ B hml hv
  obtain ⟨rfl, hsz, hP, hK, hD0, hN, hX⟩ := hv
  have hx := B.exec
  have hb := B.bytes
  have hr := B.returns
  have hts := atoms_spec (ws := vW_J6_bitCount_0f7a4) B.pre
  have hown : s.vm.findClass RJ6 = some m.cls := findClass_of_methodNamed B.named
  have hlocks := B.notSynchronized
  subst hsz
  have hD := hD0.self (sz := s.heap.size)
  have hAE := k_AE hD0 hX
  generalize hAe : va_A [] s.heap.size = A at hD hAE ⊢
  have hA : ∀ q : Nat, s.heap.size ≤ q → A q := fun q h => by rw [← hAe]; exact Or.inr h
  have hS : va_S A s.heap s.heap [] := va_S.rf
  have hP : va_P D vwCl [] s.heap := hP
  have hl := lv_entry ([.int 1] : List Value) (n := 1) (Nat.le_of_ble_eq_true rfl)
  rw [lg_entry_eq]
  generalize (lg_sl ([.int 1]) ++ List.replicate (1 - (lg_sl ([.int 1])).length) Slot.unset).toArray = ls at hl ⊢
  have hl : lv_has ls 1 [(0, .int 1)] := hl
  refine lv_iload_n hx hb dJ6_bitCount_0f7a4_0 rfl (lv_at hl 0 rfl) ?_
  refine lv_iload_n hx hb dJ6_bitCount_0f7a4_1 rfl (lv_at hl 0 rfl) ?_
  refine lv_iconst (v := 1) hx hb dJ6_bitCount_0f7a4_2 (by decide) ?_
  refine lv_iushr (v := 0) hx hb dJ6_bitCount_0f7a4_3 (by decide) ?_
  refine lv_ldcw (own := RJ6) (index := 265) (v := 1431655765) hx hb hown (hts (.constant RJ6 265 (1431655765)) (o9_J6_bitCount_0f7a4 _ (List.mem_of_getElem? (i := 0) rfl))) dJ6_bitCount_0f7a4_4 ?_
  refine lv_iand hx hb dJ6_bitCount_0f7a4_7 ?_
  refine k_topi (y := 0) (by decide) ?_
  refine lv_isub hx hb dJ6_bitCount_0f7a4_8 ?_
  refine k_topi (y := 1) (by decide) ?_
  refine lv_istore_n (lv' := [(0, .int 1)]) hx hb dJ6_bitCount_0f7a4_9 rfl hl (by decide) rfl (fun ls hl => ?_)
  refine lv_iload_n hx hb dJ6_bitCount_0f7a4_10 rfl (lv_at hl 0 rfl) ?_
  refine lv_ldcw (own := RJ6) (index := 266) (v := 858993459) hx hb hown (hts (.constant RJ6 266 (858993459)) (o9_J6_bitCount_0f7a4 _ (List.mem_of_getElem? (i := 1) rfl))) dJ6_bitCount_0f7a4_11 ?_
  refine lv_iand hx hb dJ6_bitCount_0f7a4_14 ?_
  refine k_topi (y := 1) (by decide) ?_
  refine lv_iload_n hx hb dJ6_bitCount_0f7a4_15 rfl (lv_at hl 0 rfl) ?_
  refine lv_iconst (v := 2) hx hb dJ6_bitCount_0f7a4_16 (by decide) ?_
  refine lv_iushr (v := 0) hx hb dJ6_bitCount_0f7a4_17 (by decide) ?_
  refine lv_ldcw (own := RJ6) (index := 266) (v := 858993459) hx hb hown (hts (.constant RJ6 266 (858993459)) (o9_J6_bitCount_0f7a4 _ (List.mem_of_getElem? (i := 1) rfl))) dJ6_bitCount_0f7a4_18 ?_
  refine lv_iand hx hb dJ6_bitCount_0f7a4_21 ?_
  refine k_topi (y := 0) (by decide) ?_
  refine lv_iadd hx hb dJ6_bitCount_0f7a4_22 ?_
  refine k_topi (y := 1) (by decide) ?_
  refine lv_istore_n (lv' := [(0, .int 1)]) hx hb dJ6_bitCount_0f7a4_23 rfl hl (by decide) rfl (fun ls hl => ?_)
  refine lv_iload_n hx hb dJ6_bitCount_0f7a4_24 rfl (lv_at hl 0 rfl) ?_
  refine lv_iload_n hx hb dJ6_bitCount_0f7a4_25 rfl (lv_at hl 0 rfl) ?_
  refine lv_iconst (v := 4) hx hb dJ6_bitCount_0f7a4_26 (by decide) ?_
  refine lv_iushr (v := 0) hx hb dJ6_bitCount_0f7a4_27 (by decide) ?_
  refine lv_iadd hx hb dJ6_bitCount_0f7a4_28 ?_
  refine k_topi (y := 1) (by decide) ?_
  refine lv_ldcw (own := RJ6) (index := 267) (v := 252645135) hx hb hown (hts (.constant RJ6 267 (252645135)) (o9_J6_bitCount_0f7a4 _ (List.mem_of_getElem? (i := 2) rfl))) dJ6_bitCount_0f7a4_29 ?_
  refine lv_iand hx hb dJ6_bitCount_0f7a4_32 ?_
  refine k_topi (y := 1) (by decide) ?_
  refine lv_istore_n (lv' := [(0, .int 1)]) hx hb dJ6_bitCount_0f7a4_33 rfl hl (by decide) rfl (fun ls hl => ?_)
  refine lv_iload_n hx hb dJ6_bitCount_0f7a4_34 rfl (lv_at hl 0 rfl) ?_
  refine lv_iload_n hx hb dJ6_bitCount_0f7a4_35 rfl (lv_at hl 0 rfl) ?_
  refine lv_bipush (v := 8) hx hb dJ6_bitCount_0f7a4_36 (by decide) ?_
  refine lv_iushr (v := 0) hx hb dJ6_bitCount_0f7a4_38 (by decide) ?_
  refine lv_iadd hx hb dJ6_bitCount_0f7a4_39 ?_
  refine k_topi (y := 1) (by decide) ?_
  refine lv_istore_n (lv' := [(0, .int 1)]) hx hb dJ6_bitCount_0f7a4_40 rfl hl (by decide) rfl (fun ls hl => ?_)
  refine lv_iload_n hx hb dJ6_bitCount_0f7a4_41 rfl (lv_at hl 0 rfl) ?_
  refine lv_iload_n hx hb dJ6_bitCount_0f7a4_42 rfl (lv_at hl 0 rfl) ?_
  refine lv_bipush (v := 16) hx hb dJ6_bitCount_0f7a4_43 (by decide) ?_
  refine lv_iushr (v := 0) hx hb dJ6_bitCount_0f7a4_45 (by decide) ?_
  refine lv_iadd hx hb dJ6_bitCount_0f7a4_46 ?_
  refine k_topi (y := 1) (by decide) ?_
  refine lv_istore_n (lv' := [(0, .int 1)]) hx hb dJ6_bitCount_0f7a4_47 rfl hl (by decide) rfl (fun ls hl => ?_)
  refine lv_iload_n hx hb dJ6_bitCount_0f7a4_48 rfl (lv_at hl 0 rfl) ?_
  refine lv_bipush (v := 63) hx hb dJ6_bitCount_0f7a4_49 (by decide) ?_
  refine lv_iand hx hb dJ6_bitCount_0f7a4_51 ?_
  refine k_topi (y := 1) (by decide) ?_
  exact W.iret (v := 1) hx hb hr (fun t ht hW => ⟨⟨1, (), rfl, rfl, kB_mk ht hW hP hK hD⟩, hS.F ht⟩) hS.2.2 dJ6_bitCount_0f7a4_52
set_option maxHeartbeats 400000000 in
set_option maxRecDepth 100000 in
theorem c_X0_gainFrom_0 (l : Launch) (E : kE) (D : va_G) (cI cJ cB cZ : ClassId) (h0 : Nat) (f0 : List Value) (h1 : Nat) (g0 : Nat → Int64) (e0 : f0[7]? = some (.ref h1)) (e1 : g0 0 = 1) : kJ l E D (kT cI cJ cB cZ) yX0_gainFrom vW_X0_gainFrom ({ frames := 0, cells := 0, slots := 0, locals := 0 }) [.ref h0, .int 0] [(h0, .inr (0, f0)), (h1, .inl (cJ, 3000, .inr (.inl g0)))] (1) [(h0, .inr (0, f0)), (h1, .inl (cJ, 3000, .inr (.inl g0)))] 0 0 := by
  intro sz
  refine Met.ofW (cc := cX0_gainFrom) (maxL := 2) (ret := (some .long)) (by decide) rfl ?_
  intro p e s m args below meth c s₁ B hml hv
  obtain ⟨rfl, hsz, hP, hK, hD0, hN, hX⟩ := hv
  have hx := B.exec
  have hb := B.bytes
  have hr := B.returns
  have hts := atoms_spec (ws := vW_X0_gainFrom) B.pre
  have hown : s.vm.findClass RX0 = some m.cls := findClass_of_methodNamed B.named
  have hlocks := B.notSynchronized
  have hin0 : ∀ w ∈ wsX00, w ∈ vW_X0_gainFrom := u9_X0_gainFrom_wsX00
  subst hsz
  have hD := hD0.self (sz := s.heap.size)
  have hAE := k_AE hD0 hX
  generalize hAe : va_A [(h0, .inr (0, f0)), (h1, .inl (cJ, 3000, .inr (.inl g0)))] s.heap.size = A at hD hAE ⊢
  have hA : ∀ q : Nat, s.heap.size ≤ q → A q := fun q h => by rw [← hAe]; exact Or.inr h
  have hS : va_S A s.heap s.heap [] := va_S.rf
  have hP : va_P D vwCl [(h0, .inr (0, f0)), (h1, .inl (cJ, 3000, .inr (.inl g0)))] s.heap := hP
  have hl := lv_entry ([.ref h0, .int 0] : List Value) (n := 2) (Nat.le_of_ble_eq_true rfl)
  rw [lg_entry_eq]
  generalize (lg_sl ([.ref h0, .int 0]) ++ List.replicate (2 - (lg_sl ([.ref h0, .int 0])).length) Slot.unset).toArray = ls at hl ⊢
  have hl : lv_has ls 2 [(0, .ref h0), (1, .int 0)] := hl
  refine lv_iload_n hx hb dX0_gainFrom_0 rfl (lv_at hl 1 rfl) ?_
  refine lv_if_lt (tgt := 20) hx hb dX0_gainFrom_1 (by decide) (fun c9 => absurd c9 (by decide)) (fun _ => ?_)
  refine lv_iload_n hx hb dX0_gainFrom_4 rfl (lv_at hl 1 rfl) ?_
  refine lv_sipush (v := 3000) hx hb dX0_gainFrom_5 (by decide) ?_
  refine lv_icmp_ge (tgt := 20) hx hb dX0_gainFrom_8 (by decide) (fun c9 => absurd c9 (by decide)) (fun _ => ?_)
  refine lv_aload_n hx hb dX0_gainFrom_11 rfl (lv_at hl 0 rfl) ?_
  refine k_get (D := D) (ci := 0) (v := .ref h1) (N := 19) hx hb hts hin0 hown hK hP 0 rfl rfl (by decide) f9_0_7 (hts (.fieldLink RX0 28 "IntegerHouse$Answers" "gains" "[J") (o9_X0_gainFrom _ (List.mem_of_getElem? (i := 0) rfl))) e0 dX0_gainFrom_12 ?_
  refine lv_iload_n hx hb dX0_gainFrom_15 rfl (lv_at hl 1 rfl) ?_
  refine va_lald hx hb hK hP 1 1 rfl rfl (k_in (by decide)) dX0_gainFrom_16 ?_
  refine k_topl (y := 1) e1 ?_
  refine lv_goto (tgt := 23) hx hb dX0_gainFrom_17 (by decide) ?_
  exact W.lret (v := 1) hx hb hr (fun t ht hW => ⟨⟨1, (), rfl, rfl, kB_mk ht hW hP hK hD⟩, hS.F ht⟩) hS.2.2 dX0_gainFrom_23
set_option maxHeartbeats 400000000 in
set_option maxRecDepth 100000 in
theorem c_X0_countAll_0 (l : Launch) (E : kE) (D : va_G) (cI cJ cB cZ : ClassId) (h0 : Nat) (f0 : List Value) (h1 : Nat) (h2 : Nat) (g0 : Nat → Int32) (g1 : Nat → Int64) (h3 : Nat) (f1 : List Value) (h4 : Nat) (g2 : Nat → Int32) (h5 : Nat) (g3 : Nat → Int64) (e0 : f0[7]? = some (.ref h1)) (e1 : f0[5]? = some (.ref h2)) (e2 : g0 0 = 1) (e3 : f0[1]? = some (.ref h3)) (e4 : f1[12]? = some (.int 1)) (e5 : f1[7]? = some (.ref h4)) (e6 : g2 0 = 0) (e7 : f0[8]? = some (.ref h5)) : kI l E D (kT cI cJ cB cZ) yX0_countAll vW_X0_countAll ({ frames := 1, cells := 0, slots := 0, locals := 40 }) [.ref h0, .int 1] [(h0, .inr (0, f0)), (h2, .inl (cI, 3000, .inl g0)), (h1, .inl (cJ, 3000, .inr (.inl g1))), (h3, .inr (6, f1)), (h4, .inl (cI, 48000, .inl g2)), (h5, .inl (cJ, 3000, .inr (.inl g3)))] (1) [(h0, .inr (0, f0)), (h2, .inl (cI, 3000, .inl g0)), (h1, .inl (cJ, 3000, .inr (.inl (vp_updL (vp_updL g1 0 1) 0 1)))), (h3, .inr (6, f1)), (h4, .inl (cI, 48000, .inl g2)), (h5, .inl (cJ, 3000, .inr (.inl (vp_updL g3 0 1))))] 0 0 := by
  intro sz
  refine Met.ofW (cc := cX0_countAll) (maxL := 8) (ret := (some .int)) (by decide) rfl ?_
  intro p e s m args below meth c s₁ B hml hv
  obtain ⟨rfl, hsz, hP, hK, hD0, hN, hX⟩ := hv
  have hx := B.exec
  have hb := B.bytes
  have hr := B.returns
  have hts := atoms_spec (ws := vW_X0_countAll) B.pre
  have hown : s.vm.findClass RX0 = some m.cls := findClass_of_methodNamed B.named
  have hlocks := B.notSynchronized
  have hin0 : ∀ w ∈ wsX00, w ∈ vW_X0_countAll := u9_X0_countAll_wsX00
  have hin6 : ∀ w ∈ wsX60, w ∈ vW_X0_countAll := u9_X0_countAll_wsX60
  subst hsz
  have hD := hD0.self (sz := s.heap.size)
  have hAE := k_AE hD0 hX
  generalize hAe : va_A [(h0, .inr (0, f0)), (h2, .inl (cI, 3000, .inl g0)), (h1, .inl (cJ, 3000, .inr (.inl g1))), (h3, .inr (6, f1)), (h4, .inl (cI, 48000, .inl g2)), (h5, .inl (cJ, 3000, .inr (.inl g3)))] s.heap.size = A at hD hAE ⊢
  have hA : ∀ q : Nat, s.heap.size ≤ q → A q := fun q h => by rw [← hAe]; exact Or.inr h
  have hS : va_S A s.heap s.heap [] := va_S.rf
  have hP : va_P D vwCl [(h0, .inr (0, f0)), (h2, .inl (cI, 3000, .inl g0)), (h1, .inl (cJ, 3000, .inr (.inl g1))), (h3, .inr (6, f1)), (h4, .inl (cI, 48000, .inl g2)), (h5, .inl (cJ, 3000, .inr (.inl g3)))] s.heap := hP
  have hl := lv_entry ([.ref h0, .int 1] : List Value) (n := 8) (Nat.le_of_ble_eq_true rfl)
  rw [lg_entry_eq]
  generalize (lg_sl ([.ref h0, .int 1]) ++ List.replicate (8 - (lg_sl ([.ref h0, .int 1])).length) Slot.unset).toArray = ls at hl ⊢
  have hl : lv_has ls 8 [(0, .ref h0), (1, .int 1)] := hl
  refine lv_iconst (v := 0) hx hb dX0_countAll_0 (by decide) ?_
  refine lv_istore_n (lv' := [(2, .int 0), (0, .ref h0), (1, .int 1)]) hx hb dX0_countAll_1 rfl hl (by decide) rfl (fun ls hl => ?_)
  refine lv_iload_n hx hb dX0_countAll_2 rfl (lv_at hl 0 rfl) ?_
  refine lv_iload_n hx hb dX0_countAll_3 rfl (lv_at hl 2 rfl) ?_
  refine lv_icmp_ge (tgt := 36) hx hb dX0_countAll_4 (by decide) (fun c9 => absurd c9 (by decide)) (fun _ => ?_)
  refine lv_iload_n hx hb dX0_countAll_7 rfl (lv_at hl 0 rfl) ?_
  refine lv_sipush (v := 3000) hx hb dX0_countAll_8 (by decide) ?_
  refine lv_icmp_ge (tgt := 36) hx hb dX0_countAll_11 (by decide) (fun c9 => absurd c9 (by decide)) (fun _ => ?_)
  refine lv_aload_n hx hb dX0_countAll_14 rfl (lv_at hl 1 rfl) ?_
  refine k_get (D := D) (ci := 0) (v := .ref h1) (N := 19) hx hb hts hin0 hown hK hP 0 rfl rfl (by decide) f9_0_7 (hts (.fieldLink RX0 28 "IntegerHouse$Answers" "gains" "[J") (o9_X0_countAll _ (List.mem_of_getElem? (i := 0) rfl))) e0 dX0_countAll_15 ?_
  refine lv_iload_n hx hb dX0_countAll_18 rfl (lv_at hl 0 rfl) ?_
  refine lv_aload_n hx hb dX0_countAll_19 rfl (lv_at hl 1 rfl) ?_
  refine k_get (D := D) (ci := 0) (v := .ref h2) (N := 19) hx hb hts hin0 hown hK hP 0 rfl rfl (by decide) f9_0_5 (hts (.fieldLink RX0 22 "IntegerHouse$Answers" "ends" "[I") (o9_X0_countAll _ (List.mem_of_getElem? (i := 1) rfl))) e1 dX0_countAll_20 ?_
  refine lv_iload_n hx hb dX0_countAll_23 rfl (lv_at hl 0 rfl) ?_
  refine va_iald hx hb hK hP 1 0 rfl rfl (k_in (by decide)) dX0_countAll_24 ?_
  refine k_topi (y := 1) e2 ?_
  refine k_cSi (As := [.int 1]) (rest := [.int 0, .ref h1]) (wc := []) (wr := [(h0, .inr (0, f0)), (h2, .inl (cI, 3000, .inl g0)), (h1, .inl (cJ, 3000, .inr (.inl g1))), (h3, .inr (6, f1)), (h4, .inl (cI, 48000, .inl g2)), (h5, .inl (cJ, 3000, .inr (.inl g3)))]) (w1 := []) ⟨hx, hb, hml, hown, hts⟩ hN hX hAE hK hP hD hS hA [] [0, 1, 2, 3, 4, 5] rfl rfl (by decide +kernel) (by decide +kernel) (by decide +kernel) (c_J6_bitCount_0f7a4_1 l E D cI cJ cB cZ  ) (va_cwS 1 hts g9_X0_countAll_J6_bitCount_0f7a4_158 rfl rfl rfl (by decide +kernel) ⟨Nat.le_of_ble_eq_true rfl, Nat.le_of_ble_eq_true rfl⟩) rfl hl.1 (Nat.le_of_ble_eq_true rfl) dX0_countAll_25 ⟨Nat.le_of_ble_eq_true rfl, Nat.le_of_ble_eq_true rfl⟩ (fun H locs hP hD hS => ?_)
  have hP : va_P D vwCl [(h0, .inr (0, f0)), (h2, .inl (cI, 3000, .inl g0)), (h1, .inl (cJ, 3000, .inr (.inl g1))), (h3, .inr (6, f1)), (h4, .inl (cI, 48000, .inl g2)), (h5, .inl (cJ, 3000, .inr (.inl g3)))] H := hP
  have hD : va_D A [(h0, .inr (0, f0)), (h2, .inl (cI, 3000, .inl g0)), (h1, .inl (cJ, 3000, .inr (.inl g1))), (h3, .inr (6, f1)), (h4, .inl (cI, 48000, .inl g2)), (h5, .inl (cJ, 3000, .inr (.inl g3)))] := hD
  refine lv_i2l (v := 1) hx hb dX0_countAll_28 (by decide) ?_
  refine va_last hx hb hK hP hD hS 2 1 rfl rfl (k_in (by decide)) dX0_countAll_29 (fun H locs hP hD hS => ?_)
  have hP : va_P D vwCl [(h0, .inr (0, f0)), (h2, .inl (cI, 3000, .inl g0)), (h1, .inl (cJ, 3000, .inr (.inl (vp_updL g1 0 1)))), (h3, .inr (6, f1)), (h4, .inl (cI, 48000, .inl g2)), (h5, .inl (cJ, 3000, .inr (.inl g3)))] H := hP
  have hD : va_D A [(h0, .inr (0, f0)), (h2, .inl (cI, 3000, .inl g0)), (h1, .inl (cJ, 3000, .inr (.inl (vp_updL g1 0 1)))), (h3, .inr (6, f1)), (h4, .inl (cI, 48000, .inl g2)), (h5, .inl (cJ, 3000, .inr (.inl g3)))] := hD
  refine lv_iinc (v := 1) (lv' := [(2, .int 1), (0, .ref h0), (1, .int 1)]) hx hb dX0_countAll_30 hl (k := 0) rfl (by decide) (by decide) rfl (fun ls hl => ?_)
  refine lv_goto (tgt := 2) hx hb dX0_countAll_33 (by decide) ?_
  refine lv_iload_n hx hb dX0_countAll_2 rfl (lv_at hl 0 rfl) ?_
  refine lv_iload_n hx hb dX0_countAll_3 rfl (lv_at hl 2 rfl) ?_
  refine lv_icmp_ge (tgt := 36) hx hb dX0_countAll_4 (by decide) (fun _ => ?_) (fun c9 => absurd (by decide) c9)
  refine lv_iconst (v := 1) hx hb dX0_countAll_36 (by decide) ?_
  refine lv_istore_n (lv' := [(2, .int 1), (0, .ref h0), (1, .int 1)]) hx hb dX0_countAll_37 rfl hl (by decide) rfl (fun ls hl => ?_)
  refine lv_iconst (v := 0) hx hb dX0_countAll_38 (by decide) ?_
  refine lv_istore_n (lv' := [(3, .int 0), (2, .int 1), (0, .ref h0), (1, .int 1)]) hx hb dX0_countAll_39 rfl hl (by decide) rfl (fun ls hl => ?_)
  refine lv_iload_n hx hb dX0_countAll_40 rfl (lv_at hl 0 rfl) ?_
  refine lv_iload_n hx hb dX0_countAll_41 rfl (lv_at hl 3 rfl) ?_
  refine lv_icmp_gt (tgt := 177) hx hb dX0_countAll_42 (by decide) (fun c9 => absurd c9 (by decide)) (fun _ => ?_)
  refine lv_iload_n hx hb dX0_countAll_45 rfl (lv_at hl 1 rfl) ?_
  refine lv_if_eq (tgt := 177) hx hb dX0_countAll_46 (by decide) (fun c9 => absurd c9 (by decide)) (fun _ => ?_)
  refine lv_iconst (v := 0) hx hb dX0_countAll_49 (by decide) ?_
  refine lv_istore_n (lv' := [(2, .int 0), (3, .int 0), (0, .ref h0), (1, .int 1)]) hx hb dX0_countAll_50 rfl hl (by decide) rfl (fun ls hl => ?_)
  refine lv_iconst (v := 0) hx hb dX0_countAll_51 (by decide) ?_
  refine lv_istore (lv' := [(4, .int 0), (2, .int 0), (3, .int 0), (0, .ref h0), (1, .int 1)]) hx hb dX0_countAll_52 hl (by decide) rfl (fun ls hl => ?_)
  refine lv_iload hx hb dX0_countAll_54 (lv_at hl 0 rfl) ?_
  refine lv_iload_n hx hb dX0_countAll_56 rfl (lv_at hl 4 rfl) ?_
  refine lv_icmp_ge (tgt := 151) hx hb dX0_countAll_57 (by decide) (fun c9 => absurd c9 (by decide)) (fun _ => ?_)
  refine lv_lconst (v := 0) hx hb dX0_countAll_60 (by decide) ?_
  refine lv_lstore (lv' := [(5, .long 0), (4, .int 0), (2, .int 0), (3, .int 0), (0, .ref h0), (1, .int 1)]) hx hb dX0_countAll_61 hl (by decide) rfl (fun ls hl => ?_)
  refine lv_iconst (v := 0) hx hb dX0_countAll_63 (by decide) ?_
  refine lv_istore (lv' := [(7, .int 0), (5, .long 0), (4, .int 0), (2, .int 0), (3, .int 0), (0, .ref h0), (1, .int 1)]) hx hb dX0_countAll_64 hl (by decide) rfl (fun ls hl => ?_)
  refine lv_iload hx hb dX0_countAll_66 (lv_at hl 0 rfl) ?_
  refine lv_aload_n hx hb dX0_countAll_68 rfl (lv_at hl 5 rfl) ?_
  refine k_get (D := D) (ci := 0) (v := .ref h3) (N := 19) hx hb hts hin0 hown hK hP 0 rfl rfl (by decide) f9_0_1 (hts (.fieldLink RX0 48 "IntegerHouse$Answers" "places" "LIntegerHouse$Places;") (o9_X0_countAll _ (List.mem_of_getElem? (i := 5) rfl))) e3 dX0_countAll_69 ?_
  refine k_getN (host := "IntegerHouse") (D := D) (ci := 6) (v := .int 1) (N := 14) hx hb hts hin6 hown hK hP 3 rfl rfl (by decide) f9_6_12 (va_Nw.use rfl (hN.1 ("IntegerHouse$Answers", 92, "IntegerHouse$Places", "letters", "I", "IntegerHouse") (List.mem_of_getElem? (i := 31) rfl))) e4 dX0_countAll_72 ?_
  refine lv_icmp_ge (tgt := 104) hx hb dX0_countAll_75 (by decide) (fun c9 => absurd c9 (by decide)) (fun _ => ?_)
  refine lv_lload hx hb dX0_countAll_78 (lv_at hl 1 rfl) ?_
  refine lv_aload_n hx hb dX0_countAll_80 rfl (lv_at hl 5 rfl) ?_
  refine lv_aload_n hx hb dX0_countAll_81 rfl (lv_at hl 5 rfl) ?_
  refine k_get (D := D) (ci := 0) (v := .ref h3) (N := 19) hx hb hts hin0 hown hK hP 0 rfl rfl (by decide) f9_0_1 (hts (.fieldLink RX0 48 "IntegerHouse$Answers" "places" "LIntegerHouse$Places;") (o9_X0_countAll _ (List.mem_of_getElem? (i := 5) rfl))) e3 dX0_countAll_82 ?_
  refine lv_iload hx hb dX0_countAll_85 (lv_at hl 2 rfl) ?_
  refine lv_iload hx hb dX0_countAll_87 (lv_at hl 0 rfl) ?_
  refine k_cVi (As := [.int 0, .int 0]) (rest := [.ref h0, .long 0]) (wc := [(h3, .inr (6, f1)), (h4, .inl (cI, 48000, .inl g2))]) (wr := [(h0, .inr (0, f0)), (h2, .inl (cI, 3000, .inl g0)), (h1, .inl (cJ, 3000, .inr (.inl (vp_updL g1 0 1)))), (h5, .inl (cJ, 3000, .inr (.inl g3)))]) (w1 := [(h3, .inr (6, f1)), (h4, .inl (cI, 48000, .inl g2))]) ⟨hx, hb, hml, hown, hts⟩ hN hX hAE hK hP hD hS hA [3, 4] [0, 1, 2, 5] (ci := 6) rfl rfl rfl rfl (by decide +kernel) (by decide +kernel) (by decide +kernel) (c_X6_behind_0 l E D cI cJ cB cZ h3 f1 h4 g2 e5 e6) (cwV 2 hts g9_X0_countAll_X6_behind_95 rfl rfl rfl (by decide +kernel) ⟨Nat.le_of_ble_eq_true rfl, Nat.le_of_ble_eq_true rfl⟩) rfl hl.1 (Nat.le_of_ble_eq_true rfl) dX0_countAll_89 ⟨Nat.le_of_ble_eq_true rfl, Nat.le_of_ble_eq_true rfl⟩ (fun H locs hP hD hS => ?_)
  have hP : va_P D vwCl [(h0, .inr (0, f0)), (h2, .inl (cI, 3000, .inl g0)), (h1, .inl (cJ, 3000, .inr (.inl (vp_updL g1 0 1)))), (h5, .inl (cJ, 3000, .inr (.inl g3))), (h3, .inr (6, f1)), (h4, .inl (cI, 48000, .inl g2))] H := hP
  have hD : va_D A [(h0, .inr (0, f0)), (h2, .inl (cI, 3000, .inl g0)), (h1, .inl (cJ, 3000, .inr (.inl (vp_updL g1 0 1)))), (h5, .inl (cJ, 3000, .inr (.inl g3))), (h3, .inr (6, f1)), (h4, .inl (cI, 48000, .inl g2))] := hD
  refine k_cVl (As := [.int 0]) (rest := [.long 0]) (wc := [(h0, .inr (0, f0)), (h1, .inl (cJ, 3000, .inr (.inl (vp_updL g1 0 1))))]) (wr := [(h2, .inl (cI, 3000, .inl g0)), (h5, .inl (cJ, 3000, .inr (.inl g3))), (h3, .inr (6, f1)), (h4, .inl (cI, 48000, .inl g2))]) (w1 := [(h0, .inr (0, f0)), (h1, .inl (cJ, 3000, .inr (.inl (vp_updL g1 0 1))))]) ⟨hx, hb, hml, hown, hts⟩ hN hX hAE hK hP hD hS hA [0, 2] [1, 3, 4, 5] (ci := 0) rfl rfl rfl rfl (by decide +kernel) (by decide +kernel) (by decide +kernel) (c_X0_gainFrom_0 l E D cI cJ cB cZ h0 f0 h1 ((vp_updL g1 0 1)) e0 rfl) (cwV 1 hts g9_X0_countAll_X0_gainFrom_138 rfl rfl rfl (by decide +kernel) ⟨Nat.le_of_ble_eq_true rfl, Nat.le_of_ble_eq_true rfl⟩) rfl hl.1 (Nat.le_of_ble_eq_true rfl) dX0_countAll_92 ⟨Nat.le_of_ble_eq_true rfl, Nat.le_of_ble_eq_true rfl⟩ (fun H locs hP hD hS => ?_)
  have hP : va_P D vwCl [(h2, .inl (cI, 3000, .inl g0)), (h5, .inl (cJ, 3000, .inr (.inl g3))), (h3, .inr (6, f1)), (h4, .inl (cI, 48000, .inl g2)), (h0, .inr (0, f0)), (h1, .inl (cJ, 3000, .inr (.inl (vp_updL g1 0 1))))] H := hP
  have hD : va_D A [(h2, .inl (cI, 3000, .inl g0)), (h5, .inl (cJ, 3000, .inr (.inl g3))), (h3, .inr (6, f1)), (h4, .inl (cI, 48000, .inl g2)), (h0, .inr (0, f0)), (h1, .inl (cJ, 3000, .inr (.inl (vp_updL g1 0 1))))] := hD
  refine lv_ladd hx hb dX0_countAll_95 ?_
  refine k_topl (y := 1) (by decide) ?_
  refine lv_lstore (lv' := [(5, .long 1), (7, .int 0), (4, .int 0), (2, .int 0), (3, .int 0), (0, .ref h0), (1, .int 1)]) hx hb dX0_countAll_96 hl (by decide) rfl (fun ls hl => ?_)
  refine lv_iinc (v := 1) (lv' := [(7, .int 1), (5, .long 1), (4, .int 0), (2, .int 0), (3, .int 0), (0, .ref h0), (1, .int 1)]) hx hb dX0_countAll_98 hl (k := 1) rfl (by decide) (by decide) rfl (fun ls hl => ?_)
  refine lv_goto (tgt := 66) hx hb dX0_countAll_101 (by decide) ?_
  refine lv_iload hx hb dX0_countAll_66 (lv_at hl 0 rfl) ?_
  refine lv_aload_n hx hb dX0_countAll_68 rfl (lv_at hl 5 rfl) ?_
  refine k_get (D := D) (ci := 0) (v := .ref h3) (N := 19) hx hb hts hin0 hown hK hP 4 rfl rfl (by decide) f9_0_1 (hts (.fieldLink RX0 48 "IntegerHouse$Answers" "places" "LIntegerHouse$Places;") (o9_X0_countAll _ (List.mem_of_getElem? (i := 5) rfl))) e3 dX0_countAll_69 ?_
  refine k_getN (host := "IntegerHouse") (D := D) (ci := 6) (v := .int 1) (N := 14) hx hb hts hin6 hown hK hP 2 rfl rfl (by decide) f9_6_12 (va_Nw.use rfl (hN.1 ("IntegerHouse$Answers", 92, "IntegerHouse$Places", "letters", "I", "IntegerHouse") (List.mem_of_getElem? (i := 31) rfl))) e4 dX0_countAll_72 ?_
  refine lv_icmp_ge (tgt := 104) hx hb dX0_countAll_75 (by decide) (fun _ => ?_) (fun c9 => absurd (by decide) c9)
  refine lv_aload_n hx hb dX0_countAll_104 rfl (lv_at hl 5 rfl) ?_
  refine k_get (D := D) (ci := 0) (v := .ref h5) (N := 19) hx hb hts hin0 hown hK hP 4 rfl rfl (by decide) f9_0_8 (hts (.fieldLink RX0 31 "IntegerHouse$Answers" "gained" "[J") (o9_X0_countAll _ (List.mem_of_getElem? (i := 14) rfl))) e7 dX0_countAll_105 ?_
  refine lv_iload hx hb dX0_countAll_108 (lv_at hl 2 rfl) ?_
  refine lv_lload hx hb dX0_countAll_110 (lv_at hl 1 rfl) ?_
  refine lv_ldc2 (own := RX0) (index := 163) (v := 1000000000) hx hb hown (hts (.constantLong RX0 163 (1000000000)) (o9_X0_countAll _ (List.mem_of_getElem? (i := 15) rfl))) dX0_countAll_112 ?_
  refine va_mmin_long hx hb (by rw [hml]; exact hl.1.symm) hown (hts (.methodLink RX0 165 Lib.MathLoose.min_long.x) (o9_X0_countAll _ (List.mem_of_getElem? (i := 16) rfl))) (hts (.static Lib.MathLoose.min_long.x) (o9_X0_countAll _ (List.mem_of_getElem? (i := 17) rfl))) (hts (.initialized "java/lang/Math") (o9_X0_countAll _ (List.mem_of_getElem? (i := 18) rfl))) (hts (.code Lib.MathLoose.min_long.x Lib.MathLoose.min_long.code 4 (some .long)) (o9_X0_countAll _ (List.mem_of_getElem? (i := 19) rfl))) (Nat.le_of_ble_eq_true rfl) (Nat.le_of_ble_eq_true rfl) (Nat.le_of_ble_eq_true rfl) (Nat.le_of_ble_eq_true rfl) dX0_countAll_115 ?_
  refine k_topl (y := 1) (by decide) ?_
  refine va_last hx hb hK hP hD hS 1 1 rfl rfl (k_in (by decide)) dX0_countAll_118 (fun H locs hP hD hS => ?_)
  have hP : va_P D vwCl [(h2, .inl (cI, 3000, .inl g0)), (h5, .inl (cJ, 3000, .inr (.inl (vp_updL g3 0 1)))), (h3, .inr (6, f1)), (h4, .inl (cI, 48000, .inl g2)), (h0, .inr (0, f0)), (h1, .inl (cJ, 3000, .inr (.inl (vp_updL g1 0 1))))] H := hP
  have hD : va_D A [(h2, .inl (cI, 3000, .inl g0)), (h5, .inl (cJ, 3000, .inr (.inl (vp_updL g3 0 1)))), (h3, .inr (6, f1)), (h4, .inl (cI, 48000, .inl g2)), (h0, .inr (0, f0)), (h1, .inl (cJ, 3000, .inr (.inl (vp_updL g1 0 1))))] := hD
  refine lv_iload_n hx hb dX0_countAll_119 rfl (lv_at hl 3 rfl) ?_
  refine lv_aload_n hx hb dX0_countAll_120 rfl (lv_at hl 5 rfl) ?_
  refine k_get (D := D) (ci := 0) (v := .ref h5) (N := 19) hx hb hts hin0 hown hK hP 4 rfl rfl (by decide) f9_0_8 (hts (.fieldLink RX0 31 "IntegerHouse$Answers" "gained" "[J") (o9_X0_countAll _ (List.mem_of_getElem? (i := 14) rfl))) e7 dX0_countAll_121 ?_
  refine lv_iload hx hb dX0_countAll_124 (lv_at hl 2 rfl) ?_
  refine va_lald hx hb hK hP 1 1 rfl rfl (k_in (by decide)) dX0_countAll_126 ?_
  refine k_topl (y := 1) rfl ?_
  refine lv_aload_n hx hb dX0_countAll_127 rfl (lv_at hl 5 rfl) ?_
  refine k_get (D := D) (ci := 0) (v := .ref h1) (N := 19) hx hb hts hin0 hown hK hP 4 rfl rfl (by decide) f9_0_7 (hts (.fieldLink RX0 28 "IntegerHouse$Answers" "gains" "[J") (o9_X0_countAll _ (List.mem_of_getElem? (i := 0) rfl))) e0 dX0_countAll_128 ?_
  refine lv_iload hx hb dX0_countAll_131 (lv_at hl 2 rfl) ?_
  refine va_lald hx hb hK hP 5 1 rfl rfl (k_in (by decide)) dX0_countAll_133 ?_
  refine k_topl (y := 1) rfl ?_
  refine W.lcmp hx hb dX0_countAll_134 ?_
  refine k_topi (y := 0) (by decide) ?_
  refine lv_if_eq (tgt := 142) hx hb dX0_countAll_135 (by decide) (fun _ => ?_) (fun c9 => absurd (by decide) c9)
  refine lv_iconst (v := 0) hx hb dX0_countAll_142 (by decide) ?_
  refine lv_ior hx hb dX0_countAll_143 ?_
  refine k_topi (y := 0) (by decide) ?_
  refine lv_istore_n (lv' := [(2, .int 0), (7, .int 1), (5, .long 1), (4, .int 0), (3, .int 0), (0, .ref h0), (1, .int 1)]) hx hb dX0_countAll_144 rfl hl (by decide) rfl (fun ls hl => ?_)
  refine lv_iinc (v := 1) (lv' := [(4, .int 1), (2, .int 0), (7, .int 1), (5, .long 1), (3, .int 0), (0, .ref h0), (1, .int 1)]) hx hb dX0_countAll_145 hl (k := 3) rfl (by decide) (by decide) rfl (fun ls hl => ?_)
  refine lv_goto (tgt := 54) hx hb dX0_countAll_148 (by decide) ?_
  refine lv_iload hx hb dX0_countAll_54 (lv_at hl 0 rfl) ?_
  refine lv_iload_n hx hb dX0_countAll_56 rfl (lv_at hl 6 rfl) ?_
  refine lv_icmp_ge (tgt := 151) hx hb dX0_countAll_57 (by decide) (fun _ => ?_) (fun c9 => absurd (by decide) c9)
  refine lv_aload_n hx hb dX0_countAll_151 rfl (lv_at hl 5 rfl) ?_
  refine k_get (D := D) (ci := 0) (v := .ref h5) (N := 19) hx hb hts hin0 hown hK hP 4 rfl rfl (by decide) f9_0_8 (hts (.fieldLink RX0 31 "IntegerHouse$Answers" "gained" "[J") (o9_X0_countAll _ (List.mem_of_getElem? (i := 14) rfl))) e7 dX0_countAll_152 ?_
  refine lv_iconst (v := 0) hx hb dX0_countAll_155 (by decide) ?_
  refine lv_aload_n hx hb dX0_countAll_156 rfl (lv_at hl 5 rfl) ?_
  refine k_get (D := D) (ci := 0) (v := .ref h1) (N := 19) hx hb hts hin0 hown hK hP 4 rfl rfl (by decide) f9_0_7 (hts (.fieldLink RX0 28 "IntegerHouse$Answers" "gains" "[J") (o9_X0_countAll _ (List.mem_of_getElem? (i := 0) rfl))) e0 dX0_countAll_157 ?_
  refine lv_iconst (v := 0) hx hb dX0_countAll_160 (by decide) ?_
  refine lv_iload_n hx hb dX0_countAll_161 rfl (lv_at hl 6 rfl) ?_
  refine lv_sipush (v := 3000) hx hb dX0_countAll_162 (by decide) ?_
  refine va_mmin hx hb (by rw [hml]; exact hl.1.symm) hown (hts (.methodLink RX0 75 Lib.Math.min.name) (o9_X0_countAll _ (List.mem_of_getElem? (i := 20) rfl))) (hts (.static Lib.Math.min.name) (o9_X0_countAll _ (List.mem_of_getElem? (i := 21) rfl))) (hts (.initialized "java/lang/Math") (o9_X0_countAll _ (List.mem_of_getElem? (i := 18) rfl))) (hts (.code Lib.Math.min.name Lib.Math.min.code 2 (some .int)) (o9_X0_countAll _ (List.mem_of_getElem? (i := 22) rfl))) (Nat.le_of_ble_eq_true rfl) (Nat.le_of_ble_eq_true rfl) (Nat.le_of_ble_eq_true rfl) (Nat.le_of_ble_eq_true rfl) dX0_countAll_165 ?_
  refine k_topi (y := 1) (by decide) ?_
  refine va_copyl (ty := .long) hx hb (by rw [hml]; exact hl.1.symm) hown (hts (.methodLink RX0 146 arraycopyName) (o9_X0_countAll _ (List.mem_of_getElem? (i := 23) rfl))) (hts (.native arraycopyName) (o9_X0_countAll _ (List.mem_of_getElem? (i := 24) rfl))) (hts (.static arraycopyName) (o9_X0_countAll _ (List.mem_of_getElem? (i := 25) rfl))) (hts (.initialized "java/lang/System") (o9_X0_countAll _ (List.mem_of_getElem? (i := 26) rfl))) hK hP hD hS 1 5 1 1 rfl rfl rfl rfl rfl (by decide) (by decide) (by decide) (Nat.le_of_ble_eq_true rfl) (Nat.le_of_ble_eq_true rfl) (fun _ _ => rfl) (Nat.le_of_ble_eq_true rfl) (Nat.le_of_ble_eq_true rfl) dX0_countAll_168 (fun H locs hP hD hS => ?_)
  have hP : va_P D vwCl [(h2, .inl (cI, 3000, .inl g0)), (h5, .inl (cJ, 3000, .inr (.inl (vp_updL g3 0 1)))), (h3, .inr (6, f1)), (h4, .inl (cI, 48000, .inl g2)), (h0, .inr (0, f0)), (h1, .inl (cJ, 3000, .inr (.inl (vp_updL (vp_updL g1 0 1) 0 1))))] H := by rw [← k_cpy1L (f := (vp_updL g3 0 1)) (g := (vp_updL g1 0 1)) (v := 1) rfl]; exact hP
  have hD : va_D A [(h2, .inl (cI, 3000, .inl g0)), (h5, .inl (cJ, 3000, .inr (.inl (vp_updL g3 0 1)))), (h3, .inr (6, f1)), (h4, .inl (cI, 48000, .inl g2)), (h0, .inr (0, f0)), (h1, .inl (cJ, 3000, .inr (.inl (vp_updL (vp_updL g1 0 1) 0 1))))] := by rw [← k_cpy1L (f := (vp_updL g3 0 1)) (g := (vp_updL g1 0 1)) (v := 1) rfl]; exact hD
  refine lv_iinc (v := 1) (lv' := [(3, .int 1), (4, .int 1), (2, .int 0), (7, .int 1), (5, .long 1), (0, .ref h0), (1, .int 1)]) hx hb dX0_countAll_171 hl (k := 4) rfl (by decide) (by decide) rfl (fun ls hl => ?_)
  refine lv_goto (tgt := 40) hx hb dX0_countAll_174 (by decide) ?_
  refine lv_iload_n hx hb dX0_countAll_40 rfl (lv_at hl 0 rfl) ?_
  refine lv_iload_n hx hb dX0_countAll_41 rfl (lv_at hl 6 rfl) ?_
  refine lv_icmp_gt (tgt := 177) hx hb dX0_countAll_42 (by decide) (fun c9 => absurd c9 (by decide)) (fun _ => ?_)
  refine lv_iload_n hx hb dX0_countAll_45 rfl (lv_at hl 2 rfl) ?_
  refine lv_if_eq (tgt := 177) hx hb dX0_countAll_46 (by decide) (fun _ => ?_) (fun c9 => absurd (by decide) c9)
  refine lv_aload_n hx hb dX0_countAll_177 rfl (lv_at hl 5 rfl) ?_
  refine k_get (D := D) (ci := 0) (v := .ref h1) (N := 19) hx hb hts hin0 hown hK hP 4 rfl rfl (by decide) f9_0_7 (hts (.fieldLink RX0 28 "IntegerHouse$Answers" "gains" "[J") (o9_X0_countAll _ (List.mem_of_getElem? (i := 0) rfl))) e0 dX0_countAll_178 ?_
  refine lv_iconst (v := 0) hx hb dX0_countAll_181 (by decide) ?_
  refine va_lald hx hb hK hP 5 1 rfl rfl (k_in (by decide)) dX0_countAll_182 ?_
  refine k_topl (y := 1) rfl ?_
  refine lv_l2i (v := 1) hx hb dX0_countAll_183 (by decide) ?_
  have hP := hP.sub (ws' := [(h0, .inr (0, f0)), (h2, .inl (cI, 3000, .inl g0)), (h1, .inl (cJ, 3000, .inr (.inl (vp_updL (vp_updL g1 0 1) 0 1)))), (h3, .inr (6, f1)), (h4, .inl (cI, 48000, .inl g2)), (h5, .inl (cJ, 3000, .inr (.inl (vp_updL g3 0 1))))]) [4, 0, 5, 2, 3, 1] rfl
  have hD := hD.sub (ws' := [(h0, .inr (0, f0)), (h2, .inl (cI, 3000, .inl g0)), (h1, .inl (cJ, 3000, .inr (.inl (vp_updL (vp_updL g1 0 1) 0 1)))), (h3, .inr (6, f1)), (h4, .inl (cI, 48000, .inl g2)), (h5, .inl (cJ, 3000, .inr (.inl (vp_updL g3 0 1))))]) [4, 0, 5, 2, 3, 1] (by decide +kernel) rfl
  exact W.iret (v := 1) hx hb hr (fun t ht hW => ⟨⟨1, (), rfl, rfl, kB_mk ht hW hP hK hD⟩, hS.F ht⟩) hS.2.2 dX0_countAll_184
set_option maxHeartbeats 400000000 in
set_option maxRecDepth 100000 in
theorem c_X0_howMany_0 (l : Launch) (E : kE) (D : va_G) (cI cJ cB cZ : ClassId) (h0 : Nat) (f0 : List Value) (h1 : Nat) (f1 : List Value) (h2 : Nat) (h3 : Nat) (g0 : Nat → Int32) (g1 : Nat → Int32) (h4 : Nat) (g2 : Nat → Int32) (h5 : Nat) (g3 : Nat → Int32) (h6 : Nat) (h7 : Nat) (g4 : Nat → Int64) (g5 : Nat → Int64) (e0 : f0[1]? = some (.ref h1)) (e1 : f1[13]? = some (.int 1)) (e2 : f0[5]? = some (.ref h2)) (e3 : f1[12]? = some (.int 1)) (e4 : f1[8]? = some (.ref h3)) (e5 : g0 0 = 0) (e6 : f0[4]? = some (.ref h4)) (e7 : f1[7]? = some (.ref h5)) (e8 : g3 0 = 0) (e9 : f0[7]? = some (.ref h6)) (e10 : f0[8]? = some (.ref h7)) : kI l E D (kT cI cJ cB cZ) yX0_howMany vW_X0_howMany ({ frames := 3, cells := 0, slots := 0, locals := 75 }) [.ref h0, .int 0] [(h0, .inr (0, f0)), (h1, .inr (6, f1)), (h3, .inl (cI, 48000, .inl g0)), (h2, .inl (cI, 3000, .inl g1)), (h4, .inl (cI, 3000, .inl g2)), (h5, .inl (cI, 48000, .inl g3)), (h6, .inl (cJ, 3000, .inr (.inl g4))), (h7, .inl (cJ, 3000, .inr (.inl g5)))] (1) [(h0, .inr (0, f0)), (h1, .inr (6, f1)), (h3, .inl (cI, 48000, .inl g0)), (h2, .inl (cI, 3000, .inl (upd g1 0 1))), (h4, .inl (cI, 3000, .inl (upd (upd g2 0 0) 0 0))), (h5, .inl (cI, 48000, .inl g3)), (h6, .inl (cJ, 3000, .inr (.inl (vp_updL (vp_updL g4 0 1) 0 1)))), (h7, .inl (cJ, 3000, .inr (.inl (vp_updL g5 0 1))))] 0 0 := by
  intro sz
  refine Met.ofW (cc := cX0_howMany) (maxL := 6) (ret := (some .int)) (by decide) rfl ?_
  intro p e s m args below meth c s₁ B hml hv
  obtain ⟨rfl, hsz, hP, hK, hD0, hN, hX⟩ := hv
  have hx := B.exec
  have hb := B.bytes
  have hr := B.returns
  have hts := atoms_spec (ws := vW_X0_howMany) B.pre
  have hown : s.vm.findClass RX0 = some m.cls := findClass_of_methodNamed B.named
  have hlocks := B.notSynchronized
  have hin0 : ∀ w ∈ wsX00, w ∈ vW_X0_howMany := u9_X0_howMany_wsX00
  have hin6 : ∀ w ∈ wsX60, w ∈ vW_X0_howMany := u9_X0_howMany_wsX60
  subst hsz
  have hD := hD0.self (sz := s.heap.size)
  have hAE := k_AE hD0 hX
  generalize hAe : va_A [(h0, .inr (0, f0)), (h1, .inr (6, f1)), (h3, .inl (cI, 48000, .inl g0)), (h2, .inl (cI, 3000, .inl g1)), (h4, .inl (cI, 3000, .inl g2)), (h5, .inl (cI, 48000, .inl g3)), (h6, .inl (cJ, 3000, .inr (.inl g4))), (h7, .inl (cJ, 3000, .inr (.inl g5)))] s.heap.size = A at hD hAE ⊢
  have hA : ∀ q : Nat, s.heap.size ≤ q → A q := fun q h => by rw [← hAe]; exact Or.inr h
  have hS : va_S A s.heap s.heap [] := va_S.rf
  have hP : va_P D vwCl [(h0, .inr (0, f0)), (h1, .inr (6, f1)), (h3, .inl (cI, 48000, .inl g0)), (h2, .inl (cI, 3000, .inl g1)), (h4, .inl (cI, 3000, .inl g2)), (h5, .inl (cI, 48000, .inl g3)), (h6, .inl (cJ, 3000, .inr (.inl g4))), (h7, .inl (cJ, 3000, .inr (.inl g5)))] s.heap := hP
  have hl := lv_entry ([.ref h0, .int 0] : List Value) (n := 6) (Nat.le_of_ble_eq_true rfl)
  rw [lg_entry_eq]
  generalize (lg_sl ([.ref h0, .int 0]) ++ List.replicate (6 - (lg_sl ([.ref h0, .int 0])).length) Slot.unset).toArray = ls at hl ⊢
  have hl : lv_has ls 6 [(0, .ref h0), (1, .int 0)] := hl
  refine lv_aload_n hx hb dX0_howMany_0 rfl (lv_at hl 0 rfl) ?_
  refine lv_iload_n hx hb dX0_howMany_1 rfl (lv_at hl 1 rfl) ?_
  refine lv_iconst (v := 0) hx hb dX0_howMany_2 (by decide) ?_
  refine k_cVi (As := [.int 0, .int 0]) (rest := []) (wc := [(h0, .inr (0, f0)), (h1, .inr (6, f1)), (h3, .inl (cI, 48000, .inl g0)), (h2, .inl (cI, 3000, .inl g1))]) (wr := [(h4, .inl (cI, 3000, .inl g2)), (h5, .inl (cI, 48000, .inl g3)), (h6, .inl (cJ, 3000, .inr (.inl g4))), (h7, .inl (cJ, 3000, .inr (.inl g5)))]) (w1 := [(h0, .inr (0, f0)), (h1, .inr (6, f1)), (h3, .inl (cI, 48000, .inl g0)), (h2, .inl (cI, 3000, .inl (upd g1 0 1)))]) ⟨hx, hb, hml, hown, hts⟩ hN hX hAE hK hP hD hS hA [0, 1, 2, 3] [4, 5, 6, 7] (ci := 0) rfl rfl rfl rfl (by decide +kernel) (by decide +kernel) (by decide +kernel) (c_X0_findEnds_0 l E D cI cJ cB cZ h0 f0 h1 f1 h2 h3 g0 g1 e0 e1 e2 e3 e4 e5) (cwV 2 hts g9_X0_howMany_X0_findEnds_82 rfl rfl rfl (by decide +kernel) ⟨Nat.le_of_ble_eq_true rfl, Nat.le_of_ble_eq_true rfl⟩) rfl hl.1 (Nat.le_of_ble_eq_true rfl) dX0_howMany_3 ⟨Nat.le_of_ble_eq_true rfl, Nat.le_of_ble_eq_true rfl⟩ (fun H locs hP hD hS => ?_)
  have hP : va_P D vwCl [(h4, .inl (cI, 3000, .inl g2)), (h5, .inl (cI, 48000, .inl g3)), (h6, .inl (cJ, 3000, .inr (.inl g4))), (h7, .inl (cJ, 3000, .inr (.inl g5))), (h0, .inr (0, f0)), (h1, .inr (6, f1)), (h3, .inl (cI, 48000, .inl g0)), (h2, .inl (cI, 3000, .inl (upd g1 0 1)))] H := hP
  have hD : va_D A [(h4, .inl (cI, 3000, .inl g2)), (h5, .inl (cI, 48000, .inl g3)), (h6, .inl (cJ, 3000, .inr (.inl g4))), (h7, .inl (cJ, 3000, .inr (.inl g5))), (h0, .inr (0, f0)), (h1, .inr (6, f1)), (h3, .inl (cI, 48000, .inl g0)), (h2, .inl (cI, 3000, .inl (upd g1 0 1)))] := hD
  refine lv_istore_n (lv' := [(2, .int 1), (0, .ref h0), (1, .int 0)]) hx hb dX0_howMany_6 rfl hl (by decide) rfl (fun ls hl => ?_)
  refine lv_iconst (v := 0) hx hb dX0_howMany_7 (by decide) ?_
  refine lv_istore_n (lv' := [(3, .int 0), (2, .int 1), (0, .ref h0), (1, .int 0)]) hx hb dX0_howMany_8 rfl hl (by decide) rfl (fun ls hl => ?_)
  refine lv_iload_n hx hb dX0_howMany_9 rfl (lv_at hl 0 rfl) ?_
  refine lv_iload_n hx hb dX0_howMany_10 rfl (lv_at hl 1 rfl) ?_
  refine lv_icmp_ge (tgt := 86) hx hb dX0_howMany_11 (by decide) (fun c9 => absurd c9 (by decide)) (fun _ => ?_)
  refine lv_aload_n hx hb dX0_howMany_14 rfl (lv_at hl 2 rfl) ?_
  refine k_get (D := D) (ci := 0) (v := .ref h4) (N := 19) hx hb hts hin0 hown hK hP 4 rfl rfl (by decide) f9_0_4 (hts (.fieldLink RX0 18 "IntegerHouse$Answers" "far" "[I") (o9_X0_howMany _ (List.mem_of_getElem? (i := 4) rfl))) e6 dX0_howMany_15 ?_
  refine lv_iload_n hx hb dX0_howMany_18 rfl (lv_at hl 0 rfl) ?_
  refine lv_iconst (v := 0) hx hb dX0_howMany_19 (by decide) ?_
  refine va_iast hx hb hK hP hD hS 0 0 rfl rfl (k_in (by decide)) dX0_howMany_20 (fun H locs hP hD hS => ?_)
  have hP : va_P D vwCl [(h4, .inl (cI, 3000, .inl (upd g2 0 0))), (h5, .inl (cI, 48000, .inl g3)), (h6, .inl (cJ, 3000, .inr (.inl g4))), (h7, .inl (cJ, 3000, .inr (.inl g5))), (h0, .inr (0, f0)), (h1, .inr (6, f1)), (h3, .inl (cI, 48000, .inl g0)), (h2, .inl (cI, 3000, .inl (upd g1 0 1)))] H := hP
  have hD : va_D A [(h4, .inl (cI, 3000, .inl (upd g2 0 0))), (h5, .inl (cI, 48000, .inl g3)), (h6, .inl (cJ, 3000, .inr (.inl g4))), (h7, .inl (cJ, 3000, .inr (.inl g5))), (h0, .inr (0, f0)), (h1, .inr (6, f1)), (h3, .inl (cI, 48000, .inl g0)), (h2, .inl (cI, 3000, .inl (upd g1 0 1)))] := hD
  refine lv_iconst (v := 0) hx hb dX0_howMany_21 (by decide) ?_
  refine lv_istore (lv' := [(4, .int 0), (3, .int 0), (2, .int 1), (0, .ref h0), (1, .int 0)]) hx hb dX0_howMany_22 hl (by decide) rfl (fun ls hl => ?_)
  refine lv_iload hx hb dX0_howMany_24 (lv_at hl 0 rfl) ?_
  refine lv_aload_n hx hb dX0_howMany_26 rfl (lv_at hl 3 rfl) ?_
  refine k_get (D := D) (ci := 0) (v := .ref h1) (N := 19) hx hb hts hin0 hown hK hP 4 rfl rfl (by decide) f9_0_1 (hts (.fieldLink RX0 48 "IntegerHouse$Answers" "places" "LIntegerHouse$Places;") (o9_X0_howMany _ (List.mem_of_getElem? (i := 5) rfl))) e0 dX0_howMany_27 ?_
  refine k_getN (host := "IntegerHouse") (D := D) (ci := 6) (v := .int 1) (N := 14) hx hb hts hin6 hown hK hP 5 rfl rfl (by decide) f9_6_12 (va_Nw.use rfl (hN.1 ("IntegerHouse$Answers", 92, "IntegerHouse$Places", "letters", "I", "IntegerHouse") (List.mem_of_getElem? (i := 31) rfl))) e3 dX0_howMany_30 ?_
  refine lv_icmp_ge (tgt := 80) hx hb dX0_howMany_33 (by decide) (fun c9 => absurd c9 (by decide)) (fun _ => ?_)
  refine lv_aload_n hx hb dX0_howMany_36 rfl (lv_at hl 3 rfl) ?_
  refine k_get (D := D) (ci := 0) (v := .ref h4) (N := 19) hx hb hts hin0 hown hK hP 4 rfl rfl (by decide) f9_0_4 (hts (.fieldLink RX0 18 "IntegerHouse$Answers" "far" "[I") (o9_X0_howMany _ (List.mem_of_getElem? (i := 4) rfl))) e6 dX0_howMany_37 ?_
  refine lv_iload_n hx hb dX0_howMany_40 rfl (lv_at hl 1 rfl) ?_
  refine lv_dup2_11 hx hb dX0_howMany_41 rfl rfl ?_
  refine va_iald hx hb hK hP 0 0 rfl rfl (k_in (by decide)) dX0_howMany_42 ?_
  refine k_topi (y := 0) rfl ?_
  refine lv_aload_n hx hb dX0_howMany_43 rfl (lv_at hl 3 rfl) ?_
  refine lv_aload_n hx hb dX0_howMany_44 rfl (lv_at hl 3 rfl) ?_
  refine k_get (D := D) (ci := 0) (v := .ref h1) (N := 19) hx hb hts hin0 hown hK hP 4 rfl rfl (by decide) f9_0_1 (hts (.fieldLink RX0 48 "IntegerHouse$Answers" "places" "LIntegerHouse$Places;") (o9_X0_howMany _ (List.mem_of_getElem? (i := 5) rfl))) e0 dX0_howMany_45 ?_
  refine lv_iload_n hx hb dX0_howMany_48 rfl (lv_at hl 1 rfl) ?_
  refine lv_iload hx hb dX0_howMany_49 (lv_at hl 0 rfl) ?_
  refine k_cVi (As := [.int 0, .int 0]) (rest := [.ref h0, .int 0, .int 0, .ref h4]) (wc := [(h1, .inr (6, f1)), (h5, .inl (cI, 48000, .inl g3))]) (wr := [(h4, .inl (cI, 3000, .inl (upd g2 0 0))), (h6, .inl (cJ, 3000, .inr (.inl g4))), (h7, .inl (cJ, 3000, .inr (.inl g5))), (h0, .inr (0, f0)), (h3, .inl (cI, 48000, .inl g0)), (h2, .inl (cI, 3000, .inl (upd g1 0 1)))]) (w1 := [(h1, .inr (6, f1)), (h5, .inl (cI, 48000, .inl g3))]) ⟨hx, hb, hml, hown, hts⟩ hN hX hAE hK hP hD hS hA [5, 1] [0, 2, 3, 4, 6, 7] (ci := 6) rfl rfl rfl rfl (by decide +kernel) (by decide +kernel) (by decide +kernel) (c_X6_behind_0 l E D cI cJ cB cZ h1 f1 h5 g3 e7 e8) (cwV 2 hts g9_X0_howMany_X6_behind_95 rfl rfl rfl (by decide +kernel) ⟨Nat.le_of_ble_eq_true rfl, Nat.le_of_ble_eq_true rfl⟩) rfl hl.1 (Nat.le_of_ble_eq_true rfl) dX0_howMany_51 ⟨Nat.le_of_ble_eq_true rfl, Nat.le_of_ble_eq_true rfl⟩ (fun H locs hP hD hS => ?_)
  have hP : va_P D vwCl [(h4, .inl (cI, 3000, .inl (upd g2 0 0))), (h6, .inl (cJ, 3000, .inr (.inl g4))), (h7, .inl (cJ, 3000, .inr (.inl g5))), (h0, .inr (0, f0)), (h3, .inl (cI, 48000, .inl g0)), (h2, .inl (cI, 3000, .inl (upd g1 0 1))), (h1, .inr (6, f1)), (h5, .inl (cI, 48000, .inl g3))] H := hP
  have hD : va_D A [(h4, .inl (cI, 3000, .inl (upd g2 0 0))), (h6, .inl (cJ, 3000, .inr (.inl g4))), (h7, .inl (cJ, 3000, .inr (.inl g5))), (h0, .inr (0, f0)), (h3, .inl (cI, 48000, .inl g0)), (h2, .inl (cI, 3000, .inl (upd g1 0 1))), (h1, .inr (6, f1)), (h5, .inl (cI, 48000, .inl g3))] := hD
  refine k_cVi (As := [.int 0]) (rest := [.int 0, .int 0, .ref h4]) (wc := [(h0, .inr (0, f0)), (h2, .inl (cI, 3000, .inl (upd g1 0 1)))]) (wr := [(h4, .inl (cI, 3000, .inl (upd g2 0 0))), (h6, .inl (cJ, 3000, .inr (.inl g4))), (h7, .inl (cJ, 3000, .inr (.inl g5))), (h3, .inl (cI, 48000, .inl g0)), (h1, .inr (6, f1)), (h5, .inl (cI, 48000, .inl g3))]) (w1 := [(h0, .inr (0, f0)), (h2, .inl (cI, 3000, .inl (upd g1 0 1)))]) ⟨hx, hb, hml, hown, hts⟩ hN hX hAE hK hP hD hS hA [3, 5] [0, 1, 2, 4, 6, 7] (ci := 0) rfl rfl rfl rfl (by decide +kernel) (by decide +kernel) (by decide +kernel) (c_X0_endsOf_0 l E D cI cJ cB cZ h0 f0 h2 ((upd g1 0 1)) e2 rfl) (cwV 1 hts g9_X0_howMany_X0_endsOf_112 rfl rfl rfl (by decide +kernel) ⟨Nat.le_of_ble_eq_true rfl, Nat.le_of_ble_eq_true rfl⟩) rfl hl.1 (Nat.le_of_ble_eq_true rfl) dX0_howMany_54 ⟨Nat.le_of_ble_eq_true rfl, Nat.le_of_ble_eq_true rfl⟩ (fun H locs hP hD hS => ?_)
  have hP : va_P D vwCl [(h4, .inl (cI, 3000, .inl (upd g2 0 0))), (h6, .inl (cJ, 3000, .inr (.inl g4))), (h7, .inl (cJ, 3000, .inr (.inl g5))), (h3, .inl (cI, 48000, .inl g0)), (h1, .inr (6, f1)), (h5, .inl (cI, 48000, .inl g3)), (h0, .inr (0, f0)), (h2, .inl (cI, 3000, .inl (upd g1 0 1)))] H := hP
  have hD : va_D A [(h4, .inl (cI, 3000, .inl (upd g2 0 0))), (h6, .inl (cJ, 3000, .inr (.inl g4))), (h7, .inl (cJ, 3000, .inr (.inl g5))), (h3, .inl (cI, 48000, .inl g0)), (h1, .inr (6, f1)), (h5, .inl (cI, 48000, .inl g3)), (h0, .inr (0, f0)), (h2, .inl (cI, 3000, .inl (upd g1 0 1)))] := hD
  refine lv_iconst (v := 1) hx hb dX0_howMany_57 (by decide) ?_
  refine lv_iload hx hb dX0_howMany_58 (lv_at hl 0 rfl) ?_
  refine lv_ishl hx hb dX0_howMany_60 ?_
  refine k_topi (y := 1) (by decide) ?_
  refine lv_iconst (v := (-1)) hx hb dX0_howMany_61 (by decide) ?_
  refine lv_ixor hx hb dX0_howMany_62 ?_
  refine k_topi (y := (-2)) (by decide) ?_
  refine lv_iand hx hb dX0_howMany_63 ?_
  refine k_topi (y := 0) (by decide) ?_
  refine lv_if_eq (tgt := 71) hx hb dX0_howMany_64 (by decide) (fun _ => ?_) (fun c9 => absurd (by decide) c9)
  refine lv_iconst (v := 0) hx hb dX0_howMany_71 (by decide) ?_
  refine lv_ior hx hb dX0_howMany_72 ?_
  refine k_topi (y := 0) (by decide) ?_
  refine va_iast hx hb hK hP hD hS 0 0 rfl rfl (k_in (by decide)) dX0_howMany_73 (fun H locs hP hD hS => ?_)
  have hP : va_P D vwCl [(h4, .inl (cI, 3000, .inl (upd (upd g2 0 0) 0 0))), (h6, .inl (cJ, 3000, .inr (.inl g4))), (h7, .inl (cJ, 3000, .inr (.inl g5))), (h3, .inl (cI, 48000, .inl g0)), (h1, .inr (6, f1)), (h5, .inl (cI, 48000, .inl g3)), (h0, .inr (0, f0)), (h2, .inl (cI, 3000, .inl (upd g1 0 1)))] H := hP
  have hD : va_D A [(h4, .inl (cI, 3000, .inl (upd (upd g2 0 0) 0 0))), (h6, .inl (cJ, 3000, .inr (.inl g4))), (h7, .inl (cJ, 3000, .inr (.inl g5))), (h3, .inl (cI, 48000, .inl g0)), (h1, .inr (6, f1)), (h5, .inl (cI, 48000, .inl g3)), (h0, .inr (0, f0)), (h2, .inl (cI, 3000, .inl (upd g1 0 1)))] := hD
  refine lv_iinc (v := 1) (lv' := [(4, .int 1), (3, .int 0), (2, .int 1), (0, .ref h0), (1, .int 0)]) hx hb dX0_howMany_74 hl (k := 0) rfl (by decide) (by decide) rfl (fun ls hl => ?_)
  refine lv_goto (tgt := 24) hx hb dX0_howMany_77 (by decide) ?_
  refine lv_iload hx hb dX0_howMany_24 (lv_at hl 0 rfl) ?_
  refine lv_aload_n hx hb dX0_howMany_26 rfl (lv_at hl 3 rfl) ?_
  refine k_get (D := D) (ci := 0) (v := .ref h1) (N := 19) hx hb hts hin0 hown hK hP 6 rfl rfl (by decide) f9_0_1 (hts (.fieldLink RX0 48 "IntegerHouse$Answers" "places" "LIntegerHouse$Places;") (o9_X0_howMany _ (List.mem_of_getElem? (i := 5) rfl))) e0 dX0_howMany_27 ?_
  refine k_getN (host := "IntegerHouse") (D := D) (ci := 6) (v := .int 1) (N := 14) hx hb hts hin6 hown hK hP 4 rfl rfl (by decide) f9_6_12 (va_Nw.use rfl (hN.1 ("IntegerHouse$Answers", 92, "IntegerHouse$Places", "letters", "I", "IntegerHouse") (List.mem_of_getElem? (i := 31) rfl))) e3 dX0_howMany_30 ?_
  refine lv_icmp_ge (tgt := 80) hx hb dX0_howMany_33 (by decide) (fun _ => ?_) (fun c9 => absurd (by decide) c9)
  refine lv_iinc (v := 1) (lv' := [(3, .int 1), (4, .int 1), (2, .int 1), (0, .ref h0), (1, .int 0)]) hx hb dX0_howMany_80 hl (k := 1) rfl (by decide) (by decide) rfl (fun ls hl => ?_)
  refine lv_goto (tgt := 9) hx hb dX0_howMany_83 (by decide) ?_
  refine lv_iload_n hx hb dX0_howMany_9 rfl (lv_at hl 0 rfl) ?_
  refine lv_iload_n hx hb dX0_howMany_10 rfl (lv_at hl 2 rfl) ?_
  refine lv_icmp_ge (tgt := 86) hx hb dX0_howMany_11 (by decide) (fun _ => ?_) (fun c9 => absurd (by decide) c9)
  refine lv_iconst (v := 1) hx hb dX0_howMany_86 (by decide) ?_
  refine lv_istore_n (lv' := [(3, .int 1), (4, .int 1), (2, .int 1), (0, .ref h0), (1, .int 0)]) hx hb dX0_howMany_87 rfl hl (by decide) rfl (fun ls hl => ?_)
  refine lv_iconst (v := 0) hx hb dX0_howMany_88 (by decide) ?_
  refine lv_istore (lv' := [(4, .int 0), (3, .int 1), (2, .int 1), (0, .ref h0), (1, .int 0)]) hx hb dX0_howMany_89 hl (by decide) rfl (fun ls hl => ?_)
  refine lv_iload hx hb dX0_howMany_91 (lv_at hl 0 rfl) ?_
  refine lv_iload_n hx hb dX0_howMany_93 rfl (lv_at hl 2 rfl) ?_
  refine lv_icmp_gt (tgt := 114) hx hb dX0_howMany_94 (by decide) (fun c9 => absurd c9 (by decide)) (fun _ => ?_)
  refine lv_iload_n hx hb dX0_howMany_97 rfl (lv_at hl 1 rfl) ?_
  refine lv_if_eq (tgt := 114) hx hb dX0_howMany_98 (by decide) (fun c9 => absurd c9 (by decide)) (fun _ => ?_)
  refine lv_aload_n hx hb dX0_howMany_101 rfl (lv_at hl 3 rfl) ?_
  refine lv_iload_n hx hb dX0_howMany_102 rfl (lv_at hl 2 rfl) ?_
  refine lv_iconst (v := 0) hx hb dX0_howMany_103 (by decide) ?_
  refine k_cVi (As := [.int 1, .int 0]) (rest := []) (wc := [(h0, .inr (0, f0)), (h4, .inl (cI, 3000, .inl (upd (upd g2 0 0) 0 0))), (h1, .inr (6, f1)), (h5, .inl (cI, 48000, .inl g3))]) (wr := [(h6, .inl (cJ, 3000, .inr (.inl g4))), (h7, .inl (cJ, 3000, .inr (.inl g5))), (h3, .inl (cI, 48000, .inl g0)), (h2, .inl (cI, 3000, .inl (upd g1 0 1)))]) (w1 := [(h0, .inr (0, f0)), (h4, .inl (cI, 3000, .inl (upd (upd g2 0 0) 0 0))), (h1, .inr (6, f1)), (h5, .inl (cI, 48000, .inl g3))]) ⟨hx, hb, hml, hown, hts⟩ hN hX hAE hK hP hD hS hA [6, 0, 4, 5] [1, 2, 3, 7] (ci := 0) rfl rfl rfl rfl (by decide +kernel) (by decide +kernel) (by decide +kernel) (c_X0_mark_0 l E D cI cJ cB cZ h0 f0 h4 ((upd (upd g2 0 0) 0 0)) h1 f1 h5 g3 e6 rfl e0 e3 e7 e8) (cwV 2 hts g9_X0_howMany_X0_mark_152 rfl rfl rfl (by decide +kernel) ⟨Nat.le_of_ble_eq_true rfl, Nat.le_of_ble_eq_true rfl⟩) rfl hl.1 (Nat.le_of_ble_eq_true rfl) dX0_howMany_104 ⟨Nat.le_of_ble_eq_true rfl, Nat.le_of_ble_eq_true rfl⟩ (fun H locs hP hD hS => ?_)
  have hP : va_P D vwCl [(h6, .inl (cJ, 3000, .inr (.inl g4))), (h7, .inl (cJ, 3000, .inr (.inl g5))), (h3, .inl (cI, 48000, .inl g0)), (h2, .inl (cI, 3000, .inl (upd g1 0 1))), (h0, .inr (0, f0)), (h4, .inl (cI, 3000, .inl (upd (upd g2 0 0) 0 0))), (h1, .inr (6, f1)), (h5, .inl (cI, 48000, .inl g3))] H := hP
  have hD : va_D A [(h6, .inl (cJ, 3000, .inr (.inl g4))), (h7, .inl (cJ, 3000, .inr (.inl g5))), (h3, .inl (cI, 48000, .inl g0)), (h2, .inl (cI, 3000, .inl (upd g1 0 1))), (h0, .inr (0, f0)), (h4, .inl (cI, 3000, .inl (upd (upd g2 0 0) 0 0))), (h1, .inr (6, f1)), (h5, .inl (cI, 48000, .inl g3))] := hD
  refine lv_istore_n (lv' := [(3, .int 0), (4, .int 0), (2, .int 1), (0, .ref h0), (1, .int 0)]) hx hb dX0_howMany_107 rfl hl (by decide) rfl (fun ls hl => ?_)
  refine lv_iinc (v := 1) (lv' := [(4, .int 1), (3, .int 0), (2, .int 1), (0, .ref h0), (1, .int 0)]) hx hb dX0_howMany_108 hl (k := 1) rfl (by decide) (by decide) rfl (fun ls hl => ?_)
  refine lv_goto (tgt := 91) hx hb dX0_howMany_111 (by decide) ?_
  refine lv_iload hx hb dX0_howMany_91 (lv_at hl 0 rfl) ?_
  refine lv_iload_n hx hb dX0_howMany_93 rfl (lv_at hl 2 rfl) ?_
  refine lv_icmp_gt (tgt := 114) hx hb dX0_howMany_94 (by decide) (fun c9 => absurd c9 (by decide)) (fun _ => ?_)
  refine lv_iload_n hx hb dX0_howMany_97 rfl (lv_at hl 1 rfl) ?_
  refine lv_if_eq (tgt := 114) hx hb dX0_howMany_98 (by decide) (fun _ => ?_) (fun c9 => absurd (by decide) c9)
  refine lv_iconst (v := 1) hx hb dX0_howMany_114 (by decide) ?_
  refine lv_istore (lv' := [(4, .int 1), (3, .int 0), (2, .int 1), (0, .ref h0), (1, .int 0)]) hx hb dX0_howMany_115 hl (by decide) rfl (fun ls hl => ?_)
  refine lv_iconst (v := 0) hx hb dX0_howMany_117 (by decide) ?_
  refine lv_istore (lv' := [(5, .int 0), (4, .int 1), (3, .int 0), (2, .int 1), (0, .ref h0), (1, .int 0)]) hx hb dX0_howMany_118 hl (by decide) rfl (fun ls hl => ?_)
  refine lv_iload hx hb dX0_howMany_120 (lv_at hl 0 rfl) ?_
  refine lv_iload_n hx hb dX0_howMany_122 rfl (lv_at hl 3 rfl) ?_
  refine lv_icmp_gt (tgt := 145) hx hb dX0_howMany_123 (by decide) (fun c9 => absurd c9 (by decide)) (fun _ => ?_)
  refine lv_iload hx hb dX0_howMany_126 (lv_at hl 1 rfl) ?_
  refine lv_if_eq (tgt := 145) hx hb dX0_howMany_128 (by decide) (fun c9 => absurd c9 (by decide)) (fun _ => ?_)
  refine lv_aload_n hx hb dX0_howMany_131 rfl (lv_at hl 4 rfl) ?_
  refine lv_iload_n hx hb dX0_howMany_132 rfl (lv_at hl 3 rfl) ?_
  refine lv_iconst (v := 1) hx hb dX0_howMany_133 (by decide) ?_
  refine k_cVi (As := [.int 1, .int 1]) (rest := []) (wc := [(h0, .inr (0, f0)), (h4, .inl (cI, 3000, .inl (upd (upd g2 0 0) 0 0)))]) (wr := [(h6, .inl (cJ, 3000, .inr (.inl g4))), (h7, .inl (cJ, 3000, .inr (.inl g5))), (h3, .inl (cI, 48000, .inl g0)), (h2, .inl (cI, 3000, .inl (upd g1 0 1))), (h1, .inr (6, f1)), (h5, .inl (cI, 48000, .inl g3))]) (w1 := [(h0, .inr (0, f0)), (h4, .inl (cI, 3000, .inl (upd (upd g2 0 0) 0 0)))]) ⟨hx, hb, hml, hown, hts⟩ hN hX hAE hK hP hD hS hA [4, 5] [0, 1, 2, 3, 6, 7] (ci := 0) rfl rfl rfl rfl (by decide +kernel) (by decide +kernel) (by decide +kernel) (c_X0_mark_1 l E D cI cJ cB cZ h0 f0 h4 ((upd (upd g2 0 0) 0 0)) e6 rfl) (cwV 2 hts g9_X0_howMany_X0_mark_152 rfl rfl rfl (by decide +kernel) ⟨Nat.le_of_ble_eq_true rfl, Nat.le_of_ble_eq_true rfl⟩) rfl hl.1 (Nat.le_of_ble_eq_true rfl) dX0_howMany_134 ⟨Nat.le_of_ble_eq_true rfl, Nat.le_of_ble_eq_true rfl⟩ (fun H locs hP hD hS => ?_)
  have hP : va_P D vwCl [(h6, .inl (cJ, 3000, .inr (.inl g4))), (h7, .inl (cJ, 3000, .inr (.inl g5))), (h3, .inl (cI, 48000, .inl g0)), (h2, .inl (cI, 3000, .inl (upd g1 0 1))), (h1, .inr (6, f1)), (h5, .inl (cI, 48000, .inl g3)), (h0, .inr (0, f0)), (h4, .inl (cI, 3000, .inl (upd (upd g2 0 0) 0 0)))] H := hP
  have hD : va_D A [(h6, .inl (cJ, 3000, .inr (.inl g4))), (h7, .inl (cJ, 3000, .inr (.inl g5))), (h3, .inl (cI, 48000, .inl g0)), (h2, .inl (cI, 3000, .inl (upd g1 0 1))), (h1, .inr (6, f1)), (h5, .inl (cI, 48000, .inl g3)), (h0, .inr (0, f0)), (h4, .inl (cI, 3000, .inl (upd (upd g2 0 0) 0 0)))] := hD
  refine lv_istore (lv' := [(4, .int 0), (5, .int 0), (3, .int 0), (2, .int 1), (0, .ref h0), (1, .int 0)]) hx hb dX0_howMany_137 hl (by decide) rfl (fun ls hl => ?_)
  refine lv_iinc (v := 1) (lv' := [(5, .int 1), (4, .int 0), (3, .int 0), (2, .int 1), (0, .ref h0), (1, .int 0)]) hx hb dX0_howMany_139 hl (k := 1) rfl (by decide) (by decide) rfl (fun ls hl => ?_)
  refine lv_goto (tgt := 120) hx hb dX0_howMany_142 (by decide) ?_
  refine lv_iload hx hb dX0_howMany_120 (lv_at hl 0 rfl) ?_
  refine lv_iload_n hx hb dX0_howMany_122 rfl (lv_at hl 3 rfl) ?_
  refine lv_icmp_gt (tgt := 145) hx hb dX0_howMany_123 (by decide) (fun c9 => absurd c9 (by decide)) (fun _ => ?_)
  refine lv_iload hx hb dX0_howMany_126 (lv_at hl 1 rfl) ?_
  refine lv_if_eq (tgt := 145) hx hb dX0_howMany_128 (by decide) (fun _ => ?_) (fun c9 => absurd (by decide) c9)
  refine lv_iconst (v := 0) hx hb dX0_howMany_145 (by decide) ?_
  refine lv_istore (lv' := [(5, .int 0), (4, .int 0), (3, .int 0), (2, .int 1), (0, .ref h0), (1, .int 0)]) hx hb dX0_howMany_146 hl (by decide) rfl (fun ls hl => ?_)
  refine lv_iload hx hb dX0_howMany_148 (lv_at hl 0 rfl) ?_
  refine lv_iload_n hx hb dX0_howMany_150 rfl (lv_at hl 3 rfl) ?_
  refine lv_icmp_ge (tgt := 174) hx hb dX0_howMany_151 (by decide) (fun c9 => absurd c9 (by decide)) (fun _ => ?_)
  refine lv_aload_n hx hb dX0_howMany_154 rfl (lv_at hl 4 rfl) ?_
  refine k_get (D := D) (ci := 0) (v := .ref h4) (N := 19) hx hb hts hin0 hown hK hP 6 rfl rfl (by decide) f9_0_4 (hts (.fieldLink RX0 18 "IntegerHouse$Answers" "far" "[I") (o9_X0_howMany _ (List.mem_of_getElem? (i := 4) rfl))) e6 dX0_howMany_155 ?_
  refine lv_iload hx hb dX0_howMany_158 (lv_at hl 0 rfl) ?_
  refine va_iald hx hb hK hP 7 0 rfl rfl (k_in (by decide)) dX0_howMany_160 ?_
  refine k_topi (y := 0) rfl ?_
  refine lv_iconst (v := 1) hx hb dX0_howMany_161 (by decide) ?_
  refine lv_icmp_ne (tgt := 168) hx hb dX0_howMany_162 (by decide) (fun _ => ?_) (fun c9 => absurd c9 (by decide))
  refine lv_iinc (v := 1) (lv' := [(5, .int 1), (4, .int 0), (3, .int 0), (2, .int 1), (0, .ref h0), (1, .int 0)]) hx hb dX0_howMany_168 hl (k := 0) rfl (by decide) (by decide) rfl (fun ls hl => ?_)
  refine lv_goto (tgt := 148) hx hb dX0_howMany_171 (by decide) ?_
  refine lv_iload hx hb dX0_howMany_148 (lv_at hl 0 rfl) ?_
  refine lv_iload_n hx hb dX0_howMany_150 rfl (lv_at hl 3 rfl) ?_
  refine lv_icmp_ge (tgt := 174) hx hb dX0_howMany_151 (by decide) (fun _ => ?_) (fun c9 => absurd (by decide) c9)
  refine lv_aload_n hx hb dX0_howMany_174 rfl (lv_at hl 4 rfl) ?_
  refine lv_iload_n hx hb dX0_howMany_175 rfl (lv_at hl 3 rfl) ?_
  refine k_cVi (As := [.int 1]) (rest := []) (wc := [(h0, .inr (0, f0)), (h2, .inl (cI, 3000, .inl (upd g1 0 1))), (h6, .inl (cJ, 3000, .inr (.inl g4))), (h1, .inr (6, f1)), (h5, .inl (cI, 48000, .inl g3)), (h7, .inl (cJ, 3000, .inr (.inl g5)))]) (wr := [(h3, .inl (cI, 48000, .inl g0)), (h4, .inl (cI, 3000, .inl (upd (upd g2 0 0) 0 0)))]) (w1 := [(h0, .inr (0, f0)), (h2, .inl (cI, 3000, .inl (upd g1 0 1))), (h6, .inl (cJ, 3000, .inr (.inl (vp_updL (vp_updL g4 0 1) 0 1)))), (h1, .inr (6, f1)), (h5, .inl (cI, 48000, .inl g3)), (h7, .inl (cJ, 3000, .inr (.inl (vp_updL g5 0 1))))]) ⟨hx, hb, hml, hown, hts⟩ hN hX hAE hK hP hD hS hA [6, 3, 0, 4, 5, 1] [2, 7] (ci := 0) rfl rfl rfl rfl (by decide +kernel) (by decide +kernel) (by decide +kernel) (c_X0_countAll_0 l E D cI cJ cB cZ h0 f0 h6 h2 ((upd g1 0 1)) g4 h1 f1 h5 g3 h7 g5 e9 e2 rfl e0 e3 e7 e8 e10) (cwV 1 hts g9_X0_howMany_X0_countAll_155 rfl rfl rfl (by decide +kernel) ⟨Nat.le_of_ble_eq_true rfl, Nat.le_of_ble_eq_true rfl⟩) rfl hl.1 (Nat.le_of_ble_eq_true rfl) dX0_howMany_176 ⟨Nat.le_of_ble_eq_true rfl, Nat.le_of_ble_eq_true rfl⟩ (fun H locs hP hD hS => ?_)
  have hP : va_P D vwCl [(h3, .inl (cI, 48000, .inl g0)), (h4, .inl (cI, 3000, .inl (upd (upd g2 0 0) 0 0))), (h0, .inr (0, f0)), (h2, .inl (cI, 3000, .inl (upd g1 0 1))), (h6, .inl (cJ, 3000, .inr (.inl (vp_updL (vp_updL g4 0 1) 0 1)))), (h1, .inr (6, f1)), (h5, .inl (cI, 48000, .inl g3)), (h7, .inl (cJ, 3000, .inr (.inl (vp_updL g5 0 1))))] H := hP
  have hD : va_D A [(h3, .inl (cI, 48000, .inl g0)), (h4, .inl (cI, 3000, .inl (upd (upd g2 0 0) 0 0))), (h0, .inr (0, f0)), (h2, .inl (cI, 3000, .inl (upd g1 0 1))), (h6, .inl (cJ, 3000, .inr (.inl (vp_updL (vp_updL g4 0 1) 0 1)))), (h1, .inr (6, f1)), (h5, .inl (cI, 48000, .inl g3)), (h7, .inl (cJ, 3000, .inr (.inl (vp_updL g5 0 1))))] := hD
  have hP := hP.sub (ws' := [(h0, .inr (0, f0)), (h1, .inr (6, f1)), (h3, .inl (cI, 48000, .inl g0)), (h2, .inl (cI, 3000, .inl (upd g1 0 1))), (h4, .inl (cI, 3000, .inl (upd (upd g2 0 0) 0 0))), (h5, .inl (cI, 48000, .inl g3)), (h6, .inl (cJ, 3000, .inr (.inl (vp_updL (vp_updL g4 0 1) 0 1)))), (h7, .inl (cJ, 3000, .inr (.inl (vp_updL g5 0 1))))]) [2, 5, 0, 3, 1, 6, 4, 7] rfl
  have hD := hD.sub (ws' := [(h0, .inr (0, f0)), (h1, .inr (6, f1)), (h3, .inl (cI, 48000, .inl g0)), (h2, .inl (cI, 3000, .inl (upd g1 0 1))), (h4, .inl (cI, 3000, .inl (upd (upd g2 0 0) 0 0))), (h5, .inl (cI, 48000, .inl g3)), (h6, .inl (cJ, 3000, .inr (.inl (vp_updL (vp_updL g4 0 1) 0 1)))), (h7, .inl (cJ, 3000, .inr (.inl (vp_updL g5 0 1))))]) [2, 5, 0, 3, 1, 6, 4, 7] (by decide +kernel) rfl
  exact W.iret (v := 1) hx hb hr (fun t ht hW => ⟨⟨1, (), rfl, rfl, kB_mk ht hW hP hK hD⟩, hS.F ht⟩) hS.2.2 dX0_howMany_179
set_option maxHeartbeats 400000000 in
set_option maxRecDepth 100000 in
theorem c_X11_many_0 (l : Launch) (E : kE) (D : va_G) (cI cJ cB cZ : ClassId) (h0 : Nat) (f0 : List Value) (h1 : Nat) (f1 : List Value) (h2 : Nat) (h3 : Nat) (f2 : List Value) (f3 : List Value) (h4 : Nat) (h5 : Nat) (h6 : Nat) (g0 : Nat → Int32) (g1 : Nat → Int32) (g2 : Nat → Int32) (h7 : Nat) (f4 : List Value) (h8 : Nat) (h9 : Nat) (h10 : Nat) (h11 : Nat) (g3 : Nat → Int32) (g4 : Nat → Int32) (g5 : Nat → Int64) (g6 : Nat → Int64) (e0 : f0[1]? = some (.ref h1)) (e1 : f1[8]? = some (.int 0)) (e2 : f0[6]? = some (.ref h2)) (e3 : f0[2]? = some (.ref h3)) (e4 : f2[13]? = some (.int 0)) (e5 : f3[10]? = some (.int 0)) (e6 : f3[11]? = some (.int 0)) (e7 : f3[0]? = some (.ref h3)) (e8 : f2[10]? = some (.int 0)) (e9 : f3[12]? = some (.int 0)) (e10 : f3[9]? = some (.ref h4)) (e11 : f3[13]? = some (.int 0)) (e12 : f3[7]? = some (.ref h5)) (e13 : f3[8]? = some (.ref h6)) (e14 : f0[7]? = some (.ref h7)) (e15 : f4[1]? = some (.ref h2)) (e16 : f4[5]? = some (.ref h8)) (e17 : f4[4]? = some (.ref h9)) (e18 : f4[7]? = some (.ref h10)) (e19 : f4[8]? = some (.ref h11)) : kI l E D (kT cI cJ cB cZ) yX11_many vW_X11_many ({ frames := 5, cells := 0, slots := 0, locals := 115 }) [.ref h0] [(h0, .inr (11, f0)), (h1, .inr (1, f1)), (h3, .inr (2, f2)), (h2, .inr (6, f3)), (h4, .inl (cI, 8192, .inl g0)), (h5, .inl (cI, 48000, .inl g1)), (h6, .inl (cI, 48000, .inl g2)), (h7, .inr (0, f4)), (h8, .inl (cI, 3000, .inl g3)), (h9, .inl (cI, 3000, .inl g4)), (h10, .inl (cJ, 3000, .inr (.inl g5))), (h11, .inl (cJ, 3000, .inr (.inl g6)))] (1) [(h0, .inr (11, f0)), (h1, .inr (1, f1)), (h3, .inr (2, f2)), (h2, .inr (6, ((((((((((((((((((((((((((((((f3.set 10 (.int 0)).set 11 (.int 0)).set 12 (.int 1)).set 11 (.int 0)).set 11 (.int 0)).set 11 (.int 0)).set 11 (.int 0)).set 11 (.int 0)).set 11 (.int 0)).set 11 (.int 0)).set 11 (.int 0)).set 11 (.int 0)).set 11 (.int 0)).set 11 (.int 0)).set 11 (.int 0)).set 11 (.int 0)).set 11 (.int 0)).set 11 (.int 0)).set 11 (.int 0)).set 11 (.int 0)).set 11 (.int 0)).set 11 (.int 0)).set 11 (.int 0)).set 11 (.int 0)).set 11 (.int 0)).set 11 (.int 0)).set 11 (.int 0)).set 11 (.int 0)).set 13 (.int 0)).set 13 (.int 1)))), (h4, .inl (cI, 8192, .inl (upd (k_fill 0 8192 g0) 782 1))), (h5, .inl (cI, 48000, .inl (upd g1 0 0))), (h6, .inl (cI, 48000, .inl (upd g2 0 0))), (h7, .inr (0, f4)), (h8, .inl (cI, 3000, .inl (upd g3 0 1))), (h9, .inl (cI, 3000, .inl (upd (upd g4 0 0) 0 0))), (h10, .inl (cJ, 3000, .inr (.inl (vp_updL (vp_updL g5 0 1) 0 1)))), (h11, .inl (cJ, 3000, .inr (.inl (vp_updL g6 0 1))))] 0 0 := by
  intro sz
  refine Met.ofW (cc := cX11_many) (maxL := 1) (ret := (some .int)) (by decide) rfl ?_
  intro p e s m args below meth c s₁ B hml hv
  obtain ⟨rfl, hsz, hP, hK, hD0, hN, hX⟩ := hv
  have hx := B.exec
  have hb := B.bytes
  have hr := B.returns
  have hts := atoms_spec (ws := vW_X11_many) B.pre
  have hown : s.vm.findClass RX11 = some m.cls := findClass_of_methodNamed B.named
  have hlocks := B.notSynchronized
  have hin11 : ∀ w ∈ wsX110, w ∈ vW_X11_many := u9_X11_many_wsX110
  have hin1 : ∀ w ∈ wsX10, w ∈ vW_X11_many := u9_X11_many_wsX10
  have hin2 : ∀ w ∈ wsX20, w ∈ vW_X11_many := u9_X11_many_wsX20
  subst hsz
  have hD := hD0.self (sz := s.heap.size)
  have hAE := k_AE hD0 hX
  generalize hAe : va_A [(h0, .inr (11, f0)), (h1, .inr (1, f1)), (h3, .inr (2, f2)), (h2, .inr (6, f3)), (h4, .inl (cI, 8192, .inl g0)), (h5, .inl (cI, 48000, .inl g1)), (h6, .inl (cI, 48000, .inl g2)), (h7, .inr (0, f4)), (h8, .inl (cI, 3000, .inl g3)), (h9, .inl (cI, 3000, .inl g4)), (h10, .inl (cJ, 3000, .inr (.inl g5))), (h11, .inl (cJ, 3000, .inr (.inl g6)))] s.heap.size = A at hD hAE ⊢
  have hA : ∀ q : Nat, s.heap.size ≤ q → A q := fun q h => by rw [← hAe]; exact Or.inr h
  have hS : va_S A s.heap s.heap [] := va_S.rf
  have hP : va_P D vwCl [(h0, .inr (11, f0)), (h1, .inr (1, f1)), (h3, .inr (2, f2)), (h2, .inr (6, f3)), (h4, .inl (cI, 8192, .inl g0)), (h5, .inl (cI, 48000, .inl g1)), (h6, .inl (cI, 48000, .inl g2)), (h7, .inr (0, f4)), (h8, .inl (cI, 3000, .inl g3)), (h9, .inl (cI, 3000, .inl g4)), (h10, .inl (cJ, 3000, .inr (.inl g5))), (h11, .inl (cJ, 3000, .inr (.inl g6)))] s.heap := hP
  have hl := lv_entry ([.ref h0] : List Value) (n := 1) (Nat.le_of_ble_eq_true rfl)
  rw [lg_entry_eq]
  generalize (lg_sl ([.ref h0]) ++ List.replicate (1 - (lg_sl ([.ref h0])).length) Slot.unset).toArray = ls at hl ⊢
  have hl : lv_has ls 1 [(0, .ref h0)] := hl
  refine lv_aload_n hx hb dX11_many_0 rfl (lv_at hl 0 rfl) ?_
  refine k_get (D := D) (ci := 11) (v := .ref h1) (N := 15) hx hb hts hin11 hown hK hP 0 rfl rfl (by decide) f9_11_1 (hts (.fieldLink RX11 16 "IntegerHouse" "disk" "LIntegerHouse$Disk;") (o9_X11_many _ (List.mem_of_getElem? (i := 0) rfl))) e0 dX11_many_1 ?_
  refine k_getN (host := "IntegerHouse") (D := D) (ci := 1) (v := .int 0) (N := 9) hx hb hts hin1 hown hK hP 1 rfl rfl (by decide) f9_1_8 (va_Nw.use rfl (hN.1 ("IntegerHouse", 122, "IntegerHouse$Disk", "down", "Z", "IntegerHouse") (List.mem_of_getElem? (i := 3) rfl))) e1 dX11_many_4 ?_
  refine lv_if_eq (tgt := 13) hx hb dX11_many_7 (by decide) (fun _ => ?_) (fun c9 => absurd (by decide) c9)
  refine lv_aload_n hx hb dX11_many_13 rfl (lv_at hl 0 rfl) ?_
  refine k_get (D := D) (ci := 11) (v := .ref h2) (N := 15) hx hb hts hin11 hown hK hP 0 rfl rfl (by decide) f9_11_6 (hts (.fieldLink RX11 55 "IntegerHouse" "places" "LIntegerHouse$Places;") (o9_X11_many _ (List.mem_of_getElem? (i := 1) rfl))) e2 dX11_many_14 ?_
  refine lv_aload_n hx hb dX11_many_17 rfl (lv_at hl 0 rfl) ?_
  refine k_get (D := D) (ci := 11) (v := .ref h3) (N := 15) hx hb hts hin11 hown hK hP 0 rfl rfl (by decide) f9_11_2 (hts (.fieldLink RX11 23 "IntegerHouse" "house" "LIntegerHouse$House;") (o9_X11_many _ (List.mem_of_getElem? (i := 2) rfl))) e3 dX11_many_18 ?_
  refine k_getN (host := "IntegerHouse") (D := D) (ci := 2) (v := .int 0) (N := 16) hx hb hts hin2 hown hK hP 2 rfl rfl (by decide) f9_2_13 (va_Nw.use rfl (hN.1 ("IntegerHouse", 213, "IntegerHouse$House", "on", "I", "IntegerHouse") (List.mem_of_getElem? (i := 20) rfl))) e4 dX11_many_21 ?_
  refine k_cVi (As := [.int 0]) (rest := []) (wc := [(h2, .inr (6, f3)), (h3, .inr (2, f2)), (h4, .inl (cI, 8192, .inl g0)), (h5, .inl (cI, 48000, .inl g1)), (h6, .inl (cI, 48000, .inl g2))]) (wr := [(h0, .inr (11, f0)), (h1, .inr (1, f1)), (h7, .inr (0, f4)), (h8, .inl (cI, 3000, .inl g3)), (h9, .inl (cI, 3000, .inl g4)), (h10, .inl (cJ, 3000, .inr (.inl g5))), (h11, .inl (cJ, 3000, .inr (.inl g6)))]) (w1 := [(h2, .inr (6, ((((((((((((((((((((((((((((((f3.set 10 (.int 0)).set 11 (.int 0)).set 12 (.int 1)).set 11 (.int 0)).set 11 (.int 0)).set 11 (.int 0)).set 11 (.int 0)).set 11 (.int 0)).set 11 (.int 0)).set 11 (.int 0)).set 11 (.int 0)).set 11 (.int 0)).set 11 (.int 0)).set 11 (.int 0)).set 11 (.int 0)).set 11 (.int 0)).set 11 (.int 0)).set 11 (.int 0)).set 11 (.int 0)).set 11 (.int 0)).set 11 (.int 0)).set 11 (.int 0)).set 11 (.int 0)).set 11 (.int 0)).set 11 (.int 0)).set 11 (.int 0)).set 11 (.int 0)).set 11 (.int 0)).set 13 (.int 0)).set 13 (.int 1)))), (h3, .inr (2, f2)), (h4, .inl (cI, 8192, .inl (upd (k_fill 0 8192 g0) 782 1))), (h5, .inl (cI, 48000, .inl (upd g1 0 0))), (h6, .inl (cI, 48000, .inl (upd g2 0 0)))]) ⟨hx, hb, hml, hown, hts⟩ hN hX hAE hK hP hD hS hA [3, 2, 4, 5, 6] [0, 1, 7, 8, 9, 10, 11] (ci := 6) rfl rfl rfl rfl (by decide +kernel) (by decide +kernel) (by decide +kernel) (c_X6_judge_0 l E D cI cJ cB cZ h2 f3 h3 f2 h4 h5 g0 g1 h6 g2 e5 e6 e7 e8 e9 e10 e11 e12 e13) (cwV 1 hts g9_X11_many_X6_judge_298 rfl rfl rfl (by decide +kernel) ⟨Nat.le_of_ble_eq_true rfl, Nat.le_of_ble_eq_true rfl⟩) rfl hl.1 (Nat.le_of_ble_eq_true rfl) dX11_many_24 ⟨Nat.le_of_ble_eq_true rfl, Nat.le_of_ble_eq_true rfl⟩ (fun H locs hP hD hS => ?_)
  have hP : va_P D vwCl [(h0, .inr (11, f0)), (h1, .inr (1, f1)), (h7, .inr (0, f4)), (h8, .inl (cI, 3000, .inl g3)), (h9, .inl (cI, 3000, .inl g4)), (h10, .inl (cJ, 3000, .inr (.inl g5))), (h11, .inl (cJ, 3000, .inr (.inl g6))), (h2, .inr (6, ((((((((((((((((((((((((((((((f3.set 10 (.int 0)).set 11 (.int 0)).set 12 (.int 1)).set 11 (.int 0)).set 11 (.int 0)).set 11 (.int 0)).set 11 (.int 0)).set 11 (.int 0)).set 11 (.int 0)).set 11 (.int 0)).set 11 (.int 0)).set 11 (.int 0)).set 11 (.int 0)).set 11 (.int 0)).set 11 (.int 0)).set 11 (.int 0)).set 11 (.int 0)).set 11 (.int 0)).set 11 (.int 0)).set 11 (.int 0)).set 11 (.int 0)).set 11 (.int 0)).set 11 (.int 0)).set 11 (.int 0)).set 11 (.int 0)).set 11 (.int 0)).set 11 (.int 0)).set 11 (.int 0)).set 13 (.int 0)).set 13 (.int 1)))), (h3, .inr (2, f2)), (h4, .inl (cI, 8192, .inl (upd (k_fill 0 8192 g0) 782 1))), (h5, .inl (cI, 48000, .inl (upd g1 0 0))), (h6, .inl (cI, 48000, .inl (upd g2 0 0)))] H := hP
  have hD : va_D A [(h0, .inr (11, f0)), (h1, .inr (1, f1)), (h7, .inr (0, f4)), (h8, .inl (cI, 3000, .inl g3)), (h9, .inl (cI, 3000, .inl g4)), (h10, .inl (cJ, 3000, .inr (.inl g5))), (h11, .inl (cJ, 3000, .inr (.inl g6))), (h2, .inr (6, ((((((((((((((((((((((((((((((f3.set 10 (.int 0)).set 11 (.int 0)).set 12 (.int 1)).set 11 (.int 0)).set 11 (.int 0)).set 11 (.int 0)).set 11 (.int 0)).set 11 (.int 0)).set 11 (.int 0)).set 11 (.int 0)).set 11 (.int 0)).set 11 (.int 0)).set 11 (.int 0)).set 11 (.int 0)).set 11 (.int 0)).set 11 (.int 0)).set 11 (.int 0)).set 11 (.int 0)).set 11 (.int 0)).set 11 (.int 0)).set 11 (.int 0)).set 11 (.int 0)).set 11 (.int 0)).set 11 (.int 0)).set 11 (.int 0)).set 11 (.int 0)).set 11 (.int 0)).set 11 (.int 0)).set 13 (.int 0)).set 13 (.int 1)))), (h3, .inr (2, f2)), (h4, .inl (cI, 8192, .inl (upd (k_fill 0 8192 g0) 782 1))), (h5, .inl (cI, 48000, .inl (upd g1 0 0))), (h6, .inl (cI, 48000, .inl (upd g2 0 0)))] := hD
  refine lv_if_eq (tgt := 47) hx hb dX11_many_27 (by decide) (fun c9 => absurd c9 (by decide)) (fun _ => ?_)
  refine lv_aload_n hx hb dX11_many_30 rfl (lv_at hl 0 rfl) ?_
  refine k_get (D := D) (ci := 11) (v := .ref h7) (N := 15) hx hb hts hin11 hown hK hP 0 rfl rfl (by decide) f9_11_7 (hts (.fieldLink RX11 64 "IntegerHouse" "answers" "LIntegerHouse$Answers;") (o9_X11_many _ (List.mem_of_getElem? (i := 7) rfl))) e14 dX11_many_31 ?_
  refine lv_aload_n hx hb dX11_many_34 rfl (lv_at hl 0 rfl) ?_
  refine k_get (D := D) (ci := 11) (v := .ref h3) (N := 15) hx hb hts hin11 hown hK hP 0 rfl rfl (by decide) f9_11_2 (hts (.fieldLink RX11 23 "IntegerHouse" "house" "LIntegerHouse$House;") (o9_X11_many _ (List.mem_of_getElem? (i := 2) rfl))) e3 dX11_many_35 ?_
  refine k_getN (host := "IntegerHouse") (D := D) (ci := 2) (v := .int 0) (N := 16) hx hb hts hin2 hown hK hP 8 rfl rfl (by decide) f9_2_13 (va_Nw.use rfl (hN.1 ("IntegerHouse", 213, "IntegerHouse$House", "on", "I", "IntegerHouse") (List.mem_of_getElem? (i := 20) rfl))) e4 dX11_many_38 ?_
  refine k_cVi (As := [.int 0]) (rest := []) (wc := [(h7, .inr (0, f4)), (h2, .inr (6, ((((((((((((((((((((((((((((((f3.set 10 (.int 0)).set 11 (.int 0)).set 12 (.int 1)).set 11 (.int 0)).set 11 (.int 0)).set 11 (.int 0)).set 11 (.int 0)).set 11 (.int 0)).set 11 (.int 0)).set 11 (.int 0)).set 11 (.int 0)).set 11 (.int 0)).set 11 (.int 0)).set 11 (.int 0)).set 11 (.int 0)).set 11 (.int 0)).set 11 (.int 0)).set 11 (.int 0)).set 11 (.int 0)).set 11 (.int 0)).set 11 (.int 0)).set 11 (.int 0)).set 11 (.int 0)).set 11 (.int 0)).set 11 (.int 0)).set 11 (.int 0)).set 11 (.int 0)).set 11 (.int 0)).set 13 (.int 0)).set 13 (.int 1)))), (h6, .inl (cI, 48000, .inl (upd g2 0 0))), (h8, .inl (cI, 3000, .inl g3)), (h9, .inl (cI, 3000, .inl g4)), (h5, .inl (cI, 48000, .inl (upd g1 0 0))), (h10, .inl (cJ, 3000, .inr (.inl g5))), (h11, .inl (cJ, 3000, .inr (.inl g6)))]) (wr := [(h0, .inr (11, f0)), (h1, .inr (1, f1)), (h3, .inr (2, f2)), (h4, .inl (cI, 8192, .inl (upd (k_fill 0 8192 g0) 782 1)))]) (w1 := [(h7, .inr (0, f4)), (h2, .inr (6, ((((((((((((((((((((((((((((((f3.set 10 (.int 0)).set 11 (.int 0)).set 12 (.int 1)).set 11 (.int 0)).set 11 (.int 0)).set 11 (.int 0)).set 11 (.int 0)).set 11 (.int 0)).set 11 (.int 0)).set 11 (.int 0)).set 11 (.int 0)).set 11 (.int 0)).set 11 (.int 0)).set 11 (.int 0)).set 11 (.int 0)).set 11 (.int 0)).set 11 (.int 0)).set 11 (.int 0)).set 11 (.int 0)).set 11 (.int 0)).set 11 (.int 0)).set 11 (.int 0)).set 11 (.int 0)).set 11 (.int 0)).set 11 (.int 0)).set 11 (.int 0)).set 11 (.int 0)).set 11 (.int 0)).set 13 (.int 0)).set 13 (.int 1)))), (h6, .inl (cI, 48000, .inl (upd g2 0 0))), (h8, .inl (cI, 3000, .inl (upd g3 0 1))), (h9, .inl (cI, 3000, .inl (upd (upd g4 0 0) 0 0))), (h5, .inl (cI, 48000, .inl (upd g1 0 0))), (h10, .inl (cJ, 3000, .inr (.inl (vp_updL (vp_updL g5 0 1) 0 1)))), (h11, .inl (cJ, 3000, .inr (.inl (vp_updL g6 0 1))))]) ⟨hx, hb, hml, hown, hts⟩ hN hX hAE hK hP hD hS hA [2, 7, 11, 3, 4, 10, 5, 6] [0, 1, 8, 9] (ci := 0) rfl rfl rfl rfl (by decide +kernel) (by decide +kernel) (by decide +kernel) (c_X0_howMany_0 l E D cI cJ cB cZ h7 f4 h2 (((((((((((((((((((((((((((((((f3.set 10 (.int 0)).set 11 (.int 0)).set 12 (.int 1)).set 11 (.int 0)).set 11 (.int 0)).set 11 (.int 0)).set 11 (.int 0)).set 11 (.int 0)).set 11 (.int 0)).set 11 (.int 0)).set 11 (.int 0)).set 11 (.int 0)).set 11 (.int 0)).set 11 (.int 0)).set 11 (.int 0)).set 11 (.int 0)).set 11 (.int 0)).set 11 (.int 0)).set 11 (.int 0)).set 11 (.int 0)).set 11 (.int 0)).set 11 (.int 0)).set 11 (.int 0)).set 11 (.int 0)).set 11 (.int 0)).set 11 (.int 0)).set 11 (.int 0)).set 11 (.int 0)).set 13 (.int 0)).set 13 (.int 1))) h8 h6 ((upd g2 0 0)) g3 h9 g4 h5 ((upd g1 0 0)) h10 h11 g5 g6 e15 (k_set (k_set (k_ne (by decide) (k_ne (by decide) (k_ne (by decide) (k_ne (by decide) (k_ne (by decide) (k_ne (by decide) (k_ne (by decide) (k_ne (by decide) (k_ne (by decide) (k_ne (by decide) (k_ne (by decide) (k_ne (by decide) (k_ne (by decide) (k_ne (by decide) (k_ne (by decide) (k_ne (by decide) (k_ne (by decide) (k_ne (by decide) (k_ne (by decide) (k_ne (by decide) (k_ne (by decide) (k_ne (by decide) (k_ne (by decide) (k_ne (by decide) (k_ne (by decide) (k_ne (by decide) (k_ne (by decide) (k_ne (by decide) e11)))))))))))))))))))))))))))))) e16 (k_ne (by decide) (k_ne (by decide) (k_ne (by decide) (k_ne (by decide) (k_ne (by decide) (k_ne (by decide) (k_ne (by decide) (k_ne (by decide) (k_ne (by decide) (k_ne (by decide) (k_ne (by decide) (k_ne (by decide) (k_ne (by decide) (k_ne (by decide) (k_ne (by decide) (k_ne (by decide) (k_ne (by decide) (k_ne (by decide) (k_ne (by decide) (k_ne (by decide) (k_ne (by decide) (k_ne (by decide) (k_ne (by decide) (k_ne (by decide) (k_ne (by decide) (k_ne (by decide) (k_ne (by decide) (k_set (k_ne (by decide) (k_ne (by decide) e9)))))))))))))))))))))))))))))) (k_ne (by decide) (k_ne (by decide) (k_ne (by decide) (k_ne (by decide) (k_ne (by decide) (k_ne (by decide) (k_ne (by decide) (k_ne (by decide) (k_ne (by decide) (k_ne (by decide) (k_ne (by decide) (k_ne (by decide) (k_ne (by decide) (k_ne (by decide) (k_ne (by decide) (k_ne (by decide) (k_ne (by decide) (k_ne (by decide) (k_ne (by decide) (k_ne (by decide) (k_ne (by decide) (k_ne (by decide) (k_ne (by decide) (k_ne (by decide) (k_ne (by decide) (k_ne (by decide) (k_ne (by decide) (k_ne (by decide) (k_ne (by decide) (k_ne (by decide) e13)))))))))))))))))))))))))))))) rfl e17 (k_ne (by decide) (k_ne (by decide) (k_ne (by decide) (k_ne (by decide) (k_ne (by decide) (k_ne (by decide) (k_ne (by decide) (k_ne (by decide) (k_ne (by decide) (k_ne (by decide) (k_ne (by decide) (k_ne (by decide) (k_ne (by decide) (k_ne (by decide) (k_ne (by decide) (k_ne (by decide) (k_ne (by decide) (k_ne (by decide) (k_ne (by decide) (k_ne (by decide) (k_ne (by decide) (k_ne (by decide) (k_ne (by decide) (k_ne (by decide) (k_ne (by decide) (k_ne (by decide) (k_ne (by decide) (k_ne (by decide) (k_ne (by decide) (k_ne (by decide) e12)))))))))))))))))))))))))))))) rfl e18 e19) (cwV 1 hts g9_X11_many_X0_howMany_339 rfl rfl rfl (by decide +kernel) ⟨Nat.le_of_ble_eq_true rfl, Nat.le_of_ble_eq_true rfl⟩) rfl hl.1 (Nat.le_of_ble_eq_true rfl) dX11_many_41 ⟨Nat.le_of_ble_eq_true rfl, Nat.le_of_ble_eq_true rfl⟩ (fun H locs hP hD hS => ?_)
  have hP : va_P D vwCl [(h0, .inr (11, f0)), (h1, .inr (1, f1)), (h3, .inr (2, f2)), (h4, .inl (cI, 8192, .inl (upd (k_fill 0 8192 g0) 782 1))), (h7, .inr (0, f4)), (h2, .inr (6, ((((((((((((((((((((((((((((((f3.set 10 (.int 0)).set 11 (.int 0)).set 12 (.int 1)).set 11 (.int 0)).set 11 (.int 0)).set 11 (.int 0)).set 11 (.int 0)).set 11 (.int 0)).set 11 (.int 0)).set 11 (.int 0)).set 11 (.int 0)).set 11 (.int 0)).set 11 (.int 0)).set 11 (.int 0)).set 11 (.int 0)).set 11 (.int 0)).set 11 (.int 0)).set 11 (.int 0)).set 11 (.int 0)).set 11 (.int 0)).set 11 (.int 0)).set 11 (.int 0)).set 11 (.int 0)).set 11 (.int 0)).set 11 (.int 0)).set 11 (.int 0)).set 11 (.int 0)).set 11 (.int 0)).set 13 (.int 0)).set 13 (.int 1)))), (h6, .inl (cI, 48000, .inl (upd g2 0 0))), (h8, .inl (cI, 3000, .inl (upd g3 0 1))), (h9, .inl (cI, 3000, .inl (upd (upd g4 0 0) 0 0))), (h5, .inl (cI, 48000, .inl (upd g1 0 0))), (h10, .inl (cJ, 3000, .inr (.inl (vp_updL (vp_updL g5 0 1) 0 1)))), (h11, .inl (cJ, 3000, .inr (.inl (vp_updL g6 0 1))))] H := hP
  have hD : va_D A [(h0, .inr (11, f0)), (h1, .inr (1, f1)), (h3, .inr (2, f2)), (h4, .inl (cI, 8192, .inl (upd (k_fill 0 8192 g0) 782 1))), (h7, .inr (0, f4)), (h2, .inr (6, ((((((((((((((((((((((((((((((f3.set 10 (.int 0)).set 11 (.int 0)).set 12 (.int 1)).set 11 (.int 0)).set 11 (.int 0)).set 11 (.int 0)).set 11 (.int 0)).set 11 (.int 0)).set 11 (.int 0)).set 11 (.int 0)).set 11 (.int 0)).set 11 (.int 0)).set 11 (.int 0)).set 11 (.int 0)).set 11 (.int 0)).set 11 (.int 0)).set 11 (.int 0)).set 11 (.int 0)).set 11 (.int 0)).set 11 (.int 0)).set 11 (.int 0)).set 11 (.int 0)).set 11 (.int 0)).set 11 (.int 0)).set 11 (.int 0)).set 11 (.int 0)).set 11 (.int 0)).set 11 (.int 0)).set 13 (.int 0)).set 13 (.int 1)))), (h6, .inl (cI, 48000, .inl (upd g2 0 0))), (h8, .inl (cI, 3000, .inl (upd g3 0 1))), (h9, .inl (cI, 3000, .inl (upd (upd g4 0 0) 0 0))), (h5, .inl (cI, 48000, .inl (upd g1 0 0))), (h10, .inl (cJ, 3000, .inr (.inl (vp_updL (vp_updL g5 0 1) 0 1)))), (h11, .inl (cJ, 3000, .inr (.inl (vp_updL g6 0 1))))] := hD
  refine lv_goto (tgt := 49) hx hb dX11_many_44 (by decide) ?_
  have hP := hP.sub (ws' := [(h0, .inr (11, f0)), (h1, .inr (1, f1)), (h3, .inr (2, f2)), (h2, .inr (6, ((((((((((((((((((((((((((((((f3.set 10 (.int 0)).set 11 (.int 0)).set 12 (.int 1)).set 11 (.int 0)).set 11 (.int 0)).set 11 (.int 0)).set 11 (.int 0)).set 11 (.int 0)).set 11 (.int 0)).set 11 (.int 0)).set 11 (.int 0)).set 11 (.int 0)).set 11 (.int 0)).set 11 (.int 0)).set 11 (.int 0)).set 11 (.int 0)).set 11 (.int 0)).set 11 (.int 0)).set 11 (.int 0)).set 11 (.int 0)).set 11 (.int 0)).set 11 (.int 0)).set 11 (.int 0)).set 11 (.int 0)).set 11 (.int 0)).set 11 (.int 0)).set 11 (.int 0)).set 11 (.int 0)).set 13 (.int 0)).set 13 (.int 1)))), (h4, .inl (cI, 8192, .inl (upd (k_fill 0 8192 g0) 782 1))), (h5, .inl (cI, 48000, .inl (upd g1 0 0))), (h6, .inl (cI, 48000, .inl (upd g2 0 0))), (h7, .inr (0, f4)), (h8, .inl (cI, 3000, .inl (upd g3 0 1))), (h9, .inl (cI, 3000, .inl (upd (upd g4 0 0) 0 0))), (h10, .inl (cJ, 3000, .inr (.inl (vp_updL (vp_updL g5 0 1) 0 1)))), (h11, .inl (cJ, 3000, .inr (.inl (vp_updL g6 0 1))))]) [0, 1, 2, 5, 3, 9, 6, 4, 7, 8, 10, 11] rfl
  have hD := hD.sub (ws' := [(h0, .inr (11, f0)), (h1, .inr (1, f1)), (h3, .inr (2, f2)), (h2, .inr (6, ((((((((((((((((((((((((((((((f3.set 10 (.int 0)).set 11 (.int 0)).set 12 (.int 1)).set 11 (.int 0)).set 11 (.int 0)).set 11 (.int 0)).set 11 (.int 0)).set 11 (.int 0)).set 11 (.int 0)).set 11 (.int 0)).set 11 (.int 0)).set 11 (.int 0)).set 11 (.int 0)).set 11 (.int 0)).set 11 (.int 0)).set 11 (.int 0)).set 11 (.int 0)).set 11 (.int 0)).set 11 (.int 0)).set 11 (.int 0)).set 11 (.int 0)).set 11 (.int 0)).set 11 (.int 0)).set 11 (.int 0)).set 11 (.int 0)).set 11 (.int 0)).set 11 (.int 0)).set 11 (.int 0)).set 13 (.int 0)).set 13 (.int 1)))), (h4, .inl (cI, 8192, .inl (upd (k_fill 0 8192 g0) 782 1))), (h5, .inl (cI, 48000, .inl (upd g1 0 0))), (h6, .inl (cI, 48000, .inl (upd g2 0 0))), (h7, .inr (0, f4)), (h8, .inl (cI, 3000, .inl (upd g3 0 1))), (h9, .inl (cI, 3000, .inl (upd (upd g4 0 0) 0 0))), (h10, .inl (cJ, 3000, .inr (.inl (vp_updL (vp_updL g5 0 1) 0 1)))), (h11, .inl (cJ, 3000, .inr (.inl (vp_updL g6 0 1))))]) [0, 1, 2, 5, 3, 9, 6, 4, 7, 8, 10, 11] (by decide +kernel) rfl
  exact W.iret (v := 1) hx hb hr (fun t ht hW => ⟨⟨1, (), rfl, rfl, kB_mk ht hW hP hK hD⟩, hS.F ht⟩) hS.2.2 dX11_many_49
set_option maxHeartbeats 400000000 in
set_option maxRecDepth 100000 in
theorem c_X12_firstNews_0 (l : Launch) (E : kE) (D : va_G) (cI cJ cB cZ : ClassId) (h0 : Nat) (f0 : List Value) (h1 : Nat) (h2 : Nat) (g0 : Nat → Int32) (g1 : Nat → Int32) (e0 : f0[131]? = some (.int 1)) (e1 : f0[132]? = some (.ref h1)) (e2 : f0[126]? = some (.ref h2)) (e3 : g0 0 = 0) (e4 : g1 0 = 1) : kI l E D (kT cI cJ cB cZ) yX12_firstNews vW_X12_firstNews ({ frames := 0, cells := 0, slots := 0, locals := 0 }) [.ref h0, .int 0] [(h0, .inr (12, f0)), (h2, .inl (cI, 48000, .inl g0)), (h1, .inl (cI, 3000, .inl g1))] (0) [(h0, .inr (12, f0)), (h2, .inl (cI, 48000, .inl g0)), (h1, .inl (cI, 3000, .inl g1))] 0 0 := by
  intro sz
  refine Met.ofW (cc := cX12_firstNews) (maxL := 6) (ret := (some .int)) (by decide) rfl ?_
  intro p e s m args below meth c s₁ B hml hv
  obtain ⟨rfl, hsz, hP, hK, hD0, hN, hX⟩ := hv
  have hx := B.exec
  have hb := B.bytes
  have hr := B.returns
  have hts := atoms_spec (ws := vW_X12_firstNews) B.pre
  have hown : s.vm.findClass RX12 = some m.cls := findClass_of_methodNamed B.named
  have hlocks := B.notSynchronized
  have hin12 : ∀ w ∈ wsX120, w ∈ vW_X12_firstNews := u9_X12_firstNews_wsX120
  subst hsz
  have hD := hD0.self (sz := s.heap.size)
  have hAE := k_AE hD0 hX
  generalize hAe : va_A [(h0, .inr (12, f0)), (h2, .inl (cI, 48000, .inl g0)), (h1, .inl (cI, 3000, .inl g1))] s.heap.size = A at hD hAE ⊢
  have hA : ∀ q : Nat, s.heap.size ≤ q → A q := fun q h => by rw [← hAe]; exact Or.inr h
  have hS : va_S A s.heap s.heap [] := va_S.rf
  have hP : va_P D vwCl [(h0, .inr (12, f0)), (h2, .inl (cI, 48000, .inl g0)), (h1, .inl (cI, 3000, .inl g1))] s.heap := hP
  have hl := lv_entry ([.ref h0, .int 0] : List Value) (n := 6) (Nat.le_of_ble_eq_true rfl)
  rw [lg_entry_eq]
  generalize (lg_sl ([.ref h0, .int 0]) ++ List.replicate (6 - (lg_sl ([.ref h0, .int 0])).length) Slot.unset).toArray = ls at hl ⊢
  have hl : lv_has ls 6 [(0, .ref h0), (1, .int 0)] := hl
  refine lv_iconst (v := 0) hx hb dX12_firstNews_0 (by decide) ?_
  refine lv_istore_n (lv' := [(2, .int 0), (0, .ref h0), (1, .int 0)]) hx hb dX12_firstNews_1 rfl hl (by decide) rfl (fun ls hl => ?_)
  refine lv_iconst (v := 0) hx hb dX12_firstNews_2 (by decide) ?_
  refine lv_istore_n (lv' := [(3, .int 0), (2, .int 0), (0, .ref h0), (1, .int 0)]) hx hb dX12_firstNews_3 rfl hl (by decide) rfl (fun ls hl => ?_)
  refine lv_iload_n hx hb dX12_firstNews_4 rfl (lv_at hl 0 rfl) ?_
  refine lv_aload_n hx hb dX12_firstNews_5 rfl (lv_at hl 2 rfl) ?_
  refine k_get (D := D) (ci := 12) (v := .int 1) (N := 195) hx hb hts hin12 hown hK hP 0 rfl rfl (by decide) f9_12_131 (hts (.fieldLink RX12 960 "IntegerHouseModel" "letters" "I") (o9_X12_firstNews _ (List.mem_of_getElem? (i := 0) rfl))) e0 dX12_firstNews_6 ?_
  refine lv_icmp_ge (tgt := 79) hx hb dX12_firstNews_9 (by decide) (fun c9 => absurd c9 (by decide)) (fun _ => ?_)
  refine lv_aload_n hx hb dX12_firstNews_12 rfl (lv_at hl 2 rfl) ?_
  refine k_get (D := D) (ci := 12) (v := .ref h1) (N := 195) hx hb hts hin12 hown hK hP 0 rfl rfl (by decide) f9_12_132 (hts (.fieldLink RX12 334 "IntegerHouseModel" "takes" "[I") (o9_X12_firstNews _ (List.mem_of_getElem? (i := 1) rfl))) e1 dX12_firstNews_13 ?_
  refine lv_aload_n hx hb dX12_firstNews_16 rfl (lv_at hl 2 rfl) ?_
  refine k_get (D := D) (ci := 12) (v := .ref h2) (N := 195) hx hb hts hin12 hown hK hP 0 rfl rfl (by decide) f9_12_126 (hts (.fieldLink RX12 321 "IntegerHouseModel" "behind" "[I") (o9_X12_firstNews _ (List.mem_of_getElem? (i := 2) rfl))) e2 dX12_firstNews_17 ?_
  refine lv_bipush (v := 16) hx hb dX12_firstNews_20 (by decide) ?_
  refine lv_iload_n hx hb dX12_firstNews_22 rfl (lv_at hl 3 rfl) ?_
  refine lv_imul hx hb dX12_firstNews_23 ?_
  refine k_topi (y := 0) (by decide) ?_
  refine lv_iload_n hx hb dX12_firstNews_24 rfl (lv_at hl 0 rfl) ?_
  refine lv_iadd hx hb dX12_firstNews_25 ?_
  refine k_topi (y := 0) (by decide) ?_
  refine va_iald hx hb hK hP 1 0 rfl rfl (k_in (by decide)) dX12_firstNews_26 ?_
  refine k_topi (y := 0) e3 ?_
  refine va_iald hx hb hK hP 2 0 rfl rfl (k_in (by decide)) dX12_firstNews_27 ?_
  refine k_topi (y := 1) e4 ?_
  refine lv_istore (lv' := [(4, .int 1), (3, .int 0), (2, .int 0), (0, .ref h0), (1, .int 0)]) hx hb dX12_firstNews_28 hl (by decide) rfl (fun ls hl => ?_)
  refine lv_iconst (v := 0) hx hb dX12_firstNews_30 (by decide) ?_
  refine lv_istore (lv' := [(5, .int 0), (4, .int 1), (3, .int 0), (2, .int 0), (0, .ref h0), (1, .int 0)]) hx hb dX12_firstNews_31 hl (by decide) rfl (fun ls hl => ?_)
  refine lv_iload hx hb dX12_firstNews_33 (lv_at hl 0 rfl) ?_
  refine lv_aload_n hx hb dX12_firstNews_35 rfl (lv_at hl 4 rfl) ?_
  refine k_get (D := D) (ci := 12) (v := .int 1) (N := 195) hx hb hts hin12 hown hK hP 0 rfl rfl (by decide) f9_12_131 (hts (.fieldLink RX12 960 "IntegerHouseModel" "letters" "I") (o9_X12_firstNews _ (List.mem_of_getElem? (i := 0) rfl))) e0 dX12_firstNews_36 ?_
  refine lv_icmp_ge (tgt := 73) hx hb dX12_firstNews_39 (by decide) (fun c9 => absurd c9 (by decide)) (fun _ => ?_)
  refine lv_iload_n hx hb dX12_firstNews_42 rfl (lv_at hl 3 rfl) ?_
  refine lv_iload hx hb dX12_firstNews_43 (lv_at hl 0 rfl) ?_
  refine lv_iload_n hx hb dX12_firstNews_45 rfl (lv_at hl 2 rfl) ?_
  refine lv_icmp_eq (tgt := 64) hx hb dX12_firstNews_46 (by decide) (fun _ => ?_) (fun c9 => absurd (by decide) c9)
  refine lv_iconst (v := 0) hx hb dX12_firstNews_64 (by decide) ?_
  refine lv_iadd hx hb dX12_firstNews_65 ?_
  refine k_topi (y := 0) (by decide) ?_
  refine lv_istore_n (lv' := [(2, .int 0), (5, .int 0), (4, .int 1), (3, .int 0), (0, .ref h0), (1, .int 0)]) hx hb dX12_firstNews_66 rfl hl (by decide) rfl (fun ls hl => ?_)
  refine lv_iinc (v := 1) (lv' := [(5, .int 1), (2, .int 0), (4, .int 1), (3, .int 0), (0, .ref h0), (1, .int 0)]) hx hb dX12_firstNews_67 hl (k := 1) rfl (by decide) (by decide) rfl (fun ls hl => ?_)
  refine lv_goto (tgt := 33) hx hb dX12_firstNews_70 (by decide) ?_
  refine lv_iload hx hb dX12_firstNews_33 (lv_at hl 0 rfl) ?_
  refine lv_aload_n hx hb dX12_firstNews_35 rfl (lv_at hl 4 rfl) ?_
  refine k_get (D := D) (ci := 12) (v := .int 1) (N := 195) hx hb hts hin12 hown hK hP 0 rfl rfl (by decide) f9_12_131 (hts (.fieldLink RX12 960 "IntegerHouseModel" "letters" "I") (o9_X12_firstNews _ (List.mem_of_getElem? (i := 0) rfl))) e0 dX12_firstNews_36 ?_
  refine lv_icmp_ge (tgt := 73) hx hb dX12_firstNews_39 (by decide) (fun _ => ?_) (fun c9 => absurd (by decide) c9)
  refine lv_iinc (v := 1) (lv' := [(3, .int 1), (5, .int 1), (2, .int 0), (4, .int 1), (0, .ref h0), (1, .int 0)]) hx hb dX12_firstNews_73 hl (k := 3) rfl (by decide) (by decide) rfl (fun ls hl => ?_)
  refine lv_goto (tgt := 4) hx hb dX12_firstNews_76 (by decide) ?_
  refine lv_iload_n hx hb dX12_firstNews_4 rfl (lv_at hl 0 rfl) ?_
  refine lv_aload_n hx hb dX12_firstNews_5 rfl (lv_at hl 4 rfl) ?_
  refine k_get (D := D) (ci := 12) (v := .int 1) (N := 195) hx hb hts hin12 hown hK hP 0 rfl rfl (by decide) f9_12_131 (hts (.fieldLink RX12 960 "IntegerHouseModel" "letters" "I") (o9_X12_firstNews _ (List.mem_of_getElem? (i := 0) rfl))) e0 dX12_firstNews_6 ?_
  refine lv_icmp_ge (tgt := 79) hx hb dX12_firstNews_9 (by decide) (fun _ => ?_) (fun c9 => absurd (by decide) c9)
  refine lv_iload_n hx hb dX12_firstNews_79 rfl (lv_at hl 2 rfl) ?_
  exact W.iret (v := 0) hx hb hr (fun t ht hW => ⟨⟨0, (), rfl, rfl, kB_mk ht hW hP hK hD⟩, hS.F ht⟩) hS.2.2 dX12_firstNews_80
