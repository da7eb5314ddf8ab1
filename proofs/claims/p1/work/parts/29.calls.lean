theorem dX2_variableOf_0 : decode cX2_variableOf 0 = .ok (.iconst 0, 1) := by decide +kernel
theorem dX2_variableOf_1 : decode cX2_variableOf 1 = .ok (.istore_n 3, 1) := by decide +kernel
theorem dX2_variableOf_2 : decode cX2_variableOf 2 = .ok (.iload_n 3, 1) := by decide +kernel
theorem dX2_variableOf_3 : decode cX2_variableOf 3 = .ok (.aload_n 0, 1) := by decide +kernel
theorem dX2_variableOf_4 : decode cX2_variableOf 4 = .ok (.getfield 52, 3) := by decide +kernel
theorem dX2_variableOf_7 : decode cX2_variableOf 7 = .ok (.if_icmp .ge 27, 3) := by decide +kernel
theorem dX2_variableOf_34 : decode cX2_variableOf 34 = .ok (.iconst (-1), 1) := by decide +kernel
theorem dX2_variableOf_35 : decode cX2_variableOf 35 = .ok (.ireturn, 1) := by decide +kernel
theorem dX2_setFact_0 : decode cX2_setFact 0 = .ok (.iload_n 1, 1) := by decide +kernel
theorem dX2_setFact_1 : decode cX2_setFact 1 = .ok (.ifCond .lt 31, 3) := by decide +kernel
theorem dX2_setFact_4 : decode cX2_setFact 4 = .ok (.iload_n 1, 1) := by decide +kernel
theorem dX2_setFact_5 : decode cX2_setFact 5 = .ok (.bipush 26, 2) := by decide +kernel
theorem dX2_setFact_7 : decode cX2_setFact 7 = .ok (.if_icmp .ge 25, 3) := by decide +kernel
theorem dX2_setFact_10 : decode cX2_setFact 10 = .ok (.iload_n 2, 1) := by decide +kernel
theorem dX2_setFact_11 : decode cX2_setFact 11 = .ok (.ifCond .lt 21, 3) := by decide +kernel
theorem dX2_setFact_14 : decode cX2_setFact 14 = .ok (.iload_n 2, 1) := by decide +kernel
theorem dX2_setFact_15 : decode cX2_setFact 15 = .ok (.bipush 10, 2) := by decide +kernel
theorem dX2_setFact_17 : decode cX2_setFact 17 = .ok (.if_icmp .ge 15, 3) := by decide +kernel
theorem dX2_setFact_20 : decode cX2_setFact 20 = .ok (.aload_n 0, 1) := by decide +kernel
theorem dX2_setFact_21 : decode cX2_setFact 21 = .ok (.getfield 28, 3) := by decide +kernel
theorem dX2_setFact_24 : decode cX2_setFact 24 = .ok (.iload_n 1, 1) := by decide +kernel
theorem dX2_setFact_25 : decode cX2_setFact 25 = .ok (.bipush 10, 2) := by decide +kernel
theorem dX2_setFact_27 : decode cX2_setFact 27 = .ok (.imul, 1) := by decide +kernel
theorem dX2_setFact_28 : decode cX2_setFact 28 = .ok (.iload_n 2, 1) := by decide +kernel
theorem dX2_setFact_29 : decode cX2_setFact 29 = .ok (.iadd, 1) := by decide +kernel
theorem dX2_setFact_30 : decode cX2_setFact 30 = .ok (.iload_n 3, 1) := by decide +kernel
theorem dX2_setFact_31 : decode cX2_setFact 31 = .ok (.iastore, 1) := by decide +kernel
theorem dX2_setFact_32 : decode cX2_setFact 32 = .ok (.return_, 1) := by decide +kernel
theorem dX2_setStep_0 : decode cX2_setStep 0 = .ok (.iload_n 1, 1) := by decide +kernel
theorem dX2_setStep_1 : decode cX2_setStep 1 = .ok (.ifCond .lt 33, 3) := by decide +kernel
theorem dX2_setStep_4 : decode cX2_setStep 4 = .ok (.iload_n 1, 1) := by decide +kernel
theorem dX2_setStep_5 : decode cX2_setStep 5 = .ok (.bipush 26, 2) := by decide +kernel
theorem dX2_setStep_7 : decode cX2_setStep 7 = .ok (.if_icmp .ge 27, 3) := by decide +kernel
theorem dX2_setStep_10 : decode cX2_setStep 10 = .ok (.iload_n 2, 1) := by decide +kernel
theorem dX2_setStep_11 : decode cX2_setStep 11 = .ok (.ifCond .lt 23, 3) := by decide +kernel
theorem dX2_setStep_14 : decode cX2_setStep 14 = .ok (.iload_n 2, 1) := by decide +kernel
theorem dX2_setStep_15 : decode cX2_setStep 15 = .ok (.sipush 512, 3) := by decide +kernel
theorem dX2_setStep_18 : decode cX2_setStep 18 = .ok (.if_icmp .ge 16, 3) := by decide +kernel
theorem dX2_setStep_21 : decode cX2_setStep 21 = .ok (.aload_n 0, 1) := by decide +kernel
theorem dX2_setStep_22 : decode cX2_setStep 22 = .ok (.getfield 22, 3) := by decide +kernel
theorem dX2_setStep_25 : decode cX2_setStep 25 = .ok (.iload_n 1, 1) := by decide +kernel
theorem dX2_setStep_26 : decode cX2_setStep 26 = .ok (.sipush 512, 3) := by decide +kernel
theorem dX2_setStep_29 : decode cX2_setStep 29 = .ok (.imul, 1) := by decide +kernel
theorem dX2_setStep_30 : decode cX2_setStep 30 = .ok (.iload_n 2, 1) := by decide +kernel
theorem dX2_setStep_31 : decode cX2_setStep 31 = .ok (.iadd, 1) := by decide +kernel
theorem dX2_setStep_32 : decode cX2_setStep 32 = .ok (.iload_n 3, 1) := by decide +kernel
theorem dX2_setStep_33 : decode cX2_setStep 33 = .ok (.iastore, 1) := by decide +kernel
theorem dX2_setStep_34 : decode cX2_setStep 34 = .ok (.return_, 1) := by decide +kernel
theorem dX3_numberAt_0 : decode cX3_numberAt 0 = .ok (.iload_n 1, 1) := by decide +kernel
theorem dX3_numberAt_1 : decode cX3_numberAt 1 = .ok (.ifCond .lt 23, 3) := by decide +kernel
theorem dX3_numberAt_4 : decode cX3_numberAt 4 = .ok (.iload_n 1, 1) := by decide +kernel
theorem dX3_numberAt_5 : decode cX3_numberAt 5 = .ok (.aload_n 0, 1) := by decide +kernel
theorem dX3_numberAt_6 : decode cX3_numberAt 6 = .ok (.getfield 48, 3) := by decide +kernel
theorem dX3_numberAt_9 : decode cX3_numberAt 9 = .ok (.if_icmp .ge 15, 3) := by decide +kernel
theorem dX3_numberAt_24 : decode cX3_numberAt 24 = .ok (.iconst 0, 1) := by decide +kernel
theorem dX3_numberAt_25 : decode cX3_numberAt 25 = .ok (.ireturn, 1) := by decide +kernel
theorem dX8_step_0 : decode cX8_step 0 = .ok (.aload_n 0, 1) := by decide +kernel
theorem dX8_step_1 : decode cX8_step 1 = .ok (.getfield 15, 3) := by decide +kernel
theorem dX8_step_4 : decode cX8_step 4 = .ok (.aload_n 0, 1) := by decide +kernel
theorem dX8_step_5 : decode cX8_step 5 = .ok (.getfield 164, 3) := by decide +kernel
theorem dX8_step_8 : decode cX8_step 8 = .ok (.aload_n 0, 1) := by decide +kernel
theorem dX8_step_9 : decode cX8_step 9 = .ok (.getfield 170, 3) := by decide +kernel
theorem dX8_step_12 : decode cX8_step 12 = .ok (.iload_n 1, 1) := by decide +kernel
theorem dX8_step_13 : decode cX8_step 13 = .ok (.invokevirtual 182, 3) := by decide +kernel
theorem dX8_step_16 : decode cX8_step 16 = .ok (.aload_n 0, 1) := by decide +kernel
theorem dX8_step_17 : decode cX8_step 17 = .ok (.dup, 1) := by decide +kernel
theorem dX8_step_18 : decode cX8_step 18 = .ok (.getfield 170, 3) := by decide +kernel
theorem dX8_step_21 : decode cX8_step 21 = .ok (.iconst 1, 1) := by decide +kernel
theorem dX8_step_22 : decode cX8_step 22 = .ok (.iadd, 1) := by decide +kernel
theorem dX8_step_23 : decode cX8_step 23 = .ok (.putfield 170, 3) := by decide +kernel
theorem dX8_step_26 : decode cX8_step 26 = .ok (.return_, 1) := by decide +kernel
theorem dX8_part_0 : decode cX8_part 0 = .ok (.aload_n 0, 1) := by decide +kernel
theorem dX8_part_1 : decode cX8_part 1 = .ok (.getfield 9, 3) := by decide +kernel
theorem dX8_part_4 : decode cX8_part 4 = .ok (.aload_n 0, 1) := by decide +kernel
theorem dX8_part_5 : decode cX8_part 5 = .ok (.getfield 79, 3) := by decide +kernel
theorem dX8_part_8 : decode cX8_part 8 = .ok (.invokevirtual 206, 3) := by decide +kernel
theorem dX8_part_11 : decode cX8_part 11 = .ok (.istore_n 2, 1) := by decide +kernel
theorem dX8_part_12 : decode cX8_part 12 = .ok (.aload_n 0, 1) := by decide +kernel
theorem dX8_part_13 : decode cX8_part 13 = .ok (.getfield 39, 3) := by decide +kernel
theorem dX8_part_16 : decode cX8_part 16 = .ok (.iconst 2, 1) := by decide +kernel
theorem dX8_part_17 : decode cX8_part 17 = .ok (.if_icmp .ne 7, 3) := by decide +kernel
theorem dX8_part_24 : decode cX8_part 24 = .ok (.iconst 0, 1) := by decide +kernel
theorem dX8_part_25 : decode cX8_part 25 = .ok (.istore_n 3, 1) := by decide +kernel
theorem dX8_part_26 : decode cX8_part 26 = .ok (.iload_n 3, 1) := by decide +kernel
theorem dX8_part_27 : decode cX8_part 27 = .ok (.ifCond .eq 24, 3) := by decide +kernel
theorem dX8_part_51 : decode cX8_part 51 = .ok (.iload_n 3, 1) := by decide +kernel
theorem dX8_part_52 : decode cX8_part 52 = .ok (.ifCond .eq 16, 3) := by decide +kernel
theorem dX8_part_68 : decode cX8_part 68 = .ok (.iconst 0, 1) := by decide +kernel
theorem dX8_part_69 : decode cX8_part 69 = .ok (.istore 4, 2) := by decide +kernel
theorem dX8_part_71 : decode cX8_part 71 = .ok (.iload 4, 2) := by decide +kernel
theorem dX8_part_73 : decode cX8_part 73 = .ok (.ifCond .eq 11, 3) := by decide +kernel
theorem dX8_part_84 : decode cX8_part 84 = .ok (.iload 4, 2) := by decide +kernel
theorem dX8_part_86 : decode cX8_part 86 = .ok (.ifCond .ne 7, 3) := by decide +kernel
theorem dX8_part_89 : decode cX8_part 89 = .ok (.iload_n 3, 1) := by decide +kernel
theorem dX8_part_90 : decode cX8_part 90 = .ok (.ifCond .ne 7, 3) := by decide +kernel
theorem dX8_part_93 : decode cX8_part 93 = .ok (.aload_n 0, 1) := by decide +kernel
theorem dX8_part_94 : decode cX8_part 94 = .ok (.invokevirtual 223, 3) := by decide +kernel
theorem dX8_part_97 : decode cX8_part 97 = .ok (.iload_n 3, 1) := by decide +kernel
theorem dX8_part_98 : decode cX8_part 98 = .ok (.ifCond .eq 23, 3) := by decide +kernel
theorem dX8_part_121 : decode cX8_part 121 = .ok (.iload_n 1, 1) := by decide +kernel
theorem dX8_part_122 : decode cX8_part 122 = .ok (.ifCond .eq 9, 3) := by decide +kernel
theorem dX8_part_131 : decode cX8_part 131 = .ok (.aload_n 0, 1) := by decide +kernel
theorem dX8_part_132 : decode cX8_part 132 = .ok (.bipush 43, 2) := by decide +kernel
theorem dX8_part_134 : decode cX8_part 134 = .ok (.invokevirtual 194, 3) := by decide +kernel
theorem dX8_part_137 : decode cX8_part 137 = .ok (.return_, 1) := by decide +kernel
theorem dX8_factor_0 : decode cX8_factor 0 = .ok (.aload_n 0, 1) := by decide +kernel
theorem dX8_factor_1 : decode cX8_factor 1 = .ok (.getfield 39, 3) := by decide +kernel
theorem dX8_factor_4 : decode cX8_factor 4 = .ok (.istore_n 1, 1) := by decide +kernel
theorem dX8_factor_5 : decode cX8_factor 5 = .ok (.aload_n 0, 1) := by decide +kernel
theorem dX8_factor_6 : decode cX8_factor 6 = .ok (.getfield 15, 3) := by decide +kernel
theorem dX8_factor_9 : decode cX8_factor 9 = .ok (.aload_n 0, 1) := by decide +kernel
theorem dX8_factor_10 : decode cX8_factor 10 = .ok (.getfield 9, 3) := by decide +kernel
theorem dX8_factor_13 : decode cX8_factor 13 = .ok (.aload_n 0, 1) := by decide +kernel
theorem dX8_factor_14 : decode cX8_factor 14 = .ok (.getfield 79, 3) := by decide +kernel
theorem dX8_factor_17 : decode cX8_factor 17 = .ok (.invokevirtual 82, 3) := by decide +kernel
theorem dX8_factor_20 : decode cX8_factor 20 = .ok (.invokevirtual 92, 3) := by decide +kernel
theorem dX8_factor_23 : decode cX8_factor 23 = .ok (.istore_n 2, 1) := by decide +kernel
theorem dX8_factor_24 : decode cX8_factor 24 = .ok (.iload_n 1, 1) := by decide +kernel
theorem dX8_factor_25 : decode cX8_factor 25 = .ok (.iconst 1, 1) := by decide +kernel
theorem dX8_factor_26 : decode cX8_factor 26 = .ok (.if_icmp .ne 34, 3) := by decide +kernel
theorem dX8_factor_60 : decode cX8_factor 60 = .ok (.iload_n 1, 1) := by decide +kernel
theorem dX8_factor_61 : decode cX8_factor 61 = .ok (.iconst 1, 1) := by decide +kernel
theorem dX8_factor_62 : decode cX8_factor 62 = .ok (.if_icmp .ne 37, 3) := by decide +kernel
theorem dX8_factor_99 : decode cX8_factor 99 = .ok (.iload_n 1, 1) := by decide +kernel
theorem dX8_factor_100 : decode cX8_factor 100 = .ok (.bipush 6, 2) := by decide +kernel
theorem dX8_factor_102 : decode cX8_factor 102 = .ok (.if_icmp .ne 12, 3) := by decide +kernel
theorem dX8_factor_114 : decode cX8_factor 114 = .ok (.iload_n 1, 1) := by decide +kernel
theorem dX8_factor_115 : decode cX8_factor 115 = .ok (.bipush 28, 2) := by decide +kernel
theorem dX8_factor_117 : decode cX8_factor 117 = .ok (.if_icmp .lt 32, 3) := by decide +kernel
theorem dX8_factor_149 : decode cX8_factor 149 = .ok (.aload_n 0, 1) := by decide +kernel
theorem dX8_factor_150 : decode cX8_factor 150 = .ok (.iconst 2, 1) := by decide +kernel
theorem dX8_factor_151 : decode cX8_factor 151 = .ok (.invokevirtual 95, 3) := by decide +kernel
theorem dX8_factor_154 : decode cX8_factor 154 = .ok (.return_, 1) := by decide +kernel
theorem dX12_measure_0 : decode cX12_measure 0 = .ok (.iconst 1, 1) := by decide +kernel
theorem dX12_measure_1 : decode cX12_measure 1 = .ok (.istore_n 1, 1) := by decide +kernel
theorem dX12_measure_2 : decode cX12_measure 2 = .ok (.iconst 0, 1) := by decide +kernel
theorem dX12_measure_3 : decode cX12_measure 3 = .ok (.istore_n 2, 1) := by decide +kernel
theorem dX12_measure_4 : decode cX12_measure 4 = .ok (.iload_n 2, 1) := by decide +kernel
theorem dX12_measure_5 : decode cX12_measure 5 = .ok (.aload_n 0, 1) := by decide +kernel
theorem dX12_measure_6 : decode cX12_measure 6 = .ok (.getfield 957, 3) := by decide +kernel
theorem dX12_measure_9 : decode cX12_measure 9 = .ok (.if_icmp .ge 29, 3) := by decide +kernel
theorem dX12_measure_12 : decode cX12_measure 12 = .ok (.aload_n 0, 1) := by decide +kernel
theorem dX12_measure_13 : decode cX12_measure 13 = .ok (.getfield 349, 3) := by decide +kernel
theorem dX12_measure_16 : decode cX12_measure 16 = .ok (.iload_n 2, 1) := by decide +kernel
theorem dX12_measure_17 : decode cX12_measure 17 = .ok (.aload_n 0, 1) := by decide +kernel
theorem dX12_measure_18 : decode cX12_measure 18 = .ok (.getfield 334, 3) := by decide +kernel
theorem dX12_measure_21 : decode cX12_measure 21 = .ok (.iload_n 2, 1) := by decide +kernel
theorem dX12_measure_22 : decode cX12_measure 22 = .ok (.iaload, 1) := by decide +kernel
theorem dX12_measure_23 : decode cX12_measure 23 = .ok (.ifCond .eq 7, 3) := by decide +kernel
theorem dX12_measure_26 : decode cX12_measure 26 = .ok (.iconst 0, 1) := by decide +kernel
theorem dX12_measure_27 : decode cX12_measure 27 = .ok (.goto 4, 3) := by decide +kernel
theorem dX12_measure_31 : decode cX12_measure 31 = .ok (.iastore, 1) := by decide +kernel
theorem dX12_measure_32 : decode cX12_measure 32 = .ok (.iinc 2 1, 3) := by decide +kernel
theorem dX12_measure_35 : decode cX12_measure 35 = .ok (.goto (-31), 3) := by decide +kernel
theorem dX12_measure_38 : decode cX12_measure 38 = .ok (.iconst 0, 1) := by decide +kernel
theorem dX12_measure_39 : decode cX12_measure 39 = .ok (.istore_n 2, 1) := by decide +kernel
theorem dX12_measure_40 : decode cX12_measure 40 = .ok (.iload_n 1, 1) := by decide +kernel
theorem dX12_measure_41 : decode cX12_measure 41 = .ok (.ifCond .eq 87, 3) := by decide +kernel
theorem dX12_measure_44 : decode cX12_measure 44 = .ok (.iconst 0, 1) := by decide +kernel
theorem dX12_measure_45 : decode cX12_measure 45 = .ok (.istore_n 1, 1) := by decide +kernel
theorem dX12_measure_46 : decode cX12_measure 46 = .ok (.iconst 0, 1) := by decide +kernel
theorem dX12_measure_47 : decode cX12_measure 47 = .ok (.istore_n 3, 1) := by decide +kernel
theorem dX12_measure_48 : decode cX12_measure 48 = .ok (.iload_n 3, 1) := by decide +kernel
theorem dX12_measure_49 : decode cX12_measure 49 = .ok (.aload_n 0, 1) := by decide +kernel
theorem dX12_measure_50 : decode cX12_measure 50 = .ok (.getfield 957, 3) := by decide +kernel
theorem dX12_measure_53 : decode cX12_measure 53 = .ok (.if_icmp .ge 69, 3) := by decide +kernel
theorem dX12_measure_56 : decode cX12_measure 56 = .ok (.iconst 0, 1) := by decide +kernel
theorem dX12_measure_57 : decode cX12_measure 57 = .ok (.istore 4, 2) := by decide +kernel
theorem dX12_measure_59 : decode cX12_measure 59 = .ok (.iload 4, 2) := by decide +kernel
theorem dX12_measure_61 : decode cX12_measure 61 = .ok (.aload_n 0, 1) := by decide +kernel
theorem dX12_measure_62 : decode cX12_measure 62 = .ok (.getfield 960, 3) := by decide +kernel
theorem dX12_measure_65 : decode cX12_measure 65 = .ok (.if_icmp .ge 51, 3) := by decide +kernel
theorem dX12_measure_68 : decode cX12_measure 68 = .ok (.aload_n 0, 1) := by decide +kernel
theorem dX12_measure_69 : decode cX12_measure 69 = .ok (.getfield 349, 3) := by decide +kernel
theorem dX12_measure_72 : decode cX12_measure 72 = .ok (.iload_n 3, 1) := by decide +kernel
theorem dX12_measure_73 : decode cX12_measure 73 = .ok (.iaload, 1) := by decide +kernel
theorem dX12_measure_74 : decode cX12_measure 74 = .ok (.iconst (-1), 1) := by decide +kernel
theorem dX12_measure_75 : decode cX12_measure 75 = .ok (.if_icmp .ne 41, 3) := by decide +kernel
theorem dX12_measure_116 : decode cX12_measure 116 = .ok (.iinc 3 1, 3) := by decide +kernel
theorem dX12_measure_119 : decode cX12_measure 119 = .ok (.goto (-71), 3) := by decide +kernel
theorem dX12_measure_122 : decode cX12_measure 122 = .ok (.iinc 2 1, 3) := by decide +kernel
theorem dX12_measure_125 : decode cX12_measure 125 = .ok (.goto (-85), 3) := by decide +kernel
theorem dX12_measure_128 : decode cX12_measure 128 = .ok (.return_, 1) := by decide +kernel
theorem dX12_tellLeast_0 : decode cX12_tellLeast 0 = .ok (.aload_n 0, 1) := by decide +kernel
theorem dX12_tellLeast_1 : decode cX12_tellLeast 1 = .ok (.invokevirtual 976, 3) := by decide +kernel
theorem dX12_tellLeast_4 : decode cX12_tellLeast 4 = .ok (.aload_n 0, 1) := by decide +kernel
theorem dX12_tellLeast_5 : decode cX12_tellLeast 5 = .ok (.getfield 349, 3) := by decide +kernel
theorem dX12_tellLeast_8 : decode cX12_tellLeast 8 = .ok (.iconst 0, 1) := by decide +kernel
theorem dX12_tellLeast_9 : decode cX12_tellLeast 9 = .ok (.iaload, 1) := by decide +kernel
theorem dX12_tellLeast_10 : decode cX12_tellLeast 10 = .ok (.iconst (-1), 1) := by decide +kernel
theorem dX12_tellLeast_11 : decode cX12_tellLeast 11 = .ok (.if_icmp .ne 5, 3) := by decide +kernel
theorem dX12_tellLeast_16 : decode cX12_tellLeast 16 = .ok (.iconst 0, 1) := by decide +kernel
theorem dX12_tellLeast_17 : decode cX12_tellLeast 17 = .ok (.istore_n 1, 1) := by decide +kernel
theorem dX12_tellLeast_18 : decode cX12_tellLeast 18 = .ok (.iload_n 1, 1) := by decide +kernel
theorem dX12_tellLeast_19 : decode cX12_tellLeast 19 = .ok (.iconst 4, 1) := by decide +kernel
theorem dX12_tellLeast_20 : decode cX12_tellLeast 20 = .ok (.if_icmp .ge 16, 3) := by decide +kernel
theorem dX12_tellLeast_23 : decode cX12_tellLeast 23 = .ok (.aload_n 0, 1) := by decide +kernel
theorem dX12_tellLeast_24 : decode cX12_tellLeast 24 = .ok (.getfield 352, 3) := by decide +kernel
theorem dX12_tellLeast_27 : decode cX12_tellLeast 27 = .ok (.iload_n 1, 1) := by decide +kernel
theorem dX12_tellLeast_28 : decode cX12_tellLeast 28 = .ok (.lconst 0, 1) := by decide +kernel
theorem dX12_tellLeast_29 : decode cX12_tellLeast 29 = .ok (.lastore, 1) := by decide +kernel
theorem dX12_tellLeast_30 : decode cX12_tellLeast 30 = .ok (.iinc 1 1, 3) := by decide +kernel
theorem dX12_tellLeast_33 : decode cX12_tellLeast 33 = .ok (.goto (-15), 3) := by decide +kernel
theorem dX12_tellLeast_36 : decode cX12_tellLeast 36 = .ok (.aload_n 0, 1) := by decide +kernel
theorem dX12_tellLeast_37 : decode cX12_tellLeast 37 = .ok (.aload_n 0, 1) := by decide +kernel
theorem dX12_tellLeast_38 : decode cX12_tellLeast 38 = .ok (.getfield 815, 3) := by decide +kernel
theorem dX12_tellLeast_41 : decode cX12_tellLeast 41 = .ok (.putfield 979, 3) := by decide +kernel
theorem dX12_tellLeast_44 : decode cX12_tellLeast 44 = .ok (.aload_n 0, 1) := by decide +kernel
theorem dX12_tellLeast_45 : decode cX12_tellLeast 45 = .ok (.aload_n 0, 1) := by decide +kernel
theorem dX12_tellLeast_46 : decode cX12_tellLeast 46 = .ok (.getfield 349, 3) := by decide +kernel
theorem dX12_tellLeast_49 : decode cX12_tellLeast 49 = .ok (.iconst 0, 1) := by decide +kernel
theorem dX12_tellLeast_50 : decode cX12_tellLeast 50 = .ok (.iaload, 1) := by decide +kernel
theorem dX12_tellLeast_51 : decode cX12_tellLeast 51 = .ok (.putfield 355, 3) := by decide +kernel
theorem dX12_tellLeast_54 : decode cX12_tellLeast 54 = .ok (.iconst 0, 1) := by decide +kernel
theorem dX12_tellLeast_55 : decode cX12_tellLeast 55 = .ok (.istore_n 1, 1) := by decide +kernel
theorem dX12_tellLeast_56 : decode cX12_tellLeast 56 = .ok (.iconst 0, 1) := by decide +kernel
theorem dX12_tellLeast_57 : decode cX12_tellLeast 57 = .ok (.istore_n 2, 1) := by decide +kernel
theorem dX12_tellLeast_58 : decode cX12_tellLeast 58 = .ok (.aload_n 0, 1) := by decide +kernel
theorem dX12_tellLeast_59 : decode cX12_tellLeast 59 = .ok (.getfield 349, 3) := by decide +kernel
theorem dX12_tellLeast_62 : decode cX12_tellLeast 62 = .ok (.iload_n 1, 1) := by decide +kernel
theorem dX12_tellLeast_63 : decode cX12_tellLeast 63 = .ok (.iaload, 1) := by decide +kernel
theorem dX12_tellLeast_64 : decode cX12_tellLeast 64 = .ok (.ifCond .le 98, 3) := by decide +kernel
theorem dX12_tellLeast_162 : decode cX12_tellLeast 162 = .ok (.iconst 0, 1) := by decide +kernel
theorem dX12_tellLeast_163 : decode cX12_tellLeast 163 = .ok (.istore_n 3, 1) := by decide +kernel
theorem dX12_tellLeast_164 : decode cX12_tellLeast 164 = .ok (.aload_n 0, 1) := by decide +kernel
theorem dX12_tellLeast_165 : decode cX12_tellLeast 165 = .ok (.getfield 334, 3) := by decide +kernel
theorem dX12_tellLeast_168 : decode cX12_tellLeast 168 = .ok (.iload_n 1, 1) := by decide +kernel
theorem dX12_tellLeast_169 : decode cX12_tellLeast 169 = .ok (.iaload, 1) := by decide +kernel
theorem dX12_tellLeast_170 : decode cX12_tellLeast 170 = .ok (.iload_n 3, 1) := by decide +kernel
theorem dX12_tellLeast_171 : decode cX12_tellLeast 171 = .ok (.ishr, 1) := by decide +kernel
theorem dX12_tellLeast_172 : decode cX12_tellLeast 172 = .ok (.iconst 1, 1) := by decide +kernel
theorem dX12_tellLeast_173 : decode cX12_tellLeast 173 = .ok (.iand, 1) := by decide +kernel
theorem dX12_tellLeast_174 : decode cX12_tellLeast 174 = .ok (.ifCond .ne 9, 3) := by decide +kernel
theorem dX12_tellLeast_183 : decode cX12_tellLeast 183 = .ok (.iconst 0, 1) := by decide +kernel
theorem dX12_tellLeast_184 : decode cX12_tellLeast 184 = .ok (.istore 4, 2) := by decide +kernel
theorem dX12_tellLeast_186 : decode cX12_tellLeast 186 = .ok (.iload 4, 2) := by decide +kernel
theorem dX12_tellLeast_188 : decode cX12_tellLeast 188 = .ok (.aload_n 0, 1) := by decide +kernel
theorem dX12_tellLeast_189 : decode cX12_tellLeast 189 = .ok (.getfield 815, 3) := by decide +kernel
theorem dX12_tellLeast_192 : decode cX12_tellLeast 192 = .ok (.if_icmp .ge 33, 3) := by decide +kernel
theorem dX12_tellLeast_225 : decode cX12_tellLeast 225 = .ok (.iconst 1, 1) := by decide +kernel
theorem dX12_tellLeast_226 : decode cX12_tellLeast 226 = .ok (.ireturn, 1) := by decide +kernel
theorem dX12_decide_0 : decode cX12_decide 0 = .ok (.aload_n 0, 1) := by decide +kernel
theorem dX12_decide_1 : decode cX12_decide 1 = .ok (.invokevirtual 871, 3) := by decide +kernel
theorem dX12_decide_4 : decode cX12_decide 4 = .ok (.ifCond .ne 6, 3) := by decide +kernel
theorem dX12_decide_10 : decode cX12_decide 10 = .ok (.aload_n 0, 1) := by decide +kernel
theorem dX12_decide_11 : decode cX12_decide 11 = .ok (.invokevirtual 982, 3) := by decide +kernel
theorem dX12_decide_14 : decode cX12_decide 14 = .ok (.aload_n 0, 1) := by decide +kernel
theorem dX12_decide_15 : decode cX12_decide 15 = .ok (.invokevirtual 985, 3) := by decide +kernel
theorem dX12_decide_18 : decode cX12_decide 18 = .ok (.ifCond .ne 6, 3) := by decide +kernel
theorem dX12_decide_24 : decode cX12_decide 24 = .ok (.aload_n 0, 1) := by decide +kernel
theorem dX12_decide_25 : decode cX12_decide 25 = .ok (.iconst 0, 1) := by decide +kernel
theorem dX12_decide_26 : decode cX12_decide 26 = .ok (.iconst 0, 1) := by decide +kernel
theorem dX12_decide_27 : decode cX12_decide 27 = .ok (.iconst (-1), 1) := by decide +kernel
theorem dX12_decide_28 : decode cX12_decide 28 = .ok (.invokevirtual 988, 3) := by decide +kernel
theorem dX12_decide_31 : decode cX12_decide 31 = .ok (.aload_n 0, 1) := by decide +kernel
theorem dX12_decide_32 : decode cX12_decide 32 = .ok (.invokevirtual 991, 3) := by decide +kernel
theorem dX12_decide_35 : decode cX12_decide 35 = .ok (.ifCond .eq 7, 3) := by decide +kernel
theorem dX12_decide_38 : decode cX12_decide 38 = .ok (.iconst 1, 1) := by decide +kernel
theorem dX12_decide_39 : decode cX12_decide 39 = .ok (.goto 4, 3) := by decide +kernel
theorem dX12_decide_43 : decode cX12_decide 43 = .ok (.ireturn, 1) := by decide +kernel
set_option maxHeartbeats 400000000 in
set_option maxRecDepth 100000 in
theorem c_X12_measure_0 (l : Launch) (E : kE) (D : va_G) (cI cJ cB cZ : ClassId) (h0 : Nat) (f0 : List Value) (h1 : Nat) (h2 : Nat) (g0 : Nat → Int32) (g1 : Nat → Int32) (e0 : f0[129]? = some (.int 1)) (e1 : f0[137]? = some (.ref h1)) (e2 : f0[132]? = some (.ref h2)) (e3 : g0 0 = 1) (e4 : f0[131]? = some (.int 1)) : kV l E D (kT cI cJ cB cZ) yX12_measure vW_X12_measure ({ frames := 0, cells := 0, slots := 0, locals := 0 }) [.ref h0] [(h0, .inr (12, f0)), (h2, .inl (cI, 3000, .inl g0)), (h1, .inl (cI, 3000, .inl g1))] (fun _ : Unit => [(h0, .inr (12, f0)), (h2, .inl (cI, 3000, .inl g0)), (h1, .inl (cI, 3000, .inl (upd g1 0 0)))]) 0 0 := by
  intro sz
  refine Met.ofW (cc := cX12_measure) (maxL := 5) (ret := none) (by decide) rfl ?_
  intro p e s m args below meth c s₁ B hml hv
  obtain ⟨rfl, hsz, hP, hK, hD0, hN, hX⟩ := hv
  have hx := B.exec
  have hb := B.bytes
  have hr := B.returns
  have hts := atoms_spec (ws := vW_X12_measure) B.pre
  have hown : s.vm.findClass RX12 = some m.cls := findClass_of_methodNamed B.named
  have hlocks := B.notSynchronized
  have hin12 : ∀ w ∈ wsX120, w ∈ vW_X12_measure := u9_X12_measure_wsX120
  subst hsz
  have hD := hD0.self (sz := s.heap.size)
  have hAE := k_AE hD0 hX
  generalize hAe : va_A [(h0, .inr (12, f0)), (h2, .inl (cI, 3000, .inl g0)), (h1, .inl (cI, 3000, .inl g1))] s.heap.size = A at hD hAE ⊢
  have hA : ∀ q : Nat, s.heap.size ≤ q → A q := fun q h => by rw [← hAe]; exact Or.inr h
  have hS : va_S A s.heap s.heap [] := va_S.rf
  have hP : va_P D vwCl [(h0, .inr (12, f0)), (h2, .inl (cI, 3000, .inl g0)), (h1, .inl (cI, 3000, .inl g1))] s.heap := hP
  have hl := lv_entry ([.ref h0] : List Value) (n := 5) (Nat.le_of_ble_eq_true rfl)
  rw [lg_entry_eq]
  generalize (lg_sl ([.ref h0]) ++ List.replicate (5 - (lg_sl ([.ref h0])).length) Slot.unset).toArray = ls at hl ⊢
  have hl : lv_has ls 5 [(0, .ref h0)] := hl
  refine lv_iconst (v := 1) hx hb dX12_measure_0 (by decide) ?_
  refine lv_istore_n (lv' := [(1, .int 1), (0, .ref h0)]) hx hb dX12_measure_1 rfl hl (by decide) rfl (fun ls hl => ?_)
  refine lv_iconst (v := 0) hx hb dX12_measure_2 (by decide) ?_
  refine lv_istore_n (lv' := [(2, .int 0), (1, .int 1), (0, .ref h0)]) hx hb dX12_measure_3 rfl hl (by decide) rfl (fun ls hl => ?_)
  refine lv_iload_n hx hb dX12_measure_4 rfl (lv_at hl 0 rfl) ?_
  refine lv_aload_n hx hb dX12_measure_5 rfl (lv_at hl 2 rfl) ?_
  refine k_get (D := D) (ci := 12) (v := .int 1) (N := 195) hx hb hts hin12 hown hK hP 0 rfl rfl (by decide) f9_12_129 (hts (.fieldLink RX12 957 "IntegerHouseModel" "places" "I") (o9_X12_measure _ (List.mem_of_getElem? (i := 0) rfl))) e0 dX12_measure_6 ?_
  refine lv_icmp_ge (tgt := 38) hx hb dX12_measure_9 (by decide) (fun c9 => absurd c9 (by decide)) (fun _ => ?_)
  refine lv_aload_n hx hb dX12_measure_12 rfl (lv_at hl 2 rfl) ?_
  refine k_get (D := D) (ci := 12) (v := .ref h1) (N := 195) hx hb hts hin12 hown hK hP 0 rfl rfl (by decide) f9_12_137 (hts (.fieldLink RX12 349 "IntegerHouseModel" "far" "[I") (o9_X12_measure _ (List.mem_of_getElem? (i := 1) rfl))) e1 dX12_measure_13 ?_
  refine lv_iload_n hx hb dX12_measure_16 rfl (lv_at hl 0 rfl) ?_
  refine lv_aload_n hx hb dX12_measure_17 rfl (lv_at hl 2 rfl) ?_
  refine k_get (D := D) (ci := 12) (v := .ref h2) (N := 195) hx hb hts hin12 hown hK hP 0 rfl rfl (by decide) f9_12_132 (hts (.fieldLink RX12 334 "IntegerHouseModel" "takes" "[I") (o9_X12_measure _ (List.mem_of_getElem? (i := 2) rfl))) e2 dX12_measure_18 ?_
  refine lv_iload_n hx hb dX12_measure_21 rfl (lv_at hl 0 rfl) ?_
  refine va_iald hx hb hK hP 1 0 rfl rfl (k_in (by decide)) dX12_measure_22 ?_
  refine k_topi (y := 1) e3 ?_
  refine lv_if_eq (tgt := 30) hx hb dX12_measure_23 (by decide) (fun c9 => absurd c9 (by decide)) (fun _ => ?_)
  refine lv_iconst (v := 0) hx hb dX12_measure_26 (by decide) ?_
  refine lv_goto (tgt := 31) hx hb dX12_measure_27 (by decide) ?_
  refine va_iast hx hb hK hP hD hS 2 0 rfl rfl (k_in (by decide)) dX12_measure_31 (fun H locs hP hD hS => ?_)
  have hP : va_P D vwCl [(h0, .inr (12, f0)), (h2, .inl (cI, 3000, .inl g0)), (h1, .inl (cI, 3000, .inl (upd g1 0 0)))] H := hP
  have hD : va_D A [(h0, .inr (12, f0)), (h2, .inl (cI, 3000, .inl g0)), (h1, .inl (cI, 3000, .inl (upd g1 0 0)))] := hD
  refine lv_iinc (v := 1) (lv' := [(2, .int 1), (1, .int 1), (0, .ref h0)]) hx hb dX12_measure_32 hl (k := 0) rfl (by decide) (by decide) rfl (fun ls hl => ?_)
  refine lv_goto (tgt := 4) hx hb dX12_measure_35 (by decide) ?_
  refine lv_iload_n hx hb dX12_measure_4 rfl (lv_at hl 0 rfl) ?_
  refine lv_aload_n hx hb dX12_measure_5 rfl (lv_at hl 2 rfl) ?_
  refine k_get (D := D) (ci := 12) (v := .int 1) (N := 195) hx hb hts hin12 hown hK hP 0 rfl rfl (by decide) f9_12_129 (hts (.fieldLink RX12 957 "IntegerHouseModel" "places" "I") (o9_X12_measure _ (List.mem_of_getElem? (i := 0) rfl))) e0 dX12_measure_6 ?_
  refine lv_icmp_ge (tgt := 38) hx hb dX12_measure_9 (by decide) (fun _ => ?_) (fun c9 => absurd (by decide) c9)
  refine lv_iconst (v := 0) hx hb dX12_measure_38 (by decide) ?_
  refine lv_istore_n (lv' := [(2, .int 0), (1, .int 1), (0, .ref h0)]) hx hb dX12_measure_39 rfl hl (by decide) rfl (fun ls hl => ?_)
  refine lv_iload_n hx hb dX12_measure_40 rfl (lv_at hl 1 rfl) ?_
  refine lv_if_eq (tgt := 128) hx hb dX12_measure_41 (by decide) (fun c9 => absurd c9 (by decide)) (fun _ => ?_)
  refine lv_iconst (v := 0) hx hb dX12_measure_44 (by decide) ?_
  refine lv_istore_n (lv' := [(1, .int 0), (2, .int 0), (0, .ref h0)]) hx hb dX12_measure_45 rfl hl (by decide) rfl (fun ls hl => ?_)
  refine lv_iconst (v := 0) hx hb dX12_measure_46 (by decide) ?_
  refine lv_istore_n (lv' := [(3, .int 0), (1, .int 0), (2, .int 0), (0, .ref h0)]) hx hb dX12_measure_47 rfl hl (by decide) rfl (fun ls hl => ?_)
  refine lv_iload_n hx hb dX12_measure_48 rfl (lv_at hl 0 rfl) ?_
  refine lv_aload_n hx hb dX12_measure_49 rfl (lv_at hl 3 rfl) ?_
  refine k_get (D := D) (ci := 12) (v := .int 1) (N := 195) hx hb hts hin12 hown hK hP 0 rfl rfl (by decide) f9_12_129 (hts (.fieldLink RX12 957 "IntegerHouseModel" "places" "I") (o9_X12_measure _ (List.mem_of_getElem? (i := 0) rfl))) e0 dX12_measure_50 ?_
  refine lv_icmp_ge (tgt := 122) hx hb dX12_measure_53 (by decide) (fun c9 => absurd c9 (by decide)) (fun _ => ?_)
  refine lv_iconst (v := 0) hx hb dX12_measure_56 (by decide) ?_
  refine lv_istore (lv' := [(4, .int 0), (3, .int 0), (1, .int 0), (2, .int 0), (0, .ref h0)]) hx hb dX12_measure_57 hl (by decide) rfl (fun ls hl => ?_)
  refine lv_iload hx hb dX12_measure_59 (lv_at hl 0 rfl) ?_
  refine lv_aload_n hx hb dX12_measure_61 rfl (lv_at hl 4 rfl) ?_
  refine k_get (D := D) (ci := 12) (v := .int 1) (N := 195) hx hb hts hin12 hown hK hP 0 rfl rfl (by decide) f9_12_131 (hts (.fieldLink RX12 960 "IntegerHouseModel" "letters" "I") (o9_X12_measure _ (List.mem_of_getElem? (i := 3) rfl))) e4 dX12_measure_62 ?_
  refine lv_icmp_ge (tgt := 116) hx hb dX12_measure_65 (by decide) (fun c9 => absurd c9 (by decide)) (fun _ => ?_)
  refine lv_aload_n hx hb dX12_measure_68 rfl (lv_at hl 4 rfl) ?_
  refine k_get (D := D) (ci := 12) (v := .ref h1) (N := 195) hx hb hts hin12 hown hK hP 0 rfl rfl (by decide) f9_12_137 (hts (.fieldLink RX12 349 "IntegerHouseModel" "far" "[I") (o9_X12_measure _ (List.mem_of_getElem? (i := 1) rfl))) e1 dX12_measure_69 ?_
  refine lv_iload_n hx hb dX12_measure_72 rfl (lv_at hl 1 rfl) ?_
  refine va_iald hx hb hK hP 2 0 rfl rfl (k_in (by decide)) dX12_measure_73 ?_
  refine k_topi (y := 0) rfl ?_
  refine lv_iconst (v := (-1)) hx hb dX12_measure_74 (by decide) ?_
  refine lv_icmp_ne (tgt := 116) hx hb dX12_measure_75 (by decide) (fun _ => ?_) (fun c9 => absurd c9 (by decide))
  refine lv_iinc (v := 1) (lv' := [(3, .int 1), (4, .int 0), (1, .int 0), (2, .int 0), (0, .ref h0)]) hx hb dX12_measure_116 hl (k := 1) rfl (by decide) (by decide) rfl (fun ls hl => ?_)
  refine lv_goto (tgt := 48) hx hb dX12_measure_119 (by decide) ?_
  refine lv_iload_n hx hb dX12_measure_48 rfl (lv_at hl 0 rfl) ?_
  refine lv_aload_n hx hb dX12_measure_49 rfl (lv_at hl 4 rfl) ?_
  refine k_get (D := D) (ci := 12) (v := .int 1) (N := 195) hx hb hts hin12 hown hK hP 0 rfl rfl (by decide) f9_12_129 (hts (.fieldLink RX12 957 "IntegerHouseModel" "places" "I") (o9_X12_measure _ (List.mem_of_getElem? (i := 0) rfl))) e0 dX12_measure_50 ?_
  refine lv_icmp_ge (tgt := 122) hx hb dX12_measure_53 (by decide) (fun _ => ?_) (fun c9 => absurd (by decide) c9)
  refine lv_iinc (v := 1) (lv' := [(2, .int 1), (3, .int 1), (4, .int 0), (1, .int 0), (0, .ref h0)]) hx hb dX12_measure_122 hl (k := 3) rfl (by decide) (by decide) rfl (fun ls hl => ?_)
  refine lv_goto (tgt := 40) hx hb dX12_measure_125 (by decide) ?_
  refine lv_iload_n hx hb dX12_measure_40 rfl (lv_at hl 3 rfl) ?_
  refine lv_if_eq (tgt := 128) hx hb dX12_measure_41 (by decide) (fun _ => ?_) (fun c9 => absurd (by decide) c9)
  exact W.vret hx hb hr (fun t ht hW => ⟨⟨(), rfl, trivial, kB_mk ht hW hP hK hD⟩, hS.F ht⟩) hS.2.2 dX12_measure_128
set_option maxHeartbeats 400000000 in
set_option maxRecDepth 100000 in
theorem c_X12_tellLeast_0 (l : Launch) (E : kE) (D : va_G) (cI cJ cB cZ : ClassId) (h0 : Nat) (f0 : List Value) (h1 : Nat) (h2 : Nat) (g0 : Nat → Int32) (g1 : Nat → Int32) (h3 : Nat) (g2 : Nat → Int64) (e0 : f0[129]? = some (.int 1)) (e1 : f0[137]? = some (.ref h1)) (e2 : f0[132]? = some (.ref h2)) (e3 : g0 0 = 1) (e4 : f0[131]? = some (.int 1)) (e5 : f0[138]? = some (.ref h3)) (e6 : f0[32]? = some (.int 0)) (e7 : f0[139]? = some (.int 0)) (e8 : f0[140]? = some (.int (-1))) : kI l E D (kT cI cJ cB cZ) yX12_tellLeast vW_X12_tellLeast ({ frames := 1, cells := 0, slots := 0, locals := 24 }) [.ref h0] [(h0, .inr (12, f0)), (h2, .inl (cI, 3000, .inl g0)), (h1, .inl (cI, 3000, .inl g1)), (h3, .inl (cJ, 4, .inr (.inl g2)))] (1) [(h0, .inr (12, ((f0.set 139 (.int 0)).set 140 (.int 0)))), (h2, .inl (cI, 3000, .inl g0)), (h1, .inl (cI, 3000, .inl (upd g1 0 0))), (h3, .inl (cJ, 4, .inr (.inl (vp_updL (vp_updL (vp_updL (vp_updL g2 0 0) 1 0) 2 0) 3 0))))] 0 0 := by
  intro sz
  refine Met.ofW (cc := cX12_tellLeast) (maxL := 5) (ret := (some .boolean)) (by decide) rfl ?_
  intro p e s m args below meth c s₁ B hml hv
  obtain ⟨rfl, hsz, hP, hK, hD0, hN, hX⟩ := hv
  have hx := B.exec
  have hb := B.bytes
  have hr := B.returns
  have hts := atoms_spec (ws := vW_X12_tellLeast) B.pre
  have hown : s.vm.findClass RX12 = some m.cls := findClass_of_methodNamed B.named
  have hlocks := B.notSynchronized
  have hin12 : ∀ w ∈ wsX120, w ∈ vW_X12_tellLeast := u9_X12_tellLeast_wsX120
  subst hsz
  have hD := hD0.self (sz := s.heap.size)
  have hAE := k_AE hD0 hX
  generalize hAe : va_A [(h0, .inr (12, f0)), (h2, .inl (cI, 3000, .inl g0)), (h1, .inl (cI, 3000, .inl g1)), (h3, .inl (cJ, 4, .inr (.inl g2)))] s.heap.size = A at hD hAE ⊢
  have hA : ∀ q : Nat, s.heap.size ≤ q → A q := fun q h => by rw [← hAe]; exact Or.inr h
  have hS : va_S A s.heap s.heap [] := va_S.rf
  have hP : va_P D vwCl [(h0, .inr (12, f0)), (h2, .inl (cI, 3000, .inl g0)), (h1, .inl (cI, 3000, .inl g1)), (h3, .inl (cJ, 4, .inr (.inl g2)))] s.heap := hP
  have hl := lv_entry ([.ref h0] : List Value) (n := 5) (Nat.le_of_ble_eq_true rfl)
  rw [lg_entry_eq]
  generalize (lg_sl ([.ref h0]) ++ List.replicate (5 - (lg_sl ([.ref h0])).length) Slot.unset).toArray = ls at hl ⊢
  have hl : lv_has ls 5 [(0, .ref h0)] := hl
  refine lv_aload_n hx hb dX12_tellLeast_0 rfl (lv_at hl 0 rfl) ?_
  refine k_cVv (As := []) (rest := []) (wc := [(h0, .inr (12, f0)), (h2, .inl (cI, 3000, .inl g0)), (h1, .inl (cI, 3000, .inl g1))]) (wr := [(h3, .inl (cJ, 4, .inr (.inl g2)))]) (w1 := (fun _ : Unit => [(h0, .inr (12, f0)), (h2, .inl (cI, 3000, .inl g0)), (h1, .inl (cI, 3000, .inl (upd g1 0 0)))])) ⟨hx, hb, hml, hown, hts⟩ hN hX hAE hK hP hD hS hA [0, 1, 2] [3] (ci := 12) rfl rfl rfl rfl (by decide +kernel) (by decide +kernel) (by decide +kernel) (c_X12_measure_0 l E D cI cJ cB cZ h0 f0 h1 h2 g0 g1 e0 e1 e2 e3 e4) (cwV 0 hts g9_X12_tellLeast_X12_measure_976 rfl rfl rfl (by decide +kernel) ⟨Nat.le_of_ble_eq_true rfl, Nat.le_of_ble_eq_true rfl⟩) rfl hl.1 (Nat.le_of_ble_eq_true rfl) dX12_tellLeast_1 ⟨Nat.le_of_ble_eq_true rfl, Nat.le_of_ble_eq_true rfl⟩ (fun _ H locs hP hD hS => ?_)
  have hP : va_P D vwCl [(h3, .inl (cJ, 4, .inr (.inl g2))), (h0, .inr (12, f0)), (h2, .inl (cI, 3000, .inl g0)), (h1, .inl (cI, 3000, .inl (upd g1 0 0)))] H := hP
  have hD : va_D A [(h3, .inl (cJ, 4, .inr (.inl g2))), (h0, .inr (12, f0)), (h2, .inl (cI, 3000, .inl g0)), (h1, .inl (cI, 3000, .inl (upd g1 0 0)))] := hD
  refine lv_aload_n hx hb dX12_tellLeast_4 rfl (lv_at hl 0 rfl) ?_
  refine k_get (D := D) (ci := 12) (v := .ref h1) (N := 195) hx hb hts hin12 hown hK hP 1 rfl rfl (by decide) f9_12_137 (hts (.fieldLink RX12 349 "IntegerHouseModel" "far" "[I") (o9_X12_tellLeast _ (List.mem_of_getElem? (i := 4) rfl))) e1 dX12_tellLeast_5 ?_
  refine lv_iconst (v := 0) hx hb dX12_tellLeast_8 (by decide) ?_
  refine va_iald hx hb hK hP 3 0 rfl rfl (k_in (by decide)) dX12_tellLeast_9 ?_
  refine k_topi (y := 0) rfl ?_
  refine lv_iconst (v := (-1)) hx hb dX12_tellLeast_10 (by decide) ?_
  refine lv_icmp_ne (tgt := 16) hx hb dX12_tellLeast_11 (by decide) (fun _ => ?_) (fun c9 => absurd c9 (by decide))
  refine lv_iconst (v := 0) hx hb dX12_tellLeast_16 (by decide) ?_
  refine lv_istore_n (lv' := [(1, .int 0), (0, .ref h0)]) hx hb dX12_tellLeast_17 rfl hl (by decide) rfl (fun ls hl => ?_)
  refine lv_iload_n hx hb dX12_tellLeast_18 rfl (lv_at hl 0 rfl) ?_
  refine lv_iconst (v := 4) hx hb dX12_tellLeast_19 (by decide) ?_
  refine lv_icmp_ge (tgt := 36) hx hb dX12_tellLeast_20 (by decide) (fun c9 => absurd c9 (by decide)) (fun _ => ?_)
  refine lv_aload_n hx hb dX12_tellLeast_23 rfl (lv_at hl 1 rfl) ?_
  refine k_get (D := D) (ci := 12) (v := .ref h3) (N := 195) hx hb hts hin12 hown hK hP 1 rfl rfl (by decide) f9_12_138 (hts (.fieldLink RX12 352 "IntegerHouseModel" "told" "[J") (o9_X12_tellLeast _ (List.mem_of_getElem? (i := 5) rfl))) e5 dX12_tellLeast_24 ?_
  refine lv_iload_n hx hb dX12_tellLeast_27 rfl (lv_at hl 0 rfl) ?_
  refine lv_lconst (v := 0) hx hb dX12_tellLeast_28 (by decide) ?_
  refine va_last hx hb hK hP hD hS 0 1 rfl rfl (k_in (by decide)) dX12_tellLeast_29 (fun H locs hP hD hS => ?_)
  have hP : va_P D vwCl [(h3, .inl (cJ, 4, .inr (.inl (vp_updL g2 0 0)))), (h0, .inr (12, f0)), (h2, .inl (cI, 3000, .inl g0)), (h1, .inl (cI, 3000, .inl (upd g1 0 0)))] H := hP
  have hD : va_D A [(h3, .inl (cJ, 4, .inr (.inl (vp_updL g2 0 0)))), (h0, .inr (12, f0)), (h2, .inl (cI, 3000, .inl g0)), (h1, .inl (cI, 3000, .inl (upd g1 0 0)))] := hD
  refine lv_iinc (v := 1) (lv' := [(1, .int 1), (0, .ref h0)]) hx hb dX12_tellLeast_30 hl (k := 0) rfl (by decide) (by decide) rfl (fun ls hl => ?_)
  refine lv_goto (tgt := 18) hx hb dX12_tellLeast_33 (by decide) ?_
  refine lv_iload_n hx hb dX12_tellLeast_18 rfl (lv_at hl 0 rfl) ?_
  refine lv_iconst (v := 4) hx hb dX12_tellLeast_19 (by decide) ?_
  refine lv_icmp_ge (tgt := 36) hx hb dX12_tellLeast_20 (by decide) (fun c9 => absurd c9 (by decide)) (fun _ => ?_)
  refine lv_aload_n hx hb dX12_tellLeast_23 rfl (lv_at hl 1 rfl) ?_
  refine k_get (D := D) (ci := 12) (v := .ref h3) (N := 195) hx hb hts hin12 hown hK hP 1 rfl rfl (by decide) f9_12_138 (hts (.fieldLink RX12 352 "IntegerHouseModel" "told" "[J") (o9_X12_tellLeast _ (List.mem_of_getElem? (i := 5) rfl))) e5 dX12_tellLeast_24 ?_
  refine lv_iload_n hx hb dX12_tellLeast_27 rfl (lv_at hl 0 rfl) ?_
  refine lv_lconst (v := 0) hx hb dX12_tellLeast_28 (by decide) ?_
  refine va_last hx hb hK hP hD hS 0 1 rfl rfl (k_in (by decide)) dX12_tellLeast_29 (fun H locs hP hD hS => ?_)
  have hP : va_P D vwCl [(h3, .inl (cJ, 4, .inr (.inl (vp_updL (vp_updL g2 0 0) 1 0)))), (h0, .inr (12, f0)), (h2, .inl (cI, 3000, .inl g0)), (h1, .inl (cI, 3000, .inl (upd g1 0 0)))] H := hP
  have hD : va_D A [(h3, .inl (cJ, 4, .inr (.inl (vp_updL (vp_updL g2 0 0) 1 0)))), (h0, .inr (12, f0)), (h2, .inl (cI, 3000, .inl g0)), (h1, .inl (cI, 3000, .inl (upd g1 0 0)))] := hD
  refine lv_iinc (v := 2) (lv' := [(1, .int 2), (0, .ref h0)]) hx hb dX12_tellLeast_30 hl (k := 0) rfl (by decide) (by decide) rfl (fun ls hl => ?_)
  refine lv_goto (tgt := 18) hx hb dX12_tellLeast_33 (by decide) ?_
  refine lv_iload_n hx hb dX12_tellLeast_18 rfl (lv_at hl 0 rfl) ?_
  refine lv_iconst (v := 4) hx hb dX12_tellLeast_19 (by decide) ?_
  refine lv_icmp_ge (tgt := 36) hx hb dX12_tellLeast_20 (by decide) (fun c9 => absurd c9 (by decide)) (fun _ => ?_)
  refine lv_aload_n hx hb dX12_tellLeast_23 rfl (lv_at hl 1 rfl) ?_
  refine k_get (D := D) (ci := 12) (v := .ref h3) (N := 195) hx hb hts hin12 hown hK hP 1 rfl rfl (by decide) f9_12_138 (hts (.fieldLink RX12 352 "IntegerHouseModel" "told" "[J") (o9_X12_tellLeast _ (List.mem_of_getElem? (i := 5) rfl))) e5 dX12_tellLeast_24 ?_
  refine lv_iload_n hx hb dX12_tellLeast_27 rfl (lv_at hl 0 rfl) ?_
  refine lv_lconst (v := 0) hx hb dX12_tellLeast_28 (by decide) ?_
  refine va_last hx hb hK hP hD hS 0 1 rfl rfl (k_in (by decide)) dX12_tellLeast_29 (fun H locs hP hD hS => ?_)
  have hP : va_P D vwCl [(h3, .inl (cJ, 4, .inr (.inl (vp_updL (vp_updL (vp_updL g2 0 0) 1 0) 2 0)))), (h0, .inr (12, f0)), (h2, .inl (cI, 3000, .inl g0)), (h1, .inl (cI, 3000, .inl (upd g1 0 0)))] H := hP
  have hD : va_D A [(h3, .inl (cJ, 4, .inr (.inl (vp_updL (vp_updL (vp_updL g2 0 0) 1 0) 2 0)))), (h0, .inr (12, f0)), (h2, .inl (cI, 3000, .inl g0)), (h1, .inl (cI, 3000, .inl (upd g1 0 0)))] := hD
  refine lv_iinc (v := 3) (lv' := [(1, .int 3), (0, .ref h0)]) hx hb dX12_tellLeast_30 hl (k := 0) rfl (by decide) (by decide) rfl (fun ls hl => ?_)
  refine lv_goto (tgt := 18) hx hb dX12_tellLeast_33 (by decide) ?_
  refine lv_iload_n hx hb dX12_tellLeast_18 rfl (lv_at hl 0 rfl) ?_
  refine lv_iconst (v := 4) hx hb dX12_tellLeast_19 (by decide) ?_
  refine lv_icmp_ge (tgt := 36) hx hb dX12_tellLeast_20 (by decide) (fun c9 => absurd c9 (by decide)) (fun _ => ?_)
  refine lv_aload_n hx hb dX12_tellLeast_23 rfl (lv_at hl 1 rfl) ?_
  refine k_get (D := D) (ci := 12) (v := .ref h3) (N := 195) hx hb hts hin12 hown hK hP 1 rfl rfl (by decide) f9_12_138 (hts (.fieldLink RX12 352 "IntegerHouseModel" "told" "[J") (o9_X12_tellLeast _ (List.mem_of_getElem? (i := 5) rfl))) e5 dX12_tellLeast_24 ?_
  refine lv_iload_n hx hb dX12_tellLeast_27 rfl (lv_at hl 0 rfl) ?_
  refine lv_lconst (v := 0) hx hb dX12_tellLeast_28 (by decide) ?_
  refine va_last hx hb hK hP hD hS 0 1 rfl rfl (k_in (by decide)) dX12_tellLeast_29 (fun H locs hP hD hS => ?_)
  have hP : va_P D vwCl [(h3, .inl (cJ, 4, .inr (.inl (vp_updL (vp_updL (vp_updL (vp_updL g2 0 0) 1 0) 2 0) 3 0)))), (h0, .inr (12, f0)), (h2, .inl (cI, 3000, .inl g0)), (h1, .inl (cI, 3000, .inl (upd g1 0 0)))] H := hP
  have hD : va_D A [(h3, .inl (cJ, 4, .inr (.inl (vp_updL (vp_updL (vp_updL (vp_updL g2 0 0) 1 0) 2 0) 3 0)))), (h0, .inr (12, f0)), (h2, .inl (cI, 3000, .inl g0)), (h1, .inl (cI, 3000, .inl (upd g1 0 0)))] := hD
  refine lv_iinc (v := 4) (lv' := [(1, .int 4), (0, .ref h0)]) hx hb dX12_tellLeast_30 hl (k := 0) rfl (by decide) (by decide) rfl (fun ls hl => ?_)
  refine lv_goto (tgt := 18) hx hb dX12_tellLeast_33 (by decide) ?_
  refine lv_iload_n hx hb dX12_tellLeast_18 rfl (lv_at hl 0 rfl) ?_
  refine lv_iconst (v := 4) hx hb dX12_tellLeast_19 (by decide) ?_
  refine lv_icmp_ge (tgt := 36) hx hb dX12_tellLeast_20 (by decide) (fun _ => ?_) (fun c9 => absurd (by decide) c9)
  refine lv_aload_n hx hb dX12_tellLeast_36 rfl (lv_at hl 1 rfl) ?_
  refine lv_aload_n hx hb dX12_tellLeast_37 rfl (lv_at hl 1 rfl) ?_
  refine k_get (D := D) (ci := 12) (v := .int 0) (N := 195) hx hb hts hin12 hown hK hP 1 rfl rfl (by decide) f9_12_32 (hts (.fieldLink RX12 815 "IntegerHouseModel" "variables" "I") (o9_X12_tellLeast _ (List.mem_of_getElem? (i := 6) rfl))) e6 dX12_tellLeast_38 ?_
  refine k_put (D := D) (ci := 12) (v := .int 0) (ty := .int) (N := 195) hx hb hts hin12 tyX12 tyX12_ok nmX12 hown hK hP hD hS 1 rfl rfl (by decide) f9_12_139 (hts (.fieldLink RX12 979 "IntegerHouseModel" "toldVariables" "I") (o9_X12_tellLeast _ (List.mem_of_getElem? (i := 7) rfl))) rfl pd_2 rfl rfl (k_len e7) dX12_tellLeast_41 (fun H locs hP hD hS => ?_)
  have hP : va_P D vwCl [(h3, .inl (cJ, 4, .inr (.inl (vp_updL (vp_updL (vp_updL (vp_updL g2 0 0) 1 0) 2 0) 3 0)))), (h0, .inr (12, (f0.set 139 (.int 0)))), (h2, .inl (cI, 3000, .inl g0)), (h1, .inl (cI, 3000, .inl (upd g1 0 0)))] H := hP
  have hD : va_D A [(h3, .inl (cJ, 4, .inr (.inl (vp_updL (vp_updL (vp_updL (vp_updL g2 0 0) 1 0) 2 0) 3 0)))), (h0, .inr (12, (f0.set 139 (.int 0)))), (h2, .inl (cI, 3000, .inl g0)), (h1, .inl (cI, 3000, .inl (upd g1 0 0)))] := hD
  refine lv_aload_n hx hb dX12_tellLeast_44 rfl (lv_at hl 1 rfl) ?_
  refine lv_aload_n hx hb dX12_tellLeast_45 rfl (lv_at hl 1 rfl) ?_
  refine k_get (D := D) (ci := 12) (v := .ref h1) (N := 195) hx hb hts hin12 hown hK hP 1 rfl rfl (by decide) f9_12_137 (hts (.fieldLink RX12 349 "IntegerHouseModel" "far" "[I") (o9_X12_tellLeast _ (List.mem_of_getElem? (i := 4) rfl))) (k_ne (by decide) e1) dX12_tellLeast_46 ?_
  refine lv_iconst (v := 0) hx hb dX12_tellLeast_49 (by decide) ?_
  refine va_iald hx hb hK hP 3 0 rfl rfl (k_in (by decide)) dX12_tellLeast_50 ?_
  refine k_topi (y := 0) rfl ?_
  refine k_put (D := D) (ci := 12) (v := .int 0) (ty := .int) (N := 195) hx hb hts hin12 tyX12 tyX12_ok nmX12 hown hK hP hD hS 1 rfl rfl (by decide) f9_12_140 (hts (.fieldLink RX12 355 "IntegerHouseModel" "toldHeight" "I") (o9_X12_tellLeast _ (List.mem_of_getElem? (i := 8) rfl))) rfl pd_2 rfl rfl (k_len (k_ne (by decide) e8)) dX12_tellLeast_51 (fun H locs hP hD hS => ?_)
  have hP : va_P D vwCl [(h3, .inl (cJ, 4, .inr (.inl (vp_updL (vp_updL (vp_updL (vp_updL g2 0 0) 1 0) 2 0) 3 0)))), (h0, .inr (12, ((f0.set 139 (.int 0)).set 140 (.int 0)))), (h2, .inl (cI, 3000, .inl g0)), (h1, .inl (cI, 3000, .inl (upd g1 0 0)))] H := hP
  have hD : va_D A [(h3, .inl (cJ, 4, .inr (.inl (vp_updL (vp_updL (vp_updL (vp_updL g2 0 0) 1 0) 2 0) 3 0)))), (h0, .inr (12, ((f0.set 139 (.int 0)).set 140 (.int 0)))), (h2, .inl (cI, 3000, .inl g0)), (h1, .inl (cI, 3000, .inl (upd g1 0 0)))] := hD
  refine lv_iconst (v := 0) hx hb dX12_tellLeast_54 (by decide) ?_
  refine lv_istore_n (lv' := [(1, .int 0), (0, .ref h0)]) hx hb dX12_tellLeast_55 rfl hl (by decide) rfl (fun ls hl => ?_)
  refine lv_iconst (v := 0) hx hb dX12_tellLeast_56 (by decide) ?_
  refine lv_istore_n (lv' := [(2, .int 0), (1, .int 0), (0, .ref h0)]) hx hb dX12_tellLeast_57 rfl hl (by decide) rfl (fun ls hl => ?_)
  refine lv_aload_n hx hb dX12_tellLeast_58 rfl (lv_at hl 2 rfl) ?_
  refine k_get (D := D) (ci := 12) (v := .ref h1) (N := 195) hx hb hts hin12 hown hK hP 1 rfl rfl (by decide) f9_12_137 (hts (.fieldLink RX12 349 "IntegerHouseModel" "far" "[I") (o9_X12_tellLeast _ (List.mem_of_getElem? (i := 4) rfl))) (k_ne (by decide) (k_ne (by decide) e1)) dX12_tellLeast_59 ?_
  refine lv_iload_n hx hb dX12_tellLeast_62 rfl (lv_at hl 1 rfl) ?_
  refine va_iald hx hb hK hP 3 0 rfl rfl (k_in (by decide)) dX12_tellLeast_63 ?_
  refine k_topi (y := 0) rfl ?_
  refine lv_if_le (tgt := 162) hx hb dX12_tellLeast_64 (by decide) (fun _ => ?_) (fun c9 => absurd (by decide) c9)
  refine lv_iconst (v := 0) hx hb dX12_tellLeast_162 (by decide) ?_
  refine lv_istore_n (lv' := [(3, .int 0), (2, .int 0), (1, .int 0), (0, .ref h0)]) hx hb dX12_tellLeast_163 rfl hl (by decide) rfl (fun ls hl => ?_)
  refine lv_aload_n hx hb dX12_tellLeast_164 rfl (lv_at hl 3 rfl) ?_
  refine k_get (D := D) (ci := 12) (v := .ref h2) (N := 195) hx hb hts hin12 hown hK hP 1 rfl rfl (by decide) f9_12_132 (hts (.fieldLink RX12 334 "IntegerHouseModel" "takes" "[I") (o9_X12_tellLeast _ (List.mem_of_getElem? (i := 9) rfl))) (k_ne (by decide) (k_ne (by decide) e2)) dX12_tellLeast_165 ?_
  refine lv_iload_n hx hb dX12_tellLeast_168 rfl (lv_at hl 2 rfl) ?_
  refine va_iald hx hb hK hP 2 0 rfl rfl (k_in (by decide)) dX12_tellLeast_169 ?_
  refine k_topi (y := 1) e3 ?_
  refine lv_iload_n hx hb dX12_tellLeast_170 rfl (lv_at hl 0 rfl) ?_
  refine lv_ishr hx hb dX12_tellLeast_171 ?_
  refine k_topi (y := 1) (by decide) ?_
  refine lv_iconst (v := 1) hx hb dX12_tellLeast_172 (by decide) ?_
  refine lv_iand hx hb dX12_tellLeast_173 ?_
  refine k_topi (y := 1) (by decide) ?_
  refine lv_if_ne (tgt := 183) hx hb dX12_tellLeast_174 (by decide) (fun _ => ?_) (fun c9 => absurd c9 (by decide))
  refine lv_iconst (v := 0) hx hb dX12_tellLeast_183 (by decide) ?_
  refine lv_istore (lv' := [(4, .int 0), (3, .int 0), (2, .int 0), (1, .int 0), (0, .ref h0)]) hx hb dX12_tellLeast_184 hl (by decide) rfl (fun ls hl => ?_)
  refine lv_iload hx hb dX12_tellLeast_186 (lv_at hl 0 rfl) ?_
  refine lv_aload_n hx hb dX12_tellLeast_188 rfl (lv_at hl 4 rfl) ?_
  refine k_get (D := D) (ci := 12) (v := .int 0) (N := 195) hx hb hts hin12 hown hK hP 1 rfl rfl (by decide) f9_12_32 (hts (.fieldLink RX12 815 "IntegerHouseModel" "variables" "I") (o9_X12_tellLeast _ (List.mem_of_getElem? (i := 6) rfl))) (k_ne (by decide) (k_ne (by decide) e6)) dX12_tellLeast_189 ?_
  refine lv_icmp_ge (tgt := 225) hx hb dX12_tellLeast_192 (by decide) (fun _ => ?_) (fun c9 => absurd (by decide) c9)
  refine lv_iconst (v := 1) hx hb dX12_tellLeast_225 (by decide) ?_
  have hP := hP.sub (ws' := [(h0, .inr (12, ((f0.set 139 (.int 0)).set 140 (.int 0)))), (h2, .inl (cI, 3000, .inl g0)), (h1, .inl (cI, 3000, .inl (upd g1 0 0))), (h3, .inl (cJ, 4, .inr (.inl (vp_updL (vp_updL (vp_updL (vp_updL g2 0 0) 1 0) 2 0) 3 0))))]) [1, 2, 3, 0] rfl
  have hD := hD.sub (ws' := [(h0, .inr (12, ((f0.set 139 (.int 0)).set 140 (.int 0)))), (h2, .inl (cI, 3000, .inl g0)), (h1, .inl (cI, 3000, .inl (upd g1 0 0))), (h3, .inl (cJ, 4, .inr (.inl (vp_updL (vp_updL (vp_updL (vp_updL g2 0 0) 1 0) 2 0) 3 0))))]) [1, 2, 3, 0] (by decide +kernel) rfl
  exact W.zret (v := 1) hx hb hr rfl (fun t ht hW => ⟨⟨1, (), rfl, rfl, kB_mk ht hW hP hK hD⟩, hS.F ht⟩) hS.2.2 dX12_tellLeast_226
set_option maxHeartbeats 400000000 in
set_option maxRecDepth 100000 in
theorem c_X12_decide_0 (l : Launch) (E : kE) (D : va_G) (cI cJ cB cZ : ClassId) (h0 : Nat) (f0 : List Value) (h1 : Nat) (g0 : Nat → Int32) (h2 : Nat) (h3 : Nat) (h4 : Nat) (g1 : Nat → Int32) (g2 : Nat → Int32) (g3 : Nat → Int32) (h5 : Nat) (h6 : Nat) (h7 : Nat) (h8 : Nat) (g4 : Nat → Int32) (g5 : Nat → Int32) (g6 : Nat → Int32) (g7 : Nat → Int32) (h9 : Nat) (h10 : Nat) (g8 : Nat → Int32) (g9 : Nat → Int64) (e0 : f0[0]? = some (.int 0)) (e1 : f0[5]? = some (.int 0)) (e2 : f0[119]? = some (.int 0)) (e3 : f0[121]? = some (.ref h1)) (e4 : f0[33]? = some (.int 0)) (e5 : f0[32]? = some (.int 0)) (e6 : f0[131]? = some (.int 0)) (e7 : f0[127]? = some (.ref h2)) (e8 : f0[129]? = some (.int 0)) (e9 : f0[128]? = some (.ref h3)) (e10 : f0[126]? = some (.ref h4)) (e11 : f0[136]? = some (.ref h5)) (e12 : f0[132]? = some (.ref h6)) (e13 : f0[133]? = some (.ref h7)) (e14 : f0[135]? = some (.ref h8)) (e15 : f0[137]? = some (.ref h9)) (e16 : f0[138]? = some (.ref h10)) (e17 : f0[139]? = some (.int 0)) (e18 : f0[140]? = some (.int (-1))) : kI l E D (kT cI cJ cB cZ) yX12_decide vW_X12_decide ({ frames := 2, cells := 0, slots := 0, locals := 51 }) [.ref h0] [(h0, .inr (12, f0)), (h1, .inl (cZ, 26, .inl g0)), (h2, .inl (cI, 32768, .inl g1)), (h3, .inl (cI, 3000, .inl g2)), (h4, .inl (cI, 48000, .inl g3)), (h5, .inl (cI, 4096, .inl g4)), (h6, .inl (cI, 3000, .inl g5)), (h7, .inl (cI, 3000, .inl g6)), (h8, .inl (cI, 4096, .inl g7)), (h9, .inl (cI, 3000, .inl g8)), (h10, .inl (cJ, 4, .inr (.inl g9)))] (1) [(h0, .inr (12, (((((((f0.set 0 (.int 0)).set 119 (.int 0)).set 131 (.int 1)).set 129 (.int 0)).set 129 (.int 1)).set 139 (.int 0)).set 140 (.int 0)))), (h1, .inl (cZ, 26, .inl (upd (upd (upd (upd (upd (upd (upd (upd (upd (upd (upd (upd (upd (upd (upd (upd (upd (upd (upd (upd (upd (upd (upd (upd (upd (upd g0 0 0) 1 0) 2 0) 3 0) 4 0) 5 0) 6 0) 7 0) 8 0) 9 0) 10 0) 11 0) 12 0) 13 0) 14 0) 15 0) 16 0) 17 0) 18 0) 19 0) 20 0) 21 0) 22 0) 23 0) 24 0) 25 0))), (h2, .inl (cI, 32768, .inl (upd (k_fill (-1) 32768 g1) 17 0))), (h3, .inl (cI, 3000, .inl (upd g2 0 (-1)))), (h4, .inl (cI, 48000, .inl (upd g3 0 0))), (h5, .inl (cI, 4096, .inl (upd (k_fill (-1) 4096 g4) 0 1))), (h6, .inl (cI, 3000, .inl (upd (upd g5 0 0) 0 1))), (h7, .inl (cI, 3000, .inl (upd (upd g6 0 0) 0 0))), (h8, .inl (cI, 4096, .inl (upd g7 0 0))), (h9, .inl (cI, 3000, .inl (upd g8 0 0))), (h10, .inl (cJ, 4, .inr (.inl (vp_updL (vp_updL (vp_updL (vp_updL g9 0 0) 1 0) 2 0) 3 0))))] 0 0 := by
  intro sz
  refine Met.ofW (cc := cX12_decide) (maxL := 1) (ret := (some .int)) (by decide) rfl ?_
  intro p e s m args below meth c s₁ B hml hv
  obtain ⟨rfl, hsz, hP, hK, hD0, hN, hX⟩ := hv
  have hx := B.exec
  have hb := B.bytes
  have hr := B.returns
  have hts := atoms_spec (ws := vW_X12_decide) B.pre
  have hown : s.vm.findClass RX12 = some m.cls := findClass_of_methodNamed B.named
  have hlocks := B.notSynchronized
  subst hsz
  have hD := hD0.self (sz := s.heap.size)
  have hAE := k_AE hD0 hX
  generalize hAe : va_A [(h0, .inr (12, f0)), (h1, .inl (cZ, 26, .inl g0)), (h2, .inl (cI, 32768, .inl g1)), (h3, .inl (cI, 3000, .inl g2)), (h4, .inl (cI, 48000, .inl g3)), (h5, .inl (cI, 4096, .inl g4)), (h6, .inl (cI, 3000, .inl g5)), (h7, .inl (cI, 3000, .inl g6)), (h8, .inl (cI, 4096, .inl g7)), (h9, .inl (cI, 3000, .inl g8)), (h10, .inl (cJ, 4, .inr (.inl g9)))] s.heap.size = A at hD hAE ⊢
  have hA : ∀ q : Nat, s.heap.size ≤ q → A q := fun q h => by rw [← hAe]; exact Or.inr h
  have hS : va_S A s.heap s.heap [] := va_S.rf
  have hP : va_P D vwCl [(h0, .inr (12, f0)), (h1, .inl (cZ, 26, .inl g0)), (h2, .inl (cI, 32768, .inl g1)), (h3, .inl (cI, 3000, .inl g2)), (h4, .inl (cI, 48000, .inl g3)), (h5, .inl (cI, 4096, .inl g4)), (h6, .inl (cI, 3000, .inl g5)), (h7, .inl (cI, 3000, .inl g6)), (h8, .inl (cI, 4096, .inl g7)), (h9, .inl (cI, 3000, .inl g8)), (h10, .inl (cJ, 4, .inr (.inl g9)))] s.heap := hP
  have hl := lv_entry ([.ref h0] : List Value) (n := 1) (Nat.le_of_ble_eq_true rfl)
  rw [lg_entry_eq]
  generalize (lg_sl ([.ref h0]) ++ List.replicate (1 - (lg_sl ([.ref h0])).length) Slot.unset).toArray = ls at hl ⊢
  have hl : lv_has ls 1 [(0, .ref h0)] := hl
  refine lv_aload_n hx hb dX12_decide_0 rfl (lv_at hl 0 rfl) ?_
  refine k_cVi (As := []) (rest := []) (wc := [(h0, .inr (12, f0))]) (wr := [(h1, .inl (cZ, 26, .inl g0)), (h2, .inl (cI, 32768, .inl g1)), (h3, .inl (cI, 3000, .inl g2)), (h4, .inl (cI, 48000, .inl g3)), (h5, .inl (cI, 4096, .inl g4)), (h6, .inl (cI, 3000, .inl g5)), (h7, .inl (cI, 3000, .inl g6)), (h8, .inl (cI, 4096, .inl g7)), (h9, .inl (cI, 3000, .inl g8)), (h10, .inl (cJ, 4, .inr (.inl g9)))]) (w1 := [(h0, .inr (12, (f0.set 0 (.int 0))))]) ⟨hx, hb, hml, hown, hts⟩ hN hX hAE hK hP hD hS hA [0] [1, 2, 3, 4, 5, 6, 7, 8, 9, 10] (ci := 12) rfl rfl rfl rfl (by decide +kernel) (by decide +kernel) (by decide +kernel) (c_X12_asks_0 l E D cI cJ cB cZ h0 f0 e0 e1) (cwV 0 hts g9_X12_decide_X12_asks_871 rfl rfl rfl (by decide +kernel) ⟨Nat.le_of_ble_eq_true rfl, Nat.le_of_ble_eq_true rfl⟩) rfl hl.1 (Nat.le_of_ble_eq_true rfl) dX12_decide_1 ⟨Nat.le_of_ble_eq_true rfl, Nat.le_of_ble_eq_true rfl⟩ (fun H locs hP hD hS => ?_)
  have hP : va_P D vwCl [(h1, .inl (cZ, 26, .inl g0)), (h2, .inl (cI, 32768, .inl g1)), (h3, .inl (cI, 3000, .inl g2)), (h4, .inl (cI, 48000, .inl g3)), (h5, .inl (cI, 4096, .inl g4)), (h6, .inl (cI, 3000, .inl g5)), (h7, .inl (cI, 3000, .inl g6)), (h8, .inl (cI, 4096, .inl g7)), (h9, .inl (cI, 3000, .inl g8)), (h10, .inl (cJ, 4, .inr (.inl g9))), (h0, .inr (12, (f0.set 0 (.int 0))))] H := hP
  have hD : va_D A [(h1, .inl (cZ, 26, .inl g0)), (h2, .inl (cI, 32768, .inl g1)), (h3, .inl (cI, 3000, .inl g2)), (h4, .inl (cI, 48000, .inl g3)), (h5, .inl (cI, 4096, .inl g4)), (h6, .inl (cI, 3000, .inl g5)), (h7, .inl (cI, 3000, .inl g6)), (h8, .inl (cI, 4096, .inl g7)), (h9, .inl (cI, 3000, .inl g8)), (h10, .inl (cJ, 4, .inr (.inl g9))), (h0, .inr (12, (f0.set 0 (.int 0))))] := hD
  refine lv_if_ne (tgt := 10) hx hb dX12_decide_4 (by decide) (fun _ => ?_) (fun c9 => absurd c9 (by decide))
  refine lv_aload_n hx hb dX12_decide_10 rfl (lv_at hl 0 rfl) ?_
  refine k_cVv (As := []) (rest := []) (wc := [(h0, .inr (12, (f0.set 0 (.int 0)))), (h1, .inl (cZ, 26, .inl g0))]) (wr := [(h2, .inl (cI, 32768, .inl g1)), (h3, .inl (cI, 3000, .inl g2)), (h4, .inl (cI, 48000, .inl g3)), (h5, .inl (cI, 4096, .inl g4)), (h6, .inl (cI, 3000, .inl g5)), (h7, .inl (cI, 3000, .inl g6)), (h8, .inl (cI, 4096, .inl g7)), (h9, .inl (cI, 3000, .inl g8)), (h10, .inl (cJ, 4, .inr (.inl g9)))]) (w1 := (fun _ : Unit => [(h0, .inr (12, ((f0.set 0 (.int 0)).set 119 (.int 0)))), (h1, .inl (cZ, 26, .inl (upd (upd (upd (upd (upd (upd (upd (upd (upd (upd (upd (upd (upd (upd (upd (upd (upd (upd (upd (upd (upd (upd (upd (upd (upd (upd g0 0 0) 1 0) 2 0) 3 0) 4 0) 5 0) 6 0) 7 0) 8 0) 9 0) 10 0) 11 0) 12 0) 13 0) 14 0) 15 0) 16 0) 17 0) 18 0) 19 0) 20 0) 21 0) 22 0) 23 0) 24 0) 25 0)))])) ⟨hx, hb, hml, hown, hts⟩ hN hX hAE hK hP hD hS hA [10, 0] [1, 2, 3, 4, 5, 6, 7, 8, 9] (ci := 12) rfl rfl rfl rfl (by decide +kernel) (by decide +kernel) (by decide +kernel) (c_X12_putOn_0 l E D cI cJ cB cZ h0 ((f0.set 0 (.int 0))) h1 g0 (k_ne (by decide) e2) (k_ne (by decide) e3) (k_ne (by decide) e4)) (cwV 0 hts g9_X12_decide_X12_putOn_982 rfl rfl rfl (by decide +kernel) ⟨Nat.le_of_ble_eq_true rfl, Nat.le_of_ble_eq_true rfl⟩) rfl hl.1 (Nat.le_of_ble_eq_true rfl) dX12_decide_11 ⟨Nat.le_of_ble_eq_true rfl, Nat.le_of_ble_eq_true rfl⟩ (fun _ H locs hP hD hS => ?_)
  have hP : va_P D vwCl [(h2, .inl (cI, 32768, .inl g1)), (h3, .inl (cI, 3000, .inl g2)), (h4, .inl (cI, 48000, .inl g3)), (h5, .inl (cI, 4096, .inl g4)), (h6, .inl (cI, 3000, .inl g5)), (h7, .inl (cI, 3000, .inl g6)), (h8, .inl (cI, 4096, .inl g7)), (h9, .inl (cI, 3000, .inl g8)), (h10, .inl (cJ, 4, .inr (.inl g9))), (h0, .inr (12, ((f0.set 0 (.int 0)).set 119 (.int 0)))), (h1, .inl (cZ, 26, .inl (upd (upd (upd (upd (upd (upd (upd (upd (upd (upd (upd (upd (upd (upd (upd (upd (upd (upd (upd (upd (upd (upd (upd (upd (upd (upd g0 0 0) 1 0) 2 0) 3 0) 4 0) 5 0) 6 0) 7 0) 8 0) 9 0) 10 0) 11 0) 12 0) 13 0) 14 0) 15 0) 16 0) 17 0) 18 0) 19 0) 20 0) 21 0) 22 0) 23 0) 24 0) 25 0)))] H := hP
  have hD : va_D A [(h2, .inl (cI, 32768, .inl g1)), (h3, .inl (cI, 3000, .inl g2)), (h4, .inl (cI, 48000, .inl g3)), (h5, .inl (cI, 4096, .inl g4)), (h6, .inl (cI, 3000, .inl g5)), (h7, .inl (cI, 3000, .inl g6)), (h8, .inl (cI, 4096, .inl g7)), (h9, .inl (cI, 3000, .inl g8)), (h10, .inl (cJ, 4, .inr (.inl g9))), (h0, .inr (12, ((f0.set 0 (.int 0)).set 119 (.int 0)))), (h1, .inl (cZ, 26, .inl (upd (upd (upd (upd (upd (upd (upd (upd (upd (upd (upd (upd (upd (upd (upd (upd (upd (upd (upd (upd (upd (upd (upd (upd (upd (upd g0 0 0) 1 0) 2 0) 3 0) 4 0) 5 0) 6 0) 7 0) 8 0) 9 0) 10 0) 11 0) 12 0) 13 0) 14 0) 15 0) 16 0) 17 0) 18 0) 19 0) 20 0) 21 0) 22 0) 23 0) 24 0) 25 0)))] := hD
  refine lv_aload_n hx hb dX12_decide_14 rfl (lv_at hl 0 rfl) ?_
  refine k_cVi (As := []) (rest := []) (wc := [(h0, .inr (12, ((f0.set 0 (.int 0)).set 119 (.int 0)))), (h1, .inl (cZ, 26, .inl (upd (upd (upd (upd (upd (upd (upd (upd (upd (upd (upd (upd (upd (upd (upd (upd (upd (upd (upd (upd (upd (upd (upd (upd (upd (upd g0 0 0) 1 0) 2 0) 3 0) 4 0) 5 0) 6 0) 7 0) 8 0) 9 0) 10 0) 11 0) 12 0) 13 0) 14 0) 15 0) 16 0) 17 0) 18 0) 19 0) 20 0) 21 0) 22 0) 23 0) 24 0) 25 0))), (h2, .inl (cI, 32768, .inl g1)), (h3, .inl (cI, 3000, .inl g2)), (h4, .inl (cI, 48000, .inl g3))]) (wr := [(h5, .inl (cI, 4096, .inl g4)), (h6, .inl (cI, 3000, .inl g5)), (h7, .inl (cI, 3000, .inl g6)), (h8, .inl (cI, 4096, .inl g7)), (h9, .inl (cI, 3000, .inl g8)), (h10, .inl (cJ, 4, .inr (.inl g9)))]) (w1 := [(h0, .inr (12, (((((f0.set 0 (.int 0)).set 119 (.int 0)).set 131 (.int 1)).set 129 (.int 0)).set 129 (.int 1)))), (h1, .inl (cZ, 26, .inl (upd (upd (upd (upd (upd (upd (upd (upd (upd (upd (upd (upd (upd (upd (upd (upd (upd (upd (upd (upd (upd (upd (upd (upd (upd (upd g0 0 0) 1 0) 2 0) 3 0) 4 0) 5 0) 6 0) 7 0) 8 0) 9 0) 10 0) 11 0) 12 0) 13 0) 14 0) 15 0) 16 0) 17 0) 18 0) 19 0) 20 0) 21 0) 22 0) 23 0) 24 0) 25 0))), (h2, .inl (cI, 32768, .inl (upd (k_fill (-1) 32768 g1) 17 0))), (h3, .inl (cI, 3000, .inl (upd g2 0 (-1)))), (h4, .inl (cI, 48000, .inl (upd g3 0 0)))]) ⟨hx, hb, hml, hown, hts⟩ hN hX hAE hK hP hD hS hA [9, 10, 0, 1, 2] [3, 4, 5, 6, 7, 8] (ci := 12) rfl rfl rfl rfl (by decide +kernel) (by decide +kernel) (by decide +kernel) (c_X12_explore_0 l E D cI cJ cB cZ h0 (((f0.set 0 (.int 0)).set 119 (.int 0))) h1 ((upd (upd (upd (upd (upd (upd (upd (upd (upd (upd (upd (upd (upd (upd (upd (upd (upd (upd (upd (upd (upd (upd (upd (upd (upd (upd g0 0 0) 1 0) 2 0) 3 0) 4 0) 5 0) 6 0) 7 0) 8 0) 9 0) 10 0) 11 0) 12 0) 13 0) 14 0) 15 0) 16 0) 17 0) 18 0) 19 0) 20 0) 21 0) 22 0) 23 0) 24 0) 25 0)) h2 g1 h3 g2 h4 g3 (k_set (k_ne (by decide) e2)) (k_ne (by decide) (k_ne (by decide) e3)) rfl rfl rfl rfl rfl rfl rfl rfl rfl rfl rfl rfl rfl rfl rfl rfl rfl rfl rfl rfl rfl rfl rfl rfl rfl (k_ne (by decide) (k_ne (by decide) e5)) (k_ne (by decide) (k_ne (by decide) e6)) (k_ne (by decide) (k_ne (by decide) e7)) (k_ne (by decide) (k_ne (by decide) e8)) (k_ne (by decide) (k_ne (by decide) e9)) (k_ne (by decide) (k_ne (by decide) e10))) (cwV 0 hts g9_X12_decide_X12_explore_985 rfl rfl rfl (by decide +kernel) ⟨Nat.le_of_ble_eq_true rfl, Nat.le_of_ble_eq_true rfl⟩) rfl hl.1 (Nat.le_of_ble_eq_true rfl) dX12_decide_15 ⟨Nat.le_of_ble_eq_true rfl, Nat.le_of_ble_eq_true rfl⟩ (fun H locs hP hD hS => ?_)
  have hP : va_P D vwCl [(h5, .inl (cI, 4096, .inl g4)), (h6, .inl (cI, 3000, .inl g5)), (h7, .inl (cI, 3000, .inl g6)), (h8, .inl (cI, 4096, .inl g7)), (h9, .inl (cI, 3000, .inl g8)), (h10, .inl (cJ, 4, .inr (.inl g9))), (h0, .inr (12, (((((f0.set 0 (.int 0)).set 119 (.int 0)).set 131 (.int 1)).set 129 (.int 0)).set 129 (.int 1)))), (h1, .inl (cZ, 26, .inl (upd (upd (upd (upd (upd (upd (upd (upd (upd (upd (upd (upd (upd (upd (upd (upd (upd (upd (upd (upd (upd (upd (upd (upd (upd (upd g0 0 0) 1 0) 2 0) 3 0) 4 0) 5 0) 6 0) 7 0) 8 0) 9 0) 10 0) 11 0) 12 0) 13 0) 14 0) 15 0) 16 0) 17 0) 18 0) 19 0) 20 0) 21 0) 22 0) 23 0) 24 0) 25 0))), (h2, .inl (cI, 32768, .inl (upd (k_fill (-1) 32768 g1) 17 0))), (h3, .inl (cI, 3000, .inl (upd g2 0 (-1)))), (h4, .inl (cI, 48000, .inl (upd g3 0 0)))] H := hP
  have hD : va_D A [(h5, .inl (cI, 4096, .inl g4)), (h6, .inl (cI, 3000, .inl g5)), (h7, .inl (cI, 3000, .inl g6)), (h8, .inl (cI, 4096, .inl g7)), (h9, .inl (cI, 3000, .inl g8)), (h10, .inl (cJ, 4, .inr (.inl g9))), (h0, .inr (12, (((((f0.set 0 (.int 0)).set 119 (.int 0)).set 131 (.int 1)).set 129 (.int 0)).set 129 (.int 1)))), (h1, .inl (cZ, 26, .inl (upd (upd (upd (upd (upd (upd (upd (upd (upd (upd (upd (upd (upd (upd (upd (upd (upd (upd (upd (upd (upd (upd (upd (upd (upd (upd g0 0 0) 1 0) 2 0) 3 0) 4 0) 5 0) 6 0) 7 0) 8 0) 9 0) 10 0) 11 0) 12 0) 13 0) 14 0) 15 0) 16 0) 17 0) 18 0) 19 0) 20 0) 21 0) 22 0) 23 0) 24 0) 25 0))), (h2, .inl (cI, 32768, .inl (upd (k_fill (-1) 32768 g1) 17 0))), (h3, .inl (cI, 3000, .inl (upd g2 0 (-1)))), (h4, .inl (cI, 48000, .inl (upd g3 0 0)))] := hD
  refine lv_if_ne (tgt := 24) hx hb dX12_decide_18 (by decide) (fun _ => ?_) (fun c9 => absurd c9 (by decide))
  refine lv_aload_n hx hb dX12_decide_24 rfl (lv_at hl 0 rfl) ?_
  refine lv_iconst (v := 0) hx hb dX12_decide_25 (by decide) ?_
  refine lv_iconst (v := 0) hx hb dX12_decide_26 (by decide) ?_
  refine lv_iconst (v := (-1)) hx hb dX12_decide_27 (by decide) ?_
  refine k_cVv (As := [.int 0, .int 0, .int (-1)]) (rest := []) (wc := [(h0, .inr (12, (((((f0.set 0 (.int 0)).set 119 (.int 0)).set 131 (.int 1)).set 129 (.int 0)).set 129 (.int 1)))), (h5, .inl (cI, 4096, .inl g4)), (h6, .inl (cI, 3000, .inl g5)), (h7, .inl (cI, 3000, .inl g6)), (h1, .inl (cZ, 26, .inl (upd (upd (upd (upd (upd (upd (upd (upd (upd (upd (upd (upd (upd (upd (upd (upd (upd (upd (upd (upd (upd (upd (upd (upd (upd (upd g0 0 0) 1 0) 2 0) 3 0) 4 0) 5 0) 6 0) 7 0) 8 0) 9 0) 10 0) 11 0) 12 0) 13 0) 14 0) 15 0) 16 0) 17 0) 18 0) 19 0) 20 0) 21 0) 22 0) 23 0) 24 0) 25 0))), (h8, .inl (cI, 4096, .inl g7))]) (wr := [(h9, .inl (cI, 3000, .inl g8)), (h10, .inl (cJ, 4, .inr (.inl g9))), (h2, .inl (cI, 32768, .inl (upd (k_fill (-1) 32768 g1) 17 0))), (h3, .inl (cI, 3000, .inl (upd g2 0 (-1)))), (h4, .inl (cI, 48000, .inl (upd g3 0 0)))]) (w1 := (fun _ : Unit => [(h0, .inr (12, (((((f0.set 0 (.int 0)).set 119 (.int 0)).set 131 (.int 1)).set 129 (.int 0)).set 129 (.int 1)))), (h5, .inl (cI, 4096, .inl (upd (k_fill (-1) 4096 g4) 0 1))), (h6, .inl (cI, 3000, .inl (upd (upd g5 0 0) 0 1))), (h7, .inl (cI, 3000, .inl (upd (upd g6 0 0) 0 0))), (h1, .inl (cZ, 26, .inl (upd (upd (upd (upd (upd (upd (upd (upd (upd (upd (upd (upd (upd (upd (upd (upd (upd (upd (upd (upd (upd (upd (upd (upd (upd (upd g0 0 0) 1 0) 2 0) 3 0) 4 0) 5 0) 6 0) 7 0) 8 0) 9 0) 10 0) 11 0) 12 0) 13 0) 14 0) 15 0) 16 0) 17 0) 18 0) 19 0) 20 0) 21 0) 22 0) 23 0) 24 0) 25 0))), (h8, .inl (cI, 4096, .inl (upd g7 0 0)))])) ⟨hx, hb, hml, hown, hts⟩ hN hX hAE hK hP hD hS hA [6, 0, 1, 2, 7, 3] [4, 5, 8, 9, 10] (ci := 12) rfl rfl rfl rfl (by decide +kernel) (by decide +kernel) (by decide +kernel) (c_X12_judge_0 l E D cI cJ cB cZ h0 ((((((f0.set 0 (.int 0)).set 119 (.int 0)).set 131 (.int 1)).set 129 (.int 0)).set 129 (.int 1))) h5 g4 h6 g5 h7 g6 h1 ((upd (upd (upd (upd (upd (upd (upd (upd (upd (upd (upd (upd (upd (upd (upd (upd (upd (upd (upd (upd (upd (upd (upd (upd (upd (upd g0 0 0) 1 0) 2 0) 3 0) 4 0) 5 0) 6 0) 7 0) 8 0) 9 0) 10 0) 11 0) 12 0) 13 0) 14 0) 15 0) 16 0) 17 0) 18 0) 19 0) 20 0) 21 0) 22 0) 23 0) 24 0) 25 0)) h8 g7 (k_ne (by decide) (k_ne (by decide) (k_ne (by decide) (k_ne (by decide) (k_ne (by decide) e11))))) (k_set (k_set (k_ne (by decide) (k_ne (by decide) (k_ne (by decide) e8))))) (k_ne (by decide) (k_ne (by decide) (k_ne (by decide) (k_ne (by decide) (k_ne (by decide) e12))))) (k_ne (by decide) (k_ne (by decide) (k_ne (by decide) (k_ne (by decide) (k_ne (by decide) e13))))) (k_ne (by decide) (k_ne (by decide) (k_set (k_ne (by decide) (k_ne (by decide) e6))))) (k_ne (by decide) (k_ne (by decide) (k_ne (by decide) (k_set (k_ne (by decide) e2))))) (k_ne (by decide) (k_ne (by decide) (k_ne (by decide) (k_ne (by decide) (k_ne (by decide) e3))))) rfl rfl rfl rfl rfl rfl rfl rfl rfl rfl rfl rfl rfl rfl rfl rfl rfl rfl rfl rfl rfl rfl rfl rfl rfl (k_ne (by decide) (k_ne (by decide) (k_ne (by decide) (k_ne (by decide) (k_ne (by decide) e14))))) (k_ne (by decide) (k_ne (by decide) (k_ne (by decide) (k_ne (by decide) (k_ne (by decide) e4)))))) (cwV 3 hts g9_X12_decide_X12_judge_988 rfl rfl rfl (by decide +kernel) ⟨Nat.le_of_ble_eq_true rfl, Nat.le_of_ble_eq_true rfl⟩) rfl hl.1 (Nat.le_of_ble_eq_true rfl) dX12_decide_28 ⟨Nat.le_of_ble_eq_true rfl, Nat.le_of_ble_eq_true rfl⟩ (fun _ H locs hP hD hS => ?_)
  have hP : va_P D vwCl [(h9, .inl (cI, 3000, .inl g8)), (h10, .inl (cJ, 4, .inr (.inl g9))), (h2, .inl (cI, 32768, .inl (upd (k_fill (-1) 32768 g1) 17 0))), (h3, .inl (cI, 3000, .inl (upd g2 0 (-1)))), (h4, .inl (cI, 48000, .inl (upd g3 0 0))), (h0, .inr (12, (((((f0.set 0 (.int 0)).set 119 (.int 0)).set 131 (.int 1)).set 129 (.int 0)).set 129 (.int 1)))), (h5, .inl (cI, 4096, .inl (upd (k_fill (-1) 4096 g4) 0 1))), (h6, .inl (cI, 3000, .inl (upd (upd g5 0 0) 0 1))), (h7, .inl (cI, 3000, .inl (upd (upd g6 0 0) 0 0))), (h1, .inl (cZ, 26, .inl (upd (upd (upd (upd (upd (upd (upd (upd (upd (upd (upd (upd (upd (upd (upd (upd (upd (upd (upd (upd (upd (upd (upd (upd (upd (upd g0 0 0) 1 0) 2 0) 3 0) 4 0) 5 0) 6 0) 7 0) 8 0) 9 0) 10 0) 11 0) 12 0) 13 0) 14 0) 15 0) 16 0) 17 0) 18 0) 19 0) 20 0) 21 0) 22 0) 23 0) 24 0) 25 0))), (h8, .inl (cI, 4096, .inl (upd g7 0 0)))] H := hP
  have hD : va_D A [(h9, .inl (cI, 3000, .inl g8)), (h10, .inl (cJ, 4, .inr (.inl g9))), (h2, .inl (cI, 32768, .inl (upd (k_fill (-1) 32768 g1) 17 0))), (h3, .inl (cI, 3000, .inl (upd g2 0 (-1)))), (h4, .inl (cI, 48000, .inl (upd g3 0 0))), (h0, .inr (12, (((((f0.set 0 (.int 0)).set 119 (.int 0)).set 131 (.int 1)).set 129 (.int 0)).set 129 (.int 1)))), (h5, .inl (cI, 4096, .inl (upd (k_fill (-1) 4096 g4) 0 1))), (h6, .inl (cI, 3000, .inl (upd (upd g5 0 0) 0 1))), (h7, .inl (cI, 3000, .inl (upd (upd g6 0 0) 0 0))), (h1, .inl (cZ, 26, .inl (upd (upd (upd (upd (upd (upd (upd (upd (upd (upd (upd (upd (upd (upd (upd (upd (upd (upd (upd (upd (upd (upd (upd (upd (upd (upd g0 0 0) 1 0) 2 0) 3 0) 4 0) 5 0) 6 0) 7 0) 8 0) 9 0) 10 0) 11 0) 12 0) 13 0) 14 0) 15 0) 16 0) 17 0) 18 0) 19 0) 20 0) 21 0) 22 0) 23 0) 24 0) 25 0))), (h8, .inl (cI, 4096, .inl (upd g7 0 0)))] := hD
  refine lv_aload_n hx hb dX12_decide_31 rfl (lv_at hl 0 rfl) ?_
  refine k_cVi (As := []) (rest := []) (wc := [(h0, .inr (12, (((((f0.set 0 (.int 0)).set 119 (.int 0)).set 131 (.int 1)).set 129 (.int 0)).set 129 (.int 1)))), (h6, .inl (cI, 3000, .inl (upd (upd g5 0 0) 0 1))), (h9, .inl (cI, 3000, .inl g8)), (h10, .inl (cJ, 4, .inr (.inl g9)))]) (wr := [(h2, .inl (cI, 32768, .inl (upd (k_fill (-1) 32768 g1) 17 0))), (h3, .inl (cI, 3000, .inl (upd g2 0 (-1)))), (h4, .inl (cI, 48000, .inl (upd g3 0 0))), (h5, .inl (cI, 4096, .inl (upd (k_fill (-1) 4096 g4) 0 1))), (h7, .inl (cI, 3000, .inl (upd (upd g6 0 0) 0 0))), (h1, .inl (cZ, 26, .inl (upd (upd (upd (upd (upd (upd (upd (upd (upd (upd (upd (upd (upd (upd (upd (upd (upd (upd (upd (upd (upd (upd (upd (upd (upd (upd g0 0 0) 1 0) 2 0) 3 0) 4 0) 5 0) 6 0) 7 0) 8 0) 9 0) 10 0) 11 0) 12 0) 13 0) 14 0) 15 0) 16 0) 17 0) 18 0) 19 0) 20 0) 21 0) 22 0) 23 0) 24 0) 25 0))), (h8, .inl (cI, 4096, .inl (upd g7 0 0)))]) (w1 := [(h0, .inr (12, (((((((f0.set 0 (.int 0)).set 119 (.int 0)).set 131 (.int 1)).set 129 (.int 0)).set 129 (.int 1)).set 139 (.int 0)).set 140 (.int 0)))), (h6, .inl (cI, 3000, .inl (upd (upd g5 0 0) 0 1))), (h9, .inl (cI, 3000, .inl (upd g8 0 0))), (h10, .inl (cJ, 4, .inr (.inl (vp_updL (vp_updL (vp_updL (vp_updL g9 0 0) 1 0) 2 0) 3 0))))]) ⟨hx, hb, hml, hown, hts⟩ hN hX hAE hK hP hD hS hA [5, 7, 0, 1] [2, 3, 4, 6, 8, 9, 10] (ci := 12) rfl rfl rfl rfl (by decide +kernel) (by decide +kernel) (by decide +kernel) (c_X12_tellLeast_0 l E D cI cJ cB cZ h0 ((((((f0.set 0 (.int 0)).set 119 (.int 0)).set 131 (.int 1)).set 129 (.int 0)).set 129 (.int 1))) h9 h6 ((upd (upd g5 0 0) 0 1)) g8 h10 g9 (k_set (k_set (k_ne (by decide) (k_ne (by decide) (k_ne (by decide) e8))))) (k_ne (by decide) (k_ne (by decide) (k_ne (by decide) (k_ne (by decide) (k_ne (by decide) e15))))) (k_ne (by decide) (k_ne (by decide) (k_ne (by decide) (k_ne (by decide) (k_ne (by decide) e12))))) rfl (k_ne (by decide) (k_ne (by decide) (k_set (k_ne (by decide) (k_ne (by decide) e6))))) (k_ne (by decide) (k_ne (by decide) (k_ne (by decide) (k_ne (by decide) (k_ne (by decide) e16))))) (k_ne (by decide) (k_ne (by decide) (k_ne (by decide) (k_ne (by decide) (k_ne (by decide) e5))))) (k_ne (by decide) (k_ne (by decide) (k_ne (by decide) (k_ne (by decide) (k_ne (by decide) e17))))) (k_ne (by decide) (k_ne (by decide) (k_ne (by decide) (k_ne (by decide) (k_ne (by decide) e18)))))) (cwV 0 hts g9_X12_decide_X12_tellLeast_991 rfl rfl rfl (by decide +kernel) ⟨Nat.le_of_ble_eq_true rfl, Nat.le_of_ble_eq_true rfl⟩) rfl hl.1 (Nat.le_of_ble_eq_true rfl) dX12_decide_32 ⟨Nat.le_of_ble_eq_true rfl, Nat.le_of_ble_eq_true rfl⟩ (fun H locs hP hD hS => ?_)
  have hP : va_P D vwCl [(h2, .inl (cI, 32768, .inl (upd (k_fill (-1) 32768 g1) 17 0))), (h3, .inl (cI, 3000, .inl (upd g2 0 (-1)))), (h4, .inl (cI, 48000, .inl (upd g3 0 0))), (h5, .inl (cI, 4096, .inl (upd (k_fill (-1) 4096 g4) 0 1))), (h7, .inl (cI, 3000, .inl (upd (upd g6 0 0) 0 0))), (h1, .inl (cZ, 26, .inl (upd (upd (upd (upd (upd (upd (upd (upd (upd (upd (upd (upd (upd (upd (upd (upd (upd (upd (upd (upd (upd (upd (upd (upd (upd (upd g0 0 0) 1 0) 2 0) 3 0) 4 0) 5 0) 6 0) 7 0) 8 0) 9 0) 10 0) 11 0) 12 0) 13 0) 14 0) 15 0) 16 0) 17 0) 18 0) 19 0) 20 0) 21 0) 22 0) 23 0) 24 0) 25 0))), (h8, .inl (cI, 4096, .inl (upd g7 0 0))), (h0, .inr (12, (((((((f0.set 0 (.int 0)).set 119 (.int 0)).set 131 (.int 1)).set 129 (.int 0)).set 129 (.int 1)).set 139 (.int 0)).set 140 (.int 0)))), (h6, .inl (cI, 3000, .inl (upd (upd g5 0 0) 0 1))), (h9, .inl (cI, 3000, .inl (upd g8 0 0))), (h10, .inl (cJ, 4, .inr (.inl (vp_updL (vp_updL (vp_updL (vp_updL g9 0 0) 1 0) 2 0) 3 0))))] H := hP
  have hD : va_D A [(h2, .inl (cI, 32768, .inl (upd (k_fill (-1) 32768 g1) 17 0))), (h3, .inl (cI, 3000, .inl (upd g2 0 (-1)))), (h4, .inl (cI, 48000, .inl (upd g3 0 0))), (h5, .inl (cI, 4096, .inl (upd (k_fill (-1) 4096 g4) 0 1))), (h7, .inl (cI, 3000, .inl (upd (upd g6 0 0) 0 0))), (h1, .inl (cZ, 26, .inl (upd (upd (upd (upd (upd (upd (upd (upd (upd (upd (upd (upd (upd (upd (upd (upd (upd (upd (upd (upd (upd (upd (upd (upd (upd (upd g0 0 0) 1 0) 2 0) 3 0) 4 0) 5 0) 6 0) 7 0) 8 0) 9 0) 10 0) 11 0) 12 0) 13 0) 14 0) 15 0) 16 0) 17 0) 18 0) 19 0) 20 0) 21 0) 22 0) 23 0) 24 0) 25 0))), (h8, .inl (cI, 4096, .inl (upd g7 0 0))), (h0, .inr (12, (((((((f0.set 0 (.int 0)).set 119 (.int 0)).set 131 (.int 1)).set 129 (.int 0)).set 129 (.int 1)).set 139 (.int 0)).set 140 (.int 0)))), (h6, .inl (cI, 3000, .inl (upd (upd g5 0 0) 0 1))), (h9, .inl (cI, 3000, .inl (upd g8 0 0))), (h10, .inl (cJ, 4, .inr (.inl (vp_updL (vp_updL (vp_updL (vp_updL g9 0 0) 1 0) 2 0) 3 0))))] := hD
  refine lv_if_eq (tgt := 42) hx hb dX12_decide_35 (by decide) (fun c9 => absurd c9 (by decide)) (fun _ => ?_)
  refine lv_iconst (v := 1) hx hb dX12_decide_38 (by decide) ?_
  refine lv_goto (tgt := 43) hx hb dX12_decide_39 (by decide) ?_
  have hP := hP.sub (ws' := [(h0, .inr (12, (((((((f0.set 0 (.int 0)).set 119 (.int 0)).set 131 (.int 1)).set 129 (.int 0)).set 129 (.int 1)).set 139 (.int 0)).set 140 (.int 0)))), (h1, .inl (cZ, 26, .inl (upd (upd (upd (upd (upd (upd (upd (upd (upd (upd (upd (upd (upd (upd (upd (upd (upd (upd (upd (upd (upd (upd (upd (upd (upd (upd g0 0 0) 1 0) 2 0) 3 0) 4 0) 5 0) 6 0) 7 0) 8 0) 9 0) 10 0) 11 0) 12 0) 13 0) 14 0) 15 0) 16 0) 17 0) 18 0) 19 0) 20 0) 21 0) 22 0) 23 0) 24 0) 25 0))), (h2, .inl (cI, 32768, .inl (upd (k_fill (-1) 32768 g1) 17 0))), (h3, .inl (cI, 3000, .inl (upd g2 0 (-1)))), (h4, .inl (cI, 48000, .inl (upd g3 0 0))), (h5, .inl (cI, 4096, .inl (upd (k_fill (-1) 4096 g4) 0 1))), (h6, .inl (cI, 3000, .inl (upd (upd g5 0 0) 0 1))), (h7, .inl (cI, 3000, .inl (upd (upd g6 0 0) 0 0))), (h8, .inl (cI, 4096, .inl (upd g7 0 0))), (h9, .inl (cI, 3000, .inl (upd g8 0 0))), (h10, .inl (cJ, 4, .inr (.inl (vp_updL (vp_updL (vp_updL (vp_updL g9 0 0) 1 0) 2 0) 3 0))))]) [7, 5, 0, 1, 2, 3, 8, 4, 6, 9, 10] rfl
  have hD := hD.sub (ws' := [(h0, .inr (12, (((((((f0.set 0 (.int 0)).set 119 (.int 0)).set 131 (.int 1)).set 129 (.int 0)).set 129 (.int 1)).set 139 (.int 0)).set 140 (.int 0)))), (h1, .inl (cZ, 26, .inl (upd (upd (upd (upd (upd (upd (upd (upd (upd (upd (upd (upd (upd (upd (upd (upd (upd (upd (upd (upd (upd (upd (upd (upd (upd (upd g0 0 0) 1 0) 2 0) 3 0) 4 0) 5 0) 6 0) 7 0) 8 0) 9 0) 10 0) 11 0) 12 0) 13 0) 14 0) 15 0) 16 0) 17 0) 18 0) 19 0) 20 0) 21 0) 22 0) 23 0) 24 0) 25 0))), (h2, .inl (cI, 32768, .inl (upd (k_fill (-1) 32768 g1) 17 0))), (h3, .inl (cI, 3000, .inl (upd g2 0 (-1)))), (h4, .inl (cI, 48000, .inl (upd g3 0 0))), (h5, .inl (cI, 4096, .inl (upd (k_fill (-1) 4096 g4) 0 1))), (h6, .inl (cI, 3000, .inl (upd (upd g5 0 0) 0 1))), (h7, .inl (cI, 3000, .inl (upd (upd g6 0 0) 0 0))), (h8, .inl (cI, 4096, .inl (upd g7 0 0))), (h9, .inl (cI, 3000, .inl (upd g8 0 0))), (h10, .inl (cJ, 4, .inr (.inl (vp_updL (vp_updL (vp_updL (vp_updL g9 0 0) 1 0) 2 0) 3 0))))]) [7, 5, 0, 1, 2, 3, 8, 4, 6, 9, 10] (by decide +kernel) rfl
  exact W.iret (v := 1) hx hb hr (fun t ht hW => ⟨⟨1, (), rfl, rfl, kB_mk ht hW hP hK hD⟩, hS.F ht⟩) hS.2.2 dX12_decide_43
set_option maxHeartbeats 400000000 in
set_option maxRecDepth 100000 in
theorem c_X2_setFact_0 (l : Launch) (E : kE) (D : va_G) (cI cJ cB cZ : ClassId) (h0 : Nat) (f0 : List Value) (h1 : Nat) (g0 : Nat → Int32) (e0 : f0[5]? = some (.ref h1)) : kV l E D (kT cI cJ cB cZ) yX2_setFact vW_X2_setFact ({ frames := 0, cells := 0, slots := 0, locals := 0 }) [.ref h0, .int 24, .int 9, .int 0] [(h0, .inr (2, f0)), (h1, .inl (cI, 260, .inl g0))] (fun _ : Unit => [(h0, .inr (2, f0)), (h1, .inl (cI, 260, .inl (upd g0 249 0)))]) 0 0 := by
  intro sz
  refine Met.ofW (cc := cX2_setFact) (maxL := 4) (ret := none) (by decide) rfl ?_
  intro p e s m args below meth c s₁ B hml hv
  obtain ⟨rfl, hsz, hP, hK, hD0, hN, hX⟩ := hv
  have hx := B.exec
  have hb := B.bytes
  have hr := B.returns
  have hts := atoms_spec (ws := vW_X2_setFact) B.pre
  have hown : s.vm.findClass RX2 = some m.cls := findClass_of_methodNamed B.named
  have hlocks := B.notSynchronized
  have hin2 : ∀ w ∈ wsX20, w ∈ vW_X2_setFact := u9_X2_setFact_wsX20
  subst hsz
  have hD := hD0.self (sz := s.heap.size)
  have hAE := k_AE hD0 hX
  generalize hAe : va_A [(h0, .inr (2, f0)), (h1, .inl (cI, 260, .inl g0))] s.heap.size = A at hD hAE ⊢
  have hA : ∀ q : Nat, s.heap.size ≤ q → A q := fun q h => by rw [← hAe]; exact Or.inr h
  have hS : va_S A s.heap s.heap [] := va_S.rf
  have hP : va_P D vwCl [(h0, .inr (2, f0)), (h1, .inl (cI, 260, .inl g0))] s.heap := hP
  have hl := lv_entry ([.ref h0, .int 24, .int 9, .int 0] : List Value) (n := 4) (Nat.le_of_ble_eq_true rfl)
  rw [lg_entry_eq]
  generalize (lg_sl ([.ref h0, .int 24, .int 9, .int 0]) ++ List.replicate (4 - (lg_sl ([.ref h0, .int 24, .int 9, .int 0])).length) Slot.unset).toArray = ls at hl ⊢
  have hl : lv_has ls 4 [(0, .ref h0), (1, .int 24), (2, .int 9), (3, .int 0)] := hl
  refine lv_iload_n hx hb dX2_setFact_0 rfl (lv_at hl 1 rfl) ?_
  refine lv_if_lt (tgt := 32) hx hb dX2_setFact_1 (by decide) (fun c9 => absurd c9 (by decide)) (fun _ => ?_)
  refine lv_iload_n hx hb dX2_setFact_4 rfl (lv_at hl 1 rfl) ?_
  refine lv_bipush (v := 26) hx hb dX2_setFact_5 (by decide) ?_
  refine lv_icmp_ge (tgt := 32) hx hb dX2_setFact_7 (by decide) (fun c9 => absurd c9 (by decide)) (fun _ => ?_)
  refine lv_iload_n hx hb dX2_setFact_10 rfl (lv_at hl 2 rfl) ?_
  refine lv_if_lt (tgt := 32) hx hb dX2_setFact_11 (by decide) (fun c9 => absurd c9 (by decide)) (fun _ => ?_)
  refine lv_iload_n hx hb dX2_setFact_14 rfl (lv_at hl 2 rfl) ?_
  refine lv_bipush (v := 10) hx hb dX2_setFact_15 (by decide) ?_
  refine lv_icmp_ge (tgt := 32) hx hb dX2_setFact_17 (by decide) (fun c9 => absurd c9 (by decide)) (fun _ => ?_)
  refine lv_aload_n hx hb dX2_setFact_20 rfl (lv_at hl 0 rfl) ?_
  refine k_get (D := D) (ci := 2) (v := .ref h1) (N := 16) hx hb hts hin2 hown hK hP 0 rfl rfl (by decide) f9_2_5 (hts (.fieldLink RX2 28 "IntegerHouse$House" "facts" "[I") (o9_X2_setFact _ (List.mem_of_getElem? (i := 0) rfl))) e0 dX2_setFact_21 ?_
  refine lv_iload_n hx hb dX2_setFact_24 rfl (lv_at hl 1 rfl) ?_
  refine lv_bipush (v := 10) hx hb dX2_setFact_25 (by decide) ?_
  refine lv_imul hx hb dX2_setFact_27 ?_
  refine k_topi (y := 240) (by decide) ?_
  refine lv_iload_n hx hb dX2_setFact_28 rfl (lv_at hl 2 rfl) ?_
  refine lv_iadd hx hb dX2_setFact_29 ?_
  refine k_topi (y := 249) (by decide) ?_
  refine lv_iload_n hx hb dX2_setFact_30 rfl (lv_at hl 3 rfl) ?_
  refine va_iast hx hb hK hP hD hS 1 0 rfl rfl (k_in (by decide)) dX2_setFact_31 (fun H locs hP hD hS => ?_)
  have hP : va_P D vwCl [(h0, .inr (2, f0)), (h1, .inl (cI, 260, .inl (upd g0 249 0)))] H := hP
  have hD : va_D A [(h0, .inr (2, f0)), (h1, .inl (cI, 260, .inl (upd g0 249 0)))] := hD
  exact W.vret hx hb hr (fun t ht hW => ⟨⟨(), rfl, trivial, kB_mk ht hW hP hK hD⟩, hS.F ht⟩) hS.2.2 dX2_setFact_32
set_option maxHeartbeats 400000000 in
set_option maxRecDepth 100000 in
theorem c_X3_numberAt_0 (l : Launch) (E : kE) (D : va_G) (cI cJ cB cZ : ClassId) (h0 : Nat) (f0 : List Value) (e0 : f0[5]? = some (.int 0)) : kI l E D (kT cI cJ cB cZ) yX3_numberAt vW_X3_numberAt ({ frames := 0, cells := 0, slots := 0, locals := 0 }) [.ref h0, .int 0] [(h0, .inr (3, f0))] (0) [(h0, .inr (3, f0))] 0 0 := by
  intro sz
  refine Met.ofW (cc := cX3_numberAt) (maxL := 2) (ret := (some .int)) (by decide) rfl ?_
  intro p e s m args below meth c s₁ B hml hv
  obtain ⟨rfl, hsz, hP, hK, hD0, hN, hX⟩ := hv
  have hx := B.exec
  have hb := B.bytes
  have hr := B.returns
  have hts := atoms_spec (ws := vW_X3_numberAt) B.pre
  have hown : s.vm.findClass RX3 = some m.cls := findClass_of_methodNamed B.named
  have hlocks := B.notSynchronized
  have hin3 : ∀ w ∈ wsX30, w ∈ vW_X3_numberAt := u9_X3_numberAt_wsX30
  subst hsz
  have hD := hD0.self (sz := s.heap.size)
  have hAE := k_AE hD0 hX
  generalize hAe : va_A [(h0, .inr (3, f0))] s.heap.size = A at hD hAE ⊢
  have hA : ∀ q : Nat, s.heap.size ≤ q → A q := fun q h => by rw [← hAe]; exact Or.inr h
  have hS : va_S A s.heap s.heap [] := va_S.rf
  have hP : va_P D vwCl [(h0, .inr (3, f0))] s.heap := hP
  have hl := lv_entry ([.ref h0, .int 0] : List Value) (n := 2) (Nat.le_of_ble_eq_true rfl)
  rw [lg_entry_eq]
  generalize (lg_sl ([.ref h0, .int 0]) ++ List.replicate (2 - (lg_sl ([.ref h0, .int 0])).length) Slot.unset).toArray = ls at hl ⊢
  have hl : lv_has ls 2 [(0, .ref h0), (1, .int 0)] := hl
  refine lv_iload_n hx hb dX3_numberAt_0 rfl (lv_at hl 1 rfl) ?_
  refine lv_if_lt (tgt := 24) hx hb dX3_numberAt_1 (by decide) (fun c9 => absurd c9 (by decide)) (fun _ => ?_)
  refine lv_iload_n hx hb dX3_numberAt_4 rfl (lv_at hl 1 rfl) ?_
  refine lv_aload_n hx hb dX3_numberAt_5 rfl (lv_at hl 0 rfl) ?_
  refine k_get (D := D) (ci := 3) (v := .int 0) (N := 9) hx hb hts hin3 hown hK hP 0 rfl rfl (by decide) f9_3_5 (hts (.fieldLink RX3 48 "IntegerHouse$Lexer" "size" "I") (o9_X3_numberAt _ (List.mem_of_getElem? (i := 0) rfl))) e0 dX3_numberAt_6 ?_
  refine lv_icmp_ge (tgt := 24) hx hb dX3_numberAt_9 (by decide) (fun _ => ?_) (fun c9 => absurd (by decide) c9)
  refine lv_iconst (v := 0) hx hb dX3_numberAt_24 (by decide) ?_
  exact W.iret (v := 0) hx hb hr (fun t ht hW => ⟨⟨0, (), rfl, rfl, kB_mk ht hW hP hK hD⟩, hS.F ht⟩) hS.2.2 dX3_numberAt_25
set_option maxHeartbeats 400000000 in
set_option maxRecDepth 100000 in
theorem c_X2_variableOf_0 (l : Launch) (E : kE) (D : va_G) (cI cJ cB cZ : ClassId) (h0 : Nat) (f0 : List Value) (e0 : f0[10]? = some (.int 0)) : kI l E D (kT cI cJ cB cZ) yX2_variableOf vW_X2_variableOf ({ frames := 0, cells := 0, slots := 0, locals := 0 }) [.ref h0, .long 0] [(h0, .inr (2, f0))] ((-1)) [(h0, .inr (2, f0))] 0 0 := by
  intro sz
  refine Met.ofW (cc := cX2_variableOf) (maxL := 4) (ret := (some .int)) (by decide) rfl ?_
  intro p e s m args below meth c s₁ B hml hv
  obtain ⟨rfl, hsz, hP, hK, hD0, hN, hX⟩ := hv
  have hx := B.exec
  have hb := B.bytes
  have hr := B.returns
  have hts := atoms_spec (ws := vW_X2_variableOf) B.pre
  have hown : s.vm.findClass RX2 = some m.cls := findClass_of_methodNamed B.named
  have hlocks := B.notSynchronized
  have hin2 : ∀ w ∈ wsX20, w ∈ vW_X2_variableOf := u9_X2_variableOf_wsX20
  subst hsz
  have hD := hD0.self (sz := s.heap.size)
  have hAE := k_AE hD0 hX
  generalize hAe : va_A [(h0, .inr (2, f0))] s.heap.size = A at hD hAE ⊢
  have hA : ∀ q : Nat, s.heap.size ≤ q → A q := fun q h => by rw [← hAe]; exact Or.inr h
  have hS : va_S A s.heap s.heap [] := va_S.rf
  have hP : va_P D vwCl [(h0, .inr (2, f0))] s.heap := hP
  have hl := lv_entry ([.ref h0, .long 0] : List Value) (n := 4) (Nat.le_of_ble_eq_true rfl)
  rw [lg_entry_eq]
  generalize (lg_sl ([.ref h0, .long 0]) ++ List.replicate (4 - (lg_sl ([.ref h0, .long 0])).length) Slot.unset).toArray = ls at hl ⊢
  have hl : lv_has ls 4 [(0, .ref h0), (1, .long 0)] := hl
  refine lv_iconst (v := 0) hx hb dX2_variableOf_0 (by decide) ?_
  refine lv_istore_n (lv' := [(3, .int 0), (0, .ref h0), (1, .long 0)]) hx hb dX2_variableOf_1 rfl hl (by decide) rfl (fun ls hl => ?_)
  refine lv_iload_n hx hb dX2_variableOf_2 rfl (lv_at hl 0 rfl) ?_
  refine lv_aload_n hx hb dX2_variableOf_3 rfl (lv_at hl 1 rfl) ?_
  refine k_get (D := D) (ci := 2) (v := .int 0) (N := 16) hx hb hts hin2 hown hK hP 0 rfl rfl (by decide) f9_2_10 (hts (.fieldLink RX2 52 "IntegerHouse$House" "variables" "I") (o9_X2_variableOf _ (List.mem_of_getElem? (i := 0) rfl))) e0 dX2_variableOf_4 ?_
  refine lv_icmp_ge (tgt := 34) hx hb dX2_variableOf_7 (by decide) (fun _ => ?_) (fun c9 => absurd (by decide) c9)
  refine lv_iconst (v := (-1)) hx hb dX2_variableOf_34 (by decide) ?_
  exact W.iret (v := (-1)) hx hb hr (fun t ht hW => ⟨⟨(-1), (), rfl, rfl, kB_mk ht hW hP hK hD⟩, hS.F ht⟩) hS.2.2 dX2_variableOf_35
set_option maxHeartbeats 400000000 in
set_option maxRecDepth 100000 in
theorem c_X8_factor_0 (l : Launch) (E : kE) (D : va_G) (cI cJ cB cZ : ClassId) (h0 : Nat) (f0 : List Value) (h1 : Nat) (h2 : Nat) (f1 : List Value) (f2 : List Value) (e0 : f0[7]? = some (.int 0)) (e1 : f0[1]? = some (.ref h1)) (e2 : f0[0]? = some (.ref h2)) (e3 : f0[6]? = some (.int 0)) (e4 : f1[5]? = some (.int 0)) (e5 : f2[10]? = some (.int 0)) (e6 : f0[3]? = some (.int 0)) (e7 : f0[8]? = some (.int 0)) (e8 : f0[4]? = some (.int 0)) : kV l E D (kT cI cJ cB cZ) yX8_factor vW_X8_factor ({ frames := 1, cells := 0, slots := 0, locals := 23 }) [.ref h0] [(h0, .inr (8, f0)), (h2, .inr (3, f1)), (h1, .inr (2, f2))] (fun _ : Unit => [(h0, .inr (8, (((f0.set 3 (.int 2)).set 4 (.int 0)).set 7 (.int 44)))), (h2, .inr (3, f1)), (h1, .inr (2, f2))]) 0 0 := by
  intro sz
  refine Met.ofW (cc := cX8_factor) (maxL := 3) (ret := none) (by decide) rfl ?_
  intro p e s m args below meth c s₁ B hml hv
  obtain ⟨rfl, hsz, hP, hK, hD0, hN, hX⟩ := hv
  have hx := B.exec
  have hb := B.bytes
  have hr := B.returns
  have hts := atoms_spec (ws := vW_X8_factor) B.pre
  have hown : s.vm.findClass RX8 = some m.cls := findClass_of_methodNamed B.named
  have hlocks := B.notSynchronized
  have hin8 : ∀ w ∈ wsX80, w ∈ vW_X8_factor := u9_X8_factor_wsX80
  subst hsz
  have hD := hD0.self (sz := s.heap.size)
  have hAE := k_AE hD0 hX
  generalize hAe : va_A [(h0, .inr (8, f0)), (h2, .inr (3, f1)), (h1, .inr (2, f2))] s.heap.size = A at hD hAE ⊢
  have hA : ∀ q : Nat, s.heap.size ≤ q → A q := fun q h => by rw [← hAe]; exact Or.inr h
  have hS : va_S A s.heap s.heap [] := va_S.rf
  have hP : va_P D vwCl [(h0, .inr (8, f0)), (h2, .inr (3, f1)), (h1, .inr (2, f2))] s.heap := hP
  have hl := lv_entry ([.ref h0] : List Value) (n := 3) (Nat.le_of_ble_eq_true rfl)
  rw [lg_entry_eq]
  generalize (lg_sl ([.ref h0]) ++ List.replicate (3 - (lg_sl ([.ref h0])).length) Slot.unset).toArray = ls at hl ⊢
  have hl : lv_has ls 3 [(0, .ref h0)] := hl
  refine lv_aload_n hx hb dX8_factor_0 rfl (lv_at hl 0 rfl) ?_
  refine k_get (D := D) (ci := 8) (v := .int 0) (N := 15) hx hb hts hin8 hown hK hP 0 rfl rfl (by decide) f9_8_7 (hts (.fieldLink RX8 39 "IntegerHouse$Reader" "kind" "I") (o9_X8_factor _ (List.mem_of_getElem? (i := 0) rfl))) e0 dX8_factor_1 ?_
  refine lv_istore_n (lv' := [(1, .int 0), (0, .ref h0)]) hx hb dX8_factor_4 rfl hl (by decide) rfl (fun ls hl => ?_)
  refine lv_aload_n hx hb dX8_factor_5 rfl (lv_at hl 1 rfl) ?_
  refine k_get (D := D) (ci := 8) (v := .ref h1) (N := 15) hx hb hts hin8 hown hK hP 0 rfl rfl (by decide) f9_8_1 (hts (.fieldLink RX8 15 "IntegerHouse$Reader" "house" "LIntegerHouse$House;") (o9_X8_factor _ (List.mem_of_getElem? (i := 1) rfl))) e1 dX8_factor_6 ?_
  refine lv_aload_n hx hb dX8_factor_9 rfl (lv_at hl 1 rfl) ?_
  refine k_get (D := D) (ci := 8) (v := .ref h2) (N := 15) hx hb hts hin8 hown hK hP 0 rfl rfl (by decide) f9_8_0 (hts (.fieldLink RX8 9 "IntegerHouse$Reader" "lexer" "LIntegerHouse$Lexer;") (o9_X8_factor _ (List.mem_of_getElem? (i := 2) rfl))) e2 dX8_factor_10 ?_
  refine lv_aload_n hx hb dX8_factor_13 rfl (lv_at hl 1 rfl) ?_
  refine k_get (D := D) (ci := 8) (v := .int 0) (N := 15) hx hb hts hin8 hown hK hP 0 rfl rfl (by decide) f9_8_6 (hts (.fieldLink RX8 79 "IntegerHouse$Reader" "at" "I") (o9_X8_factor _ (List.mem_of_getElem? (i := 3) rfl))) e3 dX8_factor_14 ?_
  refine k_cVl (As := [.int 0]) (rest := [.ref h1]) (wc := [(h2, .inr (3, f1))]) (wr := [(h0, .inr (8, f0)), (h1, .inr (2, f2))]) (w1 := [(h2, .inr (3, f1))]) ⟨hx, hb, hml, hown, hts⟩ hN hX hAE hK hP hD hS hA [1] [0, 2] (ci := 3) rfl rfl rfl rfl (by decide +kernel) (by decide +kernel) (by decide +kernel) (c_X3_nameAt_0 l E D cI cJ cB cZ h2 f1 e4) (cwV 1 hts g9_X8_factor_X3_nameAt_82 rfl rfl rfl (by decide +kernel) ⟨Nat.le_of_ble_eq_true rfl, Nat.le_of_ble_eq_true rfl⟩) rfl hl.1 (Nat.le_of_ble_eq_true rfl) dX8_factor_17 ⟨Nat.le_of_ble_eq_true rfl, Nat.le_of_ble_eq_true rfl⟩ (fun H locs hP hD hS => ?_)
  have hP : va_P D vwCl [(h0, .inr (8, f0)), (h1, .inr (2, f2)), (h2, .inr (3, f1))] H := hP
  have hD : va_D A [(h0, .inr (8, f0)), (h1, .inr (2, f2)), (h2, .inr (3, f1))] := hD
  refine k_cVi (As := [.long 0]) (rest := []) (wc := [(h1, .inr (2, f2))]) (wr := [(h0, .inr (8, f0)), (h2, .inr (3, f1))]) (w1 := [(h1, .inr (2, f2))]) ⟨hx, hb, hml, hown, hts⟩ hN hX hAE hK hP hD hS hA [1] [0, 2] (ci := 2) rfl rfl rfl rfl (by decide +kernel) (by decide +kernel) (by decide +kernel) (c_X2_variableOf_0 l E D cI cJ cB cZ h1 f2 e5) (cwV 1 hts g9_X8_factor_X2_variableOf_92 rfl rfl rfl (by decide +kernel) ⟨Nat.le_of_ble_eq_true rfl, Nat.le_of_ble_eq_true rfl⟩) rfl hl.1 (Nat.le_of_ble_eq_true rfl) dX8_factor_20 ⟨Nat.le_of_ble_eq_true rfl, Nat.le_of_ble_eq_true rfl⟩ (fun H locs hP hD hS => ?_)
  have hP : va_P D vwCl [(h0, .inr (8, f0)), (h2, .inr (3, f1)), (h1, .inr (2, f2))] H := hP
  have hD : va_D A [(h0, .inr (8, f0)), (h2, .inr (3, f1)), (h1, .inr (2, f2))] := hD
  refine lv_istore_n (lv' := [(2, .int (-1)), (1, .int 0), (0, .ref h0)]) hx hb dX8_factor_23 rfl hl (by decide) rfl (fun ls hl => ?_)
  refine lv_iload_n hx hb dX8_factor_24 rfl (lv_at hl 1 rfl) ?_
  refine lv_iconst (v := 1) hx hb dX8_factor_25 (by decide) ?_
  refine lv_icmp_ne (tgt := 60) hx hb dX8_factor_26 (by decide) (fun _ => ?_) (fun c9 => absurd c9 (by decide))
  refine lv_iload_n hx hb dX8_factor_60 rfl (lv_at hl 1 rfl) ?_
  refine lv_iconst (v := 1) hx hb dX8_factor_61 (by decide) ?_
  refine lv_icmp_ne (tgt := 99) hx hb dX8_factor_62 (by decide) (fun _ => ?_) (fun c9 => absurd c9 (by decide))
  refine lv_iload_n hx hb dX8_factor_99 rfl (lv_at hl 1 rfl) ?_
  refine lv_bipush (v := 6) hx hb dX8_factor_100 (by decide) ?_
  refine lv_icmp_ne (tgt := 114) hx hb dX8_factor_102 (by decide) (fun _ => ?_) (fun c9 => absurd c9 (by decide))
  refine lv_iload_n hx hb dX8_factor_114 rfl (lv_at hl 1 rfl) ?_
  refine lv_bipush (v := 28) hx hb dX8_factor_115 (by decide) ?_
  refine lv_icmp_lt (tgt := 149) hx hb dX8_factor_117 (by decide) (fun _ => ?_) (fun c9 => absurd (by decide) c9)
  refine lv_aload_n hx hb dX8_factor_149 rfl (lv_at hl 2 rfl) ?_
  refine lv_iconst (v := 2) hx hb dX8_factor_150 (by decide) ?_
  refine k_cVv (As := [.int 2]) (rest := []) (wc := [(h0, .inr (8, f0))]) (wr := [(h2, .inr (3, f1)), (h1, .inr (2, f2))]) (w1 := (fun _ : Unit => [(h0, .inr (8, (((f0.set 3 (.int 2)).set 4 (.int 0)).set 7 (.int 44))))])) ⟨hx, hb, hml, hown, hts⟩ hN hX hAE hK hP hD hS hA [0] [1, 2] (ci := 8) rfl rfl rfl rfl (by decide +kernel) (by decide +kernel) (by decide +kernel) (c_X8_fail_0 l E D cI cJ cB cZ h0 f0 e6 e0 e7 e8) (cwV 1 hts g9_X8_factor_X8_fail_95 rfl rfl rfl (by decide +kernel) ⟨Nat.le_of_ble_eq_true rfl, Nat.le_of_ble_eq_true rfl⟩) rfl hl.1 (Nat.le_of_ble_eq_true rfl) dX8_factor_151 ⟨Nat.le_of_ble_eq_true rfl, Nat.le_of_ble_eq_true rfl⟩ (fun _ H locs hP hD hS => ?_)
  have hP : va_P D vwCl [(h2, .inr (3, f1)), (h1, .inr (2, f2)), (h0, .inr (8, (((f0.set 3 (.int 2)).set 4 (.int 0)).set 7 (.int 44))))] H := hP
  have hD : va_D A [(h2, .inr (3, f1)), (h1, .inr (2, f2)), (h0, .inr (8, (((f0.set 3 (.int 2)).set 4 (.int 0)).set 7 (.int 44))))] := hD
  have hP := hP.sub (ws' := [(h0, .inr (8, (((f0.set 3 (.int 2)).set 4 (.int 0)).set 7 (.int 44)))), (h2, .inr (3, f1)), (h1, .inr (2, f2))]) [2, 0, 1] rfl
  have hD := hD.sub (ws' := [(h0, .inr (8, (((f0.set 3 (.int 2)).set 4 (.int 0)).set 7 (.int 44)))), (h2, .inr (3, f1)), (h1, .inr (2, f2))]) [2, 0, 1] (by decide +kernel) rfl
  exact W.vret hx hb hr (fun t ht hW => ⟨⟨(), rfl, trivial, kB_mk ht hW hP hK hD⟩, hS.F ht⟩) hS.2.2 dX8_factor_154
set_option maxHeartbeats 400000000 in
set_option maxRecDepth 100000 in
theorem c_X2_setStep_0 (l : Launch) (E : kE) (D : va_G) (cI cJ cB cZ : ClassId) (h0 : Nat) (f0 : List Value) (h1 : Nat) (g0 : Nat → Int32) (e0 : f0[3]? = some (.ref h1)) : kV l E D (kT cI cJ cB cZ) yX2_setStep vW_X2_setStep ({ frames := 0, cells := 0, slots := 0, locals := 0 }) [.ref h0, .int 24, .int 0, .int 43] [(h0, .inr (2, f0)), (h1, .inl (cI, 13312, .inl g0))] (fun _ : Unit => [(h0, .inr (2, f0)), (h1, .inl (cI, 13312, .inl (upd g0 12288 43)))]) 0 0 := by
  intro sz
  refine Met.ofW (cc := cX2_setStep) (maxL := 4) (ret := none) (by decide) rfl ?_
  intro p e s m args below meth c s₁ B hml hv
  obtain ⟨rfl, hsz, hP, hK, hD0, hN, hX⟩ := hv
  have hx := B.exec
  have hb := B.bytes
  have hr := B.returns
  have hts := atoms_spec (ws := vW_X2_setStep) B.pre
  have hown : s.vm.findClass RX2 = some m.cls := findClass_of_methodNamed B.named
  have hlocks := B.notSynchronized
  have hin2 : ∀ w ∈ wsX20, w ∈ vW_X2_setStep := u9_X2_setStep_wsX20
  subst hsz
  have hD := hD0.self (sz := s.heap.size)
  have hAE := k_AE hD0 hX
  generalize hAe : va_A [(h0, .inr (2, f0)), (h1, .inl (cI, 13312, .inl g0))] s.heap.size = A at hD hAE ⊢
  have hA : ∀ q : Nat, s.heap.size ≤ q → A q := fun q h => by rw [← hAe]; exact Or.inr h
  have hS : va_S A s.heap s.heap [] := va_S.rf
  have hP : va_P D vwCl [(h0, .inr (2, f0)), (h1, .inl (cI, 13312, .inl g0))] s.heap := hP
  have hl := lv_entry ([.ref h0, .int 24, .int 0, .int 43] : List Value) (n := 4) (Nat.le_of_ble_eq_true rfl)
  rw [lg_entry_eq]
  generalize (lg_sl ([.ref h0, .int 24, .int 0, .int 43]) ++ List.replicate (4 - (lg_sl ([.ref h0, .int 24, .int 0, .int 43])).length) Slot.unset).toArray = ls at hl ⊢
  have hl : lv_has ls 4 [(0, .ref h0), (1, .int 24), (2, .int 0), (3, .int 43)] := hl
  refine lv_iload_n hx hb dX2_setStep_0 rfl (lv_at hl 1 rfl) ?_
  refine lv_if_lt (tgt := 34) hx hb dX2_setStep_1 (by decide) (fun c9 => absurd c9 (by decide)) (fun _ => ?_)
  refine lv_iload_n hx hb dX2_setStep_4 rfl (lv_at hl 1 rfl) ?_
  refine lv_bipush (v := 26) hx hb dX2_setStep_5 (by decide) ?_
  refine lv_icmp_ge (tgt := 34) hx hb dX2_setStep_7 (by decide) (fun c9 => absurd c9 (by decide)) (fun _ => ?_)
  refine lv_iload_n hx hb dX2_setStep_10 rfl (lv_at hl 2 rfl) ?_
  refine lv_if_lt (tgt := 34) hx hb dX2_setStep_11 (by decide) (fun c9 => absurd c9 (by decide)) (fun _ => ?_)
  refine lv_iload_n hx hb dX2_setStep_14 rfl (lv_at hl 2 rfl) ?_
  refine lv_sipush (v := 512) hx hb dX2_setStep_15 (by decide) ?_
  refine lv_icmp_ge (tgt := 34) hx hb dX2_setStep_18 (by decide) (fun c9 => absurd c9 (by decide)) (fun _ => ?_)
  refine lv_aload_n hx hb dX2_setStep_21 rfl (lv_at hl 0 rfl) ?_
  refine k_get (D := D) (ci := 2) (v := .ref h1) (N := 16) hx hb hts hin2 hown hK hP 0 rfl rfl (by decide) f9_2_3 (hts (.fieldLink RX2 22 "IntegerHouse$House" "steps" "[I") (o9_X2_setStep _ (List.mem_of_getElem? (i := 0) rfl))) e0 dX2_setStep_22 ?_
  refine lv_iload_n hx hb dX2_setStep_25 rfl (lv_at hl 1 rfl) ?_
  refine lv_sipush (v := 512) hx hb dX2_setStep_26 (by decide) ?_
  refine lv_imul hx hb dX2_setStep_29 ?_
  refine k_topi (y := 12288) (by decide) ?_
  refine lv_iload_n hx hb dX2_setStep_30 rfl (lv_at hl 2 rfl) ?_
  refine lv_iadd hx hb dX2_setStep_31 ?_
  refine k_topi (y := 12288) (by decide) ?_
  refine lv_iload_n hx hb dX2_setStep_32 rfl (lv_at hl 3 rfl) ?_
  refine va_iast hx hb hK hP hD hS 1 0 rfl rfl (k_in (by decide)) dX2_setStep_33 (fun H locs hP hD hS => ?_)
  have hP : va_P D vwCl [(h0, .inr (2, f0)), (h1, .inl (cI, 13312, .inl (upd g0 12288 43)))] H := hP
  have hD : va_D A [(h0, .inr (2, f0)), (h1, .inl (cI, 13312, .inl (upd g0 12288 43)))] := hD
  exact W.vret hx hb hr (fun t ht hW => ⟨⟨(), rfl, trivial, kB_mk ht hW hP hK hD⟩, hS.F ht⟩) hS.2.2 dX2_setStep_34
set_option maxHeartbeats 400000000 in
set_option maxRecDepth 100000 in
theorem c_X8_step_0 (l : Launch) (E : kE) (D : va_G) (cI cJ cB cZ : ClassId) (h0 : Nat) (f0 : List Value) (h1 : Nat) (f1 : List Value) (h2 : Nat) (g0 : Nat → Int32) (e0 : f0[1]? = some (.ref h1)) (e1 : f0[11]? = some (.int 24)) (e2 : f0[13]? = some (.int 0)) (e3 : f1[3]? = some (.ref h2)) : kV l E D (kT cI cJ cB cZ) yX8_step vW_X8_step ({ frames := 1, cells := 0, slots := 0, locals := 23 }) [.ref h0, .int 43] [(h0, .inr (8, f0)), (h1, .inr (2, f1)), (h2, .inl (cI, 13312, .inl g0))] (fun _ : Unit => [(h0, .inr (8, (f0.set 13 (.int 1)))), (h1, .inr (2, f1)), (h2, .inl (cI, 13312, .inl (upd g0 12288 43)))]) 0 0 := by
  intro sz
  refine Met.ofW (cc := cX8_step) (maxL := 2) (ret := none) (by decide) rfl ?_
  intro p e s m args below meth c s₁ B hml hv
  obtain ⟨rfl, hsz, hP, hK, hD0, hN, hX⟩ := hv
  have hx := B.exec
  have hb := B.bytes
  have hr := B.returns
  have hts := atoms_spec (ws := vW_X8_step) B.pre
  have hown : s.vm.findClass RX8 = some m.cls := findClass_of_methodNamed B.named
  have hlocks := B.notSynchronized
  have hin8 : ∀ w ∈ wsX80, w ∈ vW_X8_step := u9_X8_step_wsX80
  subst hsz
  have hD := hD0.self (sz := s.heap.size)
  have hAE := k_AE hD0 hX
  generalize hAe : va_A [(h0, .inr (8, f0)), (h1, .inr (2, f1)), (h2, .inl (cI, 13312, .inl g0))] s.heap.size = A at hD hAE ⊢
  have hA : ∀ q : Nat, s.heap.size ≤ q → A q := fun q h => by rw [← hAe]; exact Or.inr h
  have hS : va_S A s.heap s.heap [] := va_S.rf
  have hP : va_P D vwCl [(h0, .inr (8, f0)), (h1, .inr (2, f1)), (h2, .inl (cI, 13312, .inl g0))] s.heap := hP
  have hl := lv_entry ([.ref h0, .int 43] : List Value) (n := 2) (Nat.le_of_ble_eq_true rfl)
  rw [lg_entry_eq]
  generalize (lg_sl ([.ref h0, .int 43]) ++ List.replicate (2 - (lg_sl ([.ref h0, .int 43])).length) Slot.unset).toArray = ls at hl ⊢
  have hl : lv_has ls 2 [(0, .ref h0), (1, .int 43)] := hl
  refine lv_aload_n hx hb dX8_step_0 rfl (lv_at hl 0 rfl) ?_
  refine k_get (D := D) (ci := 8) (v := .ref h1) (N := 15) hx hb hts hin8 hown hK hP 0 rfl rfl (by decide) f9_8_1 (hts (.fieldLink RX8 15 "IntegerHouse$Reader" "house" "LIntegerHouse$House;") (o9_X8_step _ (List.mem_of_getElem? (i := 0) rfl))) e0 dX8_step_1 ?_
  refine lv_aload_n hx hb dX8_step_4 rfl (lv_at hl 0 rfl) ?_
  refine k_get (D := D) (ci := 8) (v := .int 24) (N := 15) hx hb hts hin8 hown hK hP 0 rfl rfl (by decide) f9_8_11 (hts (.fieldLink RX8 164 "IntegerHouse$Reader" "slot" "I") (o9_X8_step _ (List.mem_of_getElem? (i := 1) rfl))) e1 dX8_step_5 ?_
  refine lv_aload_n hx hb dX8_step_8 rfl (lv_at hl 0 rfl) ?_
  refine k_get (D := D) (ci := 8) (v := .int 0) (N := 15) hx hb hts hin8 hown hK hP 0 rfl rfl (by decide) f9_8_13 (hts (.fieldLink RX8 170 "IntegerHouse$Reader" "steps" "I") (o9_X8_step _ (List.mem_of_getElem? (i := 2) rfl))) e2 dX8_step_9 ?_
  refine lv_iload_n hx hb dX8_step_12 rfl (lv_at hl 1 rfl) ?_
  refine k_cVv (As := [.int 24, .int 0, .int 43]) (rest := []) (wc := [(h1, .inr (2, f1)), (h2, .inl (cI, 13312, .inl g0))]) (wr := [(h0, .inr (8, f0))]) (w1 := (fun _ : Unit => [(h1, .inr (2, f1)), (h2, .inl (cI, 13312, .inl (upd g0 12288 43)))])) ⟨hx, hb, hml, hown, hts⟩ hN hX hAE hK hP hD hS hA [1, 2] [0] (ci := 2) rfl rfl rfl rfl (by decide +kernel) (by decide +kernel) (by decide +kernel) (c_X2_setStep_0 l E D cI cJ cB cZ h1 f1 h2 g0 e3) (cwV 3 hts g9_X8_step_X2_setStep_182 rfl rfl rfl (by decide +kernel) ⟨Nat.le_of_ble_eq_true rfl, Nat.le_of_ble_eq_true rfl⟩) rfl hl.1 (Nat.le_of_ble_eq_true rfl) dX8_step_13 ⟨Nat.le_of_ble_eq_true rfl, Nat.le_of_ble_eq_true rfl⟩ (fun _ H locs hP hD hS => ?_)
  have hP : va_P D vwCl [(h0, .inr (8, f0)), (h1, .inr (2, f1)), (h2, .inl (cI, 13312, .inl (upd g0 12288 43)))] H := hP
  have hD : va_D A [(h0, .inr (8, f0)), (h1, .inr (2, f1)), (h2, .inl (cI, 13312, .inl (upd g0 12288 43)))] := hD
  refine lv_aload_n hx hb dX8_step_16 rfl (lv_at hl 0 rfl) ?_
  refine lv_dup hx hb dX8_step_17 rfl ?_
  refine k_get (D := D) (ci := 8) (v := .int 0) (N := 15) hx hb hts hin8 hown hK hP 0 rfl rfl (by decide) f9_8_13 (hts (.fieldLink RX8 170 "IntegerHouse$Reader" "steps" "I") (o9_X8_step _ (List.mem_of_getElem? (i := 2) rfl))) e2 dX8_step_18 ?_
  refine lv_iconst (v := 1) hx hb dX8_step_21 (by decide) ?_
  refine lv_iadd hx hb dX8_step_22 ?_
  refine k_topi (y := 1) (by decide) ?_
  refine k_put (D := D) (ci := 8) (v := .int 1) (ty := .int) (N := 15) hx hb hts hin8 tyX8 tyX8_ok nmX8 hown hK hP hD hS 0 rfl rfl (by decide) f9_8_13 (hts (.fieldLink RX8 170 "IntegerHouse$Reader" "steps" "I") (o9_X8_step _ (List.mem_of_getElem? (i := 2) rfl))) rfl pd_2 rfl rfl (k_len e2) dX8_step_23 (fun H locs hP hD hS => ?_)
  have hP : va_P D vwCl [(h0, .inr (8, (f0.set 13 (.int 1)))), (h1, .inr (2, f1)), (h2, .inl (cI, 13312, .inl (upd g0 12288 43)))] H := hP
  have hD : va_D A [(h0, .inr (8, (f0.set 13 (.int 1)))), (h1, .inr (2, f1)), (h2, .inl (cI, 13312, .inl (upd g0 12288 43)))] := hD
  exact W.vret hx hb hr (fun t ht hW => ⟨⟨(), rfl, trivial, kB_mk ht hW hP hK hD⟩, hS.F ht⟩) hS.2.2 dX8_step_26
set_option maxHeartbeats 400000000 in
set_option maxRecDepth 100000 in
theorem c_X8_part_0 (l : Launch) (E : kE) (D : va_G) (cI cJ cB cZ : ClassId) (h0 : Nat) (f0 : List Value) (h1 : Nat) (f1 : List Value) (h2 : Nat) (f2 : List Value) (h3 : Nat) (g0 : Nat → Int32) (e0 : f0[0]? = some (.ref h1)) (e1 : f0[6]? = some (.int 0)) (e2 : f1[5]? = some (.int 0)) (e3 : f0[7]? = some (.int 0)) (e4 : f0[1]? = some (.ref h2)) (e5 : f2[10]? = some (.int 0)) (e6 : f0[3]? = some (.int 0)) (e7 : f0[8]? = some (.int 0)) (e8 : f0[4]? = some (.int 0)) (e9 : f0[11]? = some (.int 24)) (e10 : f0[13]? = some (.int 0)) (e11 : f2[3]? = some (.ref h3)) : kV l E D (kT cI cJ cB cZ) yX8_part vW_X8_part ({ frames := 2, cells := 0, slots := 0, locals := 45 }) [.ref h0, .int 0] [(h0, .inr (8, f0)), (h1, .inr (3, f1)), (h2, .inr (2, f2)), (h3, .inl (cI, 13312, .inl g0))] (fun _ : Unit => [(h0, .inr (8, ((((f0.set 3 (.int 2)).set 4 (.int 0)).set 7 (.int 44)).set 13 (.int 1)))), (h1, .inr (3, f1)), (h2, .inr (2, f2)), (h3, .inl (cI, 13312, .inl (upd g0 12288 43)))]) 0 0 := by
  intro sz
  refine Met.ofW (cc := cX8_part) (maxL := 5) (ret := none) (by decide) rfl ?_
  intro p e s m args below meth c s₁ B hml hv
  obtain ⟨rfl, hsz, hP, hK, hD0, hN, hX⟩ := hv
  have hx := B.exec
  have hb := B.bytes
  have hr := B.returns
  have hts := atoms_spec (ws := vW_X8_part) B.pre
  have hown : s.vm.findClass RX8 = some m.cls := findClass_of_methodNamed B.named
  have hlocks := B.notSynchronized
  have hin8 : ∀ w ∈ wsX80, w ∈ vW_X8_part := u9_X8_part_wsX80
  subst hsz
  have hD := hD0.self (sz := s.heap.size)
  have hAE := k_AE hD0 hX
  generalize hAe : va_A [(h0, .inr (8, f0)), (h1, .inr (3, f1)), (h2, .inr (2, f2)), (h3, .inl (cI, 13312, .inl g0))] s.heap.size = A at hD hAE ⊢
  have hA : ∀ q : Nat, s.heap.size ≤ q → A q := fun q h => by rw [← hAe]; exact Or.inr h
  have hS : va_S A s.heap s.heap [] := va_S.rf
  have hP : va_P D vwCl [(h0, .inr (8, f0)), (h1, .inr (3, f1)), (h2, .inr (2, f2)), (h3, .inl (cI, 13312, .inl g0))] s.heap := hP
  have hl := lv_entry ([.ref h0, .int 0] : List Value) (n := 5) (Nat.le_of_ble_eq_true rfl)
  rw [lg_entry_eq]
  generalize (lg_sl ([.ref h0, .int 0]) ++ List.replicate (5 - (lg_sl ([.ref h0, .int 0])).length) Slot.unset).toArray = ls at hl ⊢
  have hl : lv_has ls 5 [(0, .ref h0), (1, .int 0)] := hl
  refine lv_aload_n hx hb dX8_part_0 rfl (lv_at hl 0 rfl) ?_
  refine k_get (D := D) (ci := 8) (v := .ref h1) (N := 15) hx hb hts hin8 hown hK hP 0 rfl rfl (by decide) f9_8_0 (hts (.fieldLink RX8 9 "IntegerHouse$Reader" "lexer" "LIntegerHouse$Lexer;") (o9_X8_part _ (List.mem_of_getElem? (i := 0) rfl))) e0 dX8_part_1 ?_
  refine lv_aload_n hx hb dX8_part_4 rfl (lv_at hl 0 rfl) ?_
  refine k_get (D := D) (ci := 8) (v := .int 0) (N := 15) hx hb hts hin8 hown hK hP 0 rfl rfl (by decide) f9_8_6 (hts (.fieldLink RX8 79 "IntegerHouse$Reader" "at" "I") (o9_X8_part _ (List.mem_of_getElem? (i := 1) rfl))) e1 dX8_part_5 ?_
  refine k_cVi (As := [.int 0]) (rest := []) (wc := [(h1, .inr (3, f1))]) (wr := [(h0, .inr (8, f0)), (h2, .inr (2, f2)), (h3, .inl (cI, 13312, .inl g0))]) (w1 := [(h1, .inr (3, f1))]) ⟨hx, hb, hml, hown, hts⟩ hN hX hAE hK hP hD hS hA [1] [0, 2, 3] (ci := 3) rfl rfl rfl rfl (by decide +kernel) (by decide +kernel) (by decide +kernel) (c_X3_numberAt_0 l E D cI cJ cB cZ h1 f1 e2) (cwV 1 hts g9_X8_part_X3_numberAt_206 rfl rfl rfl (by decide +kernel) ⟨Nat.le_of_ble_eq_true rfl, Nat.le_of_ble_eq_true rfl⟩) rfl hl.1 (Nat.le_of_ble_eq_true rfl) dX8_part_8 ⟨Nat.le_of_ble_eq_true rfl, Nat.le_of_ble_eq_true rfl⟩ (fun H locs hP hD hS => ?_)
  have hP : va_P D vwCl [(h0, .inr (8, f0)), (h2, .inr (2, f2)), (h3, .inl (cI, 13312, .inl g0)), (h1, .inr (3, f1))] H := hP
  have hD : va_D A [(h0, .inr (8, f0)), (h2, .inr (2, f2)), (h3, .inl (cI, 13312, .inl g0)), (h1, .inr (3, f1))] := hD
  refine lv_istore_n (lv' := [(2, .int 0), (0, .ref h0), (1, .int 0)]) hx hb dX8_part_11 rfl hl (by decide) rfl (fun ls hl => ?_)
  refine lv_aload_n hx hb dX8_part_12 rfl (lv_at hl 1 rfl) ?_
  refine k_get (D := D) (ci := 8) (v := .int 0) (N := 15) hx hb hts hin8 hown hK hP 0 rfl rfl (by decide) f9_8_7 (hts (.fieldLink RX8 39 "IntegerHouse$Reader" "kind" "I") (o9_X8_part _ (List.mem_of_getElem? (i := 6) rfl))) e3 dX8_part_13 ?_
  refine lv_iconst (v := 2) hx hb dX8_part_16 (by decide) ?_
  refine lv_icmp_ne (tgt := 24) hx hb dX8_part_17 (by decide) (fun _ => ?_) (fun c9 => absurd c9 (by decide))
  refine lv_iconst (v := 0) hx hb dX8_part_24 (by decide) ?_
  refine lv_istore_n (lv' := [(3, .int 0), (2, .int 0), (0, .ref h0), (1, .int 0)]) hx hb dX8_part_25 rfl hl (by decide) rfl (fun ls hl => ?_)
  refine lv_iload_n hx hb dX8_part_26 rfl (lv_at hl 0 rfl) ?_
  refine lv_if_eq (tgt := 51) hx hb dX8_part_27 (by decide) (fun _ => ?_) (fun c9 => absurd (by decide) c9)
  refine lv_iload_n hx hb dX8_part_51 rfl (lv_at hl 0 rfl) ?_
  refine lv_if_eq (tgt := 68) hx hb dX8_part_52 (by decide) (fun _ => ?_) (fun c9 => absurd (by decide) c9)
  refine lv_iconst (v := 0) hx hb dX8_part_68 (by decide) ?_
  refine lv_istore (lv' := [(4, .int 0), (3, .int 0), (2, .int 0), (0, .ref h0), (1, .int 0)]) hx hb dX8_part_69 hl (by decide) rfl (fun ls hl => ?_)
  refine lv_iload hx hb dX8_part_71 (lv_at hl 0 rfl) ?_
  refine lv_if_eq (tgt := 84) hx hb dX8_part_73 (by decide) (fun _ => ?_) (fun c9 => absurd (by decide) c9)
  refine lv_iload hx hb dX8_part_84 (lv_at hl 0 rfl) ?_
  refine lv_if_ne (tgt := 93) hx hb dX8_part_86 (by decide) (fun c9 => absurd (by decide) c9) (fun _ => ?_)
  refine lv_iload_n hx hb dX8_part_89 rfl (lv_at hl 1 rfl) ?_
  refine lv_if_ne (tgt := 97) hx hb dX8_part_90 (by decide) (fun c9 => absurd (by decide) c9) (fun _ => ?_)
  refine lv_aload_n hx hb dX8_part_93 rfl (lv_at hl 3 rfl) ?_
  refine k_cVv (As := []) (rest := []) (wc := [(h0, .inr (8, f0)), (h1, .inr (3, f1)), (h2, .inr (2, f2))]) (wr := [(h3, .inl (cI, 13312, .inl g0))]) (w1 := (fun _ : Unit => [(h0, .inr (8, (((f0.set 3 (.int 2)).set 4 (.int 0)).set 7 (.int 44)))), (h1, .inr (3, f1)), (h2, .inr (2, f2))])) ⟨hx, hb, hml, hown, hts⟩ hN hX hAE hK hP hD hS hA [0, 3, 1] [2] (ci := 8) rfl rfl rfl rfl (by decide +kernel) (by decide +kernel) (by decide +kernel) (c_X8_factor_0 l E D cI cJ cB cZ h0 f0 h2 h1 f1 f2 e3 e4 e0 e1 e2 e5 e6 e7 e8) (cwV 0 hts g9_X8_part_X8_factor_223 rfl rfl rfl (by decide +kernel) ⟨Nat.le_of_ble_eq_true rfl, Nat.le_of_ble_eq_true rfl⟩) rfl hl.1 (Nat.le_of_ble_eq_true rfl) dX8_part_94 ⟨Nat.le_of_ble_eq_true rfl, Nat.le_of_ble_eq_true rfl⟩ (fun _ H locs hP hD hS => ?_)
  have hP : va_P D vwCl [(h3, .inl (cI, 13312, .inl g0)), (h0, .inr (8, (((f0.set 3 (.int 2)).set 4 (.int 0)).set 7 (.int 44)))), (h1, .inr (3, f1)), (h2, .inr (2, f2))] H := hP
  have hD : va_D A [(h3, .inl (cI, 13312, .inl g0)), (h0, .inr (8, (((f0.set 3 (.int 2)).set 4 (.int 0)).set 7 (.int 44)))), (h1, .inr (3, f1)), (h2, .inr (2, f2))] := hD
  refine lv_iload_n hx hb dX8_part_97 rfl (lv_at hl 1 rfl) ?_
  refine lv_if_eq (tgt := 121) hx hb dX8_part_98 (by decide) (fun _ => ?_) (fun c9 => absurd (by decide) c9)
  refine lv_iload_n hx hb dX8_part_121 rfl (lv_at hl 4 rfl) ?_
  refine lv_if_eq (tgt := 131) hx hb dX8_part_122 (by decide) (fun _ => ?_) (fun c9 => absurd (by decide) c9)
  refine lv_aload_n hx hb dX8_part_131 rfl (lv_at hl 3 rfl) ?_
  refine lv_bipush (v := 43) hx hb dX8_part_132 (by decide) ?_
  refine k_cVv (As := [.int 43]) (rest := []) (wc := [(h0, .inr (8, (((f0.set 3 (.int 2)).set 4 (.int 0)).set 7 (.int 44)))), (h2, .inr (2, f2)), (h3, .inl (cI, 13312, .inl g0))]) (wr := [(h1, .inr (3, f1))]) (w1 := (fun _ : Unit => [(h0, .inr (8, ((((f0.set 3 (.int 2)).set 4 (.int 0)).set 7 (.int 44)).set 13 (.int 1)))), (h2, .inr (2, f2)), (h3, .inl (cI, 13312, .inl (upd g0 12288 43)))])) ⟨hx, hb, hml, hown, hts⟩ hN hX hAE hK hP hD hS hA [1, 3, 0] [2] (ci := 8) rfl rfl rfl rfl (by decide +kernel) (by decide +kernel) (by decide +kernel) (c_X8_step_0 l E D cI cJ cB cZ h0 ((((f0.set 3 (.int 2)).set 4 (.int 0)).set 7 (.int 44))) h2 f2 h3 g0 (k_ne (by decide) (k_ne (by decide) (k_ne (by decide) e4))) (k_ne (by decide) (k_ne (by decide) (k_ne (by decide) e9))) (k_ne (by decide) (k_ne (by decide) (k_ne (by decide) e10))) e11) (cwV 1 hts g9_X8_part_X8_step_194 rfl rfl rfl (by decide +kernel) ⟨Nat.le_of_ble_eq_true rfl, Nat.le_of_ble_eq_true rfl⟩) rfl hl.1 (Nat.le_of_ble_eq_true rfl) dX8_part_134 ⟨Nat.le_of_ble_eq_true rfl, Nat.le_of_ble_eq_true rfl⟩ (fun _ H locs hP hD hS => ?_)
  have hP : va_P D vwCl [(h1, .inr (3, f1)), (h0, .inr (8, ((((f0.set 3 (.int 2)).set 4 (.int 0)).set 7 (.int 44)).set 13 (.int 1)))), (h2, .inr (2, f2)), (h3, .inl (cI, 13312, .inl (upd g0 12288 43)))] H := hP
  have hD : va_D A [(h1, .inr (3, f1)), (h0, .inr (8, ((((f0.set 3 (.int 2)).set 4 (.int 0)).set 7 (.int 44)).set 13 (.int 1)))), (h2, .inr (2, f2)), (h3, .inl (cI, 13312, .inl (upd g0 12288 43)))] := hD
  have hP := hP.sub (ws' := [(h0, .inr (8, ((((f0.set 3 (.int 2)).set 4 (.int 0)).set 7 (.int 44)).set 13 (.int 1)))), (h1, .inr (3, f1)), (h2, .inr (2, f2)), (h3, .inl (cI, 13312, .inl (upd g0 12288 43)))]) [1, 0, 2, 3] rfl
  have hD := hD.sub (ws' := [(h0, .inr (8, ((((f0.set 3 (.int 2)).set 4 (.int 0)).set 7 (.int 44)).set 13 (.int 1)))), (h1, .inr (3, f1)), (h2, .inr (2, f2)), (h3, .inl (cI, 13312, .inl (upd g0 12288 43)))]) [1, 0, 2, 3] (by decide +kernel) rfl
  exact W.vret hx hb hr (fun t ht hW => ⟨⟨(), rfl, trivial, kB_mk ht hW hP hK hD⟩, hS.F ht⟩) hS.2.2 dX8_part_137
