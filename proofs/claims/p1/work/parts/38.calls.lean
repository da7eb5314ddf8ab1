theorem dX0_anyModel_0 : decode cX0_anyModel 0 = .ok (.iconst 0, 1) := by decide +kernel
theorem dX0_anyModel_1 : decode cX0_anyModel 1 = .ok (.istore_n 2, 1) := by decide +kernel
theorem dX0_anyModel_2 : decode cX0_anyModel 2 = .ok (.iload_n 2, 1) := by decide +kernel
theorem dX0_anyModel_3 : decode cX0_anyModel 3 = .ok (.aload_n 0, 1) := by decide +kernel
theorem dX0_anyModel_4 : decode cX0_anyModel 4 = .ok (.getfield 48, 3) := by decide +kernel
theorem dX0_anyModel_7 : decode cX0_anyModel 7 = .ok (.getfield 72, 3) := by decide +kernel
theorem dX0_anyModel_10 : decode cX0_anyModel 10 = .ok (.if_icmp .ge 24, 3) := by decide +kernel
theorem dX0_anyModel_13 : decode cX0_anyModel 13 = .ok (.aload_n 0, 1) := by decide +kernel
theorem dX0_anyModel_14 : decode cX0_anyModel 14 = .ok (.getfield 48, 3) := by decide +kernel
theorem dX0_anyModel_17 : decode cX0_anyModel 17 = .ok (.iload_n 2, 1) := by decide +kernel
theorem dX0_anyModel_18 : decode cX0_anyModel 18 = .ok (.iload_n 1, 1) := by decide +kernel
theorem dX0_anyModel_19 : decode cX0_anyModel 19 = .ok (.iconst 0, 1) := by decide +kernel
theorem dX0_anyModel_20 : decode cX0_anyModel 20 = .ok (.invokevirtual 78, 3) := by decide +kernel
theorem dX0_anyModel_23 : decode cX0_anyModel 23 = .ok (.ifCond .eq 5, 3) := by decide +kernel
theorem dX0_anyModel_26 : decode cX0_anyModel 26 = .ok (.iconst 1, 1) := by decide +kernel
theorem dX0_anyModel_27 : decode cX0_anyModel 27 = .ok (.ireturn, 1) := by decide +kernel
theorem dX0_tellCore_0 : decode cX0_tellCore 0 = .ok (.aload_n 0, 1) := by decide +kernel
theorem dX0_tellCore_1 : decode cX0_tellCore 1 = .ok (.iconst 0, 1) := by decide +kernel
theorem dX0_tellCore_2 : decode cX0_tellCore 2 = .ok (.putfield 167, 3) := by decide +kernel
theorem dX0_tellCore_5 : decode cX0_tellCore 5 = .ok (.aload_n 0, 1) := by decide +kernel
theorem dX0_tellCore_6 : decode cX0_tellCore 6 = .ok (.iload_n 1, 1) := by decide +kernel
theorem dX0_tellCore_7 : decode cX0_tellCore 7 = .ok (.invokevirtual 170, 3) := by decide +kernel
theorem dX0_tellCore_10 : decode cX0_tellCore 10 = .ok (.ifCond .eq 5, 3) := by decide +kernel
theorem dX0_tellCore_13 : decode cX0_tellCore 13 = .ok (.iconst 0, 1) := by decide +kernel
theorem dX0_tellCore_14 : decode cX0_tellCore 14 = .ok (.ireturn, 1) := by decide +kernel
theorem dX11_core_0 : decode cX11_core 0 = .ok (.aload_n 0, 1) := by decide +kernel
theorem dX11_core_1 : decode cX11_core 1 = .ok (.getfield 16, 3) := by decide +kernel
theorem dX11_core_4 : decode cX11_core 4 = .ok (.getfield 122, 3) := by decide +kernel
theorem dX11_core_7 : decode cX11_core 7 = .ok (.ifCond .eq 6, 3) := by decide +kernel
theorem dX11_core_13 : decode cX11_core 13 = .ok (.aload_n 0, 1) := by decide +kernel
theorem dX11_core_14 : decode cX11_core 14 = .ok (.getfield 55, 3) := by decide +kernel
theorem dX11_core_17 : decode cX11_core 17 = .ok (.aload_n 0, 1) := by decide +kernel
theorem dX11_core_18 : decode cX11_core 18 = .ok (.getfield 23, 3) := by decide +kernel
theorem dX11_core_21 : decode cX11_core 21 = .ok (.getfield 213, 3) := by decide +kernel
theorem dX11_core_24 : decode cX11_core 24 = .ok (.invokevirtual 298, 3) := by decide +kernel
theorem dX11_core_27 : decode cX11_core 27 = .ok (.ifCond .eq 20, 3) := by decide +kernel
theorem dX11_core_30 : decode cX11_core 30 = .ok (.aload_n 0, 1) := by decide +kernel
theorem dX11_core_31 : decode cX11_core 31 = .ok (.getfield 64, 3) := by decide +kernel
theorem dX11_core_34 : decode cX11_core 34 = .ok (.aload_n 0, 1) := by decide +kernel
theorem dX11_core_35 : decode cX11_core 35 = .ok (.getfield 23, 3) := by decide +kernel
theorem dX11_core_38 : decode cX11_core 38 = .ok (.getfield 213, 3) := by decide +kernel
theorem dX11_core_41 : decode cX11_core 41 = .ok (.invokevirtual 342, 3) := by decide +kernel
theorem dX11_core_44 : decode cX11_core 44 = .ok (.goto 5, 3) := by decide +kernel
theorem dX11_core_49 : decode cX11_core 49 = .ok (.ireturn, 1) := by decide +kernel
theorem dX12_findCounts_0 : decode cX12_findCounts 0 = .ok (.iconst 0, 1) := by decide +kernel
theorem dX12_findCounts_1 : decode cX12_findCounts 1 = .ok (.istore_n 1, 1) := by decide +kernel
theorem dX12_findCounts_2 : decode cX12_findCounts 2 = .ok (.iload_n 1, 1) := by decide +kernel
theorem dX12_findCounts_3 : decode cX12_findCounts 3 = .ok (.aload_n 0, 1) := by decide +kernel
theorem dX12_findCounts_4 : decode cX12_findCounts 4 = .ok (.getfield 957, 3) := by decide +kernel
theorem dX12_findCounts_7 : decode cX12_findCounts 7 = .ok (.if_icmp .ge 28, 3) := by decide +kernel
theorem dX12_findCounts_10 : decode cX12_findCounts 10 = .ok (.aload_n 0, 1) := by decide +kernel
theorem dX12_findCounts_11 : decode cX12_findCounts 11 = .ok (.getfield 370, 3) := by decide +kernel
theorem dX12_findCounts_14 : decode cX12_findCounts 14 = .ok (.iload_n 1, 1) := by decide +kernel
theorem dX12_findCounts_15 : decode cX12_findCounts 15 = .ok (.aload_n 0, 1) := by decide +kernel
theorem dX12_findCounts_16 : decode cX12_findCounts 16 = .ok (.iload_n 1, 1) := by decide +kernel
theorem dX12_findCounts_17 : decode cX12_findCounts 17 = .ok (.invokevirtual 1033, 3) := by decide +kernel
theorem dX12_findCounts_20 : decode cX12_findCounts 20 = .ok (.ifCond .le 7, 3) := by decide +kernel
theorem dX12_findCounts_27 : decode cX12_findCounts 27 = .ok (.iconst 0, 1) := by decide +kernel
theorem dX12_findCounts_28 : decode cX12_findCounts 28 = .ok (.bastore, 1) := by decide +kernel
theorem dX12_findCounts_29 : decode cX12_findCounts 29 = .ok (.iinc 1 1, 3) := by decide +kernel
theorem dX12_findCounts_32 : decode cX12_findCounts 32 = .ok (.goto (-30), 3) := by decide +kernel
theorem dX12_findCounts_35 : decode cX12_findCounts 35 = .ok (.iconst 1, 1) := by decide +kernel
theorem dX12_findCounts_36 : decode cX12_findCounts 36 = .ok (.istore_n 1, 1) := by decide +kernel
theorem dX12_findCounts_37 : decode cX12_findCounts 37 = .ok (.iload_n 1, 1) := by decide +kernel
theorem dX12_findCounts_38 : decode cX12_findCounts 38 = .ok (.ifCond .eq 78, 3) := by decide +kernel
theorem dX12_findCounts_41 : decode cX12_findCounts 41 = .ok (.iconst 0, 1) := by decide +kernel
theorem dX12_findCounts_42 : decode cX12_findCounts 42 = .ok (.istore_n 1, 1) := by decide +kernel
theorem dX12_findCounts_43 : decode cX12_findCounts 43 = .ok (.aload_n 0, 1) := by decide +kernel
theorem dX12_findCounts_44 : decode cX12_findCounts 44 = .ok (.getfield 957, 3) := by decide +kernel
theorem dX12_findCounts_47 : decode cX12_findCounts 47 = .ok (.iconst 1, 1) := by decide +kernel
theorem dX12_findCounts_48 : decode cX12_findCounts 48 = .ok (.isub, 1) := by decide +kernel
theorem dX12_findCounts_49 : decode cX12_findCounts 49 = .ok (.istore_n 2, 1) := by decide +kernel
theorem dX12_findCounts_50 : decode cX12_findCounts 50 = .ok (.iload_n 2, 1) := by decide +kernel
theorem dX12_findCounts_51 : decode cX12_findCounts 51 = .ok (.ifCond .lt 62, 3) := by decide +kernel
theorem dX12_findCounts_54 : decode cX12_findCounts 54 = .ok (.iconst 0, 1) := by decide +kernel
theorem dX12_findCounts_55 : decode cX12_findCounts 55 = .ok (.istore_n 3, 1) := by decide +kernel
theorem dX12_findCounts_56 : decode cX12_findCounts 56 = .ok (.iload_n 3, 1) := by decide +kernel
theorem dX12_findCounts_57 : decode cX12_findCounts 57 = .ok (.aload_n 0, 1) := by decide +kernel
theorem dX12_findCounts_58 : decode cX12_findCounts 58 = .ok (.getfield 960, 3) := by decide +kernel
theorem dX12_findCounts_61 : decode cX12_findCounts 61 = .ok (.if_icmp .ge 46, 3) := by decide +kernel
theorem dX12_findCounts_64 : decode cX12_findCounts 64 = .ok (.aload_n 0, 1) := by decide +kernel
theorem dX12_findCounts_65 : decode cX12_findCounts 65 = .ok (.getfield 370, 3) := by decide +kernel
theorem dX12_findCounts_68 : decode cX12_findCounts 68 = .ok (.iload_n 2, 1) := by decide +kernel
theorem dX12_findCounts_69 : decode cX12_findCounts 69 = .ok (.baload, 1) := by decide +kernel
theorem dX12_findCounts_70 : decode cX12_findCounts 70 = .ok (.ifCond .ne 37, 3) := by decide +kernel
theorem dX12_findCounts_73 : decode cX12_findCounts 73 = .ok (.aload_n 0, 1) := by decide +kernel
theorem dX12_findCounts_74 : decode cX12_findCounts 74 = .ok (.getfield 370, 3) := by decide +kernel
theorem dX12_findCounts_77 : decode cX12_findCounts 77 = .ok (.aload_n 0, 1) := by decide +kernel
theorem dX12_findCounts_78 : decode cX12_findCounts 78 = .ok (.getfield 321, 3) := by decide +kernel
theorem dX12_findCounts_81 : decode cX12_findCounts 81 = .ok (.bipush 16, 2) := by decide +kernel
theorem dX12_findCounts_83 : decode cX12_findCounts 83 = .ok (.iload_n 2, 1) := by decide +kernel
theorem dX12_findCounts_84 : decode cX12_findCounts 84 = .ok (.imul, 1) := by decide +kernel
theorem dX12_findCounts_85 : decode cX12_findCounts 85 = .ok (.iload_n 3, 1) := by decide +kernel
theorem dX12_findCounts_86 : decode cX12_findCounts 86 = .ok (.iadd, 1) := by decide +kernel
theorem dX12_findCounts_87 : decode cX12_findCounts 87 = .ok (.iaload, 1) := by decide +kernel
theorem dX12_findCounts_88 : decode cX12_findCounts 88 = .ok (.baload, 1) := by decide +kernel
theorem dX12_findCounts_89 : decode cX12_findCounts 89 = .ok (.ifCond .eq 12, 3) := by decide +kernel
theorem dX12_findCounts_101 : decode cX12_findCounts 101 = .ok (.iinc 3 1, 3) := by decide +kernel
theorem dX12_findCounts_104 : decode cX12_findCounts 104 = .ok (.goto (-48), 3) := by decide +kernel
theorem dX12_findCounts_107 : decode cX12_findCounts 107 = .ok (.iinc 2 (-1), 3) := by decide +kernel
theorem dX12_findCounts_110 : decode cX12_findCounts 110 = .ok (.goto (-60), 3) := by decide +kernel
theorem dX12_findCounts_113 : decode cX12_findCounts 113 = .ok (.goto (-76), 3) := by decide +kernel
theorem dX12_findCounts_116 : decode cX12_findCounts 116 = .ok (.return_, 1) := by decide +kernel
theorem dX12_many_0 : decode cX12_many 0 = .ok (.aload_n 0, 1) := by decide +kernel
theorem dX12_many_1 : decode cX12_many 1 = .ok (.invokevirtual 871, 3) := by decide +kernel
theorem dX12_many_4 : decode cX12_many 4 = .ok (.ifCond .ne 6, 3) := by decide +kernel
theorem dX12_many_10 : decode cX12_many 10 = .ok (.aload_n 0, 1) := by decide +kernel
theorem dX12_many_11 : decode cX12_many 11 = .ok (.invokevirtual 982, 3) := by decide +kernel
theorem dX12_many_14 : decode cX12_many 14 = .ok (.aload_n 0, 1) := by decide +kernel
theorem dX12_many_15 : decode cX12_many 15 = .ok (.invokevirtual 985, 3) := by decide +kernel
theorem dX12_many_18 : decode cX12_many 18 = .ok (.ifCond .ne 6, 3) := by decide +kernel
theorem dX12_many_24 : decode cX12_many 24 = .ok (.aload_n 0, 1) := by decide +kernel
theorem dX12_many_25 : decode cX12_many 25 = .ok (.iconst 0, 1) := by decide +kernel
theorem dX12_many_26 : decode cX12_many 26 = .ok (.iconst 0, 1) := by decide +kernel
theorem dX12_many_27 : decode cX12_many 27 = .ok (.iconst (-1), 1) := by decide +kernel
theorem dX12_many_28 : decode cX12_many 28 = .ok (.invokevirtual 988, 3) := by decide +kernel
theorem dX12_many_31 : decode cX12_many 31 = .ok (.aload_n 0, 1) := by decide +kernel
theorem dX12_many_32 : decode cX12_many 32 = .ok (.invokevirtual 1036, 3) := by decide +kernel
theorem dX12_many_35 : decode cX12_many 35 = .ok (.iconst 0, 1) := by decide +kernel
theorem dX12_many_36 : decode cX12_many 36 = .ok (.istore_n 1, 1) := by decide +kernel
theorem dX12_many_37 : decode cX12_many 37 = .ok (.iconst 0, 1) := by decide +kernel
theorem dX12_many_38 : decode cX12_many 38 = .ok (.istore_n 2, 1) := by decide +kernel
theorem dX12_many_39 : decode cX12_many 39 = .ok (.iload_n 2, 1) := by decide +kernel
theorem dX12_many_40 : decode cX12_many 40 = .ok (.aload_n 0, 1) := by decide +kernel
theorem dX12_many_41 : decode cX12_many 41 = .ok (.getfield 957, 3) := by decide +kernel
theorem dX12_many_44 : decode cX12_many 44 = .ok (.if_icmp .ge 122, 3) := by decide +kernel
theorem dX12_many_47 : decode cX12_many 47 = .ok (.aload_n 0, 1) := by decide +kernel
theorem dX12_many_48 : decode cX12_many 48 = .ok (.getfield 364, 3) := by decide +kernel
theorem dX12_many_51 : decode cX12_many 51 = .ok (.iload_n 2, 1) := by decide +kernel
theorem dX12_many_52 : decode cX12_many 52 = .ok (.iconst 0, 1) := by decide +kernel
theorem dX12_many_53 : decode cX12_many 53 = .ok (.iastore, 1) := by decide +kernel
theorem dX12_many_54 : decode cX12_many 54 = .ok (.iconst 0, 1) := by decide +kernel
theorem dX12_many_55 : decode cX12_many 55 = .ok (.istore_n 3, 1) := by decide +kernel
theorem dX12_many_56 : decode cX12_many 56 = .ok (.iload_n 3, 1) := by decide +kernel
theorem dX12_many_57 : decode cX12_many 57 = .ok (.aload_n 0, 1) := by decide +kernel
theorem dX12_many_58 : decode cX12_many 58 = .ok (.getfield 960, 3) := by decide +kernel
theorem dX12_many_61 : decode cX12_many 61 = .ok (.if_icmp .ge 55, 3) := by decide +kernel
theorem dX12_many_64 : decode cX12_many 64 = .ok (.aload_n 0, 1) := by decide +kernel
theorem dX12_many_65 : decode cX12_many 65 = .ok (.getfield 370, 3) := by decide +kernel
theorem dX12_many_68 : decode cX12_many 68 = .ok (.iload_n 2, 1) := by decide +kernel
theorem dX12_many_69 : decode cX12_many 69 = .ok (.baload, 1) := by decide +kernel
theorem dX12_many_70 : decode cX12_many 70 = .ok (.ifCond .eq 46, 3) := by decide +kernel
theorem dX12_many_116 : decode cX12_many 116 = .ok (.iload_n 1, 1) := by decide +kernel
theorem dX12_many_117 : decode cX12_many 117 = .ok (.aload_n 0, 1) := by decide +kernel
theorem dX12_many_118 : decode cX12_many 118 = .ok (.getfield 370, 3) := by decide +kernel
theorem dX12_many_121 : decode cX12_many 121 = .ok (.iload_n 2, 1) := by decide +kernel
theorem dX12_many_122 : decode cX12_many 122 = .ok (.baload, 1) := by decide +kernel
theorem dX12_many_123 : decode cX12_many 123 = .ok (.ifCond .eq 7, 3) := by decide +kernel
theorem dX12_many_130 : decode cX12_many 130 = .ok (.iconst 0, 1) := by decide +kernel
theorem dX12_many_131 : decode cX12_many 131 = .ok (.iadd, 1) := by decide +kernel
theorem dX12_many_132 : decode cX12_many 132 = .ok (.istore_n 1, 1) := by decide +kernel
theorem dX12_many_133 : decode cX12_many 133 = .ok (.aload_n 0, 1) := by decide +kernel
theorem dX12_many_134 : decode cX12_many 134 = .ok (.getfield 373, 3) := by decide +kernel
theorem dX12_many_137 : decode cX12_many 137 = .ok (.iload_n 2, 1) := by decide +kernel
theorem dX12_many_138 : decode cX12_many 138 = .ok (.aload_n 0, 1) := by decide +kernel
theorem dX12_many_139 : decode cX12_many 139 = .ok (.getfield 370, 3) := by decide +kernel
theorem dX12_many_142 : decode cX12_many 142 = .ok (.iload_n 2, 1) := by decide +kernel
theorem dX12_many_143 : decode cX12_many 143 = .ok (.baload, 1) := by decide +kernel
theorem dX12_many_144 : decode cX12_many 144 = .ok (.ifCond .eq 7, 3) := by decide +kernel
theorem dX12_many_151 : decode cX12_many 151 = .ok (.iconst 1, 1) := by decide +kernel
theorem dX12_many_152 : decode cX12_many 152 = .ok (.iastore, 1) := by decide +kernel
theorem dX12_many_153 : decode cX12_many 153 = .ok (.aload_n 0, 1) := by decide +kernel
theorem dX12_many_154 : decode cX12_many 154 = .ok (.getfield 367, 3) := by decide +kernel
theorem dX12_many_157 : decode cX12_many 157 = .ok (.iload_n 2, 1) := by decide +kernel
theorem dX12_many_158 : decode cX12_many 158 = .ok (.lconst 0, 1) := by decide +kernel
theorem dX12_many_159 : decode cX12_many 159 = .ok (.lastore, 1) := by decide +kernel
theorem dX12_many_160 : decode cX12_many 160 = .ok (.iinc 2 1, 3) := by decide +kernel
theorem dX12_many_163 : decode cX12_many 163 = .ok (.goto (-124), 3) := by decide +kernel
theorem dX12_many_166 : decode cX12_many 166 = .ok (.iconst 1, 1) := by decide +kernel
theorem dX12_many_167 : decode cX12_many 167 = .ok (.istore_n 2, 1) := by decide +kernel
theorem dX12_many_168 : decode cX12_many 168 = .ok (.iload_n 2, 1) := by decide +kernel
theorem dX12_many_169 : decode cX12_many 169 = .ok (.ifCond .eq 204, 3) := by decide +kernel
theorem dX12_many_172 : decode cX12_many 172 = .ok (.iload_n 1, 1) := by decide +kernel
theorem dX12_many_173 : decode cX12_many 173 = .ok (.ifCond .le 200, 3) := by decide +kernel
theorem dX12_many_373 : decode cX12_many 373 = .ok (.iload_n 1, 1) := by decide +kernel
theorem dX12_many_374 : decode cX12_many 374 = .ok (.ifCond .le 6, 3) := by decide +kernel
theorem dX12_many_380 : decode cX12_many 380 = .ok (.aload_n 0, 1) := by decide +kernel
theorem dX12_many_381 : decode cX12_many 381 = .ok (.getfield 367, 3) := by decide +kernel
theorem dX12_many_384 : decode cX12_many 384 = .ok (.iconst 0, 1) := by decide +kernel
theorem dX12_many_385 : decode cX12_many 385 = .ok (.laload, 1) := by decide +kernel
theorem dX12_many_386 : decode cX12_many 386 = .ok (.lstore_n 3, 1) := by decide +kernel
theorem dX12_many_387 : decode cX12_many 387 = .ok (.iconst 0, 1) := by decide +kernel
theorem dX12_many_388 : decode cX12_many 388 = .ok (.istore 5, 2) := by decide +kernel
theorem dX12_many_390 : decode cX12_many 390 = .ok (.iload 5, 2) := by decide +kernel
theorem dX12_many_392 : decode cX12_many 392 = .ok (.aload_n 0, 1) := by decide +kernel
theorem dX12_many_393 : decode cX12_many 393 = .ok (.getfield 960, 3) := by decide +kernel
theorem dX12_many_396 : decode cX12_many 396 = .ok (.if_icmp .ge 24, 3) := by decide +kernel
theorem dX12_many_399 : decode cX12_many 399 = .ok (.lload_n 3, 1) := by decide +kernel
theorem dX12_many_400 : decode cX12_many 400 = .ok (.aload_n 0, 1) := by decide +kernel
theorem dX12_many_401 : decode cX12_many 401 = .ok (.getfield 334, 3) := by decide +kernel
theorem dX12_many_404 : decode cX12_many 404 = .ok (.iconst 0, 1) := by decide +kernel
theorem dX12_many_405 : decode cX12_many 405 = .ok (.iaload, 1) := by decide +kernel
theorem dX12_many_406 : decode cX12_many 406 = .ok (.iload 5, 2) := by decide +kernel
theorem dX12_many_408 : decode cX12_many 408 = .ok (.ishr, 1) := by decide +kernel
theorem dX12_many_409 : decode cX12_many 409 = .ok (.iconst 1, 1) := by decide +kernel
theorem dX12_many_410 : decode cX12_many 410 = .ok (.iand, 1) := by decide +kernel
theorem dX12_many_411 : decode cX12_many 411 = .ok (.i2l, 1) := by decide +kernel
theorem dX12_many_412 : decode cX12_many 412 = .ok (.ladd, 1) := by decide +kernel
theorem dX12_many_413 : decode cX12_many 413 = .ok (.lstore_n 3, 1) := by decide +kernel
theorem dX12_many_414 : decode cX12_many 414 = .ok (.iinc 5 1, 3) := by decide +kernel
theorem dX12_many_417 : decode cX12_many 417 = .ok (.goto (-27), 3) := by decide +kernel
theorem dX12_many_420 : decode cX12_many 420 = .ok (.lload_n 3, 1) := by decide +kernel
theorem dX12_many_421 : decode cX12_many 421 = .ok (.ldc2_w 1041, 3) := by decide +kernel
theorem dX12_many_424 : decode cX12_many 424 = .ok (.lcmp, 1) := by decide +kernel
theorem dX12_many_425 : decode cX12_many 425 = .ok (.ifCond .le 9, 3) := by decide +kernel
theorem dX12_many_434 : decode cX12_many 434 = .ok (.lload_n 3, 1) := by decide +kernel
theorem dX12_many_435 : decode cX12_many 435 = .ok (.l2i, 1) := by decide +kernel
theorem dX12_many_436 : decode cX12_many 436 = .ok (.ireturn, 1) := by decide +kernel
set_option maxHeartbeats 400000000 in
set_option maxRecDepth 100000 in
theorem c_X12_findCounts_0 (l : Launch) (E : kE) (D : va_G) (cI cJ cB cZ : ClassId) (h0 : Nat) (f0 : List Value) (h1 : Nat) (h2 : Nat) (h3 : Nat) (g0 : Nat → Int32) (g1 : Nat → Int32) (g2 : Nat → Int32) (e0 : f0[129]? = some (.int 1)) (e1 : f0[147]? = some (.ref h1)) (e2 : f0[131]? = some (.int 1)) (e3 : f0[132]? = some (.ref h2)) (e4 : f0[126]? = some (.ref h3)) (e5 : g0 0 = 0) (e6 : g1 0 = 1) : kV l E D (kT cI cJ cB cZ) yX12_findCounts vW_X12_findCounts ({ frames := 1, cells := 0, slots := 0, locals := 25 }) [.ref h0] [(h0, .inr (12, f0)), (h3, .inl (cI, 48000, .inl g0)), (h2, .inl (cI, 3000, .inl g1)), (h1, .inl (cZ, 3000, .inl g2))] (fun _ : Unit => [(h0, .inr (12, f0)), (h3, .inl (cI, 48000, .inl g0)), (h2, .inl (cI, 3000, .inl g1)), (h1, .inl (cZ, 3000, .inl (upd g2 0 0)))]) 0 0 := by
  intro sz
  refine Met.ofW (cc := cX12_findCounts) (maxL := 4) (ret := none) (by decide) rfl ?_
  intro p e s m args below meth c s₁ B hml hv
  obtain ⟨rfl, hsz, hP, hK, hD0, hN, hX⟩ := hv
  have hx := B.exec
  have hb := B.bytes
  have hr := B.returns
  have hts := atoms_spec (ws := vW_X12_findCounts) B.pre
  have hown : s.vm.findClass RX12 = some m.cls := findClass_of_methodNamed B.named
  have hlocks := B.notSynchronized
  have hin12 : ∀ w ∈ wsX120, w ∈ vW_X12_findCounts := u9_X12_findCounts_wsX120
  subst hsz
  have hD := hD0.self (sz := s.heap.size)
  have hAE := k_AE hD0 hX
  generalize hAe : va_A [(h0, .inr (12, f0)), (h3, .inl (cI, 48000, .inl g0)), (h2, .inl (cI, 3000, .inl g1)), (h1, .inl (cZ, 3000, .inl g2))] s.heap.size = A at hD hAE ⊢
  have hA : ∀ q : Nat, s.heap.size ≤ q → A q := fun q h => by rw [← hAe]; exact Or.inr h
  have hS : va_S A s.heap s.heap [] := va_S.rf
  have hP : va_P D vwCl [(h0, .inr (12, f0)), (h3, .inl (cI, 48000, .inl g0)), (h2, .inl (cI, 3000, .inl g1)), (h1, .inl (cZ, 3000, .inl g2))] s.heap := hP
  have hl := lv_entry ([.ref h0] : List Value) (n := 4) (Nat.le_of_ble_eq_true rfl)
  rw [lg_entry_eq]
  generalize (lg_sl ([.ref h0]) ++ List.replicate (4 - (lg_sl ([.ref h0])).length) Slot.unset).toArray = ls at hl ⊢
  have hl : lv_has ls 4 [(0, .ref h0)] := hl
  refine lv_iconst (v := 0) hx hb dX12_findCounts_0 (by decide) ?_
  refine lv_istore_n (lv' := [(1, .int 0), (0, .ref h0)]) hx hb dX12_findCounts_1 rfl hl (by decide) rfl (fun ls hl => ?_)
  refine lv_iload_n hx hb dX12_findCounts_2 rfl (lv_at hl 0 rfl) ?_
  refine lv_aload_n hx hb dX12_findCounts_3 rfl (lv_at hl 1 rfl) ?_
  refine k_get (D := D) (ci := 12) (v := .int 1) (N := 195) hx hb hts hin12 hown hK hP 0 rfl rfl (by decide) f9_12_129 (hts (.fieldLink RX12 957 "IntegerHouseModel" "places" "I") (o9_X12_findCounts _ (List.mem_of_getElem? (i := 0) rfl))) e0 dX12_findCounts_4 ?_
  refine lv_icmp_ge (tgt := 35) hx hb dX12_findCounts_7 (by decide) (fun c9 => absurd c9 (by decide)) (fun _ => ?_)
  refine lv_aload_n hx hb dX12_findCounts_10 rfl (lv_at hl 1 rfl) ?_
  refine k_get (D := D) (ci := 12) (v := .ref h1) (N := 195) hx hb hts hin12 hown hK hP 0 rfl rfl (by decide) f9_12_147 (hts (.fieldLink RX12 370 "IntegerHouseModel" "counts" "[Z") (o9_X12_findCounts _ (List.mem_of_getElem? (i := 1) rfl))) e1 dX12_findCounts_11 ?_
  refine lv_iload_n hx hb dX12_findCounts_14 rfl (lv_at hl 0 rfl) ?_
  refine lv_aload_n hx hb dX12_findCounts_15 rfl (lv_at hl 1 rfl) ?_
  refine lv_iload_n hx hb dX12_findCounts_16 rfl (lv_at hl 0 rfl) ?_
  refine k_cVi (As := [.int 0]) (rest := [.int 0, .ref h1]) (wc := [(h0, .inr (12, f0)), (h3, .inl (cI, 48000, .inl g0)), (h2, .inl (cI, 3000, .inl g1))]) (wr := [(h1, .inl (cZ, 3000, .inl g2))]) (w1 := [(h0, .inr (12, f0)), (h3, .inl (cI, 48000, .inl g0)), (h2, .inl (cI, 3000, .inl g1))]) ⟨hx, hb, hml, hown, hts⟩ hN hX hAE hK hP hD hS hA [0, 1, 2] [3] (ci := 12) rfl rfl rfl rfl (by decide +kernel) (by decide +kernel) (by decide +kernel) (c_X12_firstNews_0 l E D cI cJ cB cZ h0 f0 h2 h3 g0 g1 e2 e3 e4 e5 e6) (cwV 1 hts g9_X12_findCounts_X12_firstNews_1033 rfl rfl rfl (by decide +kernel) ⟨Nat.le_of_ble_eq_true rfl, Nat.le_of_ble_eq_true rfl⟩) rfl hl.1 (Nat.le_of_ble_eq_true rfl) dX12_findCounts_17 ⟨Nat.le_of_ble_eq_true rfl, Nat.le_of_ble_eq_true rfl⟩ (fun H locs hP hD hS => ?_)
  have hP : va_P D vwCl [(h1, .inl (cZ, 3000, .inl g2)), (h0, .inr (12, f0)), (h3, .inl (cI, 48000, .inl g0)), (h2, .inl (cI, 3000, .inl g1))] H := hP
  have hD : va_D A [(h1, .inl (cZ, 3000, .inl g2)), (h0, .inr (12, f0)), (h3, .inl (cI, 48000, .inl g0)), (h2, .inl (cI, 3000, .inl g1))] := hD
  refine lv_if_le (tgt := 27) hx hb dX12_findCounts_20 (by decide) (fun _ => ?_) (fun c9 => absurd (by decide) c9)
  refine lv_iconst (v := 0) hx hb dX12_findCounts_27 (by decide) ?_
  refine va_zast hx hb hK hP hD hS 0 3 rfl rfl (k_in (by decide)) dX12_findCounts_28 (fun H locs hP hD hS => ?_)
  have hP : va_P D vwCl [(h1, .inl (cZ, 3000, .inl (upd g2 0 0))), (h0, .inr (12, f0)), (h3, .inl (cI, 48000, .inl g0)), (h2, .inl (cI, 3000, .inl g1))] H := hP
  have hD : va_D A [(h1, .inl (cZ, 3000, .inl (upd g2 0 0))), (h0, .inr (12, f0)), (h3, .inl (cI, 48000, .inl g0)), (h2, .inl (cI, 3000, .inl g1))] := hD
  refine lv_iinc (v := 1) (lv' := [(1, .int 1), (0, .ref h0)]) hx hb dX12_findCounts_29 hl (k := 0) rfl (by decide) (by decide) rfl (fun ls hl => ?_)
  refine lv_goto (tgt := 2) hx hb dX12_findCounts_32 (by decide) ?_
  refine lv_iload_n hx hb dX12_findCounts_2 rfl (lv_at hl 0 rfl) ?_
  refine lv_aload_n hx hb dX12_findCounts_3 rfl (lv_at hl 1 rfl) ?_
  refine k_get (D := D) (ci := 12) (v := .int 1) (N := 195) hx hb hts hin12 hown hK hP 1 rfl rfl (by decide) f9_12_129 (hts (.fieldLink RX12 957 "IntegerHouseModel" "places" "I") (o9_X12_findCounts _ (List.mem_of_getElem? (i := 0) rfl))) e0 dX12_findCounts_4 ?_
  refine lv_icmp_ge (tgt := 35) hx hb dX12_findCounts_7 (by decide) (fun _ => ?_) (fun c9 => absurd (by decide) c9)
  refine lv_iconst (v := 1) hx hb dX12_findCounts_35 (by decide) ?_
  refine lv_istore_n (lv' := [(1, .int 1), (0, .ref h0)]) hx hb dX12_findCounts_36 rfl hl (by decide) rfl (fun ls hl => ?_)
  refine lv_iload_n hx hb dX12_findCounts_37 rfl (lv_at hl 0 rfl) ?_
  refine lv_if_eq (tgt := 116) hx hb dX12_findCounts_38 (by decide) (fun c9 => absurd c9 (by decide)) (fun _ => ?_)
  refine lv_iconst (v := 0) hx hb dX12_findCounts_41 (by decide) ?_
  refine lv_istore_n (lv' := [(1, .int 0), (0, .ref h0)]) hx hb dX12_findCounts_42 rfl hl (by decide) rfl (fun ls hl => ?_)
  refine lv_aload_n hx hb dX12_findCounts_43 rfl (lv_at hl 1 rfl) ?_
  refine k_get (D := D) (ci := 12) (v := .int 1) (N := 195) hx hb hts hin12 hown hK hP 1 rfl rfl (by decide) f9_12_129 (hts (.fieldLink RX12 957 "IntegerHouseModel" "places" "I") (o9_X12_findCounts _ (List.mem_of_getElem? (i := 0) rfl))) e0 dX12_findCounts_44 ?_
  refine lv_iconst (v := 1) hx hb dX12_findCounts_47 (by decide) ?_
  refine lv_isub hx hb dX12_findCounts_48 ?_
  refine k_topi (y := 0) (by decide) ?_
  refine lv_istore_n (lv' := [(2, .int 0), (1, .int 0), (0, .ref h0)]) hx hb dX12_findCounts_49 rfl hl (by decide) rfl (fun ls hl => ?_)
  refine lv_iload_n hx hb dX12_findCounts_50 rfl (lv_at hl 0 rfl) ?_
  refine lv_if_lt (tgt := 113) hx hb dX12_findCounts_51 (by decide) (fun c9 => absurd c9 (by decide)) (fun _ => ?_)
  refine lv_iconst (v := 0) hx hb dX12_findCounts_54 (by decide) ?_
  refine lv_istore_n (lv' := [(3, .int 0), (2, .int 0), (1, .int 0), (0, .ref h0)]) hx hb dX12_findCounts_55 rfl hl (by decide) rfl (fun ls hl => ?_)
  refine lv_iload_n hx hb dX12_findCounts_56 rfl (lv_at hl 0 rfl) ?_
  refine lv_aload_n hx hb dX12_findCounts_57 rfl (lv_at hl 3 rfl) ?_
  refine k_get (D := D) (ci := 12) (v := .int 1) (N := 195) hx hb hts hin12 hown hK hP 1 rfl rfl (by decide) f9_12_131 (hts (.fieldLink RX12 960 "IntegerHouseModel" "letters" "I") (o9_X12_findCounts _ (List.mem_of_getElem? (i := 6) rfl))) e2 dX12_findCounts_58 ?_
  refine lv_icmp_ge (tgt := 107) hx hb dX12_findCounts_61 (by decide) (fun c9 => absurd c9 (by decide)) (fun _ => ?_)
  refine lv_aload_n hx hb dX12_findCounts_64 rfl (lv_at hl 3 rfl) ?_
  refine k_get (D := D) (ci := 12) (v := .ref h1) (N := 195) hx hb hts hin12 hown hK hP 1 rfl rfl (by decide) f9_12_147 (hts (.fieldLink RX12 370 "IntegerHouseModel" "counts" "[Z") (o9_X12_findCounts _ (List.mem_of_getElem? (i := 1) rfl))) e1 dX12_findCounts_65 ?_
  refine lv_iload_n hx hb dX12_findCounts_68 rfl (lv_at hl 1 rfl) ?_
  refine va_zald hx hb hK hP 0 3 rfl rfl (k_in (by decide)) dX12_findCounts_69 ?_
  refine k_topi (y := 0) rfl ?_
  refine lv_if_ne (tgt := 107) hx hb dX12_findCounts_70 (by decide) (fun c9 => absurd (by decide) c9) (fun _ => ?_)
  refine lv_aload_n hx hb dX12_findCounts_73 rfl (lv_at hl 3 rfl) ?_
  refine k_get (D := D) (ci := 12) (v := .ref h1) (N := 195) hx hb hts hin12 hown hK hP 1 rfl rfl (by decide) f9_12_147 (hts (.fieldLink RX12 370 "IntegerHouseModel" "counts" "[Z") (o9_X12_findCounts _ (List.mem_of_getElem? (i := 1) rfl))) e1 dX12_findCounts_74 ?_
  refine lv_aload_n hx hb dX12_findCounts_77 rfl (lv_at hl 3 rfl) ?_
  refine k_get (D := D) (ci := 12) (v := .ref h3) (N := 195) hx hb hts hin12 hown hK hP 1 rfl rfl (by decide) f9_12_126 (hts (.fieldLink RX12 321 "IntegerHouseModel" "behind" "[I") (o9_X12_findCounts _ (List.mem_of_getElem? (i := 7) rfl))) e4 dX12_findCounts_78 ?_
  refine lv_bipush (v := 16) hx hb dX12_findCounts_81 (by decide) ?_
  refine lv_iload_n hx hb dX12_findCounts_83 rfl (lv_at hl 1 rfl) ?_
  refine lv_imul hx hb dX12_findCounts_84 ?_
  refine k_topi (y := 0) (by decide) ?_
  refine lv_iload_n hx hb dX12_findCounts_85 rfl (lv_at hl 0 rfl) ?_
  refine lv_iadd hx hb dX12_findCounts_86 ?_
  refine k_topi (y := 0) (by decide) ?_
  refine va_iald hx hb hK hP 2 0 rfl rfl (k_in (by decide)) dX12_findCounts_87 ?_
  refine k_topi (y := 0) e5 ?_
  refine va_zald hx hb hK hP 0 3 rfl rfl (k_in (by decide)) dX12_findCounts_88 ?_
  refine k_topi (y := 0) rfl ?_
  refine lv_if_eq (tgt := 101) hx hb dX12_findCounts_89 (by decide) (fun _ => ?_) (fun c9 => absurd (by decide) c9)
  refine lv_iinc (v := 1) (lv' := [(3, .int 1), (2, .int 0), (1, .int 0), (0, .ref h0)]) hx hb dX12_findCounts_101 hl (k := 0) rfl (by decide) (by decide) rfl (fun ls hl => ?_)
  refine lv_goto (tgt := 56) hx hb dX12_findCounts_104 (by decide) ?_
  refine lv_iload_n hx hb dX12_findCounts_56 rfl (lv_at hl 0 rfl) ?_
  refine lv_aload_n hx hb dX12_findCounts_57 rfl (lv_at hl 3 rfl) ?_
  refine k_get (D := D) (ci := 12) (v := .int 1) (N := 195) hx hb hts hin12 hown hK hP 1 rfl rfl (by decide) f9_12_131 (hts (.fieldLink RX12 960 "IntegerHouseModel" "letters" "I") (o9_X12_findCounts _ (List.mem_of_getElem? (i := 6) rfl))) e2 dX12_findCounts_58 ?_
  refine lv_icmp_ge (tgt := 107) hx hb dX12_findCounts_61 (by decide) (fun _ => ?_) (fun c9 => absurd (by decide) c9)
  refine lv_iinc (v := (-1)) (lv' := [(2, .int (-1)), (3, .int 1), (1, .int 0), (0, .ref h0)]) hx hb dX12_findCounts_107 hl (k := 1) rfl (by decide) (by decide) rfl (fun ls hl => ?_)
  refine lv_goto (tgt := 50) hx hb dX12_findCounts_110 (by decide) ?_
  refine lv_iload_n hx hb dX12_findCounts_50 rfl (lv_at hl 0 rfl) ?_
  refine lv_if_lt (tgt := 113) hx hb dX12_findCounts_51 (by decide) (fun _ => ?_) (fun c9 => absurd (by decide) c9)
  refine lv_goto (tgt := 37) hx hb dX12_findCounts_113 (by decide) ?_
  refine lv_iload_n hx hb dX12_findCounts_37 rfl (lv_at hl 2 rfl) ?_
  refine lv_if_eq (tgt := 116) hx hb dX12_findCounts_38 (by decide) (fun _ => ?_) (fun c9 => absurd (by decide) c9)
  have hP := hP.sub (ws' := [(h0, .inr (12, f0)), (h3, .inl (cI, 48000, .inl g0)), (h2, .inl (cI, 3000, .inl g1)), (h1, .inl (cZ, 3000, .inl (upd g2 0 0)))]) [1, 2, 3, 0] rfl
  have hD := hD.sub (ws' := [(h0, .inr (12, f0)), (h3, .inl (cI, 48000, .inl g0)), (h2, .inl (cI, 3000, .inl g1)), (h1, .inl (cZ, 3000, .inl (upd g2 0 0)))]) [1, 2, 3, 0] (by decide +kernel) rfl
  exact W.vret hx hb hr (fun t ht hW => ⟨⟨(), rfl, trivial, kB_mk ht hW hP hK hD⟩, hS.F ht⟩) hS.2.2 dX12_findCounts_116
set_option maxHeartbeats 400000000 in
set_option maxRecDepth 100000 in
theorem c_X12_many_0 (l : Launch) (E : kE) (D : va_G) (cI cJ cB cZ : ClassId) (h0 : Nat) (f0 : List Value) (h1 : Nat) (g0 : Nat → Int32) (h2 : Nat) (h3 : Nat) (h4 : Nat) (g1 : Nat → Int32) (g2 : Nat → Int32) (g3 : Nat → Int32) (h5 : Nat) (h6 : Nat) (h7 : Nat) (h8 : Nat) (g4 : Nat → Int32) (g5 : Nat → Int32) (g6 : Nat → Int32) (g7 : Nat → Int32) (h9 : Nat) (g8 : Nat → Int32) (h10 : Nat) (g9 : Nat → Int32) (h11 : Nat) (g10 : Nat → Int32) (h12 : Nat) (g11 : Nat → Int64) (e0 : f0[0]? = some (.int 0)) (e1 : f0[5]? = some (.int 0)) (e2 : f0[119]? = some (.int 0)) (e3 : f0[121]? = some (.ref h1)) (e4 : f0[33]? = some (.int 0)) (e5 : f0[32]? = some (.int 0)) (e6 : f0[131]? = some (.int 0)) (e7 : f0[127]? = some (.ref h2)) (e8 : f0[129]? = some (.int 0)) (e9 : f0[128]? = some (.ref h3)) (e10 : f0[126]? = some (.ref h4)) (e11 : f0[136]? = some (.ref h5)) (e12 : f0[132]? = some (.ref h6)) (e13 : f0[133]? = some (.ref h7)) (e14 : f0[135]? = some (.ref h8)) (e15 : f0[147]? = some (.ref h9)) (e16 : f0[145]? = some (.ref h10)) (e17 : f0[148]? = some (.ref h11)) (e18 : f0[146]? = some (.ref h12)) : kI l E D (kT cI cJ cB cZ) yX12_many vW_X12_many ({ frames := 2, cells := 0, slots := 0, locals := 51 }) [.ref h0] [(h0, .inr (12, f0)), (h1, .inl (cZ, 26, .inl g0)), (h2, .inl (cI, 32768, .inl g1)), (h3, .inl (cI, 3000, .inl g2)), (h4, .inl (cI, 48000, .inl g3)), (h5, .inl (cI, 4096, .inl g4)), (h6, .inl (cI, 3000, .inl g5)), (h7, .inl (cI, 3000, .inl g6)), (h8, .inl (cI, 4096, .inl g7)), (h9, .inl (cZ, 3000, .inl g8)), (h10, .inl (cI, 3000, .inl g9)), (h11, .inl (cI, 3000, .inl g10)), (h12, .inl (cJ, 3000, .inr (.inl g11)))] (1) [(h0, .inr (12, (((((f0.set 0 (.int 0)).set 119 (.int 0)).set 131 (.int 1)).set 129 (.int 0)).set 129 (.int 1)))), (h1, .inl (cZ, 26, .inl (upd (upd (upd (upd (upd (upd (upd (upd (upd (upd (upd (upd (upd (upd (upd (upd (upd (upd (upd (upd (upd (upd (upd (upd (upd (upd g0 0 0) 1 0) 2 0) 3 0) 4 0) 5 0) 6 0) 7 0) 8 0) 9 0) 10 0) 11 0) 12 0) 13 0) 14 0) 15 0) 16 0) 17 0) 18 0) 19 0) 20 0) 21 0) 22 0) 23 0) 24 0) 25 0))), (h2, .inl (cI, 32768, .inl (upd (k_fill (-1) 32768 g1) 17 0))), (h3, .inl (cI, 3000, .inl (upd g2 0 (-1)))), (h4, .inl (cI, 48000, .inl (upd g3 0 0))), (h5, .inl (cI, 4096, .inl (upd (k_fill (-1) 4096 g4) 0 1))), (h6, .inl (cI, 3000, .inl (upd (upd g5 0 0) 0 1))), (h7, .inl (cI, 3000, .inl (upd (upd g6 0 0) 0 0))), (h8, .inl (cI, 4096, .inl (upd g7 0 0))), (h9, .inl (cZ, 3000, .inl (upd g8 0 0))), (h10, .inl (cI, 3000, .inl (upd g9 0 0))), (h11, .inl (cI, 3000, .inl (upd g10 0 1))), (h12, .inl (cJ, 3000, .inr (.inl (vp_updL g11 0 0))))] 0 0 := by
  intro sz
  refine Met.ofW (cc := cX12_many) (maxL := 6) (ret := (some .int)) (by decide) rfl ?_
  intro p e s m args below meth c s₁ B hml hv
  obtain ⟨rfl, hsz, hP, hK, hD0, hN, hX⟩ := hv
  have hx := B.exec
  have hb := B.bytes
  have hr := B.returns
  have hts := atoms_spec (ws := vW_X12_many) B.pre
  have hown : s.vm.findClass RX12 = some m.cls := findClass_of_methodNamed B.named
  have hlocks := B.notSynchronized
  have hin12 : ∀ w ∈ wsX120, w ∈ vW_X12_many := u9_X12_many_wsX120
  subst hsz
  have hD := hD0.self (sz := s.heap.size)
  have hAE := k_AE hD0 hX
  generalize hAe : va_A [(h0, .inr (12, f0)), (h1, .inl (cZ, 26, .inl g0)), (h2, .inl (cI, 32768, .inl g1)), (h3, .inl (cI, 3000, .inl g2)), (h4, .inl (cI, 48000, .inl g3)), (h5, .inl (cI, 4096, .inl g4)), (h6, .inl (cI, 3000, .inl g5)), (h7, .inl (cI, 3000, .inl g6)), (h8, .inl (cI, 4096, .inl g7)), (h9, .inl (cZ, 3000, .inl g8)), (h10, .inl (cI, 3000, .inl g9)), (h11, .inl (cI, 3000, .inl g10)), (h12, .inl (cJ, 3000, .inr (.inl g11)))] s.heap.size = A at hD hAE ⊢
  have hA : ∀ q : Nat, s.heap.size ≤ q → A q := fun q h => by rw [← hAe]; exact Or.inr h
  have hS : va_S A s.heap s.heap [] := va_S.rf
  have hP : va_P D vwCl [(h0, .inr (12, f0)), (h1, .inl (cZ, 26, .inl g0)), (h2, .inl (cI, 32768, .inl g1)), (h3, .inl (cI, 3000, .inl g2)), (h4, .inl (cI, 48000, .inl g3)), (h5, .inl (cI, 4096, .inl g4)), (h6, .inl (cI, 3000, .inl g5)), (h7, .inl (cI, 3000, .inl g6)), (h8, .inl (cI, 4096, .inl g7)), (h9, .inl (cZ, 3000, .inl g8)), (h10, .inl (cI, 3000, .inl g9)), (h11, .inl (cI, 3000, .inl g10)), (h12, .inl (cJ, 3000, .inr (.inl g11)))] s.heap := hP
  have hl := lv_entry ([.ref h0] : List Value) (n := 6) (Nat.le_of_ble_eq_true rfl)
  rw [lg_entry_eq]
  generalize (lg_sl ([.ref h0]) ++ List.replicate (6 - (lg_sl ([.ref h0])).length) Slot.unset).toArray = ls at hl ⊢
  have hl : lv_has ls 6 [(0, .ref h0)] := hl
  refine lv_aload_n hx hb dX12_many_0 rfl (lv_at hl 0 rfl) ?_
  refine k_cVi (As := []) (rest := []) (wc := [(h0, .inr (12, f0))]) (wr := [(h1, .inl (cZ, 26, .inl g0)), (h2, .inl (cI, 32768, .inl g1)), (h3, .inl (cI, 3000, .inl g2)), (h4, .inl (cI, 48000, .inl g3)), (h5, .inl (cI, 4096, .inl g4)), (h6, .inl (cI, 3000, .inl g5)), (h7, .inl (cI, 3000, .inl g6)), (h8, .inl (cI, 4096, .inl g7)), (h9, .inl (cZ, 3000, .inl g8)), (h10, .inl (cI, 3000, .inl g9)), (h11, .inl (cI, 3000, .inl g10)), (h12, .inl (cJ, 3000, .inr (.inl g11)))]) (w1 := [(h0, .inr (12, (f0.set 0 (.int 0))))]) ⟨hx, hb, hml, hown, hts⟩ hN hX hAE hK hP hD hS hA [0] [1, 2, 3, 4, 5, 6, 7, 8, 9, 10, 11, 12] (ci := 12) rfl rfl rfl rfl (by decide +kernel) (by decide +kernel) (by decide +kernel) (c_X12_asks_0 l E D cI cJ cB cZ h0 f0 e0 e1) (cwV 0 hts g9_X12_many_X12_asks_871 rfl rfl rfl (by decide +kernel) ⟨Nat.le_of_ble_eq_true rfl, Nat.le_of_ble_eq_true rfl⟩) rfl hl.1 (Nat.le_of_ble_eq_true rfl) dX12_many_1 ⟨Nat.le_of_ble_eq_true rfl, Nat.le_of_ble_eq_true rfl⟩ (fun H locs hP hD hS => ?_)
  have hP : va_P D vwCl [(h1, .inl (cZ, 26, .inl g0)), (h2, .inl (cI, 32768, .inl g1)), (h3, .inl (cI, 3000, .inl g2)), (h4, .inl (cI, 48000, .inl g3)), (h5, .inl (cI, 4096, .inl g4)), (h6, .inl (cI, 3000, .inl g5)), (h7, .inl (cI, 3000, .inl g6)), (h8, .inl (cI, 4096, .inl g7)), (h9, .inl (cZ, 3000, .inl g8)), (h10, .inl (cI, 3000, .inl g9)), (h11, .inl (cI, 3000, .inl g10)), (h12, .inl (cJ, 3000, .inr (.inl g11))), (h0, .inr (12, (f0.set 0 (.int 0))))] H := hP
  have hD : va_D A [(h1, .inl (cZ, 26, .inl g0)), (h2, .inl (cI, 32768, .inl g1)), (h3, .inl (cI, 3000, .inl g2)), (h4, .inl (cI, 48000, .inl g3)), (h5, .inl (cI, 4096, .inl g4)), (h6, .inl (cI, 3000, .inl g5)), (h7, .inl (cI, 3000, .inl g6)), (h8, .inl (cI, 4096, .inl g7)), (h9, .inl (cZ, 3000, .inl g8)), (h10, .inl (cI, 3000, .inl g9)), (h11, .inl (cI, 3000, .inl g10)), (h12, .inl (cJ, 3000, .inr (.inl g11))), (h0, .inr (12, (f0.set 0 (.int 0))))] := hD
  refine lv_if_ne (tgt := 10) hx hb dX12_many_4 (by decide) (fun _ => ?_) (fun c9 => absurd c9 (by decide))
  refine lv_aload_n hx hb dX12_many_10 rfl (lv_at hl 0 rfl) ?_
  refine k_cVv (As := []) (rest := []) (wc := [(h0, .inr (12, (f0.set 0 (.int 0)))), (h1, .inl (cZ, 26, .inl g0))]) (wr := [(h2, .inl (cI, 32768, .inl g1)), (h3, .inl (cI, 3000, .inl g2)), (h4, .inl (cI, 48000, .inl g3)), (h5, .inl (cI, 4096, .inl g4)), (h6, .inl (cI, 3000, .inl g5)), (h7, .inl (cI, 3000, .inl g6)), (h8, .inl (cI, 4096, .inl g7)), (h9, .inl (cZ, 3000, .inl g8)), (h10, .inl (cI, 3000, .inl g9)), (h11, .inl (cI, 3000, .inl g10)), (h12, .inl (cJ, 3000, .inr (.inl g11)))]) (w1 := (fun _ : Unit => [(h0, .inr (12, ((f0.set 0 (.int 0)).set 119 (.int 0)))), (h1, .inl (cZ, 26, .inl (upd (upd (upd (upd (upd (upd (upd (upd (upd (upd (upd (upd (upd (upd (upd (upd (upd (upd (upd (upd (upd (upd (upd (upd (upd (upd g0 0 0) 1 0) 2 0) 3 0) 4 0) 5 0) 6 0) 7 0) 8 0) 9 0) 10 0) 11 0) 12 0) 13 0) 14 0) 15 0) 16 0) 17 0) 18 0) 19 0) 20 0) 21 0) 22 0) 23 0) 24 0) 25 0)))])) ⟨hx, hb, hml, hown, hts⟩ hN hX hAE hK hP hD hS hA [12, 0] [1, 2, 3, 4, 5, 6, 7, 8, 9, 10, 11] (ci := 12) rfl rfl rfl rfl (by decide +kernel) (by decide +kernel) (by decide +kernel) (c_X12_putOn_0 l E D cI cJ cB cZ h0 ((f0.set 0 (.int 0))) h1 g0 (k_ne (by decide) e2) (k_ne (by decide) e3) (k_ne (by decide) e4)) (cwV 0 hts g9_X12_many_X12_putOn_982 rfl rfl rfl (by decide +kernel) ⟨Nat.le_of_ble_eq_true rfl, Nat.le_of_ble_eq_true rfl⟩) rfl hl.1 (Nat.le_of_ble_eq_true rfl) dX12_many_11 ⟨Nat.le_of_ble_eq_true rfl, Nat.le_of_ble_eq_true rfl⟩ (fun _ H locs hP hD hS => ?_)
  have hP : va_P D vwCl [(h2, .inl (cI, 32768, .inl g1)), (h3, .inl (cI, 3000, .inl g2)), (h4, .inl (cI, 48000, .inl g3)), (h5, .inl (cI, 4096, .inl g4)), (h6, .inl (cI, 3000, .inl g5)), (h7, .inl (cI, 3000, .inl g6)), (h8, .inl (cI, 4096, .inl g7)), (h9, .inl (cZ, 3000, .inl g8)), (h10, .inl (cI, 3000, .inl g9)), (h11, .inl (cI, 3000, .inl g10)), (h12, .inl (cJ, 3000, .inr (.inl g11))), (h0, .inr (12, ((f0.set 0 (.int 0)).set 119 (.int 0)))), (h1, .inl (cZ, 26, .inl (upd (upd (upd (upd (upd (upd (upd (upd (upd (upd (upd (upd (upd (upd (upd (upd (upd (upd (upd (upd (upd (upd (upd (upd (upd (upd g0 0 0) 1 0) 2 0) 3 0) 4 0) 5 0) 6 0) 7 0) 8 0) 9 0) 10 0) 11 0) 12 0) 13 0) 14 0) 15 0) 16 0) 17 0) 18 0) 19 0) 20 0) 21 0) 22 0) 23 0) 24 0) 25 0)))] H := hP
  have hD : va_D A [(h2, .inl (cI, 32768, .inl g1)), (h3, .inl (cI, 3000, .inl g2)), (h4, .inl (cI, 48000, .inl g3)), (h5, .inl (cI, 4096, .inl g4)), (h6, .inl (cI, 3000, .inl g5)), (h7, .inl (cI, 3000, .inl g6)), (h8, .inl (cI, 4096, .inl g7)), (h9, .inl (cZ, 3000, .inl g8)), (h10, .inl (cI, 3000, .inl g9)), (h11, .inl (cI, 3000, .inl g10)), (h12, .inl (cJ, 3000, .inr (.inl g11))), (h0, .inr (12, ((f0.set 0 (.int 0)).set 119 (.int 0)))), (h1, .inl (cZ, 26, .inl (upd (upd (upd (upd (upd (upd (upd (upd (upd (upd (upd (upd (upd (upd (upd (upd (upd (upd (upd (upd (upd (upd (upd (upd (upd (upd g0 0 0) 1 0) 2 0) 3 0) 4 0) 5 0) 6 0) 7 0) 8 0) 9 0) 10 0) 11 0) 12 0) 13 0) 14 0) 15 0) 16 0) 17 0) 18 0) 19 0) 20 0) 21 0) 22 0) 23 0) 24 0) 25 0)))] := hD
  refine lv_aload_n hx hb dX12_many_14 rfl (lv_at hl 0 rfl) ?_
  refine k_cVi (As := []) (rest := []) (wc := [(h0, .inr (12, ((f0.set 0 (.int 0)).set 119 (.int 0)))), (h1, .inl (cZ, 26, .inl (upd (upd (upd (upd (upd (upd (upd (upd (upd (upd (upd (upd (upd (upd (upd (upd (upd (upd (upd (upd (upd (upd (upd (upd (upd (upd g0 0 0) 1 0) 2 0) 3 0) 4 0) 5 0) 6 0) 7 0) 8 0) 9 0) 10 0) 11 0) 12 0) 13 0) 14 0) 15 0) 16 0) 17 0) 18 0) 19 0) 20 0) 21 0) 22 0) 23 0) 24 0) 25 0))), (h2, .inl (cI, 32768, .inl g1)), (h3, .inl (cI, 3000, .inl g2)), (h4, .inl (cI, 48000, .inl g3))]) (wr := [(h5, .inl (cI, 4096, .inl g4)), (h6, .inl (cI, 3000, .inl g5)), (h7, .inl (cI, 3000, .inl g6)), (h8, .inl (cI, 4096, .inl g7)), (h9, .inl (cZ, 3000, .inl g8)), (h10, .inl (cI, 3000, .inl g9)), (h11, .inl (cI, 3000, .inl g10)), (h12, .inl (cJ, 3000, .inr (.inl g11)))]) (w1 := [(h0, .inr (12, (((((f0.set 0 (.int 0)).set 119 (.int 0)).set 131 (.int 1)).set 129 (.int 0)).set 129 (.int 1)))), (h1, .inl (cZ, 26, .inl (upd (upd (upd (upd (upd (upd (upd (upd (upd (upd (upd (upd (upd (upd (upd (upd (upd (upd (upd (upd (upd (upd (upd (upd (upd (upd g0 0 0) 1 0) 2 0) 3 0) 4 0) 5 0) 6 0) 7 0) 8 0) 9 0) 10 0) 11 0) 12 0) 13 0) 14 0) 15 0) 16 0) 17 0) 18 0) 19 0) 20 0) 21 0) 22 0) 23 0) 24 0) 25 0))), (h2, .inl (cI, 32768, .inl (upd (k_fill (-1) 32768 g1) 17 0))), (h3, .inl (cI, 3000, .inl (upd g2 0 (-1)))), (h4, .inl (cI, 48000, .inl (upd g3 0 0)))]) ⟨hx, hb, hml, hown, hts⟩ hN hX hAE hK hP hD hS hA [11, 12, 0, 1, 2] [3, 4, 5, 6, 7, 8, 9, 10] (ci := 12) rfl rfl rfl rfl (by decide +kernel) (by decide +kernel) (by decide +kernel) (c_X12_explore_0 l E D cI cJ cB cZ h0 (((f0.set 0 (.int 0)).set 119 (.int 0))) h1 ((upd (upd (upd (upd (upd (upd (upd (upd (upd (upd (upd (upd (upd (upd (upd (upd (upd (upd (upd (upd (upd (upd (upd (upd (upd (upd g0 0 0) 1 0) 2 0) 3 0) 4 0) 5 0) 6 0) 7 0) 8 0) 9 0) 10 0) 11 0) 12 0) 13 0) 14 0) 15 0) 16 0) 17 0) 18 0) 19 0) 20 0) 21 0) 22 0) 23 0) 24 0) 25 0)) h2 g1 h3 g2 h4 g3 (k_set (k_ne (by decide) e2)) (k_ne (by decide) (k_ne (by decide) e3)) rfl rfl rfl rfl rfl rfl rfl rfl rfl rfl rfl rfl rfl rfl rfl rfl rfl rfl rfl rfl rfl rfl rfl rfl rfl (k_ne (by decide) (k_ne (by decide) e5)) (k_ne (by decide) (k_ne (by decide) e6)) (k_ne (by decide) (k_ne (by decide) e7)) (k_ne (by decide) (k_ne (by decide) e8)) (k_ne (by decide) (k_ne (by decide) e9)) (k_ne (by decide) (k_ne (by decide) e10))) (cwV 0 hts g9_X12_many_X12_explore_985 rfl rfl rfl (by decide +kernel) ⟨Nat.le_of_ble_eq_true rfl, Nat.le_of_ble_eq_true rfl⟩) rfl hl.1 (Nat.le_of_ble_eq_true rfl) dX12_many_15 ⟨Nat.le_of_ble_eq_true rfl, Nat.le_of_ble_eq_true rfl⟩ (fun H locs hP hD hS => ?_)
  have hP : va_P D vwCl [(h5, .inl (cI, 4096, .inl g4)), (h6, .inl (cI, 3000, .inl g5)), (h7, .inl (cI, 3000, .inl g6)), (h8, .inl (cI, 4096, .inl g7)), (h9, .inl (cZ, 3000, .inl g8)), (h10, .inl (cI, 3000, .inl g9)), (h11, .inl (cI, 3000, .inl g10)), (h12, .inl (cJ, 3000, .inr (.inl g11))), (h0, .inr (12, (((((f0.set 0 (.int 0)).set 119 (.int 0)).set 131 (.int 1)).set 129 (.int 0)).set 129 (.int 1)))), (h1, .inl (cZ, 26, .inl (upd (upd (upd (upd (upd (upd (upd (upd (upd (upd (upd (upd (upd (upd (upd (upd (upd (upd (upd (upd (upd (upd (upd (upd (upd (upd g0 0 0) 1 0) 2 0) 3 0) 4 0) 5 0) 6 0) 7 0) 8 0) 9 0) 10 0) 11 0) 12 0) 13 0) 14 0) 15 0) 16 0) 17 0) 18 0) 19 0) 20 0) 21 0) 22 0) 23 0) 24 0) 25 0))), (h2, .inl (cI, 32768, .inl (upd (k_fill (-1) 32768 g1) 17 0))), (h3, .inl (cI, 3000, .inl (upd g2 0 (-1)))), (h4, .inl (cI, 48000, .inl (upd g3 0 0)))] H := hP
  have hD : va_D A [(h5, .inl (cI, 4096, .inl g4)), (h6, .inl (cI, 3000, .inl g5)), (h7, .inl (cI, 3000, .inl g6)), (h8, .inl (cI, 4096, .inl g7)), (h9, .inl (cZ, 3000, .inl g8)), (h10, .inl (cI, 3000, .inl g9)), (h11, .inl (cI, 3000, .inl g10)), (h12, .inl (cJ, 3000, .inr (.inl g11))), (h0, .inr (12, (((((f0.set 0 (.int 0)).set 119 (.int 0)).set 131 (.int 1)).set 129 (.int 0)).set 129 (.int 1)))), (h1, .inl (cZ, 26, .inl (upd (upd (upd (upd (upd (upd (upd (upd (upd (upd (upd (upd (upd (upd (upd (upd (upd (upd (upd (upd (upd (upd (upd (upd (upd (upd g0 0 0) 1 0) 2 0) 3 0) 4 0) 5 0) 6 0) 7 0) 8 0) 9 0) 10 0) 11 0) 12 0) 13 0) 14 0) 15 0) 16 0) 17 0) 18 0) 19 0) 20 0) 21 0) 22 0) 23 0) 24 0) 25 0))), (h2, .inl (cI, 32768, .inl (upd (k_fill (-1) 32768 g1) 17 0))), (h3, .inl (cI, 3000, .inl (upd g2 0 (-1)))), (h4, .inl (cI, 48000, .inl (upd g3 0 0)))] := hD
  refine lv_if_ne (tgt := 24) hx hb dX12_many_18 (by decide) (fun _ => ?_) (fun c9 => absurd c9 (by decide))
  refine lv_aload_n hx hb dX12_many_24 rfl (lv_at hl 0 rfl) ?_
  refine lv_iconst (v := 0) hx hb dX12_many_25 (by decide) ?_
  refine lv_iconst (v := 0) hx hb dX12_many_26 (by decide) ?_
  refine lv_iconst (v := (-1)) hx hb dX12_many_27 (by decide) ?_
  refine k_cVv (As := [.int 0, .int 0, .int (-1)]) (rest := []) (wc := [(h0, .inr (12, (((((f0.set 0 (.int 0)).set 119 (.int 0)).set 131 (.int 1)).set 129 (.int 0)).set 129 (.int 1)))), (h5, .inl (cI, 4096, .inl g4)), (h6, .inl (cI, 3000, .inl g5)), (h7, .inl (cI, 3000, .inl g6)), (h1, .inl (cZ, 26, .inl (upd (upd (upd (upd (upd (upd (upd (upd (upd (upd (upd (upd (upd (upd (upd (upd (upd (upd (upd (upd (upd (upd (upd (upd (upd (upd g0 0 0) 1 0) 2 0) 3 0) 4 0) 5 0) 6 0) 7 0) 8 0) 9 0) 10 0) 11 0) 12 0) 13 0) 14 0) 15 0) 16 0) 17 0) 18 0) 19 0) 20 0) 21 0) 22 0) 23 0) 24 0) 25 0))), (h8, .inl (cI, 4096, .inl g7))]) (wr := [(h9, .inl (cZ, 3000, .inl g8)), (h10, .inl (cI, 3000, .inl g9)), (h11, .inl (cI, 3000, .inl g10)), (h12, .inl (cJ, 3000, .inr (.inl g11))), (h2, .inl (cI, 32768, .inl (upd (k_fill (-1) 32768 g1) 17 0))), (h3, .inl (cI, 3000, .inl (upd g2 0 (-1)))), (h4, .inl (cI, 48000, .inl (upd g3 0 0)))]) (w1 := (fun _ : Unit => [(h0, .inr (12, (((((f0.set 0 (.int 0)).set 119 (.int 0)).set 131 (.int 1)).set 129 (.int 0)).set 129 (.int 1)))), (h5, .inl (cI, 4096, .inl (upd (k_fill (-1) 4096 g4) 0 1))), (h6, .inl (cI, 3000, .inl (upd (upd g5 0 0) 0 1))), (h7, .inl (cI, 3000, .inl (upd (upd g6 0 0) 0 0))), (h1, .inl (cZ, 26, .inl (upd (upd (upd (upd (upd (upd (upd (upd (upd (upd (upd (upd (upd (upd (upd (upd (upd (upd (upd (upd (upd (upd (upd (upd (upd (upd g0 0 0) 1 0) 2 0) 3 0) 4 0) 5 0) 6 0) 7 0) 8 0) 9 0) 10 0) 11 0) 12 0) 13 0) 14 0) 15 0) 16 0) 17 0) 18 0) 19 0) 20 0) 21 0) 22 0) 23 0) 24 0) 25 0))), (h8, .inl (cI, 4096, .inl (upd g7 0 0)))])) ⟨hx, hb, hml, hown, hts⟩ hN hX hAE hK hP hD hS hA [8, 0, 1, 2, 9, 3] [4, 5, 6, 7, 10, 11, 12] (ci := 12) rfl rfl rfl rfl (by decide +kernel) (by decide +kernel) (by decide +kernel) (c_X12_judge_0 l E D cI cJ cB cZ h0 ((((((f0.set 0 (.int 0)).set 119 (.int 0)).set 131 (.int 1)).set 129 (.int 0)).set 129 (.int 1))) h5 g4 h6 g5 h7 g6 h1 ((upd (upd (upd (upd (upd (upd (upd (upd (upd (upd (upd (upd (upd (upd (upd (upd (upd (upd (upd (upd (upd (upd (upd (upd (upd (upd g0 0 0) 1 0) 2 0) 3 0) 4 0) 5 0) 6 0) 7 0) 8 0) 9 0) 10 0) 11 0) 12 0) 13 0) 14 0) 15 0) 16 0) 17 0) 18 0) 19 0) 20 0) 21 0) 22 0) 23 0) 24 0) 25 0)) h8 g7 (k_ne (by decide) (k_ne (by decide) (k_ne (by decide) (k_ne (by decide) (k_ne (by decide) e11))))) (k_set (k_set (k_ne (by decide) (k_ne (by decide) (k_ne (by decide) e8))))) (k_ne (by decide) (k_ne (by decide) (k_ne (by decide) (k_ne (by decide) (k_ne (by decide) e12))))) (k_ne (by decide) (k_ne (by decide) (k_ne (by decide) (k_ne (by decide) (k_ne (by decide) e13))))) (k_ne (by decide) (k_ne (by decide) (k_set (k_ne (by decide) (k_ne (by decide) e6))))) (k_ne (by decide) (k_ne (by decide) (k_ne (by decide) (k_set (k_ne (by decide) e2))))) (k_ne (by decide) (k_ne (by decide) (k_ne (by decide) (k_ne (by decide) (k_ne (by decide) e3))))) rfl rfl rfl rfl rfl rfl rfl rfl rfl rfl rfl rfl rfl rfl rfl rfl rfl rfl rfl rfl rfl rfl rfl rfl rfl (k_ne (by decide) (k_ne (by decide) (k_ne (by decide) (k_ne (by decide) (k_ne (by decide) e14))))) (k_ne (by decide) (k_ne (by decide) (k_ne (by decide) (k_ne (by decide) (k_ne (by decide) e4)))))) (cwV 3 hts g9_X12_many_X12_judge_988 rfl rfl rfl (by decide +kernel) ⟨Nat.le_of_ble_eq_true rfl, Nat.le_of_ble_eq_true rfl⟩) rfl hl.1 (Nat.le_of_ble_eq_true rfl) dX12_many_28 ⟨Nat.le_of_ble_eq_true rfl, Nat.le_of_ble_eq_true rfl⟩ (fun _ H locs hP hD hS => ?_)
  have hP : va_P D vwCl [(h9, .inl (cZ, 3000, .inl g8)), (h10, .inl (cI, 3000, .inl g9)), (h11, .inl (cI, 3000, .inl g10)), (h12, .inl (cJ, 3000, .inr (.inl g11))), (h2, .inl (cI, 32768, .inl (upd (k_fill (-1) 32768 g1) 17 0))), (h3, .inl (cI, 3000, .inl (upd g2 0 (-1)))), (h4, .inl (cI, 48000, .inl (upd g3 0 0))), (h0, .inr (12, (((((f0.set 0 (.int 0)).set 119 (.int 0)).set 131 (.int 1)).set 129 (.int 0)).set 129 (.int 1)))), (h5, .inl (cI, 4096, .inl (upd (k_fill (-1) 4096 g4) 0 1))), (h6, .inl (cI, 3000, .inl (upd (upd g5 0 0) 0 1))), (h7, .inl (cI, 3000, .inl (upd (upd g6 0 0) 0 0))), (h1, .inl (cZ, 26, .inl (upd (upd (upd (upd (upd (upd (upd (upd (upd (upd (upd (upd (upd (upd (upd (upd (upd (upd (upd (upd (upd (upd (upd (upd (upd (upd g0 0 0) 1 0) 2 0) 3 0) 4 0) 5 0) 6 0) 7 0) 8 0) 9 0) 10 0) 11 0) 12 0) 13 0) 14 0) 15 0) 16 0) 17 0) 18 0) 19 0) 20 0) 21 0) 22 0) 23 0) 24 0) 25 0))), (h8, .inl (cI, 4096, .inl (upd g7 0 0)))] H := hP
  have hD : va_D A [(h9, .inl (cZ, 3000, .inl g8)), (h10, .inl (cI, 3000, .inl g9)), (h11, .inl (cI, 3000, .inl g10)), (h12, .inl (cJ, 3000, .inr (.inl g11))), (h2, .inl (cI, 32768, .inl (upd (k_fill (-1) 32768 g1) 17 0))), (h3, .inl (cI, 3000, .inl (upd g2 0 (-1)))), (h4, .inl (cI, 48000, .inl (upd g3 0 0))), (h0, .inr (12, (((((f0.set 0 (.int 0)).set 119 (.int 0)).set 131 (.int 1)).set 129 (.int 0)).set 129 (.int 1)))), (h5, .inl (cI, 4096, .inl (upd (k_fill (-1) 4096 g4) 0 1))), (h6, .inl (cI, 3000, .inl (upd (upd g5 0 0) 0 1))), (h7, .inl (cI, 3000, .inl (upd (upd g6 0 0) 0 0))), (h1, .inl (cZ, 26, .inl (upd (upd (upd (upd (upd (upd (upd (upd (upd (upd (upd (upd (upd (upd (upd (upd (upd (upd (upd (upd (upd (upd (upd (upd (upd (upd g0 0 0) 1 0) 2 0) 3 0) 4 0) 5 0) 6 0) 7 0) 8 0) 9 0) 10 0) 11 0) 12 0) 13 0) 14 0) 15 0) 16 0) 17 0) 18 0) 19 0) 20 0) 21 0) 22 0) 23 0) 24 0) 25 0))), (h8, .inl (cI, 4096, .inl (upd g7 0 0)))] := hD
  refine lv_aload_n hx hb dX12_many_31 rfl (lv_at hl 0 rfl) ?_
  refine k_cVv (As := []) (rest := []) (wc := [(h0, .inr (12, (((((f0.set 0 (.int 0)).set 119 (.int 0)).set 131 (.int 1)).set 129 (.int 0)).set 129 (.int 1)))), (h4, .inl (cI, 48000, .inl (upd g3 0 0))), (h6, .inl (cI, 3000, .inl (upd (upd g5 0 0) 0 1))), (h9, .inl (cZ, 3000, .inl g8))]) (wr := [(h10, .inl (cI, 3000, .inl g9)), (h11, .inl (cI, 3000, .inl g10)), (h12, .inl (cJ, 3000, .inr (.inl g11))), (h2, .inl (cI, 32768, .inl (upd (k_fill (-1) 32768 g1) 17 0))), (h3, .inl (cI, 3000, .inl (upd g2 0 (-1)))), (h5, .inl (cI, 4096, .inl (upd (k_fill (-1) 4096 g4) 0 1))), (h7, .inl (cI, 3000, .inl (upd (upd g6 0 0) 0 0))), (h1, .inl (cZ, 26, .inl (upd (upd (upd (upd (upd (upd (upd (upd (upd (upd (upd (upd (upd (upd (upd (upd (upd (upd (upd (upd (upd (upd (upd (upd (upd (upd g0 0 0) 1 0) 2 0) 3 0) 4 0) 5 0) 6 0) 7 0) 8 0) 9 0) 10 0) 11 0) 12 0) 13 0) 14 0) 15 0) 16 0) 17 0) 18 0) 19 0) 20 0) 21 0) 22 0) 23 0) 24 0) 25 0))), (h8, .inl (cI, 4096, .inl (upd g7 0 0)))]) (w1 := (fun _ : Unit => [(h0, .inr (12, (((((f0.set 0 (.int 0)).set 119 (.int 0)).set 131 (.int 1)).set 129 (.int 0)).set 129 (.int 1)))), (h4, .inl (cI, 48000, .inl (upd g3 0 0))), (h6, .inl (cI, 3000, .inl (upd (upd g5 0 0) 0 1))), (h9, .inl (cZ, 3000, .inl (upd g8 0 0)))])) ⟨hx, hb, hml, hown, hts⟩ hN hX hAE hK hP hD hS hA [7, 6, 9, 0] [1, 2, 3, 4, 5, 8, 10, 11, 12] (ci := 12) rfl rfl rfl rfl (by decide +kernel) (by decide +kernel) (by decide +kernel) (c_X12_findCounts_0 l E D cI cJ cB cZ h0 ((((((f0.set 0 (.int 0)).set 119 (.int 0)).set 131 (.int 1)).set 129 (.int 0)).set 129 (.int 1))) h9 h6 h4 ((upd g3 0 0)) ((upd (upd g5 0 0) 0 1)) g8 (k_set (k_set (k_ne (by decide) (k_ne (by decide) (k_ne (by decide) e8))))) (k_ne (by decide) (k_ne (by decide) (k_ne (by decide) (k_ne (by decide) (k_ne (by decide) e15))))) (k_ne (by decide) (k_ne (by decide) (k_set (k_ne (by decide) (k_ne (by decide) e6))))) (k_ne (by decide) (k_ne (by decide) (k_ne (by decide) (k_ne (by decide) (k_ne (by decide) e12))))) (k_ne (by decide) (k_ne (by decide) (k_ne (by decide) (k_ne (by decide) (k_ne (by decide) e10))))) rfl rfl) (cwV 0 hts g9_X12_many_X12_findCounts_1036 rfl rfl rfl (by decide +kernel) ⟨Nat.le_of_ble_eq_true rfl, Nat.le_of_ble_eq_true rfl⟩) rfl hl.1 (Nat.le_of_ble_eq_true rfl) dX12_many_32 ⟨Nat.le_of_ble_eq_true rfl, Nat.le_of_ble_eq_true rfl⟩ (fun _ H locs hP hD hS => ?_)
  have hP : va_P D vwCl [(h10, .inl (cI, 3000, .inl g9)), (h11, .inl (cI, 3000, .inl g10)), (h12, .inl (cJ, 3000, .inr (.inl g11))), (h2, .inl (cI, 32768, .inl (upd (k_fill (-1) 32768 g1) 17 0))), (h3, .inl (cI, 3000, .inl (upd g2 0 (-1)))), (h5, .inl (cI, 4096, .inl (upd (k_fill (-1) 4096 g4) 0 1))), (h7, .inl (cI, 3000, .inl (upd (upd g6 0 0) 0 0))), (h1, .inl (cZ, 26, .inl (upd (upd (upd (upd (upd (upd (upd (upd (upd (upd (upd (upd (upd (upd (upd (upd (upd (upd (upd (upd (upd (upd (upd (upd (upd (upd g0 0 0) 1 0) 2 0) 3 0) 4 0) 5 0) 6 0) 7 0) 8 0) 9 0) 10 0) 11 0) 12 0) 13 0) 14 0) 15 0) 16 0) 17 0) 18 0) 19 0) 20 0) 21 0) 22 0) 23 0) 24 0) 25 0))), (h8, .inl (cI, 4096, .inl (upd g7 0 0))), (h0, .inr (12, (((((f0.set 0 (.int 0)).set 119 (.int 0)).set 131 (.int 1)).set 129 (.int 0)).set 129 (.int 1)))), (h4, .inl (cI, 48000, .inl (upd g3 0 0))), (h6, .inl (cI, 3000, .inl (upd (upd g5 0 0) 0 1))), (h9, .inl (cZ, 3000, .inl (upd g8 0 0)))] H := hP
  have hD : va_D A [(h10, .inl (cI, 3000, .inl g9)), (h11, .inl (cI, 3000, .inl g10)), (h12, .inl (cJ, 3000, .inr (.inl g11))), (h2, .inl (cI, 32768, .inl (upd (k_fill (-1) 32768 g1) 17 0))), (h3, .inl (cI, 3000, .inl (upd g2 0 (-1)))), (h5, .inl (cI, 4096, .inl (upd (k_fill (-1) 4096 g4) 0 1))), (h7, .inl (cI, 3000, .inl (upd (upd g6 0 0) 0 0))), (h1, .inl (cZ, 26, .inl (upd (upd (upd (upd (upd (upd (upd (upd (upd (upd (upd (upd (upd (upd (upd (upd (upd (upd (upd (upd (upd (upd (upd (upd (upd (upd g0 0 0) 1 0) 2 0) 3 0) 4 0) 5 0) 6 0) 7 0) 8 0) 9 0) 10 0) 11 0) 12 0) 13 0) 14 0) 15 0) 16 0) 17 0) 18 0) 19 0) 20 0) 21 0) 22 0) 23 0) 24 0) 25 0))), (h8, .inl (cI, 4096, .inl (upd g7 0 0))), (h0, .inr (12, (((((f0.set 0 (.int 0)).set 119 (.int 0)).set 131 (.int 1)).set 129 (.int 0)).set 129 (.int 1)))), (h4, .inl (cI, 48000, .inl (upd g3 0 0))), (h6, .inl (cI, 3000, .inl (upd (upd g5 0 0) 0 1))), (h9, .inl (cZ, 3000, .inl (upd g8 0 0)))] := hD
  refine lv_iconst (v := 0) hx hb dX12_many_35 (by decide) ?_
  refine lv_istore_n (lv' := [(1, .int 0), (0, .ref h0)]) hx hb dX12_many_36 rfl hl (by decide) rfl (fun ls hl => ?_)
  refine lv_iconst (v := 0) hx hb dX12_many_37 (by decide) ?_
  refine lv_istore_n (lv' := [(2, .int 0), (1, .int 0), (0, .ref h0)]) hx hb dX12_many_38 rfl hl (by decide) rfl (fun ls hl => ?_)
  refine lv_iload_n hx hb dX12_many_39 rfl (lv_at hl 0 rfl) ?_
  refine lv_aload_n hx hb dX12_many_40 rfl (lv_at hl 2 rfl) ?_
  refine k_get (D := D) (ci := 12) (v := .int 1) (N := 195) hx hb hts hin12 hown hK hP 9 rfl rfl (by decide) f9_12_129 (hts (.fieldLink RX12 957 "IntegerHouseModel" "places" "I") (o9_X12_many _ (List.mem_of_getElem? (i := 16) rfl))) (k_set (k_set (k_ne (by decide) (k_ne (by decide) (k_ne (by decide) e8))))) dX12_many_41 ?_
  refine lv_icmp_ge (tgt := 166) hx hb dX12_many_44 (by decide) (fun c9 => absurd c9 (by decide)) (fun _ => ?_)
  refine lv_aload_n hx hb dX12_many_47 rfl (lv_at hl 2 rfl) ?_
  refine k_get (D := D) (ci := 12) (v := .ref h10) (N := 195) hx hb hts hin12 hown hK hP 9 rfl rfl (by decide) f9_12_145 (hts (.fieldLink RX12 364 "IntegerHouseModel" "left" "[I") (o9_X12_many _ (List.mem_of_getElem? (i := 17) rfl))) (k_ne (by decide) (k_ne (by decide) (k_ne (by decide) (k_ne (by decide) (k_ne (by decide) e16))))) dX12_many_48 ?_
  refine lv_iload_n hx hb dX12_many_51 rfl (lv_at hl 0 rfl) ?_
  refine lv_iconst (v := 0) hx hb dX12_many_52 (by decide) ?_
  refine va_iast hx hb hK hP hD hS 0 0 rfl rfl (k_in (by decide)) dX12_many_53 (fun H locs hP hD hS => ?_)
  have hP : va_P D vwCl [(h10, .inl (cI, 3000, .inl (upd g9 0 0))), (h11, .inl (cI, 3000, .inl g10)), (h12, .inl (cJ, 3000, .inr (.inl g11))), (h2, .inl (cI, 32768, .inl (upd (k_fill (-1) 32768 g1) 17 0))), (h3, .inl (cI, 3000, .inl (upd g2 0 (-1)))), (h5, .inl (cI, 4096, .inl (upd (k_fill (-1) 4096 g4) 0 1))), (h7, .inl (cI, 3000, .inl (upd (upd g6 0 0) 0 0))), (h1, .inl (cZ, 26, .inl (upd (upd (upd (upd (upd (upd (upd (upd (upd (upd (upd (upd (upd (upd (upd (upd (upd (upd (upd (upd (upd (upd (upd (upd (upd (upd g0 0 0) 1 0) 2 0) 3 0) 4 0) 5 0) 6 0) 7 0) 8 0) 9 0) 10 0) 11 0) 12 0) 13 0) 14 0) 15 0) 16 0) 17 0) 18 0) 19 0) 20 0) 21 0) 22 0) 23 0) 24 0) 25 0))), (h8, .inl (cI, 4096, .inl (upd g7 0 0))), (h0, .inr (12, (((((f0.set 0 (.int 0)).set 119 (.int 0)).set 131 (.int 1)).set 129 (.int 0)).set 129 (.int 1)))), (h4, .inl (cI, 48000, .inl (upd g3 0 0))), (h6, .inl (cI, 3000, .inl (upd (upd g5 0 0) 0 1))), (h9, .inl (cZ, 3000, .inl (upd g8 0 0)))] H := hP
  have hD : va_D A [(h10, .inl (cI, 3000, .inl (upd g9 0 0))), (h11, .inl (cI, 3000, .inl g10)), (h12, .inl (cJ, 3000, .inr (.inl g11))), (h2, .inl (cI, 32768, .inl (upd (k_fill (-1) 32768 g1) 17 0))), (h3, .inl (cI, 3000, .inl (upd g2 0 (-1)))), (h5, .inl (cI, 4096, .inl (upd (k_fill (-1) 4096 g4) 0 1))), (h7, .inl (cI, 3000, .inl (upd (upd g6 0 0) 0 0))), (h1, .inl (cZ, 26, .inl (upd (upd (upd (upd (upd (upd (upd (upd (upd (upd (upd (upd (upd (upd (upd (upd (upd (upd (upd (upd (upd (upd (upd (upd (upd (upd g0 0 0) 1 0) 2 0) 3 0) 4 0) 5 0) 6 0) 7 0) 8 0) 9 0) 10 0) 11 0) 12 0) 13 0) 14 0) 15 0) 16 0) 17 0) 18 0) 19 0) 20 0) 21 0) 22 0) 23 0) 24 0) 25 0))), (h8, .inl (cI, 4096, .inl (upd g7 0 0))), (h0, .inr (12, (((((f0.set 0 (.int 0)).set 119 (.int 0)).set 131 (.int 1)).set 129 (.int 0)).set 129 (.int 1)))), (h4, .inl (cI, 48000, .inl (upd g3 0 0))), (h6, .inl (cI, 3000, .inl (upd (upd g5 0 0) 0 1))), (h9, .inl (cZ, 3000, .inl (upd g8 0 0)))] := hD
  refine lv_iconst (v := 0) hx hb dX12_many_54 (by decide) ?_
  refine lv_istore_n (lv' := [(3, .int 0), (2, .int 0), (1, .int 0), (0, .ref h0)]) hx hb dX12_many_55 rfl hl (by decide) rfl (fun ls hl => ?_)
  refine lv_iload_n hx hb dX12_many_56 rfl (lv_at hl 0 rfl) ?_
  refine lv_aload_n hx hb dX12_many_57 rfl (lv_at hl 3 rfl) ?_
  refine k_get (D := D) (ci := 12) (v := .int 1) (N := 195) hx hb hts hin12 hown hK hP 9 rfl rfl (by decide) f9_12_131 (hts (.fieldLink RX12 960 "IntegerHouseModel" "letters" "I") (o9_X12_many _ (List.mem_of_getElem? (i := 18) rfl))) (k_ne (by decide) (k_ne (by decide) (k_set (k_ne (by decide) (k_ne (by decide) e6))))) dX12_many_58 ?_
  refine lv_icmp_ge (tgt := 116) hx hb dX12_many_61 (by decide) (fun c9 => absurd c9 (by decide)) (fun _ => ?_)
  refine lv_aload_n hx hb dX12_many_64 rfl (lv_at hl 3 rfl) ?_
  refine k_get (D := D) (ci := 12) (v := .ref h9) (N := 195) hx hb hts hin12 hown hK hP 9 rfl rfl (by decide) f9_12_147 (hts (.fieldLink RX12 370 "IntegerHouseModel" "counts" "[Z") (o9_X12_many _ (List.mem_of_getElem? (i := 19) rfl))) (k_ne (by decide) (k_ne (by decide) (k_ne (by decide) (k_ne (by decide) (k_ne (by decide) e15))))) dX12_many_65 ?_
  refine lv_iload_n hx hb dX12_many_68 rfl (lv_at hl 1 rfl) ?_
  refine va_zald hx hb hK hP 12 3 rfl rfl (k_in (by decide)) dX12_many_69 ?_
  refine k_topi (y := 0) rfl ?_
  refine lv_if_eq (tgt := 116) hx hb dX12_many_70 (by decide) (fun _ => ?_) (fun c9 => absurd (by decide) c9)
  refine lv_iload_n hx hb dX12_many_116 rfl (lv_at hl 2 rfl) ?_
  refine lv_aload_n hx hb dX12_many_117 rfl (lv_at hl 3 rfl) ?_
  refine k_get (D := D) (ci := 12) (v := .ref h9) (N := 195) hx hb hts hin12 hown hK hP 9 rfl rfl (by decide) f9_12_147 (hts (.fieldLink RX12 370 "IntegerHouseModel" "counts" "[Z") (o9_X12_many _ (List.mem_of_getElem? (i := 19) rfl))) (k_ne (by decide) (k_ne (by decide) (k_ne (by decide) (k_ne (by decide) (k_ne (by decide) e15))))) dX12_many_118 ?_
  refine lv_iload_n hx hb dX12_many_121 rfl (lv_at hl 1 rfl) ?_
  refine va_zald hx hb hK hP 12 3 rfl rfl (k_in (by decide)) dX12_many_122 ?_
  refine k_topi (y := 0) rfl ?_
  refine lv_if_eq (tgt := 130) hx hb dX12_many_123 (by decide) (fun _ => ?_) (fun c9 => absurd (by decide) c9)
  refine lv_iconst (v := 0) hx hb dX12_many_130 (by decide) ?_
  refine lv_iadd hx hb dX12_many_131 ?_
  refine k_topi (y := 0) (by decide) ?_
  refine lv_istore_n (lv' := [(1, .int 0), (3, .int 0), (2, .int 0), (0, .ref h0)]) hx hb dX12_many_132 rfl hl (by decide) rfl (fun ls hl => ?_)
  refine lv_aload_n hx hb dX12_many_133 rfl (lv_at hl 3 rfl) ?_
  refine k_get (D := D) (ci := 12) (v := .ref h11) (N := 195) hx hb hts hin12 hown hK hP 9 rfl rfl (by decide) f9_12_148 (hts (.fieldLink RX12 373 "IntegerHouseModel" "row" "[I") (o9_X12_many _ (List.mem_of_getElem? (i := 20) rfl))) (k_ne (by decide) (k_ne (by decide) (k_ne (by decide) (k_ne (by decide) (k_ne (by decide) e17))))) dX12_many_134 ?_
  refine lv_iload_n hx hb dX12_many_137 rfl (lv_at hl 2 rfl) ?_
  refine lv_aload_n hx hb dX12_many_138 rfl (lv_at hl 3 rfl) ?_
  refine k_get (D := D) (ci := 12) (v := .ref h9) (N := 195) hx hb hts hin12 hown hK hP 9 rfl rfl (by decide) f9_12_147 (hts (.fieldLink RX12 370 "IntegerHouseModel" "counts" "[Z") (o9_X12_many _ (List.mem_of_getElem? (i := 19) rfl))) (k_ne (by decide) (k_ne (by decide) (k_ne (by decide) (k_ne (by decide) (k_ne (by decide) e15))))) dX12_many_139 ?_
  refine lv_iload_n hx hb dX12_many_142 rfl (lv_at hl 2 rfl) ?_
  refine va_zald hx hb hK hP 12 3 rfl rfl (k_in (by decide)) dX12_many_143 ?_
  refine k_topi (y := 0) rfl ?_
  refine lv_if_eq (tgt := 151) hx hb dX12_many_144 (by decide) (fun _ => ?_) (fun c9 => absurd (by decide) c9)
  refine lv_iconst (v := 1) hx hb dX12_many_151 (by decide) ?_
  refine va_iast hx hb hK hP hD hS 1 0 rfl rfl (k_in (by decide)) dX12_many_152 (fun H locs hP hD hS => ?_)
  have hP : va_P D vwCl [(h10, .inl (cI, 3000, .inl (upd g9 0 0))), (h11, .inl (cI, 3000, .inl (upd g10 0 1))), (h12, .inl (cJ, 3000, .inr (.inl g11))), (h2, .inl (cI, 32768, .inl (upd (k_fill (-1) 32768 g1) 17 0))), (h3, .inl (cI, 3000, .inl (upd g2 0 (-1)))), (h5, .inl (cI, 4096, .inl (upd (k_fill (-1) 4096 g4) 0 1))), (h7, .inl (cI, 3000, .inl (upd (upd g6 0 0) 0 0))), (h1, .inl (cZ, 26, .inl (upd (upd (upd (upd (upd (upd (upd (upd (upd (upd (upd (upd (upd (upd (upd (upd (upd (upd (upd (upd (upd (upd (upd (upd (upd (upd g0 0 0) 1 0) 2 0) 3 0) 4 0) 5 0) 6 0) 7 0) 8 0) 9 0) 10 0) 11 0) 12 0) 13 0) 14 0) 15 0) 16 0) 17 0) 18 0) 19 0) 20 0) 21 0) 22 0) 23 0) 24 0) 25 0))), (h8, .inl (cI, 4096, .inl (upd g7 0 0))), (h0, .inr (12, (((((f0.set 0 (.int 0)).set 119 (.int 0)).set 131 (.int 1)).set 129 (.int 0)).set 129 (.int 1)))), (h4, .inl (cI, 48000, .inl (upd g3 0 0))), (h6, .inl (cI, 3000, .inl (upd (upd g5 0 0) 0 1))), (h9, .inl (cZ, 3000, .inl (upd g8 0 0)))] H := hP
  have hD : va_D A [(h10, .inl (cI, 3000, .inl (upd g9 0 0))), (h11, .inl (cI, 3000, .inl (upd g10 0 1))), (h12, .inl (cJ, 3000, .inr (.inl g11))), (h2, .inl (cI, 32768, .inl (upd (k_fill (-1) 32768 g1) 17 0))), (h3, .inl (cI, 3000, .inl (upd g2 0 (-1)))), (h5, .inl (cI, 4096, .inl (upd (k_fill (-1) 4096 g4) 0 1))), (h7, .inl (cI, 3000, .inl (upd (upd g6 0 0) 0 0))), (h1, .inl (cZ, 26, .inl (upd (upd (upd (upd (upd (upd (upd (upd (upd (upd (upd (upd (upd (upd (upd (upd (upd (upd (upd (upd (upd (upd (upd (upd (upd (upd g0 0 0) 1 0) 2 0) 3 0) 4 0) 5 0) 6 0) 7 0) 8 0) 9 0) 10 0) 11 0) 12 0) 13 0) 14 0) 15 0) 16 0) 17 0) 18 0) 19 0) 20 0) 21 0) 22 0) 23 0) 24 0) 25 0))), (h8, .inl (cI, 4096, .inl (upd g7 0 0))), (h0, .inr (12, (((((f0.set 0 (.int 0)).set 119 (.int 0)).set 131 (.int 1)).set 129 (.int 0)).set 129 (.int 1)))), (h4, .inl (cI, 48000, .inl (upd g3 0 0))), (h6, .inl (cI, 3000, .inl (upd (upd g5 0 0) 0 1))), (h9, .inl (cZ, 3000, .inl (upd g8 0 0)))] := hD
  refine lv_aload_n hx hb dX12_many_153 rfl (lv_at hl 3 rfl) ?_
  refine k_get (D := D) (ci := 12) (v := .ref h12) (N := 195) hx hb hts hin12 hown hK hP 9 rfl rfl (by decide) f9_12_146 (hts (.fieldLink RX12 367 "IntegerHouseModel" "news" "[J") (o9_X12_many _ (List.mem_of_getElem? (i := 21) rfl))) (k_ne (by decide) (k_ne (by decide) (k_ne (by decide) (k_ne (by decide) (k_ne (by decide) e18))))) dX12_many_154 ?_
  refine lv_iload_n hx hb dX12_many_157 rfl (lv_at hl 2 rfl) ?_
  refine lv_lconst (v := 0) hx hb dX12_many_158 (by decide) ?_
  refine va_last hx hb hK hP hD hS 2 1 rfl rfl (k_in (by decide)) dX12_many_159 (fun H locs hP hD hS => ?_)
  have hP : va_P D vwCl [(h10, .inl (cI, 3000, .inl (upd g9 0 0))), (h11, .inl (cI, 3000, .inl (upd g10 0 1))), (h12, .inl (cJ, 3000, .inr (.inl (vp_updL g11 0 0)))), (h2, .inl (cI, 32768, .inl (upd (k_fill (-1) 32768 g1) 17 0))), (h3, .inl (cI, 3000, .inl (upd g2 0 (-1)))), (h5, .inl (cI, 4096, .inl (upd (k_fill (-1) 4096 g4) 0 1))), (h7, .inl (cI, 3000, .inl (upd (upd g6 0 0) 0 0))), (h1, .inl (cZ, 26, .inl (upd (upd (upd (upd (upd (upd (upd (upd (upd (upd (upd (upd (upd (upd (upd (upd (upd (upd (upd (upd (upd (upd (upd (upd (upd (upd g0 0 0) 1 0) 2 0) 3 0) 4 0) 5 0) 6 0) 7 0) 8 0) 9 0) 10 0) 11 0) 12 0) 13 0) 14 0) 15 0) 16 0) 17 0) 18 0) 19 0) 20 0) 21 0) 22 0) 23 0) 24 0) 25 0))), (h8, .inl (cI, 4096, .inl (upd g7 0 0))), (h0, .inr (12, (((((f0.set 0 (.int 0)).set 119 (.int 0)).set 131 (.int 1)).set 129 (.int 0)).set 129 (.int 1)))), (h4, .inl (cI, 48000, .inl (upd g3 0 0))), (h6, .inl (cI, 3000, .inl (upd (upd g5 0 0) 0 1))), (h9, .inl (cZ, 3000, .inl (upd g8 0 0)))] H := hP
  have hD : va_D A [(h10, .inl (cI, 3000, .inl (upd g9 0 0))), (h11, .inl (cI, 3000, .inl (upd g10 0 1))), (h12, .inl (cJ, 3000, .inr (.inl (vp_updL g11 0 0)))), (h2, .inl (cI, 32768, .inl (upd (k_fill (-1) 32768 g1) 17 0))), (h3, .inl (cI, 3000, .inl (upd g2 0 (-1)))), (h5, .inl (cI, 4096, .inl (upd (k_fill (-1) 4096 g4) 0 1))), (h7, .inl (cI, 3000, .inl (upd (upd g6 0 0) 0 0))), (h1, .inl (cZ, 26, .inl (upd (upd (upd (upd (upd (upd (upd (upd (upd (upd (upd (upd (upd (upd (upd (upd (upd (upd (upd (upd (upd (upd (upd (upd (upd (upd g0 0 0) 1 0) 2 0) 3 0) 4 0) 5 0) 6 0) 7 0) 8 0) 9 0) 10 0) 11 0) 12 0) 13 0) 14 0) 15 0) 16 0) 17 0) 18 0) 19 0) 20 0) 21 0) 22 0) 23 0) 24 0) 25 0))), (h8, .inl (cI, 4096, .inl (upd g7 0 0))), (h0, .inr (12, (((((f0.set 0 (.int 0)).set 119 (.int 0)).set 131 (.int 1)).set 129 (.int 0)).set 129 (.int 1)))), (h4, .inl (cI, 48000, .inl (upd g3 0 0))), (h6, .inl (cI, 3000, .inl (upd (upd g5 0 0) 0 1))), (h9, .inl (cZ, 3000, .inl (upd g8 0 0)))] := hD
  refine lv_iinc (v := 1) (lv' := [(2, .int 1), (1, .int 0), (3, .int 0), (0, .ref h0)]) hx hb dX12_many_160 hl (k := 2) rfl (by decide) (by decide) rfl (fun ls hl => ?_)
  refine lv_goto (tgt := 39) hx hb dX12_many_163 (by decide) ?_
  refine lv_iload_n hx hb dX12_many_39 rfl (lv_at hl 0 rfl) ?_
  refine lv_aload_n hx hb dX12_many_40 rfl (lv_at hl 3 rfl) ?_
  refine k_get (D := D) (ci := 12) (v := .int 1) (N := 195) hx hb hts hin12 hown hK hP 9 rfl rfl (by decide) f9_12_129 (hts (.fieldLink RX12 957 "IntegerHouseModel" "places" "I") (o9_X12_many _ (List.mem_of_getElem? (i := 16) rfl))) (k_set (k_set (k_ne (by decide) (k_ne (by decide) (k_ne (by decide) e8))))) dX12_many_41 ?_
  refine lv_icmp_ge (tgt := 166) hx hb dX12_many_44 (by decide) (fun _ => ?_) (fun c9 => absurd (by decide) c9)
  refine lv_iconst (v := 1) hx hb dX12_many_166 (by decide) ?_
  refine lv_istore_n (lv' := [(2, .int 1), (1, .int 0), (3, .int 0), (0, .ref h0)]) hx hb dX12_many_167 rfl hl (by decide) rfl (fun ls hl => ?_)
  refine lv_iload_n hx hb dX12_many_168 rfl (lv_at hl 0 rfl) ?_
  refine lv_if_eq (tgt := 373) hx hb dX12_many_169 (by decide) (fun c9 => absurd c9 (by decide)) (fun _ => ?_)
  refine lv_iload_n hx hb dX12_many_172 rfl (lv_at hl 1 rfl) ?_
  refine lv_if_le (tgt := 373) hx hb dX12_many_173 (by decide) (fun _ => ?_) (fun c9 => absurd (by decide) c9)
  refine lv_iload_n hx hb dX12_many_373 rfl (lv_at hl 1 rfl) ?_
  refine lv_if_le (tgt := 380) hx hb dX12_many_374 (by decide) (fun _ => ?_) (fun c9 => absurd (by decide) c9)
  refine lv_aload_n hx hb dX12_many_380 rfl (lv_at hl 3 rfl) ?_
  refine k_get (D := D) (ci := 12) (v := .ref h12) (N := 195) hx hb hts hin12 hown hK hP 9 rfl rfl (by decide) f9_12_146 (hts (.fieldLink RX12 367 "IntegerHouseModel" "news" "[J") (o9_X12_many _ (List.mem_of_getElem? (i := 21) rfl))) (k_ne (by decide) (k_ne (by decide) (k_ne (by decide) (k_ne (by decide) (k_ne (by decide) e18))))) dX12_many_381 ?_
  refine lv_iconst (v := 0) hx hb dX12_many_384 (by decide) ?_
  refine va_lald hx hb hK hP 2 1 rfl rfl (k_in (by decide)) dX12_many_385 ?_
  refine k_topl (y := 0) rfl ?_
  refine lv_lstore_n (lv' := [(3, .long 0), (2, .int 1), (1, .int 0), (0, .ref h0)]) hx hb dX12_many_386 rfl hl (by decide) rfl (fun ls hl => ?_)
  refine lv_iconst (v := 0) hx hb dX12_many_387 (by decide) ?_
  refine lv_istore (lv' := [(5, .int 0), (3, .long 0), (2, .int 1), (1, .int 0), (0, .ref h0)]) hx hb dX12_many_388 hl (by decide) rfl (fun ls hl => ?_)
  refine lv_iload hx hb dX12_many_390 (lv_at hl 0 rfl) ?_
  refine lv_aload_n hx hb dX12_many_392 rfl (lv_at hl 4 rfl) ?_
  refine k_get (D := D) (ci := 12) (v := .int 1) (N := 195) hx hb hts hin12 hown hK hP 9 rfl rfl (by decide) f9_12_131 (hts (.fieldLink RX12 960 "IntegerHouseModel" "letters" "I") (o9_X12_many _ (List.mem_of_getElem? (i := 18) rfl))) (k_ne (by decide) (k_ne (by decide) (k_set (k_ne (by decide) (k_ne (by decide) e6))))) dX12_many_393 ?_
  refine lv_icmp_ge (tgt := 420) hx hb dX12_many_396 (by decide) (fun c9 => absurd c9 (by decide)) (fun _ => ?_)
  refine lv_lload_n hx hb dX12_many_399 rfl (lv_at hl 1 rfl) ?_
  refine lv_aload_n hx hb dX12_many_400 rfl (lv_at hl 4 rfl) ?_
  refine k_get (D := D) (ci := 12) (v := .ref h6) (N := 195) hx hb hts hin12 hown hK hP 9 rfl rfl (by decide) f9_12_132 (hts (.fieldLink RX12 334 "IntegerHouseModel" "takes" "[I") (o9_X12_many _ (List.mem_of_getElem? (i := 22) rfl))) (k_ne (by decide) (k_ne (by decide) (k_ne (by decide) (k_ne (by decide) (k_ne (by decide) e12))))) dX12_many_401 ?_
  refine lv_iconst (v := 0) hx hb dX12_many_404 (by decide) ?_
  refine va_iald hx hb hK hP 11 0 rfl rfl (k_in (by decide)) dX12_many_405 ?_
  refine k_topi (y := 1) rfl ?_
  refine lv_iload hx hb dX12_many_406 (lv_at hl 0 rfl) ?_
  refine lv_ishr hx hb dX12_many_408 ?_
  refine k_topi (y := 1) (by decide) ?_
  refine lv_iconst (v := 1) hx hb dX12_many_409 (by decide) ?_
  refine lv_iand hx hb dX12_many_410 ?_
  refine k_topi (y := 1) (by decide) ?_
  refine lv_i2l (v := 1) hx hb dX12_many_411 (by decide) ?_
  refine lv_ladd hx hb dX12_many_412 ?_
  refine k_topl (y := 1) (by decide) ?_
  refine lv_lstore_n (lv' := [(3, .long 1), (5, .int 0), (2, .int 1), (1, .int 0), (0, .ref h0)]) hx hb dX12_many_413 rfl hl (by decide) rfl (fun ls hl => ?_)
  refine lv_iinc (v := 1) (lv' := [(5, .int 1), (3, .long 1), (2, .int 1), (1, .int 0), (0, .ref h0)]) hx hb dX12_many_414 hl (k := 1) rfl (by decide) (by decide) rfl (fun ls hl => ?_)
  refine lv_goto (tgt := 390) hx hb dX12_many_417 (by decide) ?_
  refine lv_iload hx hb dX12_many_390 (lv_at hl 0 rfl) ?_
  refine lv_aload_n hx hb dX12_many_392 rfl (lv_at hl 4 rfl) ?_
  refine k_get (D := D) (ci := 12) (v := .int 1) (N := 195) hx hb hts hin12 hown hK hP 9 rfl rfl (by decide) f9_12_131 (hts (.fieldLink RX12 960 "IntegerHouseModel" "letters" "I") (o9_X12_many _ (List.mem_of_getElem? (i := 18) rfl))) (k_ne (by decide) (k_ne (by decide) (k_set (k_ne (by decide) (k_ne (by decide) e6))))) dX12_many_393 ?_
  refine lv_icmp_ge (tgt := 420) hx hb dX12_many_396 (by decide) (fun _ => ?_) (fun c9 => absurd (by decide) c9)
  refine lv_lload_n hx hb dX12_many_420 rfl (lv_at hl 1 rfl) ?_
  refine lv_ldc2 (own := RX12) (index := 1041) (v := 1000000000) hx hb hown (hts (.constantLong RX12 1041 (1000000000)) (o9_X12_many _ (List.mem_of_getElem? (i := 23) rfl))) dX12_many_421 ?_
  refine W.lcmp hx hb dX12_many_424 ?_
  refine k_topi (y := (-1)) (by decide) ?_
  refine lv_if_le (tgt := 434) hx hb dX12_many_425 (by decide) (fun _ => ?_) (fun c9 => absurd (by decide) c9)
  refine lv_lload_n hx hb dX12_many_434 rfl (lv_at hl 1 rfl) ?_
  refine lv_l2i (v := 1) hx hb dX12_many_435 (by decide) ?_
  have hP := hP.sub (ws' := [(h0, .inr (12, (((((f0.set 0 (.int 0)).set 119 (.int 0)).set 131 (.int 1)).set 129 (.int 0)).set 129 (.int 1)))), (h1, .inl (cZ, 26, .inl (upd (upd (upd (upd (upd (upd (upd (upd (upd (upd (upd (upd (upd (upd (upd (upd (upd (upd (upd (upd (upd (upd (upd (upd (upd (upd g0 0 0) 1 0) 2 0) 3 0) 4 0) 5 0) 6 0) 7 0) 8 0) 9 0) 10 0) 11 0) 12 0) 13 0) 14 0) 15 0) 16 0) 17 0) 18 0) 19 0) 20 0) 21 0) 22 0) 23 0) 24 0) 25 0))), (h2, .inl (cI, 32768, .inl (upd (k_fill (-1) 32768 g1) 17 0))), (h3, .inl (cI, 3000, .inl (upd g2 0 (-1)))), (h4, .inl (cI, 48000, .inl (upd g3 0 0))), (h5, .inl (cI, 4096, .inl (upd (k_fill (-1) 4096 g4) 0 1))), (h6, .inl (cI, 3000, .inl (upd (upd g5 0 0) 0 1))), (h7, .inl (cI, 3000, .inl (upd (upd g6 0 0) 0 0))), (h8, .inl (cI, 4096, .inl (upd g7 0 0))), (h9, .inl (cZ, 3000, .inl (upd g8 0 0))), (h10, .inl (cI, 3000, .inl (upd g9 0 0))), (h11, .inl (cI, 3000, .inl (upd g10 0 1))), (h12, .inl (cJ, 3000, .inr (.inl (vp_updL g11 0 0))))]) [9, 7, 3, 4, 10, 5, 11, 6, 8, 12, 0, 1, 2] rfl
  have hD := hD.sub (ws' := [(h0, .inr (12, (((((f0.set 0 (.int 0)).set 119 (.int 0)).set 131 (.int 1)).set 129 (.int 0)).set 129 (.int 1)))), (h1, .inl (cZ, 26, .inl (upd (upd (upd (upd (upd (upd (upd (upd (upd (upd (upd (upd (upd (upd (upd (upd (upd (upd (upd (upd (upd (upd (upd (upd (upd (upd g0 0 0) 1 0) 2 0) 3 0) 4 0) 5 0) 6 0) 7 0) 8 0) 9 0) 10 0) 11 0) 12 0) 13 0) 14 0) 15 0) 16 0) 17 0) 18 0) 19 0) 20 0) 21 0) 22 0) 23 0) 24 0) 25 0))), (h2, .inl (cI, 32768, .inl (upd (k_fill (-1) 32768 g1) 17 0))), (h3, .inl (cI, 3000, .inl (upd g2 0 (-1)))), (h4, .inl (cI, 48000, .inl (upd g3 0 0))), (h5, .inl (cI, 4096, .inl (upd (k_fill (-1) 4096 g4) 0 1))), (h6, .inl (cI, 3000, .inl (upd (upd g5 0 0) 0 1))), (h7, .inl (cI, 3000, .inl (upd (upd g6 0 0) 0 0))), (h8, .inl (cI, 4096, .inl (upd g7 0 0))), (h9, .inl (cZ, 3000, .inl (upd g8 0 0))), (h10, .inl (cI, 3000, .inl (upd g9 0 0))), (h11, .inl (cI, 3000, .inl (upd g10 0 1))), (h12, .inl (cJ, 3000, .inr (.inl (vp_updL g11 0 0))))]) [9, 7, 3, 4, 10, 5, 11, 6, 8, 12, 0, 1, 2] (by decide +kernel) rfl
  exact W.iret (v := 1) hx hb hr (fun t ht hW => ⟨⟨1, (), rfl, rfl, kB_mk ht hW hP hK hD⟩, hS.F ht⟩) hS.2.2 dX12_many_436
set_option maxHeartbeats 400000000 in
set_option maxRecDepth 100000 in
theorem c_X0_anyModel_0 (l : Launch) (E : kE) (D : va_G) (cI cJ cB cZ : ClassId) (h0 : Nat) (f0 : List Value) (h1 : Nat) (f1 : List Value) (h2 : Nat) (g0 : Nat → Int32) (e0 : f0[1]? = some (.ref h1)) (e1 : f1[13]? = some (.int 1)) (e2 : f1[12]? = some (.int 1)) (e3 : f1[8]? = some (.ref h2)) (e4 : g0 0 = 0) : kI l E D (kT cI cJ cB cZ) yX0_anyModel vW_X0_anyModel ({ frames := 2, cells := 0, slots := 0, locals := 51 }) [.ref h0, .int 0] [(h0, .inr (0, f0)), (h1, .inr (6, f1)), (h2, .inl (cI, 48000, .inl g0))] (1) [(h0, .inr (0, f0)), (h1, .inr (6, f1)), (h2, .inl (cI, 48000, .inl g0))] 0 0 := by
  intro sz
  refine Met.ofW (cc := cX0_anyModel) (maxL := 3) (ret := (some .boolean)) (by decide) rfl ?_
  intro p e s m args below meth c s₁ B hml hv
  obtain ⟨rfl, hsz, hP, hK, hD0, hN, hX⟩ := hv
  have hx := B.exec
  have hb := B.bytes
  have hr := B.returns
  have hts := atoms_spec (ws := vW_X0_anyModel) B.pre
  have hown : s.vm.findClass RX0 = some m.cls := findClass_of_methodNamed B.named
  have hlocks := B.notSynchronized
  have hin0 : ∀ w ∈ wsX00, w ∈ vW_X0_anyModel := u9_X0_anyModel_wsX00
  have hin6 : ∀ w ∈ wsX60, w ∈ vW_X0_anyModel := u9_X0_anyModel_wsX60
  subst hsz
  have hD := hD0.self (sz := s.heap.size)
  have hAE := k_AE hD0 hX
  generalize hAe : va_A [(h0, .inr (0, f0)), (h1, .inr (6, f1)), (h2, .inl (cI, 48000, .inl g0))] s.heap.size = A at hD hAE ⊢
  have hA : ∀ q : Nat, s.heap.size ≤ q → A q := fun q h => by rw [← hAe]; exact Or.inr h
  have hS : va_S A s.heap s.heap [] := va_S.rf
  have hP : va_P D vwCl [(h0, .inr (0, f0)), (h1, .inr (6, f1)), (h2, .inl (cI, 48000, .inl g0))] s.heap := hP
  have hl := lv_entry ([.ref h0, .int 0] : List Value) (n := 3) (Nat.le_of_ble_eq_true rfl)
  rw [lg_entry_eq]
  generalize (lg_sl ([.ref h0, .int 0]) ++ List.replicate (3 - (lg_sl ([.ref h0, .int 0])).length) Slot.unset).toArray = ls at hl ⊢
  have hl : lv_has ls 3 [(0, .ref h0), (1, .int 0)] := hl
  refine lv_iconst (v := 0) hx hb dX0_anyModel_0 (by decide) ?_
  refine lv_istore_n (lv' := [(2, .int 0), (0, .ref h0), (1, .int 0)]) hx hb dX0_anyModel_1 rfl hl (by decide) rfl (fun ls hl => ?_)
  refine lv_iload_n hx hb dX0_anyModel_2 rfl (lv_at hl 0 rfl) ?_
  refine lv_aload_n hx hb dX0_anyModel_3 rfl (lv_at hl 1 rfl) ?_
  refine k_get (D := D) (ci := 0) (v := .ref h1) (N := 19) hx hb hts hin0 hown hK hP 0 rfl rfl (by decide) f9_0_1 (hts (.fieldLink RX0 48 "IntegerHouse$Answers" "places" "LIntegerHouse$Places;") (o9_X0_anyModel _ (List.mem_of_getElem? (i := 0) rfl))) e0 dX0_anyModel_4 ?_
  refine k_getN (host := "IntegerHouse") (D := D) (ci := 6) (v := .int 1) (N := 14) hx hb hts hin6 hown hK hP 1 rfl rfl (by decide) f9_6_13 (va_Nw.use rfl (hN.1 ("IntegerHouse$Answers", 72, "IntegerHouse$Places", "size", "I", "IntegerHouse") (List.mem_of_getElem? (i := 32) rfl))) e1 dX0_anyModel_7 ?_
  refine lv_icmp_ge (tgt := 34) hx hb dX0_anyModel_10 (by decide) (fun c9 => absurd c9 (by decide)) (fun _ => ?_)
  refine lv_aload_n hx hb dX0_anyModel_13 rfl (lv_at hl 1 rfl) ?_
  refine k_get (D := D) (ci := 0) (v := .ref h1) (N := 19) hx hb hts hin0 hown hK hP 0 rfl rfl (by decide) f9_0_1 (hts (.fieldLink RX0 48 "IntegerHouse$Answers" "places" "LIntegerHouse$Places;") (o9_X0_anyModel _ (List.mem_of_getElem? (i := 0) rfl))) e0 dX0_anyModel_14 ?_
  refine lv_iload_n hx hb dX0_anyModel_17 rfl (lv_at hl 0 rfl) ?_
  refine lv_iload_n hx hb dX0_anyModel_18 rfl (lv_at hl 2 rfl) ?_
  refine lv_iconst (v := 0) hx hb dX0_anyModel_19 (by decide) ?_
  refine k_cVi (As := [.int 0, .int 0, .int 0]) (rest := []) (wc := [(h1, .inr (6, f1)), (h2, .inl (cI, 48000, .inl g0))]) (wr := [(h0, .inr (0, f0))]) (w1 := [(h1, .inr (6, f1)), (h2, .inl (cI, 48000, .inl g0))]) ⟨hx, hb, hml, hown, hts⟩ hN hX hAE hK hP hD hS hA [1, 2] [0] (ci := 6) rfl rfl rfl rfl (by decide +kernel) (by decide +kernel) (by decide +kernel) (c_X6_acceptedBy_0 l E D cI cJ cB cZ h1 f1 h2 g0 e2 e3 e4) (cwV 3 hts g9_X0_anyModel_X6_acceptedBy_78 rfl rfl rfl (by decide +kernel) ⟨Nat.le_of_ble_eq_true rfl, Nat.le_of_ble_eq_true rfl⟩) rfl hl.1 (Nat.le_of_ble_eq_true rfl) dX0_anyModel_20 ⟨Nat.le_of_ble_eq_true rfl, Nat.le_of_ble_eq_true rfl⟩ (fun H locs hP hD hS => ?_)
  have hP : va_P D vwCl [(h0, .inr (0, f0)), (h1, .inr (6, f1)), (h2, .inl (cI, 48000, .inl g0))] H := hP
  have hD : va_D A [(h0, .inr (0, f0)), (h1, .inr (6, f1)), (h2, .inl (cI, 48000, .inl g0))] := hD
  refine lv_if_eq (tgt := 28) hx hb dX0_anyModel_23 (by decide) (fun c9 => absurd c9 (by decide)) (fun _ => ?_)
  refine lv_iconst (v := 1) hx hb dX0_anyModel_26 (by decide) ?_
  exact W.zret (v := 1) hx hb hr rfl (fun t ht hW => ⟨⟨1, (), rfl, rfl, kB_mk ht hW hP hK hD⟩, hS.F ht⟩) hS.2.2 dX0_anyModel_27
set_option maxHeartbeats 400000000 in
set_option maxRecDepth 100000 in
theorem c_X0_tellCore_0 (l : Launch) (E : kE) (D : va_G) (cI cJ cB cZ : ClassId) (h0 : Nat) (f0 : List Value) (h1 : Nat) (f1 : List Value) (h2 : Nat) (g0 : Nat → Int32) (e0 : f0[14]? = some (.int 0)) (e1 : f0[1]? = some (.ref h1)) (e2 : f1[13]? = some (.int 1)) (e3 : f1[12]? = some (.int 1)) (e4 : f1[8]? = some (.ref h2)) (e5 : g0 0 = 0) : kI l E D (kT cI cJ cB cZ) yX0_tellCore vW_X0_tellCore ({ frames := 3, cells := 0, slots := 0, locals := 73 }) [.ref h0, .int 0] [(h0, .inr (0, f0)), (h1, .inr (6, f1)), (h2, .inl (cI, 48000, .inl g0))] (0) [(h0, .inr (0, (f0.set 14 (.int 0)))), (h1, .inr (6, f1)), (h2, .inl (cI, 48000, .inl g0))] 0 0 := by
  intro sz
  refine Met.ofW (cc := cX0_tellCore) (maxL := 4) (ret := (some .int)) (by decide) rfl ?_
  intro p e s m args below meth c s₁ B hml hv
  obtain ⟨rfl, hsz, hP, hK, hD0, hN, hX⟩ := hv
  have hx := B.exec
  have hb := B.bytes
  have hr := B.returns
  have hts := atoms_spec (ws := vW_X0_tellCore) B.pre
  have hown : s.vm.findClass RX0 = some m.cls := findClass_of_methodNamed B.named
  have hlocks := B.notSynchronized
  have hin0 : ∀ w ∈ wsX00, w ∈ vW_X0_tellCore := u9_X0_tellCore_wsX00
  subst hsz
  have hD := hD0.self (sz := s.heap.size)
  have hAE := k_AE hD0 hX
  generalize hAe : va_A [(h0, .inr (0, f0)), (h1, .inr (6, f1)), (h2, .inl (cI, 48000, .inl g0))] s.heap.size = A at hD hAE ⊢
  have hA : ∀ q : Nat, s.heap.size ≤ q → A q := fun q h => by rw [← hAe]; exact Or.inr h
  have hS : va_S A s.heap s.heap [] := va_S.rf
  have hP : va_P D vwCl [(h0, .inr (0, f0)), (h1, .inr (6, f1)), (h2, .inl (cI, 48000, .inl g0))] s.heap := hP
  have hl := lv_entry ([.ref h0, .int 0] : List Value) (n := 4) (Nat.le_of_ble_eq_true rfl)
  rw [lg_entry_eq]
  generalize (lg_sl ([.ref h0, .int 0]) ++ List.replicate (4 - (lg_sl ([.ref h0, .int 0])).length) Slot.unset).toArray = ls at hl ⊢
  have hl : lv_has ls 4 [(0, .ref h0), (1, .int 0)] := hl
  refine lv_aload_n hx hb dX0_tellCore_0 rfl (lv_at hl 0 rfl) ?_
  refine lv_iconst (v := 0) hx hb dX0_tellCore_1 (by decide) ?_
  refine k_put (D := D) (ci := 0) (v := .int 0) (ty := .int) (N := 19) hx hb hts hin0 tyX0 tyX0_ok nmX0 hown hK hP hD hS 0 rfl rfl (by decide) f9_0_14 (hts (.fieldLink RX0 167 "IntegerHouse$Answers" "coreSize" "I") (o9_X0_tellCore _ (List.mem_of_getElem? (i := 0) rfl))) rfl pd_2 rfl rfl (k_len e0) dX0_tellCore_2 (fun H locs hP hD hS => ?_)
  have hP : va_P D vwCl [(h0, .inr (0, (f0.set 14 (.int 0)))), (h1, .inr (6, f1)), (h2, .inl (cI, 48000, .inl g0))] H := hP
  have hD : va_D A [(h0, .inr (0, (f0.set 14 (.int 0)))), (h1, .inr (6, f1)), (h2, .inl (cI, 48000, .inl g0))] := hD
  refine lv_aload_n hx hb dX0_tellCore_5 rfl (lv_at hl 0 rfl) ?_
  refine lv_iload_n hx hb dX0_tellCore_6 rfl (lv_at hl 1 rfl) ?_
  refine k_cVi (As := [.int 0]) (rest := []) (wc := [(h0, .inr (0, (f0.set 14 (.int 0)))), (h1, .inr (6, f1)), (h2, .inl (cI, 48000, .inl g0))]) (wr := []) (w1 := [(h0, .inr (0, (f0.set 14 (.int 0)))), (h1, .inr (6, f1)), (h2, .inl (cI, 48000, .inl g0))]) ⟨hx, hb, hml, hown, hts⟩ hN hX hAE hK hP hD hS hA [0, 1, 2] [] (ci := 0) rfl rfl rfl rfl (by decide +kernel) (by decide +kernel) (by decide +kernel) (c_X0_anyModel_0 l E D cI cJ cB cZ h0 ((f0.set 14 (.int 0))) h1 f1 h2 g0 (k_ne (by decide) e1) e2 e3 e4 e5) (cwV 1 hts g9_X0_tellCore_X0_anyModel_170 rfl rfl rfl (by decide +kernel) ⟨Nat.le_of_ble_eq_true rfl, Nat.le_of_ble_eq_true rfl⟩) rfl hl.1 (Nat.le_of_ble_eq_true rfl) dX0_tellCore_7 ⟨Nat.le_of_ble_eq_true rfl, Nat.le_of_ble_eq_true rfl⟩ (fun H locs hP hD hS => ?_)
  have hP : va_P D vwCl [(h0, .inr (0, (f0.set 14 (.int 0)))), (h1, .inr (6, f1)), (h2, .inl (cI, 48000, .inl g0))] H := hP
  have hD : va_D A [(h0, .inr (0, (f0.set 14 (.int 0)))), (h1, .inr (6, f1)), (h2, .inl (cI, 48000, .inl g0))] := hD
  refine lv_if_eq (tgt := 15) hx hb dX0_tellCore_10 (by decide) (fun c9 => absurd c9 (by decide)) (fun _ => ?_)
  refine lv_iconst (v := 0) hx hb dX0_tellCore_13 (by decide) ?_
  exact W.iret (v := 0) hx hb hr (fun t ht hW => ⟨⟨0, (), rfl, rfl, kB_mk ht hW hP hK hD⟩, hS.F ht⟩) hS.2.2 dX0_tellCore_14
set_option maxHeartbeats 400000000 in
set_option maxRecDepth 100000 in
theorem c_X11_core_0 (l : Launch) (E : kE) (D : va_G) (cI cJ cB cZ : ClassId) (h0 : Nat) (f0 : List Value) (h1 : Nat) (f1 : List Value) (h2 : Nat) (h3 : Nat) (f2 : List Value) (f3 : List Value) (h4 : Nat) (h5 : Nat) (h6 : Nat) (g0 : Nat → Int32) (g1 : Nat → Int32) (g2 : Nat → Int32) (h7 : Nat) (f4 : List Value) (e0 : f0[1]? = some (.ref h1)) (e1 : f1[8]? = some (.int 0)) (e2 : f0[6]? = some (.ref h2)) (e3 : f0[2]? = some (.ref h3)) (e4 : f2[13]? = some (.int 0)) (e5 : f3[10]? = some (.int 0)) (e6 : f3[11]? = some (.int 0)) (e7 : f3[0]? = some (.ref h3)) (e8 : f2[10]? = some (.int 0)) (e9 : f3[12]? = some (.int 0)) (e10 : f3[9]? = some (.ref h4)) (e11 : f3[13]? = some (.int 0)) (e12 : f3[7]? = some (.ref h5)) (e13 : f3[8]? = some (.ref h6)) (e14 : f0[7]? = some (.ref h7)) (e15 : f4[14]? = some (.int 0)) (e16 : f4[1]? = some (.ref h2)) : kI l E D (kT cI cJ cB cZ) yX11_core vW_X11_core ({ frames := 5, cells := 0, slots := 0, locals := 115 }) [.ref h0] [(h0, .inr (11, f0)), (h1, .inr (1, f1)), (h3, .inr (2, f2)), (h2, .inr (6, f3)), (h4, .inl (cI, 8192, .inl g0)), (h5, .inl (cI, 48000, .inl g1)), (h6, .inl (cI, 48000, .inl g2)), (h7, .inr (0, f4))] (0) [(h0, .inr (11, f0)), (h1, .inr (1, f1)), (h3, .inr (2, f2)), (h2, .inr (6, ((((((((((((((((((((((((((((((f3.set 10 (.int 0)).set 11 (.int 0)).set 12 (.int 1)).set 11 (.int 0)).set 11 (.int 0)).set 11 (.int 0)).set 11 (.int 0)).set 11 (.int 0)).set 11 (.int 0)).set 11 (.int 0)).set 11 (.int 0)).set 11 (.int 0)).set 11 (.int 0)).set 11 (.int 0)).set 11 (.int 0)).set 11 (.int 0)).set 11 (.int 0)).set 11 (.int 0)).set 11 (.int 0)).set 11 (.int 0)).set 11 (.int 0)).set 11 (.int 0)).set 11 (.int 0)).set 11 (.int 0)).set 11 (.int 0)).set 11 (.int 0)).set 11 (.int 0)).set 11 (.int 0)).set 13 (.int 0)).set 13 (.int 1)))), (h4, .inl (cI, 8192, .inl (upd (k_fill 0 8192 g0) 782 1))), (h5, .inl (cI, 48000, .inl (upd g1 0 0))), (h6, .inl (cI, 48000, .inl (upd g2 0 0))), (h7, .inr (0, (f4.set 14 (.int 0))))] 0 0 := by
  intro sz
  refine Met.ofW (cc := cX11_core) (maxL := 1) (ret := (some .int)) (by decide) rfl ?_
  intro p e s m args below meth c s₁ B hml hv
  obtain ⟨rfl, hsz, hP, hK, hD0, hN, hX⟩ := hv
  have hx := B.exec
  have hb := B.bytes
  have hr := B.returns
  have hts := atoms_spec (ws := vW_X11_core) B.pre
  have hown : s.vm.findClass RX11 = some m.cls := findClass_of_methodNamed B.named
  have hlocks := B.notSynchronized
  have hin11 : ∀ w ∈ wsX110, w ∈ vW_X11_core := u9_X11_core_wsX110
  have hin1 : ∀ w ∈ wsX10, w ∈ vW_X11_core := u9_X11_core_wsX10
  have hin2 : ∀ w ∈ wsX20, w ∈ vW_X11_core := u9_X11_core_wsX20
  subst hsz
  have hD := hD0.self (sz := s.heap.size)
  have hAE := k_AE hD0 hX
  generalize hAe : va_A [(h0, .inr (11, f0)), (h1, .inr (1, f1)), (h3, .inr (2, f2)), (h2, .inr (6, f3)), (h4, .inl (cI, 8192, .inl g0)), (h5, .inl (cI, 48000, .inl g1)), (h6, .inl (cI, 48000, .inl g2)), (h7, .inr (0, f4))] s.heap.size = A at hD hAE ⊢
  have hA : ∀ q : Nat, s.heap.size ≤ q → A q := fun q h => by rw [← hAe]; exact Or.inr h
  have hS : va_S A s.heap s.heap [] := va_S.rf
  have hP : va_P D vwCl [(h0, .inr (11, f0)), (h1, .inr (1, f1)), (h3, .inr (2, f2)), (h2, .inr (6, f3)), (h4, .inl (cI, 8192, .inl g0)), (h5, .inl (cI, 48000, .inl g1)), (h6, .inl (cI, 48000, .inl g2)), (h7, .inr (0, f4))] s.heap := hP
  have hl := lv_entry ([.ref h0] : List Value) (n := 1) (Nat.le_of_ble_eq_true rfl)
  rw [lg_entry_eq]
  generalize (lg_sl ([.ref h0]) ++ List.replicate (1 - (lg_sl ([.ref h0])).length) Slot.unset).toArray = ls at hl ⊢
  have hl : lv_has ls 1 [(0, .ref h0)] := hl
  refine lv_aload_n hx hb dX11_core_0 rfl (lv_at hl 0 rfl) ?_
  refine k_get (D := D) (ci := 11) (v := .ref h1) (N := 15) hx hb hts hin11 hown hK hP 0 rfl rfl (by decide) f9_11_1 (hts (.fieldLink RX11 16 "IntegerHouse" "disk" "LIntegerHouse$Disk;") (o9_X11_core _ (List.mem_of_getElem? (i := 0) rfl))) e0 dX11_core_1 ?_
  refine k_getN (host := "IntegerHouse") (D := D) (ci := 1) (v := .int 0) (N := 9) hx hb hts hin1 hown hK hP 1 rfl rfl (by decide) f9_1_8 (va_Nw.use rfl (hN.1 ("IntegerHouse", 122, "IntegerHouse$Disk", "down", "Z", "IntegerHouse") (List.mem_of_getElem? (i := 3) rfl))) e1 dX11_core_4 ?_
  refine lv_if_eq (tgt := 13) hx hb dX11_core_7 (by decide) (fun _ => ?_) (fun c9 => absurd (by decide) c9)
  refine lv_aload_n hx hb dX11_core_13 rfl (lv_at hl 0 rfl) ?_
  refine k_get (D := D) (ci := 11) (v := .ref h2) (N := 15) hx hb hts hin11 hown hK hP 0 rfl rfl (by decide) f9_11_6 (hts (.fieldLink RX11 55 "IntegerHouse" "places" "LIntegerHouse$Places;") (o9_X11_core _ (List.mem_of_getElem? (i := 1) rfl))) e2 dX11_core_14 ?_
  refine lv_aload_n hx hb dX11_core_17 rfl (lv_at hl 0 rfl) ?_
  refine k_get (D := D) (ci := 11) (v := .ref h3) (N := 15) hx hb hts hin11 hown hK hP 0 rfl rfl (by decide) f9_11_2 (hts (.fieldLink RX11 23 "IntegerHouse" "house" "LIntegerHouse$House;") (o9_X11_core _ (List.mem_of_getElem? (i := 2) rfl))) e3 dX11_core_18 ?_
  refine k_getN (host := "IntegerHouse") (D := D) (ci := 2) (v := .int 0) (N := 16) hx hb hts hin2 hown hK hP 2 rfl rfl (by decide) f9_2_13 (va_Nw.use rfl (hN.1 ("IntegerHouse", 213, "IntegerHouse$House", "on", "I", "IntegerHouse") (List.mem_of_getElem? (i := 20) rfl))) e4 dX11_core_21 ?_
  refine k_cVi (As := [.int 0]) (rest := []) (wc := [(h2, .inr (6, f3)), (h3, .inr (2, f2)), (h4, .inl (cI, 8192, .inl g0)), (h5, .inl (cI, 48000, .inl g1)), (h6, .inl (cI, 48000, .inl g2))]) (wr := [(h0, .inr (11, f0)), (h1, .inr (1, f1)), (h7, .inr (0, f4))]) (w1 := [(h2, .inr (6, ((((((((((((((((((((((((((((((f3.set 10 (.int 0)).set 11 (.int 0)).set 12 (.int 1)).set 11 (.int 0)).set 11 (.int 0)).set 11 (.int 0)).set 11 (.int 0)).set 11 (.int 0)).set 11 (.int 0)).set 11 (.int 0)).set 11 (.int 0)).set 11 (.int 0)).set 11 (.int 0)).set 11 (.int 0)).set 11 (.int 0)).set 11 (.int 0)).set 11 (.int 0)).set 11 (.int 0)).set 11 (.int 0)).set 11 (.int 0)).set 11 (.int 0)).set 11 (.int 0)).set 11 (.int 0)).set 11 (.int 0)).set 11 (.int 0)).set 11 (.int 0)).set 11 (.int 0)).set 11 (.int 0)).set 13 (.int 0)).set 13 (.int 1)))), (h3, .inr (2, f2)), (h4, .inl (cI, 8192, .inl (upd (k_fill 0 8192 g0) 782 1))), (h5, .inl (cI, 48000, .inl (upd g1 0 0))), (h6, .inl (cI, 48000, .inl (upd g2 0 0)))]) ⟨hx, hb, hml, hown, hts⟩ hN hX hAE hK hP hD hS hA [3, 2, 4, 5, 6] [0, 1, 7] (ci := 6) rfl rfl rfl rfl (by decide +kernel) (by decide +kernel) (by decide +kernel) (c_X6_judge_0 l E D cI cJ cB cZ h2 f3 h3 f2 h4 h5 g0 g1 h6 g2 e5 e6 e7 e8 e9 e10 e11 e12 e13) (cwV 1 hts g9_X11_core_X6_judge_298 rfl rfl rfl (by decide +kernel) ⟨Nat.le_of_ble_eq_true rfl, Nat.le_of_ble_eq_true rfl⟩) rfl hl.1 (Nat.le_of_ble_eq_true rfl) dX11_core_24 ⟨Nat.le_of_ble_eq_true rfl, Nat.le_of_ble_eq_true rfl⟩ (fun H locs hP hD hS => ?_)
  have hP : va_P D vwCl [(h0, .inr (11, f0)), (h1, .inr (1, f1)), (h7, .inr (0, f4)), (h2, .inr (6, ((((((((((((((((((((((((((((((f3.set 10 (.int 0)).set 11 (.int 0)).set 12 (.int 1)).set 11 (.int 0)).set 11 (.int 0)).set 11 (.int 0)).set 11 (.int 0)).set 11 (.int 0)).set 11 (.int 0)).set 11 (.int 0)).set 11 (.int 0)).set 11 (.int 0)).set 11 (.int 0)).set 11 (.int 0)).set 11 (.int 0)).set 11 (.int 0)).set 11 (.int 0)).set 11 (.int 0)).set 11 (.int 0)).set 11 (.int 0)).set 11 (.int 0)).set 11 (.int 0)).set 11 (.int 0)).set 11 (.int 0)).set 11 (.int 0)).set 11 (.int 0)).set 11 (.int 0)).set 11 (.int 0)).set 13 (.int 0)).set 13 (.int 1)))), (h3, .inr (2, f2)), (h4, .inl (cI, 8192, .inl (upd (k_fill 0 8192 g0) 782 1))), (h5, .inl (cI, 48000, .inl (upd g1 0 0))), (h6, .inl (cI, 48000, .inl (upd g2 0 0)))] H := hP
  have hD : va_D A [(h0, .inr (11, f0)), (h1, .inr (1, f1)), (h7, .inr (0, f4)), (h2, .inr (6, ((((((((((((((((((((((((((((((f3.set 10 (.int 0)).set 11 (.int 0)).set 12 (.int 1)).set 11 (.int 0)).set 11 (.int 0)).set 11 (.int 0)).set 11 (.int 0)).set 11 (.int 0)).set 11 (.int 0)).set 11 (.int 0)).set 11 (.int 0)).set 11 (.int 0)).set 11 (.int 0)).set 11 (.int 0)).set 11 (.int 0)).set 11 (.int 0)).set 11 (.int 0)).set 11 (.int 0)).set 11 (.int 0)).set 11 (.int 0)).set 11 (.int 0)).set 11 (.int 0)).set 11 (.int 0)).set 11 (.int 0)).set 11 (.int 0)).set 11 (.int 0)).set 11 (.int 0)).set 11 (.int 0)).set 13 (.int 0)).set 13 (.int 1)))), (h3, .inr (2, f2)), (h4, .inl (cI, 8192, .inl (upd (k_fill 0 8192 g0) 782 1))), (h5, .inl (cI, 48000, .inl (upd g1 0 0))), (h6, .inl (cI, 48000, .inl (upd g2 0 0)))] := hD
  refine lv_if_eq (tgt := 47) hx hb dX11_core_27 (by decide) (fun c9 => absurd c9 (by decide)) (fun _ => ?_)
  refine lv_aload_n hx hb dX11_core_30 rfl (lv_at hl 0 rfl) ?_
  refine k_get (D := D) (ci := 11) (v := .ref h7) (N := 15) hx hb hts hin11 hown hK hP 0 rfl rfl (by decide) f9_11_7 (hts (.fieldLink RX11 64 "IntegerHouse" "answers" "LIntegerHouse$Answers;") (o9_X11_core _ (List.mem_of_getElem? (i := 7) rfl))) e14 dX11_core_31 ?_
  refine lv_aload_n hx hb dX11_core_34 rfl (lv_at hl 0 rfl) ?_
  refine k_get (D := D) (ci := 11) (v := .ref h3) (N := 15) hx hb hts hin11 hown hK hP 0 rfl rfl (by decide) f9_11_2 (hts (.fieldLink RX11 23 "IntegerHouse" "house" "LIntegerHouse$House;") (o9_X11_core _ (List.mem_of_getElem? (i := 2) rfl))) e3 dX11_core_35 ?_
  refine k_getN (host := "IntegerHouse") (D := D) (ci := 2) (v := .int 0) (N := 16) hx hb hts hin2 hown hK hP 4 rfl rfl (by decide) f9_2_13 (va_Nw.use rfl (hN.1 ("IntegerHouse", 213, "IntegerHouse$House", "on", "I", "IntegerHouse") (List.mem_of_getElem? (i := 20) rfl))) e4 dX11_core_38 ?_
  refine k_cVi (As := [.int 0]) (rest := []) (wc := [(h7, .inr (0, f4)), (h2, .inr (6, ((((((((((((((((((((((((((((((f3.set 10 (.int 0)).set 11 (.int 0)).set 12 (.int 1)).set 11 (.int 0)).set 11 (.int 0)).set 11 (.int 0)).set 11 (.int 0)).set 11 (.int 0)).set 11 (.int 0)).set 11 (.int 0)).set 11 (.int 0)).set 11 (.int 0)).set 11 (.int 0)).set 11 (.int 0)).set 11 (.int 0)).set 11 (.int 0)).set 11 (.int 0)).set 11 (.int 0)).set 11 (.int 0)).set 11 (.int 0)).set 11 (.int 0)).set 11 (.int 0)).set 11 (.int 0)).set 11 (.int 0)).set 11 (.int 0)).set 11 (.int 0)).set 11 (.int 0)).set 11 (.int 0)).set 13 (.int 0)).set 13 (.int 1)))), (h6, .inl (cI, 48000, .inl (upd g2 0 0)))]) (wr := [(h0, .inr (11, f0)), (h1, .inr (1, f1)), (h3, .inr (2, f2)), (h4, .inl (cI, 8192, .inl (upd (k_fill 0 8192 g0) 782 1))), (h5, .inl (cI, 48000, .inl (upd g1 0 0)))]) (w1 := [(h7, .inr (0, (f4.set 14 (.int 0)))), (h2, .inr (6, ((((((((((((((((((((((((((((((f3.set 10 (.int 0)).set 11 (.int 0)).set 12 (.int 1)).set 11 (.int 0)).set 11 (.int 0)).set 11 (.int 0)).set 11 (.int 0)).set 11 (.int 0)).set 11 (.int 0)).set 11 (.int 0)).set 11 (.int 0)).set 11 (.int 0)).set 11 (.int 0)).set 11 (.int 0)).set 11 (.int 0)).set 11 (.int 0)).set 11 (.int 0)).set 11 (.int 0)).set 11 (.int 0)).set 11 (.int 0)).set 11 (.int 0)).set 11 (.int 0)).set 11 (.int 0)).set 11 (.int 0)).set 11 (.int 0)).set 11 (.int 0)).set 11 (.int 0)).set 11 (.int 0)).set 13 (.int 0)).set 13 (.int 1)))), (h6, .inl (cI, 48000, .inl (upd g2 0 0)))]) ⟨hx, hb, hml, hown, hts⟩ hN hX hAE hK hP hD hS hA [2, 3, 7] [0, 1, 4, 5, 6] (ci := 0) rfl rfl rfl rfl (by decide +kernel) (by decide +kernel) (by decide +kernel) (c_X0_tellCore_0 l E D cI cJ cB cZ h7 f4 h2 (((((((((((((((((((((((((((((((f3.set 10 (.int 0)).set 11 (.int 0)).set 12 (.int 1)).set 11 (.int 0)).set 11 (.int 0)).set 11 (.int 0)).set 11 (.int 0)).set 11 (.int 0)).set 11 (.int 0)).set 11 (.int 0)).set 11 (.int 0)).set 11 (.int 0)).set 11 (.int 0)).set 11 (.int 0)).set 11 (.int 0)).set 11 (.int 0)).set 11 (.int 0)).set 11 (.int 0)).set 11 (.int 0)).set 11 (.int 0)).set 11 (.int 0)).set 11 (.int 0)).set 11 (.int 0)).set 11 (.int 0)).set 11 (.int 0)).set 11 (.int 0)).set 11 (.int 0)).set 11 (.int 0)).set 13 (.int 0)).set 13 (.int 1))) h6 ((upd g2 0 0)) e15 e16 (k_set (k_set (k_ne (by decide) (k_ne (by decide) (k_ne (by decide) (k_ne (by decide) (k_ne (by decide) (k_ne (by decide) (k_ne (by decide) (k_ne (by decide) (k_ne (by decide) (k_ne (by decide) (k_ne (by decide) (k_ne (by decide) (k_ne (by decide) (k_ne (by decide) (k_ne (by decide) (k_ne (by decide) (k_ne (by decide) (k_ne (by decide) (k_ne (by decide) (k_ne (by decide) (k_ne (by decide) (k_ne (by decide) (k_ne (by decide) (k_ne (by decide) (k_ne (by decide) (k_ne (by decide) (k_ne (by decide) (k_ne (by decide) e11)))))))))))))))))))))))))))))) (k_ne (by decide) (k_ne (by decide) (k_ne (by decide) (k_ne (by decide) (k_ne (by decide) (k_ne (by decide) (k_ne (by decide) (k_ne (by decide) (k_ne (by decide) (k_ne (by decide) (k_ne (by decide) (k_ne (by decide) (k_ne (by decide) (k_ne (by decide) (k_ne (by decide) (k_ne (by decide) (k_ne (by decide) (k_ne (by decide) (k_ne (by decide) (k_ne (by decide) (k_ne (by decide) (k_ne (by decide) (k_ne (by decide) (k_ne (by decide) (k_ne (by decide) (k_ne (by decide) (k_ne (by decide) (k_set (k_ne (by decide) (k_ne (by decide) e9)))))))))))))))))))))))))))))) (k_ne (by decide) (k_ne (by decide) (k_ne (by decide) (k_ne (by decide) (k_ne (by decide) (k_ne (by decide) (k_ne (by decide) (k_ne (by decide) (k_ne (by decide) (k_ne (by decide) (k_ne (by decide) (k_ne (by decide) (k_ne (by decide) (k_ne (by decide) (k_ne (by decide) (k_ne (by decide) (k_ne (by decide) (k_ne (by decide) (k_ne (by decide) (k_ne (by decide) (k_ne (by decide) (k_ne (by decide) (k_ne (by decide) (k_ne (by decide) (k_ne (by decide) (k_ne (by decide) (k_ne (by decide) (k_ne (by decide) (k_ne (by decide) (k_ne (by decide) e13)))))))))))))))))))))))))))))) rfl) (cwV 1 hts g9_X11_core_X0_tellCore_342 rfl rfl rfl (by decide +kernel) ⟨Nat.le_of_ble_eq_true rfl, Nat.le_of_ble_eq_true rfl⟩) rfl hl.1 (Nat.le_of_ble_eq_true rfl) dX11_core_41 ⟨Nat.le_of_ble_eq_true rfl, Nat.le_of_ble_eq_true rfl⟩ (fun H locs hP hD hS => ?_)
  have hP : va_P D vwCl [(h0, .inr (11, f0)), (h1, .inr (1, f1)), (h3, .inr (2, f2)), (h4, .inl (cI, 8192, .inl (upd (k_fill 0 8192 g0) 782 1))), (h5, .inl (cI, 48000, .inl (upd g1 0 0))), (h7, .inr (0, (f4.set 14 (.int 0)))), (h2, .inr (6, ((((((((((((((((((((((((((((((f3.set 10 (.int 0)).set 11 (.int 0)).set 12 (.int 1)).set 11 (.int 0)).set 11 (.int 0)).set 11 (.int 0)).set 11 (.int 0)).set 11 (.int 0)).set 11 (.int 0)).set 11 (.int 0)).set 11 (.int 0)).set 11 (.int 0)).set 11 (.int 0)).set 11 (.int 0)).set 11 (.int 0)).set 11 (.int 0)).set 11 (.int 0)).set 11 (.int 0)).set 11 (.int 0)).set 11 (.int 0)).set 11 (.int 0)).set 11 (.int 0)).set 11 (.int 0)).set 11 (.int 0)).set 11 (.int 0)).set 11 (.int 0)).set 11 (.int 0)).set 11 (.int 0)).set 13 (.int 0)).set 13 (.int 1)))), (h6, .inl (cI, 48000, .inl (upd g2 0 0)))] H := hP
  have hD : va_D A [(h0, .inr (11, f0)), (h1, .inr (1, f1)), (h3, .inr (2, f2)), (h4, .inl (cI, 8192, .inl (upd (k_fill 0 8192 g0) 782 1))), (h5, .inl (cI, 48000, .inl (upd g1 0 0))), (h7, .inr (0, (f4.set 14 (.int 0)))), (h2, .inr (6, ((((((((((((((((((((((((((((((f3.set 10 (.int 0)).set 11 (.int 0)).set 12 (.int 1)).set 11 (.int 0)).set 11 (.int 0)).set 11 (.int 0)).set 11 (.int 0)).set 11 (.int 0)).set 11 (.int 0)).set 11 (.int 0)).set 11 (.int 0)).set 11 (.int 0)).set 11 (.int 0)).set 11 (.int 0)).set 11 (.int 0)).set 11 (.int 0)).set 11 (.int 0)).set 11 (.int 0)).set 11 (.int 0)).set 11 (.int 0)).set 11 (.int 0)).set 11 (.int 0)).set 11 (.int 0)).set 11 (.int 0)).set 11 (.int 0)).set 11 (.int 0)).set 11 (.int 0)).set 11 (.int 0)).set 13 (.int 0)).set 13 (.int 1)))), (h6, .inl (cI, 48000, .inl (upd g2 0 0)))] := hD
  refine lv_goto (tgt := 49) hx hb dX11_core_44 (by decide) ?_
  have hP := hP.sub (ws' := [(h0, .inr (11, f0)), (h1, .inr (1, f1)), (h3, .inr (2, f2)), (h2, .inr (6, ((((((((((((((((((((((((((((((f3.set 10 (.int 0)).set 11 (.int 0)).set 12 (.int 1)).set 11 (.int 0)).set 11 (.int 0)).set 11 (.int 0)).set 11 (.int 0)).set 11 (.int 0)).set 11 (.int 0)).set 11 (.int 0)).set 11 (.int 0)).set 11 (.int 0)).set 11 (.int 0)).set 11 (.int 0)).set 11 (.int 0)).set 11 (.int 0)).set 11 (.int 0)).set 11 (.int 0)).set 11 (.int 0)).set 11 (.int 0)).set 11 (.int 0)).set 11 (.int 0)).set 11 (.int 0)).set 11 (.int 0)).set 11 (.int 0)).set 11 (.int 0)).set 11 (.int 0)).set 11 (.int 0)).set 13 (.int 0)).set 13 (.int 1)))), (h4, .inl (cI, 8192, .inl (upd (k_fill 0 8192 g0) 782 1))), (h5, .inl (cI, 48000, .inl (upd g1 0 0))), (h6, .inl (cI, 48000, .inl (upd g2 0 0))), (h7, .inr (0, (f4.set 14 (.int 0))))]) [0, 1, 2, 6, 3, 4, 7, 5] rfl
  have hD := hD.sub (ws' := [(h0, .inr (11, f0)), (h1, .inr (1, f1)), (h3, .inr (2, f2)), (h2, .inr (6, ((((((((((((((((((((((((((((((f3.set 10 (.int 0)).set 11 (.int 0)).set 12 (.int 1)).set 11 (.int 0)).set 11 (.int 0)).set 11 (.int 0)).set 11 (.int 0)).set 11 (.int 0)).set 11 (.int 0)).set 11 (.int 0)).set 11 (.int 0)).set 11 (.int 0)).set 11 (.int 0)).set 11 (.int 0)).set 11 (.int 0)).set 11 (.int 0)).set 11 (.int 0)).set 11 (.int 0)).set 11 (.int 0)).set 11 (.int 0)).set 11 (.int 0)).set 11 (.int 0)).set 11 (.int 0)).set 11 (.int 0)).set 11 (.int 0)).set 11 (.int 0)).set 11 (.int 0)).set 11 (.int 0)).set 13 (.int 0)).set 13 (.int 1)))), (h4, .inl (cI, 8192, .inl (upd (k_fill 0 8192 g0) 782 1))), (h5, .inl (cI, 48000, .inl (upd g1 0 0))), (h6, .inl (cI, 48000, .inl (upd g2 0 0))), (h7, .inr (0, (f4.set 14 (.int 0))))]) [0, 1, 2, 6, 3, 4, 7, 5] (by decide +kernel) rfl
  exact W.iret (v := 0) hx hb hr (fun t ht hW => ⟨⟨0, (), rfl, rfl, kB_mk ht hW hP hK hD⟩, hS.F ht⟩) hS.2.2 dX11_core_49
