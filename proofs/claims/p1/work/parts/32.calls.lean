theorem dX12_isSign_0 : decode cX12_isSign 0 = .ok (.aload_n 0, 1) := by decide +kernel
theorem dX12_isSign_1 : decode cX12_isSign 1 = .ok (.getfield 87, 3) := by decide +kernel
theorem dX12_isSign_4 : decode cX12_isSign 4 = .ok (.aload_n 0, 1) := by decide +kernel
theorem dX12_isSign_5 : decode cX12_isSign 5 = .ok (.getfield 597, 3) := by decide +kernel
theorem dX12_isSign_8 : decode cX12_isSign 8 = .ok (.iaload, 1) := by decide +kernel
theorem dX12_isSign_9 : decode cX12_isSign 9 = .ok (.iconst 5, 1) := by decide +kernel
theorem dX12_isSign_10 : decode cX12_isSign 10 = .ok (.if_icmp .ne 20, 3) := by decide +kernel
theorem dX12_isSign_30 : decode cX12_isSign 30 = .ok (.iconst 0, 1) := by decide +kernel
theorem dX12_isSign_31 : decode cX12_isSign 31 = .ok (.ireturn, 1) := by decide +kernel
theorem dX12_isWord_0 : decode cX12_isWord 0 = .ok (.aload_n 0, 1) := by decide +kernel
theorem dX12_isWord_1 : decode cX12_isWord 1 = .ok (.getfield 87, 3) := by decide +kernel
theorem dX12_isWord_4 : decode cX12_isWord 4 = .ok (.aload_n 0, 1) := by decide +kernel
theorem dX12_isWord_5 : decode cX12_isWord 5 = .ok (.getfield 597, 3) := by decide +kernel
theorem dX12_isWord_8 : decode cX12_isWord 8 = .ok (.iaload, 1) := by decide +kernel
theorem dX12_isWord_9 : decode cX12_isWord 9 = .ok (.iconst 4, 1) := by decide +kernel
theorem dX12_isWord_10 : decode cX12_isWord 10 = .ok (.if_icmp .ne 20, 3) := by decide +kernel
theorem dX12_isWord_30 : decode cX12_isWord 30 = .ok (.iconst 0, 1) := by decide +kernel
theorem dX12_isWord_31 : decode cX12_isWord 31 = .ok (.ireturn, 1) := by decide +kernel
theorem dX12_beginSlot_0 : decode cX12_beginSlot 0 = .ok (.aload_n 0, 1) := by decide +kernel
theorem dX12_beginSlot_1 : decode cX12_beginSlot 1 = .ok (.iload_n 1, 1) := by decide +kernel
theorem dX12_beginSlot_2 : decode cX12_beginSlot 2 = .ok (.putfield 630, 3) := by decide +kernel
theorem dX12_beginSlot_5 : decode cX12_beginSlot 5 = .ok (.aload_n 0, 1) := by decide +kernel
theorem dX12_beginSlot_6 : decode cX12_beginSlot 6 = .ok (.iconst 0, 1) := by decide +kernel
theorem dX12_beginSlot_7 : decode cX12_beginSlot 7 = .ok (.putfield 633, 3) := by decide +kernel
theorem dX12_beginSlot_10 : decode cX12_beginSlot 10 = .ok (.aload_n 0, 1) := by decide +kernel
theorem dX12_beginSlot_11 : decode cX12_beginSlot 11 = .ok (.getfield 105, 3) := by decide +kernel
theorem dX12_beginSlot_14 : decode cX12_beginSlot 14 = .ok (.iload_n 1, 1) := by decide +kernel
theorem dX12_beginSlot_15 : decode cX12_beginSlot 15 = .ok (.iconst 0, 1) := by decide +kernel
theorem dX12_beginSlot_16 : decode cX12_beginSlot 16 = .ok (.iastore, 1) := by decide +kernel
theorem dX12_beginSlot_17 : decode cX12_beginSlot 17 = .ok (.aload_n 0, 1) := by decide +kernel
theorem dX12_beginSlot_18 : decode cX12_beginSlot 18 = .ok (.getfield 120, 3) := by decide +kernel
theorem dX12_beginSlot_21 : decode cX12_beginSlot 21 = .ok (.iload_n 1, 1) := by decide +kernel
theorem dX12_beginSlot_22 : decode cX12_beginSlot 22 = .ok (.iconst 0, 1) := by decide +kernel
theorem dX12_beginSlot_23 : decode cX12_beginSlot 23 = .ok (.iastore, 1) := by decide +kernel
theorem dX12_beginSlot_24 : decode cX12_beginSlot 24 = .ok (.aload_n 0, 1) := by decide +kernel
theorem dX12_beginSlot_25 : decode cX12_beginSlot 25 = .ok (.getfield 153, 3) := by decide +kernel
theorem dX12_beginSlot_28 : decode cX12_beginSlot 28 = .ok (.iload_n 1, 1) := by decide +kernel
theorem dX12_beginSlot_29 : decode cX12_beginSlot 29 = .ok (.iconst 0, 1) := by decide +kernel
theorem dX12_beginSlot_30 : decode cX12_beginSlot 30 = .ok (.iastore, 1) := by decide +kernel
theorem dX12_beginSlot_31 : decode cX12_beginSlot 31 = .ok (.aload_n 0, 1) := by decide +kernel
theorem dX12_beginSlot_32 : decode cX12_beginSlot 32 = .ok (.getfield 165, 3) := by decide +kernel
theorem dX12_beginSlot_35 : decode cX12_beginSlot 35 = .ok (.iload_n 1, 1) := by decide +kernel
theorem dX12_beginSlot_36 : decode cX12_beginSlot 36 = .ok (.iconst 0, 1) := by decide +kernel
theorem dX12_beginSlot_37 : decode cX12_beginSlot 37 = .ok (.iastore, 1) := by decide +kernel
theorem dX12_beginSlot_38 : decode cX12_beginSlot 38 = .ok (.aload_n 0, 1) := by decide +kernel
theorem dX12_beginSlot_39 : decode cX12_beginSlot 39 = .ok (.getfield 181, 3) := by decide +kernel
theorem dX12_beginSlot_42 : decode cX12_beginSlot 42 = .ok (.iload_n 1, 1) := by decide +kernel
theorem dX12_beginSlot_43 : decode cX12_beginSlot 43 = .ok (.iconst 0, 1) := by decide +kernel
theorem dX12_beginSlot_44 : decode cX12_beginSlot 44 = .ok (.iastore, 1) := by decide +kernel
theorem dX12_beginSlot_45 : decode cX12_beginSlot 45 = .ok (.return_, 1) := by decide +kernel
theorem dX12_openFormula_0 : decode cX12_openFormula 0 = .ok (.aload_n 0, 1) := by decide +kernel
theorem dX12_openFormula_1 : decode cX12_openFormula 1 = .ok (.dup, 1) := by decide +kernel
theorem dX12_openFormula_2 : decode cX12_openFormula 2 = .ok (.getfield 639, 3) := by decide +kernel
theorem dX12_openFormula_5 : decode cX12_openFormula 5 = .ok (.iconst 1, 1) := by decide +kernel
theorem dX12_openFormula_6 : decode cX12_openFormula 6 = .ok (.iadd, 1) := by decide +kernel
theorem dX12_openFormula_7 : decode cX12_openFormula 7 = .ok (.putfield 639, 3) := by decide +kernel
theorem dX12_openFormula_10 : decode cX12_openFormula 10 = .ok (.aload_n 0, 1) := by decide +kernel
theorem dX12_openFormula_11 : decode cX12_openFormula 11 = .ok (.getfield 187, 3) := by decide +kernel
theorem dX12_openFormula_14 : decode cX12_openFormula 14 = .ok (.aload_n 0, 1) := by decide +kernel
theorem dX12_openFormula_15 : decode cX12_openFormula 15 = .ok (.getfield 639, 3) := by decide +kernel
theorem dX12_openFormula_18 : decode cX12_openFormula 18 = .ok (.iconst 0, 1) := by decide +kernel
theorem dX12_openFormula_19 : decode cX12_openFormula 19 = .ok (.iastore, 1) := by decide +kernel
theorem dX12_openFormula_20 : decode cX12_openFormula 20 = .ok (.aload_n 0, 1) := by decide +kernel
theorem dX12_openFormula_21 : decode cX12_openFormula 21 = .ok (.getfield 190, 3) := by decide +kernel
theorem dX12_openFormula_24 : decode cX12_openFormula 24 = .ok (.aload_n 0, 1) := by decide +kernel
theorem dX12_openFormula_25 : decode cX12_openFormula 25 = .ok (.getfield 639, 3) := by decide +kernel
theorem dX12_openFormula_28 : decode cX12_openFormula 28 = .ok (.iconst (-1), 1) := by decide +kernel
theorem dX12_openFormula_29 : decode cX12_openFormula 29 = .ok (.iastore, 1) := by decide +kernel
theorem dX12_openFormula_30 : decode cX12_openFormula 30 = .ok (.aload_n 0, 1) := by decide +kernel
theorem dX12_openFormula_31 : decode cX12_openFormula 31 = .ok (.getfield 193, 3) := by decide +kernel
theorem dX12_openFormula_34 : decode cX12_openFormula 34 = .ok (.aload_n 0, 1) := by decide +kernel
theorem dX12_openFormula_35 : decode cX12_openFormula 35 = .ok (.getfield 639, 3) := by decide +kernel
theorem dX12_openFormula_38 : decode cX12_openFormula 38 = .ok (.iconst (-1), 1) := by decide +kernel
theorem dX12_openFormula_39 : decode cX12_openFormula 39 = .ok (.iastore, 1) := by decide +kernel
theorem dX12_openFormula_40 : decode cX12_openFormula 40 = .ok (.aload_n 0, 1) := by decide +kernel
theorem dX12_openFormula_41 : decode cX12_openFormula 41 = .ok (.getfield 199, 3) := by decide +kernel
theorem dX12_openFormula_44 : decode cX12_openFormula 44 = .ok (.aload_n 0, 1) := by decide +kernel
theorem dX12_openFormula_45 : decode cX12_openFormula 45 = .ok (.getfield 639, 3) := by decide +kernel
theorem dX12_openFormula_48 : decode cX12_openFormula 48 = .ok (.iconst (-1), 1) := by decide +kernel
theorem dX12_openFormula_49 : decode cX12_openFormula 49 = .ok (.iastore, 1) := by decide +kernel
theorem dX12_openFormula_50 : decode cX12_openFormula 50 = .ok (.aload_n 0, 1) := by decide +kernel
theorem dX12_openFormula_51 : decode cX12_openFormula 51 = .ok (.getfield 205, 3) := by decide +kernel
theorem dX12_openFormula_54 : decode cX12_openFormula 54 = .ok (.aload_n 0, 1) := by decide +kernel
theorem dX12_openFormula_55 : decode cX12_openFormula 55 = .ok (.getfield 639, 3) := by decide +kernel
theorem dX12_openFormula_58 : decode cX12_openFormula 58 = .ok (.iconst 0, 1) := by decide +kernel
theorem dX12_openFormula_59 : decode cX12_openFormula 59 = .ok (.iastore, 1) := by decide +kernel
theorem dX12_openFormula_60 : decode cX12_openFormula 60 = .ok (.return_, 1) := by decide +kernel
theorem dX12_readFormula_0 : decode cX12_readFormula 0 = .ok (.aload_n 0, 1) := by decide +kernel
theorem dX12_readFormula_1 : decode cX12_readFormula 1 = .ok (.iconst (-1), 1) := by decide +kernel
theorem dX12_readFormula_2 : decode cX12_readFormula 2 = .ok (.putfield 639, 3) := by decide +kernel
theorem dX12_readFormula_5 : decode cX12_readFormula 5 = .ok (.aload_n 0, 1) := by decide +kernel
theorem dX12_readFormula_6 : decode cX12_readFormula 6 = .ok (.iconst (-1), 1) := by decide +kernel
theorem dX12_readFormula_7 : decode cX12_readFormula 7 = .ok (.putfield 642, 3) := by decide +kernel
theorem dX12_readFormula_10 : decode cX12_readFormula 10 = .ok (.aload_n 0, 1) := by decide +kernel
theorem dX12_readFormula_11 : decode cX12_readFormula 11 = .ok (.invokevirtual 645, 3) := by decide +kernel
theorem dX12_readFormula_14 : decode cX12_readFormula 14 = .ok (.aload_n 0, 1) := by decide +kernel
theorem dX12_readFormula_15 : decode cX12_readFormula 15 = .ok (.iconst 1, 1) := by decide +kernel
theorem dX12_readFormula_16 : decode cX12_readFormula 16 = .ok (.putfield 648, 3) := by decide +kernel
theorem dX12_readFormula_19 : decode cX12_readFormula 19 = .ok (.aload_n 0, 1) := by decide +kernel
theorem dX12_readFormula_20 : decode cX12_readFormula 20 = .ok (.getfield 562, 3) := by decide +kernel
theorem dX12_readFormula_23 : decode cX12_readFormula 23 = .ok (.ifCond .ne 62, 3) := by decide +kernel
theorem dX12_readFormula_26 : decode cX12_readFormula 26 = .ok (.aload_n 0, 1) := by decide +kernel
theorem dX12_readFormula_27 : decode cX12_readFormula 27 = .ok (.getfield 648, 3) := by decide +kernel
theorem dX12_readFormula_30 : decode cX12_readFormula 30 = .ok (.bipush 7, 2) := by decide +kernel
theorem dX12_readFormula_32 : decode cX12_readFormula 32 = .ok (.if_icmp .eq 53, 3) := by decide +kernel
theorem dX12_readFormula_35 : decode cX12_readFormula 35 = .ok (.aload_n 0, 1) := by decide +kernel
theorem dX12_readFormula_36 : decode cX12_readFormula 36 = .ok (.getfield 648, 3) := by decide +kernel
theorem dX12_readFormula_39 : decode cX12_readFormula 39 = .ok (.lookupswitch 39 #[(1, 25), (2, 32)], 25) := by decide +kernel
theorem dX12_readFormula_64 : decode cX12_readFormula 64 = .ok (.aload_n 0, 1) := by decide +kernel
theorem dX12_readFormula_65 : decode cX12_readFormula 65 = .ok (.invokevirtual 651, 3) := by decide +kernel
theorem dX12_readFormula_68 : decode cX12_readFormula 68 = .ok (.goto (-49), 3) := by decide +kernel
theorem dX12_readFormula_85 : decode cX12_readFormula 85 = .ok (.aload_n 0, 1) := by decide +kernel
theorem dX12_readFormula_86 : decode cX12_readFormula 86 = .ok (.getfield 184, 3) := by decide +kernel
theorem dX12_readFormula_89 : decode cX12_readFormula 89 = .ok (.aload_n 0, 1) := by decide +kernel
theorem dX12_readFormula_90 : decode cX12_readFormula 90 = .ok (.getfield 630, 3) := by decide +kernel
theorem dX12_readFormula_93 : decode cX12_readFormula 93 = .ok (.aload_n 0, 1) := by decide +kernel
theorem dX12_readFormula_94 : decode cX12_readFormula 94 = .ok (.getfield 660, 3) := by decide +kernel
theorem dX12_readFormula_97 : decode cX12_readFormula 97 = .ok (.iastore, 1) := by decide +kernel
theorem dX12_readFormula_98 : decode cX12_readFormula 98 = .ok (.aload_n 0, 1) := by decide +kernel
theorem dX12_readFormula_99 : decode cX12_readFormula 99 = .ok (.getfield 660, 3) := by decide +kernel
theorem dX12_readFormula_102 : decode cX12_readFormula 102 = .ok (.ireturn, 1) := by decide +kernel
theorem dX12_readOne_0 : decode cX12_readOne 0 = .ok (.aload_n 0, 1) := by decide +kernel
theorem dX12_readOne_1 : decode cX12_readOne 1 = .ok (.getfield 87, 3) := by decide +kernel
theorem dX12_readOne_4 : decode cX12_readOne 4 = .ok (.aload_n 0, 1) := by decide +kernel
theorem dX12_readOne_5 : decode cX12_readOne 5 = .ok (.getfield 597, 3) := by decide +kernel
theorem dX12_readOne_8 : decode cX12_readOne 8 = .ok (.iaload, 1) := by decide +kernel
theorem dX12_readOne_9 : decode cX12_readOne 9 = .ok (.istore_n 1, 1) := by decide +kernel
theorem dX12_readOne_10 : decode cX12_readOne 10 = .ok (.aload_n 0, 1) := by decide +kernel
theorem dX12_readOne_11 : decode cX12_readOne 11 = .ok (.getfield 90, 3) := by decide +kernel
theorem dX12_readOne_14 : decode cX12_readOne 14 = .ok (.aload_n 0, 1) := by decide +kernel
theorem dX12_readOne_15 : decode cX12_readOne 15 = .ok (.getfield 597, 3) := by decide +kernel
theorem dX12_readOne_18 : decode cX12_readOne 18 = .ok (.iaload, 1) := by decide +kernel
theorem dX12_readOne_19 : decode cX12_readOne 19 = .ok (.istore_n 2, 1) := by decide +kernel
theorem dX12_readOne_20 : decode cX12_readOne 20 = .ok (.aload_n 0, 1) := by decide +kernel
theorem dX12_readOne_21 : decode cX12_readOne 21 = .ok (.getfield 105, 3) := by decide +kernel
theorem dX12_readOne_24 : decode cX12_readOne 24 = .ok (.aload_n 0, 1) := by decide +kernel
theorem dX12_readOne_25 : decode cX12_readOne 25 = .ok (.getfield 630, 3) := by decide +kernel
theorem dX12_readOne_28 : decode cX12_readOne 28 = .ok (.iaload, 1) := by decide +kernel
theorem dX12_readOne_29 : decode cX12_readOne 29 = .ok (.istore_n 3, 1) := by decide +kernel
theorem dX12_readOne_30 : decode cX12_readOne 30 = .ok (.aload_n 0, 1) := by decide +kernel
theorem dX12_readOne_31 : decode cX12_readOne 31 = .ok (.iconst 5, 1) := by decide +kernel
theorem dX12_readOne_32 : decode cX12_readOne 32 = .ok (.invokevirtual 666, 3) := by decide +kernel
theorem dX12_readOne_35 : decode cX12_readOne 35 = .ok (.ifCond .eq 23, 3) := by decide +kernel
theorem dX12_readOne_58 : decode cX12_readOne 58 = .ok (.aload_n 0, 1) := by decide +kernel
theorem dX12_readOne_59 : decode cX12_readOne 59 = .ok (.iconst 1, 1) := by decide +kernel
theorem dX12_readOne_60 : decode cX12_readOne 60 = .ok (.invokevirtual 672, 3) := by decide +kernel
theorem dX12_readOne_63 : decode cX12_readOne 63 = .ok (.ifCond .eq 14, 3) := by decide +kernel
theorem dX12_readOne_77 : decode cX12_readOne 77 = .ok (.aload_n 0, 1) := by decide +kernel
theorem dX12_readOne_78 : decode cX12_readOne 78 = .ok (.bipush 6, 2) := by decide +kernel
theorem dX12_readOne_80 : decode cX12_readOne 80 = .ok (.invokevirtual 666, 3) := by decide +kernel
theorem dX12_readOne_83 : decode cX12_readOne 83 = .ok (.ifCond .ne 12, 3) := by decide +kernel
theorem dX12_readOne_86 : decode cX12_readOne 86 = .ok (.aload_n 0, 1) := by decide +kernel
theorem dX12_readOne_87 : decode cX12_readOne 87 = .ok (.bipush 7, 2) := by decide +kernel
theorem dX12_readOne_89 : decode cX12_readOne 89 = .ok (.invokevirtual 666, 3) := by decide +kernel
theorem dX12_readOne_92 : decode cX12_readOne 92 = .ok (.ifCond .eq 21, 3) := by decide +kernel
theorem dX12_readOne_113 : decode cX12_readOne 113 = .ok (.iload_n 1, 1) := by decide +kernel
theorem dX12_readOne_114 : decode cX12_readOne 114 = .ok (.iconst 3, 1) := by decide +kernel
theorem dX12_readOne_115 : decode cX12_readOne 115 = .ok (.if_icmp .ne 95, 3) := by decide +kernel
theorem dX12_readOne_210 : decode cX12_readOne 210 = .ok (.iload_n 1, 1) := by decide +kernel
theorem dX12_readOne_211 : decode cX12_readOne 211 = .ok (.iconst 2, 1) := by decide +kernel
theorem dX12_readOne_212 : decode cX12_readOne 212 = .ok (.if_icmp .ne 82, 3) := by decide +kernel
theorem dX12_readOne_294 : decode cX12_readOne 294 = .ok (.iload_n 1, 1) := by decide +kernel
theorem dX12_readOne_295 : decode cX12_readOne 295 = .ok (.iconst 2, 1) := by decide +kernel
theorem dX12_readOne_296 : decode cX12_readOne 296 = .ok (.if_icmp .eq 39, 3) := by decide +kernel
theorem dX12_readOne_299 : decode cX12_readOne 299 = .ok (.aload_n 0, 1) := by decide +kernel
theorem dX12_readOne_300 : decode cX12_readOne 300 = .ok (.bipush 9, 2) := by decide +kernel
theorem dX12_readOne_302 : decode cX12_readOne 302 = .ok (.invokevirtual 672, 3) := by decide +kernel
theorem dX12_readOne_305 : decode cX12_readOne 305 = .ok (.ifCond .ne 30, 3) := by decide +kernel
theorem dX12_readOne_308 : decode cX12_readOne 308 = .ok (.aload_n 0, 1) := by decide +kernel
theorem dX12_readOne_309 : decode cX12_readOne 309 = .ok (.iconst 3, 1) := by decide +kernel
theorem dX12_readOne_310 : decode cX12_readOne 310 = .ok (.invokevirtual 672, 3) := by decide +kernel
theorem dX12_readOne_313 : decode cX12_readOne 313 = .ok (.ifCond .ne 22, 3) := by decide +kernel
theorem dX12_readOne_316 : decode cX12_readOne 316 = .ok (.iload_n 1, 1) := by decide +kernel
theorem dX12_readOne_317 : decode cX12_readOne 317 = .ok (.iconst 4, 1) := by decide +kernel
theorem dX12_readOne_318 : decode cX12_readOne 318 = .ok (.if_icmp .ne 49, 3) := by decide +kernel
theorem dX12_readOne_367 : decode cX12_readOne 367 = .ok (.aload_n 0, 1) := by decide +kernel
theorem dX12_readOne_368 : decode cX12_readOne 368 = .ok (.invokevirtual 698, 3) := by decide +kernel
theorem dX12_readOne_371 : decode cX12_readOne 371 = .ok (.return_, 1) := by decide +kernel
theorem dX12_readsFormula_0 : decode cX12_readsFormula 0 = .ok (.aload_n 0, 1) := by decide +kernel
theorem dX12_readsFormula_1 : decode cX12_readsFormula 1 = .ok (.getfield 597, 3) := by decide +kernel
theorem dX12_readsFormula_4 : decode cX12_readsFormula 4 = .ok (.istore_n 1, 1) := by decide +kernel
theorem dX12_readsFormula_5 : decode cX12_readsFormula 5 = .ok (.aload_n 0, 1) := by decide +kernel
theorem dX12_readsFormula_6 : decode cX12_readsFormula 6 = .ok (.bipush 24, 2) := by decide +kernel
theorem dX12_readsFormula_8 : decode cX12_readsFormula 8 = .ok (.invokevirtual 842, 3) := by decide +kernel
theorem dX12_readsFormula_11 : decode cX12_readsFormula 11 = .ok (.aload_n 0, 1) := by decide +kernel
theorem dX12_readsFormula_12 : decode cX12_readsFormula 12 = .ok (.invokevirtual 845, 3) := by decide +kernel
theorem dX12_readsFormula_15 : decode cX12_readsFormula 15 = .ok (.istore_n 2, 1) := by decide +kernel
theorem dX12_readsFormula_16 : decode cX12_readsFormula 16 = .ok (.aload_n 0, 1) := by decide +kernel
theorem dX12_readsFormula_17 : decode cX12_readsFormula 17 = .ok (.getfield 562, 3) := by decide +kernel
theorem dX12_readsFormula_20 : decode cX12_readsFormula 20 = .ok (.ifCond .ne 19, 3) := by decide +kernel
theorem dX12_readsFormula_39 : decode cX12_readsFormula 39 = .ok (.aload_n 0, 1) := by decide +kernel
theorem dX12_readsFormula_40 : decode cX12_readsFormula 40 = .ok (.getfield 562, 3) := by decide +kernel
theorem dX12_readsFormula_43 : decode cX12_readsFormula 43 = .ok (.ifCond .ne 7, 3) := by decide +kernel
theorem dX12_readsFormula_50 : decode cX12_readsFormula 50 = .ok (.iconst 0, 1) := by decide +kernel
theorem dX12_readsFormula_51 : decode cX12_readsFormula 51 = .ok (.ireturn, 1) := by decide +kernel
set_option maxHeartbeats 400000000 in
set_option maxRecDepth 100000 in
theorem c_X12_beginSlot_0 (l : Launch) (E : kE) (D : va_G) (cI cJ cB cZ : ClassId) (h0 : Nat) (f0 : List Value) (h1 : Nat) (g0 : Nat → Int32) (h2 : Nat) (g1 : Nat → Int32) (h3 : Nat) (g2 : Nat → Int32) (h4 : Nat) (g3 : Nat → Int32) (h5 : Nat) (g4 : Nat → Int32) (e0 : f0[66]? = some (.int 0)) (e1 : f0[67]? = some (.int 0)) (e2 : f0[40]? = some (.ref h1)) (e3 : f0[45]? = some (.ref h2)) (e4 : f0[56]? = some (.ref h3)) (e5 : f0[60]? = some (.ref h4)) (e6 : f0[65]? = some (.ref h5)) : kV l E D (kT cI cJ cB cZ) yX12_beginSlot vW_X12_beginSlot ({ frames := 0, cells := 0, slots := 0, locals := 0 }) [.ref h0, .int 24] [(h0, .inr (12, f0)), (h1, .inl (cI, 26, .inl g0)), (h2, .inl (cI, 26, .inl g1)), (h3, .inl (cI, 26, .inl g2)), (h4, .inl (cI, 26, .inl g3)), (h5, .inl (cI, 26, .inl g4))] (fun _ : Unit => [(h0, .inr (12, ((f0.set 66 (.int 24)).set 67 (.int 0)))), (h1, .inl (cI, 26, .inl (upd g0 24 0))), (h2, .inl (cI, 26, .inl (upd g1 24 0))), (h3, .inl (cI, 26, .inl (upd g2 24 0))), (h4, .inl (cI, 26, .inl (upd g3 24 0))), (h5, .inl (cI, 26, .inl (upd g4 24 0)))]) 0 0 := by
  intro sz
  refine Met.ofW (cc := cX12_beginSlot) (maxL := 2) (ret := none) (by decide) rfl ?_
  intro p e s m args below meth c s₁ B hml hv
  obtain ⟨rfl, hsz, hP, hK, hD0, hN, hX⟩ := hv
  have hx := B.exec
  have hb := B.bytes
  have hr := B.returns
  have hts := atoms_spec (ws := vW_X12_beginSlot) B.pre
  have hown : s.vm.findClass RX12 = some m.cls := findClass_of_methodNamed B.named
  have hlocks := B.notSynchronized
  have hin12 : ∀ w ∈ wsX120, w ∈ vW_X12_beginSlot := u9_X12_beginSlot_wsX120
  subst hsz
  have hD := hD0.self (sz := s.heap.size)
  have hAE := k_AE hD0 hX
  generalize hAe : va_A [(h0, .inr (12, f0)), (h1, .inl (cI, 26, .inl g0)), (h2, .inl (cI, 26, .inl g1)), (h3, .inl (cI, 26, .inl g2)), (h4, .inl (cI, 26, .inl g3)), (h5, .inl (cI, 26, .inl g4))] s.heap.size = A at hD hAE ⊢
  have hA : ∀ q : Nat, s.heap.size ≤ q → A q := fun q h => by rw [← hAe]; exact Or.inr h
  have hS : va_S A s.heap s.heap [] := va_S.rf
  have hP : va_P D vwCl [(h0, .inr (12, f0)), (h1, .inl (cI, 26, .inl g0)), (h2, .inl (cI, 26, .inl g1)), (h3, .inl (cI, 26, .inl g2)), (h4, .inl (cI, 26, .inl g3)), (h5, .inl (cI, 26, .inl g4))] s.heap := hP
  have hl := lv_entry ([.ref h0, .int 24] : List Value) (n := 2) (Nat.le_of_ble_eq_true rfl)
  rw [lg_entry_eq]
  generalize (lg_sl ([.ref h0, .int 24]) ++ List.replicate (2 - (lg_sl ([.ref h0, .int 24])).length) Slot.unset).toArray = ls at hl ⊢
  have hl : lv_has ls 2 [(0, .ref h0), (1, .int 24)] := hl
  refine lv_aload_n hx hb dX12_beginSlot_0 rfl (lv_at hl 0 rfl) ?_
  refine lv_iload_n hx hb dX12_beginSlot_1 rfl (lv_at hl 1 rfl) ?_
  refine k_put (D := D) (ci := 12) (v := .int 24) (ty := .int) (N := 195) hx hb hts hin12 tyX12 tyX12_ok nmX12 hown hK hP hD hS 0 rfl rfl (by decide) f9_12_66 (hts (.fieldLink RX12 630 "IntegerHouseModel" "slot" "I") (o9_X12_beginSlot _ (List.mem_of_getElem? (i := 0) rfl))) rfl pd_2 rfl rfl (k_len e0) dX12_beginSlot_2 (fun H locs hP hD hS => ?_)
  have hP : va_P D vwCl [(h0, .inr (12, (f0.set 66 (.int 24)))), (h1, .inl (cI, 26, .inl g0)), (h2, .inl (cI, 26, .inl g1)), (h3, .inl (cI, 26, .inl g2)), (h4, .inl (cI, 26, .inl g3)), (h5, .inl (cI, 26, .inl g4))] H := hP
  have hD : va_D A [(h0, .inr (12, (f0.set 66 (.int 24)))), (h1, .inl (cI, 26, .inl g0)), (h2, .inl (cI, 26, .inl g1)), (h3, .inl (cI, 26, .inl g2)), (h4, .inl (cI, 26, .inl g3)), (h5, .inl (cI, 26, .inl g4))] := hD
  refine lv_aload_n hx hb dX12_beginSlot_5 rfl (lv_at hl 0 rfl) ?_
  refine lv_iconst (v := 0) hx hb dX12_beginSlot_6 (by decide) ?_
  refine k_put (D := D) (ci := 12) (v := .int 0) (ty := .int) (N := 195) hx hb hts hin12 tyX12 tyX12_ok nmX12 hown hK hP hD hS 0 rfl rfl (by decide) f9_12_67 (hts (.fieldLink RX12 633 "IntegerHouseModel" "open" "I") (o9_X12_beginSlot _ (List.mem_of_getElem? (i := 1) rfl))) rfl pd_2 rfl rfl (k_len (k_ne (by decide) e1)) dX12_beginSlot_7 (fun H locs hP hD hS => ?_)
  have hP : va_P D vwCl [(h0, .inr (12, ((f0.set 66 (.int 24)).set 67 (.int 0)))), (h1, .inl (cI, 26, .inl g0)), (h2, .inl (cI, 26, .inl g1)), (h3, .inl (cI, 26, .inl g2)), (h4, .inl (cI, 26, .inl g3)), (h5, .inl (cI, 26, .inl g4))] H := hP
  have hD : va_D A [(h0, .inr (12, ((f0.set 66 (.int 24)).set 67 (.int 0)))), (h1, .inl (cI, 26, .inl g0)), (h2, .inl (cI, 26, .inl g1)), (h3, .inl (cI, 26, .inl g2)), (h4, .inl (cI, 26, .inl g3)), (h5, .inl (cI, 26, .inl g4))] := hD
  refine lv_aload_n hx hb dX12_beginSlot_10 rfl (lv_at hl 0 rfl) ?_
  refine k_get (D := D) (ci := 12) (v := .ref h1) (N := 195) hx hb hts hin12 hown hK hP 0 rfl rfl (by decide) f9_12_40 (hts (.fieldLink RX12 105 "IntegerHouseModel" "textCount" "[I") (o9_X12_beginSlot _ (List.mem_of_getElem? (i := 2) rfl))) (k_ne (by decide) (k_ne (by decide) e2)) dX12_beginSlot_11 ?_
  refine lv_iload_n hx hb dX12_beginSlot_14 rfl (lv_at hl 1 rfl) ?_
  refine lv_iconst (v := 0) hx hb dX12_beginSlot_15 (by decide) ?_
  refine va_iast hx hb hK hP hD hS 1 0 rfl rfl (k_in (by decide)) dX12_beginSlot_16 (fun H locs hP hD hS => ?_)
  have hP : va_P D vwCl [(h0, .inr (12, ((f0.set 66 (.int 24)).set 67 (.int 0)))), (h1, .inl (cI, 26, .inl (upd g0 24 0))), (h2, .inl (cI, 26, .inl g1)), (h3, .inl (cI, 26, .inl g2)), (h4, .inl (cI, 26, .inl g3)), (h5, .inl (cI, 26, .inl g4))] H := hP
  have hD : va_D A [(h0, .inr (12, ((f0.set 66 (.int 24)).set 67 (.int 0)))), (h1, .inl (cI, 26, .inl (upd g0 24 0))), (h2, .inl (cI, 26, .inl g1)), (h3, .inl (cI, 26, .inl g2)), (h4, .inl (cI, 26, .inl g3)), (h5, .inl (cI, 26, .inl g4))] := hD
  refine lv_aload_n hx hb dX12_beginSlot_17 rfl (lv_at hl 0 rfl) ?_
  refine k_get (D := D) (ci := 12) (v := .ref h2) (N := 195) hx hb hts hin12 hown hK hP 0 rfl rfl (by decide) f9_12_45 (hts (.fieldLink RX12 120 "IntegerHouseModel" "nodeCount" "[I") (o9_X12_beginSlot _ (List.mem_of_getElem? (i := 3) rfl))) (k_ne (by decide) (k_ne (by decide) e3)) dX12_beginSlot_18 ?_
  refine lv_iload_n hx hb dX12_beginSlot_21 rfl (lv_at hl 1 rfl) ?_
  refine lv_iconst (v := 0) hx hb dX12_beginSlot_22 (by decide) ?_
  refine va_iast hx hb hK hP hD hS 2 0 rfl rfl (k_in (by decide)) dX12_beginSlot_23 (fun H locs hP hD hS => ?_)
  have hP : va_P D vwCl [(h0, .inr (12, ((f0.set 66 (.int 24)).set 67 (.int 0)))), (h1, .inl (cI, 26, .inl (upd g0 24 0))), (h2, .inl (cI, 26, .inl (upd g1 24 0))), (h3, .inl (cI, 26, .inl g2)), (h4, .inl (cI, 26, .inl g3)), (h5, .inl (cI, 26, .inl g4))] H := hP
  have hD : va_D A [(h0, .inr (12, ((f0.set 66 (.int 24)).set 67 (.int 0)))), (h1, .inl (cI, 26, .inl (upd g0 24 0))), (h2, .inl (cI, 26, .inl (upd g1 24 0))), (h3, .inl (cI, 26, .inl g2)), (h4, .inl (cI, 26, .inl g3)), (h5, .inl (cI, 26, .inl g4))] := hD
  refine lv_aload_n hx hb dX12_beginSlot_24 rfl (lv_at hl 0 rfl) ?_
  refine k_get (D := D) (ci := 12) (v := .ref h3) (N := 195) hx hb hts hin12 hown hK hP 0 rfl rfl (by decide) f9_12_56 (hts (.fieldLink RX12 153 "IntegerHouseModel" "leafCount" "[I") (o9_X12_beginSlot _ (List.mem_of_getElem? (i := 4) rfl))) (k_ne (by decide) (k_ne (by decide) e4)) dX12_beginSlot_25 ?_
  refine lv_iload_n hx hb dX12_beginSlot_28 rfl (lv_at hl 1 rfl) ?_
  refine lv_iconst (v := 0) hx hb dX12_beginSlot_29 (by decide) ?_
  refine va_iast hx hb hK hP hD hS 3 0 rfl rfl (k_in (by decide)) dX12_beginSlot_30 (fun H locs hP hD hS => ?_)
  have hP : va_P D vwCl [(h0, .inr (12, ((f0.set 66 (.int 24)).set 67 (.int 0)))), (h1, .inl (cI, 26, .inl (upd g0 24 0))), (h2, .inl (cI, 26, .inl (upd g1 24 0))), (h3, .inl (cI, 26, .inl (upd g2 24 0))), (h4, .inl (cI, 26, .inl g3)), (h5, .inl (cI, 26, .inl g4))] H := hP
  have hD : va_D A [(h0, .inr (12, ((f0.set 66 (.int 24)).set 67 (.int 0)))), (h1, .inl (cI, 26, .inl (upd g0 24 0))), (h2, .inl (cI, 26, .inl (upd g1 24 0))), (h3, .inl (cI, 26, .inl (upd g2 24 0))), (h4, .inl (cI, 26, .inl g3)), (h5, .inl (cI, 26, .inl g4))] := hD
  refine lv_aload_n hx hb dX12_beginSlot_31 rfl (lv_at hl 0 rfl) ?_
  refine k_get (D := D) (ci := 12) (v := .ref h4) (N := 195) hx hb hts hin12 hown hK hP 0 rfl rfl (by decide) f9_12_60 (hts (.fieldLink RX12 165 "IntegerHouseModel" "termCount" "[I") (o9_X12_beginSlot _ (List.mem_of_getElem? (i := 5) rfl))) (k_ne (by decide) (k_ne (by decide) e5)) dX12_beginSlot_32 ?_
  refine lv_iload_n hx hb dX12_beginSlot_35 rfl (lv_at hl 1 rfl) ?_
  refine lv_iconst (v := 0) hx hb dX12_beginSlot_36 (by decide) ?_
  refine va_iast hx hb hK hP hD hS 4 0 rfl rfl (k_in (by decide)) dX12_beginSlot_37 (fun H locs hP hD hS => ?_)
  have hP : va_P D vwCl [(h0, .inr (12, ((f0.set 66 (.int 24)).set 67 (.int 0)))), (h1, .inl (cI, 26, .inl (upd g0 24 0))), (h2, .inl (cI, 26, .inl (upd g1 24 0))), (h3, .inl (cI, 26, .inl (upd g2 24 0))), (h4, .inl (cI, 26, .inl (upd g3 24 0))), (h5, .inl (cI, 26, .inl g4))] H := hP
  have hD : va_D A [(h0, .inr (12, ((f0.set 66 (.int 24)).set 67 (.int 0)))), (h1, .inl (cI, 26, .inl (upd g0 24 0))), (h2, .inl (cI, 26, .inl (upd g1 24 0))), (h3, .inl (cI, 26, .inl (upd g2 24 0))), (h4, .inl (cI, 26, .inl (upd g3 24 0))), (h5, .inl (cI, 26, .inl g4))] := hD
  refine lv_aload_n hx hb dX12_beginSlot_38 rfl (lv_at hl 0 rfl) ?_
  refine k_get (D := D) (ci := 12) (v := .ref h5) (N := 195) hx hb hts hin12 hown hK hP 0 rfl rfl (by decide) f9_12_65 (hts (.fieldLink RX12 181 "IntegerHouseModel" "partCount" "[I") (o9_X12_beginSlot _ (List.mem_of_getElem? (i := 6) rfl))) (k_ne (by decide) (k_ne (by decide) e6)) dX12_beginSlot_39 ?_
  refine lv_iload_n hx hb dX12_beginSlot_42 rfl (lv_at hl 1 rfl) ?_
  refine lv_iconst (v := 0) hx hb dX12_beginSlot_43 (by decide) ?_
  refine va_iast hx hb hK hP hD hS 5 0 rfl rfl (k_in (by decide)) dX12_beginSlot_44 (fun H locs hP hD hS => ?_)
  have hP : va_P D vwCl [(h0, .inr (12, ((f0.set 66 (.int 24)).set 67 (.int 0)))), (h1, .inl (cI, 26, .inl (upd g0 24 0))), (h2, .inl (cI, 26, .inl (upd g1 24 0))), (h3, .inl (cI, 26, .inl (upd g2 24 0))), (h4, .inl (cI, 26, .inl (upd g3 24 0))), (h5, .inl (cI, 26, .inl (upd g4 24 0)))] H := hP
  have hD : va_D A [(h0, .inr (12, ((f0.set 66 (.int 24)).set 67 (.int 0)))), (h1, .inl (cI, 26, .inl (upd g0 24 0))), (h2, .inl (cI, 26, .inl (upd g1 24 0))), (h3, .inl (cI, 26, .inl (upd g2 24 0))), (h4, .inl (cI, 26, .inl (upd g3 24 0))), (h5, .inl (cI, 26, .inl (upd g4 24 0)))] := hD
  exact W.vret hx hb hr (fun t ht hW => ⟨⟨(), rfl, trivial, kB_mk ht hW hP hK hD⟩, hS.F ht⟩) hS.2.2 dX12_beginSlot_45
set_option maxHeartbeats 400000000 in
set_option maxRecDepth 100000 in
theorem c_X12_openFormula_0 (l : Launch) (E : kE) (D : va_G) (cI cJ cB cZ : ClassId) (h0 : Nat) (f0 : List Value) (h1 : Nat) (g0 : Nat → Int32) (h2 : Nat) (g1 : Nat → Int32) (h3 : Nat) (g2 : Nat → Int32) (h4 : Nat) (g3 : Nat → Int32) (h5 : Nat) (g4 : Nat → Int32) (e0 : f0[76]? = some (.int (-1))) (e1 : f0[69]? = some (.ref h1)) (e2 : f0[70]? = some (.ref h2)) (e3 : f0[71]? = some (.ref h3)) (e4 : f0[73]? = some (.ref h4)) (e5 : f0[75]? = some (.ref h5)) : kV l E D (kT cI cJ cB cZ) yX12_openFormula vW_X12_openFormula ({ frames := 0, cells := 0, slots := 0, locals := 0 }) [.ref h0] [(h0, .inr (12, f0)), (h1, .inl (cI, 14, .inl g0)), (h2, .inl (cI, 14, .inl g1)), (h3, .inl (cI, 14, .inl g2)), (h4, .inl (cI, 14, .inl g3)), (h5, .inl (cI, 14, .inl g4))] (fun _ : Unit => [(h0, .inr (12, (f0.set 76 (.int 0)))), (h1, .inl (cI, 14, .inl (upd g0 0 0))), (h2, .inl (cI, 14, .inl (upd g1 0 (-1)))), (h3, .inl (cI, 14, .inl (upd g2 0 (-1)))), (h4, .inl (cI, 14, .inl (upd g3 0 (-1)))), (h5, .inl (cI, 14, .inl (upd g4 0 0)))]) 0 0 := by
  intro sz
  refine Met.ofW (cc := cX12_openFormula) (maxL := 1) (ret := none) (by decide) rfl ?_
  intro p e s m args below meth c s₁ B hml hv
  obtain ⟨rfl, hsz, hP, hK, hD0, hN, hX⟩ := hv
  have hx := B.exec
  have hb := B.bytes
  have hr := B.returns
  have hts := atoms_spec (ws := vW_X12_openFormula) B.pre
  have hown : s.vm.findClass RX12 = some m.cls := findClass_of_methodNamed B.named
  have hlocks := B.notSynchronized
  have hin12 : ∀ w ∈ wsX120, w ∈ vW_X12_openFormula := u9_X12_openFormula_wsX120
  subst hsz
  have hD := hD0.self (sz := s.heap.size)
  have hAE := k_AE hD0 hX
  generalize hAe : va_A [(h0, .inr (12, f0)), (h1, .inl (cI, 14, .inl g0)), (h2, .inl (cI, 14, .inl g1)), (h3, .inl (cI, 14, .inl g2)), (h4, .inl (cI, 14, .inl g3)), (h5, .inl (cI, 14, .inl g4))] s.heap.size = A at hD hAE ⊢
  have hA : ∀ q : Nat, s.heap.size ≤ q → A q := fun q h => by rw [← hAe]; exact Or.inr h
  have hS : va_S A s.heap s.heap [] := va_S.rf
  have hP : va_P D vwCl [(h0, .inr (12, f0)), (h1, .inl (cI, 14, .inl g0)), (h2, .inl (cI, 14, .inl g1)), (h3, .inl (cI, 14, .inl g2)), (h4, .inl (cI, 14, .inl g3)), (h5, .inl (cI, 14, .inl g4))] s.heap := hP
  have hl := lv_entry ([.ref h0] : List Value) (n := 1) (Nat.le_of_ble_eq_true rfl)
  rw [lg_entry_eq]
  generalize (lg_sl ([.ref h0]) ++ List.replicate (1 - (lg_sl ([.ref h0])).length) Slot.unset).toArray = ls at hl ⊢
  have hl : lv_has ls 1 [(0, .ref h0)] := hl
  refine lv_aload_n hx hb dX12_openFormula_0 rfl (lv_at hl 0 rfl) ?_
  refine lv_dup hx hb dX12_openFormula_1 rfl ?_
  refine k_get (D := D) (ci := 12) (v := .int (-1)) (N := 195) hx hb hts hin12 hown hK hP 0 rfl rfl (by decide) f9_12_76 (hts (.fieldLink RX12 639 "IntegerHouseModel" "formulas" "I") (o9_X12_openFormula _ (List.mem_of_getElem? (i := 0) rfl))) e0 dX12_openFormula_2 ?_
  refine lv_iconst (v := 1) hx hb dX12_openFormula_5 (by decide) ?_
  refine lv_iadd hx hb dX12_openFormula_6 ?_
  refine k_topi (y := 0) (by decide) ?_
  refine k_put (D := D) (ci := 12) (v := .int 0) (ty := .int) (N := 195) hx hb hts hin12 tyX12 tyX12_ok nmX12 hown hK hP hD hS 0 rfl rfl (by decide) f9_12_76 (hts (.fieldLink RX12 639 "IntegerHouseModel" "formulas" "I") (o9_X12_openFormula _ (List.mem_of_getElem? (i := 0) rfl))) rfl pd_2 rfl rfl (k_len e0) dX12_openFormula_7 (fun H locs hP hD hS => ?_)
  have hP : va_P D vwCl [(h0, .inr (12, (f0.set 76 (.int 0)))), (h1, .inl (cI, 14, .inl g0)), (h2, .inl (cI, 14, .inl g1)), (h3, .inl (cI, 14, .inl g2)), (h4, .inl (cI, 14, .inl g3)), (h5, .inl (cI, 14, .inl g4))] H := hP
  have hD : va_D A [(h0, .inr (12, (f0.set 76 (.int 0)))), (h1, .inl (cI, 14, .inl g0)), (h2, .inl (cI, 14, .inl g1)), (h3, .inl (cI, 14, .inl g2)), (h4, .inl (cI, 14, .inl g3)), (h5, .inl (cI, 14, .inl g4))] := hD
  refine lv_aload_n hx hb dX12_openFormula_10 rfl (lv_at hl 0 rfl) ?_
  refine k_get (D := D) (ci := 12) (v := .ref h1) (N := 195) hx hb hts hin12 hown hK hP 0 rfl rfl (by decide) f9_12_69 (hts (.fieldLink RX12 187 "IntegerHouseModel" "openJoin" "[I") (o9_X12_openFormula _ (List.mem_of_getElem? (i := 1) rfl))) (k_ne (by decide) e1) dX12_openFormula_11 ?_
  refine lv_aload_n hx hb dX12_openFormula_14 rfl (lv_at hl 0 rfl) ?_
  refine k_get (D := D) (ci := 12) (v := .int 0) (N := 195) hx hb hts hin12 hown hK hP 0 rfl rfl (by decide) f9_12_76 (hts (.fieldLink RX12 639 "IntegerHouseModel" "formulas" "I") (o9_X12_openFormula _ (List.mem_of_getElem? (i := 0) rfl))) (k_set e0) dX12_openFormula_15 ?_
  refine lv_iconst (v := 0) hx hb dX12_openFormula_18 (by decide) ?_
  refine va_iast hx hb hK hP hD hS 1 0 rfl rfl (k_in (by decide)) dX12_openFormula_19 (fun H locs hP hD hS => ?_)
  have hP : va_P D vwCl [(h0, .inr (12, (f0.set 76 (.int 0)))), (h1, .inl (cI, 14, .inl (upd g0 0 0))), (h2, .inl (cI, 14, .inl g1)), (h3, .inl (cI, 14, .inl g2)), (h4, .inl (cI, 14, .inl g3)), (h5, .inl (cI, 14, .inl g4))] H := hP
  have hD : va_D A [(h0, .inr (12, (f0.set 76 (.int 0)))), (h1, .inl (cI, 14, .inl (upd g0 0 0))), (h2, .inl (cI, 14, .inl g1)), (h3, .inl (cI, 14, .inl g2)), (h4, .inl (cI, 14, .inl g3)), (h5, .inl (cI, 14, .inl g4))] := hD
  refine lv_aload_n hx hb dX12_openFormula_20 rfl (lv_at hl 0 rfl) ?_
  refine k_get (D := D) (ci := 12) (v := .ref h2) (N := 195) hx hb hts hin12 hown hK hP 0 rfl rfl (by decide) f9_12_70 (hts (.fieldLink RX12 190 "IntegerHouseModel" "openLeft" "[I") (o9_X12_openFormula _ (List.mem_of_getElem? (i := 2) rfl))) (k_ne (by decide) e2) dX12_openFormula_21 ?_
  refine lv_aload_n hx hb dX12_openFormula_24 rfl (lv_at hl 0 rfl) ?_
  refine k_get (D := D) (ci := 12) (v := .int 0) (N := 195) hx hb hts hin12 hown hK hP 0 rfl rfl (by decide) f9_12_76 (hts (.fieldLink RX12 639 "IntegerHouseModel" "formulas" "I") (o9_X12_openFormula _ (List.mem_of_getElem? (i := 0) rfl))) (k_set e0) dX12_openFormula_25 ?_
  refine lv_iconst (v := (-1)) hx hb dX12_openFormula_28 (by decide) ?_
  refine va_iast hx hb hK hP hD hS 2 0 rfl rfl (k_in (by decide)) dX12_openFormula_29 (fun H locs hP hD hS => ?_)
  have hP : va_P D vwCl [(h0, .inr (12, (f0.set 76 (.int 0)))), (h1, .inl (cI, 14, .inl (upd g0 0 0))), (h2, .inl (cI, 14, .inl (upd g1 0 (-1)))), (h3, .inl (cI, 14, .inl g2)), (h4, .inl (cI, 14, .inl g3)), (h5, .inl (cI, 14, .inl g4))] H := hP
  have hD : va_D A [(h0, .inr (12, (f0.set 76 (.int 0)))), (h1, .inl (cI, 14, .inl (upd g0 0 0))), (h2, .inl (cI, 14, .inl (upd g1 0 (-1)))), (h3, .inl (cI, 14, .inl g2)), (h4, .inl (cI, 14, .inl g3)), (h5, .inl (cI, 14, .inl g4))] := hD
  refine lv_aload_n hx hb dX12_openFormula_30 rfl (lv_at hl 0 rfl) ?_
  refine k_get (D := D) (ci := 12) (v := .ref h3) (N := 195) hx hb hts hin12 hown hK hP 0 rfl rfl (by decide) f9_12_71 (hts (.fieldLink RX12 193 "IntegerHouseModel" "openOr" "[I") (o9_X12_openFormula _ (List.mem_of_getElem? (i := 3) rfl))) (k_ne (by decide) e3) dX12_openFormula_31 ?_
  refine lv_aload_n hx hb dX12_openFormula_34 rfl (lv_at hl 0 rfl) ?_
  refine k_get (D := D) (ci := 12) (v := .int 0) (N := 195) hx hb hts hin12 hown hK hP 0 rfl rfl (by decide) f9_12_76 (hts (.fieldLink RX12 639 "IntegerHouseModel" "formulas" "I") (o9_X12_openFormula _ (List.mem_of_getElem? (i := 0) rfl))) (k_set e0) dX12_openFormula_35 ?_
  refine lv_iconst (v := (-1)) hx hb dX12_openFormula_38 (by decide) ?_
  refine va_iast hx hb hK hP hD hS 3 0 rfl rfl (k_in (by decide)) dX12_openFormula_39 (fun H locs hP hD hS => ?_)
  have hP : va_P D vwCl [(h0, .inr (12, (f0.set 76 (.int 0)))), (h1, .inl (cI, 14, .inl (upd g0 0 0))), (h2, .inl (cI, 14, .inl (upd g1 0 (-1)))), (h3, .inl (cI, 14, .inl (upd g2 0 (-1)))), (h4, .inl (cI, 14, .inl g3)), (h5, .inl (cI, 14, .inl g4))] H := hP
  have hD : va_D A [(h0, .inr (12, (f0.set 76 (.int 0)))), (h1, .inl (cI, 14, .inl (upd g0 0 0))), (h2, .inl (cI, 14, .inl (upd g1 0 (-1)))), (h3, .inl (cI, 14, .inl (upd g2 0 (-1)))), (h4, .inl (cI, 14, .inl g3)), (h5, .inl (cI, 14, .inl g4))] := hD
  refine lv_aload_n hx hb dX12_openFormula_40 rfl (lv_at hl 0 rfl) ?_
  refine k_get (D := D) (ci := 12) (v := .ref h4) (N := 195) hx hb hts hin12 hown hK hP 0 rfl rfl (by decide) f9_12_73 (hts (.fieldLink RX12 199 "IntegerHouseModel" "openAnd" "[I") (o9_X12_openFormula _ (List.mem_of_getElem? (i := 4) rfl))) (k_ne (by decide) e4) dX12_openFormula_41 ?_
  refine lv_aload_n hx hb dX12_openFormula_44 rfl (lv_at hl 0 rfl) ?_
  refine k_get (D := D) (ci := 12) (v := .int 0) (N := 195) hx hb hts hin12 hown hK hP 0 rfl rfl (by decide) f9_12_76 (hts (.fieldLink RX12 639 "IntegerHouseModel" "formulas" "I") (o9_X12_openFormula _ (List.mem_of_getElem? (i := 0) rfl))) (k_set e0) dX12_openFormula_45 ?_
  refine lv_iconst (v := (-1)) hx hb dX12_openFormula_48 (by decide) ?_
  refine va_iast hx hb hK hP hD hS 4 0 rfl rfl (k_in (by decide)) dX12_openFormula_49 (fun H locs hP hD hS => ?_)
  have hP : va_P D vwCl [(h0, .inr (12, (f0.set 76 (.int 0)))), (h1, .inl (cI, 14, .inl (upd g0 0 0))), (h2, .inl (cI, 14, .inl (upd g1 0 (-1)))), (h3, .inl (cI, 14, .inl (upd g2 0 (-1)))), (h4, .inl (cI, 14, .inl (upd g3 0 (-1)))), (h5, .inl (cI, 14, .inl g4))] H := hP
  have hD : va_D A [(h0, .inr (12, (f0.set 76 (.int 0)))), (h1, .inl (cI, 14, .inl (upd g0 0 0))), (h2, .inl (cI, 14, .inl (upd g1 0 (-1)))), (h3, .inl (cI, 14, .inl (upd g2 0 (-1)))), (h4, .inl (cI, 14, .inl (upd g3 0 (-1)))), (h5, .inl (cI, 14, .inl g4))] := hD
  refine lv_aload_n hx hb dX12_openFormula_50 rfl (lv_at hl 0 rfl) ?_
  refine k_get (D := D) (ci := 12) (v := .ref h5) (N := 195) hx hb hts hin12 hown hK hP 0 rfl rfl (by decide) f9_12_75 (hts (.fieldLink RX12 205 "IntegerHouseModel" "openNots" "[I") (o9_X12_openFormula _ (List.mem_of_getElem? (i := 5) rfl))) (k_ne (by decide) e5) dX12_openFormula_51 ?_
  refine lv_aload_n hx hb dX12_openFormula_54 rfl (lv_at hl 0 rfl) ?_
  refine k_get (D := D) (ci := 12) (v := .int 0) (N := 195) hx hb hts hin12 hown hK hP 0 rfl rfl (by decide) f9_12_76 (hts (.fieldLink RX12 639 "IntegerHouseModel" "formulas" "I") (o9_X12_openFormula _ (List.mem_of_getElem? (i := 0) rfl))) (k_set e0) dX12_openFormula_55 ?_
  refine lv_iconst (v := 0) hx hb dX12_openFormula_58 (by decide) ?_
  refine va_iast hx hb hK hP hD hS 5 0 rfl rfl (k_in (by decide)) dX12_openFormula_59 (fun H locs hP hD hS => ?_)
  have hP : va_P D vwCl [(h0, .inr (12, (f0.set 76 (.int 0)))), (h1, .inl (cI, 14, .inl (upd g0 0 0))), (h2, .inl (cI, 14, .inl (upd g1 0 (-1)))), (h3, .inl (cI, 14, .inl (upd g2 0 (-1)))), (h4, .inl (cI, 14, .inl (upd g3 0 (-1)))), (h5, .inl (cI, 14, .inl (upd g4 0 0)))] H := hP
  have hD : va_D A [(h0, .inr (12, (f0.set 76 (.int 0)))), (h1, .inl (cI, 14, .inl (upd g0 0 0))), (h2, .inl (cI, 14, .inl (upd g1 0 (-1)))), (h3, .inl (cI, 14, .inl (upd g2 0 (-1)))), (h4, .inl (cI, 14, .inl (upd g3 0 (-1)))), (h5, .inl (cI, 14, .inl (upd g4 0 0)))] := hD
  exact W.vret hx hb hr (fun t ht hW => ⟨⟨(), rfl, trivial, kB_mk ht hW hP hK hD⟩, hS.F ht⟩) hS.2.2 dX12_openFormula_60
set_option maxHeartbeats 400000000 in
set_option maxRecDepth 100000 in
theorem c_X12_isWord_0 (l : Launch) (E : kE) (D : va_G) (cI cJ cB cZ : ClassId) (h0 : Nat) (f0 : List Value) (h1 : Nat) (g0 : Nat → Int32) (e0 : f0[25]? = some (.ref h1)) (e1 : f0[28]? = some (.int 0)) (e2 : g0 0 = 0) : kI l E D (kT cI cJ cB cZ) yX12_isWord vW_X12_isWord ({ frames := 0, cells := 0, slots := 0, locals := 0 }) [.ref h0, .int 5] [(h0, .inr (12, f0)), (h1, .inl (cI, 2001, .inl g0))] (0) [(h0, .inr (12, f0)), (h1, .inl (cI, 2001, .inl g0))] 0 0 := by
  intro sz
  refine Met.ofW (cc := cX12_isWord) (maxL := 2) (ret := (some .boolean)) (by decide) rfl ?_
  intro p e s m args below meth c s₁ B hml hv
  obtain ⟨rfl, hsz, hP, hK, hD0, hN, hX⟩ := hv
  have hx := B.exec
  have hb := B.bytes
  have hr := B.returns
  have hts := atoms_spec (ws := vW_X12_isWord) B.pre
  have hown : s.vm.findClass RX12 = some m.cls := findClass_of_methodNamed B.named
  have hlocks := B.notSynchronized
  have hin12 : ∀ w ∈ wsX120, w ∈ vW_X12_isWord := u9_X12_isWord_wsX120
  subst hsz
  have hD := hD0.self (sz := s.heap.size)
  have hAE := k_AE hD0 hX
  generalize hAe : va_A [(h0, .inr (12, f0)), (h1, .inl (cI, 2001, .inl g0))] s.heap.size = A at hD hAE ⊢
  have hA : ∀ q : Nat, s.heap.size ≤ q → A q := fun q h => by rw [← hAe]; exact Or.inr h
  have hS : va_S A s.heap s.heap [] := va_S.rf
  have hP : va_P D vwCl [(h0, .inr (12, f0)), (h1, .inl (cI, 2001, .inl g0))] s.heap := hP
  have hl := lv_entry ([.ref h0, .int 5] : List Value) (n := 2) (Nat.le_of_ble_eq_true rfl)
  rw [lg_entry_eq]
  generalize (lg_sl ([.ref h0, .int 5]) ++ List.replicate (2 - (lg_sl ([.ref h0, .int 5])).length) Slot.unset).toArray = ls at hl ⊢
  have hl : lv_has ls 2 [(0, .ref h0), (1, .int 5)] := hl
  refine lv_aload_n hx hb dX12_isWord_0 rfl (lv_at hl 0 rfl) ?_
  refine k_get (D := D) (ci := 12) (v := .ref h1) (N := 195) hx hb hts hin12 hown hK hP 0 rfl rfl (by decide) f9_12_25 (hts (.fieldLink RX12 87 "IntegerHouseModel" "tokenKind" "[I") (o9_X12_isWord _ (List.mem_of_getElem? (i := 0) rfl))) e0 dX12_isWord_1 ?_
  refine lv_aload_n hx hb dX12_isWord_4 rfl (lv_at hl 0 rfl) ?_
  refine k_get (D := D) (ci := 12) (v := .int 0) (N := 195) hx hb hts hin12 hown hK hP 0 rfl rfl (by decide) f9_12_28 (hts (.fieldLink RX12 597 "IntegerHouseModel" "now" "I") (o9_X12_isWord _ (List.mem_of_getElem? (i := 1) rfl))) e1 dX12_isWord_5 ?_
  refine va_iald hx hb hK hP 1 0 rfl rfl (k_in (by decide)) dX12_isWord_8 ?_
  refine k_topi (y := 0) e2 ?_
  refine lv_iconst (v := 4) hx hb dX12_isWord_9 (by decide) ?_
  refine lv_icmp_ne (tgt := 30) hx hb dX12_isWord_10 (by decide) (fun _ => ?_) (fun c9 => absurd c9 (by decide))
  refine lv_iconst (v := 0) hx hb dX12_isWord_30 (by decide) ?_
  exact W.zret (v := 0) hx hb hr rfl (fun t ht hW => ⟨⟨0, (), rfl, rfl, kB_mk ht hW hP hK hD⟩, hS.F ht⟩) hS.2.2 dX12_isWord_31
set_option maxHeartbeats 400000000 in
set_option maxRecDepth 100000 in
theorem c_X12_isSign_0 (l : Launch) (E : kE) (D : va_G) (cI cJ cB cZ : ClassId) (h0 : Nat) (f0 : List Value) (h1 : Nat) (g0 : Nat → Int32) (e0 : f0[25]? = some (.ref h1)) (e1 : f0[28]? = some (.int 0)) (e2 : g0 0 = 0) : kI l E D (kT cI cJ cB cZ) yX12_isSign vW_X12_isSign ({ frames := 0, cells := 0, slots := 0, locals := 0 }) [.ref h0, .int 1] [(h0, .inr (12, f0)), (h1, .inl (cI, 2001, .inl g0))] (0) [(h0, .inr (12, f0)), (h1, .inl (cI, 2001, .inl g0))] 0 0 := by
  intro sz
  refine Met.ofW (cc := cX12_isSign) (maxL := 2) (ret := (some .boolean)) (by decide) rfl ?_
  intro p e s m args below meth c s₁ B hml hv
  obtain ⟨rfl, hsz, hP, hK, hD0, hN, hX⟩ := hv
  have hx := B.exec
  have hb := B.bytes
  have hr := B.returns
  have hts := atoms_spec (ws := vW_X12_isSign) B.pre
  have hown : s.vm.findClass RX12 = some m.cls := findClass_of_methodNamed B.named
  have hlocks := B.notSynchronized
  have hin12 : ∀ w ∈ wsX120, w ∈ vW_X12_isSign := u9_X12_isSign_wsX120
  subst hsz
  have hD := hD0.self (sz := s.heap.size)
  have hAE := k_AE hD0 hX
  generalize hAe : va_A [(h0, .inr (12, f0)), (h1, .inl (cI, 2001, .inl g0))] s.heap.size = A at hD hAE ⊢
  have hA : ∀ q : Nat, s.heap.size ≤ q → A q := fun q h => by rw [← hAe]; exact Or.inr h
  have hS : va_S A s.heap s.heap [] := va_S.rf
  have hP : va_P D vwCl [(h0, .inr (12, f0)), (h1, .inl (cI, 2001, .inl g0))] s.heap := hP
  have hl := lv_entry ([.ref h0, .int 1] : List Value) (n := 2) (Nat.le_of_ble_eq_true rfl)
  rw [lg_entry_eq]
  generalize (lg_sl ([.ref h0, .int 1]) ++ List.replicate (2 - (lg_sl ([.ref h0, .int 1])).length) Slot.unset).toArray = ls at hl ⊢
  have hl : lv_has ls 2 [(0, .ref h0), (1, .int 1)] := hl
  refine lv_aload_n hx hb dX12_isSign_0 rfl (lv_at hl 0 rfl) ?_
  refine k_get (D := D) (ci := 12) (v := .ref h1) (N := 195) hx hb hts hin12 hown hK hP 0 rfl rfl (by decide) f9_12_25 (hts (.fieldLink RX12 87 "IntegerHouseModel" "tokenKind" "[I") (o9_X12_isSign _ (List.mem_of_getElem? (i := 0) rfl))) e0 dX12_isSign_1 ?_
  refine lv_aload_n hx hb dX12_isSign_4 rfl (lv_at hl 0 rfl) ?_
  refine k_get (D := D) (ci := 12) (v := .int 0) (N := 195) hx hb hts hin12 hown hK hP 0 rfl rfl (by decide) f9_12_28 (hts (.fieldLink RX12 597 "IntegerHouseModel" "now" "I") (o9_X12_isSign _ (List.mem_of_getElem? (i := 1) rfl))) e1 dX12_isSign_5 ?_
  refine va_iald hx hb hK hP 1 0 rfl rfl (k_in (by decide)) dX12_isSign_8 ?_
  refine k_topi (y := 0) e2 ?_
  refine lv_iconst (v := 5) hx hb dX12_isSign_9 (by decide) ?_
  refine lv_icmp_ne (tgt := 30) hx hb dX12_isSign_10 (by decide) (fun _ => ?_) (fun c9 => absurd c9 (by decide))
  refine lv_iconst (v := 0) hx hb dX12_isSign_30 (by decide) ?_
  exact W.zret (v := 0) hx hb hr rfl (fun t ht hW => ⟨⟨0, (), rfl, rfl, kB_mk ht hW hP hK hD⟩, hS.F ht⟩) hS.2.2 dX12_isSign_31
set_option maxHeartbeats 400000000 in
set_option maxRecDepth 100000 in
theorem c_X12_isWord_1 (l : Launch) (E : kE) (D : va_G) (cI cJ cB cZ : ClassId) (h0 : Nat) (f0 : List Value) (h1 : Nat) (g0 : Nat → Int32) (e0 : f0[25]? = some (.ref h1)) (e1 : f0[28]? = some (.int 0)) (e2 : g0 0 = 0) : kI l E D (kT cI cJ cB cZ) yX12_isWord vW_X12_isWord ({ frames := 0, cells := 0, slots := 0, locals := 0 }) [.ref h0, .int 6] [(h0, .inr (12, f0)), (h1, .inl (cI, 2001, .inl g0))] (0) [(h0, .inr (12, f0)), (h1, .inl (cI, 2001, .inl g0))] 0 0 := by
  intro sz
  refine Met.ofW (cc := cX12_isWord) (maxL := 2) (ret := (some .boolean)) (by decide) rfl ?_
  intro p e s m args below meth c s₁ B hml hv
  obtain ⟨rfl, hsz, hP, hK, hD0, hN, hX⟩ := hv
  have hx := B.exec
  have hb := B.bytes
  have hr := B.returns
  have hts := atoms_spec (ws := vW_X12_isWord) B.pre
  have hown : s.vm.findClass RX12 = some m.cls := findClass_of_methodNamed B.named
  have hlocks := B.notSynchronized
  have hin12 : ∀ w ∈ wsX120, w ∈ vW_X12_isWord := u9_X12_isWord_wsX120
  subst hsz
  have hD := hD0.self (sz := s.heap.size)
  have hAE := k_AE hD0 hX
  generalize hAe : va_A [(h0, .inr (12, f0)), (h1, .inl (cI, 2001, .inl g0))] s.heap.size = A at hD hAE ⊢
  have hA : ∀ q : Nat, s.heap.size ≤ q → A q := fun q h => by rw [← hAe]; exact Or.inr h
  have hS : va_S A s.heap s.heap [] := va_S.rf
  have hP : va_P D vwCl [(h0, .inr (12, f0)), (h1, .inl (cI, 2001, .inl g0))] s.heap := hP
  have hl := lv_entry ([.ref h0, .int 6] : List Value) (n := 2) (Nat.le_of_ble_eq_true rfl)
  rw [lg_entry_eq]
  generalize (lg_sl ([.ref h0, .int 6]) ++ List.replicate (2 - (lg_sl ([.ref h0, .int 6])).length) Slot.unset).toArray = ls at hl ⊢
  have hl : lv_has ls 2 [(0, .ref h0), (1, .int 6)] := hl
  refine lv_aload_n hx hb dX12_isWord_0 rfl (lv_at hl 0 rfl) ?_
  refine k_get (D := D) (ci := 12) (v := .ref h1) (N := 195) hx hb hts hin12 hown hK hP 0 rfl rfl (by decide) f9_12_25 (hts (.fieldLink RX12 87 "IntegerHouseModel" "tokenKind" "[I") (o9_X12_isWord _ (List.mem_of_getElem? (i := 0) rfl))) e0 dX12_isWord_1 ?_
  refine lv_aload_n hx hb dX12_isWord_4 rfl (lv_at hl 0 rfl) ?_
  refine k_get (D := D) (ci := 12) (v := .int 0) (N := 195) hx hb hts hin12 hown hK hP 0 rfl rfl (by decide) f9_12_28 (hts (.fieldLink RX12 597 "IntegerHouseModel" "now" "I") (o9_X12_isWord _ (List.mem_of_getElem? (i := 1) rfl))) e1 dX12_isWord_5 ?_
  refine va_iald hx hb hK hP 1 0 rfl rfl (k_in (by decide)) dX12_isWord_8 ?_
  refine k_topi (y := 0) e2 ?_
  refine lv_iconst (v := 4) hx hb dX12_isWord_9 (by decide) ?_
  refine lv_icmp_ne (tgt := 30) hx hb dX12_isWord_10 (by decide) (fun _ => ?_) (fun c9 => absurd c9 (by decide))
  refine lv_iconst (v := 0) hx hb dX12_isWord_30 (by decide) ?_
  exact W.zret (v := 0) hx hb hr rfl (fun t ht hW => ⟨⟨0, (), rfl, rfl, kB_mk ht hW hP hK hD⟩, hS.F ht⟩) hS.2.2 dX12_isWord_31
set_option maxHeartbeats 400000000 in
set_option maxRecDepth 100000 in
theorem c_X12_isWord_2 (l : Launch) (E : kE) (D : va_G) (cI cJ cB cZ : ClassId) (h0 : Nat) (f0 : List Value) (h1 : Nat) (g0 : Nat → Int32) (e0 : f0[25]? = some (.ref h1)) (e1 : f0[28]? = some (.int 0)) (e2 : g0 0 = 0) : kI l E D (kT cI cJ cB cZ) yX12_isWord vW_X12_isWord ({ frames := 0, cells := 0, slots := 0, locals := 0 }) [.ref h0, .int 7] [(h0, .inr (12, f0)), (h1, .inl (cI, 2001, .inl g0))] (0) [(h0, .inr (12, f0)), (h1, .inl (cI, 2001, .inl g0))] 0 0 := by
  intro sz
  refine Met.ofW (cc := cX12_isWord) (maxL := 2) (ret := (some .boolean)) (by decide) rfl ?_
  intro p e s m args below meth c s₁ B hml hv
  obtain ⟨rfl, hsz, hP, hK, hD0, hN, hX⟩ := hv
  have hx := B.exec
  have hb := B.bytes
  have hr := B.returns
  have hts := atoms_spec (ws := vW_X12_isWord) B.pre
  have hown : s.vm.findClass RX12 = some m.cls := findClass_of_methodNamed B.named
  have hlocks := B.notSynchronized
  have hin12 : ∀ w ∈ wsX120, w ∈ vW_X12_isWord := u9_X12_isWord_wsX120
  subst hsz
  have hD := hD0.self (sz := s.heap.size)
  have hAE := k_AE hD0 hX
  generalize hAe : va_A [(h0, .inr (12, f0)), (h1, .inl (cI, 2001, .inl g0))] s.heap.size = A at hD hAE ⊢
  have hA : ∀ q : Nat, s.heap.size ≤ q → A q := fun q h => by rw [← hAe]; exact Or.inr h
  have hS : va_S A s.heap s.heap [] := va_S.rf
  have hP : va_P D vwCl [(h0, .inr (12, f0)), (h1, .inl (cI, 2001, .inl g0))] s.heap := hP
  have hl := lv_entry ([.ref h0, .int 7] : List Value) (n := 2) (Nat.le_of_ble_eq_true rfl)
  rw [lg_entry_eq]
  generalize (lg_sl ([.ref h0, .int 7]) ++ List.replicate (2 - (lg_sl ([.ref h0, .int 7])).length) Slot.unset).toArray = ls at hl ⊢
  have hl : lv_has ls 2 [(0, .ref h0), (1, .int 7)] := hl
  refine lv_aload_n hx hb dX12_isWord_0 rfl (lv_at hl 0 rfl) ?_
  refine k_get (D := D) (ci := 12) (v := .ref h1) (N := 195) hx hb hts hin12 hown hK hP 0 rfl rfl (by decide) f9_12_25 (hts (.fieldLink RX12 87 "IntegerHouseModel" "tokenKind" "[I") (o9_X12_isWord _ (List.mem_of_getElem? (i := 0) rfl))) e0 dX12_isWord_1 ?_
  refine lv_aload_n hx hb dX12_isWord_4 rfl (lv_at hl 0 rfl) ?_
  refine k_get (D := D) (ci := 12) (v := .int 0) (N := 195) hx hb hts hin12 hown hK hP 0 rfl rfl (by decide) f9_12_28 (hts (.fieldLink RX12 597 "IntegerHouseModel" "now" "I") (o9_X12_isWord _ (List.mem_of_getElem? (i := 1) rfl))) e1 dX12_isWord_5 ?_
  refine va_iald hx hb hK hP 1 0 rfl rfl (k_in (by decide)) dX12_isWord_8 ?_
  refine k_topi (y := 0) e2 ?_
  refine lv_iconst (v := 4) hx hb dX12_isWord_9 (by decide) ?_
  refine lv_icmp_ne (tgt := 30) hx hb dX12_isWord_10 (by decide) (fun _ => ?_) (fun c9 => absurd c9 (by decide))
  refine lv_iconst (v := 0) hx hb dX12_isWord_30 (by decide) ?_
  exact W.zret (v := 0) hx hb hr rfl (fun t ht hW => ⟨⟨0, (), rfl, rfl, kB_mk ht hW hP hK hD⟩, hS.F ht⟩) hS.2.2 dX12_isWord_31
set_option maxHeartbeats 400000000 in
set_option maxRecDepth 100000 in
theorem c_X12_isSign_1 (l : Launch) (E : kE) (D : va_G) (cI cJ cB cZ : ClassId) (h0 : Nat) (f0 : List Value) (h1 : Nat) (g0 : Nat → Int32) (e0 : f0[25]? = some (.ref h1)) (e1 : f0[28]? = some (.int 0)) (e2 : g0 0 = 0) : kI l E D (kT cI cJ cB cZ) yX12_isSign vW_X12_isSign ({ frames := 0, cells := 0, slots := 0, locals := 0 }) [.ref h0, .int 9] [(h0, .inr (12, f0)), (h1, .inl (cI, 2001, .inl g0))] (0) [(h0, .inr (12, f0)), (h1, .inl (cI, 2001, .inl g0))] 0 0 := by
  intro sz
  refine Met.ofW (cc := cX12_isSign) (maxL := 2) (ret := (some .boolean)) (by decide) rfl ?_
  intro p e s m args below meth c s₁ B hml hv
  obtain ⟨rfl, hsz, hP, hK, hD0, hN, hX⟩ := hv
  have hx := B.exec
  have hb := B.bytes
  have hr := B.returns
  have hts := atoms_spec (ws := vW_X12_isSign) B.pre
  have hown : s.vm.findClass RX12 = some m.cls := findClass_of_methodNamed B.named
  have hlocks := B.notSynchronized
  have hin12 : ∀ w ∈ wsX120, w ∈ vW_X12_isSign := u9_X12_isSign_wsX120
  subst hsz
  have hD := hD0.self (sz := s.heap.size)
  have hAE := k_AE hD0 hX
  generalize hAe : va_A [(h0, .inr (12, f0)), (h1, .inl (cI, 2001, .inl g0))] s.heap.size = A at hD hAE ⊢
  have hA : ∀ q : Nat, s.heap.size ≤ q → A q := fun q h => by rw [← hAe]; exact Or.inr h
  have hS : va_S A s.heap s.heap [] := va_S.rf
  have hP : va_P D vwCl [(h0, .inr (12, f0)), (h1, .inl (cI, 2001, .inl g0))] s.heap := hP
  have hl := lv_entry ([.ref h0, .int 9] : List Value) (n := 2) (Nat.le_of_ble_eq_true rfl)
  rw [lg_entry_eq]
  generalize (lg_sl ([.ref h0, .int 9]) ++ List.replicate (2 - (lg_sl ([.ref h0, .int 9])).length) Slot.unset).toArray = ls at hl ⊢
  have hl : lv_has ls 2 [(0, .ref h0), (1, .int 9)] := hl
  refine lv_aload_n hx hb dX12_isSign_0 rfl (lv_at hl 0 rfl) ?_
  refine k_get (D := D) (ci := 12) (v := .ref h1) (N := 195) hx hb hts hin12 hown hK hP 0 rfl rfl (by decide) f9_12_25 (hts (.fieldLink RX12 87 "IntegerHouseModel" "tokenKind" "[I") (o9_X12_isSign _ (List.mem_of_getElem? (i := 0) rfl))) e0 dX12_isSign_1 ?_
  refine lv_aload_n hx hb dX12_isSign_4 rfl (lv_at hl 0 rfl) ?_
  refine k_get (D := D) (ci := 12) (v := .int 0) (N := 195) hx hb hts hin12 hown hK hP 0 rfl rfl (by decide) f9_12_28 (hts (.fieldLink RX12 597 "IntegerHouseModel" "now" "I") (o9_X12_isSign _ (List.mem_of_getElem? (i := 1) rfl))) e1 dX12_isSign_5 ?_
  refine va_iald hx hb hK hP 1 0 rfl rfl (k_in (by decide)) dX12_isSign_8 ?_
  refine k_topi (y := 0) e2 ?_
  refine lv_iconst (v := 5) hx hb dX12_isSign_9 (by decide) ?_
  refine lv_icmp_ne (tgt := 30) hx hb dX12_isSign_10 (by decide) (fun _ => ?_) (fun c9 => absurd c9 (by decide))
  refine lv_iconst (v := 0) hx hb dX12_isSign_30 (by decide) ?_
  exact W.zret (v := 0) hx hb hr rfl (fun t ht hW => ⟨⟨0, (), rfl, rfl, kB_mk ht hW hP hK hD⟩, hS.F ht⟩) hS.2.2 dX12_isSign_31
set_option maxHeartbeats 400000000 in
set_option maxRecDepth 100000 in
theorem c_X12_isSign_2 (l : Launch) (E : kE) (D : va_G) (cI cJ cB cZ : ClassId) (h0 : Nat) (f0 : List Value) (h1 : Nat) (g0 : Nat → Int32) (e0 : f0[25]? = some (.ref h1)) (e1 : f0[28]? = some (.int 0)) (e2 : g0 0 = 0) : kI l E D (kT cI cJ cB cZ) yX12_isSign vW_X12_isSign ({ frames := 0, cells := 0, slots := 0, locals := 0 }) [.ref h0, .int 3] [(h0, .inr (12, f0)), (h1, .inl (cI, 2001, .inl g0))] (0) [(h0, .inr (12, f0)), (h1, .inl (cI, 2001, .inl g0))] 0 0 := by
  intro sz
  refine Met.ofW (cc := cX12_isSign) (maxL := 2) (ret := (some .boolean)) (by decide) rfl ?_
  intro p e s m args below meth c s₁ B hml hv
  obtain ⟨rfl, hsz, hP, hK, hD0, hN, hX⟩ := hv
  have hx := B.exec
  have hb := B.bytes
  have hr := B.returns
  have hts := atoms_spec (ws := vW_X12_isSign) B.pre
  have hown : s.vm.findClass RX12 = some m.cls := findClass_of_methodNamed B.named
  have hlocks := B.notSynchronized
  have hin12 : ∀ w ∈ wsX120, w ∈ vW_X12_isSign := u9_X12_isSign_wsX120
  subst hsz
  have hD := hD0.self (sz := s.heap.size)
  have hAE := k_AE hD0 hX
  generalize hAe : va_A [(h0, .inr (12, f0)), (h1, .inl (cI, 2001, .inl g0))] s.heap.size = A at hD hAE ⊢
  have hA : ∀ q : Nat, s.heap.size ≤ q → A q := fun q h => by rw [← hAe]; exact Or.inr h
  have hS : va_S A s.heap s.heap [] := va_S.rf
  have hP : va_P D vwCl [(h0, .inr (12, f0)), (h1, .inl (cI, 2001, .inl g0))] s.heap := hP
  have hl := lv_entry ([.ref h0, .int 3] : List Value) (n := 2) (Nat.le_of_ble_eq_true rfl)
  rw [lg_entry_eq]
  generalize (lg_sl ([.ref h0, .int 3]) ++ List.replicate (2 - (lg_sl ([.ref h0, .int 3])).length) Slot.unset).toArray = ls at hl ⊢
  have hl : lv_has ls 2 [(0, .ref h0), (1, .int 3)] := hl
  refine lv_aload_n hx hb dX12_isSign_0 rfl (lv_at hl 0 rfl) ?_
  refine k_get (D := D) (ci := 12) (v := .ref h1) (N := 195) hx hb hts hin12 hown hK hP 0 rfl rfl (by decide) f9_12_25 (hts (.fieldLink RX12 87 "IntegerHouseModel" "tokenKind" "[I") (o9_X12_isSign _ (List.mem_of_getElem? (i := 0) rfl))) e0 dX12_isSign_1 ?_
  refine lv_aload_n hx hb dX12_isSign_4 rfl (lv_at hl 0 rfl) ?_
  refine k_get (D := D) (ci := 12) (v := .int 0) (N := 195) hx hb hts hin12 hown hK hP 0 rfl rfl (by decide) f9_12_28 (hts (.fieldLink RX12 597 "IntegerHouseModel" "now" "I") (o9_X12_isSign _ (List.mem_of_getElem? (i := 1) rfl))) e1 dX12_isSign_5 ?_
  refine va_iald hx hb hK hP 1 0 rfl rfl (k_in (by decide)) dX12_isSign_8 ?_
  refine k_topi (y := 0) e2 ?_
  refine lv_iconst (v := 5) hx hb dX12_isSign_9 (by decide) ?_
  refine lv_icmp_ne (tgt := 30) hx hb dX12_isSign_10 (by decide) (fun _ => ?_) (fun c9 => absurd c9 (by decide))
  refine lv_iconst (v := 0) hx hb dX12_isSign_30 (by decide) ?_
  exact W.zret (v := 0) hx hb hr rfl (fun t ht hW => ⟨⟨0, (), rfl, rfl, kB_mk ht hW hP hK hD⟩, hS.F ht⟩) hS.2.2 dX12_isSign_31
set_option maxHeartbeats 400000000 in
set_option maxRecDepth 100000 in
theorem c_X12_readOne_0 (l : Launch) (E : kE) (D : va_G) (cI cJ cB cZ : ClassId) (h0 : Nat) (f0 : List Value) (h1 : Nat) (g0 : Nat → Int32) (h2 : Nat) (g1 : Nat → Int32) (h3 : Nat) (g2 : Nat → Int32) (h4 : Nat) (g3 : Nat → Int32) (e0 : f0[25]? = some (.ref h1)) (e1 : f0[28]? = some (.int 0)) (e2 : g0 0 = 0) (e3 : f0[26]? = some (.ref h2)) (e4 : g1 0 = 0) (e5 : f0[40]? = some (.ref h3)) (e6 : f0[66]? = some (.int 24)) (e7 : g2 24 = 0) (e8 : f0[31]? = some (.int 0)) (e9 : f0[29]? = some (.int 0)) (e10 : f0[23]? = some (.ref h4)) (e11 : g3 0 = 0) (e12 : f0[30]? = some (.int 0)) : kV l E D (kT cI cJ cB cZ) yX12_readOne vW_X12_readOne ({ frames := 2, cells := 0, slots := 0, locals := 42 }) [.ref h0] [(h0, .inr (12, f0)), (h1, .inl (cI, 2001, .inl g0)), (h2, .inl (cI, 2001, .inl g1)), (h3, .inl (cI, 26, .inl g2)), (h4, .inl (cI, 2001, .inl g3))] (fun _ : Unit => [(h0, .inr (12, (((f0.set 31 (.int 1)).set 29 (.int 2)).set 30 (.int 0)))), (h1, .inl (cI, 2001, .inl g0)), (h2, .inl (cI, 2001, .inl g1)), (h3, .inl (cI, 26, .inl g2)), (h4, .inl (cI, 2001, .inl g3))]) 0 0 := by
  intro sz
  refine Met.ofW (cc := cX12_readOne) (maxL := 5) (ret := none) (by decide) rfl ?_
  intro p e s m args below meth c s₁ B hml hv
  obtain ⟨rfl, hsz, hP, hK, hD0, hN, hX⟩ := hv
  have hx := B.exec
  have hb := B.bytes
  have hr := B.returns
  have hts := atoms_spec (ws := vW_X12_readOne) B.pre
  have hown : s.vm.findClass RX12 = some m.cls := findClass_of_methodNamed B.named
  have hlocks := B.notSynchronized
  have hin12 : ∀ w ∈ wsX120, w ∈ vW_X12_readOne := u9_X12_readOne_wsX120
  subst hsz
  have hD := hD0.self (sz := s.heap.size)
  have hAE := k_AE hD0 hX
  generalize hAe : va_A [(h0, .inr (12, f0)), (h1, .inl (cI, 2001, .inl g0)), (h2, .inl (cI, 2001, .inl g1)), (h3, .inl (cI, 26, .inl g2)), (h4, .inl (cI, 2001, .inl g3))] s.heap.size = A at hD hAE ⊢
  have hA : ∀ q : Nat, s.heap.size ≤ q → A q := fun q h => by rw [← hAe]; exact Or.inr h
  have hS : va_S A s.heap s.heap [] := va_S.rf
  have hP : va_P D vwCl [(h0, .inr (12, f0)), (h1, .inl (cI, 2001, .inl g0)), (h2, .inl (cI, 2001, .inl g1)), (h3, .inl (cI, 26, .inl g2)), (h4, .inl (cI, 2001, .inl g3))] s.heap := hP
  have hl := lv_entry ([.ref h0] : List Value) (n := 5) (Nat.le_of_ble_eq_true rfl)
  rw [lg_entry_eq]
  generalize (lg_sl ([.ref h0]) ++ List.replicate (5 - (lg_sl ([.ref h0])).length) Slot.unset).toArray = ls at hl ⊢
  have hl : lv_has ls 5 [(0, .ref h0)] := hl
  refine lv_aload_n hx hb dX12_readOne_0 rfl (lv_at hl 0 rfl) ?_
  refine k_get (D := D) (ci := 12) (v := .ref h1) (N := 195) hx hb hts hin12 hown hK hP 0 rfl rfl (by decide) f9_12_25 (hts (.fieldLink RX12 87 "IntegerHouseModel" "tokenKind" "[I") (o9_X12_readOne _ (List.mem_of_getElem? (i := 0) rfl))) e0 dX12_readOne_1 ?_
  refine lv_aload_n hx hb dX12_readOne_4 rfl (lv_at hl 0 rfl) ?_
  refine k_get (D := D) (ci := 12) (v := .int 0) (N := 195) hx hb hts hin12 hown hK hP 0 rfl rfl (by decide) f9_12_28 (hts (.fieldLink RX12 597 "IntegerHouseModel" "now" "I") (o9_X12_readOne _ (List.mem_of_getElem? (i := 1) rfl))) e1 dX12_readOne_5 ?_
  refine va_iald hx hb hK hP 1 0 rfl rfl (k_in (by decide)) dX12_readOne_8 ?_
  refine k_topi (y := 0) e2 ?_
  refine lv_istore_n (lv' := [(1, .int 0), (0, .ref h0)]) hx hb dX12_readOne_9 rfl hl (by decide) rfl (fun ls hl => ?_)
  refine lv_aload_n hx hb dX12_readOne_10 rfl (lv_at hl 1 rfl) ?_
  refine k_get (D := D) (ci := 12) (v := .ref h2) (N := 195) hx hb hts hin12 hown hK hP 0 rfl rfl (by decide) f9_12_26 (hts (.fieldLink RX12 90 "IntegerHouseModel" "tokenValue" "[I") (o9_X12_readOne _ (List.mem_of_getElem? (i := 2) rfl))) e3 dX12_readOne_11 ?_
  refine lv_aload_n hx hb dX12_readOne_14 rfl (lv_at hl 1 rfl) ?_
  refine k_get (D := D) (ci := 12) (v := .int 0) (N := 195) hx hb hts hin12 hown hK hP 0 rfl rfl (by decide) f9_12_28 (hts (.fieldLink RX12 597 "IntegerHouseModel" "now" "I") (o9_X12_readOne _ (List.mem_of_getElem? (i := 1) rfl))) e1 dX12_readOne_15 ?_
  refine va_iald hx hb hK hP 2 0 rfl rfl (k_in (by decide)) dX12_readOne_18 ?_
  refine k_topi (y := 0) e4 ?_
  refine lv_istore_n (lv' := [(2, .int 0), (1, .int 0), (0, .ref h0)]) hx hb dX12_readOne_19 rfl hl (by decide) rfl (fun ls hl => ?_)
  refine lv_aload_n hx hb dX12_readOne_20 rfl (lv_at hl 2 rfl) ?_
  refine k_get (D := D) (ci := 12) (v := .ref h3) (N := 195) hx hb hts hin12 hown hK hP 0 rfl rfl (by decide) f9_12_40 (hts (.fieldLink RX12 105 "IntegerHouseModel" "textCount" "[I") (o9_X12_readOne _ (List.mem_of_getElem? (i := 3) rfl))) e5 dX12_readOne_21 ?_
  refine lv_aload_n hx hb dX12_readOne_24 rfl (lv_at hl 2 rfl) ?_
  refine k_get (D := D) (ci := 12) (v := .int 24) (N := 195) hx hb hts hin12 hown hK hP 0 rfl rfl (by decide) f9_12_66 (hts (.fieldLink RX12 630 "IntegerHouseModel" "slot" "I") (o9_X12_readOne _ (List.mem_of_getElem? (i := 4) rfl))) e6 dX12_readOne_25 ?_
  refine va_iald hx hb hK hP 3 0 rfl rfl (k_in (by decide)) dX12_readOne_28 ?_
  refine k_topi (y := 0) e7 ?_
  refine lv_istore_n (lv' := [(3, .int 0), (2, .int 0), (1, .int 0), (0, .ref h0)]) hx hb dX12_readOne_29 rfl hl (by decide) rfl (fun ls hl => ?_)
  refine lv_aload_n hx hb dX12_readOne_30 rfl (lv_at hl 3 rfl) ?_
  refine lv_iconst (v := 5) hx hb dX12_readOne_31 (by decide) ?_
  refine k_cVi (As := [.int 5]) (rest := []) (wc := [(h0, .inr (12, f0)), (h1, .inl (cI, 2001, .inl g0))]) (wr := [(h2, .inl (cI, 2001, .inl g1)), (h3, .inl (cI, 26, .inl g2)), (h4, .inl (cI, 2001, .inl g3))]) (w1 := [(h0, .inr (12, f0)), (h1, .inl (cI, 2001, .inl g0))]) ⟨hx, hb, hml, hown, hts⟩ hN hX hAE hK hP hD hS hA [0, 1] [2, 3, 4] (ci := 12) rfl rfl rfl rfl (by decide +kernel) (by decide +kernel) (by decide +kernel) (c_X12_isWord_0 l E D cI cJ cB cZ h0 f0 h1 g0 e0 e1 e2) (cwV 1 hts g9_X12_readOne_X12_isWord_666 rfl rfl rfl (by decide +kernel) ⟨Nat.le_of_ble_eq_true rfl, Nat.le_of_ble_eq_true rfl⟩) rfl hl.1 (Nat.le_of_ble_eq_true rfl) dX12_readOne_32 ⟨Nat.le_of_ble_eq_true rfl, Nat.le_of_ble_eq_true rfl⟩ (fun H locs hP hD hS => ?_)
  have hP : va_P D vwCl [(h2, .inl (cI, 2001, .inl g1)), (h3, .inl (cI, 26, .inl g2)), (h4, .inl (cI, 2001, .inl g3)), (h0, .inr (12, f0)), (h1, .inl (cI, 2001, .inl g0))] H := hP
  have hD : va_D A [(h2, .inl (cI, 2001, .inl g1)), (h3, .inl (cI, 26, .inl g2)), (h4, .inl (cI, 2001, .inl g3)), (h0, .inr (12, f0)), (h1, .inl (cI, 2001, .inl g0))] := hD
  refine lv_if_eq (tgt := 58) hx hb dX12_readOne_35 (by decide) (fun _ => ?_) (fun c9 => absurd (by decide) c9)
  refine lv_aload_n hx hb dX12_readOne_58 rfl (lv_at hl 3 rfl) ?_
  refine lv_iconst (v := 1) hx hb dX12_readOne_59 (by decide) ?_
  refine k_cVi (As := [.int 1]) (rest := []) (wc := [(h0, .inr (12, f0)), (h1, .inl (cI, 2001, .inl g0))]) (wr := [(h2, .inl (cI, 2001, .inl g1)), (h3, .inl (cI, 26, .inl g2)), (h4, .inl (cI, 2001, .inl g3))]) (w1 := [(h0, .inr (12, f0)), (h1, .inl (cI, 2001, .inl g0))]) ⟨hx, hb, hml, hown, hts⟩ hN hX hAE hK hP hD hS hA [3, 4] [0, 1, 2] (ci := 12) rfl rfl rfl rfl (by decide +kernel) (by decide +kernel) (by decide +kernel) (c_X12_isSign_0 l E D cI cJ cB cZ h0 f0 h1 g0 e0 e1 e2) (cwV 1 hts g9_X12_readOne_X12_isSign_672 rfl rfl rfl (by decide +kernel) ⟨Nat.le_of_ble_eq_true rfl, Nat.le_of_ble_eq_true rfl⟩) rfl hl.1 (Nat.le_of_ble_eq_true rfl) dX12_readOne_60 ⟨Nat.le_of_ble_eq_true rfl, Nat.le_of_ble_eq_true rfl⟩ (fun H locs hP hD hS => ?_)
  have hP : va_P D vwCl [(h2, .inl (cI, 2001, .inl g1)), (h3, .inl (cI, 26, .inl g2)), (h4, .inl (cI, 2001, .inl g3)), (h0, .inr (12, f0)), (h1, .inl (cI, 2001, .inl g0))] H := hP
  have hD : va_D A [(h2, .inl (cI, 2001, .inl g1)), (h3, .inl (cI, 26, .inl g2)), (h4, .inl (cI, 2001, .inl g3)), (h0, .inr (12, f0)), (h1, .inl (cI, 2001, .inl g0))] := hD
  refine lv_if_eq (tgt := 77) hx hb dX12_readOne_63 (by decide) (fun _ => ?_) (fun c9 => absurd (by decide) c9)
  refine lv_aload_n hx hb dX12_readOne_77 rfl (lv_at hl 3 rfl) ?_
  refine lv_bipush (v := 6) hx hb dX12_readOne_78 (by decide) ?_
  refine k_cVi (As := [.int 6]) (rest := []) (wc := [(h0, .inr (12, f0)), (h1, .inl (cI, 2001, .inl g0))]) (wr := [(h2, .inl (cI, 2001, .inl g1)), (h3, .inl (cI, 26, .inl g2)), (h4, .inl (cI, 2001, .inl g3))]) (w1 := [(h0, .inr (12, f0)), (h1, .inl (cI, 2001, .inl g0))]) ⟨hx, hb, hml, hown, hts⟩ hN hX hAE hK hP hD hS hA [3, 4] [0, 1, 2] (ci := 12) rfl rfl rfl rfl (by decide +kernel) (by decide +kernel) (by decide +kernel) (c_X12_isWord_1 l E D cI cJ cB cZ h0 f0 h1 g0 e0 e1 e2) (cwV 1 hts g9_X12_readOne_X12_isWord_666 rfl rfl rfl (by decide +kernel) ⟨Nat.le_of_ble_eq_true rfl, Nat.le_of_ble_eq_true rfl⟩) rfl hl.1 (Nat.le_of_ble_eq_true rfl) dX12_readOne_80 ⟨Nat.le_of_ble_eq_true rfl, Nat.le_of_ble_eq_true rfl⟩ (fun H locs hP hD hS => ?_)
  have hP : va_P D vwCl [(h2, .inl (cI, 2001, .inl g1)), (h3, .inl (cI, 26, .inl g2)), (h4, .inl (cI, 2001, .inl g3)), (h0, .inr (12, f0)), (h1, .inl (cI, 2001, .inl g0))] H := hP
  have hD : va_D A [(h2, .inl (cI, 2001, .inl g1)), (h3, .inl (cI, 26, .inl g2)), (h4, .inl (cI, 2001, .inl g3)), (h0, .inr (12, f0)), (h1, .inl (cI, 2001, .inl g0))] := hD
  refine lv_if_ne (tgt := 95) hx hb dX12_readOne_83 (by decide) (fun c9 => absurd (by decide) c9) (fun _ => ?_)
  refine lv_aload_n hx hb dX12_readOne_86 rfl (lv_at hl 3 rfl) ?_
  refine lv_bipush (v := 7) hx hb dX12_readOne_87 (by decide) ?_
  refine k_cVi (As := [.int 7]) (rest := []) (wc := [(h0, .inr (12, f0)), (h1, .inl (cI, 2001, .inl g0))]) (wr := [(h2, .inl (cI, 2001, .inl g1)), (h3, .inl (cI, 26, .inl g2)), (h4, .inl (cI, 2001, .inl g3))]) (w1 := [(h0, .inr (12, f0)), (h1, .inl (cI, 2001, .inl g0))]) ⟨hx, hb, hml, hown, hts⟩ hN hX hAE hK hP hD hS hA [3, 4] [0, 1, 2] (ci := 12) rfl rfl rfl rfl (by decide +kernel) (by decide +kernel) (by decide +kernel) (c_X12_isWord_2 l E D cI cJ cB cZ h0 f0 h1 g0 e0 e1 e2) (cwV 1 hts g9_X12_readOne_X12_isWord_666 rfl rfl rfl (by decide +kernel) ⟨Nat.le_of_ble_eq_true rfl, Nat.le_of_ble_eq_true rfl⟩) rfl hl.1 (Nat.le_of_ble_eq_true rfl) dX12_readOne_89 ⟨Nat.le_of_ble_eq_true rfl, Nat.le_of_ble_eq_true rfl⟩ (fun H locs hP hD hS => ?_)
  have hP : va_P D vwCl [(h2, .inl (cI, 2001, .inl g1)), (h3, .inl (cI, 26, .inl g2)), (h4, .inl (cI, 2001, .inl g3)), (h0, .inr (12, f0)), (h1, .inl (cI, 2001, .inl g0))] H := hP
  have hD : va_D A [(h2, .inl (cI, 2001, .inl g1)), (h3, .inl (cI, 26, .inl g2)), (h4, .inl (cI, 2001, .inl g3)), (h0, .inr (12, f0)), (h1, .inl (cI, 2001, .inl g0))] := hD
  refine lv_if_eq (tgt := 113) hx hb dX12_readOne_92 (by decide) (fun _ => ?_) (fun c9 => absurd (by decide) c9)
  refine lv_iload_n hx hb dX12_readOne_113 rfl (lv_at hl 2 rfl) ?_
  refine lv_iconst (v := 3) hx hb dX12_readOne_114 (by decide) ?_
  refine lv_icmp_ne (tgt := 210) hx hb dX12_readOne_115 (by decide) (fun _ => ?_) (fun c9 => absurd c9 (by decide))
  refine lv_iload_n hx hb dX12_readOne_210 rfl (lv_at hl 2 rfl) ?_
  refine lv_iconst (v := 2) hx hb dX12_readOne_211 (by decide) ?_
  refine lv_icmp_ne (tgt := 294) hx hb dX12_readOne_212 (by decide) (fun _ => ?_) (fun c9 => absurd c9 (by decide))
  refine lv_iload_n hx hb dX12_readOne_294 rfl (lv_at hl 2 rfl) ?_
  refine lv_iconst (v := 2) hx hb dX12_readOne_295 (by decide) ?_
  refine lv_icmp_eq (tgt := 335) hx hb dX12_readOne_296 (by decide) (fun c9 => absurd c9 (by decide)) (fun _ => ?_)
  refine lv_aload_n hx hb dX12_readOne_299 rfl (lv_at hl 3 rfl) ?_
  refine lv_bipush (v := 9) hx hb dX12_readOne_300 (by decide) ?_
  refine k_cVi (As := [.int 9]) (rest := []) (wc := [(h0, .inr (12, f0)), (h1, .inl (cI, 2001, .inl g0))]) (wr := [(h2, .inl (cI, 2001, .inl g1)), (h3, .inl (cI, 26, .inl g2)), (h4, .inl (cI, 2001, .inl g3))]) (w1 := [(h0, .inr (12, f0)), (h1, .inl (cI, 2001, .inl g0))]) ⟨hx, hb, hml, hown, hts⟩ hN hX hAE hK hP hD hS hA [3, 4] [0, 1, 2] (ci := 12) rfl rfl rfl rfl (by decide +kernel) (by decide +kernel) (by decide +kernel) (c_X12_isSign_1 l E D cI cJ cB cZ h0 f0 h1 g0 e0 e1 e2) (cwV 1 hts g9_X12_readOne_X12_isSign_672 rfl rfl rfl (by decide +kernel) ⟨Nat.le_of_ble_eq_true rfl, Nat.le_of_ble_eq_true rfl⟩) rfl hl.1 (Nat.le_of_ble_eq_true rfl) dX12_readOne_302 ⟨Nat.le_of_ble_eq_true rfl, Nat.le_of_ble_eq_true rfl⟩ (fun H locs hP hD hS => ?_)
  have hP : va_P D vwCl [(h2, .inl (cI, 2001, .inl g1)), (h3, .inl (cI, 26, .inl g2)), (h4, .inl (cI, 2001, .inl g3)), (h0, .inr (12, f0)), (h1, .inl (cI, 2001, .inl g0))] H := hP
  have hD : va_D A [(h2, .inl (cI, 2001, .inl g1)), (h3, .inl (cI, 26, .inl g2)), (h4, .inl (cI, 2001, .inl g3)), (h0, .inr (12, f0)), (h1, .inl (cI, 2001, .inl g0))] := hD
  refine lv_if_ne (tgt := 335) hx hb dX12_readOne_305 (by decide) (fun c9 => absurd (by decide) c9) (fun _ => ?_)
  refine lv_aload_n hx hb dX12_readOne_308 rfl (lv_at hl 3 rfl) ?_
  refine lv_iconst (v := 3) hx hb dX12_readOne_309 (by decide) ?_
  refine k_cVi (As := [.int 3]) (rest := []) (wc := [(h0, .inr (12, f0)), (h1, .inl (cI, 2001, .inl g0))]) (wr := [(h2, .inl (cI, 2001, .inl g1)), (h3, .inl (cI, 26, .inl g2)), (h4, .inl (cI, 2001, .inl g3))]) (w1 := [(h0, .inr (12, f0)), (h1, .inl (cI, 2001, .inl g0))]) ⟨hx, hb, hml, hown, hts⟩ hN hX hAE hK hP hD hS hA [3, 4] [0, 1, 2] (ci := 12) rfl rfl rfl rfl (by decide +kernel) (by decide +kernel) (by decide +kernel) (c_X12_isSign_2 l E D cI cJ cB cZ h0 f0 h1 g0 e0 e1 e2) (cwV 1 hts g9_X12_readOne_X12_isSign_672 rfl rfl rfl (by decide +kernel) ⟨Nat.le_of_ble_eq_true rfl, Nat.le_of_ble_eq_true rfl⟩) rfl hl.1 (Nat.le_of_ble_eq_true rfl) dX12_readOne_310 ⟨Nat.le_of_ble_eq_true rfl, Nat.le_of_ble_eq_true rfl⟩ (fun H locs hP hD hS => ?_)
  have hP : va_P D vwCl [(h2, .inl (cI, 2001, .inl g1)), (h3, .inl (cI, 26, .inl g2)), (h4, .inl (cI, 2001, .inl g3)), (h0, .inr (12, f0)), (h1, .inl (cI, 2001, .inl g0))] H := hP
  have hD : va_D A [(h2, .inl (cI, 2001, .inl g1)), (h3, .inl (cI, 26, .inl g2)), (h4, .inl (cI, 2001, .inl g3)), (h0, .inr (12, f0)), (h1, .inl (cI, 2001, .inl g0))] := hD
  refine lv_if_ne (tgt := 335) hx hb dX12_readOne_313 (by decide) (fun c9 => absurd (by decide) c9) (fun _ => ?_)
  refine lv_iload_n hx hb dX12_readOne_316 rfl (lv_at hl 2 rfl) ?_
  refine lv_iconst (v := 4) hx hb dX12_readOne_317 (by decide) ?_
  refine lv_icmp_ne (tgt := 367) hx hb dX12_readOne_318 (by decide) (fun _ => ?_) (fun c9 => absurd c9 (by decide))
  refine lv_aload_n hx hb dX12_readOne_367 rfl (lv_at hl 3 rfl) ?_
  refine k_cVv (As := []) (rest := []) (wc := [(h0, .inr (12, f0)), (h1, .inl (cI, 2001, .inl g0)), (h4, .inl (cI, 2001, .inl g3))]) (wr := [(h2, .inl (cI, 2001, .inl g1)), (h3, .inl (cI, 26, .inl g2))]) (w1 := (fun _ : Unit => [(h0, .inr (12, (((f0.set 31 (.int 1)).set 29 (.int 2)).set 30 (.int 0)))), (h1, .inl (cI, 2001, .inl g0)), (h4, .inl (cI, 2001, .inl g3))])) ⟨hx, hb, hml, hown, hts⟩ hN hX hAE hK hP hD hS hA [3, 4, 2] [0, 1] (ci := 12) rfl rfl rfl rfl (by decide +kernel) (by decide +kernel) (by decide +kernel) (c_X12_cannot_0 l E D cI cJ cB cZ h0 f0 h1 g0 h4 g3 e0 e1 e2 e8 e9 e10 e11 e12) (cwV 0 hts g9_X12_readOne_X12_cannot_698 rfl rfl rfl (by decide +kernel) ⟨Nat.le_of_ble_eq_true rfl, Nat.le_of_ble_eq_true rfl⟩) rfl hl.1 (Nat.le_of_ble_eq_true rfl) dX12_readOne_368 ⟨Nat.le_of_ble_eq_true rfl, Nat.le_of_ble_eq_true rfl⟩ (fun _ H locs hP hD hS => ?_)
  have hP : va_P D vwCl [(h2, .inl (cI, 2001, .inl g1)), (h3, .inl (cI, 26, .inl g2)), (h0, .inr (12, (((f0.set 31 (.int 1)).set 29 (.int 2)).set 30 (.int 0)))), (h1, .inl (cI, 2001, .inl g0)), (h4, .inl (cI, 2001, .inl g3))] H := hP
  have hD : va_D A [(h2, .inl (cI, 2001, .inl g1)), (h3, .inl (cI, 26, .inl g2)), (h0, .inr (12, (((f0.set 31 (.int 1)).set 29 (.int 2)).set 30 (.int 0)))), (h1, .inl (cI, 2001, .inl g0)), (h4, .inl (cI, 2001, .inl g3))] := hD
  have hP := hP.sub (ws' := [(h0, .inr (12, (((f0.set 31 (.int 1)).set 29 (.int 2)).set 30 (.int 0)))), (h1, .inl (cI, 2001, .inl g0)), (h2, .inl (cI, 2001, .inl g1)), (h3, .inl (cI, 26, .inl g2)), (h4, .inl (cI, 2001, .inl g3))]) [2, 3, 0, 1, 4] rfl
  have hD := hD.sub (ws' := [(h0, .inr (12, (((f0.set 31 (.int 1)).set 29 (.int 2)).set 30 (.int 0)))), (h1, .inl (cI, 2001, .inl g0)), (h2, .inl (cI, 2001, .inl g1)), (h3, .inl (cI, 26, .inl g2)), (h4, .inl (cI, 2001, .inl g3))]) [2, 3, 0, 1, 4] (by decide +kernel) rfl
  exact W.vret hx hb hr (fun t ht hW => ⟨⟨(), rfl, trivial, kB_mk ht hW hP hK hD⟩, hS.F ht⟩) hS.2.2 dX12_readOne_371
set_option maxHeartbeats 400000000 in
set_option maxRecDepth 100000 in
theorem c_X12_readFormula_0 (l : Launch) (E : kE) (D : va_G) (cI cJ cB cZ : ClassId) (h0 : Nat) (f0 : List Value) (h1 : Nat) (h2 : Nat) (h3 : Nat) (h4 : Nat) (h5 : Nat) (g0 : Nat → Int32) (g1 : Nat → Int32) (g2 : Nat → Int32) (g3 : Nat → Int32) (g4 : Nat → Int32) (h6 : Nat) (g5 : Nat → Int32) (h7 : Nat) (g6 : Nat → Int32) (h8 : Nat) (g7 : Nat → Int32) (h9 : Nat) (g8 : Nat → Int32) (h10 : Nat) (g9 : Nat → Int32) (e0 : f0[76]? = some (.int 0)) (e1 : f0[83]? = some (.int 0)) (e2 : f0[69]? = some (.ref h1)) (e3 : f0[70]? = some (.ref h2)) (e4 : f0[71]? = some (.ref h3)) (e5 : f0[73]? = some (.ref h4)) (e6 : f0[75]? = some (.ref h5)) (e7 : f0[84]? = some (.int 0)) (e8 : f0[31]? = some (.int 0)) (e9 : f0[25]? = some (.ref h6)) (e10 : f0[28]? = some (.int 0)) (e11 : g5 0 = 0) (e12 : f0[26]? = some (.ref h7)) (e13 : g6 0 = 0) (e14 : f0[40]? = some (.ref h8)) (e15 : f0[66]? = some (.int 24)) (e16 : g7 24 = 0) (e17 : f0[29]? = some (.int 0)) (e18 : f0[23]? = some (.ref h9)) (e19 : g8 0 = 0) (e20 : f0[30]? = some (.int 0)) (e21 : f0[68]? = some (.ref h10)) (e22 : f0[85]? = some (.int 0)) : kI l E D (kT cI cJ cB cZ) yX12_readFormula vW_X12_readFormula ({ frames := 3, cells := 0, slots := 0, locals := 66 }) [.ref h0] [(h0, .inr (12, f0)), (h1, .inl (cI, 14, .inl g0)), (h2, .inl (cI, 14, .inl g1)), (h3, .inl (cI, 14, .inl g2)), (h4, .inl (cI, 14, .inl g3)), (h5, .inl (cI, 14, .inl g4)), (h6, .inl (cI, 2001, .inl g5)), (h7, .inl (cI, 2001, .inl g6)), (h8, .inl (cI, 26, .inl g7)), (h9, .inl (cI, 2001, .inl g8)), (h10, .inl (cI, 26, .inl g9))] (0) [(h0, .inr (12, (((((((f0.set 76 (.int (-1))).set 83 (.int (-1))).set 76 (.int 0)).set 84 (.int 1)).set 31 (.int 1)).set 29 (.int 2)).set 30 (.int 0)))), (h1, .inl (cI, 14, .inl (upd g0 0 0))), (h2, .inl (cI, 14, .inl (upd g1 0 (-1)))), (h3, .inl (cI, 14, .inl (upd g2 0 (-1)))), (h4, .inl (cI, 14, .inl (upd g3 0 (-1)))), (h5, .inl (cI, 14, .inl (upd g4 0 0))), (h6, .inl (cI, 2001, .inl g5)), (h7, .inl (cI, 2001, .inl g6)), (h8, .inl (cI, 26, .inl g7)), (h9, .inl (cI, 2001, .inl g8)), (h10, .inl (cI, 26, .inl (upd g9 24 0)))] 0 0 := by
  intro sz
  refine Met.ofW (cc := cX12_readFormula) (maxL := 1) (ret := (some .int)) (by decide) rfl ?_
  intro p e s m args below meth c s₁ B hml hv
  obtain ⟨rfl, hsz, hP, hK, hD0, hN, hX⟩ := hv
  have hx := B.exec
  have hb := B.bytes
  have hr := B.returns
  have hts := atoms_spec (ws := vW_X12_readFormula) B.pre
  have hown : s.vm.findClass RX12 = some m.cls := findClass_of_methodNamed B.named
  have hlocks := B.notSynchronized
  have hin12 : ∀ w ∈ wsX120, w ∈ vW_X12_readFormula := u9_X12_readFormula_wsX120
  subst hsz
  have hD := hD0.self (sz := s.heap.size)
  have hAE := k_AE hD0 hX
  generalize hAe : va_A [(h0, .inr (12, f0)), (h1, .inl (cI, 14, .inl g0)), (h2, .inl (cI, 14, .inl g1)), (h3, .inl (cI, 14, .inl g2)), (h4, .inl (cI, 14, .inl g3)), (h5, .inl (cI, 14, .inl g4)), (h6, .inl (cI, 2001, .inl g5)), (h7, .inl (cI, 2001, .inl g6)), (h8, .inl (cI, 26, .inl g7)), (h9, .inl (cI, 2001, .inl g8)), (h10, .inl (cI, 26, .inl g9))] s.heap.size = A at hD hAE ⊢
  have hA : ∀ q : Nat, s.heap.size ≤ q → A q := fun q h => by rw [← hAe]; exact Or.inr h
  have hS : va_S A s.heap s.heap [] := va_S.rf
  have hP : va_P D vwCl [(h0, .inr (12, f0)), (h1, .inl (cI, 14, .inl g0)), (h2, .inl (cI, 14, .inl g1)), (h3, .inl (cI, 14, .inl g2)), (h4, .inl (cI, 14, .inl g3)), (h5, .inl (cI, 14, .inl g4)), (h6, .inl (cI, 2001, .inl g5)), (h7, .inl (cI, 2001, .inl g6)), (h8, .inl (cI, 26, .inl g7)), (h9, .inl (cI, 2001, .inl g8)), (h10, .inl (cI, 26, .inl g9))] s.heap := hP
  have hl := lv_entry ([.ref h0] : List Value) (n := 1) (Nat.le_of_ble_eq_true rfl)
  rw [lg_entry_eq]
  generalize (lg_sl ([.ref h0]) ++ List.replicate (1 - (lg_sl ([.ref h0])).length) Slot.unset).toArray = ls at hl ⊢
  have hl : lv_has ls 1 [(0, .ref h0)] := hl
  refine lv_aload_n hx hb dX12_readFormula_0 rfl (lv_at hl 0 rfl) ?_
  refine lv_iconst (v := (-1)) hx hb dX12_readFormula_1 (by decide) ?_
  refine k_put (D := D) (ci := 12) (v := .int (-1)) (ty := .int) (N := 195) hx hb hts hin12 tyX12 tyX12_ok nmX12 hown hK hP hD hS 0 rfl rfl (by decide) f9_12_76 (hts (.fieldLink RX12 639 "IntegerHouseModel" "formulas" "I") (o9_X12_readFormula _ (List.mem_of_getElem? (i := 0) rfl))) rfl pd_2 rfl rfl (k_len e0) dX12_readFormula_2 (fun H locs hP hD hS => ?_)
  have hP : va_P D vwCl [(h0, .inr (12, (f0.set 76 (.int (-1))))), (h1, .inl (cI, 14, .inl g0)), (h2, .inl (cI, 14, .inl g1)), (h3, .inl (cI, 14, .inl g2)), (h4, .inl (cI, 14, .inl g3)), (h5, .inl (cI, 14, .inl g4)), (h6, .inl (cI, 2001, .inl g5)), (h7, .inl (cI, 2001, .inl g6)), (h8, .inl (cI, 26, .inl g7)), (h9, .inl (cI, 2001, .inl g8)), (h10, .inl (cI, 26, .inl g9))] H := hP
  have hD : va_D A [(h0, .inr (12, (f0.set 76 (.int (-1))))), (h1, .inl (cI, 14, .inl g0)), (h2, .inl (cI, 14, .inl g1)), (h3, .inl (cI, 14, .inl g2)), (h4, .inl (cI, 14, .inl g3)), (h5, .inl (cI, 14, .inl g4)), (h6, .inl (cI, 2001, .inl g5)), (h7, .inl (cI, 2001, .inl g6)), (h8, .inl (cI, 26, .inl g7)), (h9, .inl (cI, 2001, .inl g8)), (h10, .inl (cI, 26, .inl g9))] := hD
  refine lv_aload_n hx hb dX12_readFormula_5 rfl (lv_at hl 0 rfl) ?_
  refine lv_iconst (v := (-1)) hx hb dX12_readFormula_6 (by decide) ?_
  refine k_put (D := D) (ci := 12) (v := .int (-1)) (ty := .int) (N := 195) hx hb hts hin12 tyX12 tyX12_ok nmX12 hown hK hP hD hS 0 rfl rfl (by decide) f9_12_83 (hts (.fieldLink RX12 642 "IntegerHouseModel" "terms" "I") (o9_X12_readFormula _ (List.mem_of_getElem? (i := 1) rfl))) rfl pd_2 rfl rfl (k_len (k_ne (by decide) e1)) dX12_readFormula_7 (fun H locs hP hD hS => ?_)
  have hP : va_P D vwCl [(h0, .inr (12, ((f0.set 76 (.int (-1))).set 83 (.int (-1))))), (h1, .inl (cI, 14, .inl g0)), (h2, .inl (cI, 14, .inl g1)), (h3, .inl (cI, 14, .inl g2)), (h4, .inl (cI, 14, .inl g3)), (h5, .inl (cI, 14, .inl g4)), (h6, .inl (cI, 2001, .inl g5)), (h7, .inl (cI, 2001, .inl g6)), (h8, .inl (cI, 26, .inl g7)), (h9, .inl (cI, 2001, .inl g8)), (h10, .inl (cI, 26, .inl g9))] H := hP
  have hD : va_D A [(h0, .inr (12, ((f0.set 76 (.int (-1))).set 83 (.int (-1))))), (h1, .inl (cI, 14, .inl g0)), (h2, .inl (cI, 14, .inl g1)), (h3, .inl (cI, 14, .inl g2)), (h4, .inl (cI, 14, .inl g3)), (h5, .inl (cI, 14, .inl g4)), (h6, .inl (cI, 2001, .inl g5)), (h7, .inl (cI, 2001, .inl g6)), (h8, .inl (cI, 26, .inl g7)), (h9, .inl (cI, 2001, .inl g8)), (h10, .inl (cI, 26, .inl g9))] := hD
  refine lv_aload_n hx hb dX12_readFormula_10 rfl (lv_at hl 0 rfl) ?_
  refine k_cVv (As := []) (rest := []) (wc := [(h0, .inr (12, ((f0.set 76 (.int (-1))).set 83 (.int (-1))))), (h1, .inl (cI, 14, .inl g0)), (h2, .inl (cI, 14, .inl g1)), (h3, .inl (cI, 14, .inl g2)), (h4, .inl (cI, 14, .inl g3)), (h5, .inl (cI, 14, .inl g4))]) (wr := [(h6, .inl (cI, 2001, .inl g5)), (h7, .inl (cI, 2001, .inl g6)), (h8, .inl (cI, 26, .inl g7)), (h9, .inl (cI, 2001, .inl g8)), (h10, .inl (cI, 26, .inl g9))]) (w1 := (fun _ : Unit => [(h0, .inr (12, (((f0.set 76 (.int (-1))).set 83 (.int (-1))).set 76 (.int 0)))), (h1, .inl (cI, 14, .inl (upd g0 0 0))), (h2, .inl (cI, 14, .inl (upd g1 0 (-1)))), (h3, .inl (cI, 14, .inl (upd g2 0 (-1)))), (h4, .inl (cI, 14, .inl (upd g3 0 (-1)))), (h5, .inl (cI, 14, .inl (upd g4 0 0)))])) ⟨hx, hb, hml, hown, hts⟩ hN hX hAE hK hP hD hS hA [0, 1, 2, 3, 4, 5] [6, 7, 8, 9, 10] (ci := 12) rfl rfl rfl rfl (by decide +kernel) (by decide +kernel) (by decide +kernel) (c_X12_openFormula_0 l E D cI cJ cB cZ h0 (((f0.set 76 (.int (-1))).set 83 (.int (-1)))) h1 g0 h2 g1 h3 g2 h4 g3 h5 g4 (k_ne (by decide) (k_set e0)) (k_ne (by decide) (k_ne (by decide) e2)) (k_ne (by decide) (k_ne (by decide) e3)) (k_ne (by decide) (k_ne (by decide) e4)) (k_ne (by decide) (k_ne (by decide) e5)) (k_ne (by decide) (k_ne (by decide) e6))) (cwV 0 hts g9_X12_readFormula_X12_openFormula_645 rfl rfl rfl (by decide +kernel) ⟨Nat.le_of_ble_eq_true rfl, Nat.le_of_ble_eq_true rfl⟩) rfl hl.1 (Nat.le_of_ble_eq_true rfl) dX12_readFormula_11 ⟨Nat.le_of_ble_eq_true rfl, Nat.le_of_ble_eq_true rfl⟩ (fun _ H locs hP hD hS => ?_)
  have hP : va_P D vwCl [(h6, .inl (cI, 2001, .inl g5)), (h7, .inl (cI, 2001, .inl g6)), (h8, .inl (cI, 26, .inl g7)), (h9, .inl (cI, 2001, .inl g8)), (h10, .inl (cI, 26, .inl g9)), (h0, .inr (12, (((f0.set 76 (.int (-1))).set 83 (.int (-1))).set 76 (.int 0)))), (h1, .inl (cI, 14, .inl (upd g0 0 0))), (h2, .inl (cI, 14, .inl (upd g1 0 (-1)))), (h3, .inl (cI, 14, .inl (upd g2 0 (-1)))), (h4, .inl (cI, 14, .inl (upd g3 0 (-1)))), (h5, .inl (cI, 14, .inl (upd g4 0 0)))] H := hP
  have hD : va_D A [(h6, .inl (cI, 2001, .inl g5)), (h7, .inl (cI, 2001, .inl g6)), (h8, .inl (cI, 26, .inl g7)), (h9, .inl (cI, 2001, .inl g8)), (h10, .inl (cI, 26, .inl g9)), (h0, .inr (12, (((f0.set 76 (.int (-1))).set 83 (.int (-1))).set 76 (.int 0)))), (h1, .inl (cI, 14, .inl (upd g0 0 0))), (h2, .inl (cI, 14, .inl (upd g1 0 (-1)))), (h3, .inl (cI, 14, .inl (upd g2 0 (-1)))), (h4, .inl (cI, 14, .inl (upd g3 0 (-1)))), (h5, .inl (cI, 14, .inl (upd g4 0 0)))] := hD
  refine lv_aload_n hx hb dX12_readFormula_14 rfl (lv_at hl 0 rfl) ?_
  refine lv_iconst (v := 1) hx hb dX12_readFormula_15 (by decide) ?_
  refine k_put (D := D) (ci := 12) (v := .int 1) (ty := .int) (N := 195) hx hb hts hin12 tyX12 tyX12_ok nmX12 hown hK hP hD hS 5 rfl rfl (by decide) f9_12_84 (hts (.fieldLink RX12 648 "IntegerHouseModel" "state" "I") (o9_X12_readFormula _ (List.mem_of_getElem? (i := 6) rfl))) rfl pd_2 rfl rfl (k_len (k_ne (by decide) (k_ne (by decide) (k_ne (by decide) e7)))) dX12_readFormula_16 (fun H locs hP hD hS => ?_)
  have hP : va_P D vwCl [(h6, .inl (cI, 2001, .inl g5)), (h7, .inl (cI, 2001, .inl g6)), (h8, .inl (cI, 26, .inl g7)), (h9, .inl (cI, 2001, .inl g8)), (h10, .inl (cI, 26, .inl g9)), (h0, .inr (12, ((((f0.set 76 (.int (-1))).set 83 (.int (-1))).set 76 (.int 0)).set 84 (.int 1)))), (h1, .inl (cI, 14, .inl (upd g0 0 0))), (h2, .inl (cI, 14, .inl (upd g1 0 (-1)))), (h3, .inl (cI, 14, .inl (upd g2 0 (-1)))), (h4, .inl (cI, 14, .inl (upd g3 0 (-1)))), (h5, .inl (cI, 14, .inl (upd g4 0 0)))] H := hP
  have hD : va_D A [(h6, .inl (cI, 2001, .inl g5)), (h7, .inl (cI, 2001, .inl g6)), (h8, .inl (cI, 26, .inl g7)), (h9, .inl (cI, 2001, .inl g8)), (h10, .inl (cI, 26, .inl g9)), (h0, .inr (12, ((((f0.set 76 (.int (-1))).set 83 (.int (-1))).set 76 (.int 0)).set 84 (.int 1)))), (h1, .inl (cI, 14, .inl (upd g0 0 0))), (h2, .inl (cI, 14, .inl (upd g1 0 (-1)))), (h3, .inl (cI, 14, .inl (upd g2 0 (-1)))), (h4, .inl (cI, 14, .inl (upd g3 0 (-1)))), (h5, .inl (cI, 14, .inl (upd g4 0 0)))] := hD
  refine lv_aload_n hx hb dX12_readFormula_19 rfl (lv_at hl 0 rfl) ?_
  refine k_get (D := D) (ci := 12) (v := .int 0) (N := 195) hx hb hts hin12 hown hK hP 5 rfl rfl (by decide) f9_12_31 (hts (.fieldLink RX12 562 "IntegerHouseModel" "faulty" "Z") (o9_X12_readFormula _ (List.mem_of_getElem? (i := 7) rfl))) (k_ne (by decide) (k_ne (by decide) (k_ne (by decide) (k_ne (by decide) e8)))) dX12_readFormula_20 ?_
  refine lv_if_ne (tgt := 85) hx hb dX12_readFormula_23 (by decide) (fun c9 => absurd (by decide) c9) (fun _ => ?_)
  refine lv_aload_n hx hb dX12_readFormula_26 rfl (lv_at hl 0 rfl) ?_
  refine k_get (D := D) (ci := 12) (v := .int 1) (N := 195) hx hb hts hin12 hown hK hP 5 rfl rfl (by decide) f9_12_84 (hts (.fieldLink RX12 648 "IntegerHouseModel" "state" "I") (o9_X12_readFormula _ (List.mem_of_getElem? (i := 6) rfl))) (k_set (k_ne (by decide) (k_ne (by decide) (k_ne (by decide) e7)))) dX12_readFormula_27 ?_
  refine lv_bipush (v := 7) hx hb dX12_readFormula_30 (by decide) ?_
  refine lv_icmp_eq (tgt := 85) hx hb dX12_readFormula_32 (by decide) (fun c9 => absurd c9 (by decide)) (fun _ => ?_)
  refine lv_aload_n hx hb dX12_readFormula_35 rfl (lv_at hl 0 rfl) ?_
  refine k_get (D := D) (ci := 12) (v := .int 1) (N := 195) hx hb hts hin12 hown hK hP 5 rfl rfl (by decide) f9_12_84 (hts (.fieldLink RX12 648 "IntegerHouseModel" "state" "I") (o9_X12_readFormula _ (List.mem_of_getElem? (i := 6) rfl))) (k_set (k_ne (by decide) (k_ne (by decide) (k_ne (by decide) e7)))) dX12_readFormula_36 ?_
  refine lv_lookup (off := 25) (tgt := 64) hx hb dX12_readFormula_39 (by decide) (by decide) (by decide) ?_
  refine lv_aload_n hx hb dX12_readFormula_64 rfl (lv_at hl 0 rfl) ?_
  refine k_cVv (As := []) (rest := []) (wc := [(h0, .inr (12, ((((f0.set 76 (.int (-1))).set 83 (.int (-1))).set 76 (.int 0)).set 84 (.int 1)))), (h6, .inl (cI, 2001, .inl g5)), (h7, .inl (cI, 2001, .inl g6)), (h8, .inl (cI, 26, .inl g7)), (h9, .inl (cI, 2001, .inl g8))]) (wr := [(h10, .inl (cI, 26, .inl g9)), (h1, .inl (cI, 14, .inl (upd g0 0 0))), (h2, .inl (cI, 14, .inl (upd g1 0 (-1)))), (h3, .inl (cI, 14, .inl (upd g2 0 (-1)))), (h4, .inl (cI, 14, .inl (upd g3 0 (-1)))), (h5, .inl (cI, 14, .inl (upd g4 0 0)))]) (w1 := (fun _ : Unit => [(h0, .inr (12, (((((((f0.set 76 (.int (-1))).set 83 (.int (-1))).set 76 (.int 0)).set 84 (.int 1)).set 31 (.int 1)).set 29 (.int 2)).set 30 (.int 0)))), (h6, .inl (cI, 2001, .inl g5)), (h7, .inl (cI, 2001, .inl g6)), (h8, .inl (cI, 26, .inl g7)), (h9, .inl (cI, 2001, .inl g8))])) ⟨hx, hb, hml, hown, hts⟩ hN hX hAE hK hP hD hS hA [5, 0, 1, 2, 3] [4, 6, 7, 8, 9, 10] (ci := 12) rfl rfl rfl rfl (by decide +kernel) (by decide +kernel) (by decide +kernel) (c_X12_readOne_0 l E D cI cJ cB cZ h0 (((((f0.set 76 (.int (-1))).set 83 (.int (-1))).set 76 (.int 0)).set 84 (.int 1))) h6 g5 h7 g6 h8 g7 h9 g8 (k_ne (by decide) (k_ne (by decide) (k_ne (by decide) (k_ne (by decide) e9)))) (k_ne (by decide) (k_ne (by decide) (k_ne (by decide) (k_ne (by decide) e10)))) e11 (k_ne (by decide) (k_ne (by decide) (k_ne (by decide) (k_ne (by decide) e12)))) e13 (k_ne (by decide) (k_ne (by decide) (k_ne (by decide) (k_ne (by decide) e14)))) (k_ne (by decide) (k_ne (by decide) (k_ne (by decide) (k_ne (by decide) e15)))) e16 (k_ne (by decide) (k_ne (by decide) (k_ne (by decide) (k_ne (by decide) e8)))) (k_ne (by decide) (k_ne (by decide) (k_ne (by decide) (k_ne (by decide) e17)))) (k_ne (by decide) (k_ne (by decide) (k_ne (by decide) (k_ne (by decide) e18)))) e19 (k_ne (by decide) (k_ne (by decide) (k_ne (by decide) (k_ne (by decide) e20))))) (cwV 0 hts g9_X12_readFormula_X12_readOne_651 rfl rfl rfl (by decide +kernel) ⟨Nat.le_of_ble_eq_true rfl, Nat.le_of_ble_eq_true rfl⟩) rfl hl.1 (Nat.le_of_ble_eq_true rfl) dX12_readFormula_65 ⟨Nat.le_of_ble_eq_true rfl, Nat.le_of_ble_eq_true rfl⟩ (fun _ H locs hP hD hS => ?_)
  have hP : va_P D vwCl [(h10, .inl (cI, 26, .inl g9)), (h1, .inl (cI, 14, .inl (upd g0 0 0))), (h2, .inl (cI, 14, .inl (upd g1 0 (-1)))), (h3, .inl (cI, 14, .inl (upd g2 0 (-1)))), (h4, .inl (cI, 14, .inl (upd g3 0 (-1)))), (h5, .inl (cI, 14, .inl (upd g4 0 0))), (h0, .inr (12, (((((((f0.set 76 (.int (-1))).set 83 (.int (-1))).set 76 (.int 0)).set 84 (.int 1)).set 31 (.int 1)).set 29 (.int 2)).set 30 (.int 0)))), (h6, .inl (cI, 2001, .inl g5)), (h7, .inl (cI, 2001, .inl g6)), (h8, .inl (cI, 26, .inl g7)), (h9, .inl (cI, 2001, .inl g8))] H := hP
  have hD : va_D A [(h10, .inl (cI, 26, .inl g9)), (h1, .inl (cI, 14, .inl (upd g0 0 0))), (h2, .inl (cI, 14, .inl (upd g1 0 (-1)))), (h3, .inl (cI, 14, .inl (upd g2 0 (-1)))), (h4, .inl (cI, 14, .inl (upd g3 0 (-1)))), (h5, .inl (cI, 14, .inl (upd g4 0 0))), (h0, .inr (12, (((((((f0.set 76 (.int (-1))).set 83 (.int (-1))).set 76 (.int 0)).set 84 (.int 1)).set 31 (.int 1)).set 29 (.int 2)).set 30 (.int 0)))), (h6, .inl (cI, 2001, .inl g5)), (h7, .inl (cI, 2001, .inl g6)), (h8, .inl (cI, 26, .inl g7)), (h9, .inl (cI, 2001, .inl g8))] := hD
  refine lv_goto (tgt := 19) hx hb dX12_readFormula_68 (by decide) ?_
  refine lv_aload_n hx hb dX12_readFormula_19 rfl (lv_at hl 0 rfl) ?_
  refine k_get (D := D) (ci := 12) (v := .int 1) (N := 195) hx hb hts hin12 hown hK hP 6 rfl rfl (by decide) f9_12_31 (hts (.fieldLink RX12 562 "IntegerHouseModel" "faulty" "Z") (o9_X12_readFormula _ (List.mem_of_getElem? (i := 7) rfl))) (k_ne (by decide) (k_ne (by decide) (k_set (k_ne (by decide) (k_ne (by decide) (k_ne (by decide) (k_ne (by decide) e8))))))) dX12_readFormula_20 ?_
  refine lv_if_ne (tgt := 85) hx hb dX12_readFormula_23 (by decide) (fun _ => ?_) (fun c9 => absurd c9 (by decide))
  refine lv_aload_n hx hb dX12_readFormula_85 rfl (lv_at hl 0 rfl) ?_
  refine k_get (D := D) (ci := 12) (v := .ref h10) (N := 195) hx hb hts hin12 hown hK hP 6 rfl rfl (by decide) f9_12_68 (hts (.fieldLink RX12 184 "IntegerHouseModel" "rootOf" "[I") (o9_X12_readFormula _ (List.mem_of_getElem? (i := 11) rfl))) (k_ne (by decide) (k_ne (by decide) (k_ne (by decide) (k_ne (by decide) (k_ne (by decide) (k_ne (by decide) (k_ne (by decide) e21))))))) dX12_readFormula_86 ?_
  refine lv_aload_n hx hb dX12_readFormula_89 rfl (lv_at hl 0 rfl) ?_
  refine k_get (D := D) (ci := 12) (v := .int 24) (N := 195) hx hb hts hin12 hown hK hP 6 rfl rfl (by decide) f9_12_66 (hts (.fieldLink RX12 630 "IntegerHouseModel" "slot" "I") (o9_X12_readFormula _ (List.mem_of_getElem? (i := 12) rfl))) (k_ne (by decide) (k_ne (by decide) (k_ne (by decide) (k_ne (by decide) (k_ne (by decide) (k_ne (by decide) (k_ne (by decide) e15))))))) dX12_readFormula_90 ?_
  refine lv_aload_n hx hb dX12_readFormula_93 rfl (lv_at hl 0 rfl) ?_
  refine k_get (D := D) (ci := 12) (v := .int 0) (N := 195) hx hb hts hin12 hown hK hP 6 rfl rfl (by decide) f9_12_85 (hts (.fieldLink RX12 660 "IntegerHouseModel" "current" "I") (o9_X12_readFormula _ (List.mem_of_getElem? (i := 13) rfl))) (k_ne (by decide) (k_ne (by decide) (k_ne (by decide) (k_ne (by decide) (k_ne (by decide) (k_ne (by decide) (k_ne (by decide) e22))))))) dX12_readFormula_94 ?_
  refine va_iast hx hb hK hP hD hS 0 0 rfl rfl (k_in (by decide)) dX12_readFormula_97 (fun H locs hP hD hS => ?_)
  have hP : va_P D vwCl [(h10, .inl (cI, 26, .inl (upd g9 24 0))), (h1, .inl (cI, 14, .inl (upd g0 0 0))), (h2, .inl (cI, 14, .inl (upd g1 0 (-1)))), (h3, .inl (cI, 14, .inl (upd g2 0 (-1)))), (h4, .inl (cI, 14, .inl (upd g3 0 (-1)))), (h5, .inl (cI, 14, .inl (upd g4 0 0))), (h0, .inr (12, (((((((f0.set 76 (.int (-1))).set 83 (.int (-1))).set 76 (.int 0)).set 84 (.int 1)).set 31 (.int 1)).set 29 (.int 2)).set 30 (.int 0)))), (h6, .inl (cI, 2001, .inl g5)), (h7, .inl (cI, 2001, .inl g6)), (h8, .inl (cI, 26, .inl g7)), (h9, .inl (cI, 2001, .inl g8))] H := hP
  have hD : va_D A [(h10, .inl (cI, 26, .inl (upd g9 24 0))), (h1, .inl (cI, 14, .inl (upd g0 0 0))), (h2, .inl (cI, 14, .inl (upd g1 0 (-1)))), (h3, .inl (cI, 14, .inl (upd g2 0 (-1)))), (h4, .inl (cI, 14, .inl (upd g3 0 (-1)))), (h5, .inl (cI, 14, .inl (upd g4 0 0))), (h0, .inr (12, (((((((f0.set 76 (.int (-1))).set 83 (.int (-1))).set 76 (.int 0)).set 84 (.int 1)).set 31 (.int 1)).set 29 (.int 2)).set 30 (.int 0)))), (h6, .inl (cI, 2001, .inl g5)), (h7, .inl (cI, 2001, .inl g6)), (h8, .inl (cI, 26, .inl g7)), (h9, .inl (cI, 2001, .inl g8))] := hD
  refine lv_aload_n hx hb dX12_readFormula_98 rfl (lv_at hl 0 rfl) ?_
  refine k_get (D := D) (ci := 12) (v := .int 0) (N := 195) hx hb hts hin12 hown hK hP 6 rfl rfl (by decide) f9_12_85 (hts (.fieldLink RX12 660 "IntegerHouseModel" "current" "I") (o9_X12_readFormula _ (List.mem_of_getElem? (i := 13) rfl))) (k_ne (by decide) (k_ne (by decide) (k_ne (by decide) (k_ne (by decide) (k_ne (by decide) (k_ne (by decide) (k_ne (by decide) e22))))))) dX12_readFormula_99 ?_
  have hP := hP.sub (ws' := [(h0, .inr (12, (((((((f0.set 76 (.int (-1))).set 83 (.int (-1))).set 76 (.int 0)).set 84 (.int 1)).set 31 (.int 1)).set 29 (.int 2)).set 30 (.int 0)))), (h1, .inl (cI, 14, .inl (upd g0 0 0))), (h2, .inl (cI, 14, .inl (upd g1 0 (-1)))), (h3, .inl (cI, 14, .inl (upd g2 0 (-1)))), (h4, .inl (cI, 14, .inl (upd g3 0 (-1)))), (h5, .inl (cI, 14, .inl (upd g4 0 0))), (h6, .inl (cI, 2001, .inl g5)), (h7, .inl (cI, 2001, .inl g6)), (h8, .inl (cI, 26, .inl g7)), (h9, .inl (cI, 2001, .inl g8)), (h10, .inl (cI, 26, .inl (upd g9 24 0)))]) [6, 1, 2, 3, 4, 5, 7, 8, 9, 10, 0] rfl
  have hD := hD.sub (ws' := [(h0, .inr (12, (((((((f0.set 76 (.int (-1))).set 83 (.int (-1))).set 76 (.int 0)).set 84 (.int 1)).set 31 (.int 1)).set 29 (.int 2)).set 30 (.int 0)))), (h1, .inl (cI, 14, .inl (upd g0 0 0))), (h2, .inl (cI, 14, .inl (upd g1 0 (-1)))), (h3, .inl (cI, 14, .inl (upd g2 0 (-1)))), (h4, .inl (cI, 14, .inl (upd g3 0 (-1)))), (h5, .inl (cI, 14, .inl (upd g4 0 0))), (h6, .inl (cI, 2001, .inl g5)), (h7, .inl (cI, 2001, .inl g6)), (h8, .inl (cI, 26, .inl g7)), (h9, .inl (cI, 2001, .inl g8)), (h10, .inl (cI, 26, .inl (upd g9 24 0)))]) [6, 1, 2, 3, 4, 5, 7, 8, 9, 10, 0] (by decide +kernel) rfl
  exact W.iret (v := 0) hx hb hr (fun t ht hW => ⟨⟨0, (), rfl, rfl, kB_mk ht hW hP hK hD⟩, hS.F ht⟩) hS.2.2 dX12_readFormula_102
set_option maxHeartbeats 400000000 in
set_option maxRecDepth 100000 in
theorem c_X12_readsFormula_0 (l : Launch) (E : kE) (D : va_G) (cI cJ cB cZ : ClassId) (h0 : Nat) (f0 : List Value) (h1 : Nat) (h2 : Nat) (h3 : Nat) (h4 : Nat) (h5 : Nat) (g0 : Nat → Int32) (g1 : Nat → Int32) (g2 : Nat → Int32) (g3 : Nat → Int32) (g4 : Nat → Int32) (h6 : Nat) (h7 : Nat) (h8 : Nat) (h9 : Nat) (h10 : Nat) (h11 : Nat) (g5 : Nat → Int32) (h12 : Nat) (g6 : Nat → Int32) (h13 : Nat) (g7 : Nat → Int32) (h14 : Nat) (g8 : Nat → Int32) (g9 : Nat → Int32) (g10 : Nat → Int32) (g11 : Nat → Int32) (g12 : Nat → Int32) (g13 : Nat → Int32) (e0 : f0[28]? = some (.int 0)) (e1 : f0[66]? = some (.int 0)) (e2 : f0[67]? = some (.int 0)) (e3 : f0[40]? = some (.ref h1)) (e4 : f0[45]? = some (.ref h2)) (e5 : f0[56]? = some (.ref h3)) (e6 : f0[60]? = some (.ref h4)) (e7 : f0[65]? = some (.ref h5)) (e8 : f0[76]? = some (.int 0)) (e9 : f0[83]? = some (.int 0)) (e10 : f0[69]? = some (.ref h6)) (e11 : f0[70]? = some (.ref h7)) (e12 : f0[71]? = some (.ref h8)) (e13 : f0[73]? = some (.ref h9)) (e14 : f0[75]? = some (.ref h10)) (e15 : f0[84]? = some (.int 0)) (e16 : f0[31]? = some (.int 0)) (e17 : f0[25]? = some (.ref h11)) (e18 : g5 0 = 0) (e19 : f0[26]? = some (.ref h12)) (e20 : g6 0 = 0) (e21 : f0[29]? = some (.int 0)) (e22 : f0[23]? = some (.ref h13)) (e23 : g7 0 = 0) (e24 : f0[30]? = some (.int 0)) (e25 : f0[68]? = some (.ref h14)) (e26 : f0[85]? = some (.int 0)) : kI l E D (kT cI cJ cB cZ) yX12_readsFormula vW_X12_readsFormula ({ frames := 4, cells := 0, slots := 0, locals := 86 }) [.ref h0] [(h0, .inr (12, f0)), (h1, .inl (cI, 26, .inl g0)), (h2, .inl (cI, 26, .inl g1)), (h3, .inl (cI, 26, .inl g2)), (h4, .inl (cI, 26, .inl g3)), (h5, .inl (cI, 26, .inl g4)), (h11, .inl (cI, 2001, .inl g5)), (h12, .inl (cI, 2001, .inl g6)), (h13, .inl (cI, 2001, .inl g7)), (h6, .inl (cI, 14, .inl g8)), (h7, .inl (cI, 14, .inl g9)), (h8, .inl (cI, 14, .inl g10)), (h9, .inl (cI, 14, .inl g11)), (h10, .inl (cI, 14, .inl g12)), (h14, .inl (cI, 26, .inl g13))] (0) [(h0, .inr (12, (((((((((f0.set 66 (.int 24)).set 67 (.int 0)).set 76 (.int (-1))).set 83 (.int (-1))).set 76 (.int 0)).set 84 (.int 1)).set 31 (.int 1)).set 29 (.int 2)).set 30 (.int 0)))), (h1, .inl (cI, 26, .inl (upd g0 24 0))), (h2, .inl (cI, 26, .inl (upd g1 24 0))), (h3, .inl (cI, 26, .inl (upd g2 24 0))), (h4, .inl (cI, 26, .inl (upd g3 24 0))), (h5, .inl (cI, 26, .inl (upd g4 24 0))), (h11, .inl (cI, 2001, .inl g5)), (h12, .inl (cI, 2001, .inl g6)), (h13, .inl (cI, 2001, .inl g7)), (h6, .inl (cI, 14, .inl (upd g8 0 0))), (h7, .inl (cI, 14, .inl (upd g9 0 (-1)))), (h8, .inl (cI, 14, .inl (upd g10 0 (-1)))), (h9, .inl (cI, 14, .inl (upd g11 0 (-1)))), (h10, .inl (cI, 14, .inl (upd g12 0 0))), (h14, .inl (cI, 26, .inl (upd g13 24 0)))] 0 0 := by
  intro sz
  refine Met.ofW (cc := cX12_readsFormula) (maxL := 3) (ret := (some .boolean)) (by decide) rfl ?_
  intro p e s m args below meth c s₁ B hml hv
  obtain ⟨rfl, hsz, hP, hK, hD0, hN, hX⟩ := hv
  have hx := B.exec
  have hb := B.bytes
  have hr := B.returns
  have hts := atoms_spec (ws := vW_X12_readsFormula) B.pre
  have hown : s.vm.findClass RX12 = some m.cls := findClass_of_methodNamed B.named
  have hlocks := B.notSynchronized
  have hin12 : ∀ w ∈ wsX120, w ∈ vW_X12_readsFormula := u9_X12_readsFormula_wsX120
  subst hsz
  have hD := hD0.self (sz := s.heap.size)
  have hAE := k_AE hD0 hX
  generalize hAe : va_A [(h0, .inr (12, f0)), (h1, .inl (cI, 26, .inl g0)), (h2, .inl (cI, 26, .inl g1)), (h3, .inl (cI, 26, .inl g2)), (h4, .inl (cI, 26, .inl g3)), (h5, .inl (cI, 26, .inl g4)), (h11, .inl (cI, 2001, .inl g5)), (h12, .inl (cI, 2001, .inl g6)), (h13, .inl (cI, 2001, .inl g7)), (h6, .inl (cI, 14, .inl g8)), (h7, .inl (cI, 14, .inl g9)), (h8, .inl (cI, 14, .inl g10)), (h9, .inl (cI, 14, .inl g11)), (h10, .inl (cI, 14, .inl g12)), (h14, .inl (cI, 26, .inl g13))] s.heap.size = A at hD hAE ⊢
  have hA : ∀ q : Nat, s.heap.size ≤ q → A q := fun q h => by rw [← hAe]; exact Or.inr h
  have hS : va_S A s.heap s.heap [] := va_S.rf
  have hP : va_P D vwCl [(h0, .inr (12, f0)), (h1, .inl (cI, 26, .inl g0)), (h2, .inl (cI, 26, .inl g1)), (h3, .inl (cI, 26, .inl g2)), (h4, .inl (cI, 26, .inl g3)), (h5, .inl (cI, 26, .inl g4)), (h11, .inl (cI, 2001, .inl g5)), (h12, .inl (cI, 2001, .inl g6)), (h13, .inl (cI, 2001, .inl g7)), (h6, .inl (cI, 14, .inl g8)), (h7, .inl (cI, 14, .inl g9)), (h8, .inl (cI, 14, .inl g10)), (h9, .inl (cI, 14, .inl g11)), (h10, .inl (cI, 14, .inl g12)), (h14, .inl (cI, 26, .inl g13))] s.heap := hP
  have hl := lv_entry ([.ref h0] : List Value) (n := 3) (Nat.le_of_ble_eq_true rfl)
  rw [lg_entry_eq]
  generalize (lg_sl ([.ref h0]) ++ List.replicate (3 - (lg_sl ([.ref h0])).length) Slot.unset).toArray = ls at hl ⊢
  have hl : lv_has ls 3 [(0, .ref h0)] := hl
  refine lv_aload_n hx hb dX12_readsFormula_0 rfl (lv_at hl 0 rfl) ?_
  refine k_get (D := D) (ci := 12) (v := .int 0) (N := 195) hx hb hts hin12 hown hK hP 0 rfl rfl (by decide) f9_12_28 (hts (.fieldLink RX12 597 "IntegerHouseModel" "now" "I") (o9_X12_readsFormula _ (List.mem_of_getElem? (i := 0) rfl))) e0 dX12_readsFormula_1 ?_
  refine lv_istore_n (lv' := [(1, .int 0), (0, .ref h0)]) hx hb dX12_readsFormula_4 rfl hl (by decide) rfl (fun ls hl => ?_)
  refine lv_aload_n hx hb dX12_readsFormula_5 rfl (lv_at hl 1 rfl) ?_
  refine lv_bipush (v := 24) hx hb dX12_readsFormula_6 (by decide) ?_
  refine k_cVv (As := [.int 24]) (rest := []) (wc := [(h0, .inr (12, f0)), (h1, .inl (cI, 26, .inl g0)), (h2, .inl (cI, 26, .inl g1)), (h3, .inl (cI, 26, .inl g2)), (h4, .inl (cI, 26, .inl g3)), (h5, .inl (cI, 26, .inl g4))]) (wr := [(h11, .inl (cI, 2001, .inl g5)), (h12, .inl (cI, 2001, .inl g6)), (h13, .inl (cI, 2001, .inl g7)), (h6, .inl (cI, 14, .inl g8)), (h7, .inl (cI, 14, .inl g9)), (h8, .inl (cI, 14, .inl g10)), (h9, .inl (cI, 14, .inl g11)), (h10, .inl (cI, 14, .inl g12)), (h14, .inl (cI, 26, .inl g13))]) (w1 := (fun _ : Unit => [(h0, .inr (12, ((f0.set 66 (.int 24)).set 67 (.int 0)))), (h1, .inl (cI, 26, .inl (upd g0 24 0))), (h2, .inl (cI, 26, .inl (upd g1 24 0))), (h3, .inl (cI, 26, .inl (upd g2 24 0))), (h4, .inl (cI, 26, .inl (upd g3 24 0))), (h5, .inl (cI, 26, .inl (upd g4 24 0)))])) ⟨hx, hb, hml, hown, hts⟩ hN hX hAE hK hP hD hS hA [0, 1, 2, 3, 4, 5] [6, 7, 8, 9, 10, 11, 12, 13, 14] (ci := 12) rfl rfl rfl rfl (by decide +kernel) (by decide +kernel) (by decide +kernel) (c_X12_beginSlot_0 l E D cI cJ cB cZ h0 f0 h1 g0 h2 g1 h3 g2 h4 g3 h5 g4 e1 e2 e3 e4 e5 e6 e7) (cwV 1 hts g9_X12_readsFormula_X12_beginSlot_842 rfl rfl rfl (by decide +kernel) ⟨Nat.le_of_ble_eq_true rfl, Nat.le_of_ble_eq_true rfl⟩) rfl hl.1 (Nat.le_of_ble_eq_true rfl) dX12_readsFormula_8 ⟨Nat.le_of_ble_eq_true rfl, Nat.le_of_ble_eq_true rfl⟩ (fun _ H locs hP hD hS => ?_)
  have hP : va_P D vwCl [(h11, .inl (cI, 2001, .inl g5)), (h12, .inl (cI, 2001, .inl g6)), (h13, .inl (cI, 2001, .inl g7)), (h6, .inl (cI, 14, .inl g8)), (h7, .inl (cI, 14, .inl g9)), (h8, .inl (cI, 14, .inl g10)), (h9, .inl (cI, 14, .inl g11)), (h10, .inl (cI, 14, .inl g12)), (h14, .inl (cI, 26, .inl g13)), (h0, .inr (12, ((f0.set 66 (.int 24)).set 67 (.int 0)))), (h1, .inl (cI, 26, .inl (upd g0 24 0))), (h2, .inl (cI, 26, .inl (upd g1 24 0))), (h3, .inl (cI, 26, .inl (upd g2 24 0))), (h4, .inl (cI, 26, .inl (upd g3 24 0))), (h5, .inl (cI, 26, .inl (upd g4 24 0)))] H := hP
  have hD : va_D A [(h11, .inl (cI, 2001, .inl g5)), (h12, .inl (cI, 2001, .inl g6)), (h13, .inl (cI, 2001, .inl g7)), (h6, .inl (cI, 14, .inl g8)), (h7, .inl (cI, 14, .inl g9)), (h8, .inl (cI, 14, .inl g10)), (h9, .inl (cI, 14, .inl g11)), (h10, .inl (cI, 14, .inl g12)), (h14, .inl (cI, 26, .inl g13)), (h0, .inr (12, ((f0.set 66 (.int 24)).set 67 (.int 0)))), (h1, .inl (cI, 26, .inl (upd g0 24 0))), (h2, .inl (cI, 26, .inl (upd g1 24 0))), (h3, .inl (cI, 26, .inl (upd g2 24 0))), (h4, .inl (cI, 26, .inl (upd g3 24 0))), (h5, .inl (cI, 26, .inl (upd g4 24 0)))] := hD
  refine lv_aload_n hx hb dX12_readsFormula_11 rfl (lv_at hl 1 rfl) ?_
  refine k_cVi (As := []) (rest := []) (wc := [(h0, .inr (12, ((f0.set 66 (.int 24)).set 67 (.int 0)))), (h6, .inl (cI, 14, .inl g8)), (h7, .inl (cI, 14, .inl g9)), (h8, .inl (cI, 14, .inl g10)), (h9, .inl (cI, 14, .inl g11)), (h10, .inl (cI, 14, .inl g12)), (h11, .inl (cI, 2001, .inl g5)), (h12, .inl (cI, 2001, .inl g6)), (h1, .inl (cI, 26, .inl (upd g0 24 0))), (h13, .inl (cI, 2001, .inl g7)), (h14, .inl (cI, 26, .inl g13))]) (wr := [(h2, .inl (cI, 26, .inl (upd g1 24 0))), (h3, .inl (cI, 26, .inl (upd g2 24 0))), (h4, .inl (cI, 26, .inl (upd g3 24 0))), (h5, .inl (cI, 26, .inl (upd g4 24 0)))]) (w1 := [(h0, .inr (12, (((((((((f0.set 66 (.int 24)).set 67 (.int 0)).set 76 (.int (-1))).set 83 (.int (-1))).set 76 (.int 0)).set 84 (.int 1)).set 31 (.int 1)).set 29 (.int 2)).set 30 (.int 0)))), (h6, .inl (cI, 14, .inl (upd g8 0 0))), (h7, .inl (cI, 14, .inl (upd g9 0 (-1)))), (h8, .inl (cI, 14, .inl (upd g10 0 (-1)))), (h9, .inl (cI, 14, .inl (upd g11 0 (-1)))), (h10, .inl (cI, 14, .inl (upd g12 0 0))), (h11, .inl (cI, 2001, .inl g5)), (h12, .inl (cI, 2001, .inl g6)), (h1, .inl (cI, 26, .inl (upd g0 24 0))), (h13, .inl (cI, 2001, .inl g7)), (h14, .inl (cI, 26, .inl (upd g13 24 0)))]) ⟨hx, hb, hml, hown, hts⟩ hN hX hAE hK hP hD hS hA [9, 3, 4, 5, 6, 7, 0, 1, 10, 2, 8] [11, 12, 13, 14] (ci := 12) rfl rfl rfl rfl (by decide +kernel) (by decide +kernel) (by decide +kernel) (c_X12_readFormula_0 l E D cI cJ cB cZ h0 (((f0.set 66 (.int 24)).set 67 (.int 0))) h6 h7 h8 h9 h10 g8 g9 g10 g11 g12 h11 g5 h12 g6 h1 ((upd g0 24 0)) h13 g7 h14 g13 (k_ne (by decide) (k_ne (by decide) e8)) (k_ne (by decide) (k_ne (by decide) e9)) (k_ne (by decide) (k_ne (by decide) e10)) (k_ne (by decide) (k_ne (by decide) e11)) (k_ne (by decide) (k_ne (by decide) e12)) (k_ne (by decide) (k_ne (by decide) e13)) (k_ne (by decide) (k_ne (by decide) e14)) (k_ne (by decide) (k_ne (by decide) e15)) (k_ne (by decide) (k_ne (by decide) e16)) (k_ne (by decide) (k_ne (by decide) e17)) (k_ne (by decide) (k_ne (by decide) e0)) e18 (k_ne (by decide) (k_ne (by decide) e19)) e20 (k_ne (by decide) (k_ne (by decide) e3)) (k_ne (by decide) (k_set e1)) rfl (k_ne (by decide) (k_ne (by decide) e21)) (k_ne (by decide) (k_ne (by decide) e22)) e23 (k_ne (by decide) (k_ne (by decide) e24)) (k_ne (by decide) (k_ne (by decide) e25)) (k_ne (by decide) (k_ne (by decide) e26))) (cwV 0 hts g9_X12_readsFormula_X12_readFormula_845 rfl rfl rfl (by decide +kernel) ⟨Nat.le_of_ble_eq_true rfl, Nat.le_of_ble_eq_true rfl⟩) rfl hl.1 (Nat.le_of_ble_eq_true rfl) dX12_readsFormula_12 ⟨Nat.le_of_ble_eq_true rfl, Nat.le_of_ble_eq_true rfl⟩ (fun H locs hP hD hS => ?_)
  have hP : va_P D vwCl [(h2, .inl (cI, 26, .inl (upd g1 24 0))), (h3, .inl (cI, 26, .inl (upd g2 24 0))), (h4, .inl (cI, 26, .inl (upd g3 24 0))), (h5, .inl (cI, 26, .inl (upd g4 24 0))), (h0, .inr (12, (((((((((f0.set 66 (.int 24)).set 67 (.int 0)).set 76 (.int (-1))).set 83 (.int (-1))).set 76 (.int 0)).set 84 (.int 1)).set 31 (.int 1)).set 29 (.int 2)).set 30 (.int 0)))), (h6, .inl (cI, 14, .inl (upd g8 0 0))), (h7, .inl (cI, 14, .inl (upd g9 0 (-1)))), (h8, .inl (cI, 14, .inl (upd g10 0 (-1)))), (h9, .inl (cI, 14, .inl (upd g11 0 (-1)))), (h10, .inl (cI, 14, .inl (upd g12 0 0))), (h11, .inl (cI, 2001, .inl g5)), (h12, .inl (cI, 2001, .inl g6)), (h1, .inl (cI, 26, .inl (upd g0 24 0))), (h13, .inl (cI, 2001, .inl g7)), (h14, .inl (cI, 26, .inl (upd g13 24 0)))] H := hP
  have hD : va_D A [(h2, .inl (cI, 26, .inl (upd g1 24 0))), (h3, .inl (cI, 26, .inl (upd g2 24 0))), (h4, .inl (cI, 26, .inl (upd g3 24 0))), (h5, .inl (cI, 26, .inl (upd g4 24 0))), (h0, .inr (12, (((((((((f0.set 66 (.int 24)).set 67 (.int 0)).set 76 (.int (-1))).set 83 (.int (-1))).set 76 (.int 0)).set 84 (.int 1)).set 31 (.int 1)).set 29 (.int 2)).set 30 (.int 0)))), (h6, .inl (cI, 14, .inl (upd g8 0 0))), (h7, .inl (cI, 14, .inl (upd g9 0 (-1)))), (h8, .inl (cI, 14, .inl (upd g10 0 (-1)))), (h9, .inl (cI, 14, .inl (upd g11 0 (-1)))), (h10, .inl (cI, 14, .inl (upd g12 0 0))), (h11, .inl (cI, 2001, .inl g5)), (h12, .inl (cI, 2001, .inl g6)), (h1, .inl (cI, 26, .inl (upd g0 24 0))), (h13, .inl (cI, 2001, .inl g7)), (h14, .inl (cI, 26, .inl (upd g13 24 0)))] := hD
  refine lv_istore_n (lv' := [(2, .int 0), (1, .int 0), (0, .ref h0)]) hx hb dX12_readsFormula_15 rfl hl (by decide) rfl (fun ls hl => ?_)
  refine lv_aload_n hx hb dX12_readsFormula_16 rfl (lv_at hl 2 rfl) ?_
  refine k_get (D := D) (ci := 12) (v := .int 1) (N := 195) hx hb hts hin12 hown hK hP 4 rfl rfl (by decide) f9_12_31 (hts (.fieldLink RX12 562 "IntegerHouseModel" "faulty" "Z") (o9_X12_readsFormula _ (List.mem_of_getElem? (i := 8) rfl))) (k_ne (by decide) (k_ne (by decide) (k_set (k_ne (by decide) (k_ne (by decide) (k_ne (by decide) (k_ne (by decide) (k_ne (by decide) (k_ne (by decide) e16))))))))) dX12_readsFormula_17 ?_
  refine lv_if_ne (tgt := 39) hx hb dX12_readsFormula_20 (by decide) (fun _ => ?_) (fun c9 => absurd c9 (by decide))
  refine lv_aload_n hx hb dX12_readsFormula_39 rfl (lv_at hl 2 rfl) ?_
  refine k_get (D := D) (ci := 12) (v := .int 1) (N := 195) hx hb hts hin12 hown hK hP 4 rfl rfl (by decide) f9_12_31 (hts (.fieldLink RX12 562 "IntegerHouseModel" "faulty" "Z") (o9_X12_readsFormula _ (List.mem_of_getElem? (i := 8) rfl))) (k_ne (by decide) (k_ne (by decide) (k_set (k_ne (by decide) (k_ne (by decide) (k_ne (by decide) (k_ne (by decide) (k_ne (by decide) (k_ne (by decide) e16))))))))) dX12_readsFormula_40 ?_
  refine lv_if_ne (tgt := 50) hx hb dX12_readsFormula_43 (by decide) (fun _ => ?_) (fun c9 => absurd c9 (by decide))
  refine lv_iconst (v := 0) hx hb dX12_readsFormula_50 (by decide) ?_
  have hP := hP.sub (ws' := [(h0, .inr (12, (((((((((f0.set 66 (.int 24)).set 67 (.int 0)).set 76 (.int (-1))).set 83 (.int (-1))).set 76 (.int 0)).set 84 (.int 1)).set 31 (.int 1)).set 29 (.int 2)).set 30 (.int 0)))), (h1, .inl (cI, 26, .inl (upd g0 24 0))), (h2, .inl (cI, 26, .inl (upd g1 24 0))), (h3, .inl (cI, 26, .inl (upd g2 24 0))), (h4, .inl (cI, 26, .inl (upd g3 24 0))), (h5, .inl (cI, 26, .inl (upd g4 24 0))), (h11, .inl (cI, 2001, .inl g5)), (h12, .inl (cI, 2001, .inl g6)), (h13, .inl (cI, 2001, .inl g7)), (h6, .inl (cI, 14, .inl (upd g8 0 0))), (h7, .inl (cI, 14, .inl (upd g9 0 (-1)))), (h8, .inl (cI, 14, .inl (upd g10 0 (-1)))), (h9, .inl (cI, 14, .inl (upd g11 0 (-1)))), (h10, .inl (cI, 14, .inl (upd g12 0 0))), (h14, .inl (cI, 26, .inl (upd g13 24 0)))]) [4, 12, 0, 1, 2, 3, 10, 11, 13, 5, 6, 7, 8, 9, 14] rfl
  have hD := hD.sub (ws' := [(h0, .inr (12, (((((((((f0.set 66 (.int 24)).set 67 (.int 0)).set 76 (.int (-1))).set 83 (.int (-1))).set 76 (.int 0)).set 84 (.int 1)).set 31 (.int 1)).set 29 (.int 2)).set 30 (.int 0)))), (h1, .inl (cI, 26, .inl (upd g0 24 0))), (h2, .inl (cI, 26, .inl (upd g1 24 0))), (h3, .inl (cI, 26, .inl (upd g2 24 0))), (h4, .inl (cI, 26, .inl (upd g3 24 0))), (h5, .inl (cI, 26, .inl (upd g4 24 0))), (h11, .inl (cI, 2001, .inl g5)), (h12, .inl (cI, 2001, .inl g6)), (h13, .inl (cI, 2001, .inl g7)), (h6, .inl (cI, 14, .inl (upd g8 0 0))), (h7, .inl (cI, 14, .inl (upd g9 0 (-1)))), (h8, .inl (cI, 14, .inl (upd g10 0 (-1)))), (h9, .inl (cI, 14, .inl (upd g11 0 (-1)))), (h10, .inl (cI, 14, .inl (upd g12 0 0))), (h14, .inl (cI, 26, .inl (upd g13 24 0)))]) [4, 12, 0, 1, 2, 3, 10, 11, 13, 5, 6, 7, 8, 9, 14] (by decide +kernel) rfl
  exact W.zret (v := 0) hx hb hr rfl (fun t ht hW => ⟨⟨0, (), rfl, rfl, kB_mk ht hW hP hK hD⟩, hS.F ht⟩) hS.2.2 dX12_readsFormula_51
