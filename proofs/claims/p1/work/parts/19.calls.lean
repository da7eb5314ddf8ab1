theorem dX12_full_0 : decode cX12_full 0 = .ok (.iconst 1, 1) := by decide +kernel
theorem dX12_full_1 : decode cX12_full 1 = .ok (.aload_n 0, 1) := by decide +kernel
theorem dX12_full_2 : decode cX12_full 2 = .ok (.getfield 466, 3) := by decide +kernel
theorem dX12_full_5 : decode cX12_full 5 = .ok (.iconst 2, 1) := by decide +kernel
theorem dX12_full_6 : decode cX12_full 6 = .ok (.if_icmp .ne 8, 3) := by decide +kernel
theorem dX12_full_14 : decode cX12_full 14 = .ok (.iconst 0, 1) := by decide +kernel
theorem dX12_full_15 : decode cX12_full 15 = .ok (.iadd, 1) := by decide +kernel
theorem dX12_full_16 : decode cX12_full 16 = .ok (.aload_n 0, 1) := by decide +kernel
theorem dX12_full_17 : decode cX12_full 17 = .ok (.getfield 466, 3) := by decide +kernel
theorem dX12_full_20 : decode cX12_full 20 = .ok (.iconst 1, 1) := by decide +kernel
theorem dX12_full_21 : decode cX12_full 21 = .ok (.if_icmp .ne 12, 3) := by decide +kernel
theorem dX12_full_24 : decode cX12_full 24 = .ok (.iconst 2, 1) := by decide +kernel
theorem dX12_full_25 : decode cX12_full 25 = .ok (.aload_n 0, 1) := by decide +kernel
theorem dX12_full_26 : decode cX12_full 26 = .ok (.getfield 469, 3) := by decide +kernel
theorem dX12_full_29 : decode cX12_full 29 = .ok (.iadd, 1) := by decide +kernel
theorem dX12_full_30 : decode cX12_full 30 = .ok (.goto 4, 3) := by decide +kernel
theorem dX12_full_34 : decode cX12_full 34 = .ok (.iadd, 1) := by decide +kernel
theorem dX12_full_35 : decode cX12_full 35 = .ok (.istore_n 1, 1) := by decide +kernel
theorem dX12_full_36 : decode cX12_full 36 = .ok (.aload_n 0, 1) := by decide +kernel
theorem dX12_full_37 : decode cX12_full 37 = .ok (.getfield 472, 3) := by decide +kernel
theorem dX12_full_40 : decode cX12_full 40 = .ok (.ifCond .ne 33, 3) := by decide +kernel
theorem dX12_full_43 : decode cX12_full 43 = .ok (.aload_n 0, 1) := by decide +kernel
theorem dX12_full_44 : decode cX12_full 44 = .ok (.getfield 475, 3) := by decide +kernel
theorem dX12_full_47 : decode cX12_full 47 = .ok (.iload_n 1, 1) := by decide +kernel
theorem dX12_full_48 : decode cX12_full 48 = .ok (.iadd, 1) := by decide +kernel
theorem dX12_full_49 : decode cX12_full 49 = .ok (.sipush 248, 3) := by decide +kernel
theorem dX12_full_52 : decode cX12_full 52 = .ok (.iadd, 1) := by decide +kernel
theorem dX12_full_53 : decode cX12_full 53 = .ok (.iconst 1, 1) := by decide +kernel
theorem dX12_full_54 : decode cX12_full 54 = .ok (.isub, 1) := by decide +kernel
theorem dX12_full_55 : decode cX12_full 55 = .ok (.sipush 248, 3) := by decide +kernel
theorem dX12_full_58 : decode cX12_full 58 = .ok (.idiv, 1) := by decide +kernel
theorem dX12_full_59 : decode cX12_full 59 = .ok (.bipush 100, 2) := by decide +kernel
theorem dX12_full_61 : decode cX12_full 61 = .ok (.aload_n 0, 1) := by decide +kernel
theorem dX12_full_62 : decode cX12_full 62 = .ok (.getfield 478, 3) := by decide +kernel
theorem dX12_full_65 : decode cX12_full 65 = .ok (.isub, 1) := by decide +kernel
theorem dX12_full_66 : decode cX12_full 66 = .ok (.if_icmp .le 7, 3) := by decide +kernel
theorem dX12_full_73 : decode cX12_full 73 = .ok (.iconst 0, 1) := by decide +kernel
theorem dX12_full_74 : decode cX12_full 74 = .ok (.ireturn, 1) := by decide +kernel
theorem dX12_note_0 : decode cX12_note 0 = .ok (.aload_n 0, 1) := by decide +kernel
theorem dX12_note_1 : decode cX12_note 1 = .ok (.getfield 25, 3) := by decide +kernel
theorem dX12_note_4 : decode cX12_note 4 = .ok (.aload_n 0, 1) := by decide +kernel
theorem dX12_note_5 : decode cX12_note 5 = .ok (.getfield 475, 3) := by decide +kernel
theorem dX12_note_8 : decode cX12_note 8 = .ok (.iload_n 1, 1) := by decide +kernel
theorem dX12_note_9 : decode cX12_note 9 = .ok (.i2b, 1) := by decide +kernel
theorem dX12_note_10 : decode cX12_note 10 = .ok (.bastore, 1) := by decide +kernel
theorem dX12_note_11 : decode cX12_note 11 = .ok (.aload_n 0, 1) := by decide +kernel
theorem dX12_note_12 : decode cX12_note 12 = .ok (.dup, 1) := by decide +kernel
theorem dX12_note_13 : decode cX12_note 13 = .ok (.getfield 475, 3) := by decide +kernel
theorem dX12_note_16 : decode cX12_note 16 = .ok (.iconst 1, 1) := by decide +kernel
theorem dX12_note_17 : decode cX12_note 17 = .ok (.iadd, 1) := by decide +kernel
theorem dX12_note_18 : decode cX12_note 18 = .ok (.putfield 475, 3) := by decide +kernel
theorem dX12_note_21 : decode cX12_note 21 = .ok (.return_, 1) := by decide +kernel
theorem dX12_takeTape_0 : decode cX12_takeTape 0 = .ok (.aload_n 0, 1) := by decide +kernel
theorem dX12_takeTape_1 : decode cX12_takeTape 1 = .ok (.aload_n 0, 1) := by decide +kernel
theorem dX12_takeTape_2 : decode cX12_takeTape 2 = .ok (.getfield 485, 3) := by decide +kernel
theorem dX12_takeTape_5 : decode cX12_takeTape 5 = .ok (.putfield 469, 3) := by decide +kernel
theorem dX12_takeTape_8 : decode cX12_takeTape 8 = .ok (.aload_n 0, 1) := by decide +kernel
theorem dX12_takeTape_9 : decode cX12_takeTape 9 = .ok (.iconst 0, 1) := by decide +kernel
theorem dX12_takeTape_10 : decode cX12_takeTape 10 = .ok (.putfield 485, 3) := by decide +kernel
theorem dX12_takeTape_13 : decode cX12_takeTape 13 = .ok (.iconst 0, 1) := by decide +kernel
theorem dX12_takeTape_14 : decode cX12_takeTape 14 = .ok (.istore_n 1, 1) := by decide +kernel
theorem dX12_takeTape_15 : decode cX12_takeTape 15 = .ok (.iload_n 1, 1) := by decide +kernel
theorem dX12_takeTape_16 : decode cX12_takeTape 16 = .ok (.aload_n 0, 1) := by decide +kernel
theorem dX12_takeTape_17 : decode cX12_takeTape 17 = .ok (.getfield 469, 3) := by decide +kernel
theorem dX12_takeTape_20 : decode cX12_takeTape 20 = .ok (.if_icmp .ge 21, 3) := by decide +kernel
theorem dX12_takeTape_41 : decode cX12_takeTape 41 = .ok (.return_, 1) := by decide +kernel
theorem dX12_call_0 : decode cX12_call 0 = .ok (.aload_n 0, 1) := by decide +kernel
theorem dX12_call_1 : decode cX12_call 1 = .ok (.iconst 0, 1) := by decide +kernel
theorem dX12_call_2 : decode cX12_call 2 = .ok (.putfield 3, 3) := by decide +kernel
theorem dX12_call_5 : decode cX12_call 5 = .ok (.aload_n 0, 1) := by decide +kernel
theorem dX12_call_6 : decode cX12_call 6 = .ok (.getfield 488, 3) := by decide +kernel
theorem dX12_call_9 : decode cX12_call 9 = .ok (.ifCond .eq 6, 3) := by decide +kernel
theorem dX12_call_15 : decode cX12_call 15 = .ok (.aload_n 0, 1) := by decide +kernel
theorem dX12_call_16 : decode cX12_call 16 = .ok (.iload_n 1, 1) := by decide +kernel
theorem dX12_call_17 : decode cX12_call 17 = .ok (.putfield 466, 3) := by decide +kernel
theorem dX12_call_20 : decode cX12_call 20 = .ok (.aload_n 0, 1) := by decide +kernel
theorem dX12_call_21 : decode cX12_call 21 = .ok (.iconst 0, 1) := by decide +kernel
theorem dX12_call_22 : decode cX12_call 22 = .ok (.putfield 472, 3) := by decide +kernel
theorem dX12_call_25 : decode cX12_call 25 = .ok (.aload_n 0, 1) := by decide +kernel
theorem dX12_call_26 : decode cX12_call 26 = .ok (.iconst 0, 1) := by decide +kernel
theorem dX12_call_27 : decode cX12_call 27 = .ok (.putfield 462, 3) := by decide +kernel
theorem dX12_call_30 : decode cX12_call 30 = .ok (.iload_n 1, 1) := by decide +kernel
theorem dX12_call_31 : decode cX12_call 31 = .ok (.iconst 1, 1) := by decide +kernel
theorem dX12_call_32 : decode cX12_call 32 = .ok (.if_icmp .ne 7, 3) := by decide +kernel
theorem dX12_call_35 : decode cX12_call 35 = .ok (.aload_n 0, 1) := by decide +kernel
theorem dX12_call_36 : decode cX12_call 36 = .ok (.invokevirtual 491, 3) := by decide +kernel
theorem dX12_call_39 : decode cX12_call 39 = .ok (.aload_n 0, 1) := by decide +kernel
theorem dX12_call_40 : decode cX12_call 40 = .ok (.invokevirtual 494, 3) := by decide +kernel
theorem dX12_call_43 : decode cX12_call 43 = .ok (.istore_n 2, 1) := by decide +kernel
theorem dX12_call_44 : decode cX12_call 44 = .ok (.aload_n 0, 1) := by decide +kernel
theorem dX12_call_45 : decode cX12_call 45 = .ok (.getfield 462, 3) := by decide +kernel
theorem dX12_call_48 : decode cX12_call 48 = .ok (.ifCond .ne 93, 3) := by decide +kernel
theorem dX12_call_51 : decode cX12_call 51 = .ok (.aload_n 0, 1) := by decide +kernel
theorem dX12_call_52 : decode cX12_call 52 = .ok (.dup, 1) := by decide +kernel
theorem dX12_call_53 : decode cX12_call 53 = .ok (.getfield 498, 3) := by decide +kernel
theorem dX12_call_56 : decode cX12_call 56 = .ok (.iconst 1, 1) := by decide +kernel
theorem dX12_call_57 : decode cX12_call 57 = .ok (.iadd, 1) := by decide +kernel
theorem dX12_call_58 : decode cX12_call 58 = .ok (.putfield 498, 3) := by decide +kernel
theorem dX12_call_61 : decode cX12_call 61 = .ok (.aload_n 0, 1) := by decide +kernel
theorem dX12_call_62 : decode cX12_call 62 = .ok (.iload_n 1, 1) := by decide +kernel
theorem dX12_call_63 : decode cX12_call 63 = .ok (.invokevirtual 481, 3) := by decide +kernel
theorem dX12_call_66 : decode cX12_call 66 = .ok (.iload_n 1, 1) := by decide +kernel
theorem dX12_call_67 : decode cX12_call 67 = .ok (.iconst 2, 1) := by decide +kernel
theorem dX12_call_68 : decode cX12_call 68 = .ok (.if_icmp .ne 23, 3) := by decide +kernel
theorem dX12_call_91 : decode cX12_call 91 = .ok (.iload_n 1, 1) := by decide +kernel
theorem dX12_call_92 : decode cX12_call 92 = .ok (.iconst 1, 1) := by decide +kernel
theorem dX12_call_93 : decode cX12_call 93 = .ok (.if_icmp .ne 48, 3) := by decide +kernel
theorem dX12_call_96 : decode cX12_call 96 = .ok (.aload_n 0, 1) := by decide +kernel
theorem dX12_call_97 : decode cX12_call 97 = .ok (.aload_n 0, 1) := by decide +kernel
theorem dX12_call_98 : decode cX12_call 98 = .ok (.getfield 469, 3) := by decide +kernel
theorem dX12_call_101 : decode cX12_call 101 = .ok (.bipush 8, 2) := by decide +kernel
theorem dX12_call_103 : decode cX12_call 103 = .ok (.ishr, 1) := by decide +kernel
theorem dX12_call_104 : decode cX12_call 104 = .ok (.invokevirtual 481, 3) := by decide +kernel
theorem dX12_call_107 : decode cX12_call 107 = .ok (.aload_n 0, 1) := by decide +kernel
theorem dX12_call_108 : decode cX12_call 108 = .ok (.aload_n 0, 1) := by decide +kernel
theorem dX12_call_109 : decode cX12_call 109 = .ok (.getfield 469, 3) := by decide +kernel
theorem dX12_call_112 : decode cX12_call 112 = .ok (.invokevirtual 481, 3) := by decide +kernel
theorem dX12_call_115 : decode cX12_call 115 = .ok (.iconst 0, 1) := by decide +kernel
theorem dX12_call_116 : decode cX12_call 116 = .ok (.istore_n 3, 1) := by decide +kernel
theorem dX12_call_117 : decode cX12_call 117 = .ok (.iload_n 3, 1) := by decide +kernel
theorem dX12_call_118 : decode cX12_call 118 = .ok (.aload_n 0, 1) := by decide +kernel
theorem dX12_call_119 : decode cX12_call 119 = .ok (.getfield 469, 3) := by decide +kernel
theorem dX12_call_122 : decode cX12_call 122 = .ok (.if_icmp .ge 19, 3) := by decide +kernel
theorem dX12_call_141 : decode cX12_call 141 = .ok (.iload_n 2, 1) := by decide +kernel
theorem dX12_call_142 : decode cX12_call 142 = .ok (.ireturn, 1) := by decide +kernel
theorem dX12_char1_0 : decode cX12_char1 0 = .ok (.iload_n 1, 1) := by decide +kernel
theorem dX12_char1_1 : decode cX12_char1 1 = .ok (.aload_n 0, 1) := by decide +kernel
theorem dX12_char1_2 : decode cX12_char1 2 = .ok (.getfield 469, 3) := by decide +kernel
theorem dX12_char1_5 : decode cX12_char1 5 = .ok (.if_icmp .ge 16, 3) := by decide +kernel
theorem dX12_char1_21 : decode cX12_char1 21 = .ok (.iconst 0, 1) := by decide +kernel
theorem dX12_char1_22 : decode cX12_char1 22 = .ok (.ireturn, 1) := by decide +kernel
theorem dX12_scan_0 : decode cX12_scan 0 = .ok (.aload_n 0, 1) := by decide +kernel
theorem dX12_scan_1 : decode cX12_scan 1 = .ok (.iconst 0, 1) := by decide +kernel
theorem dX12_scan_2 : decode cX12_scan 2 = .ok (.putfield 594, 3) := by decide +kernel
theorem dX12_scan_5 : decode cX12_scan 5 = .ok (.aload_n 0, 1) := by decide +kernel
theorem dX12_scan_6 : decode cX12_scan 6 = .ok (.iconst 0, 1) := by decide +kernel
theorem dX12_scan_7 : decode cX12_scan 7 = .ok (.putfield 562, 3) := by decide +kernel
theorem dX12_scan_10 : decode cX12_scan 10 = .ok (.aload_n 0, 1) := by decide +kernel
theorem dX12_scan_11 : decode cX12_scan 11 = .ok (.iconst 0, 1) := by decide +kernel
theorem dX12_scan_12 : decode cX12_scan 12 = .ok (.putfield 597, 3) := by decide +kernel
theorem dX12_scan_15 : decode cX12_scan 15 = .ok (.iconst 0, 1) := by decide +kernel
theorem dX12_scan_16 : decode cX12_scan 16 = .ok (.istore_n 1, 1) := by decide +kernel
theorem dX12_scan_17 : decode cX12_scan 17 = .ok (.iconst 1, 1) := by decide +kernel
theorem dX12_scan_18 : decode cX12_scan 18 = .ok (.istore_n 2, 1) := by decide +kernel
theorem dX12_scan_19 : decode cX12_scan 19 = .ok (.iload_n 2, 1) := by decide +kernel
theorem dX12_scan_20 : decode cX12_scan 20 = .ok (.ifCond .eq 434, 3) := by decide +kernel
theorem dX12_scan_23 : decode cX12_scan 23 = .ok (.aload_n 0, 1) := by decide +kernel
theorem dX12_scan_24 : decode cX12_scan 24 = .ok (.iload_n 1, 1) := by decide +kernel
theorem dX12_scan_25 : decode cX12_scan 25 = .ok (.invokevirtual 586, 3) := by decide +kernel
theorem dX12_scan_28 : decode cX12_scan 28 = .ok (.bipush 32, 2) := by decide +kernel
theorem dX12_scan_30 : decode cX12_scan 30 = .ok (.if_icmp .eq 13, 3) := by decide +kernel
theorem dX12_scan_33 : decode cX12_scan 33 = .ok (.aload_n 0, 1) := by decide +kernel
theorem dX12_scan_34 : decode cX12_scan 34 = .ok (.iload_n 1, 1) := by decide +kernel
theorem dX12_scan_35 : decode cX12_scan 35 = .ok (.invokevirtual 586, 3) := by decide +kernel
theorem dX12_scan_38 : decode cX12_scan 38 = .ok (.bipush 10, 2) := by decide +kernel
theorem dX12_scan_40 : decode cX12_scan 40 = .ok (.if_icmp .ne 9, 3) := by decide +kernel
theorem dX12_scan_49 : decode cX12_scan 49 = .ok (.aload_n 0, 1) := by decide +kernel
theorem dX12_scan_50 : decode cX12_scan 50 = .ok (.getfield 81, 3) := by decide +kernel
theorem dX12_scan_53 : decode cX12_scan 53 = .ok (.aload_n 0, 1) := by decide +kernel
theorem dX12_scan_54 : decode cX12_scan 54 = .ok (.getfield 594, 3) := by decide +kernel
theorem dX12_scan_57 : decode cX12_scan 57 = .ok (.iload_n 1, 1) := by decide +kernel
theorem dX12_scan_58 : decode cX12_scan 58 = .ok (.iastore, 1) := by decide +kernel
theorem dX12_scan_59 : decode cX12_scan 59 = .ok (.aload_n 0, 1) := by decide +kernel
theorem dX12_scan_60 : decode cX12_scan 60 = .ok (.getfield 84, 3) := by decide +kernel
theorem dX12_scan_63 : decode cX12_scan 63 = .ok (.aload_n 0, 1) := by decide +kernel
theorem dX12_scan_64 : decode cX12_scan 64 = .ok (.getfield 594, 3) := by decide +kernel
theorem dX12_scan_67 : decode cX12_scan 67 = .ok (.iconst 0, 1) := by decide +kernel
theorem dX12_scan_68 : decode cX12_scan 68 = .ok (.iastore, 1) := by decide +kernel
theorem dX12_scan_69 : decode cX12_scan 69 = .ok (.aload_n 0, 1) := by decide +kernel
theorem dX12_scan_70 : decode cX12_scan 70 = .ok (.getfield 87, 3) := by decide +kernel
theorem dX12_scan_73 : decode cX12_scan 73 = .ok (.aload_n 0, 1) := by decide +kernel
theorem dX12_scan_74 : decode cX12_scan 74 = .ok (.getfield 594, 3) := by decide +kernel
theorem dX12_scan_77 : decode cX12_scan 77 = .ok (.iconst 0, 1) := by decide +kernel
theorem dX12_scan_78 : decode cX12_scan 78 = .ok (.iastore, 1) := by decide +kernel
theorem dX12_scan_79 : decode cX12_scan 79 = .ok (.aload_n 0, 1) := by decide +kernel
theorem dX12_scan_80 : decode cX12_scan 80 = .ok (.getfield 90, 3) := by decide +kernel
theorem dX12_scan_83 : decode cX12_scan 83 = .ok (.aload_n 0, 1) := by decide +kernel
theorem dX12_scan_84 : decode cX12_scan 84 = .ok (.getfield 594, 3) := by decide +kernel
theorem dX12_scan_87 : decode cX12_scan 87 = .ok (.iconst 0, 1) := by decide +kernel
theorem dX12_scan_88 : decode cX12_scan 88 = .ok (.iastore, 1) := by decide +kernel
theorem dX12_scan_89 : decode cX12_scan 89 = .ok (.iload_n 1, 1) := by decide +kernel
theorem dX12_scan_90 : decode cX12_scan 90 = .ok (.aload_n 0, 1) := by decide +kernel
theorem dX12_scan_91 : decode cX12_scan 91 = .ok (.getfield 469, 3) := by decide +kernel
theorem dX12_scan_94 : decode cX12_scan 94 = .ok (.if_icmp .ge 7, 3) := by decide +kernel
theorem dX12_scan_101 : decode cX12_scan 101 = .ok (.iconst 0, 1) := by decide +kernel
theorem dX12_scan_102 : decode cX12_scan 102 = .ok (.istore_n 2, 1) := by decide +kernel
theorem dX12_scan_103 : decode cX12_scan 103 = .ok (.iload_n 2, 1) := by decide +kernel
theorem dX12_scan_104 : decode cX12_scan 104 = .ok (.ifCond .eq (-85), 3) := by decide +kernel
theorem dX12_scan_454 : decode cX12_scan 454 = .ok (.return_, 1) := by decide +kernel
theorem dX12_act_0 : decode cX12_act 0 = .ok (.aload_n 0, 1) := by decide +kernel
theorem dX12_act_1 : decode cX12_act 1 = .ok (.getfield 466, 3) := by decide +kernel
theorem dX12_act_4 : decode cX12_act 4 = .ok (.tableswitch 43 1 3 #[28, 33, 38], 28) := by decide +kernel
theorem dX12_act_32 : decode cX12_act 32 = .ok (.aload_n 0, 1) := by decide +kernel
theorem dX12_act_33 : decode cX12_act 33 = .ok (.invokevirtual 824, 3) := by decide +kernel
theorem dX12_act_36 : decode cX12_act 36 = .ok (.ireturn, 1) := by decide +kernel
theorem dX12_readText_0 : decode cX12_readText 0 = .ok (.aload_n 0, 1) := by decide +kernel
theorem dX12_readText_1 : decode cX12_readText 1 = .ok (.aload_n 0, 1) := by decide +kernel
theorem dX12_readText_2 : decode cX12_readText 2 = .ok (.getfield 815, 3) := by decide +kernel
theorem dX12_readText_5 : decode cX12_readText 5 = .ok (.putfield 620, 3) := by decide +kernel
theorem dX12_readText_8 : decode cX12_readText 8 = .ok (.aload_n 0, 1) := by decide +kernel
theorem dX12_readText_9 : decode cX12_readText 9 = .ok (.aload_n 0, 1) := by decide +kernel
theorem dX12_readText_10 : decode cX12_readText 10 = .ok (.getfield 818, 3) := by decide +kernel
theorem dX12_readText_13 : decode cX12_readText 13 = .ok (.putfield 627, 3) := by decide +kernel
theorem dX12_readText_16 : decode cX12_readText 16 = .ok (.aload_n 0, 1) := by decide +kernel
theorem dX12_readText_17 : decode cX12_readText 17 = .ok (.invokevirtual 848, 3) := by decide +kernel
theorem dX12_readText_20 : decode cX12_readText 20 = .ok (.aload_n 0, 1) := by decide +kernel
theorem dX12_readText_21 : decode cX12_readText 21 = .ok (.getfield 562, 3) := by decide +kernel
theorem dX12_readText_24 : decode cX12_readText 24 = .ok (.ifCond .ne 82, 3) := by decide +kernel
theorem dX12_readText_27 : decode cX12_readText 27 = .ok (.aload_n 0, 1) := by decide +kernel
theorem dX12_readText_28 : decode cX12_readText 28 = .ok (.getfield 87, 3) := by decide +kernel
theorem dX12_readText_31 : decode cX12_readText 31 = .ok (.aload_n 0, 1) := by decide +kernel
theorem dX12_readText_32 : decode cX12_readText 32 = .ok (.getfield 597, 3) := by decide +kernel
theorem dX12_readText_35 : decode cX12_readText 35 = .ok (.iaload, 1) := by decide +kernel
theorem dX12_readText_36 : decode cX12_readText 36 = .ok (.ifCond .eq 70, 3) := by decide +kernel
theorem dX12_readText_106 : decode cX12_readText 106 = .ok (.aload_n 0, 1) := by decide +kernel
theorem dX12_readText_107 : decode cX12_readText 107 = .ok (.getfield 818, 3) := by decide +kernel
theorem dX12_readText_110 : decode cX12_readText 110 = .ok (.istore_n 1, 1) := by decide +kernel
theorem dX12_readText_111 : decode cX12_readText 111 = .ok (.iload_n 1, 1) := by decide +kernel
theorem dX12_readText_112 : decode cX12_readText 112 = .ok (.aload_n 0, 1) := by decide +kernel
theorem dX12_readText_113 : decode cX12_readText 113 = .ok (.getfield 627, 3) := by decide +kernel
theorem dX12_readText_116 : decode cX12_readText 116 = .ok (.if_icmp .ge 41, 3) := by decide +kernel
theorem dX12_readText_157 : decode cX12_readText 157 = .ok (.aload_n 0, 1) := by decide +kernel
theorem dX12_readText_158 : decode cX12_readText 158 = .ok (.getfield 562, 3) := by decide +kernel
theorem dX12_readText_161 : decode cX12_readText 161 = .ok (.ifCond .eq 12, 3) := by decide +kernel
theorem dX12_readText_173 : decode cX12_readText 173 = .ok (.aload_n 0, 1) := by decide +kernel
theorem dX12_readText_174 : decode cX12_readText 174 = .ok (.invokevirtual 865, 3) := by decide +kernel
theorem dX12_readText_177 : decode cX12_readText 177 = .ok (.ifCond .eq 10, 3) := by decide +kernel
theorem dX12_readText_187 : decode cX12_readText 187 = .ok (.aload_n 0, 1) := by decide +kernel
theorem dX12_readText_188 : decode cX12_readText 188 = .ok (.getfield 627, 3) := by decide +kernel
theorem dX12_readText_191 : decode cX12_readText 191 = .ok (.aload_n 0, 1) := by decide +kernel
theorem dX12_readText_192 : decode cX12_readText 192 = .ok (.getfield 818, 3) := by decide +kernel
theorem dX12_readText_195 : decode cX12_readText 195 = .ok (.isub, 1) := by decide +kernel
theorem dX12_readText_196 : decode cX12_readText 196 = .ok (.istore_n 1, 1) := by decide +kernel
theorem dX12_readText_197 : decode cX12_readText 197 = .ok (.aload_n 0, 1) := by decide +kernel
theorem dX12_readText_198 : decode cX12_readText 198 = .ok (.getfield 818, 3) := by decide +kernel
theorem dX12_readText_201 : decode cX12_readText 201 = .ok (.istore_n 2, 1) := by decide +kernel
theorem dX12_readText_202 : decode cX12_readText 202 = .ok (.iload_n 2, 1) := by decide +kernel
theorem dX12_readText_203 : decode cX12_readText 203 = .ok (.aload_n 0, 1) := by decide +kernel
theorem dX12_readText_204 : decode cX12_readText 204 = .ok (.getfield 627, 3) := by decide +kernel
theorem dX12_readText_207 : decode cX12_readText 207 = .ok (.if_icmp .ge 26, 3) := by decide +kernel
theorem dX12_readText_233 : decode cX12_readText 233 = .ok (.aload_n 0, 1) := by decide +kernel
theorem dX12_readText_234 : decode cX12_readText 234 = .ok (.aload_n 0, 1) := by decide +kernel
theorem dX12_readText_235 : decode cX12_readText 235 = .ok (.getfield 620, 3) := by decide +kernel
theorem dX12_readText_238 : decode cX12_readText 238 = .ok (.putfield 815, 3) := by decide +kernel
theorem dX12_readText_241 : decode cX12_readText 241 = .ok (.aload_n 0, 1) := by decide +kernel
theorem dX12_readText_242 : decode cX12_readText 242 = .ok (.aload_n 0, 1) := by decide +kernel
theorem dX12_readText_243 : decode cX12_readText 243 = .ok (.getfield 627, 3) := by decide +kernel
theorem dX12_readText_246 : decode cX12_readText 246 = .ok (.putfield 818, 3) := by decide +kernel
theorem dX12_readText_249 : decode cX12_readText 249 = .ok (.iload_n 1, 1) := by decide +kernel
theorem dX12_readText_250 : decode cX12_readText 250 = .ok (.ireturn, 1) := by decide +kernel
set_option maxHeartbeats 400000000 in
set_option maxRecDepth 100000 in
theorem c_X12_takeTape_0 (l : Launch) (E : kE) (D : va_G) (cI cJ cB cZ : ClassId) (h0 : Nat) (f0 : List Value) (e0 : f0[2]? = some (.int 0)) (e1 : f0[12]? = some (.int 0)) : kV l E D (kT cI cJ cB cZ) yX12_takeTape vW_X12_takeTape ({ frames := 0, cells := 0, slots := 0, locals := 0 }) [.ref h0] [(h0, .inr (12, f0))] (fun _ : Unit => [(h0, .inr (12, ((f0.set 12 (.int 0)).set 2 (.int 0))))]) 0 0 := by
  intro sz
  refine Met.ofW (cc := cX12_takeTape) (maxL := 2) (ret := none) (by decide) rfl ?_
  intro p e s m args below meth c s₁ B hml hv
  obtain ⟨rfl, hsz, hP, hK, hD0, hN, hX⟩ := hv
  have hx := B.exec
  have hb := B.bytes
  have hr := B.returns
  have hts := atoms_spec (ws := vW_X12_takeTape) B.pre
  have hown : s.vm.findClass RX12 = some m.cls := findClass_of_methodNamed B.named
  have hlocks := B.notSynchronized
  have hin12 : ∀ w ∈ wsX120, w ∈ vW_X12_takeTape := u9_X12_takeTape_wsX120
  subst hsz
  have hD := hD0.self (sz := s.heap.size)
  have hAE := k_AE hD0 hX
  generalize hAe : va_A [(h0, .inr (12, f0))] s.heap.size = A at hD hAE ⊢
  have hA : ∀ q : Nat, s.heap.size ≤ q → A q := fun q h => by rw [← hAe]; exact Or.inr h
  have hS : va_S A s.heap s.heap [] := va_S.rf
  have hP : va_P D vwCl [(h0, .inr (12, f0))] s.heap := hP
  have hl := lv_entry ([.ref h0] : List Value) (n := 2) (Nat.le_of_ble_eq_true rfl)
  rw [lg_entry_eq]
  generalize (lg_sl ([.ref h0]) ++ List.replicate (2 - (lg_sl ([.ref h0])).length) Slot.unset).toArray = ls at hl ⊢
  have hl : lv_has ls 2 [(0, .ref h0)] := hl
  refine lv_aload_n hx hb dX12_takeTape_0 rfl (lv_at hl 0 rfl) ?_
  refine lv_aload_n hx hb dX12_takeTape_1 rfl (lv_at hl 0 rfl) ?_
  refine k_get (D := D) (ci := 12) (v := .int 0) (N := 195) hx hb hts hin12 hown hK hP 0 rfl rfl (by decide) f9_12_2 (hts (.fieldLink RX12 485 "IntegerHouseModel" "taped" "I") (o9_X12_takeTape _ (List.mem_of_getElem? (i := 0) rfl))) e0 dX12_takeTape_2 ?_
  refine k_put (D := D) (ci := 12) (v := .int 0) (ty := .int) (N := 195) hx hb hts hin12 tyX12 tyX12_ok nmX12 hown hK hP hD hS 0 rfl rfl (by decide) f9_12_12 (hts (.fieldLink RX12 469 "IntegerHouseModel" "docSize" "I") (o9_X12_takeTape _ (List.mem_of_getElem? (i := 1) rfl))) rfl pd_2 rfl rfl (k_len e1) dX12_takeTape_5 (fun H locs hP hD hS => ?_)
  have hP : va_P D vwCl [(h0, .inr (12, (f0.set 12 (.int 0))))] H := hP
  have hD : va_D A [(h0, .inr (12, (f0.set 12 (.int 0))))] := hD
  refine lv_aload_n hx hb dX12_takeTape_8 rfl (lv_at hl 0 rfl) ?_
  refine lv_iconst (v := 0) hx hb dX12_takeTape_9 (by decide) ?_
  refine k_put (D := D) (ci := 12) (v := .int 0) (ty := .int) (N := 195) hx hb hts hin12 tyX12 tyX12_ok nmX12 hown hK hP hD hS 0 rfl rfl (by decide) f9_12_2 (hts (.fieldLink RX12 485 "IntegerHouseModel" "taped" "I") (o9_X12_takeTape _ (List.mem_of_getElem? (i := 0) rfl))) rfl pd_2 rfl rfl (k_len (k_ne (by decide) e0)) dX12_takeTape_10 (fun H locs hP hD hS => ?_)
  have hP : va_P D vwCl [(h0, .inr (12, ((f0.set 12 (.int 0)).set 2 (.int 0))))] H := hP
  have hD : va_D A [(h0, .inr (12, ((f0.set 12 (.int 0)).set 2 (.int 0))))] := hD
  refine lv_iconst (v := 0) hx hb dX12_takeTape_13 (by decide) ?_
  refine lv_istore_n (lv' := [(1, .int 0), (0, .ref h0)]) hx hb dX12_takeTape_14 rfl hl (by decide) rfl (fun ls hl => ?_)
  refine lv_iload_n hx hb dX12_takeTape_15 rfl (lv_at hl 0 rfl) ?_
  refine lv_aload_n hx hb dX12_takeTape_16 rfl (lv_at hl 1 rfl) ?_
  refine k_get (D := D) (ci := 12) (v := .int 0) (N := 195) hx hb hts hin12 hown hK hP 0 rfl rfl (by decide) f9_12_12 (hts (.fieldLink RX12 469 "IntegerHouseModel" "docSize" "I") (o9_X12_takeTape _ (List.mem_of_getElem? (i := 1) rfl))) (k_ne (by decide) (k_set e1)) dX12_takeTape_17 ?_
  refine lv_icmp_ge (tgt := 41) hx hb dX12_takeTape_20 (by decide) (fun _ => ?_) (fun c9 => absurd (by decide) c9)
  exact W.vret hx hb hr (fun t ht hW => ⟨⟨(), rfl, trivial, kB_mk ht hW hP hK hD⟩, hS.F ht⟩) hS.2.2 dX12_takeTape_41
set_option maxHeartbeats 400000000 in
set_option maxRecDepth 100000 in
theorem c_X12_char1_0 (l : Launch) (E : kE) (D : va_G) (cI cJ cB cZ : ClassId) (h0 : Nat) (f0 : List Value) (e0 : f0[12]? = some (.int 0)) : kI l E D (kT cI cJ cB cZ) yX12_char1 vW_X12_char1 ({ frames := 0, cells := 0, slots := 0, locals := 0 }) [.ref h0, .int 0] [(h0, .inr (12, f0))] (0) [(h0, .inr (12, f0))] 0 0 := by
  intro sz
  refine Met.ofW (cc := cX12_char1) (maxL := 2) (ret := (some .int)) (by decide) rfl ?_
  intro p e s m args below meth c s₁ B hml hv
  obtain ⟨rfl, hsz, hP, hK, hD0, hN, hX⟩ := hv
  have hx := B.exec
  have hb := B.bytes
  have hr := B.returns
  have hts := atoms_spec (ws := vW_X12_char1) B.pre
  have hown : s.vm.findClass RX12 = some m.cls := findClass_of_methodNamed B.named
  have hlocks := B.notSynchronized
  have hin12 : ∀ w ∈ wsX120, w ∈ vW_X12_char1 := u9_X12_char1_wsX120
  subst hsz
  have hD := hD0.self (sz := s.heap.size)
  have hAE := k_AE hD0 hX
  generalize hAe : va_A [(h0, .inr (12, f0))] s.heap.size = A at hD hAE ⊢
  have hA : ∀ q : Nat, s.heap.size ≤ q → A q := fun q h => by rw [← hAe]; exact Or.inr h
  have hS : va_S A s.heap s.heap [] := va_S.rf
  have hP : va_P D vwCl [(h0, .inr (12, f0))] s.heap := hP
  have hl := lv_entry ([.ref h0, .int 0] : List Value) (n := 2) (Nat.le_of_ble_eq_true rfl)
  rw [lg_entry_eq]
  generalize (lg_sl ([.ref h0, .int 0]) ++ List.replicate (2 - (lg_sl ([.ref h0, .int 0])).length) Slot.unset).toArray = ls at hl ⊢
  have hl : lv_has ls 2 [(0, .ref h0), (1, .int 0)] := hl
  refine lv_iload_n hx hb dX12_char1_0 rfl (lv_at hl 1 rfl) ?_
  refine lv_aload_n hx hb dX12_char1_1 rfl (lv_at hl 0 rfl) ?_
  refine k_get (D := D) (ci := 12) (v := .int 0) (N := 195) hx hb hts hin12 hown hK hP 0 rfl rfl (by decide) f9_12_12 (hts (.fieldLink RX12 469 "IntegerHouseModel" "docSize" "I") (o9_X12_char1 _ (List.mem_of_getElem? (i := 0) rfl))) e0 dX12_char1_2 ?_
  refine lv_icmp_ge (tgt := 21) hx hb dX12_char1_5 (by decide) (fun _ => ?_) (fun c9 => absurd (by decide) c9)
  refine lv_iconst (v := 0) hx hb dX12_char1_21 (by decide) ?_
  exact W.iret (v := 0) hx hb hr (fun t ht hW => ⟨⟨0, (), rfl, rfl, kB_mk ht hW hP hK hD⟩, hS.F ht⟩) hS.2.2 dX12_char1_22
set_option maxHeartbeats 400000000 in
set_option maxRecDepth 100000 in
theorem c_X12_scan_0 (l : Launch) (E : kE) (D : va_G) (cI cJ cB cZ : ClassId) (h0 : Nat) (f0 : List Value) (h1 : Nat) (g0 : Nat → Int32) (h2 : Nat) (g1 : Nat → Int32) (h3 : Nat) (g2 : Nat → Int32) (h4 : Nat) (g3 : Nat → Int32) (e0 : f0[27]? = some (.int 0)) (e1 : f0[31]? = some (.int 0)) (e2 : f0[28]? = some (.int 0)) (e3 : f0[12]? = some (.int 0)) (e4 : f0[23]? = some (.ref h1)) (e5 : f0[24]? = some (.ref h2)) (e6 : f0[25]? = some (.ref h3)) (e7 : f0[26]? = some (.ref h4)) : kV l E D (kT cI cJ cB cZ) yX12_scan vW_X12_scan ({ frames := 1, cells := 0, slots := 0, locals := 21 }) [.ref h0] [(h0, .inr (12, f0)), (h1, .inl (cI, 2001, .inl g0)), (h2, .inl (cI, 2001, .inl g1)), (h3, .inl (cI, 2001, .inl g2)), (h4, .inl (cI, 2001, .inl g3))] (fun _ : Unit => [(h0, .inr (12, (((f0.set 27 (.int 0)).set 31 (.int 0)).set 28 (.int 0)))), (h1, .inl (cI, 2001, .inl (upd g0 0 0))), (h2, .inl (cI, 2001, .inl (upd g1 0 0))), (h3, .inl (cI, 2001, .inl (upd g2 0 0))), (h4, .inl (cI, 2001, .inl (upd g3 0 0)))]) 0 0 := by
  intro sz
  refine Met.ofW (cc := cX12_scan) (maxL := 8) (ret := none) (by decide) rfl ?_
  intro p e s m args below meth c s₁ B hml hv
  obtain ⟨rfl, hsz, hP, hK, hD0, hN, hX⟩ := hv
  have hx := B.exec
  have hb := B.bytes
  have hr := B.returns
  have hts := atoms_spec (ws := vW_X12_scan) B.pre
  have hown : s.vm.findClass RX12 = some m.cls := findClass_of_methodNamed B.named
  have hlocks := B.notSynchronized
  have hin12 : ∀ w ∈ wsX120, w ∈ vW_X12_scan := u9_X12_scan_wsX120
  subst hsz
  have hD := hD0.self (sz := s.heap.size)
  have hAE := k_AE hD0 hX
  generalize hAe : va_A [(h0, .inr (12, f0)), (h1, .inl (cI, 2001, .inl g0)), (h2, .inl (cI, 2001, .inl g1)), (h3, .inl (cI, 2001, .inl g2)), (h4, .inl (cI, 2001, .inl g3))] s.heap.size = A at hD hAE ⊢
  have hA : ∀ q : Nat, s.heap.size ≤ q → A q := fun q h => by rw [← hAe]; exact Or.inr h
  have hS : va_S A s.heap s.heap [] := va_S.rf
  have hP : va_P D vwCl [(h0, .inr (12, f0)), (h1, .inl (cI, 2001, .inl g0)), (h2, .inl (cI, 2001, .inl g1)), (h3, .inl (cI, 2001, .inl g2)), (h4, .inl (cI, 2001, .inl g3))] s.heap := hP
  have hl := lv_entry ([.ref h0] : List Value) (n := 8) (Nat.le_of_ble_eq_true rfl)
  rw [lg_entry_eq]
  generalize (lg_sl ([.ref h0]) ++ List.replicate (8 - (lg_sl ([.ref h0])).length) Slot.unset).toArray = ls at hl ⊢
  have hl : lv_has ls 8 [(0, .ref h0)] := hl
  refine lv_aload_n hx hb dX12_scan_0 rfl (lv_at hl 0 rfl) ?_
  refine lv_iconst (v := 0) hx hb dX12_scan_1 (by decide) ?_
  refine k_put (D := D) (ci := 12) (v := .int 0) (ty := .int) (N := 195) hx hb hts hin12 tyX12 tyX12_ok nmX12 hown hK hP hD hS 0 rfl rfl (by decide) f9_12_27 (hts (.fieldLink RX12 594 "IntegerHouseModel" "tokens" "I") (o9_X12_scan _ (List.mem_of_getElem? (i := 0) rfl))) rfl pd_2 rfl rfl (k_len e0) dX12_scan_2 (fun H locs hP hD hS => ?_)
  have hP : va_P D vwCl [(h0, .inr (12, (f0.set 27 (.int 0)))), (h1, .inl (cI, 2001, .inl g0)), (h2, .inl (cI, 2001, .inl g1)), (h3, .inl (cI, 2001, .inl g2)), (h4, .inl (cI, 2001, .inl g3))] H := hP
  have hD : va_D A [(h0, .inr (12, (f0.set 27 (.int 0)))), (h1, .inl (cI, 2001, .inl g0)), (h2, .inl (cI, 2001, .inl g1)), (h3, .inl (cI, 2001, .inl g2)), (h4, .inl (cI, 2001, .inl g3))] := hD
  refine lv_aload_n hx hb dX12_scan_5 rfl (lv_at hl 0 rfl) ?_
  refine lv_iconst (v := 0) hx hb dX12_scan_6 (by decide) ?_
  refine k_put (D := D) (ci := 12) (v := .int 0) (ty := .boolean) (N := 195) hx hb hts hin12 tyX12 tyX12_ok nmX12 hown hK hP hD hS 0 rfl rfl (by decide) f9_12_31 (hts (.fieldLink RX12 562 "IntegerHouseModel" "faulty" "Z") (o9_X12_scan _ (List.mem_of_getElem? (i := 1) rfl))) rfl pd_18 rfl rfl (k_len (k_ne (by decide) e1)) dX12_scan_7 (fun H locs hP hD hS => ?_)
  have hP : va_P D vwCl [(h0, .inr (12, ((f0.set 27 (.int 0)).set 31 (.int 0)))), (h1, .inl (cI, 2001, .inl g0)), (h2, .inl (cI, 2001, .inl g1)), (h3, .inl (cI, 2001, .inl g2)), (h4, .inl (cI, 2001, .inl g3))] H := hP
  have hD : va_D A [(h0, .inr (12, ((f0.set 27 (.int 0)).set 31 (.int 0)))), (h1, .inl (cI, 2001, .inl g0)), (h2, .inl (cI, 2001, .inl g1)), (h3, .inl (cI, 2001, .inl g2)), (h4, .inl (cI, 2001, .inl g3))] := hD
  refine lv_aload_n hx hb dX12_scan_10 rfl (lv_at hl 0 rfl) ?_
  refine lv_iconst (v := 0) hx hb dX12_scan_11 (by decide) ?_
  refine k_put (D := D) (ci := 12) (v := .int 0) (ty := .int) (N := 195) hx hb hts hin12 tyX12 tyX12_ok nmX12 hown hK hP hD hS 0 rfl rfl (by decide) f9_12_28 (hts (.fieldLink RX12 597 "IntegerHouseModel" "now" "I") (o9_X12_scan _ (List.mem_of_getElem? (i := 2) rfl))) rfl pd_2 rfl rfl (k_len (k_ne (by decide) (k_ne (by decide) e2))) dX12_scan_12 (fun H locs hP hD hS => ?_)
  have hP : va_P D vwCl [(h0, .inr (12, (((f0.set 27 (.int 0)).set 31 (.int 0)).set 28 (.int 0)))), (h1, .inl (cI, 2001, .inl g0)), (h2, .inl (cI, 2001, .inl g1)), (h3, .inl (cI, 2001, .inl g2)), (h4, .inl (cI, 2001, .inl g3))] H := hP
  have hD : va_D A [(h0, .inr (12, (((f0.set 27 (.int 0)).set 31 (.int 0)).set 28 (.int 0)))), (h1, .inl (cI, 2001, .inl g0)), (h2, .inl (cI, 2001, .inl g1)), (h3, .inl (cI, 2001, .inl g2)), (h4, .inl (cI, 2001, .inl g3))] := hD
  refine lv_iconst (v := 0) hx hb dX12_scan_15 (by decide) ?_
  refine lv_istore_n (lv' := [(1, .int 0), (0, .ref h0)]) hx hb dX12_scan_16 rfl hl (by decide) rfl (fun ls hl => ?_)
  refine lv_iconst (v := 1) hx hb dX12_scan_17 (by decide) ?_
  refine lv_istore_n (lv' := [(2, .int 1), (1, .int 0), (0, .ref h0)]) hx hb dX12_scan_18 rfl hl (by decide) rfl (fun ls hl => ?_)
  refine lv_iload_n hx hb dX12_scan_19 rfl (lv_at hl 0 rfl) ?_
  refine lv_if_eq (tgt := 454) hx hb dX12_scan_20 (by decide) (fun c9 => absurd c9 (by decide)) (fun _ => ?_)
  refine lv_aload_n hx hb dX12_scan_23 rfl (lv_at hl 2 rfl) ?_
  refine lv_iload_n hx hb dX12_scan_24 rfl (lv_at hl 1 rfl) ?_
  refine k_cVi (As := [.int 0]) (rest := []) (wc := [(h0, .inr (12, (((f0.set 27 (.int 0)).set 31 (.int 0)).set 28 (.int 0))))]) (wr := [(h1, .inl (cI, 2001, .inl g0)), (h2, .inl (cI, 2001, .inl g1)), (h3, .inl (cI, 2001, .inl g2)), (h4, .inl (cI, 2001, .inl g3))]) (w1 := [(h0, .inr (12, (((f0.set 27 (.int 0)).set 31 (.int 0)).set 28 (.int 0))))]) ⟨hx, hb, hml, hown, hts⟩ hN hX hAE hK hP hD hS hA [0] [1, 2, 3, 4] (ci := 12) rfl rfl rfl rfl (by decide +kernel) (by decide +kernel) (by decide +kernel) (c_X12_char1_0 l E D cI cJ cB cZ h0 ((((f0.set 27 (.int 0)).set 31 (.int 0)).set 28 (.int 0))) (k_ne (by decide) (k_ne (by decide) (k_ne (by decide) e3)))) (cwV 1 hts g9_X12_scan_X12_char1_586 rfl rfl rfl (by decide +kernel) ⟨Nat.le_of_ble_eq_true rfl, Nat.le_of_ble_eq_true rfl⟩) rfl hl.1 (Nat.le_of_ble_eq_true rfl) dX12_scan_25 ⟨Nat.le_of_ble_eq_true rfl, Nat.le_of_ble_eq_true rfl⟩ (fun H locs hP hD hS => ?_)
  have hP : va_P D vwCl [(h1, .inl (cI, 2001, .inl g0)), (h2, .inl (cI, 2001, .inl g1)), (h3, .inl (cI, 2001, .inl g2)), (h4, .inl (cI, 2001, .inl g3)), (h0, .inr (12, (((f0.set 27 (.int 0)).set 31 (.int 0)).set 28 (.int 0))))] H := hP
  have hD : va_D A [(h1, .inl (cI, 2001, .inl g0)), (h2, .inl (cI, 2001, .inl g1)), (h3, .inl (cI, 2001, .inl g2)), (h4, .inl (cI, 2001, .inl g3)), (h0, .inr (12, (((f0.set 27 (.int 0)).set 31 (.int 0)).set 28 (.int 0))))] := hD
  refine lv_bipush (v := 32) hx hb dX12_scan_28 (by decide) ?_
  refine lv_icmp_eq (tgt := 43) hx hb dX12_scan_30 (by decide) (fun c9 => absurd c9 (by decide)) (fun _ => ?_)
  refine lv_aload_n hx hb dX12_scan_33 rfl (lv_at hl 2 rfl) ?_
  refine lv_iload_n hx hb dX12_scan_34 rfl (lv_at hl 1 rfl) ?_
  refine k_cVi (As := [.int 0]) (rest := []) (wc := [(h0, .inr (12, (((f0.set 27 (.int 0)).set 31 (.int 0)).set 28 (.int 0))))]) (wr := [(h1, .inl (cI, 2001, .inl g0)), (h2, .inl (cI, 2001, .inl g1)), (h3, .inl (cI, 2001, .inl g2)), (h4, .inl (cI, 2001, .inl g3))]) (w1 := [(h0, .inr (12, (((f0.set 27 (.int 0)).set 31 (.int 0)).set 28 (.int 0))))]) ⟨hx, hb, hml, hown, hts⟩ hN hX hAE hK hP hD hS hA [4] [0, 1, 2, 3] (ci := 12) rfl rfl rfl rfl (by decide +kernel) (by decide +kernel) (by decide +kernel) (c_X12_char1_0 l E D cI cJ cB cZ h0 ((((f0.set 27 (.int 0)).set 31 (.int 0)).set 28 (.int 0))) (k_ne (by decide) (k_ne (by decide) (k_ne (by decide) e3)))) (cwV 1 hts g9_X12_scan_X12_char1_586 rfl rfl rfl (by decide +kernel) ⟨Nat.le_of_ble_eq_true rfl, Nat.le_of_ble_eq_true rfl⟩) rfl hl.1 (Nat.le_of_ble_eq_true rfl) dX12_scan_35 ⟨Nat.le_of_ble_eq_true rfl, Nat.le_of_ble_eq_true rfl⟩ (fun H locs hP hD hS => ?_)
  have hP : va_P D vwCl [(h1, .inl (cI, 2001, .inl g0)), (h2, .inl (cI, 2001, .inl g1)), (h3, .inl (cI, 2001, .inl g2)), (h4, .inl (cI, 2001, .inl g3)), (h0, .inr (12, (((f0.set 27 (.int 0)).set 31 (.int 0)).set 28 (.int 0))))] H := hP
  have hD : va_D A [(h1, .inl (cI, 2001, .inl g0)), (h2, .inl (cI, 2001, .inl g1)), (h3, .inl (cI, 2001, .inl g2)), (h4, .inl (cI, 2001, .inl g3)), (h0, .inr (12, (((f0.set 27 (.int 0)).set 31 (.int 0)).set 28 (.int 0))))] := hD
  refine lv_bipush (v := 10) hx hb dX12_scan_38 (by decide) ?_
  refine lv_icmp_ne (tgt := 49) hx hb dX12_scan_40 (by decide) (fun _ => ?_) (fun c9 => absurd c9 (by decide))
  refine lv_aload_n hx hb dX12_scan_49 rfl (lv_at hl 2 rfl) ?_
  refine k_get (D := D) (ci := 12) (v := .ref h1) (N := 195) hx hb hts hin12 hown hK hP 4 rfl rfl (by decide) f9_12_23 (hts (.fieldLink RX12 81 "IntegerHouseModel" "tokenAt" "[I") (o9_X12_scan _ (List.mem_of_getElem? (i := 7) rfl))) (k_ne (by decide) (k_ne (by decide) (k_ne (by decide) e4))) dX12_scan_50 ?_
  refine lv_aload_n hx hb dX12_scan_53 rfl (lv_at hl 2 rfl) ?_
  refine k_get (D := D) (ci := 12) (v := .int 0) (N := 195) hx hb hts hin12 hown hK hP 4 rfl rfl (by decide) f9_12_27 (hts (.fieldLink RX12 594 "IntegerHouseModel" "tokens" "I") (o9_X12_scan _ (List.mem_of_getElem? (i := 0) rfl))) (k_ne (by decide) (k_ne (by decide) (k_set e0))) dX12_scan_54 ?_
  refine lv_iload_n hx hb dX12_scan_57 rfl (lv_at hl 1 rfl) ?_
  refine va_iast hx hb hK hP hD hS 0 0 rfl rfl (k_in (by decide)) dX12_scan_58 (fun H locs hP hD hS => ?_)
  have hP : va_P D vwCl [(h1, .inl (cI, 2001, .inl (upd g0 0 0))), (h2, .inl (cI, 2001, .inl g1)), (h3, .inl (cI, 2001, .inl g2)), (h4, .inl (cI, 2001, .inl g3)), (h0, .inr (12, (((f0.set 27 (.int 0)).set 31 (.int 0)).set 28 (.int 0))))] H := hP
  have hD : va_D A [(h1, .inl (cI, 2001, .inl (upd g0 0 0))), (h2, .inl (cI, 2001, .inl g1)), (h3, .inl (cI, 2001, .inl g2)), (h4, .inl (cI, 2001, .inl g3)), (h0, .inr (12, (((f0.set 27 (.int 0)).set 31 (.int 0)).set 28 (.int 0))))] := hD
  refine lv_aload_n hx hb dX12_scan_59 rfl (lv_at hl 2 rfl) ?_
  refine k_get (D := D) (ci := 12) (v := .ref h2) (N := 195) hx hb hts hin12 hown hK hP 4 rfl rfl (by decide) f9_12_24 (hts (.fieldLink RX12 84 "IntegerHouseModel" "tokenSize" "[I") (o9_X12_scan _ (List.mem_of_getElem? (i := 8) rfl))) (k_ne (by decide) (k_ne (by decide) (k_ne (by decide) e5))) dX12_scan_60 ?_
  refine lv_aload_n hx hb dX12_scan_63 rfl (lv_at hl 2 rfl) ?_
  refine k_get (D := D) (ci := 12) (v := .int 0) (N := 195) hx hb hts hin12 hown hK hP 4 rfl rfl (by decide) f9_12_27 (hts (.fieldLink RX12 594 "IntegerHouseModel" "tokens" "I") (o9_X12_scan _ (List.mem_of_getElem? (i := 0) rfl))) (k_ne (by decide) (k_ne (by decide) (k_set e0))) dX12_scan_64 ?_
  refine lv_iconst (v := 0) hx hb dX12_scan_67 (by decide) ?_
  refine va_iast hx hb hK hP hD hS 1 0 rfl rfl (k_in (by decide)) dX12_scan_68 (fun H locs hP hD hS => ?_)
  have hP : va_P D vwCl [(h1, .inl (cI, 2001, .inl (upd g0 0 0))), (h2, .inl (cI, 2001, .inl (upd g1 0 0))), (h3, .inl (cI, 2001, .inl g2)), (h4, .inl (cI, 2001, .inl g3)), (h0, .inr (12, (((f0.set 27 (.int 0)).set 31 (.int 0)).set 28 (.int 0))))] H := hP
  have hD : va_D A [(h1, .inl (cI, 2001, .inl (upd g0 0 0))), (h2, .inl (cI, 2001, .inl (upd g1 0 0))), (h3, .inl (cI, 2001, .inl g2)), (h4, .inl (cI, 2001, .inl g3)), (h0, .inr (12, (((f0.set 27 (.int 0)).set 31 (.int 0)).set 28 (.int 0))))] := hD
  refine lv_aload_n hx hb dX12_scan_69 rfl (lv_at hl 2 rfl) ?_
  refine k_get (D := D) (ci := 12) (v := .ref h3) (N := 195) hx hb hts hin12 hown hK hP 4 rfl rfl (by decide) f9_12_25 (hts (.fieldLink RX12 87 "IntegerHouseModel" "tokenKind" "[I") (o9_X12_scan _ (List.mem_of_getElem? (i := 9) rfl))) (k_ne (by decide) (k_ne (by decide) (k_ne (by decide) e6))) dX12_scan_70 ?_
  refine lv_aload_n hx hb dX12_scan_73 rfl (lv_at hl 2 rfl) ?_
  refine k_get (D := D) (ci := 12) (v := .int 0) (N := 195) hx hb hts hin12 hown hK hP 4 rfl rfl (by decide) f9_12_27 (hts (.fieldLink RX12 594 "IntegerHouseModel" "tokens" "I") (o9_X12_scan _ (List.mem_of_getElem? (i := 0) rfl))) (k_ne (by decide) (k_ne (by decide) (k_set e0))) dX12_scan_74 ?_
  refine lv_iconst (v := 0) hx hb dX12_scan_77 (by decide) ?_
  refine va_iast hx hb hK hP hD hS 2 0 rfl rfl (k_in (by decide)) dX12_scan_78 (fun H locs hP hD hS => ?_)
  have hP : va_P D vwCl [(h1, .inl (cI, 2001, .inl (upd g0 0 0))), (h2, .inl (cI, 2001, .inl (upd g1 0 0))), (h3, .inl (cI, 2001, .inl (upd g2 0 0))), (h4, .inl (cI, 2001, .inl g3)), (h0, .inr (12, (((f0.set 27 (.int 0)).set 31 (.int 0)).set 28 (.int 0))))] H := hP
  have hD : va_D A [(h1, .inl (cI, 2001, .inl (upd g0 0 0))), (h2, .inl (cI, 2001, .inl (upd g1 0 0))), (h3, .inl (cI, 2001, .inl (upd g2 0 0))), (h4, .inl (cI, 2001, .inl g3)), (h0, .inr (12, (((f0.set 27 (.int 0)).set 31 (.int 0)).set 28 (.int 0))))] := hD
  refine lv_aload_n hx hb dX12_scan_79 rfl (lv_at hl 2 rfl) ?_
  refine k_get (D := D) (ci := 12) (v := .ref h4) (N := 195) hx hb hts hin12 hown hK hP 4 rfl rfl (by decide) f9_12_26 (hts (.fieldLink RX12 90 "IntegerHouseModel" "tokenValue" "[I") (o9_X12_scan _ (List.mem_of_getElem? (i := 10) rfl))) (k_ne (by decide) (k_ne (by decide) (k_ne (by decide) e7))) dX12_scan_80 ?_
  refine lv_aload_n hx hb dX12_scan_83 rfl (lv_at hl 2 rfl) ?_
  refine k_get (D := D) (ci := 12) (v := .int 0) (N := 195) hx hb hts hin12 hown hK hP 4 rfl rfl (by decide) f9_12_27 (hts (.fieldLink RX12 594 "IntegerHouseModel" "tokens" "I") (o9_X12_scan _ (List.mem_of_getElem? (i := 0) rfl))) (k_ne (by decide) (k_ne (by decide) (k_set e0))) dX12_scan_84 ?_
  refine lv_iconst (v := 0) hx hb dX12_scan_87 (by decide) ?_
  refine va_iast hx hb hK hP hD hS 3 0 rfl rfl (k_in (by decide)) dX12_scan_88 (fun H locs hP hD hS => ?_)
  have hP : va_P D vwCl [(h1, .inl (cI, 2001, .inl (upd g0 0 0))), (h2, .inl (cI, 2001, .inl (upd g1 0 0))), (h3, .inl (cI, 2001, .inl (upd g2 0 0))), (h4, .inl (cI, 2001, .inl (upd g3 0 0))), (h0, .inr (12, (((f0.set 27 (.int 0)).set 31 (.int 0)).set 28 (.int 0))))] H := hP
  have hD : va_D A [(h1, .inl (cI, 2001, .inl (upd g0 0 0))), (h2, .inl (cI, 2001, .inl (upd g1 0 0))), (h3, .inl (cI, 2001, .inl (upd g2 0 0))), (h4, .inl (cI, 2001, .inl (upd g3 0 0))), (h0, .inr (12, (((f0.set 27 (.int 0)).set 31 (.int 0)).set 28 (.int 0))))] := hD
  refine lv_iload_n hx hb dX12_scan_89 rfl (lv_at hl 1 rfl) ?_
  refine lv_aload_n hx hb dX12_scan_90 rfl (lv_at hl 2 rfl) ?_
  refine k_get (D := D) (ci := 12) (v := .int 0) (N := 195) hx hb hts hin12 hown hK hP 4 rfl rfl (by decide) f9_12_12 (hts (.fieldLink RX12 469 "IntegerHouseModel" "docSize" "I") (o9_X12_scan _ (List.mem_of_getElem? (i := 11) rfl))) (k_ne (by decide) (k_ne (by decide) (k_ne (by decide) e3))) dX12_scan_91 ?_
  refine lv_icmp_ge (tgt := 101) hx hb dX12_scan_94 (by decide) (fun _ => ?_) (fun c9 => absurd (by decide) c9)
  refine lv_iconst (v := 0) hx hb dX12_scan_101 (by decide) ?_
  refine lv_istore_n (lv' := [(2, .int 0), (1, .int 0), (0, .ref h0)]) hx hb dX12_scan_102 rfl hl (by decide) rfl (fun ls hl => ?_)
  refine lv_iload_n hx hb dX12_scan_103 rfl (lv_at hl 0 rfl) ?_
  refine lv_if_eq (tgt := 19) hx hb dX12_scan_104 (by decide) (fun _ => ?_) (fun c9 => absurd (by decide) c9)
  refine lv_iload_n hx hb dX12_scan_19 rfl (lv_at hl 0 rfl) ?_
  refine lv_if_eq (tgt := 454) hx hb dX12_scan_20 (by decide) (fun _ => ?_) (fun c9 => absurd (by decide) c9)
  have hP := hP.sub (ws' := [(h0, .inr (12, (((f0.set 27 (.int 0)).set 31 (.int 0)).set 28 (.int 0)))), (h1, .inl (cI, 2001, .inl (upd g0 0 0))), (h2, .inl (cI, 2001, .inl (upd g1 0 0))), (h3, .inl (cI, 2001, .inl (upd g2 0 0))), (h4, .inl (cI, 2001, .inl (upd g3 0 0)))]) [4, 0, 1, 2, 3] rfl
  have hD := hD.sub (ws' := [(h0, .inr (12, (((f0.set 27 (.int 0)).set 31 (.int 0)).set 28 (.int 0)))), (h1, .inl (cI, 2001, .inl (upd g0 0 0))), (h2, .inl (cI, 2001, .inl (upd g1 0 0))), (h3, .inl (cI, 2001, .inl (upd g2 0 0))), (h4, .inl (cI, 2001, .inl (upd g3 0 0)))]) [4, 0, 1, 2, 3] (by decide +kernel) rfl
  exact W.vret hx hb hr (fun t ht hW => ⟨⟨(), rfl, trivial, kB_mk ht hW hP hK hD⟩, hS.F ht⟩) hS.2.2 dX12_scan_454
set_option maxHeartbeats 400000000 in
set_option maxRecDepth 100000 in
theorem c_X12_full_0 (l : Launch) (E : kE) (D : va_G) (cI cJ cB cZ : ClassId) (h0 : Nat) (f0 : List Value) (e0 : f0[15]? = some (.int 1)) (e1 : f0[12]? = some (.int 0)) (e2 : f0[13]? = some (.int 0)) (e3 : f0[9]? = some (.int 0)) (e4 : f0[4]? = some (.int 0)) : kI l E D (kT cI cJ cB cZ) yX12_full vW_X12_full ({ frames := 0, cells := 0, slots := 0, locals := 0 }) [.ref h0] [(h0, .inr (12, f0))] (0) [(h0, .inr (12, f0))] 0 0 := by
  intro sz
  refine Met.ofW (cc := cX12_full) (maxL := 2) (ret := (some .boolean)) (by decide) rfl ?_
  intro p e s m args below meth c s₁ B hml hv
  obtain ⟨rfl, hsz, hP, hK, hD0, hN, hX⟩ := hv
  have hx := B.exec
  have hb := B.bytes
  have hr := B.returns
  have hts := atoms_spec (ws := vW_X12_full) B.pre
  have hown : s.vm.findClass RX12 = some m.cls := findClass_of_methodNamed B.named
  have hlocks := B.notSynchronized
  have hin12 : ∀ w ∈ wsX120, w ∈ vW_X12_full := u9_X12_full_wsX120
  subst hsz
  have hD := hD0.self (sz := s.heap.size)
  have hAE := k_AE hD0 hX
  generalize hAe : va_A [(h0, .inr (12, f0))] s.heap.size = A at hD hAE ⊢
  have hA : ∀ q : Nat, s.heap.size ≤ q → A q := fun q h => by rw [← hAe]; exact Or.inr h
  have hS : va_S A s.heap s.heap [] := va_S.rf
  have hP : va_P D vwCl [(h0, .inr (12, f0))] s.heap := hP
  have hl := lv_entry ([.ref h0] : List Value) (n := 2) (Nat.le_of_ble_eq_true rfl)
  rw [lg_entry_eq]
  generalize (lg_sl ([.ref h0]) ++ List.replicate (2 - (lg_sl ([.ref h0])).length) Slot.unset).toArray = ls at hl ⊢
  have hl : lv_has ls 2 [(0, .ref h0)] := hl
  refine lv_iconst (v := 1) hx hb dX12_full_0 (by decide) ?_
  refine lv_aload_n hx hb dX12_full_1 rfl (lv_at hl 0 rfl) ?_
  refine k_get (D := D) (ci := 12) (v := .int 1) (N := 195) hx hb hts hin12 hown hK hP 0 rfl rfl (by decide) f9_12_15 (hts (.fieldLink RX12 466 "IntegerHouseModel" "number" "I") (o9_X12_full _ (List.mem_of_getElem? (i := 0) rfl))) e0 dX12_full_2 ?_
  refine lv_iconst (v := 2) hx hb dX12_full_5 (by decide) ?_
  refine lv_icmp_ne (tgt := 14) hx hb dX12_full_6 (by decide) (fun _ => ?_) (fun c9 => absurd c9 (by decide))
  refine lv_iconst (v := 0) hx hb dX12_full_14 (by decide) ?_
  refine lv_iadd hx hb dX12_full_15 ?_
  refine k_topi (y := 1) (by decide) ?_
  refine lv_aload_n hx hb dX12_full_16 rfl (lv_at hl 0 rfl) ?_
  refine k_get (D := D) (ci := 12) (v := .int 1) (N := 195) hx hb hts hin12 hown hK hP 0 rfl rfl (by decide) f9_12_15 (hts (.fieldLink RX12 466 "IntegerHouseModel" "number" "I") (o9_X12_full _ (List.mem_of_getElem? (i := 0) rfl))) e0 dX12_full_17 ?_
  refine lv_iconst (v := 1) hx hb dX12_full_20 (by decide) ?_
  refine lv_icmp_ne (tgt := 33) hx hb dX12_full_21 (by decide) (fun c9 => absurd (by decide) c9) (fun _ => ?_)
  refine lv_iconst (v := 2) hx hb dX12_full_24 (by decide) ?_
  refine lv_aload_n hx hb dX12_full_25 rfl (lv_at hl 0 rfl) ?_
  refine k_get (D := D) (ci := 12) (v := .int 0) (N := 195) hx hb hts hin12 hown hK hP 0 rfl rfl (by decide) f9_12_12 (hts (.fieldLink RX12 469 "IntegerHouseModel" "docSize" "I") (o9_X12_full _ (List.mem_of_getElem? (i := 1) rfl))) e1 dX12_full_26 ?_
  refine lv_iadd hx hb dX12_full_29 ?_
  refine k_topi (y := 2) (by decide) ?_
  refine lv_goto (tgt := 34) hx hb dX12_full_30 (by decide) ?_
  refine lv_iadd hx hb dX12_full_34 ?_
  refine k_topi (y := 3) (by decide) ?_
  refine lv_istore_n (lv' := [(1, .int 3), (0, .ref h0)]) hx hb dX12_full_35 rfl hl (by decide) rfl (fun ls hl => ?_)
  refine lv_aload_n hx hb dX12_full_36 rfl (lv_at hl 1 rfl) ?_
  refine k_get (D := D) (ci := 12) (v := .int 0) (N := 195) hx hb hts hin12 hown hK hP 0 rfl rfl (by decide) f9_12_13 (hts (.fieldLink RX12 472 "IntegerHouseModel" "replay" "Z") (o9_X12_full _ (List.mem_of_getElem? (i := 2) rfl))) e2 dX12_full_37 ?_
  refine lv_if_ne (tgt := 73) hx hb dX12_full_40 (by decide) (fun c9 => absurd (by decide) c9) (fun _ => ?_)
  refine lv_aload_n hx hb dX12_full_43 rfl (lv_at hl 1 rfl) ?_
  refine k_get (D := D) (ci := 12) (v := .int 0) (N := 195) hx hb hts hin12 hown hK hP 0 rfl rfl (by decide) f9_12_9 (hts (.fieldLink RX12 475 "IntegerHouseModel" "waitBytes" "I") (o9_X12_full _ (List.mem_of_getElem? (i := 3) rfl))) e3 dX12_full_44 ?_
  refine lv_iload_n hx hb dX12_full_47 rfl (lv_at hl 0 rfl) ?_
  refine lv_iadd hx hb dX12_full_48 ?_
  refine k_topi (y := 3) (by decide) ?_
  refine lv_sipush (v := 248) hx hb dX12_full_49 (by decide) ?_
  refine lv_iadd hx hb dX12_full_52 ?_
  refine k_topi (y := 251) (by decide) ?_
  refine lv_iconst (v := 1) hx hb dX12_full_53 (by decide) ?_
  refine lv_isub hx hb dX12_full_54 ?_
  refine k_topi (y := 250) (by decide) ?_
  refine lv_sipush (v := 248) hx hb dX12_full_55 (by decide) ?_
  refine lv_idiv hx hb dX12_full_58 (by decide) ?_
  refine k_topi (y := 1) (by decide) ?_
  refine lv_bipush (v := 100) hx hb dX12_full_59 (by decide) ?_
  refine lv_aload_n hx hb dX12_full_61 rfl (lv_at hl 1 rfl) ?_
  refine k_get (D := D) (ci := 12) (v := .int 0) (N := 195) hx hb hts hin12 hown hK hP 0 rfl rfl (by decide) f9_12_4 (hts (.fieldLink RX12 478 "IntegerHouseModel" "used" "I") (o9_X12_full _ (List.mem_of_getElem? (i := 4) rfl))) e4 dX12_full_62 ?_
  refine lv_isub hx hb dX12_full_65 ?_
  refine k_topi (y := 100) (by decide) ?_
  refine lv_icmp_le (tgt := 73) hx hb dX12_full_66 (by decide) (fun _ => ?_) (fun c9 => absurd (by decide) c9)
  refine lv_iconst (v := 0) hx hb dX12_full_73 (by decide) ?_
  exact W.zret (v := 0) hx hb hr rfl (fun t ht hW => ⟨⟨0, (), rfl, rfl, kB_mk ht hW hP hK hD⟩, hS.F ht⟩) hS.2.2 dX12_full_74
set_option maxHeartbeats 400000000 in
set_option maxRecDepth 100000 in
theorem c_X12_readText_0 (l : Launch) (E : kE) (D : va_G) (cI cJ cB cZ : ClassId) (h0 : Nat) (f0 : List Value) (h1 : Nat) (h2 : Nat) (h3 : Nat) (h4 : Nat) (g0 : Nat → Int32) (g1 : Nat → Int32) (g2 : Nat → Int32) (g3 : Nat → Int32) (e0 : f0[32]? = some (.int 0)) (e1 : f0[36]? = some (.int 0)) (e2 : f0[33]? = some (.int 0)) (e3 : f0[37]? = some (.int 0)) (e4 : f0[27]? = some (.int 0)) (e5 : f0[31]? = some (.int 0)) (e6 : f0[28]? = some (.int 0)) (e7 : f0[12]? = some (.int 0)) (e8 : f0[23]? = some (.ref h1)) (e9 : f0[24]? = some (.ref h2)) (e10 : f0[25]? = some (.ref h3)) (e11 : f0[26]? = some (.ref h4)) (e12 : f0[15]? = some (.int 1)) (e13 : f0[13]? = some (.int 0)) (e14 : f0[9]? = some (.int 0)) (e15 : f0[4]? = some (.int 0)) : kI l E D (kT cI cJ cB cZ) yX12_readText vW_X12_readText ({ frames := 2, cells := 0, slots := 0, locals := 48 }) [.ref h0] [(h0, .inr (12, f0)), (h1, .inl (cI, 2001, .inl g0)), (h2, .inl (cI, 2001, .inl g1)), (h3, .inl (cI, 2001, .inl g2)), (h4, .inl (cI, 2001, .inl g3))] (0) [(h0, .inr (12, (((((((f0.set 36 (.int 0)).set 37 (.int 0)).set 27 (.int 0)).set 31 (.int 0)).set 28 (.int 0)).set 32 (.int 0)).set 33 (.int 0)))), (h1, .inl (cI, 2001, .inl (upd g0 0 0))), (h2, .inl (cI, 2001, .inl (upd g1 0 0))), (h3, .inl (cI, 2001, .inl (upd g2 0 0))), (h4, .inl (cI, 2001, .inl (upd g3 0 0)))] 0 0 := by
  intro sz
  refine Met.ofW (cc := cX12_readText) (maxL := 3) (ret := (some .int)) (by decide) rfl ?_
  intro p e s m args below meth c s₁ B hml hv
  obtain ⟨rfl, hsz, hP, hK, hD0, hN, hX⟩ := hv
  have hx := B.exec
  have hb := B.bytes
  have hr := B.returns
  have hts := atoms_spec (ws := vW_X12_readText) B.pre
  have hown : s.vm.findClass RX12 = some m.cls := findClass_of_methodNamed B.named
  have hlocks := B.notSynchronized
  have hin12 : ∀ w ∈ wsX120, w ∈ vW_X12_readText := u9_X12_readText_wsX120
  subst hsz
  have hD := hD0.self (sz := s.heap.size)
  have hAE := k_AE hD0 hX
  generalize hAe : va_A [(h0, .inr (12, f0)), (h1, .inl (cI, 2001, .inl g0)), (h2, .inl (cI, 2001, .inl g1)), (h3, .inl (cI, 2001, .inl g2)), (h4, .inl (cI, 2001, .inl g3))] s.heap.size = A at hD hAE ⊢
  have hA : ∀ q : Nat, s.heap.size ≤ q → A q := fun q h => by rw [← hAe]; exact Or.inr h
  have hS : va_S A s.heap s.heap [] := va_S.rf
  have hP : va_P D vwCl [(h0, .inr (12, f0)), (h1, .inl (cI, 2001, .inl g0)), (h2, .inl (cI, 2001, .inl g1)), (h3, .inl (cI, 2001, .inl g2)), (h4, .inl (cI, 2001, .inl g3))] s.heap := hP
  have hl := lv_entry ([.ref h0] : List Value) (n := 3) (Nat.le_of_ble_eq_true rfl)
  rw [lg_entry_eq]
  generalize (lg_sl ([.ref h0]) ++ List.replicate (3 - (lg_sl ([.ref h0])).length) Slot.unset).toArray = ls at hl ⊢
  have hl : lv_has ls 3 [(0, .ref h0)] := hl
  refine lv_aload_n hx hb dX12_readText_0 rfl (lv_at hl 0 rfl) ?_
  refine lv_aload_n hx hb dX12_readText_1 rfl (lv_at hl 0 rfl) ?_
  refine k_get (D := D) (ci := 12) (v := .int 0) (N := 195) hx hb hts hin12 hown hK hP 0 rfl rfl (by decide) f9_12_32 (hts (.fieldLink RX12 815 "IntegerHouseModel" "variables" "I") (o9_X12_readText _ (List.mem_of_getElem? (i := 0) rfl))) e0 dX12_readText_2 ?_
  refine k_put (D := D) (ci := 12) (v := .int 0) (ty := .int) (N := 195) hx hb hts hin12 tyX12 tyX12_ok nmX12 hown hK hP hD hS 0 rfl rfl (by decide) f9_12_36 (hts (.fieldLink RX12 620 "IntegerHouseModel" "knownVariables" "I") (o9_X12_readText _ (List.mem_of_getElem? (i := 1) rfl))) rfl pd_2 rfl rfl (k_len e1) dX12_readText_5 (fun H locs hP hD hS => ?_)
  have hP : va_P D vwCl [(h0, .inr (12, (f0.set 36 (.int 0)))), (h1, .inl (cI, 2001, .inl g0)), (h2, .inl (cI, 2001, .inl g1)), (h3, .inl (cI, 2001, .inl g2)), (h4, .inl (cI, 2001, .inl g3))] H := hP
  have hD : va_D A [(h0, .inr (12, (f0.set 36 (.int 0)))), (h1, .inl (cI, 2001, .inl g0)), (h2, .inl (cI, 2001, .inl g1)), (h3, .inl (cI, 2001, .inl g2)), (h4, .inl (cI, 2001, .inl g3))] := hD
  refine lv_aload_n hx hb dX12_readText_8 rfl (lv_at hl 0 rfl) ?_
  refine lv_aload_n hx hb dX12_readText_9 rfl (lv_at hl 0 rfl) ?_
  refine k_get (D := D) (ci := 12) (v := .int 0) (N := 195) hx hb hts hin12 hown hK hP 0 rfl rfl (by decide) f9_12_33 (hts (.fieldLink RX12 818 "IntegerHouseModel" "claims" "I") (o9_X12_readText _ (List.mem_of_getElem? (i := 2) rfl))) (k_ne (by decide) e2) dX12_readText_10 ?_
  refine k_put (D := D) (ci := 12) (v := .int 0) (ty := .int) (N := 195) hx hb hts hin12 tyX12 tyX12_ok nmX12 hown hK hP hD hS 0 rfl rfl (by decide) f9_12_37 (hts (.fieldLink RX12 627 "IntegerHouseModel" "knownClaims" "I") (o9_X12_readText _ (List.mem_of_getElem? (i := 3) rfl))) rfl pd_2 rfl rfl (k_len (k_ne (by decide) e3)) dX12_readText_13 (fun H locs hP hD hS => ?_)
  have hP : va_P D vwCl [(h0, .inr (12, ((f0.set 36 (.int 0)).set 37 (.int 0)))), (h1, .inl (cI, 2001, .inl g0)), (h2, .inl (cI, 2001, .inl g1)), (h3, .inl (cI, 2001, .inl g2)), (h4, .inl (cI, 2001, .inl g3))] H := hP
  have hD : va_D A [(h0, .inr (12, ((f0.set 36 (.int 0)).set 37 (.int 0)))), (h1, .inl (cI, 2001, .inl g0)), (h2, .inl (cI, 2001, .inl g1)), (h3, .inl (cI, 2001, .inl g2)), (h4, .inl (cI, 2001, .inl g3))] := hD
  refine lv_aload_n hx hb dX12_readText_16 rfl (lv_at hl 0 rfl) ?_
  refine k_cVv (As := []) (rest := []) (wc := [(h0, .inr (12, ((f0.set 36 (.int 0)).set 37 (.int 0)))), (h1, .inl (cI, 2001, .inl g0)), (h2, .inl (cI, 2001, .inl g1)), (h3, .inl (cI, 2001, .inl g2)), (h4, .inl (cI, 2001, .inl g3))]) (wr := []) (w1 := (fun _ : Unit => [(h0, .inr (12, (((((f0.set 36 (.int 0)).set 37 (.int 0)).set 27 (.int 0)).set 31 (.int 0)).set 28 (.int 0)))), (h1, .inl (cI, 2001, .inl (upd g0 0 0))), (h2, .inl (cI, 2001, .inl (upd g1 0 0))), (h3, .inl (cI, 2001, .inl (upd g2 0 0))), (h4, .inl (cI, 2001, .inl (upd g3 0 0)))])) ⟨hx, hb, hml, hown, hts⟩ hN hX hAE hK hP hD hS hA [0, 1, 2, 3, 4] [] (ci := 12) rfl rfl rfl rfl (by decide +kernel) (by decide +kernel) (by decide +kernel) (c_X12_scan_0 l E D cI cJ cB cZ h0 (((f0.set 36 (.int 0)).set 37 (.int 0))) h1 g0 h2 g1 h3 g2 h4 g3 (k_ne (by decide) (k_ne (by decide) e4)) (k_ne (by decide) (k_ne (by decide) e5)) (k_ne (by decide) (k_ne (by decide) e6)) (k_ne (by decide) (k_ne (by decide) e7)) (k_ne (by decide) (k_ne (by decide) e8)) (k_ne (by decide) (k_ne (by decide) e9)) (k_ne (by decide) (k_ne (by decide) e10)) (k_ne (by decide) (k_ne (by decide) e11))) (cwV 0 hts g9_X12_readText_X12_scan_848 rfl rfl rfl (by decide +kernel) ⟨Nat.le_of_ble_eq_true rfl, Nat.le_of_ble_eq_true rfl⟩) rfl hl.1 (Nat.le_of_ble_eq_true rfl) dX12_readText_17 ⟨Nat.le_of_ble_eq_true rfl, Nat.le_of_ble_eq_true rfl⟩ (fun _ H locs hP hD hS => ?_)
  have hP : va_P D vwCl [(h0, .inr (12, (((((f0.set 36 (.int 0)).set 37 (.int 0)).set 27 (.int 0)).set 31 (.int 0)).set 28 (.int 0)))), (h1, .inl (cI, 2001, .inl (upd g0 0 0))), (h2, .inl (cI, 2001, .inl (upd g1 0 0))), (h3, .inl (cI, 2001, .inl (upd g2 0 0))), (h4, .inl (cI, 2001, .inl (upd g3 0 0)))] H := hP
  have hD : va_D A [(h0, .inr (12, (((((f0.set 36 (.int 0)).set 37 (.int 0)).set 27 (.int 0)).set 31 (.int 0)).set 28 (.int 0)))), (h1, .inl (cI, 2001, .inl (upd g0 0 0))), (h2, .inl (cI, 2001, .inl (upd g1 0 0))), (h3, .inl (cI, 2001, .inl (upd g2 0 0))), (h4, .inl (cI, 2001, .inl (upd g3 0 0)))] := hD
  refine lv_aload_n hx hb dX12_readText_20 rfl (lv_at hl 0 rfl) ?_
  refine k_get (D := D) (ci := 12) (v := .int 0) (N := 195) hx hb hts hin12 hown hK hP 0 rfl rfl (by decide) f9_12_31 (hts (.fieldLink RX12 562 "IntegerHouseModel" "faulty" "Z") (o9_X12_readText _ (List.mem_of_getElem? (i := 8) rfl))) (k_ne (by decide) (k_set (k_ne (by decide) (k_ne (by decide) (k_ne (by decide) e5))))) dX12_readText_21 ?_
  refine lv_if_ne (tgt := 106) hx hb dX12_readText_24 (by decide) (fun c9 => absurd (by decide) c9) (fun _ => ?_)
  refine lv_aload_n hx hb dX12_readText_27 rfl (lv_at hl 0 rfl) ?_
  refine k_get (D := D) (ci := 12) (v := .ref h3) (N := 195) hx hb hts hin12 hown hK hP 0 rfl rfl (by decide) f9_12_25 (hts (.fieldLink RX12 87 "IntegerHouseModel" "tokenKind" "[I") (o9_X12_readText _ (List.mem_of_getElem? (i := 9) rfl))) (k_ne (by decide) (k_ne (by decide) (k_ne (by decide) (k_ne (by decide) (k_ne (by decide) e10))))) dX12_readText_28 ?_
  refine lv_aload_n hx hb dX12_readText_31 rfl (lv_at hl 0 rfl) ?_
  refine k_get (D := D) (ci := 12) (v := .int 0) (N := 195) hx hb hts hin12 hown hK hP 0 rfl rfl (by decide) f9_12_28 (hts (.fieldLink RX12 597 "IntegerHouseModel" "now" "I") (o9_X12_readText _ (List.mem_of_getElem? (i := 10) rfl))) (k_set (k_ne (by decide) (k_ne (by decide) (k_ne (by decide) (k_ne (by decide) e6))))) dX12_readText_32 ?_
  refine va_iald hx hb hK hP 3 0 rfl rfl (k_in (by decide)) dX12_readText_35 ?_
  refine k_topi (y := 0) rfl ?_
  refine lv_if_eq (tgt := 106) hx hb dX12_readText_36 (by decide) (fun _ => ?_) (fun c9 => absurd (by decide) c9)
  refine lv_aload_n hx hb dX12_readText_106 rfl (lv_at hl 0 rfl) ?_
  refine k_get (D := D) (ci := 12) (v := .int 0) (N := 195) hx hb hts hin12 hown hK hP 0 rfl rfl (by decide) f9_12_33 (hts (.fieldLink RX12 818 "IntegerHouseModel" "claims" "I") (o9_X12_readText _ (List.mem_of_getElem? (i := 2) rfl))) (k_ne (by decide) (k_ne (by decide) (k_ne (by decide) (k_ne (by decide) (k_ne (by decide) e2))))) dX12_readText_107 ?_
  refine lv_istore_n (lv' := [(1, .int 0), (0, .ref h0)]) hx hb dX12_readText_110 rfl hl (by decide) rfl (fun ls hl => ?_)
  refine lv_iload_n hx hb dX12_readText_111 rfl (lv_at hl 0 rfl) ?_
  refine lv_aload_n hx hb dX12_readText_112 rfl (lv_at hl 1 rfl) ?_
  refine k_get (D := D) (ci := 12) (v := .int 0) (N := 195) hx hb hts hin12 hown hK hP 0 rfl rfl (by decide) f9_12_37 (hts (.fieldLink RX12 627 "IntegerHouseModel" "knownClaims" "I") (o9_X12_readText _ (List.mem_of_getElem? (i := 3) rfl))) (k_ne (by decide) (k_ne (by decide) (k_ne (by decide) (k_set (k_ne (by decide) e3))))) dX12_readText_113 ?_
  refine lv_icmp_ge (tgt := 157) hx hb dX12_readText_116 (by decide) (fun _ => ?_) (fun c9 => absurd (by decide) c9)
  refine lv_aload_n hx hb dX12_readText_157 rfl (lv_at hl 1 rfl) ?_
  refine k_get (D := D) (ci := 12) (v := .int 0) (N := 195) hx hb hts hin12 hown hK hP 0 rfl rfl (by decide) f9_12_31 (hts (.fieldLink RX12 562 "IntegerHouseModel" "faulty" "Z") (o9_X12_readText _ (List.mem_of_getElem? (i := 8) rfl))) (k_ne (by decide) (k_set (k_ne (by decide) (k_ne (by decide) (k_ne (by decide) e5))))) dX12_readText_158 ?_
  refine lv_if_eq (tgt := 173) hx hb dX12_readText_161 (by decide) (fun _ => ?_) (fun c9 => absurd (by decide) c9)
  refine lv_aload_n hx hb dX12_readText_173 rfl (lv_at hl 1 rfl) ?_
  refine k_cVi (As := []) (rest := []) (wc := [(h0, .inr (12, (((((f0.set 36 (.int 0)).set 37 (.int 0)).set 27 (.int 0)).set 31 (.int 0)).set 28 (.int 0))))]) (wr := [(h1, .inl (cI, 2001, .inl (upd g0 0 0))), (h2, .inl (cI, 2001, .inl (upd g1 0 0))), (h3, .inl (cI, 2001, .inl (upd g2 0 0))), (h4, .inl (cI, 2001, .inl (upd g3 0 0)))]) (w1 := [(h0, .inr (12, (((((f0.set 36 (.int 0)).set 37 (.int 0)).set 27 (.int 0)).set 31 (.int 0)).set 28 (.int 0))))]) ⟨hx, hb, hml, hown, hts⟩ hN hX hAE hK hP hD hS hA [0] [1, 2, 3, 4] (ci := 12) rfl rfl rfl rfl (by decide +kernel) (by decide +kernel) (by decide +kernel) (c_X12_full_0 l E D cI cJ cB cZ h0 ((((((f0.set 36 (.int 0)).set 37 (.int 0)).set 27 (.int 0)).set 31 (.int 0)).set 28 (.int 0))) (k_ne (by decide) (k_ne (by decide) (k_ne (by decide) (k_ne (by decide) (k_ne (by decide) e12))))) (k_ne (by decide) (k_ne (by decide) (k_ne (by decide) (k_ne (by decide) (k_ne (by decide) e7))))) (k_ne (by decide) (k_ne (by decide) (k_ne (by decide) (k_ne (by decide) (k_ne (by decide) e13))))) (k_ne (by decide) (k_ne (by decide) (k_ne (by decide) (k_ne (by decide) (k_ne (by decide) e14))))) (k_ne (by decide) (k_ne (by decide) (k_ne (by decide) (k_ne (by decide) (k_ne (by decide) e15)))))) (cwV 0 hts g9_X12_readText_X12_full_865 rfl rfl rfl (by decide +kernel) ⟨Nat.le_of_ble_eq_true rfl, Nat.le_of_ble_eq_true rfl⟩) rfl hl.1 (Nat.le_of_ble_eq_true rfl) dX12_readText_174 ⟨Nat.le_of_ble_eq_true rfl, Nat.le_of_ble_eq_true rfl⟩ (fun H locs hP hD hS => ?_)
  have hP : va_P D vwCl [(h1, .inl (cI, 2001, .inl (upd g0 0 0))), (h2, .inl (cI, 2001, .inl (upd g1 0 0))), (h3, .inl (cI, 2001, .inl (upd g2 0 0))), (h4, .inl (cI, 2001, .inl (upd g3 0 0))), (h0, .inr (12, (((((f0.set 36 (.int 0)).set 37 (.int 0)).set 27 (.int 0)).set 31 (.int 0)).set 28 (.int 0))))] H := hP
  have hD : va_D A [(h1, .inl (cI, 2001, .inl (upd g0 0 0))), (h2, .inl (cI, 2001, .inl (upd g1 0 0))), (h3, .inl (cI, 2001, .inl (upd g2 0 0))), (h4, .inl (cI, 2001, .inl (upd g3 0 0))), (h0, .inr (12, (((((f0.set 36 (.int 0)).set 37 (.int 0)).set 27 (.int 0)).set 31 (.int 0)).set 28 (.int 0))))] := hD
  refine lv_if_eq (tgt := 187) hx hb dX12_readText_177 (by decide) (fun _ => ?_) (fun c9 => absurd (by decide) c9)
  refine lv_aload_n hx hb dX12_readText_187 rfl (lv_at hl 1 rfl) ?_
  refine k_get (D := D) (ci := 12) (v := .int 0) (N := 195) hx hb hts hin12 hown hK hP 4 rfl rfl (by decide) f9_12_37 (hts (.fieldLink RX12 627 "IntegerHouseModel" "knownClaims" "I") (o9_X12_readText _ (List.mem_of_getElem? (i := 3) rfl))) (k_ne (by decide) (k_ne (by decide) (k_ne (by decide) (k_set (k_ne (by decide) e3))))) dX12_readText_188 ?_
  refine lv_aload_n hx hb dX12_readText_191 rfl (lv_at hl 1 rfl) ?_
  refine k_get (D := D) (ci := 12) (v := .int 0) (N := 195) hx hb hts hin12 hown hK hP 4 rfl rfl (by decide) f9_12_33 (hts (.fieldLink RX12 818 "IntegerHouseModel" "claims" "I") (o9_X12_readText _ (List.mem_of_getElem? (i := 2) rfl))) (k_ne (by decide) (k_ne (by decide) (k_ne (by decide) (k_ne (by decide) (k_ne (by decide) e2))))) dX12_readText_192 ?_
  refine lv_isub hx hb dX12_readText_195 ?_
  refine k_topi (y := 0) (by decide) ?_
  refine lv_istore_n (lv' := [(1, .int 0), (0, .ref h0)]) hx hb dX12_readText_196 rfl hl (by decide) rfl (fun ls hl => ?_)
  refine lv_aload_n hx hb dX12_readText_197 rfl (lv_at hl 1 rfl) ?_
  refine k_get (D := D) (ci := 12) (v := .int 0) (N := 195) hx hb hts hin12 hown hK hP 4 rfl rfl (by decide) f9_12_33 (hts (.fieldLink RX12 818 "IntegerHouseModel" "claims" "I") (o9_X12_readText _ (List.mem_of_getElem? (i := 2) rfl))) (k_ne (by decide) (k_ne (by decide) (k_ne (by decide) (k_ne (by decide) (k_ne (by decide) e2))))) dX12_readText_198 ?_
  refine lv_istore_n (lv' := [(2, .int 0), (1, .int 0), (0, .ref h0)]) hx hb dX12_readText_201 rfl hl (by decide) rfl (fun ls hl => ?_)
  refine lv_iload_n hx hb dX12_readText_202 rfl (lv_at hl 0 rfl) ?_
  refine lv_aload_n hx hb dX12_readText_203 rfl (lv_at hl 2 rfl) ?_
  refine k_get (D := D) (ci := 12) (v := .int 0) (N := 195) hx hb hts hin12 hown hK hP 4 rfl rfl (by decide) f9_12_37 (hts (.fieldLink RX12 627 "IntegerHouseModel" "knownClaims" "I") (o9_X12_readText _ (List.mem_of_getElem? (i := 3) rfl))) (k_ne (by decide) (k_ne (by decide) (k_ne (by decide) (k_set (k_ne (by decide) e3))))) dX12_readText_204 ?_
  refine lv_icmp_ge (tgt := 233) hx hb dX12_readText_207 (by decide) (fun _ => ?_) (fun c9 => absurd (by decide) c9)
  refine lv_aload_n hx hb dX12_readText_233 rfl (lv_at hl 2 rfl) ?_
  refine lv_aload_n hx hb dX12_readText_234 rfl (lv_at hl 2 rfl) ?_
  refine k_get (D := D) (ci := 12) (v := .int 0) (N := 195) hx hb hts hin12 hown hK hP 4 rfl rfl (by decide) f9_12_36 (hts (.fieldLink RX12 620 "IntegerHouseModel" "knownVariables" "I") (o9_X12_readText _ (List.mem_of_getElem? (i := 1) rfl))) (k_ne (by decide) (k_ne (by decide) (k_ne (by decide) (k_ne (by decide) (k_set e1))))) dX12_readText_235 ?_
  refine k_put (D := D) (ci := 12) (v := .int 0) (ty := .int) (N := 195) hx hb hts hin12 tyX12 tyX12_ok nmX12 hown hK hP hD hS 4 rfl rfl (by decide) f9_12_32 (hts (.fieldLink RX12 815 "IntegerHouseModel" "variables" "I") (o9_X12_readText _ (List.mem_of_getElem? (i := 0) rfl))) rfl pd_2 rfl rfl (k_len (k_ne (by decide) (k_ne (by decide) (k_ne (by decide) (k_ne (by decide) (k_ne (by decide) e0)))))) dX12_readText_238 (fun H locs hP hD hS => ?_)
  have hP : va_P D vwCl [(h1, .inl (cI, 2001, .inl (upd g0 0 0))), (h2, .inl (cI, 2001, .inl (upd g1 0 0))), (h3, .inl (cI, 2001, .inl (upd g2 0 0))), (h4, .inl (cI, 2001, .inl (upd g3 0 0))), (h0, .inr (12, ((((((f0.set 36 (.int 0)).set 37 (.int 0)).set 27 (.int 0)).set 31 (.int 0)).set 28 (.int 0)).set 32 (.int 0))))] H := hP
  have hD : va_D A [(h1, .inl (cI, 2001, .inl (upd g0 0 0))), (h2, .inl (cI, 2001, .inl (upd g1 0 0))), (h3, .inl (cI, 2001, .inl (upd g2 0 0))), (h4, .inl (cI, 2001, .inl (upd g3 0 0))), (h0, .inr (12, ((((((f0.set 36 (.int 0)).set 37 (.int 0)).set 27 (.int 0)).set 31 (.int 0)).set 28 (.int 0)).set 32 (.int 0))))] := hD
  refine lv_aload_n hx hb dX12_readText_241 rfl (lv_at hl 2 rfl) ?_
  refine lv_aload_n hx hb dX12_readText_242 rfl (lv_at hl 2 rfl) ?_
  refine k_get (D := D) (ci := 12) (v := .int 0) (N := 195) hx hb hts hin12 hown hK hP 4 rfl rfl (by decide) f9_12_37 (hts (.fieldLink RX12 627 "IntegerHouseModel" "knownClaims" "I") (o9_X12_readText _ (List.mem_of_getElem? (i := 3) rfl))) (k_ne (by decide) (k_ne (by decide) (k_ne (by decide) (k_ne (by decide) (k_set (k_ne (by decide) e3)))))) dX12_readText_243 ?_
  refine k_put (D := D) (ci := 12) (v := .int 0) (ty := .int) (N := 195) hx hb hts hin12 tyX12 tyX12_ok nmX12 hown hK hP hD hS 4 rfl rfl (by decide) f9_12_33 (hts (.fieldLink RX12 818 "IntegerHouseModel" "claims" "I") (o9_X12_readText _ (List.mem_of_getElem? (i := 2) rfl))) rfl pd_2 rfl rfl (k_len (k_ne (by decide) (k_ne (by decide) (k_ne (by decide) (k_ne (by decide) (k_ne (by decide) (k_ne (by decide) e2))))))) dX12_readText_246 (fun H locs hP hD hS => ?_)
  have hP : va_P D vwCl [(h1, .inl (cI, 2001, .inl (upd g0 0 0))), (h2, .inl (cI, 2001, .inl (upd g1 0 0))), (h3, .inl (cI, 2001, .inl (upd g2 0 0))), (h4, .inl (cI, 2001, .inl (upd g3 0 0))), (h0, .inr (12, (((((((f0.set 36 (.int 0)).set 37 (.int 0)).set 27 (.int 0)).set 31 (.int 0)).set 28 (.int 0)).set 32 (.int 0)).set 33 (.int 0))))] H := hP
  have hD : va_D A [(h1, .inl (cI, 2001, .inl (upd g0 0 0))), (h2, .inl (cI, 2001, .inl (upd g1 0 0))), (h3, .inl (cI, 2001, .inl (upd g2 0 0))), (h4, .inl (cI, 2001, .inl (upd g3 0 0))), (h0, .inr (12, (((((((f0.set 36 (.int 0)).set 37 (.int 0)).set 27 (.int 0)).set 31 (.int 0)).set 28 (.int 0)).set 32 (.int 0)).set 33 (.int 0))))] := hD
  refine lv_iload_n hx hb dX12_readText_249 rfl (lv_at hl 1 rfl) ?_
  have hP := hP.sub (ws' := [(h0, .inr (12, (((((((f0.set 36 (.int 0)).set 37 (.int 0)).set 27 (.int 0)).set 31 (.int 0)).set 28 (.int 0)).set 32 (.int 0)).set 33 (.int 0)))), (h1, .inl (cI, 2001, .inl (upd g0 0 0))), (h2, .inl (cI, 2001, .inl (upd g1 0 0))), (h3, .inl (cI, 2001, .inl (upd g2 0 0))), (h4, .inl (cI, 2001, .inl (upd g3 0 0)))]) [4, 0, 1, 2, 3] rfl
  have hD := hD.sub (ws' := [(h0, .inr (12, (((((((f0.set 36 (.int 0)).set 37 (.int 0)).set 27 (.int 0)).set 31 (.int 0)).set 28 (.int 0)).set 32 (.int 0)).set 33 (.int 0)))), (h1, .inl (cI, 2001, .inl (upd g0 0 0))), (h2, .inl (cI, 2001, .inl (upd g1 0 0))), (h3, .inl (cI, 2001, .inl (upd g2 0 0))), (h4, .inl (cI, 2001, .inl (upd g3 0 0)))]) [4, 0, 1, 2, 3] (by decide +kernel) rfl
  exact W.iret (v := 0) hx hb hr (fun t ht hW => ⟨⟨0, (), rfl, rfl, kB_mk ht hW hP hK hD⟩, hS.F ht⟩) hS.2.2 dX12_readText_250
set_option maxHeartbeats 400000000 in
set_option maxRecDepth 100000 in
theorem c_X12_act_0 (l : Launch) (E : kE) (D : va_G) (cI cJ cB cZ : ClassId) (h0 : Nat) (f0 : List Value) (h1 : Nat) (h2 : Nat) (h3 : Nat) (h4 : Nat) (g0 : Nat → Int32) (g1 : Nat → Int32) (g2 : Nat → Int32) (g3 : Nat → Int32) (e0 : f0[15]? = some (.int 1)) (e1 : f0[32]? = some (.int 0)) (e2 : f0[36]? = some (.int 0)) (e3 : f0[33]? = some (.int 0)) (e4 : f0[37]? = some (.int 0)) (e5 : f0[27]? = some (.int 0)) (e6 : f0[31]? = some (.int 0)) (e7 : f0[28]? = some (.int 0)) (e8 : f0[12]? = some (.int 0)) (e9 : f0[23]? = some (.ref h1)) (e10 : f0[24]? = some (.ref h2)) (e11 : f0[25]? = some (.ref h3)) (e12 : f0[26]? = some (.ref h4)) (e13 : f0[13]? = some (.int 0)) (e14 : f0[9]? = some (.int 0)) (e15 : f0[4]? = some (.int 0)) : kI l E D (kT cI cJ cB cZ) yX12_act vW_X12_act ({ frames := 3, cells := 0, slots := 0, locals := 70 }) [.ref h0] [(h0, .inr (12, f0)), (h1, .inl (cI, 2001, .inl g0)), (h2, .inl (cI, 2001, .inl g1)), (h3, .inl (cI, 2001, .inl g2)), (h4, .inl (cI, 2001, .inl g3))] (0) [(h0, .inr (12, (((((((f0.set 36 (.int 0)).set 37 (.int 0)).set 27 (.int 0)).set 31 (.int 0)).set 28 (.int 0)).set 32 (.int 0)).set 33 (.int 0)))), (h1, .inl (cI, 2001, .inl (upd g0 0 0))), (h2, .inl (cI, 2001, .inl (upd g1 0 0))), (h3, .inl (cI, 2001, .inl (upd g2 0 0))), (h4, .inl (cI, 2001, .inl (upd g3 0 0)))] 0 0 := by
  intro sz
  refine Met.ofW (cc := cX12_act) (maxL := 1) (ret := (some .int)) (by decide) rfl ?_
  intro p e s m args below meth c s₁ B hml hv
  obtain ⟨rfl, hsz, hP, hK, hD0, hN, hX⟩ := hv
  have hx := B.exec
  have hb := B.bytes
  have hr := B.returns
  have hts := atoms_spec (ws := vW_X12_act) B.pre
  have hown : s.vm.findClass RX12 = some m.cls := findClass_of_methodNamed B.named
  have hlocks := B.notSynchronized
  have hin12 : ∀ w ∈ wsX120, w ∈ vW_X12_act := u9_X12_act_wsX120
  subst hsz
  have hD := hD0.self (sz := s.heap.size)
  have hAE := k_AE hD0 hX
  generalize hAe : va_A [(h0, .inr (12, f0)), (h1, .inl (cI, 2001, .inl g0)), (h2, .inl (cI, 2001, .inl g1)), (h3, .inl (cI, 2001, .inl g2)), (h4, .inl (cI, 2001, .inl g3))] s.heap.size = A at hD hAE ⊢
  have hA : ∀ q : Nat, s.heap.size ≤ q → A q := fun q h => by rw [← hAe]; exact Or.inr h
  have hS : va_S A s.heap s.heap [] := va_S.rf
  have hP : va_P D vwCl [(h0, .inr (12, f0)), (h1, .inl (cI, 2001, .inl g0)), (h2, .inl (cI, 2001, .inl g1)), (h3, .inl (cI, 2001, .inl g2)), (h4, .inl (cI, 2001, .inl g3))] s.heap := hP
  have hl := lv_entry ([.ref h0] : List Value) (n := 1) (Nat.le_of_ble_eq_true rfl)
  rw [lg_entry_eq]
  generalize (lg_sl ([.ref h0]) ++ List.replicate (1 - (lg_sl ([.ref h0])).length) Slot.unset).toArray = ls at hl ⊢
  have hl : lv_has ls 1 [(0, .ref h0)] := hl
  refine lv_aload_n hx hb dX12_act_0 rfl (lv_at hl 0 rfl) ?_
  refine k_get (D := D) (ci := 12) (v := .int 1) (N := 195) hx hb hts hin12 hown hK hP 0 rfl rfl (by decide) f9_12_15 (hts (.fieldLink RX12 466 "IntegerHouseModel" "number" "I") (o9_X12_act _ (List.mem_of_getElem? (i := 0) rfl))) e0 dX12_act_1 ?_
  refine lv_tableIn (off := 28) (tgt := 32) hx hb dX12_act_4 (by decide) (by decide) rfl (by decide) ?_
  refine lv_aload_n hx hb dX12_act_32 rfl (lv_at hl 0 rfl) ?_
  refine k_cVi (As := []) (rest := []) (wc := [(h0, .inr (12, f0)), (h1, .inl (cI, 2001, .inl g0)), (h2, .inl (cI, 2001, .inl g1)), (h3, .inl (cI, 2001, .inl g2)), (h4, .inl (cI, 2001, .inl g3))]) (wr := []) (w1 := [(h0, .inr (12, (((((((f0.set 36 (.int 0)).set 37 (.int 0)).set 27 (.int 0)).set 31 (.int 0)).set 28 (.int 0)).set 32 (.int 0)).set 33 (.int 0)))), (h1, .inl (cI, 2001, .inl (upd g0 0 0))), (h2, .inl (cI, 2001, .inl (upd g1 0 0))), (h3, .inl (cI, 2001, .inl (upd g2 0 0))), (h4, .inl (cI, 2001, .inl (upd g3 0 0)))]) ⟨hx, hb, hml, hown, hts⟩ hN hX hAE hK hP hD hS hA [0, 1, 2, 3, 4] [] (ci := 12) rfl rfl rfl rfl (by decide +kernel) (by decide +kernel) (by decide +kernel) (c_X12_readText_0 l E D cI cJ cB cZ h0 f0 h1 h2 h3 h4 g0 g1 g2 g3 e1 e2 e3 e4 e5 e6 e7 e8 e9 e10 e11 e12 e0 e13 e14 e15) (cwV 0 hts g9_X12_act_X12_readText_824 rfl rfl rfl (by decide +kernel) ⟨Nat.le_of_ble_eq_true rfl, Nat.le_of_ble_eq_true rfl⟩) rfl hl.1 (Nat.le_of_ble_eq_true rfl) dX12_act_33 ⟨Nat.le_of_ble_eq_true rfl, Nat.le_of_ble_eq_true rfl⟩ (fun H locs hP hD hS => ?_)
  have hP : va_P D vwCl [(h0, .inr (12, (((((((f0.set 36 (.int 0)).set 37 (.int 0)).set 27 (.int 0)).set 31 (.int 0)).set 28 (.int 0)).set 32 (.int 0)).set 33 (.int 0)))), (h1, .inl (cI, 2001, .inl (upd g0 0 0))), (h2, .inl (cI, 2001, .inl (upd g1 0 0))), (h3, .inl (cI, 2001, .inl (upd g2 0 0))), (h4, .inl (cI, 2001, .inl (upd g3 0 0)))] H := hP
  have hD : va_D A [(h0, .inr (12, (((((((f0.set 36 (.int 0)).set 37 (.int 0)).set 27 (.int 0)).set 31 (.int 0)).set 28 (.int 0)).set 32 (.int 0)).set 33 (.int 0)))), (h1, .inl (cI, 2001, .inl (upd g0 0 0))), (h2, .inl (cI, 2001, .inl (upd g1 0 0))), (h3, .inl (cI, 2001, .inl (upd g2 0 0))), (h4, .inl (cI, 2001, .inl (upd g3 0 0)))] := hD
  exact W.iret (v := 0) hx hb hr (fun t ht hW => ⟨⟨0, (), rfl, rfl, kB_mk ht hW hP hK hD⟩, hS.F ht⟩) hS.2.2 dX12_act_36
set_option maxHeartbeats 400000000 in
set_option maxRecDepth 100000 in
theorem c_X12_note_0 (l : Launch) (E : kE) (D : va_G) (cI cJ cB cZ : ClassId) (h0 : Nat) (f0 : List Value) (h1 : Nat) (g0 : Nat → Int32) (e0 : f0[8]? = some (.ref h1)) (e1 : f0[9]? = some (.int 0)) : kV l E D (kT cI cJ cB cZ) yX12_note vW_X12_note ({ frames := 0, cells := 0, slots := 0, locals := 0 }) [.ref h0, .int 1] [(h0, .inr (12, f0)), (h1, .inl (cB, 24800, .inl g0))] (fun _ : Unit => [(h0, .inr (12, (f0.set 9 (.int 1)))), (h1, .inl (cB, 24800, .inl (upd g0 0 1)))]) 0 0 := by
  intro sz
  refine Met.ofW (cc := cX12_note) (maxL := 2) (ret := none) (by decide) rfl ?_
  intro p e s m args below meth c s₁ B hml hv
  obtain ⟨rfl, hsz, hP, hK, hD0, hN, hX⟩ := hv
  have hx := B.exec
  have hb := B.bytes
  have hr := B.returns
  have hts := atoms_spec (ws := vW_X12_note) B.pre
  have hown : s.vm.findClass RX12 = some m.cls := findClass_of_methodNamed B.named
  have hlocks := B.notSynchronized
  have hin12 : ∀ w ∈ wsX120, w ∈ vW_X12_note := u9_X12_note_wsX120
  subst hsz
  have hD := hD0.self (sz := s.heap.size)
  have hAE := k_AE hD0 hX
  generalize hAe : va_A [(h0, .inr (12, f0)), (h1, .inl (cB, 24800, .inl g0))] s.heap.size = A at hD hAE ⊢
  have hA : ∀ q : Nat, s.heap.size ≤ q → A q := fun q h => by rw [← hAe]; exact Or.inr h
  have hS : va_S A s.heap s.heap [] := va_S.rf
  have hP : va_P D vwCl [(h0, .inr (12, f0)), (h1, .inl (cB, 24800, .inl g0))] s.heap := hP
  have hl := lv_entry ([.ref h0, .int 1] : List Value) (n := 2) (Nat.le_of_ble_eq_true rfl)
  rw [lg_entry_eq]
  generalize (lg_sl ([.ref h0, .int 1]) ++ List.replicate (2 - (lg_sl ([.ref h0, .int 1])).length) Slot.unset).toArray = ls at hl ⊢
  have hl : lv_has ls 2 [(0, .ref h0), (1, .int 1)] := hl
  refine lv_aload_n hx hb dX12_note_0 rfl (lv_at hl 0 rfl) ?_
  refine k_get (D := D) (ci := 12) (v := .ref h1) (N := 195) hx hb hts hin12 hown hK hP 0 rfl rfl (by decide) f9_12_8 (hts (.fieldLink RX12 25 "IntegerHouseModel" "waits" "[B") (o9_X12_note _ (List.mem_of_getElem? (i := 0) rfl))) e0 dX12_note_1 ?_
  refine lv_aload_n hx hb dX12_note_4 rfl (lv_at hl 0 rfl) ?_
  refine k_get (D := D) (ci := 12) (v := .int 0) (N := 195) hx hb hts hin12 hown hK hP 0 rfl rfl (by decide) f9_12_9 (hts (.fieldLink RX12 475 "IntegerHouseModel" "waitBytes" "I") (o9_X12_note _ (List.mem_of_getElem? (i := 1) rfl))) e1 dX12_note_5 ?_
  refine lv_iload_n hx hb dX12_note_8 rfl (lv_at hl 1 rfl) ?_
  refine lv_i2b (v := 1) hx hb dX12_note_9 (by decide) ?_
  refine va_bast hx hb hK hP hD hS 1 2 rfl rfl (k_in (by decide)) dX12_note_10 (fun H locs hP hD hS => ?_)
  have hP : va_P D vwCl [(h0, .inr (12, f0)), (h1, .inl (cB, 24800, .inl (upd g0 0 1)))] H := hP
  have hD : va_D A [(h0, .inr (12, f0)), (h1, .inl (cB, 24800, .inl (upd g0 0 1)))] := hD
  refine lv_aload_n hx hb dX12_note_11 rfl (lv_at hl 0 rfl) ?_
  refine lv_dup hx hb dX12_note_12 rfl ?_
  refine k_get (D := D) (ci := 12) (v := .int 0) (N := 195) hx hb hts hin12 hown hK hP 0 rfl rfl (by decide) f9_12_9 (hts (.fieldLink RX12 475 "IntegerHouseModel" "waitBytes" "I") (o9_X12_note _ (List.mem_of_getElem? (i := 1) rfl))) e1 dX12_note_13 ?_
  refine lv_iconst (v := 1) hx hb dX12_note_16 (by decide) ?_
  refine lv_iadd hx hb dX12_note_17 ?_
  refine k_topi (y := 1) (by decide) ?_
  refine k_put (D := D) (ci := 12) (v := .int 1) (ty := .int) (N := 195) hx hb hts hin12 tyX12 tyX12_ok nmX12 hown hK hP hD hS 0 rfl rfl (by decide) f9_12_9 (hts (.fieldLink RX12 475 "IntegerHouseModel" "waitBytes" "I") (o9_X12_note _ (List.mem_of_getElem? (i := 1) rfl))) rfl pd_2 rfl rfl (k_len e1) dX12_note_18 (fun H locs hP hD hS => ?_)
  have hP : va_P D vwCl [(h0, .inr (12, (f0.set 9 (.int 1)))), (h1, .inl (cB, 24800, .inl (upd g0 0 1)))] H := hP
  have hD : va_D A [(h0, .inr (12, (f0.set 9 (.int 1)))), (h1, .inl (cB, 24800, .inl (upd g0 0 1)))] := hD
  exact W.vret hx hb hr (fun t ht hW => ⟨⟨(), rfl, trivial, kB_mk ht hW hP hK hD⟩, hS.F ht⟩) hS.2.2 dX12_note_21
set_option maxHeartbeats 400000000 in
set_option maxRecDepth 100000 in
theorem c_X12_note_1 (l : Launch) (E : kE) (D : va_G) (cI cJ cB cZ : ClassId) (h0 : Nat) (f0 : List Value) (h1 : Nat) (g0 : Nat → Int32) (e0 : f0[8]? = some (.ref h1)) (e1 : f0[9]? = some (.int 1)) : kV l E D (kT cI cJ cB cZ) yX12_note vW_X12_note ({ frames := 0, cells := 0, slots := 0, locals := 0 }) [.ref h0, .int 0] [(h0, .inr (12, f0)), (h1, .inl (cB, 24800, .inl g0))] (fun _ : Unit => [(h0, .inr (12, (f0.set 9 (.int 2)))), (h1, .inl (cB, 24800, .inl (upd g0 1 0)))]) 0 0 := by
  intro sz
  refine Met.ofW (cc := cX12_note) (maxL := 2) (ret := none) (by decide) rfl ?_
  intro p e s m args below meth c s₁ B hml hv
  obtain ⟨rfl, hsz, hP, hK, hD0, hN, hX⟩ := hv
  have hx := B.exec
  have hb := B.bytes
  have hr := B.returns
  have hts := atoms_spec (ws := vW_X12_note) B.pre
  have hown : s.vm.findClass RX12 = some m.cls := findClass_of_methodNamed B.named
  have hlocks := B.notSynchronized
  have hin12 : ∀ w ∈ wsX120, w ∈ vW_X12_note := u9_X12_note_wsX120
  subst hsz
  have hD := hD0.self (sz := s.heap.size)
  have hAE := k_AE hD0 hX
  generalize hAe : va_A [(h0, .inr (12, f0)), (h1, .inl (cB, 24800, .inl g0))] s.heap.size = A at hD hAE ⊢
  have hA : ∀ q : Nat, s.heap.size ≤ q → A q := fun q h => by rw [← hAe]; exact Or.inr h
  have hS : va_S A s.heap s.heap [] := va_S.rf
  have hP : va_P D vwCl [(h0, .inr (12, f0)), (h1, .inl (cB, 24800, .inl g0))] s.heap := hP
  have hl := lv_entry ([.ref h0, .int 0] : List Value) (n := 2) (Nat.le_of_ble_eq_true rfl)
  rw [lg_entry_eq]
  generalize (lg_sl ([.ref h0, .int 0]) ++ List.replicate (2 - (lg_sl ([.ref h0, .int 0])).length) Slot.unset).toArray = ls at hl ⊢
  have hl : lv_has ls 2 [(0, .ref h0), (1, .int 0)] := hl
  refine lv_aload_n hx hb dX12_note_0 rfl (lv_at hl 0 rfl) ?_
  refine k_get (D := D) (ci := 12) (v := .ref h1) (N := 195) hx hb hts hin12 hown hK hP 0 rfl rfl (by decide) f9_12_8 (hts (.fieldLink RX12 25 "IntegerHouseModel" "waits" "[B") (o9_X12_note _ (List.mem_of_getElem? (i := 0) rfl))) e0 dX12_note_1 ?_
  refine lv_aload_n hx hb dX12_note_4 rfl (lv_at hl 0 rfl) ?_
  refine k_get (D := D) (ci := 12) (v := .int 1) (N := 195) hx hb hts hin12 hown hK hP 0 rfl rfl (by decide) f9_12_9 (hts (.fieldLink RX12 475 "IntegerHouseModel" "waitBytes" "I") (o9_X12_note _ (List.mem_of_getElem? (i := 1) rfl))) e1 dX12_note_5 ?_
  refine lv_iload_n hx hb dX12_note_8 rfl (lv_at hl 1 rfl) ?_
  refine lv_i2b (v := 0) hx hb dX12_note_9 (by decide) ?_
  refine va_bast hx hb hK hP hD hS 1 2 rfl rfl (k_in (by decide)) dX12_note_10 (fun H locs hP hD hS => ?_)
  have hP : va_P D vwCl [(h0, .inr (12, f0)), (h1, .inl (cB, 24800, .inl (upd g0 1 0)))] H := hP
  have hD : va_D A [(h0, .inr (12, f0)), (h1, .inl (cB, 24800, .inl (upd g0 1 0)))] := hD
  refine lv_aload_n hx hb dX12_note_11 rfl (lv_at hl 0 rfl) ?_
  refine lv_dup hx hb dX12_note_12 rfl ?_
  refine k_get (D := D) (ci := 12) (v := .int 1) (N := 195) hx hb hts hin12 hown hK hP 0 rfl rfl (by decide) f9_12_9 (hts (.fieldLink RX12 475 "IntegerHouseModel" "waitBytes" "I") (o9_X12_note _ (List.mem_of_getElem? (i := 1) rfl))) e1 dX12_note_13 ?_
  refine lv_iconst (v := 1) hx hb dX12_note_16 (by decide) ?_
  refine lv_iadd hx hb dX12_note_17 ?_
  refine k_topi (y := 2) (by decide) ?_
  refine k_put (D := D) (ci := 12) (v := .int 2) (ty := .int) (N := 195) hx hb hts hin12 tyX12 tyX12_ok nmX12 hown hK hP hD hS 0 rfl rfl (by decide) f9_12_9 (hts (.fieldLink RX12 475 "IntegerHouseModel" "waitBytes" "I") (o9_X12_note _ (List.mem_of_getElem? (i := 1) rfl))) rfl pd_2 rfl rfl (k_len e1) dX12_note_18 (fun H locs hP hD hS => ?_)
  have hP : va_P D vwCl [(h0, .inr (12, (f0.set 9 (.int 2)))), (h1, .inl (cB, 24800, .inl (upd g0 1 0)))] H := hP
  have hD : va_D A [(h0, .inr (12, (f0.set 9 (.int 2)))), (h1, .inl (cB, 24800, .inl (upd g0 1 0)))] := hD
  exact W.vret hx hb hr (fun t ht hW => ⟨⟨(), rfl, trivial, kB_mk ht hW hP hK hD⟩, hS.F ht⟩) hS.2.2 dX12_note_21
set_option maxHeartbeats 400000000 in
set_option maxRecDepth 100000 in
theorem c_X12_note_2 (l : Launch) (E : kE) (D : va_G) (cI cJ cB cZ : ClassId) (h0 : Nat) (f0 : List Value) (h1 : Nat) (g0 : Nat → Int32) (e0 : f0[8]? = some (.ref h1)) (e1 : f0[9]? = some (.int 2)) : kV l E D (kT cI cJ cB cZ) yX12_note vW_X12_note ({ frames := 0, cells := 0, slots := 0, locals := 0 }) [.ref h0, .int 0] [(h0, .inr (12, f0)), (h1, .inl (cB, 24800, .inl g0))] (fun _ : Unit => [(h0, .inr (12, (f0.set 9 (.int 3)))), (h1, .inl (cB, 24800, .inl (upd g0 2 0)))]) 0 0 := by
  intro sz
  refine Met.ofW (cc := cX12_note) (maxL := 2) (ret := none) (by decide) rfl ?_
  intro p e s m args below meth c s₁ B hml hv
  obtain ⟨rfl, hsz, hP, hK, hD0, hN, hX⟩ := hv
  have hx := B.exec
  have hb := B.bytes
  have hr := B.returns
  have hts := atoms_spec (ws := vW_X12_note) B.pre
  have hown : s.vm.findClass RX12 = some m.cls := findClass_of_methodNamed B.named
  have hlocks := B.notSynchronized
  have hin12 : ∀ w ∈ wsX120, w ∈ vW_X12_note := u9_X12_note_wsX120
  subst hsz
  have hD := hD0.self (sz := s.heap.size)
  have hAE := k_AE hD0 hX
  generalize hAe : va_A [(h0, .inr (12, f0)), (h1, .inl (cB, 24800, .inl g0))] s.heap.size = A at hD hAE ⊢
  have hA : ∀ q : Nat, s.heap.size ≤ q → A q := fun q h => by rw [← hAe]; exact Or.inr h
  have hS : va_S A s.heap s.heap [] := va_S.rf
  have hP : va_P D vwCl [(h0, .inr (12, f0)), (h1, .inl (cB, 24800, .inl g0))] s.heap := hP
  have hl := lv_entry ([.ref h0, .int 0] : List Value) (n := 2) (Nat.le_of_ble_eq_true rfl)
  rw [lg_entry_eq]
  generalize (lg_sl ([.ref h0, .int 0]) ++ List.replicate (2 - (lg_sl ([.ref h0, .int 0])).length) Slot.unset).toArray = ls at hl ⊢
  have hl : lv_has ls 2 [(0, .ref h0), (1, .int 0)] := hl
  refine lv_aload_n hx hb dX12_note_0 rfl (lv_at hl 0 rfl) ?_
  refine k_get (D := D) (ci := 12) (v := .ref h1) (N := 195) hx hb hts hin12 hown hK hP 0 rfl rfl (by decide) f9_12_8 (hts (.fieldLink RX12 25 "IntegerHouseModel" "waits" "[B") (o9_X12_note _ (List.mem_of_getElem? (i := 0) rfl))) e0 dX12_note_1 ?_
  refine lv_aload_n hx hb dX12_note_4 rfl (lv_at hl 0 rfl) ?_
  refine k_get (D := D) (ci := 12) (v := .int 2) (N := 195) hx hb hts hin12 hown hK hP 0 rfl rfl (by decide) f9_12_9 (hts (.fieldLink RX12 475 "IntegerHouseModel" "waitBytes" "I") (o9_X12_note _ (List.mem_of_getElem? (i := 1) rfl))) e1 dX12_note_5 ?_
  refine lv_iload_n hx hb dX12_note_8 rfl (lv_at hl 1 rfl) ?_
  refine lv_i2b (v := 0) hx hb dX12_note_9 (by decide) ?_
  refine va_bast hx hb hK hP hD hS 1 2 rfl rfl (k_in (by decide)) dX12_note_10 (fun H locs hP hD hS => ?_)
  have hP : va_P D vwCl [(h0, .inr (12, f0)), (h1, .inl (cB, 24800, .inl (upd g0 2 0)))] H := hP
  have hD : va_D A [(h0, .inr (12, f0)), (h1, .inl (cB, 24800, .inl (upd g0 2 0)))] := hD
  refine lv_aload_n hx hb dX12_note_11 rfl (lv_at hl 0 rfl) ?_
  refine lv_dup hx hb dX12_note_12 rfl ?_
  refine k_get (D := D) (ci := 12) (v := .int 2) (N := 195) hx hb hts hin12 hown hK hP 0 rfl rfl (by decide) f9_12_9 (hts (.fieldLink RX12 475 "IntegerHouseModel" "waitBytes" "I") (o9_X12_note _ (List.mem_of_getElem? (i := 1) rfl))) e1 dX12_note_13 ?_
  refine lv_iconst (v := 1) hx hb dX12_note_16 (by decide) ?_
  refine lv_iadd hx hb dX12_note_17 ?_
  refine k_topi (y := 3) (by decide) ?_
  refine k_put (D := D) (ci := 12) (v := .int 3) (ty := .int) (N := 195) hx hb hts hin12 tyX12 tyX12_ok nmX12 hown hK hP hD hS 0 rfl rfl (by decide) f9_12_9 (hts (.fieldLink RX12 475 "IntegerHouseModel" "waitBytes" "I") (o9_X12_note _ (List.mem_of_getElem? (i := 1) rfl))) rfl pd_2 rfl rfl (k_len e1) dX12_note_18 (fun H locs hP hD hS => ?_)
  have hP : va_P D vwCl [(h0, .inr (12, (f0.set 9 (.int 3)))), (h1, .inl (cB, 24800, .inl (upd g0 2 0)))] H := hP
  have hD : va_D A [(h0, .inr (12, (f0.set 9 (.int 3)))), (h1, .inl (cB, 24800, .inl (upd g0 2 0)))] := hD
  exact W.vret hx hb hr (fun t ht hW => ⟨⟨(), rfl, trivial, kB_mk ht hW hP hK hD⟩, hS.F ht⟩) hS.2.2 dX12_note_21
set_option maxHeartbeats 400000000 in
set_option maxRecDepth 100000 in
theorem c_X12_call_0 (l : Launch) (E : kE) (D : va_G) (cI cJ cB cZ : ClassId) (h0 : Nat) (f0 : List Value) (h1 : Nat) (h2 : Nat) (h3 : Nat) (h4 : Nat) (g0 : Nat → Int32) (g1 : Nat → Int32) (g2 : Nat → Int32) (g3 : Nat → Int32) (h5 : Nat) (g4 : Nat → Int32) (e0 : f0[0]? = some (.int 0)) (e1 : f0[5]? = some (.int 0)) (e2 : f0[15]? = some (.int 0)) (e3 : f0[13]? = some (.int 0)) (e4 : f0[14]? = some (.int 0)) (e5 : f0[2]? = some (.int 0)) (e6 : f0[12]? = some (.int 0)) (e7 : f0[32]? = some (.int 0)) (e8 : f0[36]? = some (.int 0)) (e9 : f0[33]? = some (.int 0)) (e10 : f0[37]? = some (.int 0)) (e11 : f0[27]? = some (.int 0)) (e12 : f0[31]? = some (.int 0)) (e13 : f0[28]? = some (.int 0)) (e14 : f0[23]? = some (.ref h1)) (e15 : f0[24]? = some (.ref h2)) (e16 : f0[25]? = some (.ref h3)) (e17 : f0[26]? = some (.ref h4)) (e18 : f0[9]? = some (.int 0)) (e19 : f0[4]? = some (.int 0)) (e20 : f0[16]? = some (.int 0)) (e21 : f0[8]? = some (.ref h5)) : kI l E D (kT cI cJ cB cZ) yX12_call vW_X12_call ({ frames := 4, cells := 0, slots := 0, locals := 90 }) [.ref h0, .int 1] [(h0, .inr (12, f0)), (h1, .inl (cI, 2001, .inl g0)), (h2, .inl (cI, 2001, .inl g1)), (h3, .inl (cI, 2001, .inl g2)), (h4, .inl (cI, 2001, .inl g3)), (h5, .inl (cB, 24800, .inl g4))] (0) [(h0, .inr (12, (((((((((((((((((f0.set 0 (.int 0)).set 15 (.int 1)).set 13 (.int 0)).set 14 (.int 0)).set 12 (.int 0)).set 2 (.int 0)).set 36 (.int 0)).set 37 (.int 0)).set 27 (.int 0)).set 31 (.int 0)).set 28 (.int 0)).set 32 (.int 0)).set 33 (.int 0)).set 16 (.int 1)).set 9 (.int 1)).set 9 (.int 2)).set 9 (.int 3)))), (h1, .inl (cI, 2001, .inl (upd g0 0 0))), (h2, .inl (cI, 2001, .inl (upd g1 0 0))), (h3, .inl (cI, 2001, .inl (upd g2 0 0))), (h4, .inl (cI, 2001, .inl (upd g3 0 0))), (h5, .inl (cB, 24800, .inl (upd (upd (upd g4 0 1) 1 0) 2 0)))] 0 0 := by
  intro sz
  refine Met.ofW (cc := cX12_call) (maxL := 4) (ret := (some .int)) (by decide) rfl ?_
  intro p e s m args below meth c s₁ B hml hv
  obtain ⟨rfl, hsz, hP, hK, hD0, hN, hX⟩ := hv
  have hx := B.exec
  have hb := B.bytes
  have hr := B.returns
  have hts := atoms_spec (ws := vW_X12_call) B.pre
  have hown : s.vm.findClass RX12 = some m.cls := findClass_of_methodNamed B.named
  have hlocks := B.notSynchronized
  have hin12 : ∀ w ∈ wsX120, w ∈ vW_X12_call := u9_X12_call_wsX120
  subst hsz
  have hD := hD0.self (sz := s.heap.size)
  have hAE := k_AE hD0 hX
  generalize hAe : va_A [(h0, .inr (12, f0)), (h1, .inl (cI, 2001, .inl g0)), (h2, .inl (cI, 2001, .inl g1)), (h3, .inl (cI, 2001, .inl g2)), (h4, .inl (cI, 2001, .inl g3)), (h5, .inl (cB, 24800, .inl g4))] s.heap.size = A at hD hAE ⊢
  have hA : ∀ q : Nat, s.heap.size ≤ q → A q := fun q h => by rw [← hAe]; exact Or.inr h
  have hS : va_S A s.heap s.heap [] := va_S.rf
  have hP : va_P D vwCl [(h0, .inr (12, f0)), (h1, .inl (cI, 2001, .inl g0)), (h2, .inl (cI, 2001, .inl g1)), (h3, .inl (cI, 2001, .inl g2)), (h4, .inl (cI, 2001, .inl g3)), (h5, .inl (cB, 24800, .inl g4))] s.heap := hP
  have hl := lv_entry ([.ref h0, .int 1] : List Value) (n := 4) (Nat.le_of_ble_eq_true rfl)
  rw [lg_entry_eq]
  generalize (lg_sl ([.ref h0, .int 1]) ++ List.replicate (4 - (lg_sl ([.ref h0, .int 1])).length) Slot.unset).toArray = ls at hl ⊢
  have hl : lv_has ls 4 [(0, .ref h0), (1, .int 1)] := hl
  refine lv_aload_n hx hb dX12_call_0 rfl (lv_at hl 0 rfl) ?_
  refine lv_iconst (v := 0) hx hb dX12_call_1 (by decide) ?_
  refine k_put (D := D) (ci := 12) (v := .int 0) (ty := .int) (N := 195) hx hb hts hin12 tyX12 tyX12_ok nmX12 hown hK hP hD hS 0 rfl rfl (by decide) f9_12_0 (hts (.fieldLink RX12 3 "IntegerHouseModel" "thrown" "I") (o9_X12_call _ (List.mem_of_getElem? (i := 0) rfl))) rfl pd_2 rfl rfl (k_len e0) dX12_call_2 (fun H locs hP hD hS => ?_)
  have hP : va_P D vwCl [(h0, .inr (12, (f0.set 0 (.int 0)))), (h1, .inl (cI, 2001, .inl g0)), (h2, .inl (cI, 2001, .inl g1)), (h3, .inl (cI, 2001, .inl g2)), (h4, .inl (cI, 2001, .inl g3)), (h5, .inl (cB, 24800, .inl g4))] H := hP
  have hD : va_D A [(h0, .inr (12, (f0.set 0 (.int 0)))), (h1, .inl (cI, 2001, .inl g0)), (h2, .inl (cI, 2001, .inl g1)), (h3, .inl (cI, 2001, .inl g2)), (h4, .inl (cI, 2001, .inl g3)), (h5, .inl (cB, 24800, .inl g4))] := hD
  refine lv_aload_n hx hb dX12_call_5 rfl (lv_at hl 0 rfl) ?_
  refine k_get (D := D) (ci := 12) (v := .int 0) (N := 195) hx hb hts hin12 hown hK hP 0 rfl rfl (by decide) f9_12_5 (hts (.fieldLink RX12 488 "IntegerHouseModel" "down" "Z") (o9_X12_call _ (List.mem_of_getElem? (i := 1) rfl))) (k_ne (by decide) e1) dX12_call_6 ?_
  refine lv_if_eq (tgt := 15) hx hb dX12_call_9 (by decide) (fun _ => ?_) (fun c9 => absurd (by decide) c9)
  refine lv_aload_n hx hb dX12_call_15 rfl (lv_at hl 0 rfl) ?_
  refine lv_iload_n hx hb dX12_call_16 rfl (lv_at hl 1 rfl) ?_
  refine k_put (D := D) (ci := 12) (v := .int 1) (ty := .int) (N := 195) hx hb hts hin12 tyX12 tyX12_ok nmX12 hown hK hP hD hS 0 rfl rfl (by decide) f9_12_15 (hts (.fieldLink RX12 466 "IntegerHouseModel" "number" "I") (o9_X12_call _ (List.mem_of_getElem? (i := 2) rfl))) rfl pd_2 rfl rfl (k_len (k_ne (by decide) e2)) dX12_call_17 (fun H locs hP hD hS => ?_)
  have hP : va_P D vwCl [(h0, .inr (12, ((f0.set 0 (.int 0)).set 15 (.int 1)))), (h1, .inl (cI, 2001, .inl g0)), (h2, .inl (cI, 2001, .inl g1)), (h3, .inl (cI, 2001, .inl g2)), (h4, .inl (cI, 2001, .inl g3)), (h5, .inl (cB, 24800, .inl g4))] H := hP
  have hD : va_D A [(h0, .inr (12, ((f0.set 0 (.int 0)).set 15 (.int 1)))), (h1, .inl (cI, 2001, .inl g0)), (h2, .inl (cI, 2001, .inl g1)), (h3, .inl (cI, 2001, .inl g2)), (h4, .inl (cI, 2001, .inl g3)), (h5, .inl (cB, 24800, .inl g4))] := hD
  refine lv_aload_n hx hb dX12_call_20 rfl (lv_at hl 0 rfl) ?_
  refine lv_iconst (v := 0) hx hb dX12_call_21 (by decide) ?_
  refine k_put (D := D) (ci := 12) (v := .int 0) (ty := .boolean) (N := 195) hx hb hts hin12 tyX12 tyX12_ok nmX12 hown hK hP hD hS 0 rfl rfl (by decide) f9_12_13 (hts (.fieldLink RX12 472 "IntegerHouseModel" "replay" "Z") (o9_X12_call _ (List.mem_of_getElem? (i := 3) rfl))) rfl pd_18 rfl rfl (k_len (k_ne (by decide) (k_ne (by decide) e3))) dX12_call_22 (fun H locs hP hD hS => ?_)
  have hP : va_P D vwCl [(h0, .inr (12, (((f0.set 0 (.int 0)).set 15 (.int 1)).set 13 (.int 0)))), (h1, .inl (cI, 2001, .inl g0)), (h2, .inl (cI, 2001, .inl g1)), (h3, .inl (cI, 2001, .inl g2)), (h4, .inl (cI, 2001, .inl g3)), (h5, .inl (cB, 24800, .inl g4))] H := hP
  have hD : va_D A [(h0, .inr (12, (((f0.set 0 (.int 0)).set 15 (.int 1)).set 13 (.int 0)))), (h1, .inl (cI, 2001, .inl g0)), (h2, .inl (cI, 2001, .inl g1)), (h3, .inl (cI, 2001, .inl g2)), (h4, .inl (cI, 2001, .inl g3)), (h5, .inl (cB, 24800, .inl g4))] := hD
  refine lv_aload_n hx hb dX12_call_25 rfl (lv_at hl 0 rfl) ?_
  refine lv_iconst (v := 0) hx hb dX12_call_26 (by decide) ?_
  refine k_put (D := D) (ci := 12) (v := .int 0) (ty := .boolean) (N := 195) hx hb hts hin12 tyX12 tyX12_ok nmX12 hown hK hP hD hS 0 rfl rfl (by decide) f9_12_14 (hts (.fieldLink RX12 462 "IntegerHouseModel" "refused" "Z") (o9_X12_call _ (List.mem_of_getElem? (i := 4) rfl))) rfl pd_18 rfl rfl (k_len (k_ne (by decide) (k_ne (by decide) (k_ne (by decide) e4)))) dX12_call_27 (fun H locs hP hD hS => ?_)
  have hP : va_P D vwCl [(h0, .inr (12, ((((f0.set 0 (.int 0)).set 15 (.int 1)).set 13 (.int 0)).set 14 (.int 0)))), (h1, .inl (cI, 2001, .inl g0)), (h2, .inl (cI, 2001, .inl g1)), (h3, .inl (cI, 2001, .inl g2)), (h4, .inl (cI, 2001, .inl g3)), (h5, .inl (cB, 24800, .inl g4))] H := hP
  have hD : va_D A [(h0, .inr (12, ((((f0.set 0 (.int 0)).set 15 (.int 1)).set 13 (.int 0)).set 14 (.int 0)))), (h1, .inl (cI, 2001, .inl g0)), (h2, .inl (cI, 2001, .inl g1)), (h3, .inl (cI, 2001, .inl g2)), (h4, .inl (cI, 2001, .inl g3)), (h5, .inl (cB, 24800, .inl g4))] := hD
  refine lv_iload_n hx hb dX12_call_30 rfl (lv_at hl 1 rfl) ?_
  refine lv_iconst (v := 1) hx hb dX12_call_31 (by decide) ?_
  refine lv_icmp_ne (tgt := 39) hx hb dX12_call_32 (by decide) (fun c9 => absurd (by decide) c9) (fun _ => ?_)
  refine lv_aload_n hx hb dX12_call_35 rfl (lv_at hl 0 rfl) ?_
  refine k_cVv (As := []) (rest := []) (wc := [(h0, .inr (12, ((((f0.set 0 (.int 0)).set 15 (.int 1)).set 13 (.int 0)).set 14 (.int 0))))]) (wr := [(h1, .inl (cI, 2001, .inl g0)), (h2, .inl (cI, 2001, .inl g1)), (h3, .inl (cI, 2001, .inl g2)), (h4, .inl (cI, 2001, .inl g3)), (h5, .inl (cB, 24800, .inl g4))]) (w1 := (fun _ : Unit => [(h0, .inr (12, ((((((f0.set 0 (.int 0)).set 15 (.int 1)).set 13 (.int 0)).set 14 (.int 0)).set 12 (.int 0)).set 2 (.int 0))))])) ⟨hx, hb, hml, hown, hts⟩ hN hX hAE hK hP hD hS hA [0] [1, 2, 3, 4, 5] (ci := 12) rfl rfl rfl rfl (by decide +kernel) (by decide +kernel) (by decide +kernel) (c_X12_takeTape_0 l E D cI cJ cB cZ h0 (((((f0.set 0 (.int 0)).set 15 (.int 1)).set 13 (.int 0)).set 14 (.int 0))) (k_ne (by decide) (k_ne (by decide) (k_ne (by decide) (k_ne (by decide) e5)))) (k_ne (by decide) (k_ne (by decide) (k_ne (by decide) (k_ne (by decide) e6))))) (cwV 0 hts g9_X12_call_X12_takeTape_491 rfl rfl rfl (by decide +kernel) ⟨Nat.le_of_ble_eq_true rfl, Nat.le_of_ble_eq_true rfl⟩) rfl hl.1 (Nat.le_of_ble_eq_true rfl) dX12_call_36 ⟨Nat.le_of_ble_eq_true rfl, Nat.le_of_ble_eq_true rfl⟩ (fun _ H locs hP hD hS => ?_)
  have hP : va_P D vwCl [(h1, .inl (cI, 2001, .inl g0)), (h2, .inl (cI, 2001, .inl g1)), (h3, .inl (cI, 2001, .inl g2)), (h4, .inl (cI, 2001, .inl g3)), (h5, .inl (cB, 24800, .inl g4)), (h0, .inr (12, ((((((f0.set 0 (.int 0)).set 15 (.int 1)).set 13 (.int 0)).set 14 (.int 0)).set 12 (.int 0)).set 2 (.int 0))))] H := hP
  have hD : va_D A [(h1, .inl (cI, 2001, .inl g0)), (h2, .inl (cI, 2001, .inl g1)), (h3, .inl (cI, 2001, .inl g2)), (h4, .inl (cI, 2001, .inl g3)), (h5, .inl (cB, 24800, .inl g4)), (h0, .inr (12, ((((((f0.set 0 (.int 0)).set 15 (.int 1)).set 13 (.int 0)).set 14 (.int 0)).set 12 (.int 0)).set 2 (.int 0))))] := hD
  refine lv_aload_n hx hb dX12_call_39 rfl (lv_at hl 0 rfl) ?_
  refine k_cVi (As := []) (rest := []) (wc := [(h0, .inr (12, ((((((f0.set 0 (.int 0)).set 15 (.int 1)).set 13 (.int 0)).set 14 (.int 0)).set 12 (.int 0)).set 2 (.int 0)))), (h1, .inl (cI, 2001, .inl g0)), (h2, .inl (cI, 2001, .inl g1)), (h3, .inl (cI, 2001, .inl g2)), (h4, .inl (cI, 2001, .inl g3))]) (wr := [(h5, .inl (cB, 24800, .inl g4))]) (w1 := [(h0, .inr (12, (((((((((((((f0.set 0 (.int 0)).set 15 (.int 1)).set 13 (.int 0)).set 14 (.int 0)).set 12 (.int 0)).set 2 (.int 0)).set 36 (.int 0)).set 37 (.int 0)).set 27 (.int 0)).set 31 (.int 0)).set 28 (.int 0)).set 32 (.int 0)).set 33 (.int 0)))), (h1, .inl (cI, 2001, .inl (upd g0 0 0))), (h2, .inl (cI, 2001, .inl (upd g1 0 0))), (h3, .inl (cI, 2001, .inl (upd g2 0 0))), (h4, .inl (cI, 2001, .inl (upd g3 0 0)))]) ⟨hx, hb, hml, hown, hts⟩ hN hX hAE hK hP hD hS hA [5, 0, 1, 2, 3] [4] (ci := 12) rfl rfl rfl rfl (by decide +kernel) (by decide +kernel) (by decide +kernel) (c_X12_act_0 l E D cI cJ cB cZ h0 (((((((f0.set 0 (.int 0)).set 15 (.int 1)).set 13 (.int 0)).set 14 (.int 0)).set 12 (.int 0)).set 2 (.int 0))) h1 h2 h3 h4 g0 g1 g2 g3 (k_ne (by decide) (k_ne (by decide) (k_ne (by decide) (k_ne (by decide) (k_set (k_ne (by decide) e2)))))) (k_ne (by decide) (k_ne (by decide) (k_ne (by decide) (k_ne (by decide) (k_ne (by decide) (k_ne (by decide) e7)))))) (k_ne (by decide) (k_ne (by decide) (k_ne (by decide) (k_ne (by decide) (k_ne (by decide) (k_ne (by decide) e8)))))) (k_ne (by decide) (k_ne (by decide) (k_ne (by decide) (k_ne (by decide) (k_ne (by decide) (k_ne (by decide) e9)))))) (k_ne (by decide) (k_ne (by decide) (k_ne (by decide) (k_ne (by decide) (k_ne (by decide) (k_ne (by decide) e10)))))) (k_ne (by decide) (k_ne (by decide) (k_ne (by decide) (k_ne (by decide) (k_ne (by decide) (k_ne (by decide) e11)))))) (k_ne (by decide) (k_ne (by decide) (k_ne (by decide) (k_ne (by decide) (k_ne (by decide) (k_ne (by decide) e12)))))) (k_ne (by decide) (k_ne (by decide) (k_ne (by decide) (k_ne (by decide) (k_ne (by decide) (k_ne (by decide) e13)))))) (k_ne (by decide) (k_set (k_ne (by decide) (k_ne (by decide) (k_ne (by decide) (k_ne (by decide) e6)))))) (k_ne (by decide) (k_ne (by decide) (k_ne (by decide) (k_ne (by decide) (k_ne (by decide) (k_ne (by decide) e14)))))) (k_ne (by decide) (k_ne (by decide) (k_ne (by decide) (k_ne (by decide) (k_ne (by decide) (k_ne (by decide) e15)))))) (k_ne (by decide) (k_ne (by decide) (k_ne (by decide) (k_ne (by decide) (k_ne (by decide) (k_ne (by decide) e16)))))) (k_ne (by decide) (k_ne (by decide) (k_ne (by decide) (k_ne (by decide) (k_ne (by decide) (k_ne (by decide) e17)))))) (k_ne (by decide) (k_ne (by decide) (k_ne (by decide) (k_set (k_ne (by decide) (k_ne (by decide) e3)))))) (k_ne (by decide) (k_ne (by decide) (k_ne (by decide) (k_ne (by decide) (k_ne (by decide) (k_ne (by decide) e18)))))) (k_ne (by decide) (k_ne (by decide) (k_ne (by decide) (k_ne (by decide) (k_ne (by decide) (k_ne (by decide) e19))))))) (cwV 0 hts g9_X12_call_X12_act_494 rfl rfl rfl (by decide +kernel) ⟨Nat.le_of_ble_eq_true rfl, Nat.le_of_ble_eq_true rfl⟩) rfl hl.1 (Nat.le_of_ble_eq_true rfl) dX12_call_40 ⟨Nat.le_of_ble_eq_true rfl, Nat.le_of_ble_eq_true rfl⟩ (fun H locs hP hD hS => ?_)
  have hP : va_P D vwCl [(h5, .inl (cB, 24800, .inl g4)), (h0, .inr (12, (((((((((((((f0.set 0 (.int 0)).set 15 (.int 1)).set 13 (.int 0)).set 14 (.int 0)).set 12 (.int 0)).set 2 (.int 0)).set 36 (.int 0)).set 37 (.int 0)).set 27 (.int 0)).set 31 (.int 0)).set 28 (.int 0)).set 32 (.int 0)).set 33 (.int 0)))), (h1, .inl (cI, 2001, .inl (upd g0 0 0))), (h2, .inl (cI, 2001, .inl (upd g1 0 0))), (h3, .inl (cI, 2001, .inl (upd g2 0 0))), (h4, .inl (cI, 2001, .inl (upd g3 0 0)))] H := hP
  have hD : va_D A [(h5, .inl (cB, 24800, .inl g4)), (h0, .inr (12, (((((((((((((f0.set 0 (.int 0)).set 15 (.int 1)).set 13 (.int 0)).set 14 (.int 0)).set 12 (.int 0)).set 2 (.int 0)).set 36 (.int 0)).set 37 (.int 0)).set 27 (.int 0)).set 31 (.int 0)).set 28 (.int 0)).set 32 (.int 0)).set 33 (.int 0)))), (h1, .inl (cI, 2001, .inl (upd g0 0 0))), (h2, .inl (cI, 2001, .inl (upd g1 0 0))), (h3, .inl (cI, 2001, .inl (upd g2 0 0))), (h4, .inl (cI, 2001, .inl (upd g3 0 0)))] := hD
  refine lv_istore_n (lv' := [(2, .int 0), (0, .ref h0), (1, .int 1)]) hx hb dX12_call_43 rfl hl (by decide) rfl (fun ls hl => ?_)
  refine lv_aload_n hx hb dX12_call_44 rfl (lv_at hl 1 rfl) ?_
  refine k_get (D := D) (ci := 12) (v := .int 0) (N := 195) hx hb hts hin12 hown hK hP 1 rfl rfl (by decide) f9_12_14 (hts (.fieldLink RX12 462 "IntegerHouseModel" "refused" "Z") (o9_X12_call _ (List.mem_of_getElem? (i := 4) rfl))) (k_ne (by decide) (k_ne (by decide) (k_ne (by decide) (k_ne (by decide) (k_ne (by decide) (k_ne (by decide) (k_ne (by decide) (k_ne (by decide) (k_ne (by decide) (k_set (k_ne (by decide) (k_ne (by decide) (k_ne (by decide) e4))))))))))))) dX12_call_45 ?_
  refine lv_if_ne (tgt := 141) hx hb dX12_call_48 (by decide) (fun c9 => absurd (by decide) c9) (fun _ => ?_)
  refine lv_aload_n hx hb dX12_call_51 rfl (lv_at hl 1 rfl) ?_
  refine lv_dup hx hb dX12_call_52 rfl ?_
  refine k_get (D := D) (ci := 12) (v := .int 0) (N := 195) hx hb hts hin12 hown hK hP 1 rfl rfl (by decide) f9_12_16 (hts (.fieldLink RX12 498 "IntegerHouseModel" "done" "I") (o9_X12_call _ (List.mem_of_getElem? (i := 12) rfl))) (k_ne (by decide) (k_ne (by decide) (k_ne (by decide) (k_ne (by decide) (k_ne (by decide) (k_ne (by decide) (k_ne (by decide) (k_ne (by decide) (k_ne (by decide) (k_ne (by decide) (k_ne (by decide) (k_ne (by decide) (k_ne (by decide) e20))))))))))))) dX12_call_53 ?_
  refine lv_iconst (v := 1) hx hb dX12_call_56 (by decide) ?_
  refine lv_iadd hx hb dX12_call_57 ?_
  refine k_topi (y := 1) (by decide) ?_
  refine k_put (D := D) (ci := 12) (v := .int 1) (ty := .int) (N := 195) hx hb hts hin12 tyX12 tyX12_ok nmX12 hown hK hP hD hS 1 rfl rfl (by decide) f9_12_16 (hts (.fieldLink RX12 498 "IntegerHouseModel" "done" "I") (o9_X12_call _ (List.mem_of_getElem? (i := 12) rfl))) rfl pd_2 rfl rfl (k_len (k_ne (by decide) (k_ne (by decide) (k_ne (by decide) (k_ne (by decide) (k_ne (by decide) (k_ne (by decide) (k_ne (by decide) (k_ne (by decide) (k_ne (by decide) (k_ne (by decide) (k_ne (by decide) (k_ne (by decide) (k_ne (by decide) e20)))))))))))))) dX12_call_58 (fun H locs hP hD hS => ?_)
  have hP : va_P D vwCl [(h5, .inl (cB, 24800, .inl g4)), (h0, .inr (12, ((((((((((((((f0.set 0 (.int 0)).set 15 (.int 1)).set 13 (.int 0)).set 14 (.int 0)).set 12 (.int 0)).set 2 (.int 0)).set 36 (.int 0)).set 37 (.int 0)).set 27 (.int 0)).set 31 (.int 0)).set 28 (.int 0)).set 32 (.int 0)).set 33 (.int 0)).set 16 (.int 1)))), (h1, .inl (cI, 2001, .inl (upd g0 0 0))), (h2, .inl (cI, 2001, .inl (upd g1 0 0))), (h3, .inl (cI, 2001, .inl (upd g2 0 0))), (h4, .inl (cI, 2001, .inl (upd g3 0 0)))] H := hP
  have hD : va_D A [(h5, .inl (cB, 24800, .inl g4)), (h0, .inr (12, ((((((((((((((f0.set 0 (.int 0)).set 15 (.int 1)).set 13 (.int 0)).set 14 (.int 0)).set 12 (.int 0)).set 2 (.int 0)).set 36 (.int 0)).set 37 (.int 0)).set 27 (.int 0)).set 31 (.int 0)).set 28 (.int 0)).set 32 (.int 0)).set 33 (.int 0)).set 16 (.int 1)))), (h1, .inl (cI, 2001, .inl (upd g0 0 0))), (h2, .inl (cI, 2001, .inl (upd g1 0 0))), (h3, .inl (cI, 2001, .inl (upd g2 0 0))), (h4, .inl (cI, 2001, .inl (upd g3 0 0)))] := hD
  refine lv_aload_n hx hb dX12_call_61 rfl (lv_at hl 1 rfl) ?_
  refine lv_iload_n hx hb dX12_call_62 rfl (lv_at hl 2 rfl) ?_
  refine k_cVv (As := [.int 1]) (rest := []) (wc := [(h0, .inr (12, ((((((((((((((f0.set 0 (.int 0)).set 15 (.int 1)).set 13 (.int 0)).set 14 (.int 0)).set 12 (.int 0)).set 2 (.int 0)).set 36 (.int 0)).set 37 (.int 0)).set 27 (.int 0)).set 31 (.int 0)).set 28 (.int 0)).set 32 (.int 0)).set 33 (.int 0)).set 16 (.int 1)))), (h5, .inl (cB, 24800, .inl g4))]) (wr := [(h1, .inl (cI, 2001, .inl (upd g0 0 0))), (h2, .inl (cI, 2001, .inl (upd g1 0 0))), (h3, .inl (cI, 2001, .inl (upd g2 0 0))), (h4, .inl (cI, 2001, .inl (upd g3 0 0)))]) (w1 := (fun _ : Unit => [(h0, .inr (12, (((((((((((((((f0.set 0 (.int 0)).set 15 (.int 1)).set 13 (.int 0)).set 14 (.int 0)).set 12 (.int 0)).set 2 (.int 0)).set 36 (.int 0)).set 37 (.int 0)).set 27 (.int 0)).set 31 (.int 0)).set 28 (.int 0)).set 32 (.int 0)).set 33 (.int 0)).set 16 (.int 1)).set 9 (.int 1)))), (h5, .inl (cB, 24800, .inl (upd g4 0 1)))])) ⟨hx, hb, hml, hown, hts⟩ hN hX hAE hK hP hD hS hA [1, 0] [2, 3, 4, 5] (ci := 12) rfl rfl rfl rfl (by decide +kernel) (by decide +kernel) (by decide +kernel) (c_X12_note_0 l E D cI cJ cB cZ h0 (((((((((((((((f0.set 0 (.int 0)).set 15 (.int 1)).set 13 (.int 0)).set 14 (.int 0)).set 12 (.int 0)).set 2 (.int 0)).set 36 (.int 0)).set 37 (.int 0)).set 27 (.int 0)).set 31 (.int 0)).set 28 (.int 0)).set 32 (.int 0)).set 33 (.int 0)).set 16 (.int 1))) h5 g4 (k_ne (by decide) (k_ne (by decide) (k_ne (by decide) (k_ne (by decide) (k_ne (by decide) (k_ne (by decide) (k_ne (by decide) (k_ne (by decide) (k_ne (by decide) (k_ne (by decide) (k_ne (by decide) (k_ne (by decide) (k_ne (by decide) (k_ne (by decide) e21)))))))))))))) (k_ne (by decide) (k_ne (by decide) (k_ne (by decide) (k_ne (by decide) (k_ne (by decide) (k_ne (by decide) (k_ne (by decide) (k_ne (by decide) (k_ne (by decide) (k_ne (by decide) (k_ne (by decide) (k_ne (by decide) (k_ne (by decide) (k_ne (by decide) e18))))))))))))))) (cwV 1 hts g9_X12_call_X12_note_481 rfl rfl rfl (by decide +kernel) ⟨Nat.le_of_ble_eq_true rfl, Nat.le_of_ble_eq_true rfl⟩) rfl hl.1 (Nat.le_of_ble_eq_true rfl) dX12_call_63 ⟨Nat.le_of_ble_eq_true rfl, Nat.le_of_ble_eq_true rfl⟩ (fun _ H locs hP hD hS => ?_)
  have hP : va_P D vwCl [(h1, .inl (cI, 2001, .inl (upd g0 0 0))), (h2, .inl (cI, 2001, .inl (upd g1 0 0))), (h3, .inl (cI, 2001, .inl (upd g2 0 0))), (h4, .inl (cI, 2001, .inl (upd g3 0 0))), (h0, .inr (12, (((((((((((((((f0.set 0 (.int 0)).set 15 (.int 1)).set 13 (.int 0)).set 14 (.int 0)).set 12 (.int 0)).set 2 (.int 0)).set 36 (.int 0)).set 37 (.int 0)).set 27 (.int 0)).set 31 (.int 0)).set 28 (.int 0)).set 32 (.int 0)).set 33 (.int 0)).set 16 (.int 1)).set 9 (.int 1)))), (h5, .inl (cB, 24800, .inl (upd g4 0 1)))] H := hP
  have hD : va_D A [(h1, .inl (cI, 2001, .inl (upd g0 0 0))), (h2, .inl (cI, 2001, .inl (upd g1 0 0))), (h3, .inl (cI, 2001, .inl (upd g2 0 0))), (h4, .inl (cI, 2001, .inl (upd g3 0 0))), (h0, .inr (12, (((((((((((((((f0.set 0 (.int 0)).set 15 (.int 1)).set 13 (.int 0)).set 14 (.int 0)).set 12 (.int 0)).set 2 (.int 0)).set 36 (.int 0)).set 37 (.int 0)).set 27 (.int 0)).set 31 (.int 0)).set 28 (.int 0)).set 32 (.int 0)).set 33 (.int 0)).set 16 (.int 1)).set 9 (.int 1)))), (h5, .inl (cB, 24800, .inl (upd g4 0 1)))] := hD
  refine lv_iload_n hx hb dX12_call_66 rfl (lv_at hl 2 rfl) ?_
  refine lv_iconst (v := 2) hx hb dX12_call_67 (by decide) ?_
  refine lv_icmp_ne (tgt := 91) hx hb dX12_call_68 (by decide) (fun _ => ?_) (fun c9 => absurd c9 (by decide))
  refine lv_iload_n hx hb dX12_call_91 rfl (lv_at hl 2 rfl) ?_
  refine lv_iconst (v := 1) hx hb dX12_call_92 (by decide) ?_
  refine lv_icmp_ne (tgt := 141) hx hb dX12_call_93 (by decide) (fun c9 => absurd (by decide) c9) (fun _ => ?_)
  refine lv_aload_n hx hb dX12_call_96 rfl (lv_at hl 1 rfl) ?_
  refine lv_aload_n hx hb dX12_call_97 rfl (lv_at hl 1 rfl) ?_
  refine k_get (D := D) (ci := 12) (v := .int 0) (N := 195) hx hb hts hin12 hown hK hP 4 rfl rfl (by decide) f9_12_12 (hts (.fieldLink RX12 469 "IntegerHouseModel" "docSize" "I") (o9_X12_call _ (List.mem_of_getElem? (i := 16) rfl))) (k_ne (by decide) (k_ne (by decide) (k_ne (by decide) (k_ne (by decide) (k_ne (by decide) (k_ne (by decide) (k_ne (by decide) (k_ne (by decide) (k_ne (by decide) (k_ne (by decide) (k_set (k_ne (by decide) (k_ne (by decide) (k_ne (by decide) (k_ne (by decide) e6))))))))))))))) dX12_call_98 ?_
  refine lv_bipush (v := 8) hx hb dX12_call_101 (by decide) ?_
  refine lv_ishr hx hb dX12_call_103 ?_
  refine k_topi (y := 0) (by decide) ?_
  refine k_cVv (As := [.int 0]) (rest := []) (wc := [(h0, .inr (12, (((((((((((((((f0.set 0 (.int 0)).set 15 (.int 1)).set 13 (.int 0)).set 14 (.int 0)).set 12 (.int 0)).set 2 (.int 0)).set 36 (.int 0)).set 37 (.int 0)).set 27 (.int 0)).set 31 (.int 0)).set 28 (.int 0)).set 32 (.int 0)).set 33 (.int 0)).set 16 (.int 1)).set 9 (.int 1)))), (h5, .inl (cB, 24800, .inl (upd g4 0 1)))]) (wr := [(h1, .inl (cI, 2001, .inl (upd g0 0 0))), (h2, .inl (cI, 2001, .inl (upd g1 0 0))), (h3, .inl (cI, 2001, .inl (upd g2 0 0))), (h4, .inl (cI, 2001, .inl (upd g3 0 0)))]) (w1 := (fun _ : Unit => [(h0, .inr (12, ((((((((((((((((f0.set 0 (.int 0)).set 15 (.int 1)).set 13 (.int 0)).set 14 (.int 0)).set 12 (.int 0)).set 2 (.int 0)).set 36 (.int 0)).set 37 (.int 0)).set 27 (.int 0)).set 31 (.int 0)).set 28 (.int 0)).set 32 (.int 0)).set 33 (.int 0)).set 16 (.int 1)).set 9 (.int 1)).set 9 (.int 2)))), (h5, .inl (cB, 24800, .inl (upd (upd g4 0 1) 1 0)))])) ⟨hx, hb, hml, hown, hts⟩ hN hX hAE hK hP hD hS hA [4, 5] [0, 1, 2, 3] (ci := 12) rfl rfl rfl rfl (by decide +kernel) (by decide +kernel) (by decide +kernel) (c_X12_note_1 l E D cI cJ cB cZ h0 ((((((((((((((((f0.set 0 (.int 0)).set 15 (.int 1)).set 13 (.int 0)).set 14 (.int 0)).set 12 (.int 0)).set 2 (.int 0)).set 36 (.int 0)).set 37 (.int 0)).set 27 (.int 0)).set 31 (.int 0)).set 28 (.int 0)).set 32 (.int 0)).set 33 (.int 0)).set 16 (.int 1)).set 9 (.int 1))) h5 ((upd g4 0 1)) (k_ne (by decide) (k_ne (by decide) (k_ne (by decide) (k_ne (by decide) (k_ne (by decide) (k_ne (by decide) (k_ne (by decide) (k_ne (by decide) (k_ne (by decide) (k_ne (by decide) (k_ne (by decide) (k_ne (by decide) (k_ne (by decide) (k_ne (by decide) (k_ne (by decide) e21))))))))))))))) (k_set (k_ne (by decide) (k_ne (by decide) (k_ne (by decide) (k_ne (by decide) (k_ne (by decide) (k_ne (by decide) (k_ne (by decide) (k_ne (by decide) (k_ne (by decide) (k_ne (by decide) (k_ne (by decide) (k_ne (by decide) (k_ne (by decide) (k_ne (by decide) e18)))))))))))))))) (cwV 1 hts g9_X12_call_X12_note_481 rfl rfl rfl (by decide +kernel) ⟨Nat.le_of_ble_eq_true rfl, Nat.le_of_ble_eq_true rfl⟩) rfl hl.1 (Nat.le_of_ble_eq_true rfl) dX12_call_104 ⟨Nat.le_of_ble_eq_true rfl, Nat.le_of_ble_eq_true rfl⟩ (fun _ H locs hP hD hS => ?_)
  have hP : va_P D vwCl [(h1, .inl (cI, 2001, .inl (upd g0 0 0))), (h2, .inl (cI, 2001, .inl (upd g1 0 0))), (h3, .inl (cI, 2001, .inl (upd g2 0 0))), (h4, .inl (cI, 2001, .inl (upd g3 0 0))), (h0, .inr (12, ((((((((((((((((f0.set 0 (.int 0)).set 15 (.int 1)).set 13 (.int 0)).set 14 (.int 0)).set 12 (.int 0)).set 2 (.int 0)).set 36 (.int 0)).set 37 (.int 0)).set 27 (.int 0)).set 31 (.int 0)).set 28 (.int 0)).set 32 (.int 0)).set 33 (.int 0)).set 16 (.int 1)).set 9 (.int 1)).set 9 (.int 2)))), (h5, .inl (cB, 24800, .inl (upd (upd g4 0 1) 1 0)))] H := hP
  have hD : va_D A [(h1, .inl (cI, 2001, .inl (upd g0 0 0))), (h2, .inl (cI, 2001, .inl (upd g1 0 0))), (h3, .inl (cI, 2001, .inl (upd g2 0 0))), (h4, .inl (cI, 2001, .inl (upd g3 0 0))), (h0, .inr (12, ((((((((((((((((f0.set 0 (.int 0)).set 15 (.int 1)).set 13 (.int 0)).set 14 (.int 0)).set 12 (.int 0)).set 2 (.int 0)).set 36 (.int 0)).set 37 (.int 0)).set 27 (.int 0)).set 31 (.int 0)).set 28 (.int 0)).set 32 (.int 0)).set 33 (.int 0)).set 16 (.int 1)).set 9 (.int 1)).set 9 (.int 2)))), (h5, .inl (cB, 24800, .inl (upd (upd g4 0 1) 1 0)))] := hD
  refine lv_aload_n hx hb dX12_call_107 rfl (lv_at hl 1 rfl) ?_
  refine lv_aload_n hx hb dX12_call_108 rfl (lv_at hl 1 rfl) ?_
  refine k_get (D := D) (ci := 12) (v := .int 0) (N := 195) hx hb hts hin12 hown hK hP 4 rfl rfl (by decide) f9_12_12 (hts (.fieldLink RX12 469 "IntegerHouseModel" "docSize" "I") (o9_X12_call _ (List.mem_of_getElem? (i := 16) rfl))) (k_ne (by decide) (k_ne (by decide) (k_ne (by decide) (k_ne (by decide) (k_ne (by decide) (k_ne (by decide) (k_ne (by decide) (k_ne (by decide) (k_ne (by decide) (k_ne (by decide) (k_ne (by decide) (k_set (k_ne (by decide) (k_ne (by decide) (k_ne (by decide) (k_ne (by decide) e6)))))))))))))))) dX12_call_109 ?_
  refine k_cVv (As := [.int 0]) (rest := []) (wc := [(h0, .inr (12, ((((((((((((((((f0.set 0 (.int 0)).set 15 (.int 1)).set 13 (.int 0)).set 14 (.int 0)).set 12 (.int 0)).set 2 (.int 0)).set 36 (.int 0)).set 37 (.int 0)).set 27 (.int 0)).set 31 (.int 0)).set 28 (.int 0)).set 32 (.int 0)).set 33 (.int 0)).set 16 (.int 1)).set 9 (.int 1)).set 9 (.int 2)))), (h5, .inl (cB, 24800, .inl (upd (upd g4 0 1) 1 0)))]) (wr := [(h1, .inl (cI, 2001, .inl (upd g0 0 0))), (h2, .inl (cI, 2001, .inl (upd g1 0 0))), (h3, .inl (cI, 2001, .inl (upd g2 0 0))), (h4, .inl (cI, 2001, .inl (upd g3 0 0)))]) (w1 := (fun _ : Unit => [(h0, .inr (12, (((((((((((((((((f0.set 0 (.int 0)).set 15 (.int 1)).set 13 (.int 0)).set 14 (.int 0)).set 12 (.int 0)).set 2 (.int 0)).set 36 (.int 0)).set 37 (.int 0)).set 27 (.int 0)).set 31 (.int 0)).set 28 (.int 0)).set 32 (.int 0)).set 33 (.int 0)).set 16 (.int 1)).set 9 (.int 1)).set 9 (.int 2)).set 9 (.int 3)))), (h5, .inl (cB, 24800, .inl (upd (upd (upd g4 0 1) 1 0) 2 0)))])) ⟨hx, hb, hml, hown, hts⟩ hN hX hAE hK hP hD hS hA [4, 5] [0, 1, 2, 3] (ci := 12) rfl rfl rfl rfl (by decide +kernel) (by decide +kernel) (by decide +kernel) (c_X12_note_2 l E D cI cJ cB cZ h0 (((((((((((((((((f0.set 0 (.int 0)).set 15 (.int 1)).set 13 (.int 0)).set 14 (.int 0)).set 12 (.int 0)).set 2 (.int 0)).set 36 (.int 0)).set 37 (.int 0)).set 27 (.int 0)).set 31 (.int 0)).set 28 (.int 0)).set 32 (.int 0)).set 33 (.int 0)).set 16 (.int 1)).set 9 (.int 1)).set 9 (.int 2))) h5 ((upd (upd g4 0 1) 1 0)) (k_ne (by decide) (k_ne (by decide) (k_ne (by decide) (k_ne (by decide) (k_ne (by decide) (k_ne (by decide) (k_ne (by decide) (k_ne (by decide) (k_ne (by decide) (k_ne (by decide) (k_ne (by decide) (k_ne (by decide) (k_ne (by decide) (k_ne (by decide) (k_ne (by decide) (k_ne (by decide) e21)))))))))))))))) (k_set (k_set (k_ne (by decide) (k_ne (by decide) (k_ne (by decide) (k_ne (by decide) (k_ne (by decide) (k_ne (by decide) (k_ne (by decide) (k_ne (by decide) (k_ne (by decide) (k_ne (by decide) (k_ne (by decide) (k_ne (by decide) (k_ne (by decide) (k_ne (by decide) e18))))))))))))))))) (cwV 1 hts g9_X12_call_X12_note_481 rfl rfl rfl (by decide +kernel) ⟨Nat.le_of_ble_eq_true rfl, Nat.le_of_ble_eq_true rfl⟩) rfl hl.1 (Nat.le_of_ble_eq_true rfl) dX12_call_112 ⟨Nat.le_of_ble_eq_true rfl, Nat.le_of_ble_eq_true rfl⟩ (fun _ H locs hP hD hS => ?_)
  have hP : va_P D vwCl [(h1, .inl (cI, 2001, .inl (upd g0 0 0))), (h2, .inl (cI, 2001, .inl (upd g1 0 0))), (h3, .inl (cI, 2001, .inl (upd g2 0 0))), (h4, .inl (cI, 2001, .inl (upd g3 0 0))), (h0, .inr (12, (((((((((((((((((f0.set 0 (.int 0)).set 15 (.int 1)).set 13 (.int 0)).set 14 (.int 0)).set 12 (.int 0)).set 2 (.int 0)).set 36 (.int 0)).set 37 (.int 0)).set 27 (.int 0)).set 31 (.int 0)).set 28 (.int 0)).set 32 (.int 0)).set 33 (.int 0)).set 16 (.int 1)).set 9 (.int 1)).set 9 (.int 2)).set 9 (.int 3)))), (h5, .inl (cB, 24800, .inl (upd (upd (upd g4 0 1) 1 0) 2 0)))] H := hP
  have hD : va_D A [(h1, .inl (cI, 2001, .inl (upd g0 0 0))), (h2, .inl (cI, 2001, .inl (upd g1 0 0))), (h3, .inl (cI, 2001, .inl (upd g2 0 0))), (h4, .inl (cI, 2001, .inl (upd g3 0 0))), (h0, .inr (12, (((((((((((((((((f0.set 0 (.int 0)).set 15 (.int 1)).set 13 (.int 0)).set 14 (.int 0)).set 12 (.int 0)).set 2 (.int 0)).set 36 (.int 0)).set 37 (.int 0)).set 27 (.int 0)).set 31 (.int 0)).set 28 (.int 0)).set 32 (.int 0)).set 33 (.int 0)).set 16 (.int 1)).set 9 (.int 1)).set 9 (.int 2)).set 9 (.int 3)))), (h5, .inl (cB, 24800, .inl (upd (upd (upd g4 0 1) 1 0) 2 0)))] := hD
  refine lv_iconst (v := 0) hx hb dX12_call_115 (by decide) ?_
  refine lv_istore_n (lv' := [(3, .int 0), (2, .int 0), (0, .ref h0), (1, .int 1)]) hx hb dX12_call_116 rfl hl (by decide) rfl (fun ls hl => ?_)
  refine lv_iload_n hx hb dX12_call_117 rfl (lv_at hl 0 rfl) ?_
  refine lv_aload_n hx hb dX12_call_118 rfl (lv_at hl 2 rfl) ?_
  refine k_get (D := D) (ci := 12) (v := .int 0) (N := 195) hx hb hts hin12 hown hK hP 4 rfl rfl (by decide) f9_12_12 (hts (.fieldLink RX12 469 "IntegerHouseModel" "docSize" "I") (o9_X12_call _ (List.mem_of_getElem? (i := 16) rfl))) (k_ne (by decide) (k_ne (by decide) (k_ne (by decide) (k_ne (by decide) (k_ne (by decide) (k_ne (by decide) (k_ne (by decide) (k_ne (by decide) (k_ne (by decide) (k_ne (by decide) (k_ne (by decide) (k_ne (by decide) (k_set (k_ne (by decide) (k_ne (by decide) (k_ne (by decide) (k_ne (by decide) e6))))))))))))))))) dX12_call_119 ?_
  refine lv_icmp_ge (tgt := 141) hx hb dX12_call_122 (by decide) (fun _ => ?_) (fun c9 => absurd (by decide) c9)
  refine lv_iload_n hx hb dX12_call_141 rfl (lv_at hl 1 rfl) ?_
  have hP := hP.sub (ws' := [(h0, .inr (12, (((((((((((((((((f0.set 0 (.int 0)).set 15 (.int 1)).set 13 (.int 0)).set 14 (.int 0)).set 12 (.int 0)).set 2 (.int 0)).set 36 (.int 0)).set 37 (.int 0)).set 27 (.int 0)).set 31 (.int 0)).set 28 (.int 0)).set 32 (.int 0)).set 33 (.int 0)).set 16 (.int 1)).set 9 (.int 1)).set 9 (.int 2)).set 9 (.int 3)))), (h1, .inl (cI, 2001, .inl (upd g0 0 0))), (h2, .inl (cI, 2001, .inl (upd g1 0 0))), (h3, .inl (cI, 2001, .inl (upd g2 0 0))), (h4, .inl (cI, 2001, .inl (upd g3 0 0))), (h5, .inl (cB, 24800, .inl (upd (upd (upd g4 0 1) 1 0) 2 0)))]) [4, 0, 1, 2, 3, 5] rfl
  have hD := hD.sub (ws' := [(h0, .inr (12, (((((((((((((((((f0.set 0 (.int 0)).set 15 (.int 1)).set 13 (.int 0)).set 14 (.int 0)).set 12 (.int 0)).set 2 (.int 0)).set 36 (.int 0)).set 37 (.int 0)).set 27 (.int 0)).set 31 (.int 0)).set 28 (.int 0)).set 32 (.int 0)).set 33 (.int 0)).set 16 (.int 1)).set 9 (.int 1)).set 9 (.int 2)).set 9 (.int 3)))), (h1, .inl (cI, 2001, .inl (upd g0 0 0))), (h2, .inl (cI, 2001, .inl (upd g1 0 0))), (h3, .inl (cI, 2001, .inl (upd g2 0 0))), (h4, .inl (cI, 2001, .inl (upd g3 0 0))), (h5, .inl (cB, 24800, .inl (upd (upd (upd g4 0 1) 1 0) 2 0)))]) [4, 0, 1, 2, 3, 5] (by decide +kernel) rfl
  exact W.iret (v := 0) hx hb hr (fun t ht hW => ⟨⟨0, (), rfl, rfl, kB_mk ht hW hP hK hD⟩, hS.F ht⟩) hS.2.2 dX12_call_142
