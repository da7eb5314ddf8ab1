theorem dX0_findEnds_0 : decode cX0_findEnds 0 = .ok (.aload_n 0, 1) := by decide +kernel
theorem dX0_findEnds_1 : decode cX0_findEnds 1 = .ok (.getfield 48, 3) := by decide +kernel
theorem dX0_findEnds_4 : decode cX0_findEnds 4 = .ok (.getfield 72, 3) := by decide +kernel
theorem dX0_findEnds_7 : decode cX0_findEnds 7 = .ok (.sipush 3000, 3) := by decide +kernel
theorem dX0_findEnds_10 : decode cX0_findEnds 10 = .ok (.invokestatic 75, 3) := by decide +kernel
theorem dX0_findEnds_13 : decode cX0_findEnds 13 = .ok (.istore_n 3, 1) := by decide +kernel
theorem dX0_findEnds_14 : decode cX0_findEnds 14 = .ok (.iconst 0, 1) := by decide +kernel
theorem dX0_findEnds_15 : decode cX0_findEnds 15 = .ok (.istore 4, 2) := by decide +kernel
theorem dX0_findEnds_17 : decode cX0_findEnds 17 = .ok (.iload 4, 2) := by decide +kernel
theorem dX0_findEnds_19 : decode cX0_findEnds 19 = .ok (.iload_n 3, 1) := by decide +kernel
theorem dX0_findEnds_20 : decode cX0_findEnds 20 = .ok (.if_icmp .ge 27, 3) := by decide +kernel
theorem dX0_findEnds_23 : decode cX0_findEnds 23 = .ok (.aload_n 0, 1) := by decide +kernel
theorem dX0_findEnds_24 : decode cX0_findEnds 24 = .ok (.getfield 22, 3) := by decide +kernel
theorem dX0_findEnds_27 : decode cX0_findEnds 27 = .ok (.iload 4, 2) := by decide +kernel
theorem dX0_findEnds_29 : decode cX0_findEnds 29 = .ok (.aload_n 0, 1) := by decide +kernel
theorem dX0_findEnds_30 : decode cX0_findEnds 30 = .ok (.getfield 48, 3) := by decide +kernel
theorem dX0_findEnds_33 : decode cX0_findEnds 33 = .ok (.iload 4, 2) := by decide +kernel
theorem dX0_findEnds_35 : decode cX0_findEnds 35 = .ok (.iload_n 1, 1) := by decide +kernel
theorem dX0_findEnds_36 : decode cX0_findEnds 36 = .ok (.iload_n 2, 1) := by decide +kernel
theorem dX0_findEnds_37 : decode cX0_findEnds 37 = .ok (.invokevirtual 78, 3) := by decide +kernel
theorem dX0_findEnds_40 : decode cX0_findEnds 40 = .ok (.iastore, 1) := by decide +kernel
theorem dX0_findEnds_41 : decode cX0_findEnds 41 = .ok (.iinc 4 1, 3) := by decide +kernel
theorem dX0_findEnds_44 : decode cX0_findEnds 44 = .ok (.goto (-27), 3) := by decide +kernel
theorem dX0_findEnds_47 : decode cX0_findEnds 47 = .ok (.iload_n 3, 1) := by decide +kernel
theorem dX0_findEnds_48 : decode cX0_findEnds 48 = .ok (.ireturn, 1) := by decide +kernel
theorem dX0_endsOf_0 : decode cX0_endsOf 0 = .ok (.iload_n 1, 1) := by decide +kernel
theorem dX0_endsOf_1 : decode cX0_endsOf 1 = .ok (.ifCond .lt 19, 3) := by decide +kernel
theorem dX0_endsOf_4 : decode cX0_endsOf 4 = .ok (.iload_n 1, 1) := by decide +kernel
theorem dX0_endsOf_5 : decode cX0_endsOf 5 = .ok (.sipush 3000, 3) := by decide +kernel
theorem dX0_endsOf_8 : decode cX0_endsOf 8 = .ok (.if_icmp .ge 12, 3) := by decide +kernel
theorem dX0_endsOf_11 : decode cX0_endsOf 11 = .ok (.aload_n 0, 1) := by decide +kernel
theorem dX0_endsOf_12 : decode cX0_endsOf 12 = .ok (.getfield 22, 3) := by decide +kernel
theorem dX0_endsOf_15 : decode cX0_endsOf 15 = .ok (.iload_n 1, 1) := by decide +kernel
theorem dX0_endsOf_16 : decode cX0_endsOf 16 = .ok (.iaload, 1) := by decide +kernel
theorem dX0_endsOf_17 : decode cX0_endsOf 17 = .ok (.goto 4, 3) := by decide +kernel
theorem dX0_endsOf_21 : decode cX0_endsOf 21 = .ok (.ireturn, 1) := by decide +kernel
theorem dX0_tellLeast_0 : decode cX0_tellLeast 0 = .ok (.aload_n 0, 1) := by decide +kernel
theorem dX0_tellLeast_1 : decode cX0_tellLeast 1 = .ok (.iload_n 1, 1) := by decide +kernel
theorem dX0_tellLeast_2 : decode cX0_tellLeast 2 = .ok (.iload_n 2, 1) := by decide +kernel
theorem dX0_tellLeast_3 : decode cX0_tellLeast 3 = .ok (.invokevirtual 82, 3) := by decide +kernel
theorem dX0_tellLeast_6 : decode cX0_tellLeast 6 = .ok (.istore_n 3, 1) := by decide +kernel
theorem dX0_tellLeast_7 : decode cX0_tellLeast 7 = .ok (.iconst 0, 1) := by decide +kernel
theorem dX0_tellLeast_8 : decode cX0_tellLeast 8 = .ok (.istore 4, 2) := by decide +kernel
theorem dX0_tellLeast_10 : decode cX0_tellLeast 10 = .ok (.iload 4, 2) := by decide +kernel
theorem dX0_tellLeast_12 : decode cX0_tellLeast 12 = .ok (.iload_n 3, 1) := by decide +kernel
theorem dX0_tellLeast_13 : decode cX0_tellLeast 13 = .ok (.if_icmp .ge 31, 3) := by decide +kernel
theorem dX0_tellLeast_16 : decode cX0_tellLeast 16 = .ok (.aload_n 0, 1) := by decide +kernel
theorem dX0_tellLeast_17 : decode cX0_tellLeast 17 = .ok (.getfield 18, 3) := by decide +kernel
theorem dX0_tellLeast_20 : decode cX0_tellLeast 20 = .ok (.iload 4, 2) := by decide +kernel
theorem dX0_tellLeast_22 : decode cX0_tellLeast 22 = .ok (.aload_n 0, 1) := by decide +kernel
theorem dX0_tellLeast_23 : decode cX0_tellLeast 23 = .ok (.getfield 22, 3) := by decide +kernel
theorem dX0_tellLeast_26 : decode cX0_tellLeast 26 = .ok (.iload 4, 2) := by decide +kernel
theorem dX0_tellLeast_28 : decode cX0_tellLeast 28 = .ok (.iaload, 1) := by decide +kernel
theorem dX0_tellLeast_29 : decode cX0_tellLeast 29 = .ok (.ifCond .eq 7, 3) := by decide +kernel
theorem dX0_tellLeast_32 : decode cX0_tellLeast 32 = .ok (.iconst 0, 1) := by decide +kernel
theorem dX0_tellLeast_33 : decode cX0_tellLeast 33 = .ok (.goto 4, 3) := by decide +kernel
theorem dX0_tellLeast_37 : decode cX0_tellLeast 37 = .ok (.iastore, 1) := by decide +kernel
theorem dX0_tellLeast_38 : decode cX0_tellLeast 38 = .ok (.iinc 4 1, 3) := by decide +kernel
theorem dX0_tellLeast_41 : decode cX0_tellLeast 41 = .ok (.goto (-31), 3) := by decide +kernel
theorem dX0_tellLeast_44 : decode cX0_tellLeast 44 = .ok (.iconst 1, 1) := by decide +kernel
theorem dX0_tellLeast_45 : decode cX0_tellLeast 45 = .ok (.istore 4, 2) := by decide +kernel
theorem dX0_tellLeast_47 : decode cX0_tellLeast 47 = .ok (.iconst 1, 1) := by decide +kernel
theorem dX0_tellLeast_48 : decode cX0_tellLeast 48 = .ok (.istore 5, 2) := by decide +kernel
theorem dX0_tellLeast_50 : decode cX0_tellLeast 50 = .ok (.iload 5, 2) := by decide +kernel
theorem dX0_tellLeast_52 : decode cX0_tellLeast 52 = .ok (.iload_n 3, 1) := by decide +kernel
theorem dX0_tellLeast_53 : decode cX0_tellLeast 53 = .ok (.if_icmp .gt 33, 3) := by decide +kernel
theorem dX0_tellLeast_56 : decode cX0_tellLeast 56 = .ok (.iload 4, 2) := by decide +kernel
theorem dX0_tellLeast_58 : decode cX0_tellLeast 58 = .ok (.ifCond .eq 28, 3) := by decide +kernel
theorem dX0_tellLeast_61 : decode cX0_tellLeast 61 = .ok (.aload_n 0, 1) := by decide +kernel
theorem dX0_tellLeast_62 : decode cX0_tellLeast 62 = .ok (.getfield 18, 3) := by decide +kernel
theorem dX0_tellLeast_65 : decode cX0_tellLeast 65 = .ok (.iconst 0, 1) := by decide +kernel
theorem dX0_tellLeast_66 : decode cX0_tellLeast 66 = .ok (.iaload, 1) := by decide +kernel
theorem dX0_tellLeast_67 : decode cX0_tellLeast 67 = .ok (.iconst (-1), 1) := by decide +kernel
theorem dX0_tellLeast_68 : decode cX0_tellLeast 68 = .ok (.if_icmp .ne 18, 3) := by decide +kernel
theorem dX0_tellLeast_86 : decode cX0_tellLeast 86 = .ok (.aload_n 0, 1) := by decide +kernel
theorem dX0_tellLeast_87 : decode cX0_tellLeast 87 = .ok (.getfield 18, 3) := by decide +kernel
theorem dX0_tellLeast_90 : decode cX0_tellLeast 90 = .ok (.iconst 0, 1) := by decide +kernel
theorem dX0_tellLeast_91 : decode cX0_tellLeast 91 = .ok (.iaload, 1) := by decide +kernel
theorem dX0_tellLeast_92 : decode cX0_tellLeast 92 = .ok (.iconst (-1), 1) := by decide +kernel
theorem dX0_tellLeast_93 : decode cX0_tellLeast 93 = .ok (.if_icmp .ne 5, 3) := by decide +kernel
theorem dX0_tellLeast_98 : decode cX0_tellLeast 98 = .ok (.aload_n 0, 1) := by decide +kernel
theorem dX0_tellLeast_99 : decode cX0_tellLeast 99 = .ok (.invokevirtual 89, 3) := by decide +kernel
theorem dX0_tellLeast_102 : decode cX0_tellLeast 102 = .ok (.iconst 1, 1) := by decide +kernel
theorem dX0_tellLeast_103 : decode cX0_tellLeast 103 = .ok (.ireturn, 1) := by decide +kernel
theorem dX0_walk_0 : decode cX0_walk 0 = .ok (.iconst 0, 1) := by decide +kernel
theorem dX0_walk_1 : decode cX0_walk 1 = .ok (.istore_n 1, 1) := by decide +kernel
theorem dX0_walk_2 : decode cX0_walk 2 = .ok (.aload_n 0, 1) := by decide +kernel
theorem dX0_walk_3 : decode cX0_walk 3 = .ok (.aload_n 0, 1) := by decide +kernel
theorem dX0_walk_4 : decode cX0_walk 4 = .ok (.getfield 18, 3) := by decide +kernel
theorem dX0_walk_7 : decode cX0_walk 7 = .ok (.iconst 0, 1) := by decide +kernel
theorem dX0_walk_8 : decode cX0_walk 8 = .ok (.iaload, 1) := by decide +kernel
theorem dX0_walk_9 : decode cX0_walk 9 = .ok (.putfield 40, 3) := by decide +kernel
theorem dX0_walk_12 : decode cX0_walk 12 = .ok (.aload_n 0, 1) := by decide +kernel
theorem dX0_walk_13 : decode cX0_walk 13 = .ok (.aload_n 0, 1) := by decide +kernel
theorem dX0_walk_14 : decode cX0_walk 14 = .ok (.getfield 44, 3) := by decide +kernel
theorem dX0_walk_17 : decode cX0_walk 17 = .ok (.getfield 52, 3) := by decide +kernel
theorem dX0_walk_20 : decode cX0_walk 20 = .ok (.putfield 69, 3) := by decide +kernel
theorem dX0_walk_23 : decode cX0_walk 23 = .ok (.aload_n 0, 1) := by decide +kernel
theorem dX0_walk_24 : decode cX0_walk 24 = .ok (.getfield 9, 3) := by decide +kernel
theorem dX0_walk_27 : decode cX0_walk 27 = .ok (.lconst 0, 1) := by decide +kernel
theorem dX0_walk_28 : decode cX0_walk 28 = .ok (.invokestatic 102, 3) := by decide +kernel
theorem dX0_walk_31 : decode cX0_walk 31 = .ok (.aload_n 0, 1) := by decide +kernel
theorem dX0_walk_32 : decode cX0_walk 32 = .ok (.getfield 40, 3) := by decide +kernel
theorem dX0_walk_35 : decode cX0_walk 35 = .ok (.istore_n 2, 1) := by decide +kernel
theorem dX0_walk_36 : decode cX0_walk 36 = .ok (.iload_n 2, 1) := by decide +kernel
theorem dX0_walk_37 : decode cX0_walk 37 = .ok (.ifCond .le 64, 3) := by decide +kernel
theorem dX0_walk_101 : decode cX0_walk 101 = .ok (.iconst 0, 1) := by decide +kernel
theorem dX0_walk_102 : decode cX0_walk 102 = .ok (.istore_n 2, 1) := by decide +kernel
theorem dX0_walk_103 : decode cX0_walk 103 = .ok (.iload_n 2, 1) := by decide +kernel
theorem dX0_walk_104 : decode cX0_walk 104 = .ok (.bipush 15, 2) := by decide +kernel
theorem dX0_walk_106 : decode cX0_walk 106 = .ok (.if_icmp .ge 21, 3) := by decide +kernel
theorem dX0_walk_109 : decode cX0_walk 109 = .ok (.aload_n 0, 1) := by decide +kernel
theorem dX0_walk_110 : decode cX0_walk 110 = .ok (.iload_n 1, 1) := by decide +kernel
theorem dX0_walk_111 : decode cX0_walk 111 = .ok (.invokevirtual 112, 3) := by decide +kernel
theorem dX0_walk_114 : decode cX0_walk 114 = .ok (.iload_n 2, 1) := by decide +kernel
theorem dX0_walk_115 : decode cX0_walk 115 = .ok (.iushr, 1) := by decide +kernel
theorem dX0_walk_116 : decode cX0_walk 116 = .ok (.iconst 1, 1) := by decide +kernel
theorem dX0_walk_117 : decode cX0_walk 117 = .ok (.iand, 1) := by decide +kernel
theorem dX0_walk_118 : decode cX0_walk 118 = .ok (.ifCond .ne 9, 3) := by decide +kernel
theorem dX0_walk_127 : decode cX0_walk 127 = .ok (.aload_n 0, 1) := by decide +kernel
theorem dX0_walk_128 : decode cX0_walk 128 = .ok (.iload_n 2, 1) := by decide +kernel
theorem dX0_walk_129 : decode cX0_walk 129 = .ok (.aload_n 0, 1) := by decide +kernel
theorem dX0_walk_130 : decode cX0_walk 130 = .ok (.getfield 40, 3) := by decide +kernel
theorem dX0_walk_133 : decode cX0_walk 133 = .ok (.iconst (-1), 1) := by decide +kernel
theorem dX0_walk_134 : decode cX0_walk 134 = .ok (.invokevirtual 108, 3) := by decide +kernel
theorem dX0_walk_137 : decode cX0_walk 137 = .ok (.return_, 1) := by decide +kernel
theorem dX0_addBits_0 : decode cX0_addBits 0 = .ok (.iconst 0, 1) := by decide +kernel
theorem dX0_addBits_1 : decode cX0_addBits 1 = .ok (.istore 4, 2) := by decide +kernel
theorem dX0_addBits_3 : decode cX0_addBits 3 = .ok (.iload 4, 2) := by decide +kernel
theorem dX0_addBits_5 : decode cX0_addBits 5 = .ok (.iconst 4, 1) := by decide +kernel
theorem dX0_addBits_6 : decode cX0_addBits 6 = .ok (.if_icmp .ge 38, 3) := by decide +kernel
theorem dX0_addBits_9 : decode cX0_addBits 9 = .ok (.iload_n 2, 1) := by decide +kernel
theorem dX0_addBits_10 : decode cX0_addBits 10 = .ok (.bipush 62, 2) := by decide +kernel
theorem dX0_addBits_12 : decode cX0_addBits 12 = .ok (.if_icmp .ge 32, 3) := by decide +kernel
theorem dX0_addBits_15 : decode cX0_addBits 15 = .ok (.aload_n 0, 1) := by decide +kernel
theorem dX0_addBits_16 : decode cX0_addBits 16 = .ok (.getfield 9, 3) := by decide +kernel
theorem dX0_addBits_19 : decode cX0_addBits 19 = .ok (.iload 4, 2) := by decide +kernel
theorem dX0_addBits_21 : decode cX0_addBits 21 = .ok (.dup2, 1) := by decide +kernel
theorem dX0_addBits_22 : decode cX0_addBits 22 = .ok (.laload, 1) := by decide +kernel
theorem dX0_addBits_23 : decode cX0_addBits 23 = .ok (.iload_n 1, 1) := by decide +kernel
theorem dX0_addBits_24 : decode cX0_addBits 24 = .ok (.iload 4, 2) := by decide +kernel
theorem dX0_addBits_26 : decode cX0_addBits 26 = .ok (.iushr, 1) := by decide +kernel
theorem dX0_addBits_27 : decode cX0_addBits 27 = .ok (.iconst 1, 1) := by decide +kernel
theorem dX0_addBits_28 : decode cX0_addBits 28 = .ok (.iand, 1) := by decide +kernel
theorem dX0_addBits_29 : decode cX0_addBits 29 = .ok (.iload_n 3, 1) := by decide +kernel
theorem dX0_addBits_30 : decode cX0_addBits 30 = .ok (.imul, 1) := by decide +kernel
theorem dX0_addBits_31 : decode cX0_addBits 31 = .ok (.i2l, 1) := by decide +kernel
theorem dX0_addBits_32 : decode cX0_addBits 32 = .ok (.lconst 1, 1) := by decide +kernel
theorem dX0_addBits_33 : decode cX0_addBits 33 = .ok (.iload_n 2, 1) := by decide +kernel
theorem dX0_addBits_34 : decode cX0_addBits 34 = .ok (.lshl, 1) := by decide +kernel
theorem dX0_addBits_35 : decode cX0_addBits 35 = .ok (.lmul, 1) := by decide +kernel
theorem dX0_addBits_36 : decode cX0_addBits 36 = .ok (.ladd, 1) := by decide +kernel
theorem dX0_addBits_37 : decode cX0_addBits 37 = .ok (.lastore, 1) := by decide +kernel
theorem dX0_addBits_38 : decode cX0_addBits 38 = .ok (.iinc 4 1, 3) := by decide +kernel
theorem dX0_addBits_41 : decode cX0_addBits 41 = .ok (.goto (-38), 3) := by decide +kernel
theorem dX0_addBits_44 : decode cX0_addBits 44 = .ok (.return_, 1) := by decide +kernel
theorem dX6_judge_0 : decode cX6_judge 0 = .ok (.aload_n 0, 1) := by decide +kernel
theorem dX6_judge_1 : decode cX6_judge 1 = .ok (.iload_n 1, 1) := by decide +kernel
theorem dX6_judge_2 : decode cX6_judge 2 = .ok (.invokevirtual 48, 3) := by decide +kernel
theorem dX6_judge_5 : decode cX6_judge 5 = .ok (.ifCond .ne 5, 3) := by decide +kernel
theorem dX6_judge_10 : decode cX6_judge 10 = .ok (.iconst 0, 1) := by decide +kernel
theorem dX6_judge_11 : decode cX6_judge 11 = .ok (.istore_n 2, 1) := by decide +kernel
theorem dX6_judge_12 : decode cX6_judge 12 = .ok (.iload_n 2, 1) := by decide +kernel
theorem dX6_judge_13 : decode cX6_judge 13 = .ok (.aload_n 0, 1) := by decide +kernel
theorem dX6_judge_14 : decode cX6_judge 14 = .ok (.getfield 52, 3) := by decide +kernel
theorem dX6_judge_17 : decode cX6_judge 17 = .ok (.if_icmp .ge 59, 3) := by decide +kernel
theorem dX6_judge_20 : decode cX6_judge 20 = .ok (.iload_n 2, 1) := by decide +kernel
theorem dX6_judge_21 : decode cX6_judge 21 = .ok (.sipush 3000, 3) := by decide +kernel
theorem dX6_judge_24 : decode cX6_judge 24 = .ok (.if_icmp .ge 52, 3) := by decide +kernel
theorem dX6_judge_27 : decode cX6_judge 27 = .ok (.iconst 0, 1) := by decide +kernel
theorem dX6_judge_28 : decode cX6_judge 28 = .ok (.istore_n 3, 1) := by decide +kernel
theorem dX6_judge_29 : decode cX6_judge 29 = .ok (.iload_n 3, 1) := by decide +kernel
theorem dX6_judge_30 : decode cX6_judge 30 = .ok (.aload_n 0, 1) := by decide +kernel
theorem dX6_judge_31 : decode cX6_judge 31 = .ok (.getfield 56, 3) := by decide +kernel
theorem dX6_judge_34 : decode cX6_judge 34 = .ok (.if_icmp .ge 36, 3) := by decide +kernel
theorem dX6_judge_37 : decode cX6_judge 37 = .ok (.iload_n 3, 1) := by decide +kernel
theorem dX6_judge_38 : decode cX6_judge 38 = .ok (.bipush 16, 2) := by decide +kernel
theorem dX6_judge_40 : decode cX6_judge 40 = .ok (.if_icmp .ge 30, 3) := by decide +kernel
theorem dX6_judge_43 : decode cX6_judge 43 = .ok (.aload_n 0, 1) := by decide +kernel
theorem dX6_judge_44 : decode cX6_judge 44 = .ok (.getfield 38, 3) := by decide +kernel
theorem dX6_judge_47 : decode cX6_judge 47 = .ok (.iload_n 2, 1) := by decide +kernel
theorem dX6_judge_48 : decode cX6_judge 48 = .ok (.bipush 16, 2) := by decide +kernel
theorem dX6_judge_50 : decode cX6_judge 50 = .ok (.imul, 1) := by decide +kernel
theorem dX6_judge_51 : decode cX6_judge 51 = .ok (.iload_n 3, 1) := by decide +kernel
theorem dX6_judge_52 : decode cX6_judge 52 = .ok (.iadd, 1) := by decide +kernel
theorem dX6_judge_53 : decode cX6_judge 53 = .ok (.aload_n 0, 1) := by decide +kernel
theorem dX6_judge_54 : decode cX6_judge 54 = .ok (.aload_n 0, 1) := by decide +kernel
theorem dX6_judge_55 : decode cX6_judge 55 = .ok (.iload_n 2, 1) := by decide +kernel
theorem dX6_judge_56 : decode cX6_judge 56 = .ok (.iload_n 3, 1) := by decide +kernel
theorem dX6_judge_57 : decode cX6_judge 57 = .ok (.invokevirtual 59, 3) := by decide +kernel
theorem dX6_judge_60 : decode cX6_judge 60 = .ok (.invokevirtual 63, 3) := by decide +kernel
theorem dX6_judge_63 : decode cX6_judge 63 = .ok (.iastore, 1) := by decide +kernel
theorem dX6_judge_64 : decode cX6_judge 64 = .ok (.iinc 3 1, 3) := by decide +kernel
theorem dX6_judge_67 : decode cX6_judge 67 = .ok (.goto (-38), 3) := by decide +kernel
theorem dX6_judge_70 : decode cX6_judge 70 = .ok (.iinc 2 1, 3) := by decide +kernel
theorem dX6_judge_73 : decode cX6_judge 73 = .ok (.goto (-61), 3) := by decide +kernel
theorem dX6_judge_76 : decode cX6_judge 76 = .ok (.iconst 1, 1) := by decide +kernel
theorem dX6_judge_77 : decode cX6_judge 77 = .ok (.ireturn, 1) := by decide +kernel
theorem dX6_accepts_0 : decode cX6_accepts 0 = .ok (.iload_n 1, 1) := by decide +kernel
theorem dX6_accepts_1 : decode cX6_accepts 1 = .ok (.ifCond .lt 24, 3) := by decide +kernel
theorem dX6_accepts_4 : decode cX6_accepts 4 = .ok (.iload_n 1, 1) := by decide +kernel
theorem dX6_accepts_5 : decode cX6_accepts 5 = .ok (.sipush 3000, 3) := by decide +kernel
theorem dX6_accepts_8 : decode cX6_accepts 8 = .ok (.if_icmp .ge 17, 3) := by decide +kernel
theorem dX6_accepts_11 : decode cX6_accepts 11 = .ok (.iload_n 2, 1) := by decide +kernel
theorem dX6_accepts_12 : decode cX6_accepts 12 = .ok (.ifCond .lt 13, 3) := by decide +kernel
theorem dX6_accepts_15 : decode cX6_accepts 15 = .ok (.iload_n 2, 1) := by decide +kernel
theorem dX6_accepts_16 : decode cX6_accepts 16 = .ok (.bipush 16, 2) := by decide +kernel
theorem dX6_accepts_18 : decode cX6_accepts 18 = .ok (.if_icmp .ge 7, 3) := by decide +kernel
theorem dX6_accepts_21 : decode cX6_accepts 21 = .ok (.iconst 1, 1) := by decide +kernel
theorem dX6_accepts_22 : decode cX6_accepts 22 = .ok (.goto 4, 3) := by decide +kernel
theorem dX6_accepts_26 : decode cX6_accepts 26 = .ok (.istore 5, 2) := by decide +kernel
theorem dX6_accepts_28 : decode cX6_accepts 28 = .ok (.iload 5, 2) := by decide +kernel
theorem dX6_accepts_30 : decode cX6_accepts 30 = .ok (.ifCond .eq 17, 3) := by decide +kernel
theorem dX6_accepts_33 : decode cX6_accepts 33 = .ok (.aload_n 0, 1) := by decide +kernel
theorem dX6_accepts_34 : decode cX6_accepts 34 = .ok (.getfield 38, 3) := by decide +kernel
theorem dX6_accepts_37 : decode cX6_accepts 37 = .ok (.iload_n 1, 1) := by decide +kernel
theorem dX6_accepts_38 : decode cX6_accepts 38 = .ok (.bipush 16, 2) := by decide +kernel
theorem dX6_accepts_40 : decode cX6_accepts 40 = .ok (.imul, 1) := by decide +kernel
theorem dX6_accepts_41 : decode cX6_accepts 41 = .ok (.iload_n 2, 1) := by decide +kernel
theorem dX6_accepts_42 : decode cX6_accepts 42 = .ok (.iadd, 1) := by decide +kernel
theorem dX6_accepts_43 : decode cX6_accepts 43 = .ok (.iaload, 1) := by decide +kernel
theorem dX6_accepts_44 : decode cX6_accepts 44 = .ok (.goto 4, 3) := by decide +kernel
theorem dX6_accepts_48 : decode cX6_accepts 48 = .ok (.istore 6, 2) := by decide +kernel
theorem dX6_accepts_50 : decode cX6_accepts 50 = .ok (.iload 5, 2) := by decide +kernel
theorem dX6_accepts_52 : decode cX6_accepts 52 = .ok (.ifCond .eq 23, 3) := by decide +kernel
theorem dX6_accepts_55 : decode cX6_accepts 55 = .ok (.iload 6, 2) := by decide +kernel
theorem dX6_accepts_57 : decode cX6_accepts 57 = .ok (.iload_n 3, 1) := by decide +kernel
theorem dX6_accepts_58 : decode cX6_accepts 58 = .ok (.iand, 1) := by decide +kernel
theorem dX6_accepts_59 : decode cX6_accepts 59 = .ok (.iload_n 3, 1) := by decide +kernel
theorem dX6_accepts_60 : decode cX6_accepts 60 = .ok (.if_icmp .ne 15, 3) := by decide +kernel
theorem dX6_accepts_63 : decode cX6_accepts 63 = .ok (.iload 6, 2) := by decide +kernel
theorem dX6_accepts_65 : decode cX6_accepts 65 = .ok (.iload 4, 2) := by decide +kernel
theorem dX6_accepts_67 : decode cX6_accepts 67 = .ok (.iand, 1) := by decide +kernel
theorem dX6_accepts_68 : decode cX6_accepts 68 = .ok (.ifCond .ne 7, 3) := by decide +kernel
theorem dX6_accepts_71 : decode cX6_accepts 71 = .ok (.iconst 1, 1) := by decide +kernel
theorem dX6_accepts_72 : decode cX6_accepts 72 = .ok (.goto 4, 3) := by decide +kernel
theorem dX6_accepts_76 : decode cX6_accepts 76 = .ok (.ireturn, 1) := by decide +kernel
theorem dX6_acceptedBy_0 : decode cX6_acceptedBy 0 = .ok (.iconst 0, 1) := by decide +kernel
theorem dX6_acceptedBy_1 : decode cX6_acceptedBy 1 = .ok (.istore 4, 2) := by decide +kernel
theorem dX6_acceptedBy_3 : decode cX6_acceptedBy 3 = .ok (.iconst 0, 1) := by decide +kernel
theorem dX6_acceptedBy_4 : decode cX6_acceptedBy 4 = .ok (.istore 5, 2) := by decide +kernel
theorem dX6_acceptedBy_6 : decode cX6_acceptedBy 6 = .ok (.iload 5, 2) := by decide +kernel
theorem dX6_acceptedBy_8 : decode cX6_acceptedBy 8 = .ok (.aload_n 0, 1) := by decide +kernel
theorem dX6_acceptedBy_9 : decode cX6_acceptedBy 9 = .ok (.getfield 56, 3) := by decide +kernel
theorem dX6_acceptedBy_12 : decode cX6_acceptedBy 12 = .ok (.if_icmp .ge 34, 3) := by decide +kernel
theorem dX6_acceptedBy_15 : decode cX6_acceptedBy 15 = .ok (.iload 4, 2) := by decide +kernel
theorem dX6_acceptedBy_17 : decode cX6_acceptedBy 17 = .ok (.aload_n 0, 1) := by decide +kernel
theorem dX6_acceptedBy_18 : decode cX6_acceptedBy 18 = .ok (.iload_n 1, 1) := by decide +kernel
theorem dX6_acceptedBy_19 : decode cX6_acceptedBy 19 = .ok (.iload 5, 2) := by decide +kernel
theorem dX6_acceptedBy_21 : decode cX6_acceptedBy 21 = .ok (.iload_n 2, 1) := by decide +kernel
theorem dX6_acceptedBy_22 : decode cX6_acceptedBy 22 = .ok (.iload_n 3, 1) := by decide +kernel
theorem dX6_acceptedBy_23 : decode cX6_acceptedBy 23 = .ok (.invokevirtual 123, 3) := by decide +kernel
theorem dX6_acceptedBy_26 : decode cX6_acceptedBy 26 = .ok (.ifCond .eq 10, 3) := by decide +kernel
theorem dX6_acceptedBy_29 : decode cX6_acceptedBy 29 = .ok (.iconst 1, 1) := by decide +kernel
theorem dX6_acceptedBy_30 : decode cX6_acceptedBy 30 = .ok (.iload 5, 2) := by decide +kernel
theorem dX6_acceptedBy_32 : decode cX6_acceptedBy 32 = .ok (.ishl, 1) := by decide +kernel
theorem dX6_acceptedBy_33 : decode cX6_acceptedBy 33 = .ok (.goto 4, 3) := by decide +kernel
theorem dX6_acceptedBy_37 : decode cX6_acceptedBy 37 = .ok (.ior, 1) := by decide +kernel
theorem dX6_acceptedBy_38 : decode cX6_acceptedBy 38 = .ok (.istore 4, 2) := by decide +kernel
theorem dX6_acceptedBy_40 : decode cX6_acceptedBy 40 = .ok (.iinc 5 1, 3) := by decide +kernel
theorem dX6_acceptedBy_43 : decode cX6_acceptedBy 43 = .ok (.goto (-37), 3) := by decide +kernel
theorem dX6_acceptedBy_46 : decode cX6_acceptedBy 46 = .ok (.iload 4, 2) := by decide +kernel
theorem dX6_acceptedBy_48 : decode cX6_acceptedBy 48 = .ok (.ireturn, 1) := by decide +kernel
theorem dJ7_fill_d0a16_0 : decode cJ7_fill_d0a16 0 = .ok (.iconst 0, 1) := by decide +kernel
theorem dJ7_fill_d0a16_1 : decode cJ7_fill_d0a16 1 = .ok (.istore_n 3, 1) := by decide +kernel
theorem dJ7_fill_d0a16_2 : decode cJ7_fill_d0a16 2 = .ok (.aload_n 0, 1) := by decide +kernel
theorem dJ7_fill_d0a16_3 : decode cJ7_fill_d0a16 3 = .ok (.arraylength, 1) := by decide +kernel
theorem dJ7_fill_d0a16_4 : decode cJ7_fill_d0a16 4 = .ok (.istore 4, 2) := by decide +kernel
theorem dJ7_fill_d0a16_6 : decode cJ7_fill_d0a16 6 = .ok (.iload_n 3, 1) := by decide +kernel
theorem dJ7_fill_d0a16_7 : decode cJ7_fill_d0a16 7 = .ok (.iload 4, 2) := by decide +kernel
theorem dJ7_fill_d0a16_9 : decode cJ7_fill_d0a16 9 = .ok (.if_icmp .ge 13, 3) := by decide +kernel
theorem dJ7_fill_d0a16_12 : decode cJ7_fill_d0a16 12 = .ok (.aload_n 0, 1) := by decide +kernel
theorem dJ7_fill_d0a16_13 : decode cJ7_fill_d0a16 13 = .ok (.iload_n 3, 1) := by decide +kernel
theorem dJ7_fill_d0a16_14 : decode cJ7_fill_d0a16 14 = .ok (.lload_n 1, 1) := by decide +kernel
theorem dJ7_fill_d0a16_15 : decode cJ7_fill_d0a16 15 = .ok (.lastore, 1) := by decide +kernel
theorem dJ7_fill_d0a16_16 : decode cJ7_fill_d0a16 16 = .ok (.iinc 3 1, 3) := by decide +kernel
theorem dJ7_fill_d0a16_19 : decode cJ7_fill_d0a16 19 = .ok (.goto (-13), 3) := by decide +kernel
theorem dJ7_fill_d0a16_22 : decode cJ7_fill_d0a16 22 = .ok (.return_, 1) := by decide +kernel
set_option maxHeartbeats 400000000 in
set_option maxRecDepth 100000 in
theorem c_X6_judge_0 (l : Launch) (E : kE) (D : va_G) (cI cJ cB cZ : ClassId) (h0 : Nat) (f0 : List Value) (h1 : Nat) (f1 : List Value) (h2 : Nat) (h3 : Nat) (g0 : Nat → Int32) (g1 : Nat → Int32) (h4 : Nat) (g2 : Nat → Int32) (e0 : f0[10]? = some (.int 0)) (e1 : f0[11]? = some (.int 0)) (e2 : f0[0]? = some (.ref h1)) (e3 : f1[10]? = some (.int 0)) (e4 : f0[12]? = some (.int 0)) (e5 : f0[9]? = some (.ref h2)) (e6 : f0[13]? = some (.int 0)) (e7 : f0[7]? = some (.ref h3)) (e8 : f0[8]? = some (.ref h4)) : kI l E D (kT cI cJ cB cZ) yX6_judge vW_X6_judge ({ frames := 4, cells := 0, slots := 0, locals := 92 }) [.ref h0, .int 0] [(h0, .inr (6, f0)), (h1, .inr (2, f1)), (h2, .inl (cI, 8192, .inl g0)), (h3, .inl (cI, 48000, .inl g1)), (h4, .inl (cI, 48000, .inl g2))] (1) [(h0, .inr (6, ((((((((((((((((((((((((((((((f0.set 10 (.int 0)).set 11 (.int 0)).set 12 (.int 1)).set 11 (.int 0)).set 11 (.int 0)).set 11 (.int 0)).set 11 (.int 0)).set 11 (.int 0)).set 11 (.int 0)).set 11 (.int 0)).set 11 (.int 0)).set 11 (.int 0)).set 11 (.int 0)).set 11 (.int 0)).set 11 (.int 0)).set 11 (.int 0)).set 11 (.int 0)).set 11 (.int 0)).set 11 (.int 0)).set 11 (.int 0)).set 11 (.int 0)).set 11 (.int 0)).set 11 (.int 0)).set 11 (.int 0)).set 11 (.int 0)).set 11 (.int 0)).set 11 (.int 0)).set 11 (.int 0)).set 13 (.int 0)).set 13 (.int 1)))), (h1, .inr (2, f1)), (h2, .inl (cI, 8192, .inl (upd (k_fill 0 8192 g0) 782 1))), (h3, .inl (cI, 48000, .inl (upd g1 0 0))), (h4, .inl (cI, 48000, .inl (upd g2 0 0)))] 0 0 := by
  intro sz
  refine Met.ofW (cc := cX6_judge) (maxL := 4) (ret := (some .boolean)) (by decide) rfl ?_
  intro p e s m args below meth c s₁ B hml hv
  obtain ⟨rfl, hsz, hP, hK, hD0, hN, hX⟩ := hv
  have hx := B.exec
  have hb := B.bytes
  have hr := B.returns
  have hts := atoms_spec (ws := vW_X6_judge) B.pre
  have hown : s.vm.findClass RX6 = some m.cls := findClass_of_methodNamed B.named
  have hlocks := B.notSynchronized
  have hin6 : ∀ w ∈ wsX60, w ∈ vW_X6_judge := u9_X6_judge_wsX60
  subst hsz
  have hD := hD0.self (sz := s.heap.size)
  have hAE := k_AE hD0 hX
  generalize hAe : va_A [(h0, .inr (6, f0)), (h1, .inr (2, f1)), (h2, .inl (cI, 8192, .inl g0)), (h3, .inl (cI, 48000, .inl g1)), (h4, .inl (cI, 48000, .inl g2))] s.heap.size = A at hD hAE ⊢
  have hA : ∀ q : Nat, s.heap.size ≤ q → A q := fun q h => by rw [← hAe]; exact Or.inr h
  have hS : va_S A s.heap s.heap [] := va_S.rf
  have hP : va_P D vwCl [(h0, .inr (6, f0)), (h1, .inr (2, f1)), (h2, .inl (cI, 8192, .inl g0)), (h3, .inl (cI, 48000, .inl g1)), (h4, .inl (cI, 48000, .inl g2))] s.heap := hP
  have hl := lv_entry ([.ref h0, .int 0] : List Value) (n := 4) (Nat.le_of_ble_eq_true rfl)
  rw [lg_entry_eq]
  generalize (lg_sl ([.ref h0, .int 0]) ++ List.replicate (4 - (lg_sl ([.ref h0, .int 0])).length) Slot.unset).toArray = ls at hl ⊢
  have hl : lv_has ls 4 [(0, .ref h0), (1, .int 0)] := hl
  refine lv_aload_n hx hb dX6_judge_0 rfl (lv_at hl 0 rfl) ?_
  refine lv_iload_n hx hb dX6_judge_1 rfl (lv_at hl 1 rfl) ?_
  refine k_cVi (As := [.int 0]) (rest := []) (wc := [(h0, .inr (6, f0)), (h1, .inr (2, f1)), (h2, .inl (cI, 8192, .inl g0)), (h3, .inl (cI, 48000, .inl g1))]) (wr := [(h4, .inl (cI, 48000, .inl g2))]) (w1 := [(h0, .inr (6, ((((((((((((((((((((((((((((((f0.set 10 (.int 0)).set 11 (.int 0)).set 12 (.int 1)).set 11 (.int 0)).set 11 (.int 0)).set 11 (.int 0)).set 11 (.int 0)).set 11 (.int 0)).set 11 (.int 0)).set 11 (.int 0)).set 11 (.int 0)).set 11 (.int 0)).set 11 (.int 0)).set 11 (.int 0)).set 11 (.int 0)).set 11 (.int 0)).set 11 (.int 0)).set 11 (.int 0)).set 11 (.int 0)).set 11 (.int 0)).set 11 (.int 0)).set 11 (.int 0)).set 11 (.int 0)).set 11 (.int 0)).set 11 (.int 0)).set 11 (.int 0)).set 11 (.int 0)).set 11 (.int 0)).set 13 (.int 0)).set 13 (.int 1)))), (h1, .inr (2, f1)), (h2, .inl (cI, 8192, .inl (upd (k_fill 0 8192 g0) 782 1))), (h3, .inl (cI, 48000, .inl (upd g1 0 0)))]) ⟨hx, hb, hml, hown, hts⟩ hN hX hAE hK hP hD hS hA [0, 1, 2, 3] [4] (ci := 6) rfl rfl rfl rfl (by decide +kernel) (by decide +kernel) (by decide +kernel) (c_X6_explore_0 l E D cI cJ cB cZ h0 f0 h1 f1 h2 g0 h3 g1 e0 e1 e2 e3 e4 e5 e6 e7) (cwV 1 hts g9_X6_judge_X6_explore_48 rfl rfl rfl (by decide +kernel) ⟨Nat.le_of_ble_eq_true rfl, Nat.le_of_ble_eq_true rfl⟩) rfl hl.1 (Nat.le_of_ble_eq_true rfl) dX6_judge_2 ⟨Nat.le_of_ble_eq_true rfl, Nat.le_of_ble_eq_true rfl⟩ (fun H locs hP hD hS => ?_)
  have hP : va_P D vwCl [(h4, .inl (cI, 48000, .inl g2)), (h0, .inr (6, ((((((((((((((((((((((((((((((f0.set 10 (.int 0)).set 11 (.int 0)).set 12 (.int 1)).set 11 (.int 0)).set 11 (.int 0)).set 11 (.int 0)).set 11 (.int 0)).set 11 (.int 0)).set 11 (.int 0)).set 11 (.int 0)).set 11 (.int 0)).set 11 (.int 0)).set 11 (.int 0)).set 11 (.int 0)).set 11 (.int 0)).set 11 (.int 0)).set 11 (.int 0)).set 11 (.int 0)).set 11 (.int 0)).set 11 (.int 0)).set 11 (.int 0)).set 11 (.int 0)).set 11 (.int 0)).set 11 (.int 0)).set 11 (.int 0)).set 11 (.int 0)).set 11 (.int 0)).set 11 (.int 0)).set 13 (.int 0)).set 13 (.int 1)))), (h1, .inr (2, f1)), (h2, .inl (cI, 8192, .inl (upd (k_fill 0 8192 g0) 782 1))), (h3, .inl (cI, 48000, .inl (upd g1 0 0)))] H := hP
  have hD : va_D A [(h4, .inl (cI, 48000, .inl g2)), (h0, .inr (6, ((((((((((((((((((((((((((((((f0.set 10 (.int 0)).set 11 (.int 0)).set 12 (.int 1)).set 11 (.int 0)).set 11 (.int 0)).set 11 (.int 0)).set 11 (.int 0)).set 11 (.int 0)).set 11 (.int 0)).set 11 (.int 0)).set 11 (.int 0)).set 11 (.int 0)).set 11 (.int 0)).set 11 (.int 0)).set 11 (.int 0)).set 11 (.int 0)).set 11 (.int 0)).set 11 (.int 0)).set 11 (.int 0)).set 11 (.int 0)).set 11 (.int 0)).set 11 (.int 0)).set 11 (.int 0)).set 11 (.int 0)).set 11 (.int 0)).set 11 (.int 0)).set 11 (.int 0)).set 11 (.int 0)).set 13 (.int 0)).set 13 (.int 1)))), (h1, .inr (2, f1)), (h2, .inl (cI, 8192, .inl (upd (k_fill 0 8192 g0) 782 1))), (h3, .inl (cI, 48000, .inl (upd g1 0 0)))] := hD
  refine lv_if_ne (tgt := 10) hx hb dX6_judge_5 (by decide) (fun _ => ?_) (fun c9 => absurd c9 (by decide))
  refine lv_iconst (v := 0) hx hb dX6_judge_10 (by decide) ?_
  refine lv_istore_n (lv' := [(2, .int 0), (0, .ref h0), (1, .int 0)]) hx hb dX6_judge_11 rfl hl (by decide) rfl (fun ls hl => ?_)
  refine lv_iload_n hx hb dX6_judge_12 rfl (lv_at hl 0 rfl) ?_
  refine lv_aload_n hx hb dX6_judge_13 rfl (lv_at hl 1 rfl) ?_
  refine k_get (D := D) (ci := 6) (v := .int 1) (N := 14) hx hb hts hin6 hown hK hP 1 rfl rfl (by decide) f9_6_13 (hts (.fieldLink RX6 52 "IntegerHouse$Places" "size" "I") (o9_X6_judge _ (List.mem_of_getElem? (i := 4) rfl))) (k_set (k_set (k_ne (by decide) (k_ne (by decide) (k_ne (by decide) (k_ne (by decide) (k_ne (by decide) (k_ne (by decide) (k_ne (by decide) (k_ne (by decide) (k_ne (by decide) (k_ne (by decide) (k_ne (by decide) (k_ne (by decide) (k_ne (by decide) (k_ne (by decide) (k_ne (by decide) (k_ne (by decide) (k_ne (by decide) (k_ne (by decide) (k_ne (by decide) (k_ne (by decide) (k_ne (by decide) (k_ne (by decide) (k_ne (by decide) (k_ne (by decide) (k_ne (by decide) (k_ne (by decide) (k_ne (by decide) (k_ne (by decide) e6)))))))))))))))))))))))))))))) dX6_judge_14 ?_
  refine lv_icmp_ge (tgt := 76) hx hb dX6_judge_17 (by decide) (fun c9 => absurd c9 (by decide)) (fun _ => ?_)
  refine lv_iload_n hx hb dX6_judge_20 rfl (lv_at hl 0 rfl) ?_
  refine lv_sipush (v := 3000) hx hb dX6_judge_21 (by decide) ?_
  refine lv_icmp_ge (tgt := 76) hx hb dX6_judge_24 (by decide) (fun c9 => absurd c9 (by decide)) (fun _ => ?_)
  refine lv_iconst (v := 0) hx hb dX6_judge_27 (by decide) ?_
  refine lv_istore_n (lv' := [(3, .int 0), (2, .int 0), (0, .ref h0), (1, .int 0)]) hx hb dX6_judge_28 rfl hl (by decide) rfl (fun ls hl => ?_)
  refine lv_iload_n hx hb dX6_judge_29 rfl (lv_at hl 0 rfl) ?_
  refine lv_aload_n hx hb dX6_judge_30 rfl (lv_at hl 2 rfl) ?_
  refine k_get (D := D) (ci := 6) (v := .int 1) (N := 14) hx hb hts hin6 hown hK hP 1 rfl rfl (by decide) f9_6_12 (hts (.fieldLink RX6 56 "IntegerHouse$Places" "letters" "I") (o9_X6_judge _ (List.mem_of_getElem? (i := 5) rfl))) (k_ne (by decide) (k_ne (by decide) (k_ne (by decide) (k_ne (by decide) (k_ne (by decide) (k_ne (by decide) (k_ne (by decide) (k_ne (by decide) (k_ne (by decide) (k_ne (by decide) (k_ne (by decide) (k_ne (by decide) (k_ne (by decide) (k_ne (by decide) (k_ne (by decide) (k_ne (by decide) (k_ne (by decide) (k_ne (by decide) (k_ne (by decide) (k_ne (by decide) (k_ne (by decide) (k_ne (by decide) (k_ne (by decide) (k_ne (by decide) (k_ne (by decide) (k_ne (by decide) (k_ne (by decide) (k_set (k_ne (by decide) (k_ne (by decide) e4)))))))))))))))))))))))))))))) dX6_judge_31 ?_
  refine lv_icmp_ge (tgt := 70) hx hb dX6_judge_34 (by decide) (fun c9 => absurd c9 (by decide)) (fun _ => ?_)
  refine lv_iload_n hx hb dX6_judge_37 rfl (lv_at hl 0 rfl) ?_
  refine lv_bipush (v := 16) hx hb dX6_judge_38 (by decide) ?_
  refine lv_icmp_ge (tgt := 70) hx hb dX6_judge_40 (by decide) (fun c9 => absurd c9 (by decide)) (fun _ => ?_)
  refine lv_aload_n hx hb dX6_judge_43 rfl (lv_at hl 2 rfl) ?_
  refine k_get (D := D) (ci := 6) (v := .ref h4) (N := 14) hx hb hts hin6 hown hK hP 1 rfl rfl (by decide) f9_6_8 (hts (.fieldLink RX6 38 "IntegerHouse$Places" "so" "[I") (o9_X6_judge _ (List.mem_of_getElem? (i := 6) rfl))) (k_ne (by decide) (k_ne (by decide) (k_ne (by decide) (k_ne (by decide) (k_ne (by decide) (k_ne (by decide) (k_ne (by decide) (k_ne (by decide) (k_ne (by decide) (k_ne (by decide) (k_ne (by decide) (k_ne (by decide) (k_ne (by decide) (k_ne (by decide) (k_ne (by decide) (k_ne (by decide) (k_ne (by decide) (k_ne (by decide) (k_ne (by decide) (k_ne (by decide) (k_ne (by decide) (k_ne (by decide) (k_ne (by decide) (k_ne (by decide) (k_ne (by decide) (k_ne (by decide) (k_ne (by decide) (k_ne (by decide) (k_ne (by decide) (k_ne (by decide) e8)))))))))))))))))))))))))))))) dX6_judge_44 ?_
  refine lv_iload_n hx hb dX6_judge_47 rfl (lv_at hl 1 rfl) ?_
  refine lv_bipush (v := 16) hx hb dX6_judge_48 (by decide) ?_
  refine lv_imul hx hb dX6_judge_50 ?_
  refine k_topi (y := 0) (by decide) ?_
  refine lv_iload_n hx hb dX6_judge_51 rfl (lv_at hl 0 rfl) ?_
  refine lv_iadd hx hb dX6_judge_52 ?_
  refine k_topi (y := 0) (by decide) ?_
  refine lv_aload_n hx hb dX6_judge_53 rfl (lv_at hl 2 rfl) ?_
  refine lv_aload_n hx hb dX6_judge_54 rfl (lv_at hl 2 rfl) ?_
  refine lv_iload_n hx hb dX6_judge_55 rfl (lv_at hl 1 rfl) ?_
  refine lv_iload_n hx hb dX6_judge_56 rfl (lv_at hl 0 rfl) ?_
  refine k_cVi (As := [.int 0, .int 0]) (rest := [.ref h0, .int 0, .ref h4]) (wc := [(h0, .inr (6, ((((((((((((((((((((((((((((((f0.set 10 (.int 0)).set 11 (.int 0)).set 12 (.int 1)).set 11 (.int 0)).set 11 (.int 0)).set 11 (.int 0)).set 11 (.int 0)).set 11 (.int 0)).set 11 (.int 0)).set 11 (.int 0)).set 11 (.int 0)).set 11 (.int 0)).set 11 (.int 0)).set 11 (.int 0)).set 11 (.int 0)).set 11 (.int 0)).set 11 (.int 0)).set 11 (.int 0)).set 11 (.int 0)).set 11 (.int 0)).set 11 (.int 0)).set 11 (.int 0)).set 11 (.int 0)).set 11 (.int 0)).set 11 (.int 0)).set 11 (.int 0)).set 11 (.int 0)).set 11 (.int 0)).set 13 (.int 0)).set 13 (.int 1))))]) (wr := [(h4, .inl (cI, 48000, .inl g2)), (h1, .inr (2, f1)), (h2, .inl (cI, 8192, .inl (upd (k_fill 0 8192 g0) 782 1))), (h3, .inl (cI, 48000, .inl (upd g1 0 0)))]) (w1 := [(h0, .inr (6, ((((((((((((((((((((((((((((((f0.set 10 (.int 0)).set 11 (.int 0)).set 12 (.int 1)).set 11 (.int 0)).set 11 (.int 0)).set 11 (.int 0)).set 11 (.int 0)).set 11 (.int 0)).set 11 (.int 0)).set 11 (.int 0)).set 11 (.int 0)).set 11 (.int 0)).set 11 (.int 0)).set 11 (.int 0)).set 11 (.int 0)).set 11 (.int 0)).set 11 (.int 0)).set 11 (.int 0)).set 11 (.int 0)).set 11 (.int 0)).set 11 (.int 0)).set 11 (.int 0)).set 11 (.int 0)).set 11 (.int 0)).set 11 (.int 0)).set 11 (.int 0)).set 11 (.int 0)).set 11 (.int 0)).set 13 (.int 0)).set 13 (.int 1))))]) ⟨hx, hb, hml, hown, hts⟩ hN hX hAE hK hP hD hS hA [1] [0, 2, 3, 4] (ci := 6) rfl rfl rfl rfl (by decide +kernel) (by decide +kernel) (by decide +kernel) (c_X6_atomsAt_0 l E D cI cJ cB cZ h0 (((((((((((((((((((((((((((((((f0.set 10 (.int 0)).set 11 (.int 0)).set 12 (.int 1)).set 11 (.int 0)).set 11 (.int 0)).set 11 (.int 0)).set 11 (.int 0)).set 11 (.int 0)).set 11 (.int 0)).set 11 (.int 0)).set 11 (.int 0)).set 11 (.int 0)).set 11 (.int 0)).set 11 (.int 0)).set 11 (.int 0)).set 11 (.int 0)).set 11 (.int 0)).set 11 (.int 0)).set 11 (.int 0)).set 11 (.int 0)).set 11 (.int 0)).set 11 (.int 0)).set 11 (.int 0)).set 11 (.int 0)).set 11 (.int 0)).set 11 (.int 0)).set 11 (.int 0)).set 11 (.int 0)).set 13 (.int 0)).set 13 (.int 1))) (k_ne (by decide) (k_ne (by decide) (k_ne (by decide) (k_ne (by decide) (k_ne (by decide) (k_ne (by decide) (k_ne (by decide) (k_ne (by decide) (k_ne (by decide) (k_ne (by decide) (k_ne (by decide) (k_ne (by decide) (k_ne (by decide) (k_ne (by decide) (k_ne (by decide) (k_ne (by decide) (k_ne (by decide) (k_ne (by decide) (k_ne (by decide) (k_ne (by decide) (k_ne (by decide) (k_ne (by decide) (k_ne (by decide) (k_ne (by decide) (k_ne (by decide) (k_ne (by decide) (k_ne (by decide) (k_ne (by decide) (k_ne (by decide) (k_set e0))))))))))))))))))))))))))))))) (cwV 2 hts g9_X6_judge_X6_atomsAt_59 rfl rfl rfl (by decide +kernel) ⟨Nat.le_of_ble_eq_true rfl, Nat.le_of_ble_eq_true rfl⟩) rfl hl.1 (Nat.le_of_ble_eq_true rfl) dX6_judge_57 ⟨Nat.le_of_ble_eq_true rfl, Nat.le_of_ble_eq_true rfl⟩ (fun H locs hP hD hS => ?_)
  have hP : va_P D vwCl [(h4, .inl (cI, 48000, .inl g2)), (h1, .inr (2, f1)), (h2, .inl (cI, 8192, .inl (upd (k_fill 0 8192 g0) 782 1))), (h3, .inl (cI, 48000, .inl (upd g1 0 0))), (h0, .inr (6, ((((((((((((((((((((((((((((((f0.set 10 (.int 0)).set 11 (.int 0)).set 12 (.int 1)).set 11 (.int 0)).set 11 (.int 0)).set 11 (.int 0)).set 11 (.int 0)).set 11 (.int 0)).set 11 (.int 0)).set 11 (.int 0)).set 11 (.int 0)).set 11 (.int 0)).set 11 (.int 0)).set 11 (.int 0)).set 11 (.int 0)).set 11 (.int 0)).set 11 (.int 0)).set 11 (.int 0)).set 11 (.int 0)).set 11 (.int 0)).set 11 (.int 0)).set 11 (.int 0)).set 11 (.int 0)).set 11 (.int 0)).set 11 (.int 0)).set 11 (.int 0)).set 11 (.int 0)).set 11 (.int 0)).set 13 (.int 0)).set 13 (.int 1))))] H := hP
  have hD : va_D A [(h4, .inl (cI, 48000, .inl g2)), (h1, .inr (2, f1)), (h2, .inl (cI, 8192, .inl (upd (k_fill 0 8192 g0) 782 1))), (h3, .inl (cI, 48000, .inl (upd g1 0 0))), (h0, .inr (6, ((((((((((((((((((((((((((((((f0.set 10 (.int 0)).set 11 (.int 0)).set 12 (.int 1)).set 11 (.int 0)).set 11 (.int 0)).set 11 (.int 0)).set 11 (.int 0)).set 11 (.int 0)).set 11 (.int 0)).set 11 (.int 0)).set 11 (.int 0)).set 11 (.int 0)).set 11 (.int 0)).set 11 (.int 0)).set 11 (.int 0)).set 11 (.int 0)).set 11 (.int 0)).set 11 (.int 0)).set 11 (.int 0)).set 11 (.int 0)).set 11 (.int 0)).set 11 (.int 0)).set 11 (.int 0)).set 11 (.int 0)).set 11 (.int 0)).set 11 (.int 0)).set 11 (.int 0)).set 11 (.int 0)).set 13 (.int 0)).set 13 (.int 1))))] := hD
  refine k_cVi (As := [.int 0]) (rest := [.int 0, .ref h4]) (wc := [(h0, .inr (6, ((((((((((((((((((((((((((((((f0.set 10 (.int 0)).set 11 (.int 0)).set 12 (.int 1)).set 11 (.int 0)).set 11 (.int 0)).set 11 (.int 0)).set 11 (.int 0)).set 11 (.int 0)).set 11 (.int 0)).set 11 (.int 0)).set 11 (.int 0)).set 11 (.int 0)).set 11 (.int 0)).set 11 (.int 0)).set 11 (.int 0)).set 11 (.int 0)).set 11 (.int 0)).set 11 (.int 0)).set 11 (.int 0)).set 11 (.int 0)).set 11 (.int 0)).set 11 (.int 0)).set 11 (.int 0)).set 11 (.int 0)).set 11 (.int 0)).set 11 (.int 0)).set 11 (.int 0)).set 11 (.int 0)).set 13 (.int 0)).set 13 (.int 1))))]) (wr := [(h4, .inl (cI, 48000, .inl g2)), (h1, .inr (2, f1)), (h2, .inl (cI, 8192, .inl (upd (k_fill 0 8192 g0) 782 1))), (h3, .inl (cI, 48000, .inl (upd g1 0 0)))]) (w1 := [(h0, .inr (6, ((((((((((((((((((((((((((((((f0.set 10 (.int 0)).set 11 (.int 0)).set 12 (.int 1)).set 11 (.int 0)).set 11 (.int 0)).set 11 (.int 0)).set 11 (.int 0)).set 11 (.int 0)).set 11 (.int 0)).set 11 (.int 0)).set 11 (.int 0)).set 11 (.int 0)).set 11 (.int 0)).set 11 (.int 0)).set 11 (.int 0)).set 11 (.int 0)).set 11 (.int 0)).set 11 (.int 0)).set 11 (.int 0)).set 11 (.int 0)).set 11 (.int 0)).set 11 (.int 0)).set 11 (.int 0)).set 11 (.int 0)).set 11 (.int 0)).set 11 (.int 0)).set 11 (.int 0)).set 11 (.int 0)).set 13 (.int 0)).set 13 (.int 1))))]) ⟨hx, hb, hml, hown, hts⟩ hN hX hAE hK hP hD hS hA [4] [0, 1, 2, 3] (ci := 6) rfl rfl rfl rfl (by decide +kernel) (by decide +kernel) (by decide +kernel) (c_X6_soOf_0 l E D cI cJ cB cZ h0 (((((((((((((((((((((((((((((((f0.set 10 (.int 0)).set 11 (.int 0)).set 12 (.int 1)).set 11 (.int 0)).set 11 (.int 0)).set 11 (.int 0)).set 11 (.int 0)).set 11 (.int 0)).set 11 (.int 0)).set 11 (.int 0)).set 11 (.int 0)).set 11 (.int 0)).set 11 (.int 0)).set 11 (.int 0)).set 11 (.int 0)).set 11 (.int 0)).set 11 (.int 0)).set 11 (.int 0)).set 11 (.int 0)).set 11 (.int 0)).set 11 (.int 0)).set 11 (.int 0)).set 11 (.int 0)).set 11 (.int 0)).set 11 (.int 0)).set 11 (.int 0)).set 11 (.int 0)).set 11 (.int 0)).set 13 (.int 0)).set 13 (.int 1))) (k_ne (by decide) (k_ne (by decide) (k_set (k_set (k_set (k_set (k_set (k_set (k_set (k_set (k_set (k_set (k_set (k_set (k_set (k_set (k_set (k_set (k_set (k_set (k_set (k_set (k_set (k_set (k_set (k_set (k_set (k_ne (by decide) (k_set (k_ne (by decide) e1))))))))))))))))))))))))))))))) (cwV 1 hts g9_X6_judge_X6_soOf_63 rfl rfl rfl (by decide +kernel) ⟨Nat.le_of_ble_eq_true rfl, Nat.le_of_ble_eq_true rfl⟩) rfl hl.1 (Nat.le_of_ble_eq_true rfl) dX6_judge_60 ⟨Nat.le_of_ble_eq_true rfl, Nat.le_of_ble_eq_true rfl⟩ (fun H locs hP hD hS => ?_)
  have hP : va_P D vwCl [(h4, .inl (cI, 48000, .inl g2)), (h1, .inr (2, f1)), (h2, .inl (cI, 8192, .inl (upd (k_fill 0 8192 g0) 782 1))), (h3, .inl (cI, 48000, .inl (upd g1 0 0))), (h0, .inr (6, ((((((((((((((((((((((((((((((f0.set 10 (.int 0)).set 11 (.int 0)).set 12 (.int 1)).set 11 (.int 0)).set 11 (.int 0)).set 11 (.int 0)).set 11 (.int 0)).set 11 (.int 0)).set 11 (.int 0)).set 11 (.int 0)).set 11 (.int 0)).set 11 (.int 0)).set 11 (.int 0)).set 11 (.int 0)).set 11 (.int 0)).set 11 (.int 0)).set 11 (.int 0)).set 11 (.int 0)).set 11 (.int 0)).set 11 (.int 0)).set 11 (.int 0)).set 11 (.int 0)).set 11 (.int 0)).set 11 (.int 0)).set 11 (.int 0)).set 11 (.int 0)).set 11 (.int 0)).set 11 (.int 0)).set 13 (.int 0)).set 13 (.int 1))))] H := hP
  have hD : va_D A [(h4, .inl (cI, 48000, .inl g2)), (h1, .inr (2, f1)), (h2, .inl (cI, 8192, .inl (upd (k_fill 0 8192 g0) 782 1))), (h3, .inl (cI, 48000, .inl (upd g1 0 0))), (h0, .inr (6, ((((((((((((((((((((((((((((((f0.set 10 (.int 0)).set 11 (.int 0)).set 12 (.int 1)).set 11 (.int 0)).set 11 (.int 0)).set 11 (.int 0)).set 11 (.int 0)).set 11 (.int 0)).set 11 (.int 0)).set 11 (.int 0)).set 11 (.int 0)).set 11 (.int 0)).set 11 (.int 0)).set 11 (.int 0)).set 11 (.int 0)).set 11 (.int 0)).set 11 (.int 0)).set 11 (.int 0)).set 11 (.int 0)).set 11 (.int 0)).set 11 (.int 0)).set 11 (.int 0)).set 11 (.int 0)).set 11 (.int 0)).set 11 (.int 0)).set 11 (.int 0)).set 11 (.int 0)).set 11 (.int 0)).set 13 (.int 0)).set 13 (.int 1))))] := hD
  refine va_iast hx hb hK hP hD hS 0 0 rfl rfl (k_in (by decide)) dX6_judge_63 (fun H locs hP hD hS => ?_)
  have hP : va_P D vwCl [(h4, .inl (cI, 48000, .inl (upd g2 0 0))), (h1, .inr (2, f1)), (h2, .inl (cI, 8192, .inl (upd (k_fill 0 8192 g0) 782 1))), (h3, .inl (cI, 48000, .inl (upd g1 0 0))), (h0, .inr (6, ((((((((((((((((((((((((((((((f0.set 10 (.int 0)).set 11 (.int 0)).set 12 (.int 1)).set 11 (.int 0)).set 11 (.int 0)).set 11 (.int 0)).set 11 (.int 0)).set 11 (.int 0)).set 11 (.int 0)).set 11 (.int 0)).set 11 (.int 0)).set 11 (.int 0)).set 11 (.int 0)).set 11 (.int 0)).set 11 (.int 0)).set 11 (.int 0)).set 11 (.int 0)).set 11 (.int 0)).set 11 (.int 0)).set 11 (.int 0)).set 11 (.int 0)).set 11 (.int 0)).set 11 (.int 0)).set 11 (.int 0)).set 11 (.int 0)).set 11 (.int 0)).set 11 (.int 0)).set 11 (.int 0)).set 13 (.int 0)).set 13 (.int 1))))] H := hP
  have hD : va_D A [(h4, .inl (cI, 48000, .inl (upd g2 0 0))), (h1, .inr (2, f1)), (h2, .inl (cI, 8192, .inl (upd (k_fill 0 8192 g0) 782 1))), (h3, .inl (cI, 48000, .inl (upd g1 0 0))), (h0, .inr (6, ((((((((((((((((((((((((((((((f0.set 10 (.int 0)).set 11 (.int 0)).set 12 (.int 1)).set 11 (.int 0)).set 11 (.int 0)).set 11 (.int 0)).set 11 (.int 0)).set 11 (.int 0)).set 11 (.int 0)).set 11 (.int 0)).set 11 (.int 0)).set 11 (.int 0)).set 11 (.int 0)).set 11 (.int 0)).set 11 (.int 0)).set 11 (.int 0)).set 11 (.int 0)).set 11 (.int 0)).set 11 (.int 0)).set 11 (.int 0)).set 11 (.int 0)).set 11 (.int 0)).set 11 (.int 0)).set 11 (.int 0)).set 11 (.int 0)).set 11 (.int 0)).set 11 (.int 0)).set 11 (.int 0)).set 13 (.int 0)).set 13 (.int 1))))] := hD
  refine lv_iinc (v := 1) (lv' := [(3, .int 1), (2, .int 0), (0, .ref h0), (1, .int 0)]) hx hb dX6_judge_64 hl (k := 0) rfl (by decide) (by decide) rfl (fun ls hl => ?_)
  refine lv_goto (tgt := 29) hx hb dX6_judge_67 (by decide) ?_
  refine lv_iload_n hx hb dX6_judge_29 rfl (lv_at hl 0 rfl) ?_
  refine lv_aload_n hx hb dX6_judge_30 rfl (lv_at hl 2 rfl) ?_
  refine k_get (D := D) (ci := 6) (v := .int 1) (N := 14) hx hb hts hin6 hown hK hP 4 rfl rfl (by decide) f9_6_12 (hts (.fieldLink RX6 56 "IntegerHouse$Places" "letters" "I") (o9_X6_judge _ (List.mem_of_getElem? (i := 5) rfl))) (k_ne (by decide) (k_ne (by decide) (k_ne (by decide) (k_ne (by decide) (k_ne (by decide) (k_ne (by decide) (k_ne (by decide) (k_ne (by decide) (k_ne (by decide) (k_ne (by decide) (k_ne (by decide) (k_ne (by decide) (k_ne (by decide) (k_ne (by decide) (k_ne (by decide) (k_ne (by decide) (k_ne (by decide) (k_ne (by decide) (k_ne (by decide) (k_ne (by decide) (k_ne (by decide) (k_ne (by decide) (k_ne (by decide) (k_ne (by decide) (k_ne (by decide) (k_ne (by decide) (k_ne (by decide) (k_set (k_ne (by decide) (k_ne (by decide) e4)))))))))))))))))))))))))))))) dX6_judge_31 ?_
  refine lv_icmp_ge (tgt := 70) hx hb dX6_judge_34 (by decide) (fun _ => ?_) (fun c9 => absurd (by decide) c9)
  refine lv_iinc (v := 1) (lv' := [(2, .int 1), (3, .int 1), (0, .ref h0), (1, .int 0)]) hx hb dX6_judge_70 hl (k := 1) rfl (by decide) (by decide) rfl (fun ls hl => ?_)
  refine lv_goto (tgt := 12) hx hb dX6_judge_73 (by decide) ?_
  refine lv_iload_n hx hb dX6_judge_12 rfl (lv_at hl 0 rfl) ?_
  refine lv_aload_n hx hb dX6_judge_13 rfl (lv_at hl 2 rfl) ?_
  refine k_get (D := D) (ci := 6) (v := .int 1) (N := 14) hx hb hts hin6 hown hK hP 4 rfl rfl (by decide) f9_6_13 (hts (.fieldLink RX6 52 "IntegerHouse$Places" "size" "I") (o9_X6_judge _ (List.mem_of_getElem? (i := 4) rfl))) (k_set (k_set (k_ne (by decide) (k_ne (by decide) (k_ne (by decide) (k_ne (by decide) (k_ne (by decide) (k_ne (by decide) (k_ne (by decide) (k_ne (by decide) (k_ne (by decide) (k_ne (by decide) (k_ne (by decide) (k_ne (by decide) (k_ne (by decide) (k_ne (by decide) (k_ne (by decide) (k_ne (by decide) (k_ne (by decide) (k_ne (by decide) (k_ne (by decide) (k_ne (by decide) (k_ne (by decide) (k_ne (by decide) (k_ne (by decide) (k_ne (by decide) (k_ne (by decide) (k_ne (by decide) (k_ne (by decide) (k_ne (by decide) e6)))))))))))))))))))))))))))))) dX6_judge_14 ?_
  refine lv_icmp_ge (tgt := 76) hx hb dX6_judge_17 (by decide) (fun _ => ?_) (fun c9 => absurd (by decide) c9)
  refine lv_iconst (v := 1) hx hb dX6_judge_76 (by decide) ?_
  have hP := hP.sub (ws' := [(h0, .inr (6, ((((((((((((((((((((((((((((((f0.set 10 (.int 0)).set 11 (.int 0)).set 12 (.int 1)).set 11 (.int 0)).set 11 (.int 0)).set 11 (.int 0)).set 11 (.int 0)).set 11 (.int 0)).set 11 (.int 0)).set 11 (.int 0)).set 11 (.int 0)).set 11 (.int 0)).set 11 (.int 0)).set 11 (.int 0)).set 11 (.int 0)).set 11 (.int 0)).set 11 (.int 0)).set 11 (.int 0)).set 11 (.int 0)).set 11 (.int 0)).set 11 (.int 0)).set 11 (.int 0)).set 11 (.int 0)).set 11 (.int 0)).set 11 (.int 0)).set 11 (.int 0)).set 11 (.int 0)).set 11 (.int 0)).set 13 (.int 0)).set 13 (.int 1)))), (h1, .inr (2, f1)), (h2, .inl (cI, 8192, .inl (upd (k_fill 0 8192 g0) 782 1))), (h3, .inl (cI, 48000, .inl (upd g1 0 0))), (h4, .inl (cI, 48000, .inl (upd g2 0 0)))]) [4, 1, 2, 3, 0] rfl
  have hD := hD.sub (ws' := [(h0, .inr (6, ((((((((((((((((((((((((((((((f0.set 10 (.int 0)).set 11 (.int 0)).set 12 (.int 1)).set 11 (.int 0)).set 11 (.int 0)).set 11 (.int 0)).set 11 (.int 0)).set 11 (.int 0)).set 11 (.int 0)).set 11 (.int 0)).set 11 (.int 0)).set 11 (.int 0)).set 11 (.int 0)).set 11 (.int 0)).set 11 (.int 0)).set 11 (.int 0)).set 11 (.int 0)).set 11 (.int 0)).set 11 (.int 0)).set 11 (.int 0)).set 11 (.int 0)).set 11 (.int 0)).set 11 (.int 0)).set 11 (.int 0)).set 11 (.int 0)).set 11 (.int 0)).set 11 (.int 0)).set 11 (.int 0)).set 13 (.int 0)).set 13 (.int 1)))), (h1, .inr (2, f1)), (h2, .inl (cI, 8192, .inl (upd (k_fill 0 8192 g0) 782 1))), (h3, .inl (cI, 48000, .inl (upd g1 0 0))), (h4, .inl (cI, 48000, .inl (upd g2 0 0)))]) [4, 1, 2, 3, 0] (by decide +kernel) rfl
  exact W.zret (v := 1) hx hb hr rfl (fun t ht hW => ⟨⟨1, (), rfl, rfl, kB_mk ht hW hP hK hD⟩, hS.F ht⟩) hS.2.2 dX6_judge_77
set_option maxHeartbeats 400000000 in
set_option maxRecDepth 100000 in
theorem c_X6_accepts_0 (l : Launch) (E : kE) (D : va_G) (cI cJ cB cZ : ClassId) (h0 : Nat) (f0 : List Value) (h1 : Nat) (g0 : Nat → Int32) (e0 : f0[8]? = some (.ref h1)) (e1 : g0 0 = 0) : kI l E D (kT cI cJ cB cZ) yX6_accepts vW_X6_accepts ({ frames := 0, cells := 0, slots := 0, locals := 0 }) [.ref h0, .int 0, .int 0, .int 0, .int 0] [(h0, .inr (6, f0)), (h1, .inl (cI, 48000, .inl g0))] (1) [(h0, .inr (6, f0)), (h1, .inl (cI, 48000, .inl g0))] 0 0 := by
  intro sz
  refine Met.ofW (cc := cX6_accepts) (maxL := 7) (ret := (some .boolean)) (by decide) rfl ?_
  intro p e s m args below meth c s₁ B hml hv
  obtain ⟨rfl, hsz, hP, hK, hD0, hN, hX⟩ := hv
  have hx := B.exec
  have hb := B.bytes
  have hr := B.returns
  have hts := atoms_spec (ws := vW_X6_accepts) B.pre
  have hown : s.vm.findClass RX6 = some m.cls := findClass_of_methodNamed B.named
  have hlocks := B.notSynchronized
  have hin6 : ∀ w ∈ wsX60, w ∈ vW_X6_accepts := u9_X6_accepts_wsX60
  subst hsz
  have hD := hD0.self (sz := s.heap.size)
  have hAE := k_AE hD0 hX
  generalize hAe : va_A [(h0, .inr (6, f0)), (h1, .inl (cI, 48000, .inl g0))] s.heap.size = A at hD hAE ⊢
  have hA : ∀ q : Nat, s.heap.size ≤ q → A q := fun q h => by rw [← hAe]; exact Or.inr h
  have hS : va_S A s.heap s.heap [] := va_S.rf
  have hP : va_P D vwCl [(h0, .inr (6, f0)), (h1, .inl (cI, 48000, .inl g0))] s.heap := hP
  have hl := lv_entry ([.ref h0, .int 0, .int 0, .int 0, .int 0] : List Value) (n := 7) (Nat.le_of_ble_eq_true rfl)
  rw [lg_entry_eq]
  generalize (lg_sl ([.ref h0, .int 0, .int 0, .int 0, .int 0]) ++ List.replicate (7 - (lg_sl ([.ref h0, .int 0, .int 0, .int 0, .int 0])).length) Slot.unset).toArray = ls at hl ⊢
  have hl : lv_has ls 7 [(0, .ref h0), (1, .int 0), (2, .int 0), (3, .int 0), (4, .int 0)] := hl
  refine lv_iload_n hx hb dX6_accepts_0 rfl (lv_at hl 1 rfl) ?_
  refine lv_if_lt (tgt := 25) hx hb dX6_accepts_1 (by decide) (fun c9 => absurd c9 (by decide)) (fun _ => ?_)
  refine lv_iload_n hx hb dX6_accepts_4 rfl (lv_at hl 1 rfl) ?_
  refine lv_sipush (v := 3000) hx hb dX6_accepts_5 (by decide) ?_
  refine lv_icmp_ge (tgt := 25) hx hb dX6_accepts_8 (by decide) (fun c9 => absurd c9 (by decide)) (fun _ => ?_)
  refine lv_iload_n hx hb dX6_accepts_11 rfl (lv_at hl 2 rfl) ?_
  refine lv_if_lt (tgt := 25) hx hb dX6_accepts_12 (by decide) (fun c9 => absurd c9 (by decide)) (fun _ => ?_)
  refine lv_iload_n hx hb dX6_accepts_15 rfl (lv_at hl 2 rfl) ?_
  refine lv_bipush (v := 16) hx hb dX6_accepts_16 (by decide) ?_
  refine lv_icmp_ge (tgt := 25) hx hb dX6_accepts_18 (by decide) (fun c9 => absurd c9 (by decide)) (fun _ => ?_)
  refine lv_iconst (v := 1) hx hb dX6_accepts_21 (by decide) ?_
  refine lv_goto (tgt := 26) hx hb dX6_accepts_22 (by decide) ?_
  refine lv_istore (lv' := [(5, .int 1), (0, .ref h0), (1, .int 0), (2, .int 0), (3, .int 0), (4, .int 0)]) hx hb dX6_accepts_26 hl (by decide) rfl (fun ls hl => ?_)
  refine lv_iload hx hb dX6_accepts_28 (lv_at hl 0 rfl) ?_
  refine lv_if_eq (tgt := 47) hx hb dX6_accepts_30 (by decide) (fun c9 => absurd c9 (by decide)) (fun _ => ?_)
  refine lv_aload_n hx hb dX6_accepts_33 rfl (lv_at hl 1 rfl) ?_
  refine k_get (D := D) (ci := 6) (v := .ref h1) (N := 14) hx hb hts hin6 hown hK hP 0 rfl rfl (by decide) f9_6_8 (hts (.fieldLink RX6 38 "IntegerHouse$Places" "so" "[I") (o9_X6_accepts _ (List.mem_of_getElem? (i := 0) rfl))) e0 dX6_accepts_34 ?_
  refine lv_iload_n hx hb dX6_accepts_37 rfl (lv_at hl 2 rfl) ?_
  refine lv_bipush (v := 16) hx hb dX6_accepts_38 (by decide) ?_
  refine lv_imul hx hb dX6_accepts_40 ?_
  refine k_topi (y := 0) (by decide) ?_
  refine lv_iload_n hx hb dX6_accepts_41 rfl (lv_at hl 3 rfl) ?_
  refine lv_iadd hx hb dX6_accepts_42 ?_
  refine k_topi (y := 0) (by decide) ?_
  refine va_iald hx hb hK hP 1 0 rfl rfl (k_in (by decide)) dX6_accepts_43 ?_
  refine k_topi (y := 0) e1 ?_
  refine lv_goto (tgt := 48) hx hb dX6_accepts_44 (by decide) ?_
  refine lv_istore (lv' := [(6, .int 0), (5, .int 1), (0, .ref h0), (1, .int 0), (2, .int 0), (3, .int 0), (4, .int 0)]) hx hb dX6_accepts_48 hl (by decide) rfl (fun ls hl => ?_)
  refine lv_iload hx hb dX6_accepts_50 (lv_at hl 1 rfl) ?_
  refine lv_if_eq (tgt := 75) hx hb dX6_accepts_52 (by decide) (fun c9 => absurd c9 (by decide)) (fun _ => ?_)
  refine lv_iload hx hb dX6_accepts_55 (lv_at hl 0 rfl) ?_
  refine lv_iload_n hx hb dX6_accepts_57 rfl (lv_at hl 5 rfl) ?_
  refine lv_iand hx hb dX6_accepts_58 ?_
  refine k_topi (y := 0) (by decide) ?_
  refine lv_iload_n hx hb dX6_accepts_59 rfl (lv_at hl 5 rfl) ?_
  refine lv_icmp_ne (tgt := 75) hx hb dX6_accepts_60 (by decide) (fun c9 => absurd (by decide) c9) (fun _ => ?_)
  refine lv_iload hx hb dX6_accepts_63 (lv_at hl 0 rfl) ?_
  refine lv_iload hx hb dX6_accepts_65 (lv_at hl 6 rfl) ?_
  refine lv_iand hx hb dX6_accepts_67 ?_
  refine k_topi (y := 0) (by decide) ?_
  refine lv_if_ne (tgt := 75) hx hb dX6_accepts_68 (by decide) (fun c9 => absurd (by decide) c9) (fun _ => ?_)
  refine lv_iconst (v := 1) hx hb dX6_accepts_71 (by decide) ?_
  refine lv_goto (tgt := 76) hx hb dX6_accepts_72 (by decide) ?_
  exact W.zret (v := 1) hx hb hr rfl (fun t ht hW => ⟨⟨1, (), rfl, rfl, kB_mk ht hW hP hK hD⟩, hS.F ht⟩) hS.2.2 dX6_accepts_76
set_option maxHeartbeats 400000000 in
set_option maxRecDepth 100000 in
theorem c_X6_acceptedBy_0 (l : Launch) (E : kE) (D : va_G) (cI cJ cB cZ : ClassId) (h0 : Nat) (f0 : List Value) (h1 : Nat) (g0 : Nat → Int32) (e0 : f0[12]? = some (.int 1)) (e1 : f0[8]? = some (.ref h1)) (e2 : g0 0 = 0) : kI l E D (kT cI cJ cB cZ) yX6_acceptedBy vW_X6_acceptedBy ({ frames := 1, cells := 0, slots := 0, locals := 26 }) [.ref h0, .int 0, .int 0, .int 0] [(h0, .inr (6, f0)), (h1, .inl (cI, 48000, .inl g0))] (1) [(h0, .inr (6, f0)), (h1, .inl (cI, 48000, .inl g0))] 0 0 := by
  intro sz
  refine Met.ofW (cc := cX6_acceptedBy) (maxL := 6) (ret := (some .int)) (by decide) rfl ?_
  intro p e s m args below meth c s₁ B hml hv
  obtain ⟨rfl, hsz, hP, hK, hD0, hN, hX⟩ := hv
  have hx := B.exec
  have hb := B.bytes
  have hr := B.returns
  have hts := atoms_spec (ws := vW_X6_acceptedBy) B.pre
  have hown : s.vm.findClass RX6 = some m.cls := findClass_of_methodNamed B.named
  have hlocks := B.notSynchronized
  have hin6 : ∀ w ∈ wsX60, w ∈ vW_X6_acceptedBy := u9_X6_acceptedBy_wsX60
  subst hsz
  have hD := hD0.self (sz := s.heap.size)
  have hAE := k_AE hD0 hX
  generalize hAe : va_A [(h0, .inr (6, f0)), (h1, .inl (cI, 48000, .inl g0))] s.heap.size = A at hD hAE ⊢
  have hA : ∀ q : Nat, s.heap.size ≤ q → A q := fun q h => by rw [← hAe]; exact Or.inr h
  have hS : va_S A s.heap s.heap [] := va_S.rf
  have hP : va_P D vwCl [(h0, .inr (6, f0)), (h1, .inl (cI, 48000, .inl g0))] s.heap := hP
  have hl := lv_entry ([.ref h0, .int 0, .int 0, .int 0] : List Value) (n := 6) (Nat.le_of_ble_eq_true rfl)
  rw [lg_entry_eq]
  generalize (lg_sl ([.ref h0, .int 0, .int 0, .int 0]) ++ List.replicate (6 - (lg_sl ([.ref h0, .int 0, .int 0, .int 0])).length) Slot.unset).toArray = ls at hl ⊢
  have hl : lv_has ls 6 [(0, .ref h0), (1, .int 0), (2, .int 0), (3, .int 0)] := hl
  refine lv_iconst (v := 0) hx hb dX6_acceptedBy_0 (by decide) ?_
  refine lv_istore (lv' := [(4, .int 0), (0, .ref h0), (1, .int 0), (2, .int 0), (3, .int 0)]) hx hb dX6_acceptedBy_1 hl (by decide) rfl (fun ls hl => ?_)
  refine lv_iconst (v := 0) hx hb dX6_acceptedBy_3 (by decide) ?_
  refine lv_istore (lv' := [(5, .int 0), (4, .int 0), (0, .ref h0), (1, .int 0), (2, .int 0), (3, .int 0)]) hx hb dX6_acceptedBy_4 hl (by decide) rfl (fun ls hl => ?_)
  refine lv_iload hx hb dX6_acceptedBy_6 (lv_at hl 0 rfl) ?_
  refine lv_aload_n hx hb dX6_acceptedBy_8 rfl (lv_at hl 2 rfl) ?_
  refine k_get (D := D) (ci := 6) (v := .int 1) (N := 14) hx hb hts hin6 hown hK hP 0 rfl rfl (by decide) f9_6_12 (hts (.fieldLink RX6 56 "IntegerHouse$Places" "letters" "I") (o9_X6_acceptedBy _ (List.mem_of_getElem? (i := 0) rfl))) e0 dX6_acceptedBy_9 ?_
  refine lv_icmp_ge (tgt := 46) hx hb dX6_acceptedBy_12 (by decide) (fun c9 => absurd c9 (by decide)) (fun _ => ?_)
  refine lv_iload hx hb dX6_acceptedBy_15 (lv_at hl 1 rfl) ?_
  refine lv_aload_n hx hb dX6_acceptedBy_17 rfl (lv_at hl 2 rfl) ?_
  refine lv_iload_n hx hb dX6_acceptedBy_18 rfl (lv_at hl 3 rfl) ?_
  refine lv_iload hx hb dX6_acceptedBy_19 (lv_at hl 0 rfl) ?_
  refine lv_iload_n hx hb dX6_acceptedBy_21 rfl (lv_at hl 4 rfl) ?_
  refine lv_iload_n hx hb dX6_acceptedBy_22 rfl (lv_at hl 5 rfl) ?_
  refine k_cVi (As := [.int 0, .int 0, .int 0, .int 0]) (rest := [.int 0]) (wc := [(h0, .inr (6, f0)), (h1, .inl (cI, 48000, .inl g0))]) (wr := []) (w1 := [(h0, .inr (6, f0)), (h1, .inl (cI, 48000, .inl g0))]) ⟨hx, hb, hml, hown, hts⟩ hN hX hAE hK hP hD hS hA [0, 1] [] (ci := 6) rfl rfl rfl rfl (by decide +kernel) (by decide +kernel) (by decide +kernel) (c_X6_accepts_0 l E D cI cJ cB cZ h0 f0 h1 g0 e1 e2) (cwV 4 hts g9_X6_acceptedBy_X6_accepts_123 rfl rfl rfl (by decide +kernel) ⟨Nat.le_of_ble_eq_true rfl, Nat.le_of_ble_eq_true rfl⟩) rfl hl.1 (Nat.le_of_ble_eq_true rfl) dX6_acceptedBy_23 ⟨Nat.le_of_ble_eq_true rfl, Nat.le_of_ble_eq_true rfl⟩ (fun H locs hP hD hS => ?_)
  have hP : va_P D vwCl [(h0, .inr (6, f0)), (h1, .inl (cI, 48000, .inl g0))] H := hP
  have hD : va_D A [(h0, .inr (6, f0)), (h1, .inl (cI, 48000, .inl g0))] := hD
  refine lv_if_eq (tgt := 36) hx hb dX6_acceptedBy_26 (by decide) (fun c9 => absurd c9 (by decide)) (fun _ => ?_)
  refine lv_iconst (v := 1) hx hb dX6_acceptedBy_29 (by decide) ?_
  refine lv_iload hx hb dX6_acceptedBy_30 (lv_at hl 0 rfl) ?_
  refine lv_ishl hx hb dX6_acceptedBy_32 ?_
  refine k_topi (y := 1) (by decide) ?_
  refine lv_goto (tgt := 37) hx hb dX6_acceptedBy_33 (by decide) ?_
  refine lv_ior hx hb dX6_acceptedBy_37 ?_
  refine k_topi (y := 1) (by decide) ?_
  refine lv_istore (lv' := [(4, .int 1), (5, .int 0), (0, .ref h0), (1, .int 0), (2, .int 0), (3, .int 0)]) hx hb dX6_acceptedBy_38 hl (by decide) rfl (fun ls hl => ?_)
  refine lv_iinc (v := 1) (lv' := [(5, .int 1), (4, .int 1), (0, .ref h0), (1, .int 0), (2, .int 0), (3, .int 0)]) hx hb dX6_acceptedBy_40 hl (k := 1) rfl (by decide) (by decide) rfl (fun ls hl => ?_)
  refine lv_goto (tgt := 6) hx hb dX6_acceptedBy_43 (by decide) ?_
  refine lv_iload hx hb dX6_acceptedBy_6 (lv_at hl 0 rfl) ?_
  refine lv_aload_n hx hb dX6_acceptedBy_8 rfl (lv_at hl 2 rfl) ?_
  refine k_get (D := D) (ci := 6) (v := .int 1) (N := 14) hx hb hts hin6 hown hK hP 0 rfl rfl (by decide) f9_6_12 (hts (.fieldLink RX6 56 "IntegerHouse$Places" "letters" "I") (o9_X6_acceptedBy _ (List.mem_of_getElem? (i := 0) rfl))) e0 dX6_acceptedBy_9 ?_
  refine lv_icmp_ge (tgt := 46) hx hb dX6_acceptedBy_12 (by decide) (fun _ => ?_) (fun c9 => absurd (by decide) c9)
  refine lv_iload hx hb dX6_acceptedBy_46 (lv_at hl 1 rfl) ?_
  exact W.iret (v := 1) hx hb hr (fun t ht hW => ⟨⟨1, (), rfl, rfl, kB_mk ht hW hP hK hD⟩, hS.F ht⟩) hS.2.2 dX6_acceptedBy_48
set_option maxHeartbeats 400000000 in
set_option maxRecDepth 100000 in
theorem c_X0_findEnds_0 (l : Launch) (E : kE) (D : va_G) (cI cJ cB cZ : ClassId) (h0 : Nat) (f0 : List Value) (h1 : Nat) (f1 : List Value) (h2 : Nat) (h3 : Nat) (g0 : Nat → Int32) (g1 : Nat → Int32) (e0 : f0[1]? = some (.ref h1)) (e1 : f1[13]? = some (.int 1)) (e2 : f0[5]? = some (.ref h2)) (e3 : f1[12]? = some (.int 1)) (e4 : f1[8]? = some (.ref h3)) (e5 : g0 0 = 0) : kI l E D (kT cI cJ cB cZ) yX0_findEnds vW_X0_findEnds ({ frames := 2, cells := 0, slots := 0, locals := 51 }) [.ref h0, .int 0, .int 0] [(h0, .inr (0, f0)), (h1, .inr (6, f1)), (h3, .inl (cI, 48000, .inl g0)), (h2, .inl (cI, 3000, .inl g1))] (1) [(h0, .inr (0, f0)), (h1, .inr (6, f1)), (h3, .inl (cI, 48000, .inl g0)), (h2, .inl (cI, 3000, .inl (upd g1 0 1)))] 0 0 := by
  intro sz
  refine Met.ofW (cc := cX0_findEnds) (maxL := 5) (ret := (some .int)) (by decide) rfl ?_
  intro p e s m args below meth c s₁ B hml hv
  obtain ⟨rfl, hsz, hP, hK, hD0, hN, hX⟩ := hv
  have hx := B.exec
  have hb := B.bytes
  have hr := B.returns
  have hts := atoms_spec (ws := vW_X0_findEnds) B.pre
  have hown : s.vm.findClass RX0 = some m.cls := findClass_of_methodNamed B.named
  have hlocks := B.notSynchronized
  have hin0 : ∀ w ∈ wsX00, w ∈ vW_X0_findEnds := u9_X0_findEnds_wsX00
  have hin6 : ∀ w ∈ wsX60, w ∈ vW_X0_findEnds := u9_X0_findEnds_wsX60
  subst hsz
  have hD := hD0.self (sz := s.heap.size)
  have hAE := k_AE hD0 hX
  generalize hAe : va_A [(h0, .inr (0, f0)), (h1, .inr (6, f1)), (h3, .inl (cI, 48000, .inl g0)), (h2, .inl (cI, 3000, .inl g1))] s.heap.size = A at hD hAE ⊢
  have hA : ∀ q : Nat, s.heap.size ≤ q → A q := fun q h => by rw [← hAe]; exact Or.inr h
  have hS : va_S A s.heap s.heap [] := va_S.rf
  have hP : va_P D vwCl [(h0, .inr (0, f0)), (h1, .inr (6, f1)), (h3, .inl (cI, 48000, .inl g0)), (h2, .inl (cI, 3000, .inl g1))] s.heap := hP
  have hl := lv_entry ([.ref h0, .int 0, .int 0] : List Value) (n := 5) (Nat.le_of_ble_eq_true rfl)
  rw [lg_entry_eq]
  generalize (lg_sl ([.ref h0, .int 0, .int 0]) ++ List.replicate (5 - (lg_sl ([.ref h0, .int 0, .int 0])).length) Slot.unset).toArray = ls at hl ⊢
  have hl : lv_has ls 5 [(0, .ref h0), (1, .int 0), (2, .int 0)] := hl
  refine lv_aload_n hx hb dX0_findEnds_0 rfl (lv_at hl 0 rfl) ?_
  refine k_get (D := D) (ci := 0) (v := .ref h1) (N := 19) hx hb hts hin0 hown hK hP 0 rfl rfl (by decide) f9_0_1 (hts (.fieldLink RX0 48 "IntegerHouse$Answers" "places" "LIntegerHouse$Places;") (o9_X0_findEnds _ (List.mem_of_getElem? (i := 0) rfl))) e0 dX0_findEnds_1 ?_
  refine k_getN (host := "IntegerHouse") (D := D) (ci := 6) (v := .int 1) (N := 14) hx hb hts hin6 hown hK hP 1 rfl rfl (by decide) f9_6_13 (va_Nw.use rfl (hN.1 ("IntegerHouse$Answers", 72, "IntegerHouse$Places", "size", "I", "IntegerHouse") (List.mem_of_getElem? (i := 32) rfl))) e1 dX0_findEnds_4 ?_
  refine lv_sipush (v := 3000) hx hb dX0_findEnds_7 (by decide) ?_
  refine va_mmin hx hb (by rw [hml]; exact hl.1.symm) hown (hts (.methodLink RX0 75 Lib.Math.min.name) (o9_X0_findEnds _ (List.mem_of_getElem? (i := 1) rfl))) (hts (.static Lib.Math.min.name) (o9_X0_findEnds _ (List.mem_of_getElem? (i := 2) rfl))) (hts (.initialized "java/lang/Math") (o9_X0_findEnds _ (List.mem_of_getElem? (i := 3) rfl))) (hts (.code Lib.Math.min.name Lib.Math.min.code 2 (some .int)) (o9_X0_findEnds _ (List.mem_of_getElem? (i := 4) rfl))) (Nat.le_of_ble_eq_true rfl) (Nat.le_of_ble_eq_true rfl) (Nat.le_of_ble_eq_true rfl) (Nat.le_of_ble_eq_true rfl) dX0_findEnds_10 ?_
  refine k_topi (y := 1) (by decide) ?_
  refine lv_istore_n (lv' := [(3, .int 1), (0, .ref h0), (1, .int 0), (2, .int 0)]) hx hb dX0_findEnds_13 rfl hl (by decide) rfl (fun ls hl => ?_)
  refine lv_iconst (v := 0) hx hb dX0_findEnds_14 (by decide) ?_
  refine lv_istore (lv' := [(4, .int 0), (3, .int 1), (0, .ref h0), (1, .int 0), (2, .int 0)]) hx hb dX0_findEnds_15 hl (by decide) rfl (fun ls hl => ?_)
  refine lv_iload hx hb dX0_findEnds_17 (lv_at hl 0 rfl) ?_
  refine lv_iload_n hx hb dX0_findEnds_19 rfl (lv_at hl 1 rfl) ?_
  refine lv_icmp_ge (tgt := 47) hx hb dX0_findEnds_20 (by decide) (fun c9 => absurd c9 (by decide)) (fun _ => ?_)
  refine lv_aload_n hx hb dX0_findEnds_23 rfl (lv_at hl 2 rfl) ?_
  refine k_get (D := D) (ci := 0) (v := .ref h2) (N := 19) hx hb hts hin0 hown hK hP 0 rfl rfl (by decide) f9_0_5 (hts (.fieldLink RX0 22 "IntegerHouse$Answers" "ends" "[I") (o9_X0_findEnds _ (List.mem_of_getElem? (i := 5) rfl))) e2 dX0_findEnds_24 ?_
  refine lv_iload hx hb dX0_findEnds_27 (lv_at hl 0 rfl) ?_
  refine lv_aload_n hx hb dX0_findEnds_29 rfl (lv_at hl 2 rfl) ?_
  refine k_get (D := D) (ci := 0) (v := .ref h1) (N := 19) hx hb hts hin0 hown hK hP 0 rfl rfl (by decide) f9_0_1 (hts (.fieldLink RX0 48 "IntegerHouse$Answers" "places" "LIntegerHouse$Places;") (o9_X0_findEnds _ (List.mem_of_getElem? (i := 0) rfl))) e0 dX0_findEnds_30 ?_
  refine lv_iload hx hb dX0_findEnds_33 (lv_at hl 0 rfl) ?_
  refine lv_iload_n hx hb dX0_findEnds_35 rfl (lv_at hl 3 rfl) ?_
  refine lv_iload_n hx hb dX0_findEnds_36 rfl (lv_at hl 4 rfl) ?_
  refine k_cVi (As := [.int 0, .int 0, .int 0]) (rest := [.int 0, .ref h2]) (wc := [(h1, .inr (6, f1)), (h3, .inl (cI, 48000, .inl g0))]) (wr := [(h0, .inr (0, f0)), (h2, .inl (cI, 3000, .inl g1))]) (w1 := [(h1, .inr (6, f1)), (h3, .inl (cI, 48000, .inl g0))]) ⟨hx, hb, hml, hown, hts⟩ hN hX hAE hK hP hD hS hA [1, 2] [0, 3] (ci := 6) rfl rfl rfl rfl (by decide +kernel) (by decide +kernel) (by decide +kernel) (c_X6_acceptedBy_0 l E D cI cJ cB cZ h1 f1 h3 g0 e3 e4 e5) (cwV 3 hts g9_X0_findEnds_X6_acceptedBy_78 rfl rfl rfl (by decide +kernel) ⟨Nat.le_of_ble_eq_true rfl, Nat.le_of_ble_eq_true rfl⟩) rfl hl.1 (Nat.le_of_ble_eq_true rfl) dX0_findEnds_37 ⟨Nat.le_of_ble_eq_true rfl, Nat.le_of_ble_eq_true rfl⟩ (fun H locs hP hD hS => ?_)
  have hP : va_P D vwCl [(h0, .inr (0, f0)), (h2, .inl (cI, 3000, .inl g1)), (h1, .inr (6, f1)), (h3, .inl (cI, 48000, .inl g0))] H := hP
  have hD : va_D A [(h0, .inr (0, f0)), (h2, .inl (cI, 3000, .inl g1)), (h1, .inr (6, f1)), (h3, .inl (cI, 48000, .inl g0))] := hD
  refine va_iast hx hb hK hP hD hS 1 0 rfl rfl (k_in (by decide)) dX0_findEnds_40 (fun H locs hP hD hS => ?_)
  have hP : va_P D vwCl [(h0, .inr (0, f0)), (h2, .inl (cI, 3000, .inl (upd g1 0 1))), (h1, .inr (6, f1)), (h3, .inl (cI, 48000, .inl g0))] H := hP
  have hD : va_D A [(h0, .inr (0, f0)), (h2, .inl (cI, 3000, .inl (upd g1 0 1))), (h1, .inr (6, f1)), (h3, .inl (cI, 48000, .inl g0))] := hD
  refine lv_iinc (v := 1) (lv' := [(4, .int 1), (3, .int 1), (0, .ref h0), (1, .int 0), (2, .int 0)]) hx hb dX0_findEnds_41 hl (k := 0) rfl (by decide) (by decide) rfl (fun ls hl => ?_)
  refine lv_goto (tgt := 17) hx hb dX0_findEnds_44 (by decide) ?_
  refine lv_iload hx hb dX0_findEnds_17 (lv_at hl 0 rfl) ?_
  refine lv_iload_n hx hb dX0_findEnds_19 rfl (lv_at hl 1 rfl) ?_
  refine lv_icmp_ge (tgt := 47) hx hb dX0_findEnds_20 (by decide) (fun _ => ?_) (fun c9 => absurd (by decide) c9)
  refine lv_iload_n hx hb dX0_findEnds_47 rfl (lv_at hl 1 rfl) ?_
  have hP := hP.sub (ws' := [(h0, .inr (0, f0)), (h1, .inr (6, f1)), (h3, .inl (cI, 48000, .inl g0)), (h2, .inl (cI, 3000, .inl (upd g1 0 1)))]) [0, 2, 3, 1] rfl
  have hD := hD.sub (ws' := [(h0, .inr (0, f0)), (h1, .inr (6, f1)), (h3, .inl (cI, 48000, .inl g0)), (h2, .inl (cI, 3000, .inl (upd g1 0 1)))]) [0, 2, 3, 1] (by decide +kernel) rfl
  exact W.iret (v := 1) hx hb hr (fun t ht hW => ⟨⟨1, (), rfl, rfl, kB_mk ht hW hP hK hD⟩, hS.F ht⟩) hS.2.2 dX0_findEnds_48
set_option maxHeartbeats 400000000 in
set_option maxRecDepth 100000 in
theorem c_J7_fill_d0a16_0 (l : Launch) (E : kE) (D : va_G) (cI cJ cB cZ : ClassId) (h0 : Nat) (g0 : Nat → Int64)  : kV l E D (kT cI cJ cB cZ) yJ7_fill_d0a16 vW_J7_fill_d0a16 ({ frames := 0, cells := 0, slots := 0, locals := 0 }) [.ref h0, .long 0] [(h0, .inl (cJ, 4, .inr (.inl g0)))] (fun _ : Unit => [(h0, .inl (cJ, 4, .inr (.inl (k_fillL 0 4 g0))))]) 0 0 := by
  intro sz
  refine Met.ofW (cc := cJ7_fill_d0a16) (maxL := 5) (ret := none) (by decide) rfl ?_
  intro p e s m args below meth c s₁ B hml hv
  obtain ⟨rfl, hsz, hP, hK, hD0, hN, hX⟩ := hv
  have hx := B.exec
  have hb := B.bytes
  have hr := B.returns
  have hts := atoms_spec (ws := vW_J7_fill_d0a16) B.pre
  have hown : s.vm.findClass RJ7 = some m.cls := findClass_of_methodNamed B.named
  have hlocks := B.notSynchronized
  subst hsz
  have hD := hD0.self (sz := s.heap.size)
  have hAE := k_AE hD0 hX
  generalize hAe : va_A [(h0, .inl (cJ, 4, .inr (.inl g0)))] s.heap.size = A at hD hAE ⊢
  have hA : ∀ q : Nat, s.heap.size ≤ q → A q := fun q h => by rw [← hAe]; exact Or.inr h
  have hS : va_S A s.heap s.heap [] := va_S.rf
  have hP : va_P D vwCl [(h0, .inl (cJ, 4, .inr (.inl g0)))] s.heap := hP
  have hl := lv_entry ([.ref h0, .long 0] : List Value) (n := 5) (Nat.le_of_ble_eq_true rfl)
  rw [lg_entry_eq]
  generalize (lg_sl ([.ref h0, .long 0]) ++ List.replicate (5 - (lg_sl ([.ref h0, .long 0])).length) Slot.unset).toArray = ls at hl ⊢
  have hl : lv_has ls 5 [(0, .ref h0), (1, .long 0)] := hl
  refine lv_iconst (v := 0) hx hb dJ7_fill_d0a16_0 (by decide) ?_
  refine lv_istore_n (lv' := [(3, .int 0), (0, .ref h0), (1, .long 0)]) hx hb dJ7_fill_d0a16_1 rfl hl (by decide) rfl (fun ls hl => ?_)
  refine lv_aload_n hx hb dJ7_fill_d0a16_2 rfl (lv_at hl 1 rfl) ?_
  refine va_alen (v := 4) hx hb hK hP 0 1 rfl rfl rfl dJ7_fill_d0a16_3 ?_
  refine lv_istore (lv' := [(4, .int 4), (3, .int 0), (0, .ref h0), (1, .long 0)]) hx hb dJ7_fill_d0a16_4 hl (by decide) rfl (fun ls hl => ?_)
  refine k_loopW (P := fun i H locs ls => va_P D vwCl [(h0, .inl (cJ, 4, .inr (.inl (k_fillL 0 i g0))))] H ∧ va_D A [(h0, .inl (cJ, 4, .inr (.inl (k_fillL 0 i g0))))] ∧ va_S A s.heap H locs ∧ lv_has ls 5 [(4, .int 4), (3, .int (nI i)), (0, .ref h0), (1, .long 0)]) 4 (fun i H locs ls hi hh kk => ?_) (fun H locs ls hh => ?_) (Nat.zero_le 4) ⟨by rw [k_fillL_0]; exact hP, by rw [k_fillL_0]; exact hD, hS, hl⟩
  · obtain ⟨hP, hD, hS, hl⟩ := hh
    refine lv_iload_n hx hb dJ7_fill_d0a16_6 rfl (lv_at hl 1 rfl) ?_
    refine lv_iload hx hb dJ7_fill_d0a16_7 (lv_at hl 0 rfl) ?_
    refine lv_icmp_ge (tgt := 22) hx hb dJ7_fill_d0a16_9 (by decide) (fun c9 => absurd c9 (nI_ge hi (by decide))) (fun _ => ?_)
    refine lv_aload_n hx hb dJ7_fill_d0a16_12 rfl (lv_at hl 2 rfl) ?_
    refine lv_iload_n hx hb dJ7_fill_d0a16_13 rfl (lv_at hl 1 rfl) ?_
    refine lv_lload_n hx hb dJ7_fill_d0a16_14 rfl (lv_at hl 3 rfl) ?_
    refine va_last hx hb hK hP hD hS 0 1 rfl rfl (vp_in_nI hi (by decide)) dJ7_fill_d0a16_15 (fun H locs hP hD hS => ?_)
    refine lv_iinc (v := nI (i + 1)) (lv' := [(3, .int (nI (i + 1))), (4, .int 4), (0, .ref h0), (1, .long 0)]) hx hb dJ7_fill_d0a16_16 hl (k := 1) rfl (nI_succ i).symm (by decide) rfl (fun ls hl => ?_)
    refine lv_goto (tgt := 6) hx hb dJ7_fill_d0a16_19 (by decide) ?_
    rw [nI_clamp (by omega), k_fillL_1] at hP hD
    exact kk _ _ _ ⟨hP, hD, hS, lv_sub hl [1, 0, 2, 3] rfl⟩
  obtain ⟨hP, hD, hS, hl⟩ := hh
  have hP : va_P D vwCl [(h0, .inl (cJ, 4, .inr (.inl (k_fillL 0 4 g0))))] H := hP
  have hD : va_D A [(h0, .inl (cJ, 4, .inr (.inl (k_fillL 0 4 g0))))] := hD
  have hl : lv_has ls 5 [(4, .int 4), (3, .int 4), (0, .ref h0), (1, .long 0)] := hl
  refine lv_iload_n hx hb dJ7_fill_d0a16_6 rfl (lv_at hl 1 rfl) ?_
  refine lv_iload hx hb dJ7_fill_d0a16_7 (lv_at hl 0 rfl) ?_
  refine lv_icmp_ge (tgt := 22) hx hb dJ7_fill_d0a16_9 (by decide) (fun _ => ?_) (fun c9 => absurd (by decide) c9)
  exact W.vret hx hb hr (fun t ht hW => ⟨⟨(), rfl, trivial, kB_mk ht hW hP hK hD⟩, hS.F ht⟩) hS.2.2 dJ7_fill_d0a16_22
set_option maxHeartbeats 400000000 in
set_option maxRecDepth 100000 in
theorem c_X0_endsOf_0 (l : Launch) (E : kE) (D : va_G) (cI cJ cB cZ : ClassId) (h0 : Nat) (f0 : List Value) (h1 : Nat) (g0 : Nat → Int32) (e0 : f0[5]? = some (.ref h1)) (e1 : g0 0 = 1) : kI l E D (kT cI cJ cB cZ) yX0_endsOf vW_X0_endsOf ({ frames := 0, cells := 0, slots := 0, locals := 0 }) [.ref h0, .int 0] [(h0, .inr (0, f0)), (h1, .inl (cI, 3000, .inl g0))] (1) [(h0, .inr (0, f0)), (h1, .inl (cI, 3000, .inl g0))] 0 0 := by
  intro sz
  refine Met.ofW (cc := cX0_endsOf) (maxL := 2) (ret := (some .int)) (by decide) rfl ?_
  intro p e s m args below meth c s₁ B hml hv
  obtain ⟨rfl, hsz, hP, hK, hD0, hN, hX⟩ := hv
  have hx := B.exec
  have hb := B.bytes
  have hr := B.returns
  have hts := atoms_spec (ws := vW_X0_endsOf) B.pre
  have hown : s.vm.findClass RX0 = some m.cls := findClass_of_methodNamed B.named
  have hlocks := B.notSynchronized
  have hin0 : ∀ w ∈ wsX00, w ∈ vW_X0_endsOf := u9_X0_endsOf_wsX00
  subst hsz
  have hD := hD0.self (sz := s.heap.size)
  have hAE := k_AE hD0 hX
  generalize hAe : va_A [(h0, .inr (0, f0)), (h1, .inl (cI, 3000, .inl g0))] s.heap.size = A at hD hAE ⊢
  have hA : ∀ q : Nat, s.heap.size ≤ q → A q := fun q h => by rw [← hAe]; exact Or.inr h
  have hS : va_S A s.heap s.heap [] := va_S.rf
  have hP : va_P D vwCl [(h0, .inr (0, f0)), (h1, .inl (cI, 3000, .inl g0))] s.heap := hP
  have hl := lv_entry ([.ref h0, .int 0] : List Value) (n := 2) (Nat.le_of_ble_eq_true rfl)
  rw [lg_entry_eq]
  generalize (lg_sl ([.ref h0, .int 0]) ++ List.replicate (2 - (lg_sl ([.ref h0, .int 0])).length) Slot.unset).toArray = ls at hl ⊢
  have hl : lv_has ls 2 [(0, .ref h0), (1, .int 0)] := hl
  refine lv_iload_n hx hb dX0_endsOf_0 rfl (lv_at hl 1 rfl) ?_
  refine lv_if_lt (tgt := 20) hx hb dX0_endsOf_1 (by decide) (fun c9 => absurd c9 (by decide)) (fun _ => ?_)
  refine lv_iload_n hx hb dX0_endsOf_4 rfl (lv_at hl 1 rfl) ?_
  refine lv_sipush (v := 3000) hx hb dX0_endsOf_5 (by decide) ?_
  refine lv_icmp_ge (tgt := 20) hx hb dX0_endsOf_8 (by decide) (fun c9 => absurd c9 (by decide)) (fun _ => ?_)
  refine lv_aload_n hx hb dX0_endsOf_11 rfl (lv_at hl 0 rfl) ?_
  refine k_get (D := D) (ci := 0) (v := .ref h1) (N := 19) hx hb hts hin0 hown hK hP 0 rfl rfl (by decide) f9_0_5 (hts (.fieldLink RX0 22 "IntegerHouse$Answers" "ends" "[I") (o9_X0_endsOf _ (List.mem_of_getElem? (i := 0) rfl))) e0 dX0_endsOf_12 ?_
  refine lv_iload_n hx hb dX0_endsOf_15 rfl (lv_at hl 1 rfl) ?_
  refine va_iald hx hb hK hP 1 0 rfl rfl (k_in (by decide)) dX0_endsOf_16 ?_
  refine k_topi (y := 1) e1 ?_
  refine lv_goto (tgt := 21) hx hb dX0_endsOf_17 (by decide) ?_
  exact W.iret (v := 1) hx hb hr (fun t ht hW => ⟨⟨1, (), rfl, rfl, kB_mk ht hW hP hK hD⟩, hS.F ht⟩) hS.2.2 dX0_endsOf_21
set_option maxHeartbeats 400000000 in
set_option maxRecDepth 100000 in
theorem c_X0_addBits_0 (l : Launch) (E : kE) (D : va_G) (cI cJ cB cZ : ClassId) (h0 : Nat) (f0 : List Value) (h1 : Nat) (g0 : Nat → Int64) (e0 : f0[2]? = some (.ref h1)) (e1 : g0 0 = 0) (e2 : g0 1 = 0) (e3 : g0 2 = 0) (e4 : g0 3 = 0) : kV l E D (kT cI cJ cB cZ) yX0_addBits vW_X0_addBits ({ frames := 0, cells := 0, slots := 0, locals := 0 }) [.ref h0, .int 0, .int 0, .int (-1)] [(h0, .inr (0, f0)), (h1, .inl (cJ, 4, .inr (.inl g0)))] (fun _ : Unit => [(h0, .inr (0, f0)), (h1, .inl (cJ, 4, .inr (.inl (vp_updL (vp_updL (vp_updL (vp_updL g0 0 0) 1 0) 2 0) 3 0))))]) 0 0 := by
  intro sz
  refine Met.ofW (cc := cX0_addBits) (maxL := 5) (ret := none) (by decide) rfl ?_
  intro p e s m args below meth c s₁ B hml hv
  obtain ⟨rfl, hsz, hP, hK, hD0, hN, hX⟩ := hv
  have hx := B.exec
  have hb := B.bytes
  have hr := B.returns
  have hts := atoms_spec (ws := vW_X0_addBits) B.pre
  have hown : s.vm.findClass RX0 = some m.cls := findClass_of_methodNamed B.named
  have hlocks := B.notSynchronized
  have hin0 : ∀ w ∈ wsX00, w ∈ vW_X0_addBits := u9_X0_addBits_wsX00
  subst hsz
  have hD := hD0.self (sz := s.heap.size)
  have hAE := k_AE hD0 hX
  generalize hAe : va_A [(h0, .inr (0, f0)), (h1, .inl (cJ, 4, .inr (.inl g0)))] s.heap.size = A at hD hAE ⊢
  have hA : ∀ q : Nat, s.heap.size ≤ q → A q := fun q h => by rw [← hAe]; exact Or.inr h
  have hS : va_S A s.heap s.heap [] := va_S.rf
  have hP : va_P D vwCl [(h0, .inr (0, f0)), (h1, .inl (cJ, 4, .inr (.inl g0)))] s.heap := hP
  have hl := lv_entry ([.ref h0, .int 0, .int 0, .int (-1)] : List Value) (n := 5) (Nat.le_of_ble_eq_true rfl)
  rw [lg_entry_eq]
  generalize (lg_sl ([.ref h0, .int 0, .int 0, .int (-1)]) ++ List.replicate (5 - (lg_sl ([.ref h0, .int 0, .int 0, .int (-1)])).length) Slot.unset).toArray = ls at hl ⊢
  have hl : lv_has ls 5 [(0, .ref h0), (1, .int 0), (2, .int 0), (3, .int (-1))] := hl
  refine lv_iconst (v := 0) hx hb dX0_addBits_0 (by decide) ?_
  refine lv_istore (lv' := [(4, .int 0), (0, .ref h0), (1, .int 0), (2, .int 0), (3, .int (-1))]) hx hb dX0_addBits_1 hl (by decide) rfl (fun ls hl => ?_)
  refine lv_iload hx hb dX0_addBits_3 (lv_at hl 0 rfl) ?_
  refine lv_iconst (v := 4) hx hb dX0_addBits_5 (by decide) ?_
  refine lv_icmp_ge (tgt := 44) hx hb dX0_addBits_6 (by decide) (fun c9 => absurd c9 (by decide)) (fun _ => ?_)
  refine lv_iload_n hx hb dX0_addBits_9 rfl (lv_at hl 3 rfl) ?_
  refine lv_bipush (v := 62) hx hb dX0_addBits_10 (by decide) ?_
  refine lv_icmp_ge (tgt := 44) hx hb dX0_addBits_12 (by decide) (fun c9 => absurd c9 (by decide)) (fun _ => ?_)
  refine lv_aload_n hx hb dX0_addBits_15 rfl (lv_at hl 1 rfl) ?_
  refine k_get (D := D) (ci := 0) (v := .ref h1) (N := 19) hx hb hts hin0 hown hK hP 0 rfl rfl (by decide) f9_0_2 (hts (.fieldLink RX0 9 "IntegerHouse$Answers" "values" "[J") (o9_X0_addBits _ (List.mem_of_getElem? (i := 0) rfl))) e0 dX0_addBits_16 ?_
  refine lv_iload hx hb dX0_addBits_19 (lv_at hl 0 rfl) ?_
  refine lv_dup2_11 hx hb dX0_addBits_21 rfl rfl ?_
  refine va_lald hx hb hK hP 1 1 rfl rfl (k_in (by decide)) dX0_addBits_22 ?_
  refine k_topl (y := 0) e1 ?_
  refine lv_iload_n hx hb dX0_addBits_23 rfl (lv_at hl 2 rfl) ?_
  refine lv_iload hx hb dX0_addBits_24 (lv_at hl 0 rfl) ?_
  refine lv_iushr (v := 0) hx hb dX0_addBits_26 (by decide) ?_
  refine lv_iconst (v := 1) hx hb dX0_addBits_27 (by decide) ?_
  refine lv_iand hx hb dX0_addBits_28 ?_
  refine k_topi (y := 0) (by decide) ?_
  refine lv_iload_n hx hb dX0_addBits_29 rfl (lv_at hl 4 rfl) ?_
  refine lv_imul hx hb dX0_addBits_30 ?_
  refine k_topi (y := 0) (by decide) ?_
  refine lv_i2l (v := 0) hx hb dX0_addBits_31 (by decide) ?_
  refine lv_lconst (v := 1) hx hb dX0_addBits_32 (by decide) ?_
  refine lv_iload_n hx hb dX0_addBits_33 rfl (lv_at hl 3 rfl) ?_
  refine lv_lshl (v := 1) hx hb dX0_addBits_34 (by decide) ?_
  refine lv_lmul hx hb dX0_addBits_35 ?_
  refine k_topl (y := 0) (by decide) ?_
  refine lv_ladd hx hb dX0_addBits_36 ?_
  refine k_topl (y := 0) (by decide) ?_
  refine va_last hx hb hK hP hD hS 1 1 rfl rfl (k_in (by decide)) dX0_addBits_37 (fun H locs hP hD hS => ?_)
  have hP : va_P D vwCl [(h0, .inr (0, f0)), (h1, .inl (cJ, 4, .inr (.inl (vp_updL g0 0 0))))] H := hP
  have hD : va_D A [(h0, .inr (0, f0)), (h1, .inl (cJ, 4, .inr (.inl (vp_updL g0 0 0))))] := hD
  refine lv_iinc (v := 1) (lv' := [(4, .int 1), (0, .ref h0), (1, .int 0), (2, .int 0), (3, .int (-1))]) hx hb dX0_addBits_38 hl (k := 0) rfl (by decide) (by decide) rfl (fun ls hl => ?_)
  refine lv_goto (tgt := 3) hx hb dX0_addBits_41 (by decide) ?_
  refine lv_iload hx hb dX0_addBits_3 (lv_at hl 0 rfl) ?_
  refine lv_iconst (v := 4) hx hb dX0_addBits_5 (by decide) ?_
  refine lv_icmp_ge (tgt := 44) hx hb dX0_addBits_6 (by decide) (fun c9 => absurd c9 (by decide)) (fun _ => ?_)
  refine lv_iload_n hx hb dX0_addBits_9 rfl (lv_at hl 3 rfl) ?_
  refine lv_bipush (v := 62) hx hb dX0_addBits_10 (by decide) ?_
  refine lv_icmp_ge (tgt := 44) hx hb dX0_addBits_12 (by decide) (fun c9 => absurd c9 (by decide)) (fun _ => ?_)
  refine lv_aload_n hx hb dX0_addBits_15 rfl (lv_at hl 1 rfl) ?_
  refine k_get (D := D) (ci := 0) (v := .ref h1) (N := 19) hx hb hts hin0 hown hK hP 0 rfl rfl (by decide) f9_0_2 (hts (.fieldLink RX0 9 "IntegerHouse$Answers" "values" "[J") (o9_X0_addBits _ (List.mem_of_getElem? (i := 0) rfl))) e0 dX0_addBits_16 ?_
  refine lv_iload hx hb dX0_addBits_19 (lv_at hl 0 rfl) ?_
  refine lv_dup2_11 hx hb dX0_addBits_21 rfl rfl ?_
  refine va_lald hx hb hK hP 1 1 rfl rfl (k_in (by decide)) dX0_addBits_22 ?_
  refine k_topl (y := 0) e2 ?_
  refine lv_iload_n hx hb dX0_addBits_23 rfl (lv_at hl 2 rfl) ?_
  refine lv_iload hx hb dX0_addBits_24 (lv_at hl 0 rfl) ?_
  refine lv_iushr (v := 0) hx hb dX0_addBits_26 (by decide) ?_
  refine lv_iconst (v := 1) hx hb dX0_addBits_27 (by decide) ?_
  refine lv_iand hx hb dX0_addBits_28 ?_
  refine k_topi (y := 0) (by decide) ?_
  refine lv_iload_n hx hb dX0_addBits_29 rfl (lv_at hl 4 rfl) ?_
  refine lv_imul hx hb dX0_addBits_30 ?_
  refine k_topi (y := 0) (by decide) ?_
  refine lv_i2l (v := 0) hx hb dX0_addBits_31 (by decide) ?_
  refine lv_lconst (v := 1) hx hb dX0_addBits_32 (by decide) ?_
  refine lv_iload_n hx hb dX0_addBits_33 rfl (lv_at hl 3 rfl) ?_
  refine lv_lshl (v := 1) hx hb dX0_addBits_34 (by decide) ?_
  refine lv_lmul hx hb dX0_addBits_35 ?_
  refine k_topl (y := 0) (by decide) ?_
  refine lv_ladd hx hb dX0_addBits_36 ?_
  refine k_topl (y := 0) (by decide) ?_
  refine va_last hx hb hK hP hD hS 1 1 rfl rfl (k_in (by decide)) dX0_addBits_37 (fun H locs hP hD hS => ?_)
  have hP : va_P D vwCl [(h0, .inr (0, f0)), (h1, .inl (cJ, 4, .inr (.inl (vp_updL (vp_updL g0 0 0) 1 0))))] H := hP
  have hD : va_D A [(h0, .inr (0, f0)), (h1, .inl (cJ, 4, .inr (.inl (vp_updL (vp_updL g0 0 0) 1 0))))] := hD
  refine lv_iinc (v := 2) (lv' := [(4, .int 2), (0, .ref h0), (1, .int 0), (2, .int 0), (3, .int (-1))]) hx hb dX0_addBits_38 hl (k := 0) rfl (by decide) (by decide) rfl (fun ls hl => ?_)
  refine lv_goto (tgt := 3) hx hb dX0_addBits_41 (by decide) ?_
  refine lv_iload hx hb dX0_addBits_3 (lv_at hl 0 rfl) ?_
  refine lv_iconst (v := 4) hx hb dX0_addBits_5 (by decide) ?_
  refine lv_icmp_ge (tgt := 44) hx hb dX0_addBits_6 (by decide) (fun c9 => absurd c9 (by decide)) (fun _ => ?_)
  refine lv_iload_n hx hb dX0_addBits_9 rfl (lv_at hl 3 rfl) ?_
  refine lv_bipush (v := 62) hx hb dX0_addBits_10 (by decide) ?_
  refine lv_icmp_ge (tgt := 44) hx hb dX0_addBits_12 (by decide) (fun c9 => absurd c9 (by decide)) (fun _ => ?_)
  refine lv_aload_n hx hb dX0_addBits_15 rfl (lv_at hl 1 rfl) ?_
  refine k_get (D := D) (ci := 0) (v := .ref h1) (N := 19) hx hb hts hin0 hown hK hP 0 rfl rfl (by decide) f9_0_2 (hts (.fieldLink RX0 9 "IntegerHouse$Answers" "values" "[J") (o9_X0_addBits _ (List.mem_of_getElem? (i := 0) rfl))) e0 dX0_addBits_16 ?_
  refine lv_iload hx hb dX0_addBits_19 (lv_at hl 0 rfl) ?_
  refine lv_dup2_11 hx hb dX0_addBits_21 rfl rfl ?_
  refine va_lald hx hb hK hP 1 1 rfl rfl (k_in (by decide)) dX0_addBits_22 ?_
  refine k_topl (y := 0) e3 ?_
  refine lv_iload_n hx hb dX0_addBits_23 rfl (lv_at hl 2 rfl) ?_
  refine lv_iload hx hb dX0_addBits_24 (lv_at hl 0 rfl) ?_
  refine lv_iushr (v := 0) hx hb dX0_addBits_26 (by decide) ?_
  refine lv_iconst (v := 1) hx hb dX0_addBits_27 (by decide) ?_
  refine lv_iand hx hb dX0_addBits_28 ?_
  refine k_topi (y := 0) (by decide) ?_
  refine lv_iload_n hx hb dX0_addBits_29 rfl (lv_at hl 4 rfl) ?_
  refine lv_imul hx hb dX0_addBits_30 ?_
  refine k_topi (y := 0) (by decide) ?_
  refine lv_i2l (v := 0) hx hb dX0_addBits_31 (by decide) ?_
  refine lv_lconst (v := 1) hx hb dX0_addBits_32 (by decide) ?_
  refine lv_iload_n hx hb dX0_addBits_33 rfl (lv_at hl 3 rfl) ?_
  refine lv_lshl (v := 1) hx hb dX0_addBits_34 (by decide) ?_
  refine lv_lmul hx hb dX0_addBits_35 ?_
  refine k_topl (y := 0) (by decide) ?_
  refine lv_ladd hx hb dX0_addBits_36 ?_
  refine k_topl (y := 0) (by decide) ?_
  refine va_last hx hb hK hP hD hS 1 1 rfl rfl (k_in (by decide)) dX0_addBits_37 (fun H locs hP hD hS => ?_)
  have hP : va_P D vwCl [(h0, .inr (0, f0)), (h1, .inl (cJ, 4, .inr (.inl (vp_updL (vp_updL (vp_updL g0 0 0) 1 0) 2 0))))] H := hP
  have hD : va_D A [(h0, .inr (0, f0)), (h1, .inl (cJ, 4, .inr (.inl (vp_updL (vp_updL (vp_updL g0 0 0) 1 0) 2 0))))] := hD
  refine lv_iinc (v := 3) (lv' := [(4, .int 3), (0, .ref h0), (1, .int 0), (2, .int 0), (3, .int (-1))]) hx hb dX0_addBits_38 hl (k := 0) rfl (by decide) (by decide) rfl (fun ls hl => ?_)
  refine lv_goto (tgt := 3) hx hb dX0_addBits_41 (by decide) ?_
  refine lv_iload hx hb dX0_addBits_3 (lv_at hl 0 rfl) ?_
  refine lv_iconst (v := 4) hx hb dX0_addBits_5 (by decide) ?_
  refine lv_icmp_ge (tgt := 44) hx hb dX0_addBits_6 (by decide) (fun c9 => absurd c9 (by decide)) (fun _ => ?_)
  refine lv_iload_n hx hb dX0_addBits_9 rfl (lv_at hl 3 rfl) ?_
  refine lv_bipush (v := 62) hx hb dX0_addBits_10 (by decide) ?_
  refine lv_icmp_ge (tgt := 44) hx hb dX0_addBits_12 (by decide) (fun c9 => absurd c9 (by decide)) (fun _ => ?_)
  refine lv_aload_n hx hb dX0_addBits_15 rfl (lv_at hl 1 rfl) ?_
  refine k_get (D := D) (ci := 0) (v := .ref h1) (N := 19) hx hb hts hin0 hown hK hP 0 rfl rfl (by decide) f9_0_2 (hts (.fieldLink RX0 9 "IntegerHouse$Answers" "values" "[J") (o9_X0_addBits _ (List.mem_of_getElem? (i := 0) rfl))) e0 dX0_addBits_16 ?_
  refine lv_iload hx hb dX0_addBits_19 (lv_at hl 0 rfl) ?_
  refine lv_dup2_11 hx hb dX0_addBits_21 rfl rfl ?_
  refine va_lald hx hb hK hP 1 1 rfl rfl (k_in (by decide)) dX0_addBits_22 ?_
  refine k_topl (y := 0) e4 ?_
  refine lv_iload_n hx hb dX0_addBits_23 rfl (lv_at hl 2 rfl) ?_
  refine lv_iload hx hb dX0_addBits_24 (lv_at hl 0 rfl) ?_
  refine lv_iushr (v := 0) hx hb dX0_addBits_26 (by decide) ?_
  refine lv_iconst (v := 1) hx hb dX0_addBits_27 (by decide) ?_
  refine lv_iand hx hb dX0_addBits_28 ?_
  refine k_topi (y := 0) (by decide) ?_
  refine lv_iload_n hx hb dX0_addBits_29 rfl (lv_at hl 4 rfl) ?_
  refine lv_imul hx hb dX0_addBits_30 ?_
  refine k_topi (y := 0) (by decide) ?_
  refine lv_i2l (v := 0) hx hb dX0_addBits_31 (by decide) ?_
  refine lv_lconst (v := 1) hx hb dX0_addBits_32 (by decide) ?_
  refine lv_iload_n hx hb dX0_addBits_33 rfl (lv_at hl 3 rfl) ?_
  refine lv_lshl (v := 1) hx hb dX0_addBits_34 (by decide) ?_
  refine lv_lmul hx hb dX0_addBits_35 ?_
  refine k_topl (y := 0) (by decide) ?_
  refine lv_ladd hx hb dX0_addBits_36 ?_
  refine k_topl (y := 0) (by decide) ?_
  refine va_last hx hb hK hP hD hS 1 1 rfl rfl (k_in (by decide)) dX0_addBits_37 (fun H locs hP hD hS => ?_)
  have hP : va_P D vwCl [(h0, .inr (0, f0)), (h1, .inl (cJ, 4, .inr (.inl (vp_updL (vp_updL (vp_updL (vp_updL g0 0 0) 1 0) 2 0) 3 0))))] H := hP
  have hD : va_D A [(h0, .inr (0, f0)), (h1, .inl (cJ, 4, .inr (.inl (vp_updL (vp_updL (vp_updL (vp_updL g0 0 0) 1 0) 2 0) 3 0))))] := hD
  refine lv_iinc (v := 4) (lv' := [(4, .int 4), (0, .ref h0), (1, .int 0), (2, .int 0), (3, .int (-1))]) hx hb dX0_addBits_38 hl (k := 0) rfl (by decide) (by decide) rfl (fun ls hl => ?_)
  refine lv_goto (tgt := 3) hx hb dX0_addBits_41 (by decide) ?_
  refine lv_iload hx hb dX0_addBits_3 (lv_at hl 0 rfl) ?_
  refine lv_iconst (v := 4) hx hb dX0_addBits_5 (by decide) ?_
  refine lv_icmp_ge (tgt := 44) hx hb dX0_addBits_6 (by decide) (fun _ => ?_) (fun c9 => absurd (by decide) c9)
  exact W.vret hx hb hr (fun t ht hW => ⟨⟨(), rfl, trivial, kB_mk ht hW hP hK hD⟩, hS.F ht⟩) hS.2.2 dX0_addBits_44
set_option maxHeartbeats 400000000 in
set_option maxRecDepth 100000 in
theorem c_X0_walk_0 (l : Launch) (E : kE) (D : va_G) (cI cJ cB cZ : ClassId) (h0 : Nat) (f0 : List Value) (h1 : Nat) (g0 : Nat → Int32) (h2 : Nat) (f1 : List Value) (h3 : Nat) (g1 : Nat → Int64) (h4 : Nat) (g2 : Nat → Int32) (e0 : f0[4]? = some (.ref h1)) (e1 : g0 0 = 0) (e2 : f0[12]? = some (.int (-1))) (e3 : f0[0]? = some (.ref h2)) (e4 : f1[10]? = some (.int 0)) (e5 : f0[11]? = some (.int 0)) (e6 : f0[2]? = some (.ref h3)) (e7 : f0[5]? = some (.ref h4)) (e8 : g2 0 = 1) : kV l E D (kT cI cJ cB cZ) yX0_walk vW_X0_walk ({ frames := 1, cells := 0, slots := 0, locals := 24 }) [.ref h0] [(h0, .inr (0, f0)), (h1, .inl (cI, 3000, .inl g0)), (h2, .inr (2, f1)), (h3, .inl (cJ, 4, .inr (.inl g1))), (h4, .inl (cI, 3000, .inl g2))] (fun _ : Unit => [(h0, .inr (0, ((f0.set 12 (.int 0)).set 11 (.int 0)))), (h1, .inl (cI, 3000, .inl g0)), (h2, .inr (2, f1)), (h3, .inl (cJ, 4, .inr (.inl (vp_updL (vp_updL (vp_updL (vp_updL (k_fillL 0 4 g1) 0 0) 1 0) 2 0) 3 0)))), (h4, .inl (cI, 3000, .inl g2))]) 0 0 := by
  intro sz
  refine Met.ofW (cc := cX0_walk) (maxL := 4) (ret := none) (by decide) rfl ?_
  intro p e s m args below meth c s₁ B hml hv
  obtain ⟨rfl, hsz, hP, hK, hD0, hN, hX⟩ := hv
  have hx := B.exec
  have hb := B.bytes
  have hr := B.returns
  have hts := atoms_spec (ws := vW_X0_walk) B.pre
  have hown : s.vm.findClass RX0 = some m.cls := findClass_of_methodNamed B.named
  have hlocks := B.notSynchronized
  have hin0 : ∀ w ∈ wsX00, w ∈ vW_X0_walk := u9_X0_walk_wsX00
  have hin2 : ∀ w ∈ wsX20, w ∈ vW_X0_walk := u9_X0_walk_wsX20
  subst hsz
  have hD := hD0.self (sz := s.heap.size)
  have hAE := k_AE hD0 hX
  generalize hAe : va_A [(h0, .inr (0, f0)), (h1, .inl (cI, 3000, .inl g0)), (h2, .inr (2, f1)), (h3, .inl (cJ, 4, .inr (.inl g1))), (h4, .inl (cI, 3000, .inl g2))] s.heap.size = A at hD hAE ⊢
  have hA : ∀ q : Nat, s.heap.size ≤ q → A q := fun q h => by rw [← hAe]; exact Or.inr h
  have hS : va_S A s.heap s.heap [] := va_S.rf
  have hP : va_P D vwCl [(h0, .inr (0, f0)), (h1, .inl (cI, 3000, .inl g0)), (h2, .inr (2, f1)), (h3, .inl (cJ, 4, .inr (.inl g1))), (h4, .inl (cI, 3000, .inl g2))] s.heap := hP
  have hl := lv_entry ([.ref h0] : List Value) (n := 4) (Nat.le_of_ble_eq_true rfl)
  rw [lg_entry_eq]
  generalize (lg_sl ([.ref h0]) ++ List.replicate (4 - (lg_sl ([.ref h0])).length) Slot.unset).toArray = ls at hl ⊢
  have hl : lv_has ls 4 [(0, .ref h0)] := hl
  refine lv_iconst (v := 0) hx hb dX0_walk_0 (by decide) ?_
  refine lv_istore_n (lv' := [(1, .int 0), (0, .ref h0)]) hx hb dX0_walk_1 rfl hl (by decide) rfl (fun ls hl => ?_)
  refine lv_aload_n hx hb dX0_walk_2 rfl (lv_at hl 1 rfl) ?_
  refine lv_aload_n hx hb dX0_walk_3 rfl (lv_at hl 1 rfl) ?_
  refine k_get (D := D) (ci := 0) (v := .ref h1) (N := 19) hx hb hts hin0 hown hK hP 0 rfl rfl (by decide) f9_0_4 (hts (.fieldLink RX0 18 "IntegerHouse$Answers" "far" "[I") (o9_X0_walk _ (List.mem_of_getElem? (i := 0) rfl))) e0 dX0_walk_4 ?_
  refine lv_iconst (v := 0) hx hb dX0_walk_7 (by decide) ?_
  refine va_iald hx hb hK hP 1 0 rfl rfl (k_in (by decide)) dX0_walk_8 ?_
  refine k_topi (y := 0) e1 ?_
  refine k_put (D := D) (ci := 0) (v := .int 0) (ty := .int) (N := 19) hx hb hts hin0 tyX0 tyX0_ok nmX0 hown hK hP hD hS 0 rfl rfl (by decide) f9_0_12 (hts (.fieldLink RX0 40 "IntegerHouse$Answers" "toldHeight" "I") (o9_X0_walk _ (List.mem_of_getElem? (i := 1) rfl))) rfl pd_2 rfl rfl (k_len e2) dX0_walk_9 (fun H locs hP hD hS => ?_)
  have hP : va_P D vwCl [(h0, .inr (0, (f0.set 12 (.int 0)))), (h1, .inl (cI, 3000, .inl g0)), (h2, .inr (2, f1)), (h3, .inl (cJ, 4, .inr (.inl g1))), (h4, .inl (cI, 3000, .inl g2))] H := hP
  have hD : va_D A [(h0, .inr (0, (f0.set 12 (.int 0)))), (h1, .inl (cI, 3000, .inl g0)), (h2, .inr (2, f1)), (h3, .inl (cJ, 4, .inr (.inl g1))), (h4, .inl (cI, 3000, .inl g2))] := hD
  refine lv_aload_n hx hb dX0_walk_12 rfl (lv_at hl 1 rfl) ?_
  refine lv_aload_n hx hb dX0_walk_13 rfl (lv_at hl 1 rfl) ?_
  refine k_get (D := D) (ci := 0) (v := .ref h2) (N := 19) hx hb hts hin0 hown hK hP 0 rfl rfl (by decide) f9_0_0 (hts (.fieldLink RX0 44 "IntegerHouse$Answers" "house" "LIntegerHouse$House;") (o9_X0_walk _ (List.mem_of_getElem? (i := 2) rfl))) (k_ne (by decide) e3) dX0_walk_14 ?_
  refine k_getN (host := "IntegerHouse") (D := D) (ci := 2) (v := .int 0) (N := 16) hx hb hts hin2 hown hK hP 2 rfl rfl (by decide) f9_2_10 (va_Nw.use rfl (hN.1 ("IntegerHouse$Answers", 52, "IntegerHouse$House", "variables", "I", "IntegerHouse") (List.mem_of_getElem? (i := 8) rfl))) e4 dX0_walk_17 ?_
  refine k_put (D := D) (ci := 0) (v := .int 0) (ty := .int) (N := 19) hx hb hts hin0 tyX0 tyX0_ok nmX0 hown hK hP hD hS 0 rfl rfl (by decide) f9_0_11 (hts (.fieldLink RX0 69 "IntegerHouse$Answers" "valuesTold" "I") (o9_X0_walk _ (List.mem_of_getElem? (i := 3) rfl))) rfl pd_2 rfl rfl (k_len (k_ne (by decide) e5)) dX0_walk_20 (fun H locs hP hD hS => ?_)
  have hP : va_P D vwCl [(h0, .inr (0, ((f0.set 12 (.int 0)).set 11 (.int 0)))), (h1, .inl (cI, 3000, .inl g0)), (h2, .inr (2, f1)), (h3, .inl (cJ, 4, .inr (.inl g1))), (h4, .inl (cI, 3000, .inl g2))] H := hP
  have hD : va_D A [(h0, .inr (0, ((f0.set 12 (.int 0)).set 11 (.int 0)))), (h1, .inl (cI, 3000, .inl g0)), (h2, .inr (2, f1)), (h3, .inl (cJ, 4, .inr (.inl g1))), (h4, .inl (cI, 3000, .inl g2))] := hD
  refine lv_aload_n hx hb dX0_walk_23 rfl (lv_at hl 1 rfl) ?_
  refine k_get (D := D) (ci := 0) (v := .ref h3) (N := 19) hx hb hts hin0 hown hK hP 0 rfl rfl (by decide) f9_0_2 (hts (.fieldLink RX0 9 "IntegerHouse$Answers" "values" "[J") (o9_X0_walk _ (List.mem_of_getElem? (i := 4) rfl))) (k_ne (by decide) (k_ne (by decide) e6)) dX0_walk_24 ?_
  refine lv_lconst (v := 0) hx hb dX0_walk_27 (by decide) ?_
  refine k_cSv (As := [.ref h3, .long 0]) (rest := []) (wc := [(h3, .inl (cJ, 4, .inr (.inl g1)))]) (wr := [(h0, .inr (0, ((f0.set 12 (.int 0)).set 11 (.int 0)))), (h1, .inl (cI, 3000, .inl g0)), (h2, .inr (2, f1)), (h4, .inl (cI, 3000, .inl g2))]) (w1 := (fun _ : Unit => [(h3, .inl (cJ, 4, .inr (.inl (k_fillL 0 4 g1))))])) ⟨hx, hb, hml, hown, hts⟩ hN hX hAE hK hP hD hS hA [3] [0, 1, 2, 4] rfl rfl (by decide +kernel) (by decide +kernel) (by decide +kernel) (c_J7_fill_d0a16_0 l E D cI cJ cB cZ h3 g1 ) (va_cwS 2 hts g9_X0_walk_J7_fill_d0a16_102 rfl rfl rfl (by decide +kernel) ⟨Nat.le_of_ble_eq_true rfl, Nat.le_of_ble_eq_true rfl⟩) rfl hl.1 (Nat.le_of_ble_eq_true rfl) dX0_walk_28 ⟨Nat.le_of_ble_eq_true rfl, Nat.le_of_ble_eq_true rfl⟩ (fun _ H locs hP hD hS => ?_)
  have hP : va_P D vwCl [(h0, .inr (0, ((f0.set 12 (.int 0)).set 11 (.int 0)))), (h1, .inl (cI, 3000, .inl g0)), (h2, .inr (2, f1)), (h4, .inl (cI, 3000, .inl g2)), (h3, .inl (cJ, 4, .inr (.inl (k_fillL 0 4 g1))))] H := hP
  have hD : va_D A [(h0, .inr (0, ((f0.set 12 (.int 0)).set 11 (.int 0)))), (h1, .inl (cI, 3000, .inl g0)), (h2, .inr (2, f1)), (h4, .inl (cI, 3000, .inl g2)), (h3, .inl (cJ, 4, .inr (.inl (k_fillL 0 4 g1))))] := hD
  refine lv_aload_n hx hb dX0_walk_31 rfl (lv_at hl 1 rfl) ?_
  refine k_get (D := D) (ci := 0) (v := .int 0) (N := 19) hx hb hts hin0 hown hK hP 0 rfl rfl (by decide) f9_0_12 (hts (.fieldLink RX0 40 "IntegerHouse$Answers" "toldHeight" "I") (o9_X0_walk _ (List.mem_of_getElem? (i := 1) rfl))) (k_ne (by decide) (k_set e2)) dX0_walk_32 ?_
  refine lv_istore_n (lv' := [(2, .int 0), (1, .int 0), (0, .ref h0)]) hx hb dX0_walk_35 rfl hl (by decide) rfl (fun ls hl => ?_)
  refine lv_iload_n hx hb dX0_walk_36 rfl (lv_at hl 0 rfl) ?_
  refine lv_if_le (tgt := 101) hx hb dX0_walk_37 (by decide) (fun _ => ?_) (fun c9 => absurd (by decide) c9)
  refine lv_iconst (v := 0) hx hb dX0_walk_101 (by decide) ?_
  refine lv_istore_n (lv' := [(2, .int 0), (1, .int 0), (0, .ref h0)]) hx hb dX0_walk_102 rfl hl (by decide) rfl (fun ls hl => ?_)
  refine lv_iload_n hx hb dX0_walk_103 rfl (lv_at hl 0 rfl) ?_
  refine lv_bipush (v := 15) hx hb dX0_walk_104 (by decide) ?_
  refine lv_icmp_ge (tgt := 127) hx hb dX0_walk_106 (by decide) (fun c9 => absurd c9 (by decide)) (fun _ => ?_)
  refine lv_aload_n hx hb dX0_walk_109 rfl (lv_at hl 2 rfl) ?_
  refine lv_iload_n hx hb dX0_walk_110 rfl (lv_at hl 1 rfl) ?_
  refine k_cVi (As := [.int 0]) (rest := []) (wc := [(h0, .inr (0, ((f0.set 12 (.int 0)).set 11 (.int 0)))), (h4, .inl (cI, 3000, .inl g2))]) (wr := [(h1, .inl (cI, 3000, .inl g0)), (h2, .inr (2, f1)), (h3, .inl (cJ, 4, .inr (.inl (k_fillL 0 4 g1))))]) (w1 := [(h0, .inr (0, ((f0.set 12 (.int 0)).set 11 (.int 0)))), (h4, .inl (cI, 3000, .inl g2))]) ⟨hx, hb, hml, hown, hts⟩ hN hX hAE hK hP hD hS hA [0, 3] [1, 2, 4] (ci := 0) rfl rfl rfl rfl (by decide +kernel) (by decide +kernel) (by decide +kernel) (c_X0_endsOf_0 l E D cI cJ cB cZ h0 (((f0.set 12 (.int 0)).set 11 (.int 0))) h4 g2 (k_ne (by decide) (k_ne (by decide) e7)) e8) (cwV 1 hts g9_X0_walk_X0_endsOf_112 rfl rfl rfl (by decide +kernel) ⟨Nat.le_of_ble_eq_true rfl, Nat.le_of_ble_eq_true rfl⟩) rfl hl.1 (Nat.le_of_ble_eq_true rfl) dX0_walk_111 ⟨Nat.le_of_ble_eq_true rfl, Nat.le_of_ble_eq_true rfl⟩ (fun H locs hP hD hS => ?_)
  have hP : va_P D vwCl [(h1, .inl (cI, 3000, .inl g0)), (h2, .inr (2, f1)), (h3, .inl (cJ, 4, .inr (.inl (k_fillL 0 4 g1)))), (h0, .inr (0, ((f0.set 12 (.int 0)).set 11 (.int 0)))), (h4, .inl (cI, 3000, .inl g2))] H := hP
  have hD : va_D A [(h1, .inl (cI, 3000, .inl g0)), (h2, .inr (2, f1)), (h3, .inl (cJ, 4, .inr (.inl (k_fillL 0 4 g1)))), (h0, .inr (0, ((f0.set 12 (.int 0)).set 11 (.int 0)))), (h4, .inl (cI, 3000, .inl g2))] := hD
  refine lv_iload_n hx hb dX0_walk_114 rfl (lv_at hl 0 rfl) ?_
  refine lv_iushr (v := 1) hx hb dX0_walk_115 (by decide) ?_
  refine lv_iconst (v := 1) hx hb dX0_walk_116 (by decide) ?_
  refine lv_iand hx hb dX0_walk_117 ?_
  refine k_topi (y := 1) (by decide) ?_
  refine lv_if_ne (tgt := 127) hx hb dX0_walk_118 (by decide) (fun _ => ?_) (fun c9 => absurd c9 (by decide))
  refine lv_aload_n hx hb dX0_walk_127 rfl (lv_at hl 2 rfl) ?_
  refine lv_iload_n hx hb dX0_walk_128 rfl (lv_at hl 0 rfl) ?_
  refine lv_aload_n hx hb dX0_walk_129 rfl (lv_at hl 2 rfl) ?_
  refine k_get (D := D) (ci := 0) (v := .int 0) (N := 19) hx hb hts hin0 hown hK hP 3 rfl rfl (by decide) f9_0_12 (hts (.fieldLink RX0 40 "IntegerHouse$Answers" "toldHeight" "I") (o9_X0_walk _ (List.mem_of_getElem? (i := 1) rfl))) (k_ne (by decide) (k_set e2)) dX0_walk_130 ?_
  refine lv_iconst (v := (-1)) hx hb dX0_walk_133 (by decide) ?_
  refine k_cVv (As := [.int 0, .int 0, .int (-1)]) (rest := []) (wc := [(h0, .inr (0, ((f0.set 12 (.int 0)).set 11 (.int 0)))), (h3, .inl (cJ, 4, .inr (.inl (k_fillL 0 4 g1))))]) (wr := [(h1, .inl (cI, 3000, .inl g0)), (h2, .inr (2, f1)), (h4, .inl (cI, 3000, .inl g2))]) (w1 := (fun _ : Unit => [(h0, .inr (0, ((f0.set 12 (.int 0)).set 11 (.int 0)))), (h3, .inl (cJ, 4, .inr (.inl (vp_updL (vp_updL (vp_updL (vp_updL (k_fillL 0 4 g1) 0 0) 1 0) 2 0) 3 0))))])) ⟨hx, hb, hml, hown, hts⟩ hN hX hAE hK hP hD hS hA [3, 2] [0, 1, 4] (ci := 0) rfl rfl rfl rfl (by decide +kernel) (by decide +kernel) (by decide +kernel) (c_X0_addBits_0 l E D cI cJ cB cZ h0 (((f0.set 12 (.int 0)).set 11 (.int 0))) h3 ((k_fillL 0 4 g1)) (k_ne (by decide) (k_ne (by decide) e6)) (if_pos (by decide)) (if_pos (by decide)) (if_pos (by decide)) (if_pos (by decide))) (cwV 3 hts g9_X0_walk_X0_addBits_108 rfl rfl rfl (by decide +kernel) ⟨Nat.le_of_ble_eq_true rfl, Nat.le_of_ble_eq_true rfl⟩) rfl hl.1 (Nat.le_of_ble_eq_true rfl) dX0_walk_134 ⟨Nat.le_of_ble_eq_true rfl, Nat.le_of_ble_eq_true rfl⟩ (fun _ H locs hP hD hS => ?_)
  have hP : va_P D vwCl [(h1, .inl (cI, 3000, .inl g0)), (h2, .inr (2, f1)), (h4, .inl (cI, 3000, .inl g2)), (h0, .inr (0, ((f0.set 12 (.int 0)).set 11 (.int 0)))), (h3, .inl (cJ, 4, .inr (.inl (vp_updL (vp_updL (vp_updL (vp_updL (k_fillL 0 4 g1) 0 0) 1 0) 2 0) 3 0))))] H := hP
  have hD : va_D A [(h1, .inl (cI, 3000, .inl g0)), (h2, .inr (2, f1)), (h4, .inl (cI, 3000, .inl g2)), (h0, .inr (0, ((f0.set 12 (.int 0)).set 11 (.int 0)))), (h3, .inl (cJ, 4, .inr (.inl (vp_updL (vp_updL (vp_updL (vp_updL (k_fillL 0 4 g1) 0 0) 1 0) 2 0) 3 0))))] := hD
  have hP := hP.sub (ws' := [(h0, .inr (0, ((f0.set 12 (.int 0)).set 11 (.int 0)))), (h1, .inl (cI, 3000, .inl g0)), (h2, .inr (2, f1)), (h3, .inl (cJ, 4, .inr (.inl (vp_updL (vp_updL (vp_updL (vp_updL (k_fillL 0 4 g1) 0 0) 1 0) 2 0) 3 0)))), (h4, .inl (cI, 3000, .inl g2))]) [3, 0, 1, 4, 2] rfl
  have hD := hD.sub (ws' := [(h0, .inr (0, ((f0.set 12 (.int 0)).set 11 (.int 0)))), (h1, .inl (cI, 3000, .inl g0)), (h2, .inr (2, f1)), (h3, .inl (cJ, 4, .inr (.inl (vp_updL (vp_updL (vp_updL (vp_updL (k_fillL 0 4 g1) 0 0) 1 0) 2 0) 3 0)))), (h4, .inl (cI, 3000, .inl g2))]) [3, 0, 1, 4, 2] (by decide +kernel) rfl
  exact W.vret hx hb hr (fun t ht hW => ⟨⟨(), rfl, trivial, kB_mk ht hW hP hK hD⟩, hS.F ht⟩) hS.2.2 dX0_walk_137
set_option maxHeartbeats 400000000 in
set_option maxRecDepth 100000 in
theorem c_X0_tellLeast_0 (l : Launch) (E : kE) (D : va_G) (cI cJ cB cZ : ClassId) (h0 : Nat) (f0 : List Value) (h1 : Nat) (f1 : List Value) (h2 : Nat) (h3 : Nat) (g0 : Nat → Int32) (g1 : Nat → Int32) (h4 : Nat) (g2 : Nat → Int32) (h5 : Nat) (f2 : List Value) (h6 : Nat) (g3 : Nat → Int64) (e0 : f0[1]? = some (.ref h1)) (e1 : f1[13]? = some (.int 1)) (e2 : f0[5]? = some (.ref h2)) (e3 : f1[12]? = some (.int 1)) (e4 : f1[8]? = some (.ref h3)) (e5 : g0 0 = 0) (e6 : f0[4]? = some (.ref h4)) (e7 : f0[12]? = some (.int (-1))) (e8 : f0[0]? = some (.ref h5)) (e9 : f2[10]? = some (.int 0)) (e10 : f0[11]? = some (.int 0)) (e11 : f0[2]? = some (.ref h6)) : kI l E D (kT cI cJ cB cZ) yX0_tellLeast vW_X0_tellLeast ({ frames := 3, cells := 0, slots := 0, locals := 75 }) [.ref h0, .int 0, .int 0] [(h0, .inr (0, f0)), (h1, .inr (6, f1)), (h3, .inl (cI, 48000, .inl g0)), (h2, .inl (cI, 3000, .inl g1)), (h4, .inl (cI, 3000, .inl g2)), (h5, .inr (2, f2)), (h6, .inl (cJ, 4, .inr (.inl g3)))] (1) [(h0, .inr (0, ((f0.set 12 (.int 0)).set 11 (.int 0)))), (h1, .inr (6, f1)), (h3, .inl (cI, 48000, .inl g0)), (h2, .inl (cI, 3000, .inl (upd g1 0 1))), (h4, .inl (cI, 3000, .inl (upd g2 0 0))), (h5, .inr (2, f2)), (h6, .inl (cJ, 4, .inr (.inl (vp_updL (vp_updL (vp_updL (vp_updL (k_fillL 0 4 g3) 0 0) 1 0) 2 0) 3 0))))] 0 0 := by
  intro sz
  refine Met.ofW (cc := cX0_tellLeast) (maxL := 6) (ret := (some .boolean)) (by decide) rfl ?_
  intro p e s m args below meth c s₁ B hml hv
  obtain ⟨rfl, hsz, hP, hK, hD0, hN, hX⟩ := hv
  have hx := B.exec
  have hb := B.bytes
  have hr := B.returns
  have hts := atoms_spec (ws := vW_X0_tellLeast) B.pre
  have hown : s.vm.findClass RX0 = some m.cls := findClass_of_methodNamed B.named
  have hlocks := B.notSynchronized
  have hin0 : ∀ w ∈ wsX00, w ∈ vW_X0_tellLeast := u9_X0_tellLeast_wsX00
  subst hsz
  have hD := hD0.self (sz := s.heap.size)
  have hAE := k_AE hD0 hX
  generalize hAe : va_A [(h0, .inr (0, f0)), (h1, .inr (6, f1)), (h3, .inl (cI, 48000, .inl g0)), (h2, .inl (cI, 3000, .inl g1)), (h4, .inl (cI, 3000, .inl g2)), (h5, .inr (2, f2)), (h6, .inl (cJ, 4, .inr (.inl g3)))] s.heap.size = A at hD hAE ⊢
  have hA : ∀ q : Nat, s.heap.size ≤ q → A q := fun q h => by rw [← hAe]; exact Or.inr h
  have hS : va_S A s.heap s.heap [] := va_S.rf
  have hP : va_P D vwCl [(h0, .inr (0, f0)), (h1, .inr (6, f1)), (h3, .inl (cI, 48000, .inl g0)), (h2, .inl (cI, 3000, .inl g1)), (h4, .inl (cI, 3000, .inl g2)), (h5, .inr (2, f2)), (h6, .inl (cJ, 4, .inr (.inl g3)))] s.heap := hP
  have hl := lv_entry ([.ref h0, .int 0, .int 0] : List Value) (n := 6) (Nat.le_of_ble_eq_true rfl)
  rw [lg_entry_eq]
  generalize (lg_sl ([.ref h0, .int 0, .int 0]) ++ List.replicate (6 - (lg_sl ([.ref h0, .int 0, .int 0])).length) Slot.unset).toArray = ls at hl ⊢
  have hl : lv_has ls 6 [(0, .ref h0), (1, .int 0), (2, .int 0)] := hl
  refine lv_aload_n hx hb dX0_tellLeast_0 rfl (lv_at hl 0 rfl) ?_
  refine lv_iload_n hx hb dX0_tellLeast_1 rfl (lv_at hl 1 rfl) ?_
  refine lv_iload_n hx hb dX0_tellLeast_2 rfl (lv_at hl 2 rfl) ?_
  refine k_cVi (As := [.int 0, .int 0]) (rest := []) (wc := [(h0, .inr (0, f0)), (h1, .inr (6, f1)), (h3, .inl (cI, 48000, .inl g0)), (h2, .inl (cI, 3000, .inl g1))]) (wr := [(h4, .inl (cI, 3000, .inl g2)), (h5, .inr (2, f2)), (h6, .inl (cJ, 4, .inr (.inl g3)))]) (w1 := [(h0, .inr (0, f0)), (h1, .inr (6, f1)), (h3, .inl (cI, 48000, .inl g0)), (h2, .inl (cI, 3000, .inl (upd g1 0 1)))]) ⟨hx, hb, hml, hown, hts⟩ hN hX hAE hK hP hD hS hA [0, 1, 2, 3] [4, 5, 6] (ci := 0) rfl rfl rfl rfl (by decide +kernel) (by decide +kernel) (by decide +kernel) (c_X0_findEnds_0 l E D cI cJ cB cZ h0 f0 h1 f1 h2 h3 g0 g1 e0 e1 e2 e3 e4 e5) (cwV 2 hts g9_X0_tellLeast_X0_findEnds_82 rfl rfl rfl (by decide +kernel) ⟨Nat.le_of_ble_eq_true rfl, Nat.le_of_ble_eq_true rfl⟩) rfl hl.1 (Nat.le_of_ble_eq_true rfl) dX0_tellLeast_3 ⟨Nat.le_of_ble_eq_true rfl, Nat.le_of_ble_eq_true rfl⟩ (fun H locs hP hD hS => ?_)
  have hP : va_P D vwCl [(h4, .inl (cI, 3000, .inl g2)), (h5, .inr (2, f2)), (h6, .inl (cJ, 4, .inr (.inl g3))), (h0, .inr (0, f0)), (h1, .inr (6, f1)), (h3, .inl (cI, 48000, .inl g0)), (h2, .inl (cI, 3000, .inl (upd g1 0 1)))] H := hP
  have hD : va_D A [(h4, .inl (cI, 3000, .inl g2)), (h5, .inr (2, f2)), (h6, .inl (cJ, 4, .inr (.inl g3))), (h0, .inr (0, f0)), (h1, .inr (6, f1)), (h3, .inl (cI, 48000, .inl g0)), (h2, .inl (cI, 3000, .inl (upd g1 0 1)))] := hD
  refine lv_istore_n (lv' := [(3, .int 1), (0, .ref h0), (1, .int 0), (2, .int 0)]) hx hb dX0_tellLeast_6 rfl hl (by decide) rfl (fun ls hl => ?_)
  refine lv_iconst (v := 0) hx hb dX0_tellLeast_7 (by decide) ?_
  refine lv_istore (lv' := [(4, .int 0), (3, .int 1), (0, .ref h0), (1, .int 0), (2, .int 0)]) hx hb dX0_tellLeast_8 hl (by decide) rfl (fun ls hl => ?_)
  refine lv_iload hx hb dX0_tellLeast_10 (lv_at hl 0 rfl) ?_
  refine lv_iload_n hx hb dX0_tellLeast_12 rfl (lv_at hl 1 rfl) ?_
  refine lv_icmp_ge (tgt := 44) hx hb dX0_tellLeast_13 (by decide) (fun c9 => absurd c9 (by decide)) (fun _ => ?_)
  refine lv_aload_n hx hb dX0_tellLeast_16 rfl (lv_at hl 2 rfl) ?_
  refine k_get (D := D) (ci := 0) (v := .ref h4) (N := 19) hx hb hts hin0 hown hK hP 3 rfl rfl (by decide) f9_0_4 (hts (.fieldLink RX0 18 "IntegerHouse$Answers" "far" "[I") (o9_X0_tellLeast _ (List.mem_of_getElem? (i := 4) rfl))) e6 dX0_tellLeast_17 ?_
  refine lv_iload hx hb dX0_tellLeast_20 (lv_at hl 0 rfl) ?_
  refine lv_aload_n hx hb dX0_tellLeast_22 rfl (lv_at hl 2 rfl) ?_
  refine k_get (D := D) (ci := 0) (v := .ref h2) (N := 19) hx hb hts hin0 hown hK hP 3 rfl rfl (by decide) f9_0_5 (hts (.fieldLink RX0 22 "IntegerHouse$Answers" "ends" "[I") (o9_X0_tellLeast _ (List.mem_of_getElem? (i := 5) rfl))) e2 dX0_tellLeast_23 ?_
  refine lv_iload hx hb dX0_tellLeast_26 (lv_at hl 0 rfl) ?_
  refine va_iald hx hb hK hP 6 0 rfl rfl (k_in (by decide)) dX0_tellLeast_28 ?_
  refine k_topi (y := 1) rfl ?_
  refine lv_if_eq (tgt := 36) hx hb dX0_tellLeast_29 (by decide) (fun c9 => absurd c9 (by decide)) (fun _ => ?_)
  refine lv_iconst (v := 0) hx hb dX0_tellLeast_32 (by decide) ?_
  refine lv_goto (tgt := 37) hx hb dX0_tellLeast_33 (by decide) ?_
  refine va_iast hx hb hK hP hD hS 0 0 rfl rfl (k_in (by decide)) dX0_tellLeast_37 (fun H locs hP hD hS => ?_)
  have hP : va_P D vwCl [(h4, .inl (cI, 3000, .inl (upd g2 0 0))), (h5, .inr (2, f2)), (h6, .inl (cJ, 4, .inr (.inl g3))), (h0, .inr (0, f0)), (h1, .inr (6, f1)), (h3, .inl (cI, 48000, .inl g0)), (h2, .inl (cI, 3000, .inl (upd g1 0 1)))] H := hP
  have hD : va_D A [(h4, .inl (cI, 3000, .inl (upd g2 0 0))), (h5, .inr (2, f2)), (h6, .inl (cJ, 4, .inr (.inl g3))), (h0, .inr (0, f0)), (h1, .inr (6, f1)), (h3, .inl (cI, 48000, .inl g0)), (h2, .inl (cI, 3000, .inl (upd g1 0 1)))] := hD
  refine lv_iinc (v := 1) (lv' := [(4, .int 1), (3, .int 1), (0, .ref h0), (1, .int 0), (2, .int 0)]) hx hb dX0_tellLeast_38 hl (k := 0) rfl (by decide) (by decide) rfl (fun ls hl => ?_)
  refine lv_goto (tgt := 10) hx hb dX0_tellLeast_41 (by decide) ?_
  refine lv_iload hx hb dX0_tellLeast_10 (lv_at hl 0 rfl) ?_
  refine lv_iload_n hx hb dX0_tellLeast_12 rfl (lv_at hl 1 rfl) ?_
  refine lv_icmp_ge (tgt := 44) hx hb dX0_tellLeast_13 (by decide) (fun _ => ?_) (fun c9 => absurd (by decide) c9)
  refine lv_iconst (v := 1) hx hb dX0_tellLeast_44 (by decide) ?_
  refine lv_istore (lv' := [(4, .int 1), (3, .int 1), (0, .ref h0), (1, .int 0), (2, .int 0)]) hx hb dX0_tellLeast_45 hl (by decide) rfl (fun ls hl => ?_)
  refine lv_iconst (v := 1) hx hb dX0_tellLeast_47 (by decide) ?_
  refine lv_istore (lv' := [(5, .int 1), (4, .int 1), (3, .int 1), (0, .ref h0), (1, .int 0), (2, .int 0)]) hx hb dX0_tellLeast_48 hl (by decide) rfl (fun ls hl => ?_)
  refine lv_iload hx hb dX0_tellLeast_50 (lv_at hl 0 rfl) ?_
  refine lv_iload_n hx hb dX0_tellLeast_52 rfl (lv_at hl 2 rfl) ?_
  refine lv_icmp_gt (tgt := 86) hx hb dX0_tellLeast_53 (by decide) (fun c9 => absurd c9 (by decide)) (fun _ => ?_)
  refine lv_iload hx hb dX0_tellLeast_56 (lv_at hl 1 rfl) ?_
  refine lv_if_eq (tgt := 86) hx hb dX0_tellLeast_58 (by decide) (fun c9 => absurd c9 (by decide)) (fun _ => ?_)
  refine lv_aload_n hx hb dX0_tellLeast_61 rfl (lv_at hl 3 rfl) ?_
  refine k_get (D := D) (ci := 0) (v := .ref h4) (N := 19) hx hb hts hin0 hown hK hP 3 rfl rfl (by decide) f9_0_4 (hts (.fieldLink RX0 18 "IntegerHouse$Answers" "far" "[I") (o9_X0_tellLeast _ (List.mem_of_getElem? (i := 4) rfl))) e6 dX0_tellLeast_62 ?_
  refine lv_iconst (v := 0) hx hb dX0_tellLeast_65 (by decide) ?_
  refine va_iald hx hb hK hP 0 0 rfl rfl (k_in (by decide)) dX0_tellLeast_66 ?_
  refine k_topi (y := 0) rfl ?_
  refine lv_iconst (v := (-1)) hx hb dX0_tellLeast_67 (by decide) ?_
  refine lv_icmp_ne (tgt := 86) hx hb dX0_tellLeast_68 (by decide) (fun _ => ?_) (fun c9 => absurd c9 (by decide))
  refine lv_aload_n hx hb dX0_tellLeast_86 rfl (lv_at hl 3 rfl) ?_
  refine k_get (D := D) (ci := 0) (v := .ref h4) (N := 19) hx hb hts hin0 hown hK hP 3 rfl rfl (by decide) f9_0_4 (hts (.fieldLink RX0 18 "IntegerHouse$Answers" "far" "[I") (o9_X0_tellLeast _ (List.mem_of_getElem? (i := 4) rfl))) e6 dX0_tellLeast_87 ?_
  refine lv_iconst (v := 0) hx hb dX0_tellLeast_90 (by decide) ?_
  refine va_iald hx hb hK hP 0 0 rfl rfl (k_in (by decide)) dX0_tellLeast_91 ?_
  refine k_topi (y := 0) rfl ?_
  refine lv_iconst (v := (-1)) hx hb dX0_tellLeast_92 (by decide) ?_
  refine lv_icmp_ne (tgt := 98) hx hb dX0_tellLeast_93 (by decide) (fun _ => ?_) (fun c9 => absurd c9 (by decide))
  refine lv_aload_n hx hb dX0_tellLeast_98 rfl (lv_at hl 3 rfl) ?_
  refine k_cVv (As := []) (rest := []) (wc := [(h0, .inr (0, f0)), (h4, .inl (cI, 3000, .inl (upd g2 0 0))), (h5, .inr (2, f2)), (h6, .inl (cJ, 4, .inr (.inl g3))), (h2, .inl (cI, 3000, .inl (upd g1 0 1)))]) (wr := [(h1, .inr (6, f1)), (h3, .inl (cI, 48000, .inl g0))]) (w1 := (fun _ : Unit => [(h0, .inr (0, ((f0.set 12 (.int 0)).set 11 (.int 0)))), (h4, .inl (cI, 3000, .inl (upd g2 0 0))), (h5, .inr (2, f2)), (h6, .inl (cJ, 4, .inr (.inl (vp_updL (vp_updL (vp_updL (vp_updL (k_fillL 0 4 g3) 0 0) 1 0) 2 0) 3 0)))), (h2, .inl (cI, 3000, .inl (upd g1 0 1)))])) ⟨hx, hb, hml, hown, hts⟩ hN hX hAE hK hP hD hS hA [3, 0, 1, 2, 6] [4, 5] (ci := 0) rfl rfl rfl rfl (by decide +kernel) (by decide +kernel) (by decide +kernel) (c_X0_walk_0 l E D cI cJ cB cZ h0 f0 h4 ((upd g2 0 0)) h5 f2 h6 g3 h2 ((upd g1 0 1)) e6 rfl e7 e8 e9 e10 e11 e2 rfl) (cwV 0 hts g9_X0_tellLeast_X0_walk_89 rfl rfl rfl (by decide +kernel) ⟨Nat.le_of_ble_eq_true rfl, Nat.le_of_ble_eq_true rfl⟩) rfl hl.1 (Nat.le_of_ble_eq_true rfl) dX0_tellLeast_99 ⟨Nat.le_of_ble_eq_true rfl, Nat.le_of_ble_eq_true rfl⟩ (fun _ H locs hP hD hS => ?_)
  have hP : va_P D vwCl [(h1, .inr (6, f1)), (h3, .inl (cI, 48000, .inl g0)), (h0, .inr (0, ((f0.set 12 (.int 0)).set 11 (.int 0)))), (h4, .inl (cI, 3000, .inl (upd g2 0 0))), (h5, .inr (2, f2)), (h6, .inl (cJ, 4, .inr (.inl (vp_updL (vp_updL (vp_updL (vp_updL (k_fillL 0 4 g3) 0 0) 1 0) 2 0) 3 0)))), (h2, .inl (cI, 3000, .inl (upd g1 0 1)))] H := hP
  have hD : va_D A [(h1, .inr (6, f1)), (h3, .inl (cI, 48000, .inl g0)), (h0, .inr (0, ((f0.set 12 (.int 0)).set 11 (.int 0)))), (h4, .inl (cI, 3000, .inl (upd g2 0 0))), (h5, .inr (2, f2)), (h6, .inl (cJ, 4, .inr (.inl (vp_updL (vp_updL (vp_updL (vp_updL (k_fillL 0 4 g3) 0 0) 1 0) 2 0) 3 0)))), (h2, .inl (cI, 3000, .inl (upd g1 0 1)))] := hD
  refine lv_iconst (v := 1) hx hb dX0_tellLeast_102 (by decide) ?_
  have hP := hP.sub (ws' := [(h0, .inr (0, ((f0.set 12 (.int 0)).set 11 (.int 0)))), (h1, .inr (6, f1)), (h3, .inl (cI, 48000, .inl g0)), (h2, .inl (cI, 3000, .inl (upd g1 0 1))), (h4, .inl (cI, 3000, .inl (upd g2 0 0))), (h5, .inr (2, f2)), (h6, .inl (cJ, 4, .inr (.inl (vp_updL (vp_updL (vp_updL (vp_updL (k_fillL 0 4 g3) 0 0) 1 0) 2 0) 3 0))))]) [2, 0, 1, 6, 3, 4, 5] rfl
  have hD := hD.sub (ws' := [(h0, .inr (0, ((f0.set 12 (.int 0)).set 11 (.int 0)))), (h1, .inr (6, f1)), (h3, .inl (cI, 48000, .inl g0)), (h2, .inl (cI, 3000, .inl (upd g1 0 1))), (h4, .inl (cI, 3000, .inl (upd g2 0 0))), (h5, .inr (2, f2)), (h6, .inl (cJ, 4, .inr (.inl (vp_updL (vp_updL (vp_updL (vp_updL (k_fillL 0 4 g3) 0 0) 1 0) 2 0) 3 0))))]) [2, 0, 1, 6, 3, 4, 5] (by decide +kernel) rfl
  exact W.zret (v := 1) hx hb hr rfl (fun t ht hW => ⟨⟨1, (), rfl, rfl, kB_mk ht hW hP hK hD⟩, hS.F ht⟩) hS.2.2 dX0_tellLeast_103
