abbrev cX2_fact : ByteArray := prog_4_method_13_code
def yX2_fact : MethodName := ⟨RX2, "fact", "(II)I"⟩
def M_X2_fact : MT := (yX2_fact, cX2_fact, 3, (some .int), RX2, 1)
theorem mk_X2_fact : MokV M_X2_fact 2 2 := ⟨⟨⟨by decide, by decide, rfl⟩, (allW_in (kT_5 _ (List.mem_of_getElem? (i := 1) rfl)) rfl), (allW_in (kT_1 _ (List.mem_of_getElem? (i := 3) rfl)) rfl), by decide⟩, ⟨TX2, 16, rfl⟩, (allW_in (kT_4 _ (List.mem_of_getElem? (i := 239) rfl)) rfl), (allW_in (kT_5 _ (List.mem_of_getElem? (i := 0) rfl)) rfl)⟩
def B_X2_fact_35 : Blk := (35, .ireturn, 1) :: []
theorem o_X2_fact_35 : Chn cX2_fact B_X2_fact_35 := chn_of _ (by decide +kernel)
def B_X2_fact_34 : Blk := (34, .iconst 0, 1) :: B_X2_fact_35
theorem o_X2_fact_34 : Chn cX2_fact B_X2_fact_34 := chn_app ((34, .iconst 0, 1) :: []) o_X2_fact_35 (by decide +kernel)
def B_X2_fact_0 : Blk := (0, .iload_n 1, 1) :: (1, .ifCond .lt 33, 3) :: (4, .iload_n 1, 1) :: (5, .bipush 26, 2) :: (7, .if_icmp .ge 27, 3) :: (10, .iload_n 2, 1) :: (11, .ifCond .lt 23, 3) :: (14, .iload_n 2, 1) :: (15, .bipush 10, 2) :: (17, .if_icmp .ge 17, 3) :: (20, .aload_n 0, 1) :: (21, .getfield 28, 3) :: (24, .iload_n 1, 1) :: (25, .bipush 10, 2) :: (27, .imul, 1) :: (28, .iload_n 2, 1) :: (29, .iadd, 1) :: (30, .iaload, 1) :: (31, .goto 4, 3) :: []
theorem o_X2_fact_0 : Chn cX2_fact B_X2_fact_0 := chn_of _ (by decide +kernel)
theorem fl_2_28 : FLk RX2 28 2 5 3 true := ⟨RX2, TX2, 16, "IntegerHouse$House", "facts", "[I", rfl, by decide, rfl, Or.inl (allW_in (kT_1 _ (List.mem_of_getElem? (i := 89) rfl)) rfl), rfl, (fun h => absurd h (by decide)), (fun h => absurd h (by decide)), (fun h => absurd h (by decide)), (fun h => absurd h (by decide))⟩
abbrev cX2_atomOf : ByteArray := prog_4_method_19_code
def yX2_atomOf : MethodName := ⟨RX2, "atomOf", "(II)I"⟩
def M_X2_atomOf : MT := (yX2_atomOf, cX2_atomOf, 3, (some .int), RX2, 1)
theorem mk_X2_atomOf : MokV M_X2_atomOf 2 2 := ⟨⟨⟨by decide, by decide, rfl⟩, (allW_in (kT_5 _ (List.mem_of_getElem? (i := 140) rfl)) rfl), (allW_in (kT_1 _ (List.mem_of_getElem? (i := 3) rfl)) rfl), by decide⟩, ⟨TX2, 16, rfl⟩, (allW_in (kT_5 _ (List.mem_of_getElem? (i := 138) rfl)) rfl), (allW_in (kT_5 _ (List.mem_of_getElem? (i := 139) rfl)) rfl)⟩
def B_X2_atomOf_35 : Blk := (35, .ireturn, 1) :: []
theorem o_X2_atomOf_35 : Chn cX2_atomOf B_X2_atomOf_35 := chn_of _ (by decide +kernel)
def B_X2_atomOf_34 : Blk := (34, .iconst 0, 1) :: B_X2_atomOf_35
theorem o_X2_atomOf_34 : Chn cX2_atomOf B_X2_atomOf_34 := chn_app ((34, .iconst 0, 1) :: []) o_X2_atomOf_35 (by decide +kernel)
def B_X2_atomOf_0 : Blk := (0, .iload_n 1, 1) :: (1, .ifCond .lt 33, 3) :: (4, .iload_n 1, 1) :: (5, .bipush 26, 2) :: (7, .if_icmp .ge 27, 3) :: (10, .iload_n 2, 1) :: (11, .ifCond .lt 23, 3) :: (14, .iload_n 2, 1) :: (15, .bipush 24, 2) :: (17, .if_icmp .ge 17, 3) :: (20, .aload_n 0, 1) :: (21, .getfield 31, 3) :: (24, .iload_n 1, 1) :: (25, .bipush 24, 2) :: (27, .imul, 1) :: (28, .iload_n 2, 1) :: (29, .iadd, 1) :: (30, .iaload, 1) :: (31, .goto 4, 3) :: []
theorem o_X2_atomOf_0 : Chn cX2_atomOf B_X2_atomOf_0 := chn_of _ (by decide +kernel)
theorem fl_2_31 : FLk RX2 31 2 6 3 true := ⟨RX2, TX2, 16, "IntegerHouse$House", "atoms", "[I", rfl, by decide, rfl, Or.inl (allW_in (kT_1 _ (List.mem_of_getElem? (i := 90) rfl)) rfl), rfl, (fun h => absurd h (by decide)), (fun h => absurd h (by decide)), (fun h => absurd h (by decide)), (fun h => absurd h (by decide))⟩
abbrev cX2_pooled : ByteArray := prog_4_method_20_code
def yX2_pooled : MethodName := ⟨RX2, "pooled", "(II)I"⟩
def M_X2_pooled : MT := (yX2_pooled, cX2_pooled, 3, (some .int), RX2, 1)
theorem mk_X2_pooled : MokV M_X2_pooled 2 2 := ⟨⟨⟨by decide, by decide, rfl⟩, (allW_in (kT_6 _ (List.mem_of_getElem? (i := 20) rfl)) rfl), (allW_in (kT_1 _ (List.mem_of_getElem? (i := 3) rfl)) rfl), by decide⟩, ⟨TX2, 16, rfl⟩, (allW_in (kT_6 _ (List.mem_of_getElem? (i := 18) rfl)) rfl), (allW_in (kT_6 _ (List.mem_of_getElem? (i := 19) rfl)) rfl)⟩
def B_X2_pooled_36 : Blk := (36, .ireturn, 1) :: []
theorem o_X2_pooled_36 : Chn cX2_pooled B_X2_pooled_36 := chn_of _ (by decide +kernel)
def B_X2_pooled_35 : Blk := (35, .iconst 0, 1) :: B_X2_pooled_36
theorem o_X2_pooled_35 : Chn cX2_pooled B_X2_pooled_35 := chn_app ((35, .iconst 0, 1) :: []) o_X2_pooled_36 (by decide +kernel)
def B_X2_pooled_0 : Blk := (0, .iload_n 1, 1) :: (1, .ifCond .lt 34, 3) :: (4, .iload_n 1, 1) :: (5, .sipush 640, 3) :: (8, .if_icmp .ge 27, 3) :: (11, .iload_n 2, 1) :: (12, .ifCond .lt 23, 3) :: (15, .iload_n 2, 1) :: (16, .bipush 6, 2) :: (18, .if_icmp .ge 17, 3) :: (21, .aload_n 0, 1) :: (22, .getfield 34, 3) :: (25, .iload_n 1, 1) :: (26, .bipush 6, 2) :: (28, .imul, 1) :: (29, .iload_n 2, 1) :: (30, .iadd, 1) :: (31, .iaload, 1) :: (32, .goto 4, 3) :: []
theorem o_X2_pooled_0 : Chn cX2_pooled B_X2_pooled_0 := chn_of _ (by decide +kernel)
theorem fl_2_34 : FLk RX2 34 2 7 3 true := ⟨RX2, TX2, 16, "IntegerHouse$House", "pool", "[I", rfl, by decide, rfl, Or.inl (allW_in (kT_1 _ (List.mem_of_getElem? (i := 91) rfl)) rfl), rfl, (fun h => absurd h (by decide)), (fun h => absurd h (by decide)), (fun h => absurd h (by decide)), (fun h => absurd h (by decide))⟩
abbrev cX6_addWork : ByteArray := prog_8_method_5_code
def yX6_addWork : MethodName := ⟨RX6, "addWork", "(I)Z"⟩
def M_X6_addWork : MT := (yX6_addWork, cX6_addWork, 5, (some .boolean), RX6, 1)
theorem mk_X6_addWork : MokV M_X6_addWork 6 1 := ⟨⟨⟨by decide, by decide, rfl⟩, (allW_in (kT_6 _ (List.mem_of_getElem? (i := 110) rfl)) rfl), (allW_in (kT_1 _ (List.mem_of_getElem? (i := 11) rfl)) rfl), by decide⟩, ⟨TX6, 14, rfl⟩, (allW_in (kT_6 _ (List.mem_of_getElem? (i := 109) rfl)) rfl), (allW_in (kTs_5 _ (List.mem_of_getElem? (i := 3) rfl)) rfl)⟩
def B_X6_addWork_175 : Blk := (175, .aload_n 0, 1) :: (176, .dup, 1) :: (177, .getfield 76, 3) :: (180, .iconst 1, 1) :: (181, .iadd, 1) :: (182, .putfield 76, 3) :: (185, .iconst 1, 1) :: (186, .ireturn, 1) :: []
theorem o_X6_addWork_175 : Chn cX6_addWork B_X6_addWork_175 := chn_of _ (by decide +kernel)
def B_X6_addWork_154 : Blk := (154, .aload_n 0, 1) :: (155, .getfield 24, 3) :: (158, .iload_n 2, 1) :: (159, .bipush 32, 2) :: (161, .imul, 1) :: (162, .aload_n 0, 1) :: (163, .getfield 76, 3) :: (166, .iadd, 1) :: (167, .iload_n 3, 1) :: (168, .iastore, 1) :: (169, .iinc 2 1, 3) :: (172, .goto (-61), 3) :: []
theorem o_X6_addWork_154 : Chn cX6_addWork B_X6_addWork_154 := chn_of _ (by decide +kernel)
def B_X6_addWork_122 : Blk := (122, .iload 4, 2) :: (124, .iconst 4, 1) :: (125, .if_icmp .ge 29, 3) :: (128, .iload_n 3, 1) :: (129, .iload_n 2, 1) :: (130, .iload 4, 2) :: (132, .iushr, 1) :: (133, .iconst 1, 1) :: (134, .iand, 1) :: (135, .aload_n 0, 1) :: (136, .getfield 44, 3) :: (139, .iload_n 1, 1) :: (140, .iload 4, 2) :: (142, .invokevirtual 79, 3) :: (145, .imul, 1) :: (146, .iadd, 1) :: (147, .istore_n 3, 1) :: (148, .iinc 4 1, 3) :: (151, .goto (-29), 3) :: []
theorem o_X6_addWork_122 : Chn cX6_addWork B_X6_addWork_122 := chn_of _ (by decide +kernel)
def B_X6_addWork_111 : Blk := (111, .iload_n 2, 1) :: (112, .bipush 16, 2) :: (114, .if_icmp .ge 61, 3) :: (117, .iconst 0, 1) :: (118, .istore_n 3, 1) :: (119, .iconst 0, 1) :: (120, .istore 4, 2) :: B_X6_addWork_122
theorem o_X6_addWork_111 : Chn cX6_addWork B_X6_addWork_111 := chn_app ((111, .iload_n 2, 1) :: (112, .bipush 16, 2) :: (114, .if_icmp .ge 61, 3) :: (117, .iconst 0, 1) :: (118, .istore_n 3, 1) :: (119, .iconst 0, 1) :: (120, .istore 4, 2) :: []) o_X6_addWork_122 (by decide +kernel)
def B_X6_addWork_108 : Blk := (108, .bastore, 1) :: (109, .iconst 0, 1) :: (110, .istore_n 2, 1) :: B_X6_addWork_111
theorem o_X6_addWork_108 : Chn cX6_addWork B_X6_addWork_108 := chn_app ((108, .bastore, 1) :: (109, .iconst 0, 1) :: (110, .istore_n 2, 1) :: []) o_X6_addWork_111 (by decide +kernel)
def B_X6_addWork_107 : Blk := (107, .iconst 0, 1) :: B_X6_addWork_108
theorem o_X6_addWork_107 : Chn cX6_addWork B_X6_addWork_107 := chn_app ((107, .iconst 0, 1) :: []) o_X6_addWork_108 (by decide +kernel)
def B_X6_addWork_63 : Blk := (63, .aload_n 0, 1) :: (64, .getfield 11, 3) :: (67, .aload_n 0, 1) :: (68, .getfield 76, 3) :: (71, .iload_n 1, 1) :: (72, .iastore, 1) :: (73, .aload_n 0, 1) :: (74, .getfield 17, 3) :: (77, .iload_n 1, 1) :: (78, .aload_n 0, 1) :: (79, .getfield 76, 3) :: (82, .iastore, 1) :: (83, .aload_n 0, 1) :: (84, .getfield 20, 3) :: (87, .aload_n 0, 1) :: (88, .getfield 76, 3) :: (91, .aload_n 0, 1) :: (92, .getfield 44, 3) :: (95, .iload_n 1, 1) :: (96, .iconst 5, 1) :: (97, .invokevirtual 79, 3) :: (100, .ifCond .ne 7, 3) :: (103, .iconst 1, 1) :: (104, .goto 4, 3) :: []
theorem o_X6_addWork_63 : Chn cX6_addWork B_X6_addWork_63 := chn_of _ (by decide +kernel)
def B_X6_addWork_61 : Blk := (61, .iconst 0, 1) :: (62, .ireturn, 1) :: []
theorem o_X6_addWork_61 : Chn cX6_addWork B_X6_addWork_61 := chn_of _ (by decide +kernel)
def B_X6_addWork_34 : Blk := (34, .aload_n 0, 1) :: (35, .getfield 76, 3) :: (38, .ifCond .lt 23, 3) :: (41, .aload_n 0, 1) :: (42, .getfield 76, 3) :: (45, .bipush 32, 2) :: (47, .if_icmp .ge 14, 3) :: (50, .iload_n 1, 1) :: (51, .ifCond .lt 10, 3) :: (54, .iload_n 1, 1) :: (55, .sipush 640, 3) :: (58, .if_icmp .lt 5, 3) :: B_X6_addWork_61
theorem o_X6_addWork_34 : Chn cX6_addWork B_X6_addWork_34 := chn_app ((34, .aload_n 0, 1) :: (35, .getfield 76, 3) :: (38, .ifCond .lt 23, 3) :: (41, .aload_n 0, 1) :: (42, .getfield 76, 3) :: (45, .bipush 32, 2) :: (47, .if_icmp .ge 14, 3) :: (50, .iload_n 1, 1) :: (51, .ifCond .lt 10, 3) :: (54, .iload_n 1, 1) :: (55, .sipush 640, 3) :: (58, .if_icmp .lt 5, 3) :: []) o_X6_addWork_61 (by decide +kernel)
def B_X6_addWork_28 : Blk := (28, .iinc 2 1, 3) :: (31, .goto (-29), 3) :: []
theorem o_X6_addWork_28 : Chn cX6_addWork B_X6_addWork_28 := chn_of _ (by decide +kernel)
def B_X6_addWork_2 : Blk := (2, .iload_n 2, 1) :: (3, .aload_n 0, 1) :: (4, .getfield 76, 3) :: (7, .if_icmp .ge 27, 3) :: (10, .iload_n 2, 1) :: (11, .bipush 32, 2) :: (13, .if_icmp .ge 21, 3) :: (16, .aload_n 0, 1) :: (17, .getfield 11, 3) :: (20, .iload_n 2, 1) :: (21, .iaload, 1) :: (22, .iload_n 1, 1) :: (23, .if_icmp .ne 5, 3) :: (26, .iconst 1, 1) :: (27, .ireturn, 1) :: []
theorem o_X6_addWork_2 : Chn cX6_addWork B_X6_addWork_2 := chn_of _ (by decide +kernel)
def B_X6_addWork_0 : Blk := (0, .iconst 0, 1) :: (1, .istore_n 2, 1) :: B_X6_addWork_2
theorem o_X6_addWork_0 : Chn cX6_addWork B_X6_addWork_0 := chn_app ((0, .iconst 0, 1) :: (1, .istore_n 2, 1) :: []) o_X6_addWork_2 (by decide +kernel)
theorem fl_6_76 : FLk RX6 76 6 10 0 false := ⟨RX6, TX6, 14, "IntegerHouse$Places", "atoms", "I", rfl, by decide, rfl, Or.inl (allW_in (kT_2 _ (List.mem_of_getElem? (i := 112) rfl)) rfl), rfl, (fun _ => rfl), (fun h => absurd h (by decide)), (fun h => absurd h (by decide)), (fun h => absurd h (by decide))⟩
theorem fl_6_11 : FLk RX6 11 6 1 3 true := ⟨RX6, TX6, 14, "IntegerHouse$Places", "work", "[I", rfl, by decide, rfl, Or.inl (allW_in (kT_2 _ (List.mem_of_getElem? (i := 103) rfl)) rfl), rfl, (fun h => absurd h (by decide)), (fun h => absurd h (by decide)), (fun h => absurd h (by decide)), (fun h => absurd h (by decide))⟩
theorem fl_6_17 : FLk RX6 17 6 2 3 true := ⟨RX6, TX6, 14, "IntegerHouse$Places", "workOf", "[I", rfl, by decide, rfl, Or.inl (allW_in (kT_2 _ (List.mem_of_getElem? (i := 104) rfl)) rfl), rfl, (fun h => absurd h (by decide)), (fun h => absurd h (by decide)), (fun h => absurd h (by decide)), (fun h => absurd h (by decide))⟩
theorem fl_6_20 : FLk RX6 20 6 3 3 true := ⟨RX6, TX6, 14, "IntegerHouse$Places", "isLine", "[Z", rfl, by decide, rfl, Or.inl (allW_in (kT_2 _ (List.mem_of_getElem? (i := 105) rfl)) rfl), rfl, (fun h => absurd h (by decide)), (fun h => absurd h (by decide)), (fun h => absurd h (by decide)), (fun h => absurd h (by decide))⟩
theorem fl_6_44 : FLk RX6 44 6 0 3 true := ⟨RX6, TX6, 14, "IntegerHouse$Places", "house", "LIntegerHouse$House;", rfl, by decide, rfl, Or.inl (allW_in (kT_2 _ (List.mem_of_getElem? (i := 102) rfl)) rfl), rfl, (fun h => absurd h (by decide)), (fun h => absurd h (by decide)), (fun h => absurd h (by decide)), (fun h => absurd h (by decide))⟩
theorem ml_6_79 : MLk RX6 79 yX2_pooled := Or.inl (allW_in (kT_6 _ (List.mem_of_getElem? (i := 111) rfl)) rfl)
theorem fl_6_24 : FLk RX6 24 6 4 3 true := ⟨RX6, TX6, 14, "IntegerHouse$Places", "sums", "[I", rfl, by decide, rfl, Or.inl (allW_in (kT_2 _ (List.mem_of_getElem? (i := 106) rfl)) rfl), rfl, (fun h => absurd h (by decide)), (fun h => absurd h (by decide)), (fun h => absurd h (by decide)), (fun h => absurd h (by decide))⟩
abbrev cX6_gather : ByteArray := prog_8_method_4_code
def yX6_gather : MethodName := ⟨RX6, "gather", "(I)Z"⟩
def M_X6_gather : MT := (yX6_gather, cX6_gather, 5, (some .boolean), RX6, 1)
theorem mk_X6_gather : MokV M_X6_gather 6 1 := ⟨⟨⟨by decide, by decide, rfl⟩, (allW_in (kT_6 _ (List.mem_of_getElem? (i := 102) rfl)) rfl), (allW_in (kT_1 _ (List.mem_of_getElem? (i := 11) rfl)) rfl), by decide⟩, ⟨TX6, 14, rfl⟩, (allW_in (kT_6 _ (List.mem_of_getElem? (i := 100) rfl)) rfl), (allW_in (kT_6 _ (List.mem_of_getElem? (i := 101) rfl)) rfl)⟩
def B_X6_gather_150 : Blk := (150, .iconst 1, 1) :: (151, .ireturn, 1) :: []
theorem o_X6_gather_150 : Chn cX6_gather B_X6_gather_150 := chn_of _ (by decide +kernel)
def B_X6_gather_140 : Blk := (140, .ior, 1) :: (141, .putfield 90, 3) :: (144, .iinc 2 (-1), 3) :: (147, .goto (-42), 3) :: []
theorem o_X6_gather_140 : Chn cX6_gather B_X6_gather_140 := chn_of _ (by decide +kernel)
def B_X6_gather_139 : Blk := (139, .iconst 0, 1) :: B_X6_gather_140
theorem o_X6_gather_139 : Chn cX6_gather B_X6_gather_139 := chn_app ((139, .iconst 0, 1) :: []) o_X6_gather_140 (by decide +kernel)
def B_X6_gather_105 : Blk := (105, .iload_n 2, 1) :: (106, .ifCond .lt 44, 3) :: (109, .aload_n 0, 1) :: (110, .dup, 1) :: (111, .getfield 90, 3) :: (114, .aload_n 0, 1) :: (115, .getfield 90, 3) :: (118, .iload_n 2, 1) :: (119, .iushr, 1) :: (120, .iconst 1, 1) :: (121, .iand, 1) :: (122, .iconst 1, 1) :: (123, .if_icmp .ne 16, 3) :: (126, .aload_n 0, 1) :: (127, .getfield 44, 3) :: (130, .iload_n 2, 1) :: (131, .bipush 7, 2) :: (133, .invokevirtual 104, 3) :: (136, .goto 4, 3) :: []
theorem o_X6_gather_105 : Chn cX6_gather B_X6_gather_105 := chn_of _ (by decide +kernel)
def B_X6_gather_102 : Blk := (102, .bipush 24, 2) :: (104, .istore_n 2, 1) :: B_X6_gather_105
theorem o_X6_gather_102 : Chn cX6_gather B_X6_gather_102 := chn_app ((102, .bipush 24, 2) :: (104, .istore_n 2, 1) :: []) o_X6_gather_105 (by decide +kernel)
def B_X6_gather_96 : Blk := (96, .iinc 2 1, 3) :: (99, .goto (-66), 3) :: []
theorem o_X6_gather_96 : Chn cX6_gather B_X6_gather_96 := chn_of _ (by decide +kernel)
def B_X6_gather_90 : Blk := (90, .iinc 4 1, 3) :: (93, .goto (-28), 3) :: []
theorem o_X6_gather_90 : Chn cX6_gather B_X6_gather_90 := chn_of _ (by decide +kernel)
def B_X6_gather_65 : Blk := (65, .iload 4, 2) :: (67, .iload_n 3, 1) :: (68, .if_icmp .ge 28, 3) :: (71, .aload_n 0, 1) :: (72, .aload_n 0, 1) :: (73, .getfield 44, 3) :: (76, .iload_n 2, 1) :: (77, .iload 4, 2) :: (79, .invokevirtual 107, 3) :: (82, .invokevirtual 110, 3) :: (85, .ifCond .ne 5, 3) :: (88, .iconst 0, 1) :: (89, .ireturn, 1) :: []
theorem o_X6_gather_65 : Chn cX6_gather B_X6_gather_65 := chn_of _ (by decide +kernel)
def B_X6_gather_61 : Blk := (61, .istore_n 3, 1) :: (62, .iconst 0, 1) :: (63, .istore 4, 2) :: B_X6_gather_65
theorem o_X6_gather_61 : Chn cX6_gather B_X6_gather_61 := chn_app ((61, .istore_n 3, 1) :: (62, .iconst 0, 1) :: (63, .istore 4, 2) :: []) o_X6_gather_65 (by decide +kernel)
def B_X6_gather_60 : Blk := (60, .iconst 0, 1) :: B_X6_gather_61
theorem o_X6_gather_60 : Chn cX6_gather B_X6_gather_60 := chn_app ((60, .iconst 0, 1) :: []) o_X6_gather_61 (by decide +kernel)
def B_X6_gather_33 : Blk := (33, .iload_n 2, 1) :: (34, .bipush 24, 2) :: (36, .if_icmp .gt 66, 3) :: (39, .iload_n 1, 1) :: (40, .iload_n 2, 1) :: (41, .iushr, 1) :: (42, .iconst 1, 1) :: (43, .iand, 1) :: (44, .iconst 1, 1) :: (45, .if_icmp .ne 15, 3) :: (48, .aload_n 0, 1) :: (49, .getfield 44, 3) :: (52, .iload_n 2, 1) :: (53, .iconst 4, 1) :: (54, .invokevirtual 104, 3) :: (57, .goto 4, 3) :: []
theorem o_X6_gather_33 : Chn cX6_gather B_X6_gather_33 := chn_of _ (by decide +kernel)
def B_X6_gather_0 : Blk := (0, .aload_n 0, 1) :: (1, .iconst 0, 1) :: (2, .putfield 76, 3) :: (5, .aload_n 0, 1) :: (6, .iload_n 1, 1) :: (7, .putfield 90, 3) :: (10, .aload_n 0, 1) :: (11, .iconst 1, 1) :: (12, .iconst 0, 1) :: (13, .iconst 4, 1) :: (14, .aload_n 0, 1) :: (15, .getfield 44, 3) :: (18, .getfield 93, 3) :: (21, .invokestatic 96, 3) :: (24, .invokestatic 101, 3) :: (27, .ishl, 1) :: (28, .putfield 56, 3) :: (31, .iconst 0, 1) :: (32, .istore_n 2, 1) :: B_X6_gather_33
theorem o_X6_gather_0 : Chn cX6_gather B_X6_gather_0 := chn_app ((0, .aload_n 0, 1) :: (1, .iconst 0, 1) :: (2, .putfield 76, 3) :: (5, .aload_n 0, 1) :: (6, .iload_n 1, 1) :: (7, .putfield 90, 3) :: (10, .aload_n 0, 1) :: (11, .iconst 1, 1) :: (12, .iconst 0, 1) :: (13, .iconst 4, 1) :: (14, .aload_n 0, 1) :: (15, .getfield 44, 3) :: (18, .getfield 93, 3) :: (21, .invokestatic 96, 3) :: (24, .invokestatic 101, 3) :: (27, .ishl, 1) :: (28, .putfield 56, 3) :: (31, .iconst 0, 1) :: (32, .istore_n 2, 1) :: []) o_X6_gather_33 (by decide +kernel)
theorem fl_6_90 : FLk RX6 90 6 11 0 false := ⟨RX6, TX6, 14, "IntegerHouse$Places", "needed", "I", rfl, by decide, rfl, Or.inl (allW_in (kT_2 _ (List.mem_of_getElem? (i := 113) rfl)) rfl), rfl, (fun _ => rfl), (fun h => absurd h (by decide)), (fun h => absurd h (by decide)), (fun h => absurd h (by decide))⟩
theorem fl_6_93 : FLk RX6 93 2 10 0 false := ⟨RX2, TX2, 16, "IntegerHouse$House", "variables", "I", rfl, by decide, rfl, Or.inr ⟨"IntegerHouse", List.mem_of_getElem? (i := 9) rfl⟩, rfl, (fun _ => rfl), (fun h => absurd h (by decide)), (fun h => absurd h (by decide)), (fun h => absurd h (by decide))⟩
theorem fl_6_56 : FLk RX6 56 6 12 0 false := ⟨RX6, TX6, 14, "IntegerHouse$Places", "letters", "I", rfl, by decide, rfl, Or.inl (allW_in (kT_2 _ (List.mem_of_getElem? (i := 114) rfl)) rfl), rfl, (fun _ => rfl), (fun h => absurd h (by decide)), (fun h => absurd h (by decide)), (fun h => absurd h (by decide))⟩
theorem ml_6_104 : MLk RX6 104 yX2_fact := Or.inl (allW_in (kT_6 _ (List.mem_of_getElem? (i := 105) rfl)) rfl)
theorem ml_6_107 : MLk RX6 107 yX2_atomOf := Or.inl (allW_in (kT_6 _ (List.mem_of_getElem? (i := 106) rfl)) rfl)
theorem ml_6_110 : MLk RX6 110 yX6_addWork := Or.inl (allW_in (kT_6 _ (List.mem_of_getElem? (i := 107) rfl)) rfl)
abbrev cX6_joined : ByteArray := prog_8_method_18_code
def yX6_joined : MethodName := ⟨RX6, "joined", "(JI)J"⟩
def M_X6_joined : MT := (yX6_joined, cX6_joined, 9, (some .long), RX6, 2)
theorem mk_X6_joined : MokS M_X6_joined 2 := ⟨⟨⟨by decide, by decide, rfl⟩, (allW_in (kT_6 _ (List.mem_of_getElem? (i := 122) rfl)) rfl), (allW_in (kT_1 _ (List.mem_of_getElem? (i := 11) rfl)) rfl), by decide⟩, (allW_in (kT_6 _ (List.mem_of_getElem? (i := 121) rfl)) rfl)⟩
def B_X6_joined_58 : Blk := (58, .lstore 7, 2) :: (60, .lload_n 0, 1) :: (61, .iconst 2, 1) :: (62, .lushr, 1) :: (63, .iconst 1, 1) :: (64, .lshl, 1) :: (65, .lload 7, 2) :: (67, .lor, 1) :: (68, .lreturn, 1) :: []
theorem o_X6_joined_58 : Chn cX6_joined B_X6_joined_58 := chn_of _ (by decide +kernel)
def B_X6_joined_52 : Blk := (52, .lload 5, 2) :: (54, .lload_n 3, 1) :: (55, .lxor, 1) :: (56, .lconst 1, 1) :: (57, .lxor, 1) :: B_X6_joined_58
theorem o_X6_joined_52 : Chn cX6_joined B_X6_joined_52 := chn_app ((52, .lload 5, 2) :: (54, .lload_n 3, 1) :: (55, .lxor, 1) :: (56, .lconst 1, 1) :: (57, .lxor, 1) :: []) o_X6_joined_58 (by decide +kernel)
def B_X6_joined_37 : Blk := (37, .iload_n 2, 1) :: (38, .bipush (-19), 2) :: (40, .if_icmp .ne 12, 3) :: (43, .lload 5, 2) :: (45, .lconst 1, 1) :: (46, .lxor, 1) :: (47, .lload_n 3, 1) :: (48, .lor, 1) :: (49, .goto 9, 3) :: []
theorem o_X6_joined_37 : Chn cX6_joined B_X6_joined_37 := chn_of _ (by decide +kernel)
def B_X6_joined_24 : Blk := (24, .iload_n 2, 1) :: (25, .bipush (-24), 2) :: (27, .if_icmp .ne 10, 3) :: (30, .lload 5, 2) :: (32, .lload_n 3, 1) :: (33, .lor, 1) :: (34, .goto 24, 3) :: []
theorem o_X6_joined_24 : Chn cX6_joined B_X6_joined_24 := chn_of _ (by decide +kernel)
def B_X6_joined_0 : Blk := (0, .lload_n 0, 1) :: (1, .lconst 1, 1) :: (2, .land, 1) :: (3, .lstore_n 3, 1) :: (4, .lload_n 0, 1) :: (5, .iconst 1, 1) :: (6, .lushr, 1) :: (7, .lconst 1, 1) :: (8, .land, 1) :: (9, .lstore 5, 2) :: (11, .iload_n 2, 1) :: (12, .bipush (-23), 2) :: (14, .if_icmp .ne 10, 3) :: (17, .lload 5, 2) :: (19, .lload_n 3, 1) :: (20, .land, 1) :: (21, .goto 37, 3) :: []
theorem o_X6_joined_0 : Chn cX6_joined B_X6_joined_0 := chn_of _ (by decide +kernel)
abbrev cX6_isSo : ByteArray := prog_8_method_17_code
def yX6_isSo : MethodName := ⟨RX6, "isSo", "(III)Z"⟩
def M_X6_isSo : MT := (yX6_isSo, cX6_isSo, 10, (some .boolean), RX6, 1)
theorem mk_X6_isSo : MokV M_X6_isSo 6 3 := ⟨⟨⟨by decide, by decide, rfl⟩, (allW_in (kT_6 _ (List.mem_of_getElem? (i := 119) rfl)) rfl), (allW_in (kT_1 _ (List.mem_of_getElem? (i := 11) rfl)) rfl), by decide⟩, ⟨TX6, 14, rfl⟩, (allW_in (kT_6 _ (List.mem_of_getElem? (i := 118) rfl)) rfl), (allW_in (kTs_5 _ (List.mem_of_getElem? (i := 5) rfl)) rfl)⟩
def B_X6_isSo_202 : Blk := (202, .ireturn, 1) :: []
theorem o_X6_isSo_202 : Chn cX6_isSo B_X6_isSo_202 := chn_of _ (by decide +kernel)
def B_X6_isSo_201 : Blk := (201, .iconst 0, 1) :: B_X6_isSo_202
theorem o_X6_isSo_201 : Chn cX6_isSo B_X6_isSo_201 := chn_app ((201, .iconst 0, 1) :: []) o_X6_isSo_202 (by decide +kernel)
def B_X6_isSo_188 : Blk := (188, .lload 4, 2) :: (190, .lconst 1, 1) :: (191, .land, 1) :: (192, .lconst 1, 1) :: (193, .lcmp, 1) :: (194, .ifCond .ne 7, 3) :: (197, .iconst 1, 1) :: (198, .goto 4, 3) :: []
theorem o_X6_isSo_188 : Chn cX6_isSo B_X6_isSo_188 := chn_of _ (by decide +kernel)
def B_X6_isSo_182 : Blk := (182, .iinc 8 1, 3) :: (185, .goto (-142), 3) :: []
theorem o_X6_isSo_182 : Chn cX6_isSo B_X6_isSo_182 := chn_of _ (by decide +kernel)
def B_X6_isSo_180 : Blk := (180, .lstore 4, 2) :: B_X6_isSo_182
theorem o_X6_isSo_180 : Chn cX6_isSo B_X6_isSo_180 := chn_app ((180, .lstore 4, 2) :: []) o_X6_isSo_182 (by decide +kernel)
def B_X6_isSo_173 : Blk := (173, .lload 4, 2) :: (175, .iload 9, 2) :: (177, .invokestatic 136, 3) :: B_X6_isSo_180
theorem o_X6_isSo_173 : Chn cX6_isSo B_X6_isSo_173 := chn_app ((173, .lload 4, 2) :: (175, .iload 9, 2) :: (177, .invokestatic 136, 3) :: []) o_X6_isSo_180 (by decide +kernel)
def B_X6_isSo_159 : Blk := (159, .iload 9, 2) :: (161, .bipush (-25), 2) :: (163, .if_icmp .ne 10, 3) :: (166, .lload 4, 2) :: (168, .lconst 1, 1) :: (169, .lxor, 1) :: (170, .goto 10, 3) :: []
theorem o_X6_isSo_159 : Chn cX6_isSo B_X6_isSo_159 := chn_of _ (by decide +kernel)
def B_X6_isSo_152 : Blk := (152, .i2l, 1) :: (153, .lor, 1) :: (154, .lstore 4, 2) :: (156, .goto 26, 3) :: []
theorem o_X6_isSo_152 : Chn cX6_isSo B_X6_isSo_152 := chn_of _ (by decide +kernel)
def B_X6_isSo_151 : Blk := (151, .iconst 0, 1) :: B_X6_isSo_152
theorem o_X6_isSo_151 : Chn cX6_isSo B_X6_isSo_151 := chn_app ((151, .iconst 0, 1) :: []) o_X6_isSo_152 (by decide +kernel)
def B_X6_isSo_136 : Blk := (136, .lload 4, 2) :: (138, .iconst 1, 1) :: (139, .lshl, 1) :: (140, .iload 9, 2) :: (142, .bipush (-26), 2) :: (144, .if_icmp .ne 7, 3) :: (147, .iconst 1, 1) :: (148, .goto 4, 3) :: []
theorem o_X6_isSo_136 : Chn cX6_isSo B_X6_isSo_136 := chn_of _ (by decide +kernel)
def B_X6_isSo_122 : Blk := (122, .iload 9, 2) :: (124, .bipush (-26), 2) :: (126, .if_icmp .eq 10, 3) :: (129, .iload 9, 2) :: (131, .bipush (-27), 2) :: (133, .if_icmp .ne 26, 3) :: B_X6_isSo_136
theorem o_X6_isSo_122 : Chn cX6_isSo B_X6_isSo_122 := chn_app ((122, .iload 9, 2) :: (124, .bipush (-26), 2) :: (126, .if_icmp .eq 10, 3) :: (129, .iload 9, 2) :: (131, .bipush (-27), 2) :: (133, .if_icmp .ne 26, 3) :: []) o_X6_isSo_136 (by decide +kernel)
def B_X6_isSo_95 : Blk := (95, .iload 9, 2) :: (97, .bipush (-100), 2) :: (99, .if_icmp .gt 23, 3) :: (102, .lload 4, 2) :: (104, .iconst 1, 1) :: (105, .lshl, 1) :: (106, .iload_n 3, 1) :: (107, .bipush (-100), 2) :: (109, .iload 9, 2) :: (111, .isub, 1) :: (112, .iushr, 1) :: (113, .iconst 1, 1) :: (114, .iand, 1) :: (115, .i2l, 1) :: (116, .lor, 1) :: (117, .lstore 4, 2) :: (119, .goto 63, 3) :: []
theorem o_X6_isSo_95 : Chn cX6_isSo B_X6_isSo_95 := chn_of _ (by decide +kernel)
def B_X6_isSo_43 : Blk := (43, .iload 8, 2) :: (45, .iload 7, 2) :: (47, .if_icmp .ge 141, 3) :: (50, .aload_n 0, 1) :: (51, .getfield 44, 3) :: (54, .getfield 131, 3) :: (57, .iload 8, 2) :: (59, .iaload, 1) :: (60, .istore 9, 2) :: (62, .iload 9, 2) :: (64, .ifCond .lt 31, 3) :: (67, .lload 4, 2) :: (69, .iconst 1, 1) :: (70, .lshl, 1) :: (71, .iload_n 2, 1) :: (72, .aload_n 0, 1) :: (73, .getfield 17, 3) :: (76, .iload 9, 2) :: (78, .sipush 639, 3) :: (81, .invokestatic 96, 3) :: (84, .iaload, 1) :: (85, .iushr, 1) :: (86, .iconst 1, 1) :: (87, .iand, 1) :: (88, .i2l, 1) :: (89, .lor, 1) :: (90, .lstore 4, 2) :: (92, .goto 90, 3) :: []
theorem o_X6_isSo_43 : Chn cX6_isSo B_X6_isSo_43 := chn_of _ (by decide +kernel)
def B_X6_isSo_0 : Blk := (0, .lconst 0, 1) :: (1, .lstore 4, 2) :: (3, .iload_n 1, 1) :: (4, .sipush 1024, 3) :: (7, .imul, 1) :: (8, .istore 6, 2) :: (10, .iload 6, 2) :: (12, .aload_n 0, 1) :: (13, .getfield 44, 3) :: (16, .iload_n 1, 1) :: (17, .iconst 2, 1) :: (18, .invokevirtual 104, 3) :: (21, .iadd, 1) :: (22, .aload_n 0, 1) :: (23, .getfield 44, 3) :: (26, .getfield 131, 3) :: (29, .arraylength, 1) :: (30, .invokestatic 96, 3) :: (33, .istore 7, 2) :: (35, .iconst 0, 1) :: (36, .iload 6, 2) :: (38, .invokestatic 101, 3) :: (41, .istore 8, 2) :: B_X6_isSo_43
theorem o_X6_isSo_0 : Chn cX6_isSo B_X6_isSo_0 := chn_app ((0, .lconst 0, 1) :: (1, .lstore 4, 2) :: (3, .iload_n 1, 1) :: (4, .sipush 1024, 3) :: (7, .imul, 1) :: (8, .istore 6, 2) :: (10, .iload 6, 2) :: (12, .aload_n 0, 1) :: (13, .getfield 44, 3) :: (16, .iload_n 1, 1) :: (17, .iconst 2, 1) :: (18, .invokevirtual 104, 3) :: (21, .iadd, 1) :: (22, .aload_n 0, 1) :: (23, .getfield 44, 3) :: (26, .getfield 131, 3) :: (29, .arraylength, 1) :: (30, .invokestatic 96, 3) :: (33, .istore 7, 2) :: (35, .iconst 0, 1) :: (36, .iload 6, 2) :: (38, .invokestatic 101, 3) :: (41, .istore 8, 2) :: []) o_X6_isSo_43 (by decide +kernel)
theorem fl_6_131 : FLk RX6 131 2 4 3 true := ⟨RX2, TX2, 16, "IntegerHouse$House", "code", "[I", rfl, by decide, rfl, Or.inr ⟨"IntegerHouse", List.mem_of_getElem? (i := 5) rfl⟩, rfl, (fun h => absurd h (by decide)), (fun h => absurd h (by decide)), (fun h => absurd h (by decide)), (fun h => absurd h (by decide))⟩
theorem ml_6_136 : MLk RX6 136 yX6_joined := Or.inl (allW_in (kT_6 _ (List.mem_of_getElem? (i := 120) rfl)) rfl)
abbrev cX6_soOf : ByteArray := prog_8_method_16_code
def yX6_soOf : MethodName := ⟨RX6, "soOf", "(I)I"⟩
def M_X6_soOf : MT := (yX6_soOf, cX6_soOf, 4, (some .int), RX6, 1)
theorem mk_X6_soOf : MokV M_X6_soOf 6 1 := ⟨⟨⟨by decide, by decide, rfl⟩, (allW_in (kT_6 _ (List.mem_of_getElem? (i := 115) rfl)) rfl), (allW_in (kT_1 _ (List.mem_of_getElem? (i := 11) rfl)) rfl), by decide⟩, ⟨TX6, 14, rfl⟩, (allW_in (kT_6 _ (List.mem_of_getElem? (i := 114) rfl)) rfl), (allW_in (kTs_5 _ (List.mem_of_getElem? (i := 4) rfl)) rfl)⟩
def B_X6_soOf_44 : Blk := (44, .iload_n 2, 1) :: (45, .ireturn, 1) :: []
theorem o_X6_soOf_44 : Chn cX6_soOf B_X6_soOf_44 := chn_of _ (by decide +kernel)
def B_X6_soOf_38 : Blk := (38, .iinc 3 1, 3) :: (41, .goto (-37), 3) :: []
theorem o_X6_soOf_38 : Chn cX6_soOf B_X6_soOf_38 := chn_of _ (by decide +kernel)
def B_X6_soOf_4 : Blk := (4, .iload_n 3, 1) :: (5, .bipush 24, 2) :: (7, .if_icmp .gt 37, 3) :: (10, .aload_n 0, 1) :: (11, .getfield 90, 3) :: (14, .iload_n 3, 1) :: (15, .iushr, 1) :: (16, .iconst 1, 1) :: (17, .iand, 1) :: (18, .iconst 1, 1) :: (19, .if_icmp .ne 19, 3) :: (22, .aload_n 0, 1) :: (23, .iload_n 3, 1) :: (24, .iload_n 1, 1) :: (25, .iload_n 2, 1) :: (26, .invokevirtual 127, 3) :: (29, .ifCond .eq 9, 3) :: (32, .iload_n 2, 1) :: (33, .iconst 1, 1) :: (34, .iload_n 3, 1) :: (35, .ishl, 1) :: (36, .ior, 1) :: (37, .istore_n 2, 1) :: B_X6_soOf_38
theorem o_X6_soOf_4 : Chn cX6_soOf B_X6_soOf_4 := chn_app ((4, .iload_n 3, 1) :: (5, .bipush 24, 2) :: (7, .if_icmp .gt 37, 3) :: (10, .aload_n 0, 1) :: (11, .getfield 90, 3) :: (14, .iload_n 3, 1) :: (15, .iushr, 1) :: (16, .iconst 1, 1) :: (17, .iand, 1) :: (18, .iconst 1, 1) :: (19, .if_icmp .ne 19, 3) :: (22, .aload_n 0, 1) :: (23, .iload_n 3, 1) :: (24, .iload_n 1, 1) :: (25, .iload_n 2, 1) :: (26, .invokevirtual 127, 3) :: (29, .ifCond .eq 9, 3) :: (32, .iload_n 2, 1) :: (33, .iconst 1, 1) :: (34, .iload_n 3, 1) :: (35, .ishl, 1) :: (36, .ior, 1) :: (37, .istore_n 2, 1) :: []) o_X6_soOf_38 (by decide +kernel)
def B_X6_soOf_0 : Blk := (0, .iconst 0, 1) :: (1, .istore_n 2, 1) :: (2, .iconst 0, 1) :: (3, .istore_n 3, 1) :: B_X6_soOf_4
theorem o_X6_soOf_0 : Chn cX6_soOf B_X6_soOf_0 := chn_app ((0, .iconst 0, 1) :: (1, .istore_n 2, 1) :: (2, .iconst 0, 1) :: (3, .istore_n 3, 1) :: []) o_X6_soOf_4 (by decide +kernel)
theorem ml_6_127 : MLk RX6 127 yX6_isSo := Or.inl (allW_in (kT_6 _ (List.mem_of_getElem? (i := 116) rfl)) rfl)
abbrev cX6_soFor : ByteArray := prog_8_method_15_code
def yX6_soFor : MethodName := ⟨RX6, "soFor", "(I[J)I"⟩
def M_X6_soFor : MT := (yX6_soFor, cX6_soFor, 10, (some .int), RX6, 1)
theorem mk_X6_soFor : MokV M_X6_soFor 6 2 := ⟨⟨⟨by decide, by decide, rfl⟩, (allW_in (kT_6 _ (List.mem_of_getElem? (i := 98) rfl)) rfl), (allW_in (kT_1 _ (List.mem_of_getElem? (i := 11) rfl)) rfl), by decide⟩, ⟨TX6, 14, rfl⟩, (allW_in (kT_6 _ (List.mem_of_getElem? (i := 96) rfl)) rfl), (allW_in (kT_6 _ (List.mem_of_getElem? (i := 97) rfl)) rfl)⟩
def B_X6_soFor_187 : Blk := (187, .aload_n 0, 1) :: (188, .iload_n 3, 1) :: (189, .invokevirtual 63, 3) :: (192, .ireturn, 1) :: []
theorem o_X6_soFor_187 : Chn cX6_soFor B_X6_soFor_187 := chn_of _ (by decide +kernel)
def B_X6_soFor_179 : Blk := (179, .ior, 1) :: (180, .istore_n 3, 1) :: (181, .iinc 4 1, 3) :: (184, .goto (-169), 3) :: []
theorem o_X6_soFor_179 : Chn cX6_soFor B_X6_soFor_179 := chn_of _ (by decide +kernel)
def B_X6_soFor_178 : Blk := (178, .iconst 0, 1) :: B_X6_soFor_179
theorem o_X6_soFor_178 : Chn cX6_soFor B_X6_soFor_178 := chn_app ((178, .iconst 0, 1) :: []) o_X6_soFor_179 (by decide +kernel)
def B_X6_soFor_163 : Blk := (163, .istore 9, 2) :: (165, .iload_n 3, 1) :: (166, .iload 9, 2) :: (168, .ifCond .eq 10, 3) :: (171, .iconst 1, 1) :: (172, .iload 4, 2) :: (174, .ishl, 1) :: (175, .goto 4, 3) :: []
theorem o_X6_soFor_163 : Chn cX6_soFor B_X6_soFor_163 := chn_of _ (by decide +kernel)
def B_X6_soFor_162 : Blk := (162, .iconst 0, 1) :: B_X6_soFor_163
theorem o_X6_soFor_162 : Chn cX6_soFor B_X6_soFor_162 := chn_app ((162, .iconst 0, 1) :: []) o_X6_soFor_163 (by decide +kernel)
def B_X6_soFor_139 : Blk := (139, .lload 5, 2) :: (141, .iload 8, 2) :: (143, .i2l, 1) :: (144, .ladd, 1) :: (145, .iconst 1, 1) :: (146, .iload 7, 2) :: (148, .invokestatic 101, 3) :: (151, .i2l, 1) :: (152, .lrem, 1) :: (153, .lconst 0, 1) :: (154, .lcmp, 1) :: (155, .ifCond .ne 7, 3) :: (158, .iconst 1, 1) :: (159, .goto 4, 3) :: []
theorem o_X6_soFor_139 : Chn cX6_soFor B_X6_soFor_139 := chn_of _ (by decide +kernel)
def B_X6_soFor_135 : Blk := (135, .iconst 0, 1) :: (136, .goto 27, 3) :: []
theorem o_X6_soFor_135 : Chn cX6_soFor B_X6_soFor_135 := chn_of _ (by decide +kernel)
def B_X6_soFor_83 : Blk := (83, .aload_n 0, 1) :: (84, .getfield 44, 3) :: (87, .aload_n 0, 1) :: (88, .getfield 11, 3) :: (91, .iload 4, 2) :: (93, .iaload, 1) :: (94, .iconst 5, 1) :: (95, .invokevirtual 79, 3) :: (98, .istore 7, 2) :: (100, .aload_n 0, 1) :: (101, .getfield 44, 3) :: (104, .aload_n 0, 1) :: (105, .getfield 11, 3) :: (108, .iload 4, 2) :: (110, .iaload, 1) :: (111, .iconst 4, 1) :: (112, .invokevirtual 79, 3) :: (115, .istore 8, 2) :: (117, .iload 7, 2) :: (119, .ifCond .ne 20, 3) :: (122, .lload 5, 2) :: (124, .iload 8, 2) :: (126, .i2l, 1) :: (127, .lcmp, 1) :: (128, .ifCond .gt 7, 3) :: (131, .iconst 1, 1) :: (132, .goto 31, 3) :: []
theorem o_X6_soFor_83 : Chn cX6_soFor B_X6_soFor_83 := chn_of _ (by decide +kernel)
def B_X6_soFor_37 : Blk := (37, .iload 7, 2) :: (39, .iconst 4, 1) :: (40, .if_icmp .ge 43, 3) :: (43, .iload 7, 2) :: (45, .aload_n 2, 1) :: (46, .arraylength, 1) :: (47, .if_icmp .ge 36, 3) :: (50, .lload 5, 2) :: (52, .aload_n 0, 1) :: (53, .getfield 44, 3) :: (56, .aload_n 0, 1) :: (57, .getfield 11, 3) :: (60, .iload 4, 2) :: (62, .iaload, 1) :: (63, .iload 7, 2) :: (65, .invokevirtual 79, 3) :: (68, .i2l, 1) :: (69, .aload_n 2, 1) :: (70, .iload 7, 2) :: (72, .laload, 1) :: (73, .lmul, 1) :: (74, .ladd, 1) :: (75, .lstore 5, 2) :: (77, .iinc 7 1, 3) :: (80, .goto (-43), 3) :: []
theorem o_X6_soFor_37 : Chn cX6_soFor B_X6_soFor_37 := chn_of _ (by decide +kernel)
def B_X6_soFor_15 : Blk := (15, .iload 4, 2) :: (17, .aload_n 0, 1) :: (18, .getfield 76, 3) :: (21, .if_icmp .ge 166, 3) :: (24, .iload 4, 2) :: (26, .bipush 32, 2) :: (28, .if_icmp .ge 159, 3) :: (31, .lconst 0, 1) :: (32, .lstore 5, 2) :: (34, .iconst 0, 1) :: (35, .istore 7, 2) :: B_X6_soFor_37
theorem o_X6_soFor_15 : Chn cX6_soFor B_X6_soFor_15 := chn_app ((15, .iload 4, 2) :: (17, .aload_n 0, 1) :: (18, .getfield 76, 3) :: (21, .if_icmp .ge 166, 3) :: (24, .iload 4, 2) :: (26, .bipush 32, 2) :: (28, .if_icmp .ge 159, 3) :: (31, .lconst 0, 1) :: (32, .lstore 5, 2) :: (34, .iconst 0, 1) :: (35, .istore 7, 2) :: []) o_X6_soFor_37 (by decide +kernel)
def B_X6_soFor_10 : Blk := (10, .iconst 0, 1) :: (11, .istore_n 3, 1) :: (12, .iconst 0, 1) :: (13, .istore 4, 2) :: B_X6_soFor_15
theorem o_X6_soFor_10 : Chn cX6_soFor B_X6_soFor_10 := chn_app ((10, .iconst 0, 1) :: (11, .istore_n 3, 1) :: (12, .iconst 0, 1) :: (13, .istore 4, 2) :: []) o_X6_soFor_15 (by decide +kernel)
def B_X6_soFor_0 : Blk := (0, .aload_n 0, 1) :: (1, .iload_n 1, 1) :: (2, .invokevirtual 67, 3) :: (5, .ifCond .ne 5, 3) :: (8, .iconst 0, 1) :: (9, .ireturn, 1) :: []
theorem o_X6_soFor_0 : Chn cX6_soFor B_X6_soFor_0 := chn_of _ (by decide +kernel)
theorem ml_6_67 : MLk RX6 67 yX6_gather := Or.inl (allW_in (kT_6 _ (List.mem_of_getElem? (i := 99) rfl)) rfl)
theorem ml_6_63 : MLk RX6 63 yX6_soOf := Or.inl (allW_in (kT_6 _ (List.mem_of_getElem? (i := 112) rfl)) rfl)
abbrev cX0_isSoFor : ByteArray := prog_2_method_2_code
def yX0_isSoFor : MethodName := ⟨RX0, "isSoFor", "(IJJJJ)Z"⟩
def M_X0_isSoFor : MT := (yX0_isSoFor, cX0_isSoFor, 11, (some .boolean), RX0, 1)
theorem mk_X0_isSoFor : MokV M_X0_isSoFor 0 5 := ⟨⟨⟨by decide, by decide, rfl⟩, (allW_in (kT_6 _ (List.mem_of_getElem? (i := 93) rfl)) rfl), (allW_in (kT_1 _ (List.mem_of_getElem? (i := 12) rfl)) rfl), by decide⟩, ⟨TX0, 19, rfl⟩, (allW_in (kT_6 _ (List.mem_of_getElem? (i := 91) rfl)) rfl), (allW_in (kT_6 _ (List.mem_of_getElem? (i := 92) rfl)) rfl)⟩
def B_X0_isSoFor_91 : Blk := (91, .ireturn, 1) :: []
theorem o_X0_isSoFor_91 : Chn cX0_isSoFor B_X0_isSoFor_91 := chn_of _ (by decide +kernel)
def B_X0_isSoFor_90 : Blk := (90, .iconst 0, 1) :: B_X0_isSoFor_91
theorem o_X0_isSoFor_90 : Chn cX0_isSoFor B_X0_isSoFor_90 := chn_app ((90, .iconst 0, 1) :: []) o_X0_isSoFor_91 (by decide +kernel)
def B_X0_isSoFor_64 : Blk := (64, .aload_n 0, 1) :: (65, .getfield 48, 3) :: (68, .iconst 1, 1) :: (69, .iload_n 1, 1) :: (70, .ishl, 1) :: (71, .aload_n 0, 1) :: (72, .getfield 15, 3) :: (75, .invokevirtual 63, 3) :: (78, .iload_n 1, 1) :: (79, .iushr, 1) :: (80, .iconst 1, 1) :: (81, .iand, 1) :: (82, .iconst 1, 1) :: (83, .if_icmp .ne 7, 3) :: (86, .iconst 1, 1) :: (87, .goto 4, 3) :: []
theorem o_X0_isSoFor_64 : Chn cX0_isSoFor B_X0_isSoFor_64 := chn_of _ (by decide +kernel)
def B_X0_isSoFor_44 : Blk := (44, .iload 10, 2) :: (46, .iconst 4, 1) :: (47, .if_icmp .ge 17, 3) :: (50, .aload_n 0, 1) :: (51, .getfield 15, 3) :: (54, .iload 10, 2) :: (56, .lconst 0, 1) :: (57, .lastore, 1) :: (58, .iinc 10 1, 3) :: (61, .goto (-17), 3) :: []
theorem o_X0_isSoFor_44 : Chn cX0_isSoFor B_X0_isSoFor_44 := chn_of _ (by decide +kernel)
def B_X0_isSoFor_0 : Blk := (0, .aload_n 0, 1) :: (1, .getfield 15, 3) :: (4, .iconst 0, 1) :: (5, .lload_n 2, 1) :: (6, .lastore, 1) :: (7, .aload_n 0, 1) :: (8, .getfield 15, 3) :: (11, .iconst 1, 1) :: (12, .lload 4, 2) :: (14, .lastore, 1) :: (15, .aload_n 0, 1) :: (16, .getfield 15, 3) :: (19, .iconst 2, 1) :: (20, .lload 6, 2) :: (22, .lastore, 1) :: (23, .aload_n 0, 1) :: (24, .getfield 15, 3) :: (27, .iconst 3, 1) :: (28, .lload 8, 2) :: (30, .lastore, 1) :: (31, .iconst 0, 1) :: (32, .aload_n 0, 1) :: (33, .getfield 44, 3) :: (36, .getfield 52, 3) :: (39, .invokestatic 57, 3) :: (42, .istore 10, 2) :: B_X0_isSoFor_44
theorem o_X0_isSoFor_0 : Chn cX0_isSoFor B_X0_isSoFor_0 := chn_app ((0, .aload_n 0, 1) :: (1, .getfield 15, 3) :: (4, .iconst 0, 1) :: (5, .lload_n 2, 1) :: (6, .lastore, 1) :: (7, .aload_n 0, 1) :: (8, .getfield 15, 3) :: (11, .iconst 1, 1) :: (12, .lload 4, 2) :: (14, .lastore, 1) :: (15, .aload_n 0, 1) :: (16, .getfield 15, 3) :: (19, .iconst 2, 1) :: (20, .lload 6, 2) :: (22, .lastore, 1) :: (23, .aload_n 0, 1) :: (24, .getfield 15, 3) :: (27, .iconst 3, 1) :: (28, .lload 8, 2) :: (30, .lastore, 1) :: (31, .iconst 0, 1) :: (32, .aload_n 0, 1) :: (33, .getfield 44, 3) :: (36, .getfield 52, 3) :: (39, .invokestatic 57, 3) :: (42, .istore 10, 2) :: []) o_X0_isSoFor_44 (by decide +kernel)
theorem fl_0_15 : FLk RX0 15 0 3 3 true := ⟨RX0, TX0, 19, "IntegerHouse$Answers", "tried", "[J", rfl, by decide, rfl, Or.inl (allW_in (kT_2 _ (List.mem_of_getElem? (i := 159) rfl)) rfl), rfl, (fun h => absurd h (by decide)), (fun h => absurd h (by decide)), (fun h => absurd h (by decide)), (fun h => absurd h (by decide))⟩
theorem fl_0_44 : FLk RX0 44 0 0 3 true := ⟨RX0, TX0, 19, "IntegerHouse$Answers", "house", "LIntegerHouse$House;", rfl, by decide, rfl, Or.inl (allW_in (kT_2 _ (List.mem_of_getElem? (i := 156) rfl)) rfl), rfl, (fun h => absurd h (by decide)), (fun h => absurd h (by decide)), (fun h => absurd h (by decide)), (fun h => absurd h (by decide))⟩
theorem fl_0_52 : FLk RX0 52 2 10 0 false := ⟨RX2, TX2, 16, "IntegerHouse$House", "variables", "I", rfl, by decide, rfl, Or.inr ⟨"IntegerHouse", List.mem_of_getElem? (i := 8) rfl⟩, rfl, (fun _ => rfl), (fun h => absurd h (by decide)), (fun h => absurd h (by decide)), (fun h => absurd h (by decide))⟩
theorem fl_0_48 : FLk RX0 48 0 1 3 true := ⟨RX0, TX0, 19, "IntegerHouse$Answers", "places", "LIntegerHouse$Places;", rfl, by decide, rfl, Or.inl (allW_in (kT_2 _ (List.mem_of_getElem? (i := 157) rfl)) rfl), rfl, (fun h => absurd h (by decide)), (fun h => absurd h (by decide)), (fun h => absurd h (by decide)), (fun h => absurd h (by decide))⟩
theorem ml_0_63 : MLk RX0 63 yX6_soFor := Or.inl (allW_in (kT_6 _ (List.mem_of_getElem? (i := 95) rfl)) rfl)
abbrev cX0_isTold : ByteArray := prog_2_method_3_code
def yX0_isTold : MethodName := ⟨RX0, "isTold", "(I)Z"⟩
def M_X0_isTold : MT := (yX0_isTold, cX0_isTold, 2, (some .boolean), RX0, 1)
theorem mk_X0_isTold : MokV M_X0_isTold 0 1 := ⟨⟨⟨by decide, by decide, rfl⟩, (allW_in (kT_9 _ (List.mem_of_getElem? (i := 90) rfl)) rfl), (allW_in (kT_1 _ (List.mem_of_getElem? (i := 12) rfl)) rfl), by decide⟩, ⟨TX0, 19, rfl⟩, (allW_in (kT_9 _ (List.mem_of_getElem? (i := 88) rfl)) rfl), (allW_in (kT_9 _ (List.mem_of_getElem? (i := 89) rfl)) rfl)⟩
def B_X0_isTold_17 : Blk := (17, .ireturn, 1) :: []
theorem o_X0_isTold_17 : Chn cX0_isTold B_X0_isTold_17 := chn_of _ (by decide +kernel)
def B_X0_isTold_16 : Blk := (16, .iconst 0, 1) :: B_X0_isTold_17
theorem o_X0_isTold_16 : Chn cX0_isTold B_X0_isTold_16 := chn_app ((16, .iconst 0, 1) :: []) o_X0_isTold_17 (by decide +kernel)
def B_X0_isTold_0 : Blk := (0, .iload_n 1, 1) :: (1, .ifCond .lt 15, 3) :: (4, .iload_n 1, 1) :: (5, .aload_n 0, 1) :: (6, .getfield 69, 3) :: (9, .if_icmp .ge 7, 3) :: (12, .iconst 1, 1) :: (13, .goto 4, 3) :: []
theorem o_X0_isTold_0 : Chn cX0_isTold B_X0_isTold_0 := chn_of _ (by decide +kernel)
theorem fl_0_69 : FLk RX0 69 0 11 0 false := ⟨RX0, TX0, 19, "IntegerHouse$Answers", "valuesTold", "I", rfl, by decide, rfl, Or.inl (allW_in (kT_2 _ (List.mem_of_getElem? (i := 167) rfl)) rfl), rfl, (fun _ => rfl), (fun h => absurd h (by decide)), (fun h => absurd h (by decide)), (fun h => absurd h (by decide))⟩
abbrev cX0_toldValue : ByteArray := prog_2_method_4_code
def yX0_toldValue : MethodName := ⟨RX0, "toldValue", "(I)J"⟩
def M_X0_toldValue : MT := (yX0_toldValue, cX0_toldValue, 2, (some .long), RX0, 2)
theorem mk_X0_toldValue : MokV M_X0_toldValue 0 1 := ⟨⟨⟨by decide, by decide, rfl⟩, (allW_in (kT_9 _ (List.mem_of_getElem? (i := 95) rfl)) rfl), (allW_in (kT_1 _ (List.mem_of_getElem? (i := 12) rfl)) rfl), by decide⟩, ⟨TX0, 19, rfl⟩, (allW_in (kT_9 _ (List.mem_of_getElem? (i := 93) rfl)) rfl), (allW_in (kT_9 _ (List.mem_of_getElem? (i := 94) rfl)) rfl)⟩
def B_X0_toldValue_19 : Blk := (19, .lreturn, 1) :: []
theorem o_X0_toldValue_19 : Chn cX0_toldValue B_X0_toldValue_19 := chn_of _ (by decide +kernel)
def B_X0_toldValue_18 : Blk := (18, .lconst 0, 1) :: B_X0_toldValue_19
theorem o_X0_toldValue_18 : Chn cX0_toldValue B_X0_toldValue_18 := chn_app ((18, .lconst 0, 1) :: []) o_X0_toldValue_19 (by decide +kernel)
def B_X0_toldValue_0 : Blk := (0, .iload_n 1, 1) :: (1, .ifCond .lt 17, 3) :: (4, .iload_n 1, 1) :: (5, .iconst 4, 1) :: (6, .if_icmp .ge 12, 3) :: (9, .aload_n 0, 1) :: (10, .getfield 9, 3) :: (13, .iload_n 1, 1) :: (14, .laload, 1) :: (15, .goto 4, 3) :: []
theorem o_X0_toldValue_0 : Chn cX0_toldValue B_X0_toldValue_0 := chn_of _ (by decide +kernel)
theorem fl_0_9 : FLk RX0 9 0 2 3 true := ⟨RX0, TX0, 19, "IntegerHouse$Answers", "values", "[J", rfl, by decide, rfl, Or.inl (allW_in (kT_2 _ (List.mem_of_getElem? (i := 158) rfl)) rfl), rfl, (fun h => absurd h (by decide)), (fun h => absurd h (by decide)), (fun h => absurd h (by decide)), (fun h => absurd h (by decide))⟩
abbrev cX6_accepts : ByteArray := prog_8_method_12_code
def yX6_accepts : MethodName := ⟨RX6, "accepts", "(IIII)Z"⟩
def M_X6_accepts : MT := (yX6_accepts, cX6_accepts, 7, (some .boolean), RX6, 1)
theorem mk_X6_accepts : MokV M_X6_accepts 6 4 := ⟨⟨⟨by decide, by decide, rfl⟩, (allW_in (kT_6 _ (List.mem_of_getElem? (i := 178) rfl)) rfl), (allW_in (kT_1 _ (List.mem_of_getElem? (i := 11) rfl)) rfl), by decide⟩, ⟨TX6, 14, rfl⟩, (allW_in (kT_6 _ (List.mem_of_getElem? (i := 176) rfl)) rfl), (allW_in (kT_6 _ (List.mem_of_getElem? (i := 177) rfl)) rfl)⟩
def B_X6_accepts_76 : Blk := (76, .ireturn, 1) :: []
theorem o_X6_accepts_76 : Chn cX6_accepts B_X6_accepts_76 := chn_of _ (by decide +kernel)
def B_X6_accepts_75 : Blk := (75, .iconst 0, 1) :: B_X6_accepts_76
theorem o_X6_accepts_75 : Chn cX6_accepts B_X6_accepts_75 := chn_app ((75, .iconst 0, 1) :: []) o_X6_accepts_76 (by decide +kernel)
def B_X6_accepts_48 : Blk := (48, .istore 6, 2) :: (50, .iload 5, 2) :: (52, .ifCond .eq 23, 3) :: (55, .iload 6, 2) :: (57, .iload_n 3, 1) :: (58, .iand, 1) :: (59, .iload_n 3, 1) :: (60, .if_icmp .ne 15, 3) :: (63, .iload 6, 2) :: (65, .iload 4, 2) :: (67, .iand, 1) :: (68, .ifCond .ne 7, 3) :: (71, .iconst 1, 1) :: (72, .goto 4, 3) :: []
theorem o_X6_accepts_48 : Chn cX6_accepts B_X6_accepts_48 := chn_of _ (by decide +kernel)
def B_X6_accepts_47 : Blk := (47, .iconst 0, 1) :: B_X6_accepts_48
theorem o_X6_accepts_47 : Chn cX6_accepts B_X6_accepts_47 := chn_app ((47, .iconst 0, 1) :: []) o_X6_accepts_48 (by decide +kernel)
def B_X6_accepts_26 : Blk := (26, .istore 5, 2) :: (28, .iload 5, 2) :: (30, .ifCond .eq 17, 3) :: (33, .aload_n 0, 1) :: (34, .getfield 38, 3) :: (37, .iload_n 1, 1) :: (38, .bipush 16, 2) :: (40, .imul, 1) :: (41, .iload_n 2, 1) :: (42, .iadd, 1) :: (43, .iaload, 1) :: (44, .goto 4, 3) :: []
theorem o_X6_accepts_26 : Chn cX6_accepts B_X6_accepts_26 := chn_of _ (by decide +kernel)
def B_X6_accepts_25 : Blk := (25, .iconst 0, 1) :: B_X6_accepts_26
theorem o_X6_accepts_25 : Chn cX6_accepts B_X6_accepts_25 := chn_app ((25, .iconst 0, 1) :: []) o_X6_accepts_26 (by decide +kernel)
def B_X6_accepts_0 : Blk := (0, .iload_n 1, 1) :: (1, .ifCond .lt 24, 3) :: (4, .iload_n 1, 1) :: (5, .sipush 3000, 3) :: (8, .if_icmp .ge 17, 3) :: (11, .iload_n 2, 1) :: (12, .ifCond .lt 13, 3) :: (15, .iload_n 2, 1) :: (16, .bipush 16, 2) :: (18, .if_icmp .ge 7, 3) :: (21, .iconst 1, 1) :: (22, .goto 4, 3) :: []
theorem o_X6_accepts_0 : Chn cX6_accepts B_X6_accepts_0 := chn_of _ (by decide +kernel)
theorem fl_6_38 : FLk RX6 38 6 8 3 true := ⟨RX6, TX6, 14, "IntegerHouse$Places", "so", "[I", rfl, by decide, rfl, Or.inl (allW_in (kT_2 _ (List.mem_of_getElem? (i := 110) rfl)) rfl), rfl, (fun h => absurd h (by decide)), (fun h => absurd h (by decide)), (fun h => absurd h (by decide)), (fun h => absurd h (by decide))⟩
abbrev cX6_acceptedBy : ByteArray := prog_8_method_13_code
def yX6_acceptedBy : MethodName := ⟨RX6, "acceptedBy", "(III)I"⟩
def M_X6_acceptedBy : MT := (yX6_acceptedBy, cX6_acceptedBy, 6, (some .int), RX6, 1)
theorem mk_X6_acceptedBy : MokV M_X6_acceptedBy 6 3 := ⟨⟨⟨by decide, by decide, rfl⟩, (allW_in (kT_6 _ (List.mem_of_getElem? (i := 174) rfl)) rfl), (allW_in (kT_1 _ (List.mem_of_getElem? (i := 11) rfl)) rfl), by decide⟩, ⟨TX6, 14, rfl⟩, (allW_in (kT_6 _ (List.mem_of_getElem? (i := 172) rfl)) rfl), (allW_in (kT_6 _ (List.mem_of_getElem? (i := 173) rfl)) rfl)⟩
def B_X6_acceptedBy_46 : Blk := (46, .iload 4, 2) :: (48, .ireturn, 1) :: []
theorem o_X6_acceptedBy_46 : Chn cX6_acceptedBy B_X6_acceptedBy_46 := chn_of _ (by decide +kernel)
def B_X6_acceptedBy_37 : Blk := (37, .ior, 1) :: (38, .istore 4, 2) :: (40, .iinc 5 1, 3) :: (43, .goto (-37), 3) :: []
theorem o_X6_acceptedBy_37 : Chn cX6_acceptedBy B_X6_acceptedBy_37 := chn_of _ (by decide +kernel)
def B_X6_acceptedBy_36 : Blk := (36, .iconst 0, 1) :: B_X6_acceptedBy_37
theorem o_X6_acceptedBy_36 : Chn cX6_acceptedBy B_X6_acceptedBy_36 := chn_app ((36, .iconst 0, 1) :: []) o_X6_acceptedBy_37 (by decide +kernel)
def B_X6_acceptedBy_6 : Blk := (6, .iload 5, 2) :: (8, .aload_n 0, 1) :: (9, .getfield 56, 3) :: (12, .if_icmp .ge 34, 3) :: (15, .iload 4, 2) :: (17, .aload_n 0, 1) :: (18, .iload_n 1, 1) :: (19, .iload 5, 2) :: (21, .iload_n 2, 1) :: (22, .iload_n 3, 1) :: (23, .invokevirtual 123, 3) :: (26, .ifCond .eq 10, 3) :: (29, .iconst 1, 1) :: (30, .iload 5, 2) :: (32, .ishl, 1) :: (33, .goto 4, 3) :: []
theorem o_X6_acceptedBy_6 : Chn cX6_acceptedBy B_X6_acceptedBy_6 := chn_of _ (by decide +kernel)
def B_X6_acceptedBy_0 : Blk := (0, .iconst 0, 1) :: (1, .istore 4, 2) :: (3, .iconst 0, 1) :: (4, .istore 5, 2) :: B_X6_acceptedBy_6
theorem o_X6_acceptedBy_0 : Chn cX6_acceptedBy B_X6_acceptedBy_0 := chn_app ((0, .iconst 0, 1) :: (1, .istore 4, 2) :: (3, .iconst 0, 1) :: (4, .istore 5, 2) :: []) o_X6_acceptedBy_6 (by decide +kernel)
theorem ml_6_123 : MLk RX6 123 yX6_accepts := Or.inl (allW_in (kT_6 _ (List.mem_of_getElem? (i := 175) rfl)) rfl)
abbrev cX0_findEnds : ByteArray := prog_2_method_5_code
def yX0_findEnds : MethodName := ⟨RX0, "findEnds", "(II)I"⟩
def M_X0_findEnds : MT := (yX0_findEnds, cX0_findEnds, 5, (some .int), RX0, 1)
theorem mk_X0_findEnds : MokV M_X0_findEnds 0 2 := ⟨⟨⟨by decide, by decide, rfl⟩, (allW_in (kT_6 _ (List.mem_of_getElem? (i := 169) rfl)) rfl), (allW_in (kT_1 _ (List.mem_of_getElem? (i := 12) rfl)) rfl), by decide⟩, ⟨TX0, 19, rfl⟩, (allW_in (kT_6 _ (List.mem_of_getElem? (i := 168) rfl)) rfl), (allW_in (kTs_5 _ (List.mem_of_getElem? (i := 11) rfl)) rfl)⟩
def B_X0_findEnds_47 : Blk := (47, .iload_n 3, 1) :: (48, .ireturn, 1) :: []
theorem o_X0_findEnds_47 : Chn cX0_findEnds B_X0_findEnds_47 := chn_of _ (by decide +kernel)
def B_X0_findEnds_17 : Blk := (17, .iload 4, 2) :: (19, .iload_n 3, 1) :: (20, .if_icmp .ge 27, 3) :: (23, .aload_n 0, 1) :: (24, .getfield 22, 3) :: (27, .iload 4, 2) :: (29, .aload_n 0, 1) :: (30, .getfield 48, 3) :: (33, .iload 4, 2) :: (35, .iload_n 1, 1) :: (36, .iload_n 2, 1) :: (37, .invokevirtual 78, 3) :: (40, .iastore, 1) :: (41, .iinc 4 1, 3) :: (44, .goto (-27), 3) :: []
theorem o_X0_findEnds_17 : Chn cX0_findEnds B_X0_findEnds_17 := chn_of _ (by decide +kernel)
def B_X0_findEnds_0 : Blk := (0, .aload_n 0, 1) :: (1, .getfield 48, 3) :: (4, .getfield 72, 3) :: (7, .sipush 3000, 3) :: (10, .invokestatic 75, 3) :: (13, .istore_n 3, 1) :: (14, .iconst 0, 1) :: (15, .istore 4, 2) :: B_X0_findEnds_17
theorem o_X0_findEnds_0 : Chn cX0_findEnds B_X0_findEnds_0 := chn_app ((0, .aload_n 0, 1) :: (1, .getfield 48, 3) :: (4, .getfield 72, 3) :: (7, .sipush 3000, 3) :: (10, .invokestatic 75, 3) :: (13, .istore_n 3, 1) :: (14, .iconst 0, 1) :: (15, .istore 4, 2) :: []) o_X0_findEnds_17 (by decide +kernel)
theorem fl_0_72 : FLk RX0 72 6 13 0 false := ⟨RX6, TX6, 14, "IntegerHouse$Places", "size", "I", rfl, by decide, rfl, Or.inr ⟨"IntegerHouse", List.mem_of_getElem? (i := 32) rfl⟩, rfl, (fun _ => rfl), (fun h => absurd h (by decide)), (fun h => absurd h (by decide)), (fun h => absurd h (by decide))⟩
theorem fl_0_22 : FLk RX0 22 0 5 3 true := ⟨RX0, TX0, 19, "IntegerHouse$Answers", "ends", "[I", rfl, by decide, rfl, Or.inl (allW_in (kT_2 _ (List.mem_of_getElem? (i := 161) rfl)) rfl), rfl, (fun h => absurd h (by decide)), (fun h => absurd h (by decide)), (fun h => absurd h (by decide)), (fun h => absurd h (by decide))⟩
theorem ml_0_78 : MLk RX0 78 yX6_acceptedBy := Or.inl (allW_in (kT_6 _ (List.mem_of_getElem? (i := 171) rfl)) rfl)
abbrev cX0_endsOf : ByteArray := prog_2_method_6_code
def yX0_endsOf : MethodName := ⟨RX0, "endsOf", "(I)I"⟩
def M_X0_endsOf : MT := (yX0_endsOf, cX0_endsOf, 2, (some .int), RX0, 1)
theorem mk_X0_endsOf : MokV M_X0_endsOf 0 1 := ⟨⟨⟨by decide, by decide, rfl⟩, (allW_in (kT_6 _ (List.mem_of_getElem? (i := 205) rfl)) rfl), (allW_in (kT_1 _ (List.mem_of_getElem? (i := 12) rfl)) rfl), by decide⟩, ⟨TX0, 19, rfl⟩, (allW_in (kT_6 _ (List.mem_of_getElem? (i := 204) rfl)) rfl), (allW_in (kTs_6 _ (List.mem_of_getElem? (i := 0) rfl)) rfl)⟩
def B_X0_endsOf_21 : Blk := (21, .ireturn, 1) :: []
theorem o_X0_endsOf_21 : Chn cX0_endsOf B_X0_endsOf_21 := chn_of _ (by decide +kernel)
def B_X0_endsOf_20 : Blk := (20, .iconst 0, 1) :: B_X0_endsOf_21
theorem o_X0_endsOf_20 : Chn cX0_endsOf B_X0_endsOf_20 := chn_app ((20, .iconst 0, 1) :: []) o_X0_endsOf_21 (by decide +kernel)
def B_X0_endsOf_0 : Blk := (0, .iload_n 1, 1) :: (1, .ifCond .lt 19, 3) :: (4, .iload_n 1, 1) :: (5, .sipush 3000, 3) :: (8, .if_icmp .ge 12, 3) :: (11, .aload_n 0, 1) :: (12, .getfield 22, 3) :: (15, .iload_n 1, 1) :: (16, .iaload, 1) :: (17, .goto 4, 3) :: []
theorem o_X0_endsOf_0 : Chn cX0_endsOf B_X0_endsOf_0 := chn_of _ (by decide +kernel)
abbrev cX6_behind : ByteArray := prog_8_method_11_code
def yX6_behind : MethodName := ⟨RX6, "behind", "(II)I"⟩
def M_X6_behind : MT := (yX6_behind, cX6_behind, 4, (some .int), RX6, 1)
theorem mk_X6_behind : MokV M_X6_behind 6 2 := ⟨⟨⟨by decide, by decide, rfl⟩, (allW_in (kT_6 _ (List.mem_of_getElem? (i := 186) rfl)) rfl), (allW_in (kT_1 _ (List.mem_of_getElem? (i := 11) rfl)) rfl), by decide⟩, ⟨TX6, 14, rfl⟩, (allW_in (kT_6 _ (List.mem_of_getElem? (i := 184) rfl)) rfl), (allW_in (kT_6 _ (List.mem_of_getElem? (i := 185) rfl)) rfl)⟩
def B_X6_behind_46 : Blk := (46, .ireturn, 1) :: []
theorem o_X6_behind_46 : Chn cX6_behind B_X6_behind_46 := chn_of _ (by decide +kernel)
def B_X6_behind_45 : Blk := (45, .iconst 0, 1) :: B_X6_behind_46
theorem o_X6_behind_45 : Chn cX6_behind B_X6_behind_45 := chn_app ((45, .iconst 0, 1) :: []) o_X6_behind_46 (by decide +kernel)
def B_X6_behind_26 : Blk := (26, .istore_n 3, 1) :: (27, .iload_n 3, 1) :: (28, .ifCond .eq 17, 3) :: (31, .aload_n 0, 1) :: (32, .getfield 35, 3) :: (35, .iload_n 1, 1) :: (36, .bipush 16, 2) :: (38, .imul, 1) :: (39, .iload_n 2, 1) :: (40, .iadd, 1) :: (41, .iaload, 1) :: (42, .goto 4, 3) :: []
theorem o_X6_behind_26 : Chn cX6_behind B_X6_behind_26 := chn_of _ (by decide +kernel)
def B_X6_behind_25 : Blk := (25, .iconst 0, 1) :: B_X6_behind_26
theorem o_X6_behind_25 : Chn cX6_behind B_X6_behind_25 := chn_app ((25, .iconst 0, 1) :: []) o_X6_behind_26 (by decide +kernel)
def B_X6_behind_0 : Blk := (0, .iload_n 1, 1) :: (1, .ifCond .lt 24, 3) :: (4, .iload_n 1, 1) :: (5, .sipush 3000, 3) :: (8, .if_icmp .ge 17, 3) :: (11, .iload_n 2, 1) :: (12, .ifCond .lt 13, 3) :: (15, .iload_n 2, 1) :: (16, .bipush 16, 2) :: (18, .if_icmp .ge 7, 3) :: (21, .iconst 1, 1) :: (22, .goto 4, 3) :: []
theorem o_X6_behind_0 : Chn cX6_behind B_X6_behind_0 := chn_of _ (by decide +kernel)
theorem fl_6_35 : FLk RX6 35 6 7 3 true := ⟨RX6, TX6, 14, "IntegerHouse$Places", "next", "[I", rfl, by decide, rfl, Or.inl (allW_in (kT_2 _ (List.mem_of_getElem? (i := 109) rfl)) rfl), rfl, (fun h => absurd h (by decide)), (fun h => absurd h (by decide)), (fun h => absurd h (by decide)), (fun h => absurd h (by decide))⟩
abbrev cX0_farFrom : ByteArray := prog_2_method_9_code
def yX0_farFrom : MethodName := ⟨RX0, "farFrom", "(I)I"⟩
def M_X0_farFrom : MT := (yX0_farFrom, cX0_farFrom, 2, (some .int), RX0, 1)
theorem mk_X0_farFrom : MokV M_X0_farFrom 0 1 := ⟨⟨⟨by decide, by decide, rfl⟩, (allW_in (kT_6 _ (List.mem_of_getElem? (i := 190) rfl)) rfl), (allW_in (kT_1 _ (List.mem_of_getElem? (i := 12) rfl)) rfl), by decide⟩, ⟨TX0, 19, rfl⟩, (allW_in (kT_6 _ (List.mem_of_getElem? (i := 189) rfl)) rfl), (allW_in (kTs_5 _ (List.mem_of_getElem? (i := 13) rfl)) rfl)⟩
def B_X0_farFrom_21 : Blk := (21, .ireturn, 1) :: []
theorem o_X0_farFrom_21 : Chn cX0_farFrom B_X0_farFrom_21 := chn_of _ (by decide +kernel)
def B_X0_farFrom_20 : Blk := (20, .iconst (-1), 1) :: B_X0_farFrom_21
theorem o_X0_farFrom_20 : Chn cX0_farFrom B_X0_farFrom_20 := chn_app ((20, .iconst (-1), 1) :: []) o_X0_farFrom_21 (by decide +kernel)
def B_X0_farFrom_0 : Blk := (0, .iload_n 1, 1) :: (1, .ifCond .lt 19, 3) :: (4, .iload_n 1, 1) :: (5, .sipush 3000, 3) :: (8, .if_icmp .ge 12, 3) :: (11, .aload_n 0, 1) :: (12, .getfield 18, 3) :: (15, .iload_n 1, 1) :: (16, .iaload, 1) :: (17, .goto 4, 3) :: []
theorem o_X0_farFrom_0 : Chn cX0_farFrom B_X0_farFrom_0 := chn_of _ (by decide +kernel)
theorem fl_0_18 : FLk RX0 18 0 4 3 true := ⟨RX0, TX0, 19, "IntegerHouse$Answers", "far", "[I", rfl, by decide, rfl, Or.inl (allW_in (kT_2 _ (List.mem_of_getElem? (i := 160) rfl)) rfl), rfl, (fun h => absurd h (by decide)), (fun h => absurd h (by decide)), (fun h => absurd h (by decide)), (fun h => absurd h (by decide))⟩
abbrev cX0_spread : ByteArray := prog_2_method_8_code
def yX0_spread : MethodName := ⟨RX0, "spread", "(II)Z"⟩
def M_X0_spread : MT := (yX0_spread, cX0_spread, 6, (some .boolean), RX0, 1)
theorem mk_X0_spread : MokV M_X0_spread 0 2 := ⟨⟨⟨by decide, by decide, rfl⟩, (allW_in (kT_6 _ (List.mem_of_getElem? (i := 182) rfl)) rfl), (allW_in (kT_1 _ (List.mem_of_getElem? (i := 12) rfl)) rfl), by decide⟩, ⟨TX0, 19, rfl⟩, (allW_in (kT_6 _ (List.mem_of_getElem? (i := 181) rfl)) rfl), (allW_in (kTs_5 _ (List.mem_of_getElem? (i := 12) rfl)) rfl)⟩
def B_X0_spread_80 : Blk := (80, .iload_n 3, 1) :: (81, .ireturn, 1) :: []
theorem o_X0_spread_80 : Chn cX0_spread B_X0_spread_80 := chn_of _ (by decide +kernel)
def B_X0_spread_74 : Blk := (74, .iinc 4 1, 3) :: (77, .goto (-72), 3) :: []
theorem o_X0_spread_74 : Chn cX0_spread B_X0_spread_74 := chn_of _ (by decide +kernel)
def B_X0_spread_68 : Blk := (68, .iinc 5 1, 3) :: (71, .goto (-57), 3) :: []
theorem o_X0_spread_68 : Chn cX0_spread B_X0_spread_68 := chn_of _ (by decide +kernel)
def B_X0_spread_14 : Blk := (14, .iload 5, 2) :: (16, .aload_n 0, 1) :: (17, .getfield 48, 3) :: (20, .getfield 92, 3) :: (23, .if_icmp .ge 51, 3) :: (26, .aload_n 0, 1) :: (27, .getfield 18, 3) :: (30, .iload 4, 2) :: (32, .iaload, 1) :: (33, .iconst (-1), 1) :: (34, .if_icmp .ne 40, 3) :: (37, .aload_n 0, 1) :: (38, .aload_n 0, 1) :: (39, .getfield 48, 3) :: (42, .iload 4, 2) :: (44, .iload 5, 2) :: (46, .invokevirtual 95, 3) :: (49, .invokevirtual 98, 3) :: (52, .iload_n 1, 1) :: (53, .iconst 1, 1) :: (54, .isub, 1) :: (55, .if_icmp .ne 13, 3) :: (58, .aload_n 0, 1) :: (59, .getfield 18, 3) :: (62, .iload 4, 2) :: (64, .iload_n 1, 1) :: (65, .iastore, 1) :: (66, .iconst 1, 1) :: (67, .istore_n 3, 1) :: B_X0_spread_68
theorem o_X0_spread_14 : Chn cX0_spread B_X0_spread_14 := chn_app ((14, .iload 5, 2) :: (16, .aload_n 0, 1) :: (17, .getfield 48, 3) :: (20, .getfield 92, 3) :: (23, .if_icmp .ge 51, 3) :: (26, .aload_n 0, 1) :: (27, .getfield 18, 3) :: (30, .iload 4, 2) :: (32, .iaload, 1) :: (33, .iconst (-1), 1) :: (34, .if_icmp .ne 40, 3) :: (37, .aload_n 0, 1) :: (38, .aload_n 0, 1) :: (39, .getfield 48, 3) :: (42, .iload 4, 2) :: (44, .iload 5, 2) :: (46, .invokevirtual 95, 3) :: (49, .invokevirtual 98, 3) :: (52, .iload_n 1, 1) :: (53, .iconst 1, 1) :: (54, .isub, 1) :: (55, .if_icmp .ne 13, 3) :: (58, .aload_n 0, 1) :: (59, .getfield 18, 3) :: (62, .iload 4, 2) :: (64, .iload_n 1, 1) :: (65, .iastore, 1) :: (66, .iconst 1, 1) :: (67, .istore_n 3, 1) :: []) o_X0_spread_68 (by decide +kernel)
def B_X0_spread_5 : Blk := (5, .iload 4, 2) :: (7, .iload_n 2, 1) :: (8, .if_icmp .ge 72, 3) :: (11, .iconst 0, 1) :: (12, .istore 5, 2) :: B_X0_spread_14
theorem o_X0_spread_5 : Chn cX0_spread B_X0_spread_5 := chn_app ((5, .iload 4, 2) :: (7, .iload_n 2, 1) :: (8, .if_icmp .ge 72, 3) :: (11, .iconst 0, 1) :: (12, .istore 5, 2) :: []) o_X0_spread_14 (by decide +kernel)
def B_X0_spread_0 : Blk := (0, .iconst 0, 1) :: (1, .istore_n 3, 1) :: (2, .iconst 0, 1) :: (3, .istore 4, 2) :: B_X0_spread_5
theorem o_X0_spread_0 : Chn cX0_spread B_X0_spread_0 := chn_app ((0, .iconst 0, 1) :: (1, .istore_n 3, 1) :: (2, .iconst 0, 1) :: (3, .istore 4, 2) :: []) o_X0_spread_5 (by decide +kernel)
theorem fl_0_92 : FLk RX0 92 6 12 0 false := ⟨RX6, TX6, 14, "IntegerHouse$Places", "letters", "I", rfl, by decide, rfl, Or.inr ⟨"IntegerHouse", List.mem_of_getElem? (i := 31) rfl⟩, rfl, (fun _ => rfl), (fun h => absurd h (by decide)), (fun h => absurd h (by decide)), (fun h => absurd h (by decide))⟩
theorem ml_0_95 : MLk RX0 95 yX6_behind := Or.inl (allW_in (kT_6 _ (List.mem_of_getElem? (i := 183) rfl)) rfl)
theorem ml_0_98 : MLk RX0 98 yX0_farFrom := Or.inl (allW_in (kT_6 _ (List.mem_of_getElem? (i := 187) rfl)) rfl)
def RJ7 : String := "java/util/Arrays"
abbrev cJ7_fill_d0a16 : ByteArray := prog_27_method_101_code
def yJ7_fill_d0a16 : MethodName := ⟨RJ7, "fill", "([JJ)V"⟩
def M_J7_fill_d0a16 : MT := (yJ7_fill_d0a16, cJ7_fill_d0a16, 5, none, RJ7, 0)
theorem mk_J7_fill_d0a16 : MokS M_J7_fill_d0a16 2 := ⟨⟨⟨by decide, by decide, rfl⟩, (allW_in (kT_6 _ (List.mem_of_getElem? (i := 197) rfl)) rfl), (allW_in (kT_1 _ (List.mem_of_getElem? (i := 26) rfl)) rfl), by decide⟩, (allW_in (kT_6 _ (List.mem_of_getElem? (i := 196) rfl)) rfl)⟩
def B_J7_fill_d0a16_22 : Blk := (22, .return_, 1) :: []
theorem o_J7_fill_d0a16_22 : Chn cJ7_fill_d0a16 B_J7_fill_d0a16_22 := chn_of _ (by decide +kernel)
def B_J7_fill_d0a16_6 : Blk := (6, .iload_n 3, 1) :: (7, .iload 4, 2) :: (9, .if_icmp .ge 13, 3) :: (12, .aload_n 0, 1) :: (13, .iload_n 3, 1) :: (14, .lload_n 1, 1) :: (15, .lastore, 1) :: (16, .iinc 3 1, 3) :: (19, .goto (-13), 3) :: []
theorem o_J7_fill_d0a16_6 : Chn cJ7_fill_d0a16 B_J7_fill_d0a16_6 := chn_of _ (by decide +kernel)
def B_J7_fill_d0a16_0 : Blk := (0, .iconst 0, 1) :: (1, .istore_n 3, 1) :: (2, .aload_n 0, 1) :: (3, .arraylength, 1) :: (4, .istore 4, 2) :: B_J7_fill_d0a16_6
theorem o_J7_fill_d0a16_0 : Chn cJ7_fill_d0a16 B_J7_fill_d0a16_0 := chn_app ((0, .iconst 0, 1) :: (1, .istore_n 3, 1) :: (2, .aload_n 0, 1) :: (3, .arraylength, 1) :: (4, .istore 4, 2) :: []) o_J7_fill_d0a16_6 (by decide +kernel)
abbrev cX0_addBits : ByteArray := prog_2_method_11_code
def yX0_addBits : MethodName := ⟨RX0, "addBits", "(III)V"⟩
def M_X0_addBits : MT := (yX0_addBits, cX0_addBits, 5, none, RX0, 0)
theorem mk_X0_addBits : MokV M_X0_addBits 0 3 := ⟨⟨⟨by decide, by decide, rfl⟩, (allW_in (kT_6 _ (List.mem_of_getElem? (i := 201) rfl)) rfl), (allW_in (kT_1 _ (List.mem_of_getElem? (i := 12) rfl)) rfl), by decide⟩, ⟨TX0, 19, rfl⟩, (allW_in (kT_6 _ (List.mem_of_getElem? (i := 200) rfl)) rfl), (allW_in (kTs_5 _ (List.mem_of_getElem? (i := 15) rfl)) rfl)⟩
def B_X0_addBits_44 : Blk := (44, .return_, 1) :: []
theorem o_X0_addBits_44 : Chn cX0_addBits B_X0_addBits_44 := chn_of _ (by decide +kernel)
def B_X0_addBits_3 : Blk := (3, .iload 4, 2) :: (5, .iconst 4, 1) :: (6, .if_icmp .ge 38, 3) :: (9, .iload_n 2, 1) :: (10, .bipush 62, 2) :: (12, .if_icmp .ge 32, 3) :: (15, .aload_n 0, 1) :: (16, .getfield 9, 3) :: (19, .iload 4, 2) :: (21, .dup2, 1) :: (22, .laload, 1) :: (23, .iload_n 1, 1) :: (24, .iload 4, 2) :: (26, .iushr, 1) :: (27, .iconst 1, 1) :: (28, .iand, 1) :: (29, .iload_n 3, 1) :: (30, .imul, 1) :: (31, .i2l, 1) :: (32, .lconst 1, 1) :: (33, .iload_n 2, 1) :: (34, .lshl, 1) :: (35, .lmul, 1) :: (36, .ladd, 1) :: (37, .lastore, 1) :: (38, .iinc 4 1, 3) :: (41, .goto (-38), 3) :: []
theorem o_X0_addBits_3 : Chn cX0_addBits B_X0_addBits_3 := chn_of _ (by decide +kernel)
def B_X0_addBits_0 : Blk := (0, .iconst 0, 1) :: (1, .istore 4, 2) :: B_X0_addBits_3
theorem o_X0_addBits_0 : Chn cX0_addBits B_X0_addBits_0 := chn_app ((0, .iconst 0, 1) :: (1, .istore 4, 2) :: []) o_X0_addBits_3 (by decide +kernel)
abbrev cX0_walk : ByteArray := prog_2_method_10_code
def yX0_walk : MethodName := ⟨RX0, "walk", "()V"⟩
def M_X0_walk : MT := (yX0_walk, cX0_walk, 4, none, RX0, 0)
theorem mk_X0_walk : MokV M_X0_walk 0 0 := ⟨⟨⟨by decide, by decide, rfl⟩, (allW_in (kT_6 _ (List.mem_of_getElem? (i := 194) rfl)) rfl), (allW_in (kT_1 _ (List.mem_of_getElem? (i := 12) rfl)) rfl), by decide⟩, ⟨TX0, 19, rfl⟩, (allW_in (kT_6 _ (List.mem_of_getElem? (i := 193) rfl)) rfl), (allW_in (kTs_5 _ (List.mem_of_getElem? (i := 14) rfl)) rfl)⟩
def B_X0_walk_127 : Blk := (127, .aload_n 0, 1) :: (128, .iload_n 2, 1) :: (129, .aload_n 0, 1) :: (130, .getfield 40, 3) :: (133, .iconst (-1), 1) :: (134, .invokevirtual 108, 3) :: (137, .return_, 1) :: []
theorem o_X0_walk_127 : Chn cX0_walk B_X0_walk_127 := chn_of _ (by decide +kernel)
def B_X0_walk_103 : Blk := (103, .iload_n 2, 1) :: (104, .bipush 15, 2) :: (106, .if_icmp .ge 21, 3) :: (109, .aload_n 0, 1) :: (110, .iload_n 1, 1) :: (111, .invokevirtual 112, 3) :: (114, .iload_n 2, 1) :: (115, .iushr, 1) :: (116, .iconst 1, 1) :: (117, .iand, 1) :: (118, .ifCond .ne 9, 3) :: (121, .iinc 2 1, 3) :: (124, .goto (-21), 3) :: []
theorem o_X0_walk_103 : Chn cX0_walk B_X0_walk_103 := chn_of _ (by decide +kernel)
def B_X0_walk_101 : Blk := (101, .iconst 0, 1) :: (102, .istore_n 2, 1) :: B_X0_walk_103
theorem o_X0_walk_101 : Chn cX0_walk B_X0_walk_101 := chn_app ((101, .iconst 0, 1) :: (102, .istore_n 2, 1) :: []) o_X0_walk_103 (by decide +kernel)
def B_X0_walk_73 : Blk := (73, .aload_n 0, 1) :: (74, .iload_n 3, 1) :: (75, .aload_n 0, 1) :: (76, .getfield 40, 3) :: (79, .iload_n 2, 1) :: (80, .isub, 1) :: (81, .iconst 1, 1) :: (82, .invokevirtual 108, 3) :: (85, .aload_n 0, 1) :: (86, .getfield 48, 3) :: (89, .iload_n 1, 1) :: (90, .iload_n 3, 1) :: (91, .invokevirtual 95, 3) :: (94, .istore_n 1, 1) :: (95, .iinc 2 (-1), 3) :: (98, .goto (-62), 3) :: []
theorem o_X0_walk_73 : Chn cX0_walk B_X0_walk_73 := chn_of _ (by decide +kernel)
def B_X0_walk_42 : Blk := (42, .iload_n 3, 1) :: (43, .bipush 15, 2) :: (45, .if_icmp .ge 28, 3) :: (48, .aload_n 0, 1) :: (49, .aload_n 0, 1) :: (50, .getfield 48, 3) :: (53, .iload_n 1, 1) :: (54, .iload_n 3, 1) :: (55, .invokevirtual 95, 3) :: (58, .invokevirtual 98, 3) :: (61, .iload_n 2, 1) :: (62, .iconst 1, 1) :: (63, .isub, 1) :: (64, .if_icmp .eq 9, 3) :: (67, .iinc 3 1, 3) :: (70, .goto (-28), 3) :: []
theorem o_X0_walk_42 : Chn cX0_walk B_X0_walk_42 := chn_of _ (by decide +kernel)
def B_X0_walk_36 : Blk := (36, .iload_n 2, 1) :: (37, .ifCond .le 64, 3) :: (40, .iconst 0, 1) :: (41, .istore_n 3, 1) :: B_X0_walk_42
theorem o_X0_walk_36 : Chn cX0_walk B_X0_walk_36 := chn_app ((36, .iload_n 2, 1) :: (37, .ifCond .le 64, 3) :: (40, .iconst 0, 1) :: (41, .istore_n 3, 1) :: []) o_X0_walk_42 (by decide +kernel)
def B_X0_walk_0 : Blk := (0, .iconst 0, 1) :: (1, .istore_n 1, 1) :: (2, .aload_n 0, 1) :: (3, .aload_n 0, 1) :: (4, .getfield 18, 3) :: (7, .iconst 0, 1) :: (8, .iaload, 1) :: (9, .putfield 40, 3) :: (12, .aload_n 0, 1) :: (13, .aload_n 0, 1) :: (14, .getfield 44, 3) :: (17, .getfield 52, 3) :: (20, .putfield 69, 3) :: (23, .aload_n 0, 1) :: (24, .getfield 9, 3) :: (27, .lconst 0, 1) :: (28, .invokestatic 102, 3) :: (31, .aload_n 0, 1) :: (32, .getfield 40, 3) :: (35, .istore_n 2, 1) :: B_X0_walk_36
theorem o_X0_walk_0 : Chn cX0_walk B_X0_walk_0 := chn_app ((0, .iconst 0, 1) :: (1, .istore_n 1, 1) :: (2, .aload_n 0, 1) :: (3, .aload_n 0, 1) :: (4, .getfield 18, 3) :: (7, .iconst 0, 1) :: (8, .iaload, 1) :: (9, .putfield 40, 3) :: (12, .aload_n 0, 1) :: (13, .aload_n 0, 1) :: (14, .getfield 44, 3) :: (17, .getfield 52, 3) :: (20, .putfield 69, 3) :: (23, .aload_n 0, 1) :: (24, .getfield 9, 3) :: (27, .lconst 0, 1) :: (28, .invokestatic 102, 3) :: (31, .aload_n 0, 1) :: (32, .getfield 40, 3) :: (35, .istore_n 2, 1) :: []) o_X0_walk_36 (by decide +kernel)
theorem fl_0_40 : FLk RX0 40 0 12 0 false := ⟨RX0, TX0, 19, "IntegerHouse$Answers", "toldHeight", "I", rfl, by decide, rfl, Or.inl (allW_in (kT_2 _ (List.mem_of_getElem? (i := 168) rfl)) rfl), rfl, (fun _ => rfl), (fun h => absurd h (by decide)), (fun h => absurd h (by decide)), (fun h => absurd h (by decide))⟩
theorem ml_0_102 : MLk RX0 102 yJ7_fill_d0a16 := Or.inl (allW_in (kT_6 _ (List.mem_of_getElem? (i := 195) rfl)) rfl)
theorem ml_0_108 : MLk RX0 108 yX0_addBits := Or.inl (allW_in (kT_6 _ (List.mem_of_getElem? (i := 198) rfl)) rfl)
theorem ml_0_112 : MLk RX0 112 yX0_endsOf := Or.inl (allW_in (kT_6 _ (List.mem_of_getElem? (i := 202) rfl)) rfl)
abbrev cX0_tellLeast : ByteArray := prog_2_method_7_code
def yX0_tellLeast : MethodName := ⟨RX0, "tellLeast", "(II)Z"⟩
def M_X0_tellLeast : MT := (yX0_tellLeast, cX0_tellLeast, 6, (some .boolean), RX0, 1)
theorem mk_X0_tellLeast : MokV M_X0_tellLeast 0 2 := ⟨⟨⟨by decide, by decide, rfl⟩, (allW_in (kT_6 _ (List.mem_of_getElem? (i := 165) rfl)) rfl), (allW_in (kT_1 _ (List.mem_of_getElem? (i := 12) rfl)) rfl), by decide⟩, ⟨TX0, 19, rfl⟩, (allW_in (kT_6 _ (List.mem_of_getElem? (i := 163) rfl)) rfl), (allW_in (kT_6 _ (List.mem_of_getElem? (i := 164) rfl)) rfl)⟩
def B_X0_tellLeast_98 : Blk := (98, .aload_n 0, 1) :: (99, .invokevirtual 89, 3) :: (102, .iconst 1, 1) :: (103, .ireturn, 1) :: []
theorem o_X0_tellLeast_98 : Chn cX0_tellLeast B_X0_tellLeast_98 := chn_of _ (by decide +kernel)
def B_X0_tellLeast_86 : Blk := (86, .aload_n 0, 1) :: (87, .getfield 18, 3) :: (90, .iconst 0, 1) :: (91, .iaload, 1) :: (92, .iconst (-1), 1) :: (93, .if_icmp .ne 5, 3) :: (96, .iconst 0, 1) :: (97, .ireturn, 1) :: []
theorem o_X0_tellLeast_86 : Chn cX0_tellLeast B_X0_tellLeast_86 := chn_of _ (by decide +kernel)
def B_X0_tellLeast_50 : Blk := (50, .iload 5, 2) :: (52, .iload_n 3, 1) :: (53, .if_icmp .gt 33, 3) :: (56, .iload 4, 2) :: (58, .ifCond .eq 28, 3) :: (61, .aload_n 0, 1) :: (62, .getfield 18, 3) :: (65, .iconst 0, 1) :: (66, .iaload, 1) :: (67, .iconst (-1), 1) :: (68, .if_icmp .ne 18, 3) :: (71, .aload_n 0, 1) :: (72, .iload 5, 2) :: (74, .iload_n 3, 1) :: (75, .invokevirtual 85, 3) :: (78, .istore 4, 2) :: (80, .iinc 5 1, 3) :: (83, .goto (-33), 3) :: []
theorem o_X0_tellLeast_50 : Chn cX0_tellLeast B_X0_tellLeast_50 := chn_of _ (by decide +kernel)
def B_X0_tellLeast_44 : Blk := (44, .iconst 1, 1) :: (45, .istore 4, 2) :: (47, .iconst 1, 1) :: (48, .istore 5, 2) :: B_X0_tellLeast_50
theorem o_X0_tellLeast_44 : Chn cX0_tellLeast B_X0_tellLeast_44 := chn_app ((44, .iconst 1, 1) :: (45, .istore 4, 2) :: (47, .iconst 1, 1) :: (48, .istore 5, 2) :: []) o_X0_tellLeast_50 (by decide +kernel)
def B_X0_tellLeast_37 : Blk := (37, .iastore, 1) :: (38, .iinc 4 1, 3) :: (41, .goto (-31), 3) :: []
theorem o_X0_tellLeast_37 : Chn cX0_tellLeast B_X0_tellLeast_37 := chn_of _ (by decide +kernel)
def B_X0_tellLeast_36 : Blk := (36, .iconst (-1), 1) :: B_X0_tellLeast_37
theorem o_X0_tellLeast_36 : Chn cX0_tellLeast B_X0_tellLeast_36 := chn_app ((36, .iconst (-1), 1) :: []) o_X0_tellLeast_37 (by decide +kernel)
def B_X0_tellLeast_10 : Blk := (10, .iload 4, 2) :: (12, .iload_n 3, 1) :: (13, .if_icmp .ge 31, 3) :: (16, .aload_n 0, 1) :: (17, .getfield 18, 3) :: (20, .iload 4, 2) :: (22, .aload_n 0, 1) :: (23, .getfield 22, 3) :: (26, .iload 4, 2) :: (28, .iaload, 1) :: (29, .ifCond .eq 7, 3) :: (32, .iconst 0, 1) :: (33, .goto 4, 3) :: []
theorem o_X0_tellLeast_10 : Chn cX0_tellLeast B_X0_tellLeast_10 := chn_of _ (by decide +kernel)
def B_X0_tellLeast_0 : Blk := (0, .aload_n 0, 1) :: (1, .iload_n 1, 1) :: (2, .iload_n 2, 1) :: (3, .invokevirtual 82, 3) :: (6, .istore_n 3, 1) :: (7, .iconst 0, 1) :: (8, .istore 4, 2) :: B_X0_tellLeast_10
theorem o_X0_tellLeast_0 : Chn cX0_tellLeast B_X0_tellLeast_0 := chn_app ((0, .aload_n 0, 1) :: (1, .iload_n 1, 1) :: (2, .iload_n 2, 1) :: (3, .invokevirtual 82, 3) :: (6, .istore_n 3, 1) :: (7, .iconst 0, 1) :: (8, .istore 4, 2) :: []) o_X0_tellLeast_10 (by decide +kernel)
theorem ml_0_82 : MLk RX0 82 yX0_findEnds := Or.inl (allW_in (kT_6 _ (List.mem_of_getElem? (i := 166) rfl)) rfl)
theorem ml_0_89 : MLk RX0 89 yX0_walk := Or.inl (allW_in (kT_6 _ (List.mem_of_getElem? (i := 191) rfl)) rfl)
theorem ml_0_85 : MLk RX0 85 yX0_spread := Or.inl (allW_in (kT_6 _ (List.mem_of_getElem? (i := 179) rfl)) rfl)
abbrev cX0_weigh : ByteArray := prog_2_method_13_code
def yX0_weigh : MethodName := ⟨RX0, "weigh", "([JI)V"⟩
def M_X0_weigh : MT := (yX0_weigh, cX0_weigh, 5, none, RX0, 0)
theorem mk_X0_weigh : MokV M_X0_weigh 0 2 := ⟨⟨⟨by decide, by decide, rfl⟩, (allW_in (kT_7 _ (List.mem_of_getElem? (i := 3) rfl)) rfl), (allW_in (kT_1 _ (List.mem_of_getElem? (i := 12) rfl)) rfl), by decide⟩, ⟨TX0, 19, rfl⟩, (allW_in (kT_7 _ (List.mem_of_getElem? (i := 2) rfl)) rfl), (allW_in (kTs_6 _ (List.mem_of_getElem? (i := 1) rfl)) rfl)⟩
def B_X0_weigh_66 : Blk := (66, .return_, 1) :: []
theorem o_X0_weigh_66 : Chn cX0_weigh B_X0_weigh_66 := chn_of _ (by decide +kernel)
def B_X0_weigh_60 : Blk := (60, .iinc 3 1, 3) :: (63, .goto (-61), 3) :: []
theorem o_X0_weigh_60 : Chn cX0_weigh B_X0_weigh_60 := chn_of _ (by decide +kernel)
def B_X0_weigh_18 : Blk := (18, .iload 4, 2) :: (20, .iconst 4, 1) :: (21, .if_icmp .ge 39, 3) :: (24, .iload 4, 2) :: (26, .aload_n 1, 1) :: (27, .arraylength, 1) :: (28, .if_icmp .ge 32, 3) :: (31, .aload_n 0, 1) :: (32, .getfield 25, 3) :: (35, .iload_n 3, 1) :: (36, .dup2, 1) :: (37, .laload, 1) :: (38, .iload_n 3, 1) :: (39, .iload 4, 2) :: (41, .iushr, 1) :: (42, .iconst 1, 1) :: (43, .iand, 1) :: (44, .iload_n 2, 1) :: (45, .imul, 1) :: (46, .i2l, 1) :: (47, .aload_n 1, 1) :: (48, .iload 4, 2) :: (50, .laload, 1) :: (51, .lmul, 1) :: (52, .ladd, 1) :: (53, .lastore, 1) :: (54, .iinc 4 1, 3) :: (57, .goto (-39), 3) :: []
theorem o_X0_weigh_18 : Chn cX0_weigh B_X0_weigh_18 := chn_of _ (by decide +kernel)
def B_X0_weigh_2 : Blk := (2, .iload_n 3, 1) :: (3, .bipush 16, 2) :: (5, .if_icmp .ge 61, 3) :: (8, .aload_n 0, 1) :: (9, .getfield 25, 3) :: (12, .iload_n 3, 1) :: (13, .lconst 0, 1) :: (14, .lastore, 1) :: (15, .iconst 0, 1) :: (16, .istore 4, 2) :: B_X0_weigh_18
theorem o_X0_weigh_2 : Chn cX0_weigh B_X0_weigh_2 := chn_app ((2, .iload_n 3, 1) :: (3, .bipush 16, 2) :: (5, .if_icmp .ge 61, 3) :: (8, .aload_n 0, 1) :: (9, .getfield 25, 3) :: (12, .iload_n 3, 1) :: (13, .lconst 0, 1) :: (14, .lastore, 1) :: (15, .iconst 0, 1) :: (16, .istore 4, 2) :: []) o_X0_weigh_18 (by decide +kernel)
def B_X0_weigh_0 : Blk := (0, .iconst 0, 1) :: (1, .istore_n 3, 1) :: B_X0_weigh_2
theorem o_X0_weigh_0 : Chn cX0_weigh B_X0_weigh_0 := chn_app ((0, .iconst 0, 1) :: (1, .istore_n 3, 1) :: []) o_X0_weigh_2 (by decide +kernel)
theorem fl_0_25 : FLk RX0 25 0 6 3 true := ⟨RX0, TX0, 19, "IntegerHouse$Answers", "weights", "[J", rfl, by decide, rfl, Or.inl (allW_in (kT_2 _ (List.mem_of_getElem? (i := 162) rfl)) rfl), rfl, (fun h => absurd h (by decide)), (fun h => absurd h (by decide)), (fun h => absurd h (by decide)), (fun h => absurd h (by decide))⟩
abbrev cX0_isBeyond : ByteArray := prog_2_method_14_code
def yX0_isBeyond : MethodName := ⟨RX0, "isBeyond", "(I)Z"⟩
def M_X0_isBeyond : MT := (yX0_isBeyond, cX0_isBeyond, 3, (some .boolean), RX0, 1)
theorem mk_X0_isBeyond : MokV M_X0_isBeyond 0 1 := ⟨⟨⟨by decide, by decide, rfl⟩, (allW_in (kT_7 _ (List.mem_of_getElem? (i := 10) rfl)) rfl), (allW_in (kT_1 _ (List.mem_of_getElem? (i := 12) rfl)) rfl), by decide⟩, ⟨TX0, 19, rfl⟩, (allW_in (kT_7 _ (List.mem_of_getElem? (i := 9) rfl)) rfl), (allW_in (kTs_6 _ (List.mem_of_getElem? (i := 2) rfl)) rfl)⟩
def B_X0_isBeyond_35 : Blk := (35, .iconst 0, 1) :: (36, .ireturn, 1) :: []
theorem o_X0_isBeyond_35 : Chn cX0_isBeyond B_X0_isBeyond_35 := chn_of _ (by decide +kernel)
def B_X0_isBeyond_29 : Blk := (29, .iinc 2 1, 3) :: (32, .goto (-30), 3) :: []
theorem o_X0_isBeyond_29 : Chn cX0_isBeyond B_X0_isBeyond_29 := chn_of _ (by decide +kernel)
def B_X0_isBeyond_2 : Blk := (2, .iload_n 2, 1) :: (3, .iload_n 1, 1) :: (4, .if_icmp .ge 31, 3) :: (7, .iload_n 2, 1) :: (8, .sipush 3000, 3) :: (11, .if_icmp .ge 24, 3) :: (14, .aload_n 0, 1) :: (15, .getfield 28, 3) :: (18, .iload_n 2, 1) :: (19, .laload, 1) :: (20, .ldc2_w 136, 3) :: (23, .lcmp, 1) :: (24, .ifCond .le 5, 3) :: (27, .iconst 1, 1) :: (28, .ireturn, 1) :: []
theorem o_X0_isBeyond_2 : Chn cX0_isBeyond B_X0_isBeyond_2 := chn_of _ (by decide +kernel)
def B_X0_isBeyond_0 : Blk := (0, .iconst 0, 1) :: (1, .istore_n 2, 1) :: B_X0_isBeyond_2
theorem o_X0_isBeyond_0 : Chn cX0_isBeyond B_X0_isBeyond_0 := chn_app ((0, .iconst 0, 1) :: (1, .istore_n 2, 1) :: []) o_X0_isBeyond_2 (by decide +kernel)
theorem fl_0_28 : FLk RX0 28 0 7 3 true := ⟨RX0, TX0, 19, "IntegerHouse$Answers", "gains", "[J", rfl, by decide, rfl, Or.inl (allW_in (kT_2 _ (List.mem_of_getElem? (i := 163) rfl)) rfl), rfl, (fun h => absurd h (by decide)), (fun h => absurd h (by decide)), (fun h => absurd h (by decide)), (fun h => absurd h (by decide))⟩
abbrev cX0_gainFrom : ByteArray := prog_2_method_16_code
def yX0_gainFrom : MethodName := ⟨RX0, "gainFrom", "(I)J"⟩
def M_X0_gainFrom : MT := (yX0_gainFrom, cX0_gainFrom, 2, (some .long), RX0, 2)
theorem mk_X0_gainFrom : MokV M_X0_gainFrom 0 1 := ⟨⟨⟨by decide, by decide, rfl⟩, (allW_in (kT_7 _ (List.mem_of_getElem? (i := 19) rfl)) rfl), (allW_in (kT_1 _ (List.mem_of_getElem? (i := 12) rfl)) rfl), by decide⟩, ⟨TX0, 19, rfl⟩, (allW_in (kT_7 _ (List.mem_of_getElem? (i := 18) rfl)) rfl), (allW_in (kTs_6 _ (List.mem_of_getElem? (i := 4) rfl)) rfl)⟩
def B_X0_gainFrom_23 : Blk := (23, .lreturn, 1) :: []
theorem o_X0_gainFrom_23 : Chn cX0_gainFrom B_X0_gainFrom_23 := chn_of _ (by decide +kernel)
def B_X0_gainFrom_20 : Blk := (20, .ldc2_w 119, 3) :: B_X0_gainFrom_23
theorem o_X0_gainFrom_20 : Chn cX0_gainFrom B_X0_gainFrom_20 := chn_app ((20, .ldc2_w 119, 3) :: []) o_X0_gainFrom_23 (by decide +kernel)
def B_X0_gainFrom_0 : Blk := (0, .iload_n 1, 1) :: (1, .ifCond .lt 19, 3) :: (4, .iload_n 1, 1) :: (5, .sipush 3000, 3) :: (8, .if_icmp .ge 12, 3) :: (11, .aload_n 0, 1) :: (12, .getfield 28, 3) :: (15, .iload_n 1, 1) :: (16, .laload, 1) :: (17, .goto 6, 3) :: []
theorem o_X0_gainFrom_0 : Chn cX0_gainFrom B_X0_gainFrom_0 := chn_of _ (by decide +kernel)
abbrev cX0_gain : ByteArray := prog_2_method_15_code
def yX0_gain : MethodName := ⟨RX0, "gain", "(I)Z"⟩
def M_X0_gain : MT := (yX0_gain, cX0_gain, 9, (some .boolean), RX0, 1)
theorem mk_X0_gain : MokV M_X0_gain 0 1 := ⟨⟨⟨by decide, by decide, rfl⟩, (allW_in (kT_7 _ (List.mem_of_getElem? (i := 15) rfl)) rfl), (allW_in (kT_1 _ (List.mem_of_getElem? (i := 12) rfl)) rfl), by decide⟩, ⟨TX0, 19, rfl⟩, (allW_in (kT_7 _ (List.mem_of_getElem? (i := 14) rfl)) rfl), (allW_in (kTs_6 _ (List.mem_of_getElem? (i := 3) rfl)) rfl)⟩
def B_X0_gain_128 : Blk := (128, .aload_n 0, 1) :: (129, .getfield 31, 3) :: (132, .iconst 0, 1) :: (133, .aload_n 0, 1) :: (134, .getfield 28, 3) :: (137, .iconst 0, 1) :: (138, .iload_n 1, 1) :: (139, .sipush 3000, 3) :: (142, .invokestatic 75, 3) :: (145, .invokestatic 146, 3) :: (148, .iload_n 2, 1) :: (149, .ireturn, 1) :: []
theorem o_X0_gain_128 : Chn cX0_gain B_X0_gain_128 := chn_of _ (by decide +kernel)
def B_X0_gain_120 : Blk := (120, .ior, 1) :: (121, .istore_n 2, 1) :: (122, .iinc 3 1, 3) :: (125, .goto (-121), 3) :: []
theorem o_X0_gain_120 : Chn cX0_gain B_X0_gain_120 := chn_of _ (by decide +kernel)
def B_X0_gain_119 : Blk := (119, .iconst 0, 1) :: B_X0_gain_120
theorem o_X0_gain_119 : Chn cX0_gain B_X0_gain_119 := chn_app ((119, .iconst 0, 1) :: []) o_X0_gain_120 (by decide +kernel)
def B_X0_gain_94 : Blk := (94, .aload_n 0, 1) :: (95, .getfield 31, 3) :: (98, .iload_n 3, 1) :: (99, .lload 4, 2) :: (101, .lastore, 1) :: (102, .iload_n 2, 1) :: (103, .lload 4, 2) :: (105, .aload_n 0, 1) :: (106, .getfield 28, 3) :: (109, .iload_n 3, 1) :: (110, .laload, 1) :: (111, .lcmp, 1) :: (112, .ifCond .eq 7, 3) :: (115, .iconst 1, 1) :: (116, .goto 4, 3) :: []
theorem o_X0_gain_94 : Chn cX0_gain B_X0_gain_94 := chn_of _ (by decide +kernel)
def B_X0_gain_88 : Blk := (88, .iinc 6 1, 3) :: (91, .goto (-74), 3) :: []
theorem o_X0_gain_88 : Chn cX0_gain B_X0_gain_88 := chn_of _ (by decide +kernel)
def B_X0_gain_17 : Blk := (17, .iload 6, 2) :: (19, .aload_n 0, 1) :: (20, .getfield 48, 3) :: (23, .getfield 92, 3) :: (26, .if_icmp .ge 68, 3) :: (29, .iload 6, 2) :: (31, .bipush 16, 2) :: (33, .if_icmp .ge 61, 3) :: (36, .aload_n 0, 1) :: (37, .aload_n 0, 1) :: (38, .getfield 48, 3) :: (41, .iload_n 3, 1) :: (42, .iload 6, 2) :: (44, .invokevirtual 95, 3) :: (47, .invokevirtual 138, 3) :: (50, .lstore 7, 2) :: (52, .lload 7, 2) :: (54, .ldc2_w 119, 3) :: (57, .lcmp, 1) :: (58, .ifCond .eq 30, 3) :: (61, .lload 4, 2) :: (63, .ldc2_w 142, 3) :: (66, .ldc2_w 144, 3) :: (69, .lload 7, 2) :: (71, .lmul, 1) :: (72, .aload_n 0, 1) :: (73, .getfield 25, 3) :: (76, .iload 6, 2) :: (78, .laload, 1) :: (79, .ladd, 1) :: (80, .invokestatic 121, 3) :: (83, .invokestatic 121, 3) :: (86, .lstore 4, 2) :: B_X0_gain_88
theorem o_X0_gain_17 : Chn cX0_gain B_X0_gain_17 := chn_app ((17, .iload 6, 2) :: (19, .aload_n 0, 1) :: (20, .getfield 48, 3) :: (23, .getfield 92, 3) :: (26, .if_icmp .ge 68, 3) :: (29, .iload 6, 2) :: (31, .bipush 16, 2) :: (33, .if_icmp .ge 61, 3) :: (36, .aload_n 0, 1) :: (37, .aload_n 0, 1) :: (38, .getfield 48, 3) :: (41, .iload_n 3, 1) :: (42, .iload 6, 2) :: (44, .invokevirtual 95, 3) :: (47, .invokevirtual 138, 3) :: (50, .lstore 7, 2) :: (52, .lload 7, 2) :: (54, .ldc2_w 119, 3) :: (57, .lcmp, 1) :: (58, .ifCond .eq 30, 3) :: (61, .lload 4, 2) :: (63, .ldc2_w 142, 3) :: (66, .ldc2_w 144, 3) :: (69, .lload 7, 2) :: (71, .lmul, 1) :: (72, .aload_n 0, 1) :: (73, .getfield 25, 3) :: (76, .iload 6, 2) :: (78, .laload, 1) :: (79, .ladd, 1) :: (80, .invokestatic 121, 3) :: (83, .invokestatic 121, 3) :: (86, .lstore 4, 2) :: []) o_X0_gain_88 (by decide +kernel)
def B_X0_gain_4 : Blk := (4, .iload_n 3, 1) :: (5, .iload_n 1, 1) :: (6, .if_icmp .ge 122, 3) :: (9, .ldc2_w 119, 3) :: (12, .lstore 4, 2) :: (14, .iconst 0, 1) :: (15, .istore 6, 2) :: B_X0_gain_17
theorem o_X0_gain_4 : Chn cX0_gain B_X0_gain_4 := chn_app ((4, .iload_n 3, 1) :: (5, .iload_n 1, 1) :: (6, .if_icmp .ge 122, 3) :: (9, .ldc2_w 119, 3) :: (12, .lstore 4, 2) :: (14, .iconst 0, 1) :: (15, .istore 6, 2) :: []) o_X0_gain_17 (by decide +kernel)
def B_X0_gain_0 : Blk := (0, .iconst 0, 1) :: (1, .istore_n 2, 1) :: (2, .iconst 0, 1) :: (3, .istore_n 3, 1) :: B_X0_gain_4
theorem o_X0_gain_0 : Chn cX0_gain B_X0_gain_0 := chn_app ((0, .iconst 0, 1) :: (1, .istore_n 2, 1) :: (2, .iconst 0, 1) :: (3, .istore_n 3, 1) :: []) o_X0_gain_4 (by decide +kernel)
theorem fl_0_31 : FLk RX0 31 0 8 3 true := ⟨RX0, TX0, 19, "IntegerHouse$Answers", "gained", "[J", rfl, by decide, rfl, Or.inl (allW_in (kT_2 _ (List.mem_of_getElem? (i := 164) rfl)) rfl), rfl, (fun h => absurd h (by decide)), (fun h => absurd h (by decide)), (fun h => absurd h (by decide)), (fun h => absurd h (by decide))⟩
theorem ml_0_146 : MLk RX0 146 arraycopyName := Or.inl (allW_in (kT_7 _ (List.mem_of_getElem? (i := 22) rfl)) rfl)
theorem ml_0_138 : MLk RX0 138 yX0_gainFrom := Or.inl (allW_in (kT_7 _ (List.mem_of_getElem? (i := 16) rfl)) rfl)
abbrev cX0_tellExtreme : ByteArray := prog_2_method_12_code
def yX0_tellExtreme : MethodName := ⟨RX0, "tellExtreme", "(I[JZ)I"⟩
def M_X0_tellExtreme : MT := (yX0_tellExtreme, cX0_tellExtreme, 8, (some .int), RX0, 1)
theorem mk_X0_tellExtreme : MokV M_X0_tellExtreme 0 3 := ⟨⟨⟨by decide, by decide, rfl⟩, (allW_in (kT_6 _ (List.mem_of_getElem? (i := 239) rfl)) rfl), (allW_in (kT_1 _ (List.mem_of_getElem? (i := 12) rfl)) rfl), by decide⟩, ⟨TX0, 19, rfl⟩, (allW_in (kT_6 _ (List.mem_of_getElem? (i := 237) rfl)) rfl), (allW_in (kT_6 _ (List.mem_of_getElem? (i := 238) rfl)) rfl)⟩
def B_X0_tellExtreme_191 : Blk := (191, .ladd, 1) :: (192, .putfield 132, 3) :: (195, .iconst 1, 1) :: (196, .ireturn, 1) :: []
theorem o_X0_tellExtreme_191 : Chn cX0_tellExtreme B_X0_tellExtreme_191 := chn_of _ (by decide +kernel)
def B_X0_tellExtreme_190 : Blk := (190, .lconst 0, 1) :: B_X0_tellExtreme_191
theorem o_X0_tellExtreme_190 : Chn cX0_tellExtreme B_X0_tellExtreme_190 := chn_app ((190, .lconst 0, 1) :: []) o_X0_tellExtreme_191 (by decide +kernel)
def B_X0_tellExtreme_167 : Blk := (167, .aload_n 0, 1) :: (168, .iload 5, 2) :: (170, .i2l, 1) :: (171, .aload_n 0, 1) :: (172, .getfield 28, 3) :: (175, .iconst 0, 1) :: (176, .laload, 1) :: (177, .lmul, 1) :: (178, .aload_n 2, 1) :: (179, .arraylength, 1) :: (180, .iconst 4, 1) :: (181, .if_icmp .le 9, 3) :: (184, .aload_n 2, 1) :: (185, .iconst 4, 1) :: (186, .laload, 1) :: (187, .goto 4, 3) :: []
theorem o_X0_tellExtreme_167 : Chn cX0_tellExtreme B_X0_tellExtreme_167 := chn_of _ (by decide +kernel)
def B_X0_tellExtreme_152 : Blk := (152, .aload_n 0, 1) :: (153, .getfield 28, 3) :: (156, .iconst 0, 1) :: (157, .laload, 1) :: (158, .ldc2_w 119, 3) :: (161, .lcmp, 1) :: (162, .ifCond .ne 5, 3) :: (165, .iconst 0, 1) :: (166, .ireturn, 1) :: []
theorem o_X0_tellExtreme_152 : Chn cX0_tellExtreme B_X0_tellExtreme_152 := chn_of _ (by decide +kernel)
def B_X0_tellExtreme_138 : Blk := (138, .aload_n 0, 1) :: (139, .iload 4, 2) :: (141, .invokevirtual 129, 3) :: (144, .istore 6, 2) :: (146, .iinc 7 1, 3) :: (149, .goto (-34), 3) :: []
theorem o_X0_tellExtreme_138 : Chn cX0_tellExtreme B_X0_tellExtreme_138 := chn_of _ (by decide +kernel)
def B_X0_tellExtreme_115 : Blk := (115, .iload 7, 2) :: (117, .ldc 124, 2) :: (119, .if_icmp .ge 33, 3) :: (122, .iload 6, 2) :: (124, .ifCond .eq 28, 3) :: (127, .aload_n 0, 1) :: (128, .iload 4, 2) :: (130, .invokevirtual 125, 3) :: (133, .ifCond .eq 5, 3) :: (136, .iconst 2, 1) :: (137, .ireturn, 1) :: []
theorem o_X0_tellExtreme_115 : Chn cX0_tellExtreme B_X0_tellExtreme_115 := chn_of _ (by decide +kernel)
def B_X0_tellExtreme_109 : Blk := (109, .iconst 1, 1) :: (110, .istore 6, 2) :: (112, .iconst 0, 1) :: (113, .istore 7, 2) :: B_X0_tellExtreme_115
theorem o_X0_tellExtreme_109 : Chn cX0_tellExtreme B_X0_tellExtreme_109 := chn_app ((109, .iconst 1, 1) :: (110, .istore 6, 2) :: (112, .iconst 0, 1) :: (113, .istore 7, 2) :: []) o_X0_tellExtreme_115 (by decide +kernel)
def B_X0_tellExtreme_103 : Blk := (103, .iinc 6 1, 3) :: (106, .goto (-77), 3) :: []
theorem o_X0_tellExtreme_103 : Chn cX0_tellExtreme B_X0_tellExtreme_103 := chn_of _ (by decide +kernel)
def B_X0_tellExtreme_97 : Blk := (97, .iinc 7 1, 3) :: (100, .goto (-51), 3) :: []
theorem o_X0_tellExtreme_97 : Chn cX0_tellExtreme B_X0_tellExtreme_97 := chn_of _ (by decide +kernel)
def B_X0_tellExtreme_49 : Blk := (49, .iload 7, 2) :: (51, .bipush 16, 2) :: (53, .if_icmp .ge 50, 3) :: (56, .aload_n 0, 1) :: (57, .getfield 22, 3) :: (60, .iload 6, 2) :: (62, .iaload, 1) :: (63, .iload 7, 2) :: (65, .iushr, 1) :: (66, .iconst 1, 1) :: (67, .iand, 1) :: (68, .iconst 1, 1) :: (69, .if_icmp .ne 28, 3) :: (72, .aload_n 0, 1) :: (73, .getfield 28, 3) :: (76, .iload 6, 2) :: (78, .aload_n 0, 1) :: (79, .getfield 28, 3) :: (82, .iload 6, 2) :: (84, .laload, 1) :: (85, .aload_n 0, 1) :: (86, .getfield 25, 3) :: (89, .iload 7, 2) :: (91, .laload, 1) :: (92, .lneg, 1) :: (93, .invokestatic 121, 3) :: (96, .lastore, 1) :: B_X0_tellExtreme_97
theorem o_X0_tellExtreme_49 : Chn cX0_tellExtreme B_X0_tellExtreme_49 := chn_app ((49, .iload 7, 2) :: (51, .bipush 16, 2) :: (53, .if_icmp .ge 50, 3) :: (56, .aload_n 0, 1) :: (57, .getfield 22, 3) :: (60, .iload 6, 2) :: (62, .iaload, 1) :: (63, .iload 7, 2) :: (65, .iushr, 1) :: (66, .iconst 1, 1) :: (67, .iand, 1) :: (68, .iconst 1, 1) :: (69, .if_icmp .ne 28, 3) :: (72, .aload_n 0, 1) :: (73, .getfield 28, 3) :: (76, .iload 6, 2) :: (78, .aload_n 0, 1) :: (79, .getfield 28, 3) :: (82, .iload 6, 2) :: (84, .laload, 1) :: (85, .aload_n 0, 1) :: (86, .getfield 25, 3) :: (89, .iload 7, 2) :: (91, .laload, 1) :: (92, .lneg, 1) :: (93, .invokestatic 121, 3) :: (96, .lastore, 1) :: []) o_X0_tellExtreme_97 (by decide +kernel)
def B_X0_tellExtreme_29 : Blk := (29, .iload 6, 2) :: (31, .iload 4, 2) :: (33, .if_icmp .ge 76, 3) :: (36, .aload_n 0, 1) :: (37, .getfield 28, 3) :: (40, .iload 6, 2) :: (42, .ldc2_w 119, 3) :: (45, .lastore, 1) :: (46, .iconst 0, 1) :: (47, .istore 7, 2) :: B_X0_tellExtreme_49
theorem o_X0_tellExtreme_29 : Chn cX0_tellExtreme B_X0_tellExtreme_29 := chn_app ((29, .iload 6, 2) :: (31, .iload 4, 2) :: (33, .if_icmp .ge 76, 3) :: (36, .aload_n 0, 1) :: (37, .getfield 28, 3) :: (40, .iload 6, 2) :: (42, .ldc2_w 119, 3) :: (45, .lastore, 1) :: (46, .iconst 0, 1) :: (47, .istore 7, 2) :: []) o_X0_tellExtreme_49 (by decide +kernel)
def B_X0_tellExtreme_17 : Blk := (17, .istore 5, 2) :: (19, .aload_n 0, 1) :: (20, .aload_n 2, 1) :: (21, .iload 5, 2) :: (23, .invokevirtual 115, 3) :: (26, .iconst 0, 1) :: (27, .istore 6, 2) :: B_X0_tellExtreme_29
theorem o_X0_tellExtreme_17 : Chn cX0_tellExtreme B_X0_tellExtreme_17 := chn_app ((17, .istore 5, 2) :: (19, .aload_n 0, 1) :: (20, .aload_n 2, 1) :: (21, .iload 5, 2) :: (23, .invokevirtual 115, 3) :: (26, .iconst 0, 1) :: (27, .istore 6, 2) :: []) o_X0_tellExtreme_29 (by decide +kernel)
def B_X0_tellExtreme_16 : Blk := (16, .iconst (-1), 1) :: B_X0_tellExtreme_17
theorem o_X0_tellExtreme_16 : Chn cX0_tellExtreme B_X0_tellExtreme_16 := chn_app ((16, .iconst (-1), 1) :: []) o_X0_tellExtreme_17 (by decide +kernel)
def B_X0_tellExtreme_0 : Blk := (0, .aload_n 0, 1) :: (1, .iload_n 1, 1) :: (2, .iconst 0, 1) :: (3, .invokevirtual 82, 3) :: (6, .istore 4, 2) :: (8, .iload_n 3, 1) :: (9, .ifCond .eq 7, 3) :: (12, .iconst 1, 1) :: (13, .goto 4, 3) :: []
theorem o_X0_tellExtreme_0 : Chn cX0_tellExtreme B_X0_tellExtreme_0 := chn_of _ (by decide +kernel)
theorem ml_0_115 : MLk RX0 115 yX0_weigh := Or.inl (allW_in (kT_7 _ (List.mem_of_getElem? (i := 0) rfl)) rfl)
theorem fl_0_132 : FLk RX0 132 0 13 2 false := ⟨RX0, TX0, 19, "IntegerHouse$Answers", "toldNumber", "J", rfl, by decide, rfl, Or.inl (allW_in (kT_2 _ (List.mem_of_getElem? (i := 170) rfl)) rfl), rfl, (fun h => absurd h (by decide)), (fun h => absurd h (by decide)), (fun _ => rfl), (fun h => absurd h (by decide))⟩
theorem ml_0_125 : MLk RX0 125 yX0_isBeyond := Or.inl (allW_in (kT_7 _ (List.mem_of_getElem? (i := 7) rfl)) rfl)
theorem ml_0_129 : MLk RX0 129 yX0_gain := Or.inl (allW_in (kT_7 _ (List.mem_of_getElem? (i := 12) rfl)) rfl)
abbrev cX0_mark : ByteArray := prog_2_method_18_code
def yX0_mark : MethodName := ⟨RX0, "mark", "(II)Z"⟩
def M_X0_mark : MT := (yX0_mark, cX0_mark, 7, (some .boolean), RX0, 1)
theorem mk_X0_mark : MokV M_X0_mark 0 2 := ⟨⟨⟨by decide, by decide, rfl⟩, (allW_in (kT_7 _ (List.mem_of_getElem? (i := 40) rfl)) rfl), (allW_in (kT_1 _ (List.mem_of_getElem? (i := 12) rfl)) rfl), by decide⟩, ⟨TX0, 19, rfl⟩, (allW_in (kT_7 _ (List.mem_of_getElem? (i := 39) rfl)) rfl), (allW_in (kTs_6 _ (List.mem_of_getElem? (i := 5) rfl)) rfl)⟩
def B_X0_mark_117 : Blk := (117, .iload_n 3, 1) :: (118, .ireturn, 1) :: []
theorem o_X0_mark_117 : Chn cX0_mark B_X0_mark_117 := chn_of _ (by decide +kernel)
def B_X0_mark_111 : Blk := (111, .iinc 4 1, 3) :: (114, .goto (-109), 3) :: []
theorem o_X0_mark_111 : Chn cX0_mark B_X0_mark_111 := chn_of _ (by decide +kernel)
def B_X0_mark_96 : Blk := (96, .if_icmp .ne 15, 3) :: (99, .aload_n 0, 1) :: (100, .getfield 18, 3) :: (103, .iload 4, 2) :: (105, .iload_n 2, 1) :: (106, .iconst 1, 1) :: (107, .iadd, 1) :: (108, .iastore, 1) :: (109, .iconst 1, 1) :: (110, .istore_n 3, 1) :: B_X0_mark_111
theorem o_X0_mark_96 : Chn cX0_mark B_X0_mark_96 := chn_app ((96, .if_icmp .ne 15, 3) :: (99, .aload_n 0, 1) :: (100, .getfield 18, 3) :: (103, .iload 4, 2) :: (105, .iload_n 2, 1) :: (106, .iconst 1, 1) :: (107, .iadd, 1) :: (108, .iastore, 1) :: (109, .iconst 1, 1) :: (110, .istore_n 3, 1) :: []) o_X0_mark_111 (by decide +kernel)
def B_X0_mark_95 : Blk := (95, .iconst 0, 1) :: B_X0_mark_96
theorem o_X0_mark_95 : Chn cX0_mark B_X0_mark_95 := chn_app ((95, .iconst 0, 1) :: []) o_X0_mark_96 (by decide +kernel)
def B_X0_mark_85 : Blk := (85, .iload 5, 2) :: (87, .iload_n 2, 1) :: (88, .ifCond .ne 7, 3) :: (91, .iconst 1, 1) :: (92, .goto 4, 3) :: []
theorem o_X0_mark_85 : Chn cX0_mark B_X0_mark_85 := chn_of _ (by decide +kernel)
def B_X0_mark_77 : Blk := (77, .istore 5, 2) :: (79, .iinc 6 1, 3) :: (82, .goto (-46), 3) :: []
theorem o_X0_mark_77 : Chn cX0_mark B_X0_mark_77 := chn_of _ (by decide +kernel)
def B_X0_mark_76 : Blk := (76, .iconst 0, 1) :: B_X0_mark_77
theorem o_X0_mark_76 : Chn cX0_mark B_X0_mark_76 := chn_app ((76, .iconst 0, 1) :: []) o_X0_mark_77 (by decide +kernel)
def B_X0_mark_36 : Blk := (36, .iload 6, 2) :: (38, .aload_n 0, 1) :: (39, .getfield 48, 3) :: (42, .getfield 92, 3) :: (45, .if_icmp .ge 40, 3) :: (48, .iload 5, 2) :: (50, .ifCond .ne 35, 3) :: (53, .aload_n 0, 1) :: (54, .aload_n 0, 1) :: (55, .getfield 48, 3) :: (58, .iload 4, 2) :: (60, .iload 6, 2) :: (62, .invokevirtual 95, 3) :: (65, .invokevirtual 98, 3) :: (68, .iconst 1, 1) :: (69, .if_icmp .ne 7, 3) :: (72, .iconst 1, 1) :: (73, .goto 4, 3) :: []
theorem o_X0_mark_36 : Chn cX0_mark B_X0_mark_36 := chn_of _ (by decide +kernel)
def B_X0_mark_5 : Blk := (5, .iload 4, 2) :: (7, .iload_n 1, 1) :: (8, .if_icmp .ge 109, 3) :: (11, .iload 4, 2) :: (13, .sipush 3000, 3) :: (16, .if_icmp .ge 101, 3) :: (19, .aload_n 0, 1) :: (20, .getfield 18, 3) :: (23, .iload 4, 2) :: (25, .iaload, 1) :: (26, .iload_n 2, 1) :: (27, .if_icmp .ne 84, 3) :: (30, .iconst 0, 1) :: (31, .istore 5, 2) :: (33, .iconst 0, 1) :: (34, .istore 6, 2) :: B_X0_mark_36
theorem o_X0_mark_5 : Chn cX0_mark B_X0_mark_5 := chn_app ((5, .iload 4, 2) :: (7, .iload_n 1, 1) :: (8, .if_icmp .ge 109, 3) :: (11, .iload 4, 2) :: (13, .sipush 3000, 3) :: (16, .if_icmp .ge 101, 3) :: (19, .aload_n 0, 1) :: (20, .getfield 18, 3) :: (23, .iload 4, 2) :: (25, .iaload, 1) :: (26, .iload_n 2, 1) :: (27, .if_icmp .ne 84, 3) :: (30, .iconst 0, 1) :: (31, .istore 5, 2) :: (33, .iconst 0, 1) :: (34, .istore 6, 2) :: []) o_X0_mark_36 (by decide +kernel)
def B_X0_mark_0 : Blk := (0, .iconst 0, 1) :: (1, .istore_n 3, 1) :: (2, .iconst 0, 1) :: (3, .istore 4, 2) :: B_X0_mark_5
theorem o_X0_mark_0 : Chn cX0_mark B_X0_mark_0 := chn_app ((0, .iconst 0, 1) :: (1, .istore_n 3, 1) :: (2, .iconst 0, 1) :: (3, .istore 4, 2) :: []) o_X0_mark_5 (by decide +kernel)
def RJ6 : String := "java/lang/Integer"
abbrev cJ6_bitCount_0f7a4 : ByteArray := prog_19_method_49_code
def yJ6_bitCount_0f7a4 : MethodName := ⟨RJ6, "bitCount", "(I)I"⟩
def M_J6_bitCount_0f7a4 : MT := (yJ6_bitCount_0f7a4, cJ6_bitCount_0f7a4, 1, (some .int), RJ6, 1)
theorem mk_J6_bitCount_0f7a4 : MokS M_J6_bitCount_0f7a4 1 := ⟨⟨⟨by decide, by decide, rfl⟩, (allW_in (kT_5 _ (List.mem_of_getElem? (i := 186) rfl)) rfl), (allW_in (kT_1 _ (List.mem_of_getElem? (i := 25) rfl)) rfl), by decide⟩, (allW_in (kT_5 _ (List.mem_of_getElem? (i := 185) rfl)) rfl)⟩
def B_J6_bitCount_0f7a4_0 : Blk := (0, .iload_n 0, 1) :: (1, .iload_n 0, 1) :: (2, .iconst 1, 1) :: (3, .iushr, 1) :: (4, .ldc_w 265, 3) :: (7, .iand, 1) :: (8, .isub, 1) :: (9, .istore_n 0, 1) :: (10, .iload_n 0, 1) :: (11, .ldc_w 266, 3) :: (14, .iand, 1) :: (15, .iload_n 0, 1) :: (16, .iconst 2, 1) :: (17, .iushr, 1) :: (18, .ldc_w 266, 3) :: (21, .iand, 1) :: (22, .iadd, 1) :: (23, .istore_n 0, 1) :: (24, .iload_n 0, 1) :: (25, .iload_n 0, 1) :: (26, .iconst 4, 1) :: (27, .iushr, 1) :: (28, .iadd, 1) :: (29, .ldc_w 267, 3) :: (32, .iand, 1) :: (33, .istore_n 0, 1) :: (34, .iload_n 0, 1) :: (35, .iload_n 0, 1) :: (36, .bipush 8, 2) :: (38, .iushr, 1) :: (39, .iadd, 1) :: (40, .istore_n 0, 1) :: (41, .iload_n 0, 1) :: (42, .iload_n 0, 1) :: (43, .bipush 16, 2) :: (45, .iushr, 1) :: (46, .iadd, 1) :: (47, .istore_n 0, 1) :: (48, .iload_n 0, 1) :: (49, .bipush 63, 2) :: (51, .iand, 1) :: (52, .ireturn, 1) :: []
theorem o_J6_bitCount_0f7a4_0 : Chn cJ6_bitCount_0f7a4 B_J6_bitCount_0f7a4_0 := chn_of _ (by decide +kernel)
abbrev cX0_countAll : ByteArray := prog_2_method_19_code
def yX0_countAll : MethodName := ⟨RX0, "countAll", "(I)I"⟩
def M_X0_countAll : MT := (yX0_countAll, cX0_countAll, 8, (some .int), RX0, 1)
theorem mk_X0_countAll : MokV M_X0_countAll 0 1 := ⟨⟨⟨by decide, by decide, rfl⟩, (allW_in (kT_7 _ (List.mem_of_getElem? (i := 44) rfl)) rfl), (allW_in (kT_1 _ (List.mem_of_getElem? (i := 12) rfl)) rfl), by decide⟩, ⟨TX0, 19, rfl⟩, (allW_in (kT_7 _ (List.mem_of_getElem? (i := 43) rfl)) rfl), (allW_in (kTs_6 _ (List.mem_of_getElem? (i := 6) rfl)) rfl)⟩
def B_X0_countAll_177 : Blk := (177, .aload_n 0, 1) :: (178, .getfield 28, 3) :: (181, .iconst 0, 1) :: (182, .laload, 1) :: (183, .l2i, 1) :: (184, .ireturn, 1) :: []
theorem o_X0_countAll_177 : Chn cX0_countAll B_X0_countAll_177 := chn_of _ (by decide +kernel)
def B_X0_countAll_151 : Blk := (151, .aload_n 0, 1) :: (152, .getfield 31, 3) :: (155, .iconst 0, 1) :: (156, .aload_n 0, 1) :: (157, .getfield 28, 3) :: (160, .iconst 0, 1) :: (161, .iload_n 1, 1) :: (162, .sipush 3000, 3) :: (165, .invokestatic 75, 3) :: (168, .invokestatic 146, 3) :: (171, .iinc 3 1, 3) :: (174, .goto (-134), 3) :: []
theorem o_X0_countAll_151 : Chn cX0_countAll B_X0_countAll_151 := chn_of _ (by decide +kernel)
def B_X0_countAll_143 : Blk := (143, .ior, 1) :: (144, .istore_n 2, 1) :: (145, .iinc 4 1, 3) :: (148, .goto (-94), 3) :: []
theorem o_X0_countAll_143 : Chn cX0_countAll B_X0_countAll_143 := chn_of _ (by decide +kernel)
def B_X0_countAll_142 : Blk := (142, .iconst 0, 1) :: B_X0_countAll_143
theorem o_X0_countAll_142 : Chn cX0_countAll B_X0_countAll_142 := chn_app ((142, .iconst 0, 1) :: []) o_X0_countAll_143 (by decide +kernel)
def B_X0_countAll_104 : Blk := (104, .aload_n 0, 1) :: (105, .getfield 31, 3) :: (108, .iload 4, 2) :: (110, .lload 5, 2) :: (112, .ldc2_w 163, 3) :: (115, .invokestatic 165, 3) :: (118, .lastore, 1) :: (119, .iload_n 2, 1) :: (120, .aload_n 0, 1) :: (121, .getfield 31, 3) :: (124, .iload 4, 2) :: (126, .laload, 1) :: (127, .aload_n 0, 1) :: (128, .getfield 28, 3) :: (131, .iload 4, 2) :: (133, .laload, 1) :: (134, .lcmp, 1) :: (135, .ifCond .eq 7, 3) :: (138, .iconst 1, 1) :: (139, .goto 4, 3) :: []
theorem o_X0_countAll_104 : Chn cX0_countAll B_X0_countAll_104 := chn_of _ (by decide +kernel)
def B_X0_countAll_66 : Blk := (66, .iload 7, 2) :: (68, .aload_n 0, 1) :: (69, .getfield 48, 3) :: (72, .getfield 92, 3) :: (75, .if_icmp .ge 29, 3) :: (78, .lload 5, 2) :: (80, .aload_n 0, 1) :: (81, .aload_n 0, 1) :: (82, .getfield 48, 3) :: (85, .iload 4, 2) :: (87, .iload 7, 2) :: (89, .invokevirtual 95, 3) :: (92, .invokevirtual 138, 3) :: (95, .ladd, 1) :: (96, .lstore 5, 2) :: (98, .iinc 7 1, 3) :: (101, .goto (-35), 3) :: []
theorem o_X0_countAll_66 : Chn cX0_countAll B_X0_countAll_66 := chn_of _ (by decide +kernel)
def B_X0_countAll_54 : Blk := (54, .iload 4, 2) :: (56, .iload_n 1, 1) :: (57, .if_icmp .ge 94, 3) :: (60, .lconst 0, 1) :: (61, .lstore 5, 2) :: (63, .iconst 0, 1) :: (64, .istore 7, 2) :: B_X0_countAll_66
theorem o_X0_countAll_54 : Chn cX0_countAll B_X0_countAll_54 := chn_app ((54, .iload 4, 2) :: (56, .iload_n 1, 1) :: (57, .if_icmp .ge 94, 3) :: (60, .lconst 0, 1) :: (61, .lstore 5, 2) :: (63, .iconst 0, 1) :: (64, .istore 7, 2) :: []) o_X0_countAll_66 (by decide +kernel)
def B_X0_countAll_40 : Blk := (40, .iload_n 3, 1) :: (41, .iload_n 1, 1) :: (42, .if_icmp .gt 135, 3) :: (45, .iload_n 2, 1) :: (46, .ifCond .eq 131, 3) :: (49, .iconst 0, 1) :: (50, .istore_n 2, 1) :: (51, .iconst 0, 1) :: (52, .istore 4, 2) :: B_X0_countAll_54
theorem o_X0_countAll_40 : Chn cX0_countAll B_X0_countAll_40 := chn_app ((40, .iload_n 3, 1) :: (41, .iload_n 1, 1) :: (42, .if_icmp .gt 135, 3) :: (45, .iload_n 2, 1) :: (46, .ifCond .eq 131, 3) :: (49, .iconst 0, 1) :: (50, .istore_n 2, 1) :: (51, .iconst 0, 1) :: (52, .istore 4, 2) :: []) o_X0_countAll_54 (by decide +kernel)
def B_X0_countAll_36 : Blk := (36, .iconst 1, 1) :: (37, .istore_n 2, 1) :: (38, .iconst 0, 1) :: (39, .istore_n 3, 1) :: B_X0_countAll_40
theorem o_X0_countAll_36 : Chn cX0_countAll B_X0_countAll_36 := chn_app ((36, .iconst 1, 1) :: (37, .istore_n 2, 1) :: (38, .iconst 0, 1) :: (39, .istore_n 3, 1) :: []) o_X0_countAll_40 (by decide +kernel)
def B_X0_countAll_2 : Blk := (2, .iload_n 2, 1) :: (3, .iload_n 1, 1) :: (4, .if_icmp .ge 32, 3) :: (7, .iload_n 2, 1) :: (8, .sipush 3000, 3) :: (11, .if_icmp .ge 25, 3) :: (14, .aload_n 0, 1) :: (15, .getfield 28, 3) :: (18, .iload_n 2, 1) :: (19, .aload_n 0, 1) :: (20, .getfield 22, 3) :: (23, .iload_n 2, 1) :: (24, .iaload, 1) :: (25, .invokestatic 158, 3) :: (28, .i2l, 1) :: (29, .lastore, 1) :: (30, .iinc 2 1, 3) :: (33, .goto (-31), 3) :: []
theorem o_X0_countAll_2 : Chn cX0_countAll B_X0_countAll_2 := chn_of _ (by decide +kernel)
def B_X0_countAll_0 : Blk := (0, .iconst 0, 1) :: (1, .istore_n 2, 1) :: B_X0_countAll_2
theorem o_X0_countAll_0 : Chn cX0_countAll B_X0_countAll_0 := chn_app ((0, .iconst 0, 1) :: (1, .istore_n 2, 1) :: []) o_X0_countAll_2 (by decide +kernel)
theorem ml_0_158 : MLk RX0 158 yJ6_bitCount_0f7a4 := Or.inl (allW_in (kT_7 _ (List.mem_of_getElem? (i := 45) rfl)) rfl)
abbrev cX0_howMany : ByteArray := prog_2_method_17_code
def yX0_howMany : MethodName := ⟨RX0, "howMany", "(I)I"⟩
def M_X0_howMany : MT := (yX0_howMany, cX0_howMany, 6, (some .int), RX0, 1)
theorem mk_X0_howMany : MokV M_X0_howMany 0 1 := ⟨⟨⟨by decide, by decide, rfl⟩, (allW_in (kT_7 _ (List.mem_of_getElem? (i := 36) rfl)) rfl), (allW_in (kT_1 _ (List.mem_of_getElem? (i := 12) rfl)) rfl), by decide⟩, ⟨TX0, 19, rfl⟩, (allW_in (kT_7 _ (List.mem_of_getElem? (i := 34) rfl)) rfl), (allW_in (kT_7 _ (List.mem_of_getElem? (i := 35) rfl)) rfl)⟩
def B_X0_howMany_174 : Blk := (174, .aload_n 0, 1) :: (175, .iload_n 2, 1) :: (176, .invokevirtual 155, 3) :: (179, .ireturn, 1) :: []
theorem o_X0_howMany_174 : Chn cX0_howMany B_X0_howMany_174 := chn_of _ (by decide +kernel)
def B_X0_howMany_168 : Blk := (168, .iinc 5 1, 3) :: (171, .goto (-23), 3) :: []
theorem o_X0_howMany_168 : Chn cX0_howMany B_X0_howMany_168 := chn_of _ (by decide +kernel)
def B_X0_howMany_148 : Blk := (148, .iload 5, 2) :: (150, .iload_n 2, 1) :: (151, .if_icmp .ge 23, 3) :: (154, .aload_n 0, 1) :: (155, .getfield 18, 3) :: (158, .iload 5, 2) :: (160, .iaload, 1) :: (161, .iconst 1, 1) :: (162, .if_icmp .ne 6, 3) :: (165, .bipush (-2), 2) :: (167, .ireturn, 1) :: []
theorem o_X0_howMany_148 : Chn cX0_howMany B_X0_howMany_148 := chn_of _ (by decide +kernel)
def B_X0_howMany_145 : Blk := (145, .iconst 0, 1) :: (146, .istore 5, 2) :: B_X0_howMany_148
theorem o_X0_howMany_145 : Chn cX0_howMany B_X0_howMany_145 := chn_app ((145, .iconst 0, 1) :: (146, .istore 5, 2) :: []) o_X0_howMany_148 (by decide +kernel)
def B_X0_howMany_120 : Blk := (120, .iload 5, 2) :: (122, .iload_n 2, 1) :: (123, .if_icmp .gt 22, 3) :: (126, .iload 4, 2) :: (128, .ifCond .eq 17, 3) :: (131, .aload_n 0, 1) :: (132, .iload_n 2, 1) :: (133, .iconst 1, 1) :: (134, .invokevirtual 152, 3) :: (137, .istore 4, 2) :: (139, .iinc 5 1, 3) :: (142, .goto (-22), 3) :: []
theorem o_X0_howMany_120 : Chn cX0_howMany B_X0_howMany_120 := chn_of _ (by decide +kernel)
def B_X0_howMany_114 : Blk := (114, .iconst 1, 1) :: (115, .istore 4, 2) :: (117, .iconst 0, 1) :: (118, .istore 5, 2) :: B_X0_howMany_120
theorem o_X0_howMany_114 : Chn cX0_howMany B_X0_howMany_114 := chn_app ((114, .iconst 1, 1) :: (115, .istore 4, 2) :: (117, .iconst 0, 1) :: (118, .istore 5, 2) :: []) o_X0_howMany_120 (by decide +kernel)
def B_X0_howMany_91 : Blk := (91, .iload 4, 2) :: (93, .iload_n 2, 1) :: (94, .if_icmp .gt 20, 3) :: (97, .iload_n 3, 1) :: (98, .ifCond .eq 16, 3) :: (101, .aload_n 0, 1) :: (102, .iload_n 2, 1) :: (103, .iconst 0, 1) :: (104, .invokevirtual 152, 3) :: (107, .istore_n 3, 1) :: (108, .iinc 4 1, 3) :: (111, .goto (-20), 3) :: []
theorem o_X0_howMany_91 : Chn cX0_howMany B_X0_howMany_91 := chn_of _ (by decide +kernel)
def B_X0_howMany_86 : Blk := (86, .iconst 1, 1) :: (87, .istore_n 3, 1) :: (88, .iconst 0, 1) :: (89, .istore 4, 2) :: B_X0_howMany_91
theorem o_X0_howMany_86 : Chn cX0_howMany B_X0_howMany_86 := chn_app ((86, .iconst 1, 1) :: (87, .istore_n 3, 1) :: (88, .iconst 0, 1) :: (89, .istore 4, 2) :: []) o_X0_howMany_91 (by decide +kernel)
def B_X0_howMany_80 : Blk := (80, .iinc 3 1, 3) :: (83, .goto (-74), 3) :: []
theorem o_X0_howMany_80 : Chn cX0_howMany B_X0_howMany_80 := chn_of _ (by decide +kernel)
def B_X0_howMany_72 : Blk := (72, .ior, 1) :: (73, .iastore, 1) :: (74, .iinc 4 1, 3) :: (77, .goto (-53), 3) :: []
theorem o_X0_howMany_72 : Chn cX0_howMany B_X0_howMany_72 := chn_of _ (by decide +kernel)
def B_X0_howMany_71 : Blk := (71, .iconst 0, 1) :: B_X0_howMany_72
theorem o_X0_howMany_71 : Chn cX0_howMany B_X0_howMany_71 := chn_app ((71, .iconst 0, 1) :: []) o_X0_howMany_72 (by decide +kernel)
def B_X0_howMany_24 : Blk := (24, .iload 4, 2) :: (26, .aload_n 0, 1) :: (27, .getfield 48, 3) :: (30, .getfield 92, 3) :: (33, .if_icmp .ge 47, 3) :: (36, .aload_n 0, 1) :: (37, .getfield 18, 3) :: (40, .iload_n 3, 1) :: (41, .dup2, 1) :: (42, .iaload, 1) :: (43, .aload_n 0, 1) :: (44, .aload_n 0, 1) :: (45, .getfield 48, 3) :: (48, .iload_n 3, 1) :: (49, .iload 4, 2) :: (51, .invokevirtual 95, 3) :: (54, .invokevirtual 112, 3) :: (57, .iconst 1, 1) :: (58, .iload 4, 2) :: (60, .ishl, 1) :: (61, .iconst (-1), 1) :: (62, .ixor, 1) :: (63, .iand, 1) :: (64, .ifCond .eq 7, 3) :: (67, .iconst 1, 1) :: (68, .goto 4, 3) :: []
theorem o_X0_howMany_24 : Chn cX0_howMany B_X0_howMany_24 := chn_of _ (by decide +kernel)
def B_X0_howMany_9 : Blk := (9, .iload_n 3, 1) :: (10, .iload_n 2, 1) :: (11, .if_icmp .ge 75, 3) :: (14, .aload_n 0, 1) :: (15, .getfield 18, 3) :: (18, .iload_n 3, 1) :: (19, .iconst 0, 1) :: (20, .iastore, 1) :: (21, .iconst 0, 1) :: (22, .istore 4, 2) :: B_X0_howMany_24
theorem o_X0_howMany_9 : Chn cX0_howMany B_X0_howMany_9 := chn_app ((9, .iload_n 3, 1) :: (10, .iload_n 2, 1) :: (11, .if_icmp .ge 75, 3) :: (14, .aload_n 0, 1) :: (15, .getfield 18, 3) :: (18, .iload_n 3, 1) :: (19, .iconst 0, 1) :: (20, .iastore, 1) :: (21, .iconst 0, 1) :: (22, .istore 4, 2) :: []) o_X0_howMany_24 (by decide +kernel)
def B_X0_howMany_0 : Blk := (0, .aload_n 0, 1) :: (1, .iload_n 1, 1) :: (2, .iconst 0, 1) :: (3, .invokevirtual 82, 3) :: (6, .istore_n 2, 1) :: (7, .iconst 0, 1) :: (8, .istore_n 3, 1) :: B_X0_howMany_9
theorem o_X0_howMany_0 : Chn cX0_howMany B_X0_howMany_0 := chn_app ((0, .aload_n 0, 1) :: (1, .iload_n 1, 1) :: (2, .iconst 0, 1) :: (3, .invokevirtual 82, 3) :: (6, .istore_n 2, 1) :: (7, .iconst 0, 1) :: (8, .istore_n 3, 1) :: []) o_X0_howMany_9 (by decide +kernel)
theorem ml_0_155 : MLk RX0 155 yX0_countAll := Or.inl (allW_in (kT_7 _ (List.mem_of_getElem? (i := 41) rfl)) rfl)
theorem ml_0_152 : MLk RX0 152 yX0_mark := Or.inl (allW_in (kT_7 _ (List.mem_of_getElem? (i := 37) rfl)) rfl)
abbrev cX0_anyModel : ByteArray := prog_2_method_20_code
def yX0_anyModel : MethodName := ⟨RX0, "anyModel", "(I)Z"⟩
def M_X0_anyModel : MT := (yX0_anyModel, cX0_anyModel, 3, (some .boolean), RX0, 1)
theorem mk_X0_anyModel : MokV M_X0_anyModel 0 1 := ⟨⟨⟨by decide, by decide, rfl⟩, (allW_in (kT_7 _ (List.mem_of_getElem? (i := 61) rfl)) rfl), (allW_in (kT_1 _ (List.mem_of_getElem? (i := 12) rfl)) rfl), by decide⟩, ⟨TX0, 19, rfl⟩, (allW_in (kT_7 _ (List.mem_of_getElem? (i := 60) rfl)) rfl), (allW_in (kTs_6 _ (List.mem_of_getElem? (i := 7) rfl)) rfl)⟩
def B_X0_anyModel_34 : Blk := (34, .iconst 0, 1) :: (35, .ireturn, 1) :: []
theorem o_X0_anyModel_34 : Chn cX0_anyModel B_X0_anyModel_34 := chn_of _ (by decide +kernel)
def B_X0_anyModel_28 : Blk := (28, .iinc 2 1, 3) :: (31, .goto (-29), 3) :: []
theorem o_X0_anyModel_28 : Chn cX0_anyModel B_X0_anyModel_28 := chn_of _ (by decide +kernel)
def B_X0_anyModel_2 : Blk := (2, .iload_n 2, 1) :: (3, .aload_n 0, 1) :: (4, .getfield 48, 3) :: (7, .getfield 72, 3) :: (10, .if_icmp .ge 24, 3) :: (13, .aload_n 0, 1) :: (14, .getfield 48, 3) :: (17, .iload_n 2, 1) :: (18, .iload_n 1, 1) :: (19, .iconst 0, 1) :: (20, .invokevirtual 78, 3) :: (23, .ifCond .eq 5, 3) :: (26, .iconst 1, 1) :: (27, .ireturn, 1) :: []
theorem o_X0_anyModel_2 : Chn cX0_anyModel B_X0_anyModel_2 := chn_of _ (by decide +kernel)
def B_X0_anyModel_0 : Blk := (0, .iconst 0, 1) :: (1, .istore_n 2, 1) :: B_X0_anyModel_2
theorem o_X0_anyModel_0 : Chn cX0_anyModel B_X0_anyModel_0 := chn_app ((0, .iconst 0, 1) :: (1, .istore_n 2, 1) :: []) o_X0_anyModel_2 (by decide +kernel)
abbrev cX0_tellCore : ByteArray := prog_2_method_21_code
def yX0_tellCore : MethodName := ⟨RX0, "tellCore", "(I)I"⟩
def M_X0_tellCore : MT := (yX0_tellCore, cX0_tellCore, 4, (some .int), RX0, 1)
theorem mk_X0_tellCore : MokV M_X0_tellCore 0 1 := ⟨⟨⟨by decide, by decide, rfl⟩, (allW_in (kT_7 _ (List.mem_of_getElem? (i := 57) rfl)) rfl), (allW_in (kT_1 _ (List.mem_of_getElem? (i := 12) rfl)) rfl), by decide⟩, ⟨TX0, 19, rfl⟩, (allW_in (kT_7 _ (List.mem_of_getElem? (i := 55) rfl)) rfl), (allW_in (kT_7 _ (List.mem_of_getElem? (i := 56) rfl)) rfl)⟩
def B_X0_tellCore_113 : Blk := (113, .aload_n 0, 1) :: (114, .getfield 167, 3) :: (117, .ireturn, 1) :: []
theorem o_X0_tellCore_113 : Chn cX0_tellCore B_X0_tellCore_113 := chn_of _ (by decide +kernel)
def B_X0_tellCore_107 : Blk := (107, .iinc 3 1, 3) :: (110, .goto (-47), 3) :: []
theorem o_X0_tellCore_107 : Chn cX0_tellCore B_X0_tellCore_107 := chn_of _ (by decide +kernel)
def B_X0_tellCore_63 : Blk := (63, .iload_n 3, 1) :: (64, .bipush 24, 2) :: (66, .if_icmp .ge 47, 3) :: (69, .iload_n 2, 1) :: (70, .iload_n 3, 1) :: (71, .iushr, 1) :: (72, .iconst 1, 1) :: (73, .iand, 1) :: (74, .iconst 1, 1) :: (75, .if_icmp .ne 32, 3) :: (78, .aload_n 0, 1) :: (79, .getfield 167, 3) :: (82, .bipush 24, 2) :: (84, .if_icmp .ge 23, 3) :: (87, .aload_n 0, 1) :: (88, .getfield 34, 3) :: (91, .aload_n 0, 1) :: (92, .getfield 167, 3) :: (95, .iload_n 3, 1) :: (96, .iastore, 1) :: (97, .aload_n 0, 1) :: (98, .dup, 1) :: (99, .getfield 167, 3) :: (102, .iconst 1, 1) :: (103, .iadd, 1) :: (104, .putfield 167, 3) :: B_X0_tellCore_107
theorem o_X0_tellCore_63 : Chn cX0_tellCore B_X0_tellCore_63 := chn_app ((63, .iload_n 3, 1) :: (64, .bipush 24, 2) :: (66, .if_icmp .ge 47, 3) :: (69, .iload_n 2, 1) :: (70, .iload_n 3, 1) :: (71, .iushr, 1) :: (72, .iconst 1, 1) :: (73, .iand, 1) :: (74, .iconst 1, 1) :: (75, .if_icmp .ne 32, 3) :: (78, .aload_n 0, 1) :: (79, .getfield 167, 3) :: (82, .bipush 24, 2) :: (84, .if_icmp .ge 23, 3) :: (87, .aload_n 0, 1) :: (88, .getfield 34, 3) :: (91, .aload_n 0, 1) :: (92, .getfield 167, 3) :: (95, .iload_n 3, 1) :: (96, .iastore, 1) :: (97, .aload_n 0, 1) :: (98, .dup, 1) :: (99, .getfield 167, 3) :: (102, .iconst 1, 1) :: (103, .iadd, 1) :: (104, .putfield 167, 3) :: []) o_X0_tellCore_107 (by decide +kernel)
def B_X0_tellCore_61 : Blk := (61, .iconst 0, 1) :: (62, .istore_n 3, 1) :: B_X0_tellCore_63
theorem o_X0_tellCore_61 : Chn cX0_tellCore B_X0_tellCore_61 := chn_app ((61, .iconst 0, 1) :: (62, .istore_n 3, 1) :: []) o_X0_tellCore_63 (by decide +kernel)
def B_X0_tellCore_55 : Blk := (55, .iinc 3 (-1), 3) :: (58, .goto (-38), 3) :: []
theorem o_X0_tellCore_55 : Chn cX0_tellCore B_X0_tellCore_55 := chn_of _ (by decide +kernel)
def B_X0_tellCore_20 : Blk := (20, .iload_n 3, 1) :: (21, .ifCond .lt 40, 3) :: (24, .iload_n 2, 1) :: (25, .iload_n 3, 1) :: (26, .iushr, 1) :: (27, .iconst 1, 1) :: (28, .iand, 1) :: (29, .iconst 1, 1) :: (30, .if_icmp .ne 25, 3) :: (33, .aload_n 0, 1) :: (34, .iload_n 2, 1) :: (35, .iconst 1, 1) :: (36, .iload_n 3, 1) :: (37, .ishl, 1) :: (38, .iconst (-1), 1) :: (39, .ixor, 1) :: (40, .iand, 1) :: (41, .invokevirtual 170, 3) :: (44, .ifCond .ne 11, 3) :: (47, .iload_n 2, 1) :: (48, .iconst 1, 1) :: (49, .iload_n 3, 1) :: (50, .ishl, 1) :: (51, .iconst (-1), 1) :: (52, .ixor, 1) :: (53, .iand, 1) :: (54, .istore_n 2, 1) :: B_X0_tellCore_55
theorem o_X0_tellCore_20 : Chn cX0_tellCore B_X0_tellCore_20 := chn_app ((20, .iload_n 3, 1) :: (21, .ifCond .lt 40, 3) :: (24, .iload_n 2, 1) :: (25, .iload_n 3, 1) :: (26, .iushr, 1) :: (27, .iconst 1, 1) :: (28, .iand, 1) :: (29, .iconst 1, 1) :: (30, .if_icmp .ne 25, 3) :: (33, .aload_n 0, 1) :: (34, .iload_n 2, 1) :: (35, .iconst 1, 1) :: (36, .iload_n 3, 1) :: (37, .ishl, 1) :: (38, .iconst (-1), 1) :: (39, .ixor, 1) :: (40, .iand, 1) :: (41, .invokevirtual 170, 3) :: (44, .ifCond .ne 11, 3) :: (47, .iload_n 2, 1) :: (48, .iconst 1, 1) :: (49, .iload_n 3, 1) :: (50, .ishl, 1) :: (51, .iconst (-1), 1) :: (52, .ixor, 1) :: (53, .iand, 1) :: (54, .istore_n 2, 1) :: []) o_X0_tellCore_55 (by decide +kernel)
def B_X0_tellCore_15 : Blk := (15, .iload_n 1, 1) :: (16, .istore_n 2, 1) :: (17, .bipush 23, 2) :: (19, .istore_n 3, 1) :: B_X0_tellCore_20
theorem o_X0_tellCore_15 : Chn cX0_tellCore B_X0_tellCore_15 := chn_app ((15, .iload_n 1, 1) :: (16, .istore_n 2, 1) :: (17, .bipush 23, 2) :: (19, .istore_n 3, 1) :: []) o_X0_tellCore_20 (by decide +kernel)
def B_X0_tellCore_0 : Blk := (0, .aload_n 0, 1) :: (1, .iconst 0, 1) :: (2, .putfield 167, 3) :: (5, .aload_n 0, 1) :: (6, .iload_n 1, 1) :: (7, .invokevirtual 170, 3) :: (10, .ifCond .eq 5, 3) :: (13, .iconst 0, 1) :: (14, .ireturn, 1) :: []
theorem o_X0_tellCore_0 : Chn cX0_tellCore B_X0_tellCore_0 := chn_of _ (by decide +kernel)
theorem fl_0_167 : FLk RX0 167 0 14 0 false := ⟨RX0, TX0, 19, "IntegerHouse$Answers", "coreSize", "I", rfl, by decide, rfl, Or.inl (allW_in (kT_2 _ (List.mem_of_getElem? (i := 172) rfl)) rfl), rfl, (fun _ => rfl), (fun h => absurd h (by decide)), (fun h => absurd h (by decide)), (fun h => absurd h (by decide))⟩
theorem ml_0_170 : MLk RX0 170 yX0_anyModel := Or.inl (allW_in (kT_7 _ (List.mem_of_getElem? (i := 58) rfl)) rfl)
theorem fl_0_34 : FLk RX0 34 0 9 3 true := ⟨RX0, TX0, 19, "IntegerHouse$Answers", "coreTold", "[I", rfl, by decide, rfl, Or.inl (allW_in (kT_2 _ (List.mem_of_getElem? (i := 165) rfl)) rfl), rfl, (fun h => absurd h (by decide)), (fun h => absurd h (by decide)), (fun h => absurd h (by decide)), (fun h => absurd h (by decide))⟩
abbrev cX0_toldInCore : ByteArray := prog_2_method_22_code
def yX0_toldInCore : MethodName := ⟨RX0, "toldInCore", "(I)I"⟩
def M_X0_toldInCore : MT := (yX0_toldInCore, cX0_toldInCore, 2, (some .int), RX0, 1)
theorem mk_X0_toldInCore : MokV M_X0_toldInCore 0 1 := ⟨⟨⟨by decide, by decide, rfl⟩, (allW_in (kT_7 _ (List.mem_of_getElem? (i := 69) rfl)) rfl), (allW_in (kT_1 _ (List.mem_of_getElem? (i := 12) rfl)) rfl), by decide⟩, ⟨TX0, 19, rfl⟩, (allW_in (kT_7 _ (List.mem_of_getElem? (i := 67) rfl)) rfl), (allW_in (kT_7 _ (List.mem_of_getElem? (i := 68) rfl)) rfl)⟩
def B_X0_toldInCore_28 : Blk := (28, .ireturn, 1) :: []
theorem o_X0_toldInCore_28 : Chn cX0_toldInCore B_X0_toldInCore_28 := chn_of _ (by decide +kernel)
def B_X0_toldInCore_27 : Blk := (27, .iconst (-1), 1) :: B_X0_toldInCore_28
theorem o_X0_toldInCore_27 : Chn cX0_toldInCore B_X0_toldInCore_27 := chn_app ((27, .iconst (-1), 1) :: []) o_X0_toldInCore_28 (by decide +kernel)
def B_X0_toldInCore_0 : Blk := (0, .iload_n 1, 1) :: (1, .ifCond .lt 26, 3) :: (4, .iload_n 1, 1) :: (5, .aload_n 0, 1) :: (6, .getfield 167, 3) :: (9, .if_icmp .ge 18, 3) :: (12, .iload_n 1, 1) :: (13, .bipush 24, 2) :: (15, .if_icmp .ge 12, 3) :: (18, .aload_n 0, 1) :: (19, .getfield 34, 3) :: (22, .iload_n 1, 1) :: (23, .iaload, 1) :: (24, .goto 4, 3) :: []
theorem o_X0_toldInCore_0 : Chn cX0_toldInCore B_X0_toldInCore_0 := chn_of _ (by decide +kernel)
abbrev cX0_areAlike : ByteArray := prog_2_method_23_code
def yX0_areAlike : MethodName := ⟨RX0, "areAlike", "(II)Z"⟩
def M_X0_areAlike : MT := (yX0_areAlike, cX0_areAlike, 4, (some .boolean), RX0, 1)
theorem mk_X0_areAlike : MokV M_X0_areAlike 0 2 := ⟨⟨⟨by decide, by decide, rfl⟩, (allW_in (kT_7 _ (List.mem_of_getElem? (i := 77) rfl)) rfl), (allW_in (kT_1 _ (List.mem_of_getElem? (i := 12) rfl)) rfl), by decide⟩, ⟨TX0, 19, rfl⟩, (allW_in (kT_7 _ (List.mem_of_getElem? (i := 75) rfl)) rfl), (allW_in (kT_7 _ (List.mem_of_getElem? (i := 76) rfl)) rfl)⟩
def B_X0_areAlike_48 : Blk := (48, .iconst 1, 1) :: (49, .ireturn, 1) :: []
theorem o_X0_areAlike_48 : Chn cX0_areAlike B_X0_areAlike_48 := chn_of _ (by decide +kernel)
def B_X0_areAlike_42 : Blk := (42, .iinc 3 1, 3) :: (45, .goto (-43), 3) :: []
theorem o_X0_areAlike_42 : Chn cX0_areAlike B_X0_areAlike_42 := chn_of _ (by decide +kernel)
def B_X0_areAlike_2 : Blk := (2, .iload_n 3, 1) :: (3, .aload_n 0, 1) :: (4, .getfield 48, 3) :: (7, .getfield 72, 3) :: (10, .if_icmp .ge 38, 3) :: (13, .aload_n 0, 1) :: (14, .getfield 48, 3) :: (17, .iload_n 3, 1) :: (18, .iconst 1, 1) :: (19, .iload_n 1, 1) :: (20, .ishl, 1) :: (21, .iconst 0, 1) :: (22, .invokevirtual 78, 3) :: (25, .aload_n 0, 1) :: (26, .getfield 48, 3) :: (29, .iload_n 3, 1) :: (30, .iconst 1, 1) :: (31, .iload_n 2, 1) :: (32, .ishl, 1) :: (33, .iconst 0, 1) :: (34, .invokevirtual 78, 3) :: (37, .if_icmp .eq 5, 3) :: (40, .iconst 0, 1) :: (41, .ireturn, 1) :: []
theorem o_X0_areAlike_2 : Chn cX0_areAlike B_X0_areAlike_2 := chn_of _ (by decide +kernel)
def B_X0_areAlike_0 : Blk := (0, .iconst 0, 1) :: (1, .istore_n 3, 1) :: B_X0_areAlike_2
theorem o_X0_areAlike_0 : Chn cX0_areAlike B_X0_areAlike_0 := chn_app ((0, .iconst 0, 1) :: (1, .istore_n 3, 1) :: []) o_X0_areAlike_2 (by decide +kernel)
abbrev cX0_isOn : ByteArray := prog_2_method_25_code
def yX0_isOn : MethodName := ⟨RX0, "isOn", "(I)Z"⟩
def M_X0_isOn : MT := (yX0_isOn, cX0_isOn, 5, (some .boolean), RX0, 1)
theorem mk_X0_isOn : MokV M_X0_isOn 0 1 := ⟨⟨⟨by decide, by decide, rfl⟩, (allW_in (kT_8 _ (List.mem_of_getElem? (i := 165) rfl)) rfl), (allW_in (kT_1 _ (List.mem_of_getElem? (i := 12) rfl)) rfl), by decide⟩, ⟨TX0, 19, rfl⟩, (allW_in (kT_8 _ (List.mem_of_getElem? (i := 164) rfl)) rfl), (allW_in (kTs_9 _ (List.mem_of_getElem? (i := 4) rfl)) rfl)⟩
def B_X0_isOn_79 : Blk := (79, .iconst 0, 1) :: (80, .ireturn, 1) :: []
theorem o_X0_isOn_79 : Chn cX0_isOn B_X0_isOn_79 := chn_of _ (by decide +kernel)
def B_X0_isOn_73 : Blk := (73, .iinc 2 1, 3) :: (76, .goto (-74), 3) :: []
theorem o_X0_isOn_73 : Chn cX0_isOn B_X0_isOn_73 := chn_of _ (by decide +kernel)
def B_X0_isOn_67 : Blk := (67, .iinc 4 1, 3) :: (70, .goto (-25), 3) :: []
theorem o_X0_isOn_67 : Chn cX0_isOn B_X0_isOn_67 := chn_of _ (by decide +kernel)
def B_X0_isOn_45 : Blk := (45, .iload 4, 2) :: (47, .iload_n 3, 1) :: (48, .if_icmp .ge 25, 3) :: (51, .aload_n 0, 1) :: (52, .getfield 44, 3) :: (55, .iload_n 2, 1) :: (56, .iload 4, 2) :: (58, .invokevirtual 203, 3) :: (61, .iload_n 1, 1) :: (62, .if_icmp .ne 5, 3) :: (65, .iconst 1, 1) :: (66, .ireturn, 1) :: []
theorem o_X0_isOn_45 : Chn cX0_isOn B_X0_isOn_45 := chn_of _ (by decide +kernel)
def B_X0_isOn_41 : Blk := (41, .istore_n 3, 1) :: (42, .iconst 0, 1) :: (43, .istore 4, 2) :: B_X0_isOn_45
theorem o_X0_isOn_41 : Chn cX0_isOn B_X0_isOn_41 := chn_app ((41, .istore_n 3, 1) :: (42, .iconst 0, 1) :: (43, .istore 4, 2) :: []) o_X0_isOn_45 (by decide +kernel)
def B_X0_isOn_40 : Blk := (40, .iconst 0, 1) :: B_X0_isOn_41
theorem o_X0_isOn_40 : Chn cX0_isOn B_X0_isOn_40 := chn_app ((40, .iconst 0, 1) :: []) o_X0_isOn_41 (by decide +kernel)
def B_X0_isOn_2 : Blk := (2, .iload_n 2, 1) :: (3, .aload_n 0, 1) :: (4, .getfield 44, 3) :: (7, .getfield 194, 3) :: (10, .if_icmp .ge 69, 3) :: (13, .aload_n 0, 1) :: (14, .getfield 44, 3) :: (17, .getfield 197, 3) :: (20, .iload_n 2, 1) :: (21, .iushr, 1) :: (22, .iconst 1, 1) :: (23, .iand, 1) :: (24, .iconst 1, 1) :: (25, .if_icmp .ne 15, 3) :: (28, .aload_n 0, 1) :: (29, .getfield 44, 3) :: (32, .iload_n 2, 1) :: (33, .iconst 4, 1) :: (34, .invokevirtual 200, 3) :: (37, .goto 4, 3) :: []
theorem o_X0_isOn_2 : Chn cX0_isOn B_X0_isOn_2 := chn_of _ (by decide +kernel)
def B_X0_isOn_0 : Blk := (0, .iconst 0, 1) :: (1, .istore_n 2, 1) :: B_X0_isOn_2
theorem o_X0_isOn_0 : Chn cX0_isOn B_X0_isOn_0 := chn_app ((0, .iconst 0, 1) :: (1, .istore_n 2, 1) :: []) o_X0_isOn_2 (by decide +kernel)
theorem fl_0_194 : FLk RX0 194 2 11 0 false := ⟨RX2, TX2, 16, "IntegerHouse$House", "claims", "I", rfl, by decide, rfl, Or.inr ⟨"IntegerHouse", List.mem_of_getElem? (i := 14) rfl⟩, rfl, (fun _ => rfl), (fun h => absurd h (by decide)), (fun h => absurd h (by decide)), (fun h => absurd h (by decide))⟩
theorem fl_0_197 : FLk RX0 197 2 13 0 false := ⟨RX2, TX2, 16, "IntegerHouse$House", "on", "I", rfl, by decide, rfl, Or.inr ⟨"IntegerHouse", List.mem_of_getElem? (i := 21) rfl⟩, rfl, (fun _ => rfl), (fun h => absurd h (by decide)), (fun h => absurd h (by decide)), (fun h => absurd h (by decide))⟩
theorem ml_0_203 : MLk RX0 203 yX2_atomOf := Or.inl (allW_in (kT_8 _ (List.mem_of_getElem? (i := 167) rfl)) rfl)
theorem ml_0_200 : MLk RX0 200 yX2_fact := Or.inl (allW_in (kT_8 _ (List.mem_of_getElem? (i := 166) rfl)) rfl)
abbrev cX0_raise : ByteArray := prog_2_method_26_code
def yX0_raise : MethodName := ⟨RX0, "raise", "(IIJ)V"⟩
def M_X0_raise : MT := (yX0_raise, cX0_raise, 11, none, RX0, 0)
theorem mk_X0_raise : MokV M_X0_raise 0 3 := ⟨⟨⟨by decide, by decide, rfl⟩, (allW_in (kT_8 _ (List.mem_of_getElem? (i := 174) rfl)) rfl), (allW_in (kT_1 _ (List.mem_of_getElem? (i := 12) rfl)) rfl), by decide⟩, ⟨TX0, 19, rfl⟩, (allW_in (kT_8 _ (List.mem_of_getElem? (i := 173) rfl)) rfl), (allW_in (kTs_9 _ (List.mem_of_getElem? (i := 5) rfl)) rfl)⟩
def B_X0_raise_175 : Blk := (175, .return_, 1) :: []
theorem o_X0_raise_175 : Chn cX0_raise B_X0_raise_175 := chn_of _ (by decide +kernel)
def B_X0_raise_169 : Blk := (169, .iinc 5 1, 3) :: (172, .goto (-115), 3) :: []
theorem o_X0_raise_169 : Chn cX0_raise B_X0_raise_169 := chn_of _ (by decide +kernel)
def B_X0_raise_131 : Blk := (131, .lload 6, 2) :: (133, .lconst 0, 1) :: (134, .lcmp, 1) :: (135, .ifCond .le 34, 3) :: (138, .aload_n 0, 1) :: (139, .getfield 189, 3) :: (142, .sipush 1100, 3) :: (145, .if_icmp .ge 24, 3) :: (148, .aload_n 0, 1) :: (149, .getfield 37, 3) :: (152, .aload_n 0, 1) :: (153, .getfield 189, 3) :: (156, .lload 6, 2) :: (158, .lastore, 1) :: (159, .aload_n 0, 1) :: (160, .dup, 1) :: (161, .getfield 189, 3) :: (164, .iconst 1, 1) :: (165, .iadd, 1) :: (166, .putfield 189, 3) :: B_X0_raise_169
theorem o_X0_raise_131 : Chn cX0_raise B_X0_raise_131 := chn_app ((131, .lload 6, 2) :: (133, .lconst 0, 1) :: (134, .lcmp, 1) :: (135, .ifCond .le 34, 3) :: (138, .aload_n 0, 1) :: (139, .getfield 189, 3) :: (142, .sipush 1100, 3) :: (145, .if_icmp .ge 24, 3) :: (148, .aload_n 0, 1) :: (149, .getfield 37, 3) :: (152, .aload_n 0, 1) :: (153, .getfield 189, 3) :: (156, .lload 6, 2) :: (158, .lastore, 1) :: (159, .aload_n 0, 1) :: (160, .dup, 1) :: (161, .getfield 189, 3) :: (164, .iconst 1, 1) :: (165, .iadd, 1) :: (166, .putfield 189, 3) :: []) o_X0_raise_169 (by decide +kernel)
def B_X0_raise_73 : Blk := (73, .iload 8, 2) :: (75, .aload_n 0, 1) :: (76, .getfield 189, 3) :: (79, .if_icmp .ge 52, 3) :: (82, .iload 8, 2) :: (84, .sipush 1100, 3) :: (87, .if_icmp .ge 44, 3) :: (90, .aload_n 0, 1) :: (91, .getfield 37, 3) :: (94, .iload 8, 2) :: (96, .laload, 1) :: (97, .lload_n 3, 1) :: (98, .lmul, 1) :: (99, .lload 6, 2) :: (101, .ladd, 1) :: (102, .lstore 9, 2) :: (104, .aload_n 0, 1) :: (105, .getfield 37, 3) :: (108, .iload 8, 2) :: (110, .lload 9, 2) :: (112, .ldc2_w 163, 3) :: (115, .lrem, 1) :: (116, .lastore, 1) :: (117, .lload 9, 2) :: (119, .ldc2_w 163, 3) :: (122, .ldiv, 1) :: (123, .lstore 6, 2) :: (125, .iinc 8 1, 3) :: (128, .goto (-55), 3) :: []
theorem o_X0_raise_73 : Chn cX0_raise B_X0_raise_73 := chn_of _ (by decide +kernel)
def B_X0_raise_57 : Blk := (57, .iload 5, 2) :: (59, .iconst 2, 1) :: (60, .iload_n 2, 1) :: (61, .imul, 1) :: (62, .iconst 1, 1) :: (63, .iadd, 1) :: (64, .if_icmp .ge 111, 3) :: (67, .lconst 0, 1) :: (68, .lstore 6, 2) :: (70, .iconst 0, 1) :: (71, .istore 8, 2) :: B_X0_raise_73
theorem o_X0_raise_57 : Chn cX0_raise B_X0_raise_57 := chn_app ((57, .iload 5, 2) :: (59, .iconst 2, 1) :: (60, .iload_n 2, 1) :: (61, .imul, 1) :: (62, .iconst 1, 1) :: (63, .iadd, 1) :: (64, .if_icmp .ge 111, 3) :: (67, .lconst 0, 1) :: (68, .lstore 6, 2) :: (70, .iconst 0, 1) :: (71, .istore 8, 2) :: []) o_X0_raise_73 (by decide +kernel)
def B_X0_raise_26 : Blk := (26, .aload_n 0, 1) :: (27, .iload_n 1, 1) :: (28, .putfield 206, 3) :: (31, .aload_n 0, 1) :: (32, .iload_n 2, 1) :: (33, .putfield 209, 3) :: (36, .aload_n 0, 1) :: (37, .lload_n 3, 1) :: (38, .putfield 212, 3) :: (41, .aload_n 0, 1) :: (42, .getfield 37, 3) :: (45, .iconst 0, 1) :: (46, .iload_n 1, 1) :: (47, .i2l, 1) :: (48, .lastore, 1) :: (49, .aload_n 0, 1) :: (50, .iconst 1, 1) :: (51, .putfield 189, 3) :: (54, .iconst 0, 1) :: (55, .istore 5, 2) :: B_X0_raise_57
theorem o_X0_raise_26 : Chn cX0_raise B_X0_raise_26 := chn_app ((26, .aload_n 0, 1) :: (27, .iload_n 1, 1) :: (28, .putfield 206, 3) :: (31, .aload_n 0, 1) :: (32, .iload_n 2, 1) :: (33, .putfield 209, 3) :: (36, .aload_n 0, 1) :: (37, .lload_n 3, 1) :: (38, .putfield 212, 3) :: (41, .aload_n 0, 1) :: (42, .getfield 37, 3) :: (45, .iconst 0, 1) :: (46, .iload_n 1, 1) :: (47, .i2l, 1) :: (48, .lastore, 1) :: (49, .aload_n 0, 1) :: (50, .iconst 1, 1) :: (51, .putfield 189, 3) :: (54, .iconst 0, 1) :: (55, .istore 5, 2) :: []) o_X0_raise_57 (by decide +kernel)
def B_X0_raise_0 : Blk := (0, .aload_n 0, 1) :: (1, .getfield 206, 3) :: (4, .iload_n 1, 1) :: (5, .if_icmp .ne 21, 3) :: (8, .aload_n 0, 1) :: (9, .getfield 209, 3) :: (12, .iload_n 2, 1) :: (13, .if_icmp .ne 13, 3) :: (16, .aload_n 0, 1) :: (17, .getfield 212, 3) :: (20, .lload_n 3, 1) :: (21, .lcmp, 1) :: (22, .ifCond .ne 4, 3) :: (25, .return_, 1) :: []
theorem o_X0_raise_0 : Chn cX0_raise B_X0_raise_0 := chn_of _ (by decide +kernel)
theorem fl_0_206 : FLk RX0 206 0 18 0 false := ⟨RX0, TX0, 19, "IntegerHouse$Answers", "powerVariables", "I", rfl, by decide, rfl, Or.inl (allW_in (kT_2 _ (List.mem_of_getElem? (i := 176) rfl)) rfl), rfl, (fun _ => rfl), (fun h => absurd h (by decide)), (fun h => absurd h (by decide)), (fun h => absurd h (by decide))⟩
theorem fl_0_209 : FLk RX0 209 0 16 0 false := ⟨RX0, TX0, 19, "IntegerHouse$Answers", "powerLines", "I", rfl, by decide, rfl, Or.inl (allW_in (kT_2 _ (List.mem_of_getElem? (i := 174) rfl)) rfl), rfl, (fun _ => rfl), (fun h => absurd h (by decide)), (fun h => absurd h (by decide)), (fun h => absurd h (by decide))⟩
theorem fl_0_212 : FLk RX0 212 0 17 2 false := ⟨RX0, TX0, 19, "IntegerHouse$Answers", "powerBase", "J", rfl, by decide, rfl, Or.inl (allW_in (kT_2 _ (List.mem_of_getElem? (i := 175) rfl)) rfl), rfl, (fun h => absurd h (by decide)), (fun h => absurd h (by decide)), (fun _ => rfl), (fun h => absurd h (by decide))⟩
theorem fl_0_37 : FLk RX0 37 0 10 3 true := ⟨RX0, TX0, 19, "IntegerHouse$Answers", "limbs", "[J", rfl, by decide, rfl, Or.inl (allW_in (kT_2 _ (List.mem_of_getElem? (i := 166) rfl)) rfl), rfl, (fun h => absurd h (by decide)), (fun h => absurd h (by decide)), (fun h => absurd h (by decide)), (fun h => absurd h (by decide))⟩
theorem fl_0_189 : FLk RX0 189 0 15 0 false := ⟨RX0, TX0, 19, "IntegerHouse$Answers", "limbsUsed", "I", rfl, by decide, rfl, Or.inl (allW_in (kT_2 _ (List.mem_of_getElem? (i := 173) rfl)) rfl), rfl, (fun _ => rfl), (fun h => absurd h (by decide)), (fun h => absurd h (by decide)), (fun h => absurd h (by decide))⟩
abbrev cX0_boundDigit : ByteArray := prog_2_method_24_code
def yX0_boundDigit : MethodName := ⟨RX0, "boundDigit", "(I)I"⟩
def M_X0_boundDigit : MT := (yX0_boundDigit, cX0_boundDigit, 8, (some .int), RX0, 1)
theorem mk_X0_boundDigit : MokV M_X0_boundDigit 0 1 := ⟨⟨⟨by decide, by decide, rfl⟩, (allW_in (kT_8 _ (List.mem_of_getElem? (i := 160) rfl)) rfl), (allW_in (kT_1 _ (List.mem_of_getElem? (i := 12) rfl)) rfl), by decide⟩, ⟨TX0, 19, rfl⟩, (allW_in (kT_8 _ (List.mem_of_getElem? (i := 158) rfl)) rfl), (allW_in (kT_8 _ (List.mem_of_getElem? (i := 159) rfl)) rfl)⟩
def B_X0_boundDigit_172 : Blk := (172, .lload 5, 2) :: (174, .ldc2_w 192, 3) :: (177, .lrem, 1) :: (178, .l2i, 1) :: (179, .ireturn, 1) :: []
theorem o_X0_boundDigit_172 : Chn cX0_boundDigit B_X0_boundDigit_172 := chn_of _ (by decide +kernel)
def B_X0_boundDigit_153 : Blk := (153, .iload 7, 2) :: (155, .ifCond .le 17, 3) :: (158, .lload 5, 2) :: (160, .ldc2_w 192, 3) :: (163, .ldiv, 1) :: (164, .lstore 5, 2) :: (166, .iinc 7 (-1), 3) :: (169, .goto (-16), 3) :: []
theorem o_X0_boundDigit_153 : Chn cX0_boundDigit B_X0_boundDigit_153 := chn_of _ (by decide +kernel)
def B_X0_boundDigit_145 : Blk := (145, .lstore 5, 2) :: (147, .iload_n 1, 1) :: (148, .bipush 9, 2) :: (150, .irem, 1) :: (151, .istore 7, 2) :: B_X0_boundDigit_153
theorem o_X0_boundDigit_145 : Chn cX0_boundDigit B_X0_boundDigit_145 := chn_app ((145, .lstore 5, 2) :: (147, .iload_n 1, 1) :: (148, .bipush 9, 2) :: (150, .irem, 1) :: (151, .istore 7, 2) :: []) o_X0_boundDigit_153 (by decide +kernel)
def B_X0_boundDigit_144 : Blk := (144, .lconst 0, 1) :: B_X0_boundDigit_145
theorem o_X0_boundDigit_144 : Chn cX0_boundDigit B_X0_boundDigit_144 := chn_app ((144, .lconst 0, 1) :: []) o_X0_boundDigit_145 (by decide +kernel)
def B_X0_boundDigit_105 : Blk := (105, .aload_n 0, 1) :: (106, .aload_n 0, 1) :: (107, .getfield 44, 3) :: (110, .getfield 52, 3) :: (113, .iload_n 2, 1) :: (114, .iload_n 2, 1) :: (115, .i2l, 1) :: (116, .lload_n 3, 1) :: (117, .lmul, 1) :: (118, .invokevirtual 185, 3) :: (121, .iload_n 1, 1) :: (122, .bipush 9, 2) :: (124, .idiv, 1) :: (125, .aload_n 0, 1) :: (126, .getfield 189, 3) :: (129, .if_icmp .ge 15, 3) :: (132, .aload_n 0, 1) :: (133, .getfield 37, 3) :: (136, .iload_n 1, 1) :: (137, .bipush 9, 2) :: (139, .idiv, 1) :: (140, .laload, 1) :: (141, .goto 4, 3) :: []
theorem o_X0_boundDigit_105 : Chn cX0_boundDigit B_X0_boundDigit_105 := chn_of _ (by decide +kernel)
def B_X0_boundDigit_103 : Blk := (103, .iconst 0, 1) :: (104, .ireturn, 1) :: []
theorem o_X0_boundDigit_103 : Chn cX0_boundDigit B_X0_boundDigit_103 := chn_of _ (by decide +kernel)
def B_X0_boundDigit_85 : Blk := (85, .iload_n 2, 1) :: (86, .ifCond .eq 17, 3) :: (89, .aload_n 0, 1) :: (90, .getfield 44, 3) :: (93, .getfield 52, 3) :: (96, .ifCond .eq 7, 3) :: (99, .iload_n 1, 1) :: (100, .ifCond .ge 5, 3) :: B_X0_boundDigit_103
theorem o_X0_boundDigit_85 : Chn cX0_boundDigit B_X0_boundDigit_85 := chn_app ((85, .iload_n 2, 1) :: (86, .ifCond .eq 17, 3) :: (89, .aload_n 0, 1) :: (90, .getfield 44, 3) :: (93, .getfield 52, 3) :: (96, .ifCond .eq 7, 3) :: (99, .iload_n 1, 1) :: (100, .ifCond .ge 5, 3) :: []) o_X0_boundDigit_103 (by decide +kernel)
def B_X0_boundDigit_79 : Blk := (79, .iinc 5 1, 3) :: (82, .goto (-75), 3) :: []
theorem o_X0_boundDigit_79 : Chn cX0_boundDigit B_X0_boundDigit_79 := chn_of _ (by decide +kernel)
def B_X0_boundDigit_47 : Blk := (47, .iload 6, 2) :: (49, .iconst 4, 1) :: (50, .if_icmp .gt 29, 3) :: (53, .lload_n 3, 1) :: (54, .aload_n 0, 1) :: (55, .getfield 44, 3) :: (58, .iload 5, 2) :: (60, .iload 6, 2) :: (62, .invokevirtual 176, 3) :: (65, .invokestatic 182, 3) :: (68, .i2l, 1) :: (69, .invokestatic 121, 3) :: (72, .lstore_n 3, 1) :: (73, .iinc 6 1, 3) :: (76, .goto (-29), 3) :: []
theorem o_X0_boundDigit_47 : Chn cX0_boundDigit B_X0_boundDigit_47 := chn_of _ (by decide +kernel)
def B_X0_boundDigit_7 : Blk := (7, .iload 5, 2) :: (9, .aload_n 0, 1) :: (10, .getfield 44, 3) :: (13, .getfield 173, 3) :: (16, .if_icmp .ge 69, 3) :: (19, .aload_n 0, 1) :: (20, .getfield 44, 3) :: (23, .iload 5, 2) :: (25, .iconst 5, 1) :: (26, .invokevirtual 176, 3) :: (29, .ifCond .ne 50, 3) :: (32, .aload_n 0, 1) :: (33, .iload 5, 2) :: (35, .invokevirtual 179, 3) :: (38, .ifCond .eq 41, 3) :: (41, .iinc 2 1, 3) :: (44, .iconst 0, 1) :: (45, .istore 6, 2) :: B_X0_boundDigit_47
theorem o_X0_boundDigit_7 : Chn cX0_boundDigit B_X0_boundDigit_7 := chn_app ((7, .iload 5, 2) :: (9, .aload_n 0, 1) :: (10, .getfield 44, 3) :: (13, .getfield 173, 3) :: (16, .if_icmp .ge 69, 3) :: (19, .aload_n 0, 1) :: (20, .getfield 44, 3) :: (23, .iload 5, 2) :: (25, .iconst 5, 1) :: (26, .invokevirtual 176, 3) :: (29, .ifCond .ne 50, 3) :: (32, .aload_n 0, 1) :: (33, .iload 5, 2) :: (35, .invokevirtual 179, 3) :: (38, .ifCond .eq 41, 3) :: (41, .iinc 2 1, 3) :: (44, .iconst 0, 1) :: (45, .istore 6, 2) :: []) o_X0_boundDigit_47 (by decide +kernel)
def B_X0_boundDigit_0 : Blk := (0, .iconst 0, 1) :: (1, .istore_n 2, 1) :: (2, .lconst 1, 1) :: (3, .lstore_n 3, 1) :: (4, .iconst 0, 1) :: (5, .istore 5, 2) :: B_X0_boundDigit_7
theorem o_X0_boundDigit_0 : Chn cX0_boundDigit B_X0_boundDigit_0 := chn_app ((0, .iconst 0, 1) :: (1, .istore_n 2, 1) :: (2, .lconst 1, 1) :: (3, .lstore_n 3, 1) :: (4, .iconst 0, 1) :: (5, .istore 5, 2) :: []) o_X0_boundDigit_7 (by decide +kernel)
theorem fl_0_173 : FLk RX0 173 2 12 0 false := ⟨RX2, TX2, 16, "IntegerHouse$House", "poolSize", "I", rfl, by decide, rfl, Or.inr ⟨"IntegerHouse", List.mem_of_getElem? (i := 17) rfl⟩, rfl, (fun _ => rfl), (fun h => absurd h (by decide)), (fun h => absurd h (by decide)), (fun h => absurd h (by decide))⟩
theorem ml_0_185 : MLk RX0 185 yX0_raise := Or.inl (allW_in (kT_8 _ (List.mem_of_getElem? (i := 171) rfl)) rfl)
theorem ml_0_176 : MLk RX0 176 yX2_pooled := Or.inl (allW_in (kT_8 _ (List.mem_of_getElem? (i := 161) rfl)) rfl)
theorem ml_0_179 : MLk RX0 179 yX0_isOn := Or.inl (allW_in (kT_8 _ (List.mem_of_getElem? (i := 162) rfl)) rfl)
abbrev cX1_isByte : ByteArray := prog_3_method_2_code
def yX1_isByte : MethodName := ⟨RX1, "isByte", "(II)Z"⟩
def M_X1_isByte : MT := (yX1_isByte, cX1_isByte, 2, (some .boolean), RX1, 1)
theorem mk_X1_isByte : MokS M_X1_isByte 2 := ⟨⟨⟨by decide, by decide, rfl⟩, (allW_in (kT_4 _ (List.mem_of_getElem? (i := 6) rfl)) rfl), (allW_in (kT_1 _ (List.mem_of_getElem? (i := 2) rfl)) rfl), by decide⟩, (allW_in (kT_4 _ (List.mem_of_getElem? (i := 5) rfl)) rfl)⟩
def B_X1_isByte_27 : Blk := (27, .ireturn, 1) :: []
theorem o_X1_isByte_27 : Chn cX1_isByte B_X1_isByte_27 := chn_of _ (by decide +kernel)
def B_X1_isByte_26 : Blk := (26, .iconst 0, 1) :: B_X1_isByte_27
theorem o_X1_isByte_26 : Chn cX1_isByte B_X1_isByte_26 := chn_app ((26, .iconst 0, 1) :: []) o_X1_isByte_27 (by decide +kernel)
def B_X1_isByte_0 : Blk := (0, .iload_n 0, 1) :: (1, .iconst 1, 1) :: (2, .if_icmp .lt 24, 3) :: (5, .iload_n 0, 1) :: (6, .bipush 100, 2) :: (8, .if_icmp .gt 18, 3) :: (11, .iload_n 1, 1) :: (12, .ifCond .lt 14, 3) :: (15, .iload_n 1, 1) :: (16, .sipush 256, 3) :: (19, .if_icmp .ge 7, 3) :: (22, .iconst 1, 1) :: (23, .goto 4, 3) :: []
theorem o_X1_isByte_0 : Chn cX1_isByte B_X1_isByte_0 := chn_of _ (by decide +kernel)
abbrev cX1_byteOf : ByteArray := prog_3_method_3_code
def yX1_byteOf : MethodName := ⟨RX1, "byteOf", "(II)I"⟩
def M_X1_byteOf : MT := (yX1_byteOf, cX1_byteOf, 3, (some .int), RX1, 1)
theorem mk_X1_byteOf : MokV M_X1_byteOf 1 2 := ⟨⟨⟨by decide, by decide, rfl⟩, (allW_in (kT_4 _ (List.mem_of_getElem? (i := 38) rfl)) rfl), (allW_in (kT_1 _ (List.mem_of_getElem? (i := 2) rfl)) rfl), by decide⟩, ⟨TX1, 9, rfl⟩, (allW_in (kT_4 _ (List.mem_of_getElem? (i := 36) rfl)) rfl), (allW_in (kT_4 _ (List.mem_of_getElem? (i := 37) rfl)) rfl)⟩
def B_X1_byteOf_30 : Blk := (30, .ireturn, 1) :: []
theorem o_X1_byteOf_30 : Chn cX1_byteOf B_X1_byteOf_30 := chn_of _ (by decide +kernel)
def B_X1_byteOf_29 : Blk := (29, .iconst 0, 1) :: B_X1_byteOf_30
theorem o_X1_byteOf_29 : Chn cX1_byteOf B_X1_byteOf_29 := chn_app ((29, .iconst 0, 1) :: []) o_X1_byteOf_30 (by decide +kernel)
def B_X1_byteOf_0 : Blk := (0, .iload_n 1, 1) :: (1, .iload_n 2, 1) :: (2, .invokestatic 29, 3) :: (5, .ifCond .eq 24, 3) :: (8, .aload_n 0, 1) :: (9, .getfield 11, 3) :: (12, .iload_n 1, 1) :: (13, .iconst 1, 1) :: (14, .isub, 1) :: (15, .sipush 256, 3) :: (18, .imul, 1) :: (19, .iload_n 2, 1) :: (20, .iadd, 1) :: (21, .baload, 1) :: (22, .sipush 255, 3) :: (25, .iand, 1) :: (26, .goto 4, 3) :: []
theorem o_X1_byteOf_0 : Chn cX1_byteOf B_X1_byteOf_0 := chn_of _ (by decide +kernel)
theorem ml_1_29 : MLk RX1 29 yX1_isByte := Or.inl (allW_in (kT_4 _ (List.mem_of_getElem? (i := 4) rfl)) rfl)
theorem fl_1_11 : FLk RX1 11 1 0 3 true := ⟨RX1, TX1, 9, "IntegerHouse$Disk", "blocks", "[B", rfl, by decide, rfl, Or.inl (allW_in (kT_1 _ (List.mem_of_getElem? (i := 42) rfl)) rfl), rfl, (fun h => absurd h (by decide)), (fun h => absurd h (by decide)), (fun h => absurd h (by decide)), (fun h => absurd h (by decide))⟩
abbrev cX1_flip : ByteArray := prog_3_method_4_code
def yX1_flip : MethodName := ⟨RX1, "flip", "(III)I"⟩
def M_X1_flip : MT := (yX1_flip, cX1_flip, 4, (some .int), RX1, 1)
theorem mk_X1_flip : MokV M_X1_flip 1 3 := ⟨⟨⟨by decide, by decide, rfl⟩, (allW_in (kT_9 _ (List.mem_of_getElem? (i := 79) rfl)) rfl), (allW_in (kT_1 _ (List.mem_of_getElem? (i := 2) rfl)) rfl), by decide⟩, ⟨TX1, 9, rfl⟩, (allW_in (kT_9 _ (List.mem_of_getElem? (i := 77) rfl)) rfl), (allW_in (kT_9 _ (List.mem_of_getElem? (i := 78) rfl)) rfl)⟩
def B_X1_flip_28 : Blk := (28, .aload_n 0, 1) :: (29, .iload_n 1, 1) :: (30, .iload_n 2, 1) :: (31, .invokevirtual 33, 3) :: (34, .ireturn, 1) :: []
theorem o_X1_flip_28 : Chn cX1_flip B_X1_flip_28 := chn_of _ (by decide +kernel)
def B_X1_flip_0 : Blk := (0, .iload_n 1, 1) :: (1, .iload_n 2, 1) :: (2, .invokestatic 29, 3) :: (5, .ifCond .eq 23, 3) :: (8, .aload_n 0, 1) :: (9, .getfield 11, 3) :: (12, .iload_n 1, 1) :: (13, .iconst 1, 1) :: (14, .isub, 1) :: (15, .sipush 256, 3) :: (18, .imul, 1) :: (19, .iload_n 2, 1) :: (20, .iadd, 1) :: (21, .dup2, 1) :: (22, .baload, 1) :: (23, .iload_n 3, 1) :: (24, .i2b, 1) :: (25, .ixor, 1) :: (26, .i2b, 1) :: (27, .bastore, 1) :: B_X1_flip_28
theorem o_X1_flip_0 : Chn cX1_flip B_X1_flip_0 := chn_app ((0, .iload_n 1, 1) :: (1, .iload_n 2, 1) :: (2, .invokestatic 29, 3) :: (5, .ifCond .eq 23, 3) :: (8, .aload_n 0, 1) :: (9, .getfield 11, 3) :: (12, .iload_n 1, 1) :: (13, .iconst 1, 1) :: (14, .isub, 1) :: (15, .sipush 256, 3) :: (18, .imul, 1) :: (19, .iload_n 2, 1) :: (20, .iadd, 1) :: (21, .dup2, 1) :: (22, .baload, 1) :: (23, .iload_n 3, 1) :: (24, .i2b, 1) :: (25, .ixor, 1) :: (26, .i2b, 1) :: (27, .bastore, 1) :: []) o_X1_flip_28 (by decide +kernel)
theorem ml_1_33 : MLk RX1 33 yX1_byteOf := Or.inl (allW_in (kT_4 _ (List.mem_of_getElem? (i := 35) rfl)) rfl)
abbrev cX1_setCut : ByteArray := prog_3_method_5_code
def yX1_setCut : MethodName := ⟨RX1, "setCut", "(II)V"⟩
def M_X1_setCut : MT := (yX1_setCut, cX1_setCut, 3, none, RX1, 0)
theorem mk_X1_setCut : MokV M_X1_setCut 1 2 := ⟨⟨⟨by decide, by decide, rfl⟩, (allW_in (kT_4 _ (List.mem_of_getElem? (i := 14) rfl)) rfl), (allW_in (kT_1 _ (List.mem_of_getElem? (i := 2) rfl)) rfl), by decide⟩, ⟨TX1, 9, rfl⟩, (allW_in (kT_4 _ (List.mem_of_getElem? (i := 12) rfl)) rfl), (allW_in (kT_4 _ (List.mem_of_getElem? (i := 13) rfl)) rfl)⟩
def B_X1_setCut_0 : Blk := (0, .aload_n 0, 1) :: (1, .iload_n 1, 1) :: (2, .putfield 25, 3) :: (5, .aload_n 0, 1) :: (6, .iload_n 2, 1) :: (7, .putfield 37, 3) :: (10, .return_, 1) :: []
theorem o_X1_setCut_0 : Chn cX1_setCut B_X1_setCut_0 := chn_of _ (by decide +kernel)
theorem fl_1_25 : FLk RX1 25 1 6 0 false := ⟨RX1, TX1, 9, "IntegerHouse$Disk", "cutAt", "I", rfl, by decide, rfl, Or.inl (allW_in (kT_1 _ (List.mem_of_getElem? (i := 51) rfl)) rfl), rfl, (fun _ => rfl), (fun h => absurd h (by decide)), (fun h => absurd h (by decide)), (fun h => absurd h (by decide))⟩
theorem fl_1_37 : FLk RX1 37 1 7 0 false := ⟨RX1, TX1, 9, "IntegerHouse$Disk", "tear", "I", rfl, by decide, rfl, Or.inl (allW_in (kT_1 _ (List.mem_of_getElem? (i := 52) rfl)) rfl), rfl, (fun _ => rfl), (fun h => absurd h (by decide)), (fun h => absurd h (by decide)), (fun h => absurd h (by decide))⟩
abbrev cX1_hasRoom : ByteArray := prog_3_method_6_code
def yX1_hasRoom : MethodName := ⟨RX1, "hasRoom", "(I)Z"⟩
def M_X1_hasRoom : MT := (yX1_hasRoom, cX1_hasRoom, 2, (some .boolean), RX1, 1)
theorem mk_X1_hasRoom : MokV M_X1_hasRoom 1 1 := ⟨⟨⟨by decide, by decide, rfl⟩, (allW_in (kT_5 _ (List.mem_of_getElem? (i := 205) rfl)) rfl), (allW_in (kT_1 _ (List.mem_of_getElem? (i := 2) rfl)) rfl), by decide⟩, ⟨TX1, 9, rfl⟩, (allW_in (kT_5 _ (List.mem_of_getElem? (i := 203) rfl)) rfl), (allW_in (kT_5 _ (List.mem_of_getElem? (i := 204) rfl)) rfl)⟩
def B_X1_hasRoom_31 : Blk := (31, .ireturn, 1) :: []
theorem o_X1_hasRoom_31 : Chn cX1_hasRoom B_X1_hasRoom_31 := chn_of _ (by decide +kernel)
def B_X1_hasRoom_30 : Blk := (30, .iconst 0, 1) :: B_X1_hasRoom_31
theorem o_X1_hasRoom_30 : Chn cX1_hasRoom B_X1_hasRoom_30 := chn_app ((30, .iconst 0, 1) :: []) o_X1_hasRoom_31 (by decide +kernel)
def B_X1_hasRoom_0 : Blk := (0, .aload_n 0, 1) :: (1, .getfield 40, 3) :: (4, .iload_n 1, 1) :: (5, .iadd, 1) :: (6, .sipush 248, 3) :: (9, .iadd, 1) :: (10, .iconst 1, 1) :: (11, .isub, 1) :: (12, .sipush 248, 3) :: (15, .idiv, 1) :: (16, .bipush 100, 2) :: (18, .aload_n 0, 1) :: (19, .getfield 43, 3) :: (22, .isub, 1) :: (23, .if_icmp .gt 7, 3) :: (26, .iconst 1, 1) :: (27, .goto 4, 3) :: []
theorem o_X1_hasRoom_0 : Chn cX1_hasRoom B_X1_hasRoom_0 := chn_of _ (by decide +kernel)
theorem fl_1_40 : FLk RX1 40 1 4 0 false := ⟨RX1, TX1, 9, "IntegerHouse$Disk", "waiting", "I", rfl, by decide, rfl, Or.inl (allW_in (kT_1 _ (List.mem_of_getElem? (i := 47) rfl)) rfl), rfl, (fun _ => rfl), (fun h => absurd h (by decide)), (fun h => absurd h (by decide)), (fun h => absurd h (by decide))⟩
theorem fl_1_43 : FLk RX1 43 1 5 0 false := ⟨RX1, TX1, 9, "IntegerHouse$Disk", "used", "I", rfl, by decide, rfl, Or.inl (allW_in (kT_1 _ (List.mem_of_getElem? (i := 49) rfl)) rfl), rfl, (fun _ => rfl), (fun h => absurd h (by decide)), (fun h => absurd h (by decide)), (fun h => absurd h (by decide))⟩
abbrev cX1_waitingByte : ByteArray := prog_3_method_7_code
def yX1_waitingByte : MethodName := ⟨RX1, "waitingByte", "(I)I"⟩
def M_X1_waitingByte : MT := (yX1_waitingByte, cX1_waitingByte, 2, (some .int), RX1, 1)
theorem mk_X1_waitingByte : MokV M_X1_waitingByte 1 1 := ⟨⟨⟨by decide, by decide, rfl⟩, (allW_in (kT_3 _ (List.mem_of_getElem? (i := 235) rfl)) rfl), (allW_in (kT_1 _ (List.mem_of_getElem? (i := 2) rfl)) rfl), by decide⟩, ⟨TX1, 9, rfl⟩, (allW_in (kT_3 _ (List.mem_of_getElem? (i := 233) rfl)) rfl), (allW_in (kT_3 _ (List.mem_of_getElem? (i := 234) rfl)) rfl)⟩
def B_X1_waitingByte_25 : Blk := (25, .ireturn, 1) :: []
theorem o_X1_waitingByte_25 : Chn cX1_waitingByte B_X1_waitingByte_25 := chn_of _ (by decide +kernel)
def B_X1_waitingByte_24 : Blk := (24, .iconst 0, 1) :: B_X1_waitingByte_25
theorem o_X1_waitingByte_24 : Chn cX1_waitingByte B_X1_waitingByte_24 := chn_app ((24, .iconst 0, 1) :: []) o_X1_waitingByte_25 (by decide +kernel)
def B_X1_waitingByte_0 : Blk := (0, .iload_n 1, 1) :: (1, .ifCond .lt 23, 3) :: (4, .iload_n 1, 1) :: (5, .sipush 24800, 3) :: (8, .if_icmp .ge 16, 3) :: (11, .aload_n 0, 1) :: (12, .getfield 22, 3) :: (15, .iload_n 1, 1) :: (16, .baload, 1) :: (17, .sipush 255, 3) :: (20, .iand, 1) :: (21, .goto 4, 3) :: []
theorem o_X1_waitingByte_0 : Chn cX1_waitingByte B_X1_waitingByte_0 := chn_of _ (by decide +kernel)
theorem fl_1_22 : FLk RX1 22 1 3 3 true := ⟨RX1, TX1, 9, "IntegerHouse$Disk", "waits", "[B", rfl, by decide, rfl, Or.inl (allW_in (kT_1 _ (List.mem_of_getElem? (i := 45) rfl)) rfl), rfl, (fun h => absurd h (by decide)), (fun h => absurd h (by decide)), (fun h => absurd h (by decide)), (fun h => absurd h (by decide))⟩
abbrev cX1_waitingInt : ByteArray := prog_3_method_8_code
def yX1_waitingInt : MethodName := ⟨RX1, "waitingInt", "(I)I"⟩
def M_X1_waitingInt : MT := (yX1_waitingInt, cX1_waitingInt, 2, (some .int), RX1, 1)
theorem mk_X1_waitingInt : MokV M_X1_waitingInt 1 1 := ⟨⟨⟨by decide, by decide, rfl⟩, (allW_in (kT_4 _ (List.mem_of_getElem? (i := 54) rfl)) rfl), (allW_in (kT_1 _ (List.mem_of_getElem? (i := 2) rfl)) rfl), by decide⟩, ⟨TX1, 9, rfl⟩, (allW_in (kT_4 _ (List.mem_of_getElem? (i := 52) rfl)) rfl), (allW_in (kT_4 _ (List.mem_of_getElem? (i := 53) rfl)) rfl)⟩
def B_X1_waitingInt_0 : Blk := (0, .aload_n 0, 1) :: (1, .iload_n 1, 1) :: (2, .invokevirtual 46, 3) :: (5, .bipush 24, 2) :: (7, .ishl, 1) :: (8, .aload_n 0, 1) :: (9, .iload_n 1, 1) :: (10, .iconst 1, 1) :: (11, .iadd, 1) :: (12, .invokevirtual 46, 3) :: (15, .bipush 16, 2) :: (17, .ishl, 1) :: (18, .ior, 1) :: (19, .aload_n 0, 1) :: (20, .iload_n 1, 1) :: (21, .iconst 2, 1) :: (22, .iadd, 1) :: (23, .invokevirtual 46, 3) :: (26, .bipush 8, 2) :: (28, .ishl, 1) :: (29, .ior, 1) :: (30, .aload_n 0, 1) :: (31, .iload_n 1, 1) :: (32, .iconst 3, 1) :: (33, .iadd, 1) :: (34, .invokevirtual 46, 3) :: (37, .ior, 1) :: (38, .ireturn, 1) :: []
theorem o_X1_waitingInt_0 : Chn cX1_waitingInt B_X1_waitingInt_0 := chn_of _ (by decide +kernel)
theorem ml_1_46 : MLk RX1 46 yX1_waitingByte := Or.inl (allW_in (kT_3 _ (List.mem_of_getElem? (i := 232) rfl)) rfl)
abbrev cX1_await : ByteArray := prog_3_method_9_code
def yX1_await : MethodName := ⟨RX1, "await", "(I)V"⟩
def M_X1_await : MT := (yX1_await, cX1_await, 2, none, RX1, 0)
theorem mk_X1_await : MokV M_X1_await 1 1 := ⟨⟨⟨by decide, by decide, rfl⟩, (allW_in (kT_4 _ (List.mem_of_getElem? (i := 46) rfl)) rfl), (allW_in (kT_1 _ (List.mem_of_getElem? (i := 2) rfl)) rfl), by decide⟩, ⟨TX1, 9, rfl⟩, (allW_in (kT_4 _ (List.mem_of_getElem? (i := 45) rfl)) rfl), (allW_in (kTs_1 _ (List.mem_of_getElem? (i := 3) rfl)) rfl)⟩
def B_X1_await_38 : Blk := (38, .return_, 1) :: []
theorem o_X1_await_38 : Chn cX1_await B_X1_await_38 := chn_of _ (by decide +kernel)
def B_X1_await_0 : Blk := (0, .aload_n 0, 1) :: (1, .getfield 40, 3) :: (4, .ifCond .lt 34, 3) :: (7, .aload_n 0, 1) :: (8, .getfield 40, 3) :: (11, .sipush 24800, 3) :: (14, .if_icmp .ge 24, 3) :: (17, .aload_n 0, 1) :: (18, .getfield 22, 3) :: (21, .aload_n 0, 1) :: (22, .getfield 40, 3) :: (25, .iload_n 1, 1) :: (26, .i2b, 1) :: (27, .bastore, 1) :: (28, .aload_n 0, 1) :: (29, .dup, 1) :: (30, .getfield 40, 3) :: (33, .iconst 1, 1) :: (34, .iadd, 1) :: (35, .putfield 40, 3) :: B_X1_await_38
theorem o_X1_await_0 : Chn cX1_await B_X1_await_0 := chn_app ((0, .aload_n 0, 1) :: (1, .getfield 40, 3) :: (4, .ifCond .lt 34, 3) :: (7, .aload_n 0, 1) :: (8, .getfield 40, 3) :: (11, .sipush 24800, 3) :: (14, .if_icmp .ge 24, 3) :: (17, .aload_n 0, 1) :: (18, .getfield 22, 3) :: (21, .aload_n 0, 1) :: (22, .getfield 40, 3) :: (25, .iload_n 1, 1) :: (26, .i2b, 1) :: (27, .bastore, 1) :: (28, .aload_n 0, 1) :: (29, .dup, 1) :: (30, .getfield 40, 3) :: (33, .iconst 1, 1) :: (34, .iadd, 1) :: (35, .putfield 40, 3) :: []) o_X1_await_38 (by decide +kernel)
abbrev cX1_awaitInt : ByteArray := prog_3_method_10_code
def yX1_awaitInt : MethodName := ⟨RX1, "awaitInt", "(I)V"⟩
def M_X1_awaitInt : MT := (yX1_awaitInt, cX1_awaitInt, 3, none, RX1, 0)
theorem mk_X1_awaitInt : MokV M_X1_awaitInt 1 1 := ⟨⟨⟨by decide, by decide, rfl⟩, (allW_in (kT_5 _ (List.mem_of_getElem? (i := 226) rfl)) rfl), (allW_in (kT_1 _ (List.mem_of_getElem? (i := 2) rfl)) rfl), by decide⟩, ⟨TX1, 9, rfl⟩, (allW_in (kT_5 _ (List.mem_of_getElem? (i := 225) rfl)) rfl), (allW_in (kTs_4 _ (List.mem_of_getElem? (i := 11) rfl)) rfl)⟩
def B_X1_awaitInt_20 : Blk := (20, .return_, 1) :: []
theorem o_X1_awaitInt_20 : Chn cX1_awaitInt B_X1_awaitInt_20 := chn_of _ (by decide +kernel)
def B_X1_awaitInt_3 : Blk := (3, .iload_n 2, 1) :: (4, .ifCond .lt 16, 3) :: (7, .aload_n 0, 1) :: (8, .iload_n 1, 1) :: (9, .iload_n 2, 1) :: (10, .ishr, 1) :: (11, .invokevirtual 50, 3) :: (14, .iinc 2 (-8), 3) :: (17, .goto (-14), 3) :: []
theorem o_X1_awaitInt_3 : Chn cX1_awaitInt B_X1_awaitInt_3 := chn_of _ (by decide +kernel)
def B_X1_awaitInt_0 : Blk := (0, .bipush 24, 2) :: (2, .istore_n 2, 1) :: B_X1_awaitInt_3
theorem o_X1_awaitInt_0 : Chn cX1_awaitInt B_X1_awaitInt_0 := chn_app ((0, .bipush 24, 2) :: (2, .istore_n 2, 1) :: []) o_X1_awaitInt_3 (by decide +kernel)
theorem ml_1_50 : MLk RX1 50 yX1_await := Or.inl (allW_in (kT_4 _ (List.mem_of_getElem? (i := 43) rfl)) rfl)
abbrev cX1_recordRead : ByteArray := prog_3_method_11_code
def yX1_recordRead : MethodName := ⟨RX1, "recordRead", "([BI)V"⟩
def M_X1_recordRead : MT := (yX1_recordRead, cX1_recordRead, 4, none, RX1, 0)
theorem mk_X1_recordRead : MokV M_X1_recordRead 1 2 := ⟨⟨⟨by decide, by decide, rfl⟩, (allW_in (kT_5 _ (List.mem_of_getElem? (i := 210) rfl)) rfl), (allW_in (kT_1 _ (List.mem_of_getElem? (i := 2) rfl)) rfl), by decide⟩, ⟨TX1, 9, rfl⟩, (allW_in (kT_5 _ (List.mem_of_getElem? (i := 208) rfl)) rfl), (allW_in (kT_5 _ (List.mem_of_getElem? (i := 209) rfl)) rfl)⟩
def B_X1_recordRead_44 : Blk := (44, .return_, 1) :: []
theorem o_X1_recordRead_44 : Chn cX1_recordRead B_X1_recordRead_44 := chn_of _ (by decide +kernel)
def B_X1_recordRead_20 : Blk := (20, .iload_n 3, 1) :: (21, .iload_n 2, 1) :: (22, .if_icmp .ge 22, 3) :: (25, .iload_n 3, 1) :: (26, .aload_n 1, 1) :: (27, .arraylength, 1) :: (28, .if_icmp .ge 16, 3) :: (31, .aload_n 0, 1) :: (32, .aload_n 1, 1) :: (33, .iload_n 3, 1) :: (34, .baload, 1) :: (35, .invokevirtual 50, 3) :: (38, .iinc 3 1, 3) :: (41, .goto (-21), 3) :: []
theorem o_X1_recordRead_20 : Chn cX1_recordRead B_X1_recordRead_20 := chn_of _ (by decide +kernel)
def B_X1_recordRead_0 : Blk := (0, .aload_n 0, 1) :: (1, .iconst 1, 1) :: (2, .invokevirtual 50, 3) :: (5, .aload_n 0, 1) :: (6, .iload_n 2, 1) :: (7, .bipush 8, 2) :: (9, .ishr, 1) :: (10, .invokevirtual 50, 3) :: (13, .aload_n 0, 1) :: (14, .iload_n 2, 1) :: (15, .invokevirtual 50, 3) :: (18, .iconst 0, 1) :: (19, .istore_n 3, 1) :: B_X1_recordRead_20
theorem o_X1_recordRead_0 : Chn cX1_recordRead B_X1_recordRead_0 := chn_app ((0, .aload_n 0, 1) :: (1, .iconst 1, 1) :: (2, .invokevirtual 50, 3) :: (5, .aload_n 0, 1) :: (6, .iload_n 2, 1) :: (7, .bipush 8, 2) :: (9, .ishr, 1) :: (10, .invokevirtual 50, 3) :: (13, .aload_n 0, 1) :: (14, .iload_n 2, 1) :: (15, .invokevirtual 50, 3) :: (18, .iconst 0, 1) :: (19, .istore_n 3, 1) :: []) o_X1_recordRead_20 (by decide +kernel)
abbrev cX1_recordOn : ByteArray := prog_3_method_12_code
def yX1_recordOn : MethodName := ⟨RX1, "recordOn", "(IZ)V"⟩
def M_X1_recordOn : MT := (yX1_recordOn, cX1_recordOn, 3, none, RX1, 0)
theorem mk_X1_recordOn : MokV M_X1_recordOn 1 2 := ⟨⟨⟨by decide, by decide, rfl⟩, (allW_in (kT_5 _ (List.mem_of_getElem? (i := 222) rfl)) rfl), (allW_in (kT_1 _ (List.mem_of_getElem? (i := 2) rfl)) rfl), by decide⟩, ⟨TX1, 9, rfl⟩, (allW_in (kT_5 _ (List.mem_of_getElem? (i := 220) rfl)) rfl), (allW_in (kT_5 _ (List.mem_of_getElem? (i := 221) rfl)) rfl)⟩
def B_X1_recordOn_20 : Blk := (20, .invokevirtual 54, 3) :: (23, .return_, 1) :: []
theorem o_X1_recordOn_20 : Chn cX1_recordOn B_X1_recordOn_20 := chn_of _ (by decide +kernel)
def B_X1_recordOn_19 : Blk := (19, .iconst 0, 1) :: B_X1_recordOn_20
theorem o_X1_recordOn_19 : Chn cX1_recordOn B_X1_recordOn_19 := chn_app ((19, .iconst 0, 1) :: []) o_X1_recordOn_20 (by decide +kernel)
def B_X1_recordOn_0 : Blk := (0, .aload_n 0, 1) :: (1, .iconst 2, 1) :: (2, .invokevirtual 50, 3) :: (5, .aload_n 0, 1) :: (6, .iload_n 1, 1) :: (7, .invokevirtual 54, 3) :: (10, .aload_n 0, 1) :: (11, .iload_n 2, 1) :: (12, .ifCond .eq 7, 3) :: (15, .iconst 1, 1) :: (16, .goto 4, 3) :: []
theorem o_X1_recordOn_0 : Chn cX1_recordOn B_X1_recordOn_0 := chn_of _ (by decide +kernel)
theorem ml_1_54 : MLk RX1 54 yX1_awaitInt := Or.inl (allW_in (kT_5 _ (List.mem_of_getElem? (i := 223) rfl)) rfl)
abbrev cX1_recordAct : ByteArray := prog_3_method_13_code
def yX1_recordAct : MethodName := ⟨RX1, "recordAct", "(I)V"⟩
def M_X1_recordAct : MT := (yX1_recordAct, cX1_recordAct, 2, none, RX1, 0)
theorem mk_X1_recordAct : MokV M_X1_recordAct 1 1 := ⟨⟨⟨by decide, by decide, rfl⟩, (allW_in (kT_5 _ (List.mem_of_getElem? (i := 234) rfl)) rfl), (allW_in (kT_1 _ (List.mem_of_getElem? (i := 2) rfl)) rfl), by decide⟩, ⟨TX1, 9, rfl⟩, (allW_in (kT_5 _ (List.mem_of_getElem? (i := 232) rfl)) rfl), (allW_in (kT_5 _ (List.mem_of_getElem? (i := 233) rfl)) rfl)⟩
def B_X1_recordAct_0 : Blk := (0, .aload_n 0, 1) :: (1, .iload_n 1, 1) :: (2, .invokevirtual 50, 3) :: (5, .return_, 1) :: []
theorem o_X1_recordAct_0 : Chn cX1_recordAct B_X1_recordAct_0 := chn_of _ (by decide +kernel)
abbrev cX1_summed : ByteArray := prog_3_method_16_code
def yX1_summed : MethodName := ⟨RX1, "summed", "(II)I"⟩
def M_X1_summed : MT := (yX1_summed, cX1_summed, 3, (some .int), RX1, 1)
theorem mk_X1_summed : MokS M_X1_summed 2 := ⟨⟨⟨by decide, by decide, rfl⟩, (allW_in (kT_3 _ (List.mem_of_getElem? (i := 238) rfl)) rfl), (allW_in (kT_1 _ (List.mem_of_getElem? (i := 2) rfl)) rfl), by decide⟩, (allW_in (kT_3 _ (List.mem_of_getElem? (i := 237) rfl)) rfl)⟩
def B_X1_summed_0 : Blk := (0, .iload_n 0, 1) :: (1, .iload_n 1, 1) :: (2, .ixor, 1) :: (3, .istore_n 2, 1) :: (4, .iload_n 2, 1) :: (5, .iconst 5, 1) :: (6, .ishl, 1) :: (7, .iload_n 2, 1) :: (8, .bipush 27, 2) :: (10, .iushr, 1) :: (11, .ior, 1) :: (12, .ldc 77, 2) :: (14, .imul, 1) :: (15, .ireturn, 1) :: []
theorem o_X1_summed_0 : Chn cX1_summed B_X1_summed_0 := chn_of _ (by decide +kernel)
abbrev cX1_compose : ByteArray := prog_3_method_15_code
def yX1_compose : MethodName := ⟨RX1, "compose", "(II)V"⟩
def M_X1_compose : MT := (yX1_compose, cX1_compose, 6, none, RX1, 0)
theorem mk_X1_compose : MokV M_X1_compose 1 2 := ⟨⟨⟨by decide, by decide, rfl⟩, (allW_in (kT_3 _ (List.mem_of_getElem? (i := 228) rfl)) rfl), (allW_in (kT_1 _ (List.mem_of_getElem? (i := 2) rfl)) rfl), by decide⟩, ⟨TX1, 9, rfl⟩, (allW_in (kT_3 _ (List.mem_of_getElem? (i := 227) rfl)) rfl), (allW_in (kTs_1 _ (List.mem_of_getElem? (i := 0) rfl)) rfl)⟩
def B_X1_compose_183 : Blk := (183, .return_, 1) :: []
theorem o_X1_compose_183 : Chn cX1_compose B_X1_compose_183 := chn_of _ (by decide +kernel)
def B_X1_compose_148 : Blk := (148, .iload 5, 2) :: (150, .iconst 4, 1) :: (151, .if_icmp .ge 32, 3) :: (154, .aload_n 0, 1) :: (155, .getfield 19, 3) :: (158, .sipush 252, 3) :: (161, .iload 5, 2) :: (163, .iadd, 1) :: (164, .iload 4, 2) :: (166, .bipush 24, 2) :: (168, .bipush 8, 2) :: (170, .iload 5, 2) :: (172, .imul, 1) :: (173, .isub, 1) :: (174, .ishr, 1) :: (175, .i2b, 1) :: (176, .bastore, 1) :: (177, .iinc 5 1, 3) :: (180, .goto (-32), 3) :: []
theorem o_X1_compose_148 : Chn cX1_compose B_X1_compose_148 := chn_of _ (by decide +kernel)
def B_X1_compose_145 : Blk := (145, .iconst 0, 1) :: (146, .istore 5, 2) :: B_X1_compose_148
theorem o_X1_compose_145 : Chn cX1_compose B_X1_compose_145 := chn_app ((145, .iconst 0, 1) :: (146, .istore 5, 2) :: []) o_X1_compose_148 (by decide +kernel)
def B_X1_compose_113 : Blk := (113, .iload 5, 2) :: (115, .sipush 252, 3) :: (118, .if_icmp .ge 27, 3) :: (121, .iload 4, 2) :: (123, .aload_n 0, 1) :: (124, .getfield 19, 3) :: (127, .iload 5, 2) :: (129, .baload, 1) :: (130, .sipush 255, 3) :: (133, .iand, 1) :: (134, .invokestatic 74, 3) :: (137, .istore 4, 2) :: (139, .iinc 5 1, 3) :: (142, .goto (-29), 3) :: []
theorem o_X1_compose_113 : Chn cX1_compose B_X1_compose_113 := chn_of _ (by decide +kernel)
def B_X1_compose_107 : Blk := (107, .iconst 0, 1) :: (108, .istore 4, 2) :: (110, .iconst 0, 1) :: (111, .istore 5, 2) :: B_X1_compose_113
theorem o_X1_compose_107 : Chn cX1_compose B_X1_compose_107 := chn_app ((107, .iconst 0, 1) :: (108, .istore 4, 2) :: (110, .iconst 0, 1) :: (111, .istore 5, 2) :: []) o_X1_compose_113 (by decide +kernel)
def B_X1_compose_99 : Blk := (99, .i2b, 1) :: (100, .bastore, 1) :: (101, .iinc 4 1, 3) :: (104, .goto (-39), 3) :: []
theorem o_X1_compose_99 : Chn cX1_compose B_X1_compose_99 := chn_of _ (by decide +kernel)
def B_X1_compose_98 : Blk := (98, .iconst 0, 1) :: B_X1_compose_99
theorem o_X1_compose_98 : Chn cX1_compose B_X1_compose_98 := chn_app ((98, .iconst 0, 1) :: []) o_X1_compose_99 (by decide +kernel)
def B_X1_compose_65 : Blk := (65, .iload 4, 2) :: (67, .sipush 248, 3) :: (70, .if_icmp .ge 37, 3) :: (73, .aload_n 0, 1) :: (74, .getfield 19, 3) :: (77, .iconst 4, 1) :: (78, .iload 4, 2) :: (80, .iadd, 1) :: (81, .iload 4, 2) :: (83, .iload_n 3, 1) :: (84, .if_icmp .ge 14, 3) :: (87, .aload_n 0, 1) :: (88, .iload_n 2, 1) :: (89, .iload 4, 2) :: (91, .iadd, 1) :: (92, .invokevirtual 46, 3) :: (95, .goto 4, 3) :: []
theorem o_X1_compose_65 : Chn cX1_compose B_X1_compose_65 := chn_of _ (by decide +kernel)
def B_X1_compose_52 : Blk := (52, .i2b, 1) :: (53, .bastore, 1) :: (54, .aload_n 0, 1) :: (55, .getfield 19, 3) :: (58, .iconst 3, 1) :: (59, .iload_n 3, 1) :: (60, .i2b, 1) :: (61, .bastore, 1) :: (62, .iconst 0, 1) :: (63, .istore 4, 2) :: B_X1_compose_65
theorem o_X1_compose_52 : Chn cX1_compose B_X1_compose_52 := chn_app ((52, .i2b, 1) :: (53, .bastore, 1) :: (54, .aload_n 0, 1) :: (55, .getfield 19, 3) :: (58, .iconst 3, 1) :: (59, .iload_n 3, 1) :: (60, .i2b, 1) :: (61, .bastore, 1) :: (62, .iconst 0, 1) :: (63, .istore 4, 2) :: []) o_X1_compose_65 (by decide +kernel)
def B_X1_compose_51 : Blk := (51, .iconst 0, 1) :: B_X1_compose_52
theorem o_X1_compose_51 : Chn cX1_compose B_X1_compose_51 := chn_app ((51, .iconst 0, 1) :: []) o_X1_compose_52 (by decide +kernel)
def B_X1_compose_0 : Blk := (0, .sipush 248, 3) :: (3, .aload_n 0, 1) :: (4, .getfield 40, 3) :: (7, .iload_n 2, 1) :: (8, .isub, 1) :: (9, .invokestatic 69, 3) :: (12, .istore_n 3, 1) :: (13, .aload_n 0, 1) :: (14, .getfield 19, 3) :: (17, .iconst 0, 1) :: (18, .iload_n 1, 1) :: (19, .bipush 8, 2) :: (21, .ishr, 1) :: (22, .i2b, 1) :: (23, .bastore, 1) :: (24, .aload_n 0, 1) :: (25, .getfield 19, 3) :: (28, .iconst 1, 1) :: (29, .iload_n 1, 1) :: (30, .i2b, 1) :: (31, .bastore, 1) :: (32, .aload_n 0, 1) :: (33, .getfield 19, 3) :: (36, .iconst 2, 1) :: (37, .iload_n 2, 1) :: (38, .iload_n 3, 1) :: (39, .iadd, 1) :: (40, .aload_n 0, 1) :: (41, .getfield 40, 3) :: (44, .if_icmp .lt 7, 3) :: (47, .iconst 1, 1) :: (48, .goto 4, 3) :: []
theorem o_X1_compose_0 : Chn cX1_compose B_X1_compose_0 := chn_of _ (by decide +kernel)
theorem fl_1_19 : FLk RX1 19 1 2 3 true := ⟨RX1, TX1, 9, "IntegerHouse$Disk", "image", "[B", rfl, by decide, rfl, Or.inl (allW_in (kT_1 _ (List.mem_of_getElem? (i := 44) rfl)) rfl), rfl, (fun h => absurd h (by decide)), (fun h => absurd h (by decide)), (fun h => absurd h (by decide)), (fun h => absurd h (by decide))⟩
theorem ml_1_74 : MLk RX1 74 yX1_summed := Or.inl (allW_in (kT_3 _ (List.mem_of_getElem? (i := 236) rfl)) rfl)
abbrev cX1_write : ByteArray := prog_3_method_17_code
def yX1_write : MethodName := ⟨RX1, "write", "(I)Z"⟩
def M_X1_write : MT := (yX1_write, cX1_write, 5, (some .boolean), RX1, 1)
theorem mk_X1_write : MokV M_X1_write 1 1 := ⟨⟨⟨by decide, by decide, rfl⟩, (allW_in (kT_4 _ (List.mem_of_getElem? (i := 3) rfl)) rfl), (allW_in (kT_1 _ (List.mem_of_getElem? (i := 2) rfl)) rfl), by decide⟩, ⟨TX1, 9, rfl⟩, (allW_in (kT_4 _ (List.mem_of_getElem? (i := 2) rfl)) rfl), (allW_in (kTs_1 _ (List.mem_of_getElem? (i := 1) rfl)) rfl)⟩
def B_X1_write_118 : Blk := (118, .ireturn, 1) :: []
theorem o_X1_write_118 : Chn cX1_write B_X1_write_118 := chn_of _ (by decide +kernel)
def B_X1_write_117 : Blk := (117, .iconst 0, 1) :: B_X1_write_118
theorem o_X1_write_117 : Chn cX1_write B_X1_write_117 := chn_app ((117, .iconst 0, 1) :: []) o_X1_write_118 (by decide +kernel)
def B_X1_write_109 : Blk := (109, .iload_n 2, 1) :: (110, .ifCond .ne 7, 3) :: (113, .iconst 1, 1) :: (114, .goto 4, 3) :: []
theorem o_X1_write_109 : Chn cX1_write B_X1_write_109 := chn_of _ (by decide +kernel)
def B_X1_write_91 : Blk := (91, .iload_n 1, 1) :: (92, .iconst 1, 1) :: (93, .if_icmp .lt 16, 3) :: (96, .iload_n 1, 1) :: (97, .bipush 100, 2) :: (99, .if_icmp .gt 10, 3) :: (102, .aload_n 0, 1) :: (103, .getfield 15, 3) :: (106, .iload_n 1, 1) :: (107, .iload_n 2, 1) :: (108, .bastore, 1) :: B_X1_write_109
theorem o_X1_write_91 : Chn cX1_write B_X1_write_91 := chn_app ((91, .iload_n 1, 1) :: (92, .iconst 1, 1) :: (93, .if_icmp .lt 16, 3) :: (96, .iload_n 1, 1) :: (97, .bipush 100, 2) :: (99, .if_icmp .gt 10, 3) :: (102, .aload_n 0, 1) :: (103, .getfield 15, 3) :: (106, .iload_n 1, 1) :: (107, .iload_n 2, 1) :: (108, .bastore, 1) :: []) o_X1_write_109 (by decide +kernel)
def B_X1_write_48 : Blk := (48, .iload 4, 2) :: (50, .iload_n 3, 1) :: (51, .if_icmp .ge 40, 3) :: (54, .iload_n 1, 1) :: (55, .iload 4, 2) :: (57, .invokestatic 29, 3) :: (60, .ifCond .eq 31, 3) :: (63, .aload_n 0, 1) :: (64, .getfield 11, 3) :: (67, .iload_n 1, 1) :: (68, .iconst 1, 1) :: (69, .isub, 1) :: (70, .sipush 256, 3) :: (73, .imul, 1) :: (74, .iload 4, 2) :: (76, .iadd, 1) :: (77, .aload_n 0, 1) :: (78, .getfield 19, 3) :: (81, .iload 4, 2) :: (83, .baload, 1) :: (84, .bastore, 1) :: (85, .iinc 4 1, 3) :: (88, .goto (-40), 3) :: []
theorem o_X1_write_48 : Chn cX1_write B_X1_write_48 := chn_of _ (by decide +kernel)
def B_X1_write_44 : Blk := (44, .istore_n 3, 1) :: (45, .iconst 0, 1) :: (46, .istore 4, 2) :: B_X1_write_48
theorem o_X1_write_44 : Chn cX1_write B_X1_write_44 := chn_app ((44, .istore_n 3, 1) :: (45, .iconst 0, 1) :: (46, .istore 4, 2) :: []) o_X1_write_48 (by decide +kernel)
def B_X1_write_41 : Blk := (41, .sipush 256, 3) :: B_X1_write_44
theorem o_X1_write_41 : Chn cX1_write B_X1_write_41 := chn_app ((41, .sipush 256, 3) :: []) o_X1_write_44 (by decide +kernel)
def B_X1_write_30 : Blk := (30, .iload_n 2, 1) :: (31, .ifCond .eq 10, 3) :: (34, .aload_n 0, 1) :: (35, .getfield 37, 3) :: (38, .goto 6, 3) :: []
theorem o_X1_write_30 : Chn cX1_write B_X1_write_30 := chn_of _ (by decide +kernel)
def B_X1_write_12 : Blk := (12, .istore_n 2, 1) :: (13, .aload_n 0, 1) :: (14, .getfield 25, 3) :: (17, .ifCond .lt 13, 3) :: (20, .aload_n 0, 1) :: (21, .dup, 1) :: (22, .getfield 25, 3) :: (25, .iconst 1, 1) :: (26, .isub, 1) :: (27, .putfield 25, 3) :: B_X1_write_30
theorem o_X1_write_12 : Chn cX1_write B_X1_write_12 := chn_app ((12, .istore_n 2, 1) :: (13, .aload_n 0, 1) :: (14, .getfield 25, 3) :: (17, .ifCond .lt 13, 3) :: (20, .aload_n 0, 1) :: (21, .dup, 1) :: (22, .getfield 25, 3) :: (25, .iconst 1, 1) :: (26, .isub, 1) :: (27, .putfield 25, 3) :: []) o_X1_write_30 (by decide +kernel)
def B_X1_write_11 : Blk := (11, .iconst 0, 1) :: B_X1_write_12
theorem o_X1_write_11 : Chn cX1_write B_X1_write_11 := chn_app ((11, .iconst 0, 1) :: []) o_X1_write_12 (by decide +kernel)
def B_X1_write_0 : Blk := (0, .aload_n 0, 1) :: (1, .getfield 25, 3) :: (4, .ifCond .ne 7, 3) :: (7, .iconst 1, 1) :: (8, .goto 4, 3) :: []
theorem o_X1_write_0 : Chn cX1_write B_X1_write_0 := chn_of _ (by decide +kernel)
theorem fl_1_15 : FLk RX1 15 1 1 3 true := ⟨RX1, TX1, 9, "IntegerHouse$Disk", "torn", "[Z", rfl, by decide, rfl, Or.inl (allW_in (kT_1 _ (List.mem_of_getElem? (i := 43) rfl)) rfl), rfl, (fun h => absurd h (by decide)), (fun h => absurd h (by decide)), (fun h => absurd h (by decide)), (fun h => absurd h (by decide))⟩
abbrev cX1_writeAll : ByteArray := prog_3_method_14_code
def yX1_writeAll : MethodName := ⟨RX1, "writeAll", "()I"⟩
def M_X1_writeAll : MT := (yX1_writeAll, cX1_writeAll, 3, (some .int), RX1, 1)
theorem mk_X1_writeAll : MokV M_X1_writeAll 1 0 := ⟨⟨⟨by decide, by decide, rfl⟩, (allW_in (kT_3 _ (List.mem_of_getElem? (i := 224) rfl)) rfl), (allW_in (kT_1 _ (List.mem_of_getElem? (i := 2) rfl)) rfl), by decide⟩, ⟨TX1, 9, rfl⟩, (allW_in (kT_3 _ (List.mem_of_getElem? (i := 222) rfl)) rfl), (allW_in (kT_3 _ (List.mem_of_getElem? (i := 223) rfl)) rfl)⟩
def B_X1_writeAll_68 : Blk := (68, .aload_n 0, 1) :: (69, .dup, 1) :: (70, .getfield 43, 3) :: (73, .iload_n 1, 1) :: (74, .iadd, 1) :: (75, .putfield 43, 3) :: (78, .aload_n 0, 1) :: (79, .iconst 0, 1) :: (80, .putfield 40, 3) :: (83, .iload_n 1, 1) :: (84, .ireturn, 1) :: []
theorem o_X1_writeAll_68 : Chn cX1_writeAll B_X1_writeAll_68 := chn_of _ (by decide +kernel)
def B_X1_writeAll_62 : Blk := (62, .iinc 2 1, 3) :: (65, .goto (-48), 3) :: []
theorem o_X1_writeAll_62 : Chn cX1_writeAll B_X1_writeAll_62 := chn_of _ (by decide +kernel)
def B_X1_writeAll_17 : Blk := (17, .iload_n 2, 1) :: (18, .iload_n 1, 1) :: (19, .if_icmp .ge 49, 3) :: (22, .aload_n 0, 1) :: (23, .aload_n 0, 1) :: (24, .getfield 43, 3) :: (27, .iconst 1, 1) :: (28, .iadd, 1) :: (29, .iload_n 2, 1) :: (30, .iadd, 1) :: (31, .iload_n 2, 1) :: (32, .sipush 248, 3) :: (35, .imul, 1) :: (36, .invokevirtual 57, 3) :: (39, .aload_n 0, 1) :: (40, .aload_n 0, 1) :: (41, .getfield 43, 3) :: (44, .iconst 1, 1) :: (45, .iadd, 1) :: (46, .iload_n 2, 1) :: (47, .iadd, 1) :: (48, .invokevirtual 61, 3) :: (51, .ifCond .ne 11, 3) :: (54, .aload_n 0, 1) :: (55, .iconst 1, 1) :: (56, .putfield 65, 3) :: (59, .bipush (-106), 2) :: (61, .ireturn, 1) :: []
theorem o_X1_writeAll_17 : Chn cX1_writeAll B_X1_writeAll_17 := chn_of _ (by decide +kernel)
def B_X1_writeAll_0 : Blk := (0, .aload_n 0, 1) :: (1, .getfield 40, 3) :: (4, .sipush 248, 3) :: (7, .iadd, 1) :: (8, .iconst 1, 1) :: (9, .isub, 1) :: (10, .sipush 248, 3) :: (13, .idiv, 1) :: (14, .istore_n 1, 1) :: (15, .iconst 0, 1) :: (16, .istore_n 2, 1) :: B_X1_writeAll_17
theorem o_X1_writeAll_0 : Chn cX1_writeAll B_X1_writeAll_0 := chn_app ((0, .aload_n 0, 1) :: (1, .getfield 40, 3) :: (4, .sipush 248, 3) :: (7, .iadd, 1) :: (8, .iconst 1, 1) :: (9, .isub, 1) :: (10, .sipush 248, 3) :: (13, .idiv, 1) :: (14, .istore_n 1, 1) :: (15, .iconst 0, 1) :: (16, .istore_n 2, 1) :: []) o_X1_writeAll_17 (by decide +kernel)
theorem ml_1_57 : MLk RX1 57 yX1_compose := Or.inl (allW_in (kT_3 _ (List.mem_of_getElem? (i := 225) rfl)) rfl)
theorem ml_1_61 : MLk RX1 61 yX1_write := Or.inl (allW_in (kT_4 _ (List.mem_of_getElem? (i := 0) rfl)) rfl)
theorem fl_1_65 : FLk RX1 65 1 8 1 false := ⟨RX1, TX1, 9, "IntegerHouse$Disk", "down", "Z", rfl, by decide, rfl, Or.inl (allW_in (kT_1 _ (List.mem_of_getElem? (i := 54) rfl)) rfl), rfl, (fun h => absurd h (by decide)), (fun _ => rfl), (fun h => absurd h (by decide)), (fun h => absurd h (by decide))⟩
abbrev cX1_isRight : ByteArray := prog_3_method_18_code
def yX1_isRight : MethodName := ⟨RX1, "isRight", "(I)Z"⟩
def M_X1_isRight : MT := (yX1_isRight, cX1_isRight, 8, (some .boolean), RX1, 1)
theorem mk_X1_isRight : MokV M_X1_isRight 1 1 := ⟨⟨⟨by decide, by decide, rfl⟩, (allW_in (kT_4 _ (List.mem_of_getElem? (i := 34) rfl)) rfl), (allW_in (kT_1 _ (List.mem_of_getElem? (i := 2) rfl)) rfl), by decide⟩, ⟨TX1, 9, rfl⟩, (allW_in (kT_4 _ (List.mem_of_getElem? (i := 33) rfl)) rfl), (allW_in (kTs_1 _ (List.mem_of_getElem? (i := 2) rfl)) rfl)⟩
def B_X1_isRight_189 : Blk := (189, .ireturn, 1) :: []
theorem o_X1_isRight_189 : Chn cX1_isRight B_X1_isRight_189 := chn_of _ (by decide +kernel)
def B_X1_isRight_188 : Blk := (188, .iconst 0, 1) :: B_X1_isRight_189
theorem o_X1_isRight_188 : Chn cX1_isRight B_X1_isRight_188 := chn_app ((188, .iconst 0, 1) :: []) o_X1_isRight_189 (by decide +kernel)
def B_X1_isRight_177 : Blk := (177, .iload 6, 2) :: (179, .iload 5, 2) :: (181, .if_icmp .ne 7, 3) :: (184, .iconst 1, 1) :: (185, .goto 4, 3) :: []
theorem o_X1_isRight_177 : Chn cX1_isRight B_X1_isRight_177 := chn_of _ (by decide +kernel)
def B_X1_isRight_148 : Blk := (148, .iload 7, 2) :: (150, .sipush 256, 3) :: (153, .if_icmp .ge 24, 3) :: (156, .iload 6, 2) :: (158, .bipush 8, 2) :: (160, .ishl, 1) :: (161, .aload_n 0, 1) :: (162, .iload_n 1, 1) :: (163, .iload 7, 2) :: (165, .invokevirtual 33, 3) :: (168, .ior, 1) :: (169, .istore 6, 2) :: (171, .iinc 7 1, 3) :: (174, .goto (-26), 3) :: []
theorem o_X1_isRight_148 : Chn cX1_isRight B_X1_isRight_148 := chn_of _ (by decide +kernel)
def B_X1_isRight_140 : Blk := (140, .iconst 0, 1) :: (141, .istore 6, 2) :: (143, .sipush 252, 3) :: (146, .istore 7, 2) :: B_X1_isRight_148
theorem o_X1_isRight_140 : Chn cX1_isRight B_X1_isRight_140 := chn_app ((140, .iconst 0, 1) :: (141, .istore 6, 2) :: (143, .sipush 252, 3) :: (146, .istore 7, 2) :: []) o_X1_isRight_148 (by decide +kernel)
def B_X1_isRight_112 : Blk := (112, .iload 6, 2) :: (114, .sipush 252, 3) :: (117, .if_icmp .ge 23, 3) :: (120, .iload 5, 2) :: (122, .aload_n 0, 1) :: (123, .iload_n 1, 1) :: (124, .iload 6, 2) :: (126, .invokevirtual 33, 3) :: (129, .invokestatic 74, 3) :: (132, .istore 5, 2) :: (134, .iinc 6 1, 3) :: (137, .goto (-25), 3) :: []
theorem o_X1_isRight_112 : Chn cX1_isRight B_X1_isRight_112 := chn_of _ (by decide +kernel)
def B_X1_isRight_106 : Blk := (106, .iconst 0, 1) :: (107, .istore 5, 2) :: (109, .iconst 0, 1) :: (110, .istore 6, 2) :: B_X1_isRight_112
theorem o_X1_isRight_106 : Chn cX1_isRight B_X1_isRight_106 := chn_app ((106, .iconst 0, 1) :: (107, .istore 5, 2) :: (109, .iconst 0, 1) :: (110, .istore 6, 2) :: []) o_X1_isRight_112 (by decide +kernel)
def B_X1_isRight_104 : Blk := (104, .iconst 0, 1) :: (105, .ireturn, 1) :: []
theorem o_X1_isRight_104 : Chn cX1_isRight B_X1_isRight_104 := chn_of _ (by decide +kernel)
def B_X1_isRight_77 : Blk := (77, .istore 4, 2) :: (79, .iload 4, 2) :: (81, .ifCond .eq 23, 3) :: (84, .aload_n 0, 1) :: (85, .iload_n 1, 1) :: (86, .iconst 0, 1) :: (87, .invokevirtual 33, 3) :: (90, .bipush 8, 2) :: (92, .ishl, 1) :: (93, .aload_n 0, 1) :: (94, .iload_n 1, 1) :: (95, .iconst 1, 1) :: (96, .invokevirtual 33, 3) :: (99, .ior, 1) :: (100, .iload_n 1, 1) :: (101, .if_icmp .eq 5, 3) :: B_X1_isRight_104
theorem o_X1_isRight_77 : Chn cX1_isRight B_X1_isRight_77 := chn_app ((77, .istore 4, 2) :: (79, .iload 4, 2) :: (81, .ifCond .eq 23, 3) :: (84, .aload_n 0, 1) :: (85, .iload_n 1, 1) :: (86, .iconst 0, 1) :: (87, .invokevirtual 33, 3) :: (90, .bipush 8, 2) :: (92, .ishl, 1) :: (93, .aload_n 0, 1) :: (94, .iload_n 1, 1) :: (95, .iconst 1, 1) :: (96, .invokevirtual 33, 3) :: (99, .ior, 1) :: (100, .iload_n 1, 1) :: (101, .if_icmp .eq 5, 3) :: []) o_X1_isRight_104 (by decide +kernel)
def B_X1_isRight_76 : Blk := (76, .iconst 0, 1) :: B_X1_isRight_77
theorem o_X1_isRight_76 : Chn cX1_isRight B_X1_isRight_76 := chn_app ((76, .iconst 0, 1) :: []) o_X1_isRight_77 (by decide +kernel)
def B_X1_isRight_55 : Blk := (55, .iload_n 2, 1) :: (56, .iconst 1, 1) :: (57, .if_icmp .ne 19, 3) :: (60, .iload_n 3, 1) :: (61, .iconst 1, 1) :: (62, .if_icmp .lt 14, 3) :: (65, .iload_n 3, 1) :: (66, .sipush 248, 3) :: (69, .if_icmp .gt 7, 3) :: (72, .iconst 1, 1) :: (73, .goto 4, 3) :: []
theorem o_X1_isRight_55 : Chn cX1_isRight B_X1_isRight_55 := chn_of _ (by decide +kernel)
def B_X1_isRight_51 : Blk := (51, .iconst 0, 1) :: (52, .goto 25, 3) :: []
theorem o_X1_isRight_51 : Chn cX1_isRight B_X1_isRight_51 := chn_of _ (by decide +kernel)
def B_X1_isRight_22 : Blk := (22, .aload_n 0, 1) :: (23, .iload_n 1, 1) :: (24, .iconst 2, 1) :: (25, .invokevirtual 33, 3) :: (28, .istore_n 2, 1) :: (29, .aload_n 0, 1) :: (30, .iload_n 1, 1) :: (31, .iconst 3, 1) :: (32, .invokevirtual 33, 3) :: (35, .istore_n 3, 1) :: (36, .iload_n 2, 1) :: (37, .ifCond .ne 18, 3) :: (40, .iload_n 3, 1) :: (41, .sipush 248, 3) :: (44, .if_icmp .ne 7, 3) :: (47, .iconst 1, 1) :: (48, .goto 29, 3) :: []
theorem o_X1_isRight_22 : Chn cX1_isRight B_X1_isRight_22 := chn_of _ (by decide +kernel)
def B_X1_isRight_20 : Blk := (20, .iconst 0, 1) :: (21, .ireturn, 1) :: []
theorem o_X1_isRight_20 : Chn cX1_isRight B_X1_isRight_20 := chn_of _ (by decide +kernel)
def B_X1_isRight_0 : Blk := (0, .iload_n 1, 1) :: (1, .iconst 1, 1) :: (2, .if_icmp .lt 18, 3) :: (5, .iload_n 1, 1) :: (6, .bipush 100, 2) :: (8, .if_icmp .gt 12, 3) :: (11, .aload_n 0, 1) :: (12, .getfield 15, 3) :: (15, .iload_n 1, 1) :: (16, .baload, 1) :: (17, .ifCond .eq 5, 3) :: B_X1_isRight_20
theorem o_X1_isRight_0 : Chn cX1_isRight B_X1_isRight_0 := chn_app ((0, .iload_n 1, 1) :: (1, .iconst 1, 1) :: (2, .if_icmp .lt 18, 3) :: (5, .iload_n 1, 1) :: (6, .bipush 100, 2) :: (8, .if_icmp .gt 12, 3) :: (11, .aload_n 0, 1) :: (12, .getfield 15, 3) :: (15, .iload_n 1, 1) :: (16, .baload, 1) :: (17, .ifCond .eq 5, 3) :: []) o_X1_isRight_20 (by decide +kernel)
abbrev cX1_firstWrong : ByteArray := prog_3_method_19_code
def yX1_firstWrong : MethodName := ⟨RX1, "firstWrong", "()I"⟩
def M_X1_firstWrong : MT := (yX1_firstWrong, cX1_firstWrong, 2, (some .int), RX1, 1)
theorem mk_X1_firstWrong : MokV M_X1_firstWrong 1 0 := ⟨⟨⟨by decide, by decide, rfl⟩, (allW_in (kT_5 _ (List.mem_of_getElem? (i := 179) rfl)) rfl), (allW_in (kT_1 _ (List.mem_of_getElem? (i := 2) rfl)) rfl), by decide⟩, ⟨TX1, 9, rfl⟩, (allW_in (kT_5 _ (List.mem_of_getElem? (i := 177) rfl)) rfl), (allW_in (kT_5 _ (List.mem_of_getElem? (i := 178) rfl)) rfl)⟩
def B_X1_firstWrong_26 : Blk := (26, .iconst (-1), 1) :: (27, .ireturn, 1) :: []
theorem o_X1_firstWrong_26 : Chn cX1_firstWrong B_X1_firstWrong_26 := chn_of _ (by decide +kernel)
def B_X1_firstWrong_20 : Blk := (20, .iinc 1 1, 3) :: (23, .goto (-21), 3) :: []
theorem o_X1_firstWrong_20 : Chn cX1_firstWrong B_X1_firstWrong_20 := chn_of _ (by decide +kernel)
def B_X1_firstWrong_2 : Blk := (2, .iload_n 1, 1) :: (3, .aload_n 0, 1) :: (4, .getfield 43, 3) :: (7, .if_icmp .gt 19, 3) :: (10, .aload_n 0, 1) :: (11, .iload_n 1, 1) :: (12, .invokevirtual 78, 3) :: (15, .ifCond .ne 5, 3) :: (18, .iload_n 1, 1) :: (19, .ireturn, 1) :: []
theorem o_X1_firstWrong_2 : Chn cX1_firstWrong B_X1_firstWrong_2 := chn_of _ (by decide +kernel)
def B_X1_firstWrong_0 : Blk := (0, .iconst 1, 1) :: (1, .istore_n 1, 1) :: B_X1_firstWrong_2
theorem o_X1_firstWrong_0 : Chn cX1_firstWrong B_X1_firstWrong_0 := chn_app ((0, .iconst 1, 1) :: (1, .istore_n 1, 1) :: []) o_X1_firstWrong_2 (by decide +kernel)
theorem ml_1_78 : MLk RX1 78 yX1_isRight := Or.inl (allW_in (kT_4 _ (List.mem_of_getElem? (i := 31) rfl)) rfl)
abbrev cX1_findUsed : ByteArray := prog_3_method_20_code
def yX1_findUsed : MethodName := ⟨RX1, "findUsed", "()I"⟩
def M_X1_findUsed : MT := (yX1_findUsed, cX1_findUsed, 3, (some .int), RX1, 1)
theorem mk_X1_findUsed : MokV M_X1_findUsed 1 0 := ⟨⟨⟨by decide, by decide, rfl⟩, (allW_in (kT_4 _ (List.mem_of_getElem? (i := 30) rfl)) rfl), (allW_in (kT_1 _ (List.mem_of_getElem? (i := 2) rfl)) rfl), by decide⟩, ⟨TX1, 9, rfl⟩, (allW_in (kT_4 _ (List.mem_of_getElem? (i := 28) rfl)) rfl), (allW_in (kT_4 _ (List.mem_of_getElem? (i := 29) rfl)) rfl)⟩
def B_X1_findUsed_36 : Blk := (36, .iload_n 1, 1) :: (37, .ireturn, 1) :: []
theorem o_X1_findUsed_36 : Chn cX1_findUsed B_X1_findUsed_36 := chn_of _ (by decide +kernel)
def B_X1_findUsed_30 : Blk := (30, .iinc 2 1, 3) :: (33, .goto (-29), 3) :: []
theorem o_X1_findUsed_30 : Chn cX1_findUsed B_X1_findUsed_30 := chn_of _ (by decide +kernel)
def B_X1_findUsed_4 : Blk := (4, .iload_n 2, 1) :: (5, .bipush 100, 2) :: (7, .if_icmp .gt 29, 3) :: (10, .aload_n 0, 1) :: (11, .iload_n 2, 1) :: (12, .invokevirtual 78, 3) :: (15, .ifCond .eq 21, 3) :: (18, .aload_n 0, 1) :: (19, .iload_n 2, 1) :: (20, .iconst 2, 1) :: (21, .invokevirtual 33, 3) :: (24, .iconst 1, 1) :: (25, .if_icmp .ne 5, 3) :: (28, .iload_n 2, 1) :: (29, .istore_n 1, 1) :: B_X1_findUsed_30
theorem o_X1_findUsed_4 : Chn cX1_findUsed B_X1_findUsed_4 := chn_app ((4, .iload_n 2, 1) :: (5, .bipush 100, 2) :: (7, .if_icmp .gt 29, 3) :: (10, .aload_n 0, 1) :: (11, .iload_n 2, 1) :: (12, .invokevirtual 78, 3) :: (15, .ifCond .eq 21, 3) :: (18, .aload_n 0, 1) :: (19, .iload_n 2, 1) :: (20, .iconst 2, 1) :: (21, .invokevirtual 33, 3) :: (24, .iconst 1, 1) :: (25, .if_icmp .ne 5, 3) :: (28, .iload_n 2, 1) :: (29, .istore_n 1, 1) :: []) o_X1_findUsed_30 (by decide +kernel)
def B_X1_findUsed_0 : Blk := (0, .iconst 0, 1) :: (1, .istore_n 1, 1) :: (2, .iconst 1, 1) :: (3, .istore_n 2, 1) :: B_X1_findUsed_4
theorem o_X1_findUsed_0 : Chn cX1_findUsed B_X1_findUsed_0 := chn_app ((0, .iconst 0, 1) :: (1, .istore_n 1, 1) :: (2, .iconst 1, 1) :: (3, .istore_n 2, 1) :: []) o_X1_findUsed_4 (by decide +kernel)
abbrev cX1_loadSync : ByteArray := prog_3_method_21_code
def yX1_loadSync : MethodName := ⟨RX1, "loadSync", "(I)I"⟩
def M_X1_loadSync : MT := (yX1_loadSync, cX1_loadSync, 7, (some .int), RX1, 1)
theorem mk_X1_loadSync : MokV M_X1_loadSync 1 1 := ⟨⟨⟨by decide, by decide, rfl⟩, (allW_in (kT_4 _ (List.mem_of_getElem? (i := 42) rfl)) rfl), (allW_in (kT_1 _ (List.mem_of_getElem? (i := 2) rfl)) rfl), by decide⟩, ⟨TX1, 9, rfl⟩, (allW_in (kT_4 _ (List.mem_of_getElem? (i := 40) rfl)) rfl), (allW_in (kT_4 _ (List.mem_of_getElem? (i := 41) rfl)) rfl)⟩
def B_X1_loadSync_84 : Blk := (84, .iload_n 2, 1) :: (85, .ireturn, 1) :: []
theorem o_X1_loadSync_84 : Chn cX1_loadSync B_X1_loadSync_84 := chn_of _ (by decide +kernel)
def B_X1_loadSync_74 : Blk := (74, .istore_n 3, 1) :: (75, .iinc 2 1, 3) :: (78, .iinc 4 1, 3) :: (81, .goto (-69), 3) :: []
theorem o_X1_loadSync_74 : Chn cX1_loadSync B_X1_loadSync_74 := chn_of _ (by decide +kernel)
def B_X1_loadSync_73 : Blk := (73, .iconst 0, 1) :: B_X1_loadSync_74
theorem o_X1_loadSync_73 : Chn cX1_loadSync B_X1_loadSync_73 := chn_app ((73, .iconst 0, 1) :: []) o_X1_loadSync_74 (by decide +kernel)
def B_X1_loadSync_60 : Blk := (60, .aload_n 0, 1) :: (61, .iload_n 2, 1) :: (62, .iconst 2, 1) :: (63, .invokevirtual 33, 3) :: (66, .ifCond .ne 7, 3) :: (69, .iconst 1, 1) :: (70, .goto 4, 3) :: []
theorem o_X1_loadSync_60 : Chn cX1_loadSync B_X1_loadSync_60 := chn_of _ (by decide +kernel)
def B_X1_loadSync_34 : Blk := (34, .iload 6, 2) :: (36, .iload 5, 2) :: (38, .if_icmp .ge 22, 3) :: (41, .aload_n 0, 1) :: (42, .aload_n 0, 1) :: (43, .iload_n 2, 1) :: (44, .iconst 4, 1) :: (45, .iload 6, 2) :: (47, .iadd, 1) :: (48, .invokevirtual 33, 3) :: (51, .invokevirtual 50, 3) :: (54, .iinc 6 1, 3) :: (57, .goto (-23), 3) :: []
theorem o_X1_loadSync_34 : Chn cX1_loadSync B_X1_loadSync_34 := chn_of _ (by decide +kernel)
def B_X1_loadSync_12 : Blk := (12, .iload 4, 2) :: (14, .bipush 100, 2) :: (16, .if_icmp .ge 68, 3) :: (19, .iload_n 3, 1) :: (20, .ifCond .eq 64, 3) :: (23, .aload_n 0, 1) :: (24, .iload_n 2, 1) :: (25, .iconst 3, 1) :: (26, .invokevirtual 33, 3) :: (29, .istore 5, 2) :: (31, .iconst 0, 1) :: (32, .istore 6, 2) :: B_X1_loadSync_34
theorem o_X1_loadSync_12 : Chn cX1_loadSync B_X1_loadSync_12 := chn_app ((12, .iload 4, 2) :: (14, .bipush 100, 2) :: (16, .if_icmp .ge 68, 3) :: (19, .iload_n 3, 1) :: (20, .ifCond .eq 64, 3) :: (23, .aload_n 0, 1) :: (24, .iload_n 2, 1) :: (25, .iconst 3, 1) :: (26, .invokevirtual 33, 3) :: (29, .istore 5, 2) :: (31, .iconst 0, 1) :: (32, .istore 6, 2) :: []) o_X1_loadSync_34 (by decide +kernel)
def B_X1_loadSync_0 : Blk := (0, .aload_n 0, 1) :: (1, .iconst 0, 1) :: (2, .putfield 40, 3) :: (5, .iload_n 1, 1) :: (6, .istore_n 2, 1) :: (7, .iconst 1, 1) :: (8, .istore_n 3, 1) :: (9, .iconst 0, 1) :: (10, .istore 4, 2) :: B_X1_loadSync_12
theorem o_X1_loadSync_0 : Chn cX1_loadSync B_X1_loadSync_0 := chn_app ((0, .aload_n 0, 1) :: (1, .iconst 0, 1) :: (2, .putfield 40, 3) :: (5, .iload_n 1, 1) :: (6, .istore_n 2, 1) :: (7, .iconst 1, 1) :: (8, .istore_n 3, 1) :: (9, .iconst 0, 1) :: (10, .istore 4, 2) :: []) o_X1_loadSync_12 (by decide +kernel)
abbrev cX1_recordSize : ByteArray := prog_3_method_22_code
def yX1_recordSize : MethodName := ⟨RX1, "recordSize", "(I)I"⟩
def M_X1_recordSize : MT := (yX1_recordSize, cX1_recordSize, 5, (some .int), RX1, 1)
theorem mk_X1_recordSize : MokV M_X1_recordSize 1 1 := ⟨⟨⟨by decide, by decide, rfl⟩, (allW_in (kT_4 _ (List.mem_of_getElem? (i := 50) rfl)) rfl), (allW_in (kT_1 _ (List.mem_of_getElem? (i := 2) rfl)) rfl), by decide⟩, ⟨TX1, 9, rfl⟩, (allW_in (kT_4 _ (List.mem_of_getElem? (i := 48) rfl)) rfl), (allW_in (kT_4 _ (List.mem_of_getElem? (i := 49) rfl)) rfl)⟩
def B_X1_recordSize_125 : Blk := (125, .ireturn, 1) :: []
theorem o_X1_recordSize_125 : Chn cX1_recordSize B_X1_recordSize_125 := chn_of _ (by decide +kernel)
def B_X1_recordSize_124 : Blk := (124, .iconst 0, 1) :: B_X1_recordSize_125
theorem o_X1_recordSize_124 : Chn cX1_recordSize B_X1_recordSize_124 := chn_app ((124, .iconst 0, 1) :: []) o_X1_recordSize_125 (by decide +kernel)
def B_X1_recordSize_110 : Blk := (110, .iload_n 1, 1) :: (111, .iload_n 3, 1) :: (112, .iadd, 1) :: (113, .aload_n 0, 1) :: (114, .getfield 40, 3) :: (117, .if_icmp .gt 7, 3) :: (120, .iload_n 3, 1) :: (121, .goto 4, 3) :: []
theorem o_X1_recordSize_110 : Chn cX1_recordSize B_X1_recordSize_110 := chn_of _ (by decide +kernel)
def B_X1_recordSize_109 : Blk := (109, .istore_n 3, 1) :: B_X1_recordSize_110
theorem o_X1_recordSize_109 : Chn cX1_recordSize B_X1_recordSize_109 := chn_app ((109, .istore_n 3, 1) :: []) o_X1_recordSize_110 (by decide +kernel)
def B_X1_recordSize_108 : Blk := (108, .iconst 0, 1) :: B_X1_recordSize_109
theorem o_X1_recordSize_108 : Chn cX1_recordSize B_X1_recordSize_108 := chn_app ((108, .iconst 0, 1) :: []) o_X1_recordSize_109 (by decide +kernel)
def B_X1_recordSize_58 : Blk := (58, .iload_n 2, 1) :: (59, .iconst 1, 1) :: (60, .if_icmp .ne 50, 3) :: (63, .iload_n 1, 1) :: (64, .iconst 3, 1) :: (65, .iadd, 1) :: (66, .aload_n 0, 1) :: (67, .getfield 40, 3) :: (70, .if_icmp .gt 40, 3) :: (73, .aload_n 0, 1) :: (74, .iload_n 1, 1) :: (75, .iconst 1, 1) :: (76, .iadd, 1) :: (77, .invokevirtual 46, 3) :: (80, .bipush 8, 2) :: (82, .ishl, 1) :: (83, .aload_n 0, 1) :: (84, .iload_n 1, 1) :: (85, .iconst 2, 1) :: (86, .iadd, 1) :: (87, .invokevirtual 46, 3) :: (90, .ior, 1) :: (91, .istore 4, 2) :: (93, .iload 4, 2) :: (95, .sipush 2000, 3) :: (98, .if_icmp .gt 10, 3) :: (101, .iconst 3, 1) :: (102, .iload 4, 2) :: (104, .iadd, 1) :: (105, .goto 4, 3) :: []
theorem o_X1_recordSize_58 : Chn cX1_recordSize B_X1_recordSize_58 := chn_of _ (by decide +kernel)
def B_X1_recordSize_54 : Blk := (54, .istore_n 3, 1) :: (55, .goto 55, 3) :: []
theorem o_X1_recordSize_54 : Chn cX1_recordSize B_X1_recordSize_54 := chn_of _ (by decide +kernel)
def B_X1_recordSize_53 : Blk := (53, .iconst 0, 1) :: B_X1_recordSize_54
theorem o_X1_recordSize_53 : Chn cX1_recordSize B_X1_recordSize_53 := chn_app ((53, .iconst 0, 1) :: []) o_X1_recordSize_54 (by decide +kernel)
def B_X1_recordSize_48 : Blk := (48, .bipush 9, 2) :: (50, .goto 4, 3) :: []
theorem o_X1_recordSize_48 : Chn cX1_recordSize B_X1_recordSize_48 := chn_of _ (by decide +kernel)
def B_X1_recordSize_23 : Blk := (23, .iload_n 2, 1) :: (24, .iconst 2, 1) :: (25, .if_icmp .ne 33, 3) :: (28, .aload_n 0, 1) :: (29, .iload_n 1, 1) :: (30, .iconst 5, 1) :: (31, .iadd, 1) :: (32, .invokevirtual 81, 3) :: (35, .istore 4, 2) :: (37, .iload 4, 2) :: (39, .ifCond .eq 9, 3) :: (42, .iload 4, 2) :: (44, .iconst 1, 1) :: (45, .if_icmp .ne 8, 3) :: B_X1_recordSize_48
theorem o_X1_recordSize_23 : Chn cX1_recordSize B_X1_recordSize_23 := chn_app ((23, .iload_n 2, 1) :: (24, .iconst 2, 1) :: (25, .if_icmp .ne 33, 3) :: (28, .aload_n 0, 1) :: (29, .iload_n 1, 1) :: (30, .iconst 5, 1) :: (31, .iadd, 1) :: (32, .invokevirtual 81, 3) :: (35, .istore 4, 2) :: (37, .iload 4, 2) :: (39, .ifCond .eq 9, 3) :: (42, .iload 4, 2) :: (44, .iconst 1, 1) :: (45, .if_icmp .ne 8, 3) :: []) o_X1_recordSize_48 (by decide +kernel)
def B_X1_recordSize_18 : Blk := (18, .iconst 1, 1) :: (19, .istore_n 3, 1) :: (20, .goto 90, 3) :: []
theorem o_X1_recordSize_18 : Chn cX1_recordSize B_X1_recordSize_18 := chn_of _ (by decide +kernel)
def B_X1_recordSize_0 : Blk := (0, .aload_n 0, 1) :: (1, .iload_n 1, 1) :: (2, .invokevirtual 46, 3) :: (5, .istore_n 2, 1) :: (6, .iconst 0, 1) :: (7, .istore_n 3, 1) :: (8, .iload_n 2, 1) :: (9, .iconst 3, 1) :: (10, .if_icmp .eq 8, 3) :: (13, .iload_n 2, 1) :: (14, .iconst 4, 1) :: (15, .if_icmp .ne 8, 3) :: B_X1_recordSize_18
theorem o_X1_recordSize_0 : Chn cX1_recordSize B_X1_recordSize_0 := chn_app ((0, .aload_n 0, 1) :: (1, .iload_n 1, 1) :: (2, .invokevirtual 46, 3) :: (5, .istore_n 2, 1) :: (6, .iconst 0, 1) :: (7, .istore_n 3, 1) :: (8, .iload_n 2, 1) :: (9, .iconst 3, 1) :: (10, .if_icmp .eq 8, 3) :: (13, .iload_n 2, 1) :: (14, .iconst 4, 1) :: (15, .if_icmp .ne 8, 3) :: []) o_X1_recordSize_18 (by decide +kernel)
theorem ml_1_81 : MLk RX1 81 yX1_waitingInt := Or.inl (allW_in (kT_4 _ (List.mem_of_getElem? (i := 51) rfl)) rfl)
abbrev cX1_comeUp : ByteArray := prog_3_method_23_code
def yX1_comeUp : MethodName := ⟨RX1, "comeUp", "(I)V"⟩
def M_X1_comeUp : MT := (yX1_comeUp, cX1_comeUp, 2, none, RX1, 0)
theorem mk_X1_comeUp : MokV M_X1_comeUp 1 1 := ⟨⟨⟨by decide, by decide, rfl⟩, (allW_in (kT_5 _ (List.mem_of_getElem? (i := 171) rfl)) rfl), (allW_in (kT_1 _ (List.mem_of_getElem? (i := 2) rfl)) rfl), by decide⟩, ⟨TX1, 9, rfl⟩, (allW_in (kT_5 _ (List.mem_of_getElem? (i := 169) rfl)) rfl), (allW_in (kT_5 _ (List.mem_of_getElem? (i := 170) rfl)) rfl)⟩
def B_X1_comeUp_0 : Blk := (0, .aload_n 0, 1) :: (1, .iload_n 1, 1) :: (2, .putfield 43, 3) :: (5, .aload_n 0, 1) :: (6, .iconst 0, 1) :: (7, .putfield 40, 3) :: (10, .aload_n 0, 1) :: (11, .iconst (-1), 1) :: (12, .putfield 25, 3) :: (15, .aload_n 0, 1) :: (16, .iconst 0, 1) :: (17, .putfield 65, 3) :: (20, .return_, 1) :: []
theorem o_X1_comeUp_0 : Chn cX1_comeUp B_X1_comeUp_0 := chn_of _ (by decide +kernel)
abbrev cX2_cutBack : ByteArray := prog_4_method_3_code
def yX2_cutBack : MethodName := ⟨RX2, "cutBack", "(III)V"⟩
def M_X2_cutBack : MT := (yX2_cutBack, cX2_cutBack, 4, none, RX2, 0)
theorem mk_X2_cutBack : MokV M_X2_cutBack 2 3 := ⟨⟨⟨by decide, by decide, rfl⟩, (allW_in (kT_4 _ (List.mem_of_getElem? (i := 26) rfl)) rfl), (allW_in (kT_1 _ (List.mem_of_getElem? (i := 3) rfl)) rfl), by decide⟩, ⟨TX2, 16, rfl⟩, (allW_in (kT_4 _ (List.mem_of_getElem? (i := 24) rfl)) rfl), (allW_in (kT_4 _ (List.mem_of_getElem? (i := 25) rfl)) rfl)⟩
def B_X2_cutBack_0 : Blk := (0, .aload_n 0, 1) :: (1, .iload_n 1, 1) :: (2, .putfield 52, 3) :: (5, .aload_n 0, 1) :: (6, .iload_n 2, 1) :: (7, .putfield 55, 3) :: (10, .aload_n 0, 1) :: (11, .iload_n 3, 1) :: (12, .putfield 58, 3) :: (15, .aload_n 0, 1) :: (16, .dup, 1) :: (17, .getfield 61, 3) :: (20, .iconst 1, 1) :: (21, .iload_n 2, 1) :: (22, .ishl, 1) :: (23, .iconst 1, 1) :: (24, .isub, 1) :: (25, .iand, 1) :: (26, .putfield 61, 3) :: (29, .return_, 1) :: []
theorem o_X2_cutBack_0 : Chn cX2_cutBack B_X2_cutBack_0 := chn_of _ (by decide +kernel)
theorem fl_2_52 : FLk RX2 52 2 10 0 false := ⟨RX2, TX2, 16, "IntegerHouse$House", "variables", "I", rfl, by decide, rfl, Or.inl (allW_in (kT_1 _ (List.mem_of_getElem? (i := 97) rfl)) rfl), rfl, (fun _ => rfl), (fun h => absurd h (by decide)), (fun h => absurd h (by decide)), (fun h => absurd h (by decide))⟩
theorem fl_2_55 : FLk RX2 55 2 11 0 false := ⟨RX2, TX2, 16, "IntegerHouse$House", "claims", "I", rfl, by decide, rfl, Or.inl (allW_in (kT_1 _ (List.mem_of_getElem? (i := 102) rfl)) rfl), rfl, (fun _ => rfl), (fun h => absurd h (by decide)), (fun h => absurd h (by decide)), (fun h => absurd h (by decide))⟩
theorem fl_2_58 : FLk RX2 58 2 12 0 false := ⟨RX2, TX2, 16, "IntegerHouse$House", "poolSize", "I", rfl, by decide, rfl, Or.inl (allW_in (kT_1 _ (List.mem_of_getElem? (i := 106) rfl)) rfl), rfl, (fun _ => rfl), (fun h => absurd h (by decide)), (fun h => absurd h (by decide)), (fun h => absurd h (by decide))⟩
theorem fl_2_61 : FLk RX2 61 2 13 0 false := ⟨RX2, TX2, 16, "IntegerHouse$House", "on", "I", rfl, by decide, rfl, Or.inl (allW_in (kT_1 _ (List.mem_of_getElem? (i := 110) rfl)) rfl), rfl, (fun _ => rfl), (fun h => absurd h (by decide)), (fun h => absurd h (by decide)), (fun h => absurd h (by decide))⟩
abbrev cX2_clear : ByteArray := prog_4_method_2_code
def yX2_clear : MethodName := ⟨RX2, "clear", "()V"⟩
def M_X2_clear : MT := (yX2_clear, cX2_clear, 1, none, RX2, 0)
theorem mk_X2_clear : MokV M_X2_clear 2 0 := ⟨⟨⟨by decide, by decide, rfl⟩, (allW_in (kT_4 _ (List.mem_of_getElem? (i := 22) rfl)) rfl), (allW_in (kT_1 _ (List.mem_of_getElem? (i := 3) rfl)) rfl), by decide⟩, ⟨TX2, 16, rfl⟩, (allW_in (kT_4 _ (List.mem_of_getElem? (i := 20) rfl)) rfl), (allW_in (kT_4 _ (List.mem_of_getElem? (i := 21) rfl)) rfl)⟩
def B_X2_clear_0 : Blk := (0, .aload_n 0, 1) :: (1, .iconst 0, 1) :: (2, .iconst 0, 1) :: (3, .iconst 0, 1) :: (4, .invokevirtual 44, 3) :: (7, .aload_n 0, 1) :: (8, .iconst 0, 1) :: (9, .putfield 48, 3) :: (12, .return_, 1) :: []
theorem o_X2_clear_0 : Chn cX2_clear B_X2_clear_0 := chn_of _ (by decide +kernel)
theorem ml_2_44 : MLk RX2 44 yX2_cutBack := Or.inl (allW_in (kT_4 _ (List.mem_of_getElem? (i := 23) rfl)) rfl)
theorem fl_2_48 : FLk RX2 48 2 14 0 false := ⟨RX2, TX2, 16, "IntegerHouse$House", "layers", "I", rfl, by decide, rfl, Or.inl (allW_in (kT_1 _ (List.mem_of_getElem? (i := 114) rfl)) rfl), rfl, (fun _ => rfl), (fun h => absurd h (by decide)), (fun h => absurd h (by decide)), (fun h => absurd h (by decide))⟩
abbrev cX2_isClaim : ByteArray := prog_4_method_4_code
def yX2_isClaim : MethodName := ⟨RX2, "isClaim", "(I)Z"⟩
def M_X2_isClaim : MT := (yX2_isClaim, cX2_isClaim, 2, (some .boolean), RX2, 1)
theorem mk_X2_isClaim : MokV M_X2_isClaim 2 1 := ⟨⟨⟨by decide, by decide, rfl⟩, (allW_in (kT_5 _ (List.mem_of_getElem? (i := 155) rfl)) rfl), (allW_in (kT_1 _ (List.mem_of_getElem? (i := 3) rfl)) rfl), by decide⟩, ⟨TX2, 16, rfl⟩, (allW_in (kT_5 _ (List.mem_of_getElem? (i := 153) rfl)) rfl), (allW_in (kT_5 _ (List.mem_of_getElem? (i := 154) rfl)) rfl)⟩
def B_X2_isClaim_17 : Blk := (17, .ireturn, 1) :: []
theorem o_X2_isClaim_17 : Chn cX2_isClaim B_X2_isClaim_17 := chn_of _ (by decide +kernel)
def B_X2_isClaim_16 : Blk := (16, .iconst 0, 1) :: B_X2_isClaim_17
theorem o_X2_isClaim_16 : Chn cX2_isClaim B_X2_isClaim_16 := chn_app ((16, .iconst 0, 1) :: []) o_X2_isClaim_17 (by decide +kernel)
def B_X2_isClaim_0 : Blk := (0, .iload_n 1, 1) :: (1, .ifCond .lt 15, 3) :: (4, .iload_n 1, 1) :: (5, .aload_n 0, 1) :: (6, .getfield 55, 3) :: (9, .if_icmp .ge 7, 3) :: (12, .iconst 1, 1) :: (13, .goto 4, 3) :: []
theorem o_X2_isClaim_0 : Chn cX2_isClaim B_X2_isClaim_0 := chn_of _ (by decide +kernel)
abbrev cX2_turnOnFrom : ByteArray := prog_4_method_5_code
def yX2_turnOnFrom : MethodName := ⟨RX2, "turnOnFrom", "(I)V"⟩
def M_X2_turnOnFrom : MT := (yX2_turnOnFrom, cX2_turnOnFrom, 2, none, RX2, 0)
theorem mk_X2_turnOnFrom : MokV M_X2_turnOnFrom 2 1 := ⟨⟨⟨by decide, by decide, rfl⟩, (allW_in (kT_5 _ (List.mem_of_getElem? (i := 150) rfl)) rfl), (allW_in (kT_1 _ (List.mem_of_getElem? (i := 3) rfl)) rfl), by decide⟩, ⟨TX2, 16, rfl⟩, (allW_in (kT_5 _ (List.mem_of_getElem? (i := 148) rfl)) rfl), (allW_in (kT_5 _ (List.mem_of_getElem? (i := 149) rfl)) rfl)⟩
def B_X2_turnOnFrom_0 : Blk := (0, .aload_n 0, 1) :: (1, .dup, 1) :: (2, .getfield 61, 3) :: (5, .iconst 1, 1) :: (6, .aload_n 0, 1) :: (7, .getfield 55, 3) :: (10, .ishl, 1) :: (11, .iconst 1, 1) :: (12, .iload_n 1, 1) :: (13, .ishl, 1) :: (14, .isub, 1) :: (15, .ior, 1) :: (16, .putfield 61, 3) :: (19, .return_, 1) :: []
theorem o_X2_turnOnFrom_0 : Chn cX2_turnOnFrom B_X2_turnOnFrom_0 := chn_of _ (by decide +kernel)
abbrev cX2_turn : ByteArray := prog_4_method_6_code
def yX2_turn : MethodName := ⟨RX2, "turn", "(IZ)Z"⟩
def M_X2_turn : MT := (yX2_turn, cX2_turn, 4, (some .boolean), RX2, 1)
theorem mk_X2_turn : MokV M_X2_turn 2 2 := ⟨⟨⟨by decide, by decide, rfl⟩, (allW_in (kT_5 _ (List.mem_of_getElem? (i := 159) rfl)) rfl), (allW_in (kT_1 _ (List.mem_of_getElem? (i := 3) rfl)) rfl), by decide⟩, ⟨TX2, 16, rfl⟩, (allW_in (kT_5 _ (List.mem_of_getElem? (i := 157) rfl)) rfl), (allW_in (kT_5 _ (List.mem_of_getElem? (i := 158) rfl)) rfl)⟩
def B_X2_turn_47 : Blk := (47, .ireturn, 1) :: []
theorem o_X2_turn_47 : Chn cX2_turn B_X2_turn_47 := chn_of _ (by decide +kernel)
def B_X2_turn_46 : Blk := (46, .iconst 0, 1) :: B_X2_turn_47
theorem o_X2_turn_46 : Chn cX2_turn B_X2_turn_46 := chn_app ((46, .iconst 0, 1) :: []) o_X2_turn_47 (by decide +kernel)
def B_X2_turn_31 : Blk := (31, .putfield 61, 3) :: (34, .aload_n 0, 1) :: (35, .getfield 61, 3) :: (38, .iload_n 3, 1) :: (39, .if_icmp .eq 7, 3) :: (42, .iconst 1, 1) :: (43, .goto 4, 3) :: []
theorem o_X2_turn_31 : Chn cX2_turn B_X2_turn_31 := chn_of _ (by decide +kernel)
def B_X2_turn_21 : Blk := (21, .aload_n 0, 1) :: (22, .getfield 61, 3) :: (25, .iconst 1, 1) :: (26, .iload_n 1, 1) :: (27, .ishl, 1) :: (28, .iconst (-1), 1) :: (29, .ixor, 1) :: (30, .iand, 1) :: B_X2_turn_31
theorem o_X2_turn_21 : Chn cX2_turn B_X2_turn_21 := chn_app ((21, .aload_n 0, 1) :: (22, .getfield 61, 3) :: (25, .iconst 1, 1) :: (26, .iload_n 1, 1) :: (27, .ishl, 1) :: (28, .iconst (-1), 1) :: (29, .ixor, 1) :: (30, .iand, 1) :: []) o_X2_turn_31 (by decide +kernel)
def B_X2_turn_0 : Blk := (0, .aload_n 0, 1) :: (1, .getfield 61, 3) :: (4, .istore_n 3, 1) :: (5, .aload_n 0, 1) :: (6, .iload_n 2, 1) :: (7, .ifCond .eq 14, 3) :: (10, .aload_n 0, 1) :: (11, .getfield 61, 3) :: (14, .iconst 1, 1) :: (15, .iload_n 1, 1) :: (16, .ishl, 1) :: (17, .ior, 1) :: (18, .goto 13, 3) :: []
theorem o_X2_turn_0 : Chn cX2_turn B_X2_turn_0 := chn_of _ (by decide +kernel)
abbrev cX2_addLayer : ByteArray := prog_4_method_7_code
def yX2_addLayer : MethodName := ⟨RX2, "addLayer", "()Z"⟩
def M_X2_addLayer : MT := (yX2_addLayer, cX2_addLayer, 2, (some .boolean), RX2, 1)
theorem mk_X2_addLayer : MokV M_X2_addLayer 2 0 := ⟨⟨⟨by decide, by decide, rfl⟩, (allW_in (kT_5 _ (List.mem_of_getElem? (i := 163) rfl)) rfl), (allW_in (kT_1 _ (List.mem_of_getElem? (i := 3) rfl)) rfl), by decide⟩, ⟨TX2, 16, rfl⟩, (allW_in (kT_5 _ (List.mem_of_getElem? (i := 161) rfl)) rfl), (allW_in (kT_5 _ (List.mem_of_getElem? (i := 162) rfl)) rfl)⟩
def B_X2_addLayer_18 : Blk := (18, .aload_n 0, 1) :: (19, .getfield 48, 3) :: (22, .iconst 4, 1) :: (23, .imul, 1) :: (24, .istore_n 1, 1) :: (25, .aload_n 0, 1) :: (26, .getfield 37, 3) :: (29, .iload_n 1, 1) :: (30, .aload_n 0, 1) :: (31, .getfield 52, 3) :: (34, .iastore, 1) :: (35, .aload_n 0, 1) :: (36, .getfield 37, 3) :: (39, .iload_n 1, 1) :: (40, .iconst 1, 1) :: (41, .iadd, 1) :: (42, .aload_n 0, 1) :: (43, .getfield 55, 3) :: (46, .iastore, 1) :: (47, .aload_n 0, 1) :: (48, .getfield 37, 3) :: (51, .iload_n 1, 1) :: (52, .iconst 2, 1) :: (53, .iadd, 1) :: (54, .aload_n 0, 1) :: (55, .getfield 58, 3) :: (58, .iastore, 1) :: (59, .aload_n 0, 1) :: (60, .getfield 37, 3) :: (63, .iload_n 1, 1) :: (64, .iconst 3, 1) :: (65, .iadd, 1) :: (66, .aload_n 0, 1) :: (67, .getfield 61, 3) :: (70, .iastore, 1) :: (71, .aload_n 0, 1) :: (72, .dup, 1) :: (73, .getfield 48, 3) :: (76, .iconst 1, 1) :: (77, .iadd, 1) :: (78, .putfield 48, 3) :: (81, .iconst 1, 1) :: (82, .ireturn, 1) :: []
theorem o_X2_addLayer_18 : Chn cX2_addLayer B_X2_addLayer_18 := chn_of _ (by decide +kernel)
def B_X2_addLayer_16 : Blk := (16, .iconst 0, 1) :: (17, .ireturn, 1) :: []
theorem o_X2_addLayer_16 : Chn cX2_addLayer B_X2_addLayer_16 := chn_of _ (by decide +kernel)
def B_X2_addLayer_0 : Blk := (0, .aload_n 0, 1) :: (1, .getfield 48, 3) :: (4, .ifCond .lt 12, 3) :: (7, .aload_n 0, 1) :: (8, .getfield 48, 3) :: (11, .bipush 8, 2) :: (13, .if_icmp .lt 5, 3) :: B_X2_addLayer_16
theorem o_X2_addLayer_0 : Chn cX2_addLayer B_X2_addLayer_0 := chn_app ((0, .aload_n 0, 1) :: (1, .getfield 48, 3) :: (4, .ifCond .lt 12, 3) :: (7, .aload_n 0, 1) :: (8, .getfield 48, 3) :: (11, .bipush 8, 2) :: (13, .if_icmp .lt 5, 3) :: []) o_X2_addLayer_16 (by decide +kernel)
theorem fl_2_37 : FLk RX2 37 2 8 3 true := ⟨RX2, TX2, 16, "IntegerHouse$House", "marks", "[I", rfl, by decide, rfl, Or.inl (allW_in (kT_1 _ (List.mem_of_getElem? (i := 92) rfl)) rfl), rfl, (fun h => absurd h (by decide)), (fun h => absurd h (by decide)), (fun h => absurd h (by decide)), (fun h => absurd h (by decide))⟩
abbrev cX2_leaveLayer : ByteArray := prog_4_method_8_code
def yX2_leaveLayer : MethodName := ⟨RX2, "leaveLayer", "()Z"⟩
def M_X2_leaveLayer : MT := (yX2_leaveLayer, cX2_leaveLayer, 2, (some .boolean), RX2, 1)
theorem mk_X2_leaveLayer : MokV M_X2_leaveLayer 2 0 := ⟨⟨⟨by decide, by decide, rfl⟩, (allW_in (kT_5 _ (List.mem_of_getElem? (i := 167) rfl)) rfl), (allW_in (kT_1 _ (List.mem_of_getElem? (i := 3) rfl)) rfl), by decide⟩, ⟨TX2, 16, rfl⟩, (allW_in (kT_5 _ (List.mem_of_getElem? (i := 165) rfl)) rfl), (allW_in (kT_5 _ (List.mem_of_getElem? (i := 166) rfl)) rfl)⟩
def B_X2_leaveLayer_18 : Blk := (18, .aload_n 0, 1) :: (19, .dup, 1) :: (20, .getfield 48, 3) :: (23, .iconst 1, 1) :: (24, .isub, 1) :: (25, .putfield 48, 3) :: (28, .aload_n 0, 1) :: (29, .getfield 48, 3) :: (32, .iconst 4, 1) :: (33, .imul, 1) :: (34, .istore_n 1, 1) :: (35, .aload_n 0, 1) :: (36, .aload_n 0, 1) :: (37, .getfield 37, 3) :: (40, .iload_n 1, 1) :: (41, .iaload, 1) :: (42, .aload_n 0, 1) :: (43, .getfield 37, 3) :: (46, .iload_n 1, 1) :: (47, .iconst 1, 1) :: (48, .iadd, 1) :: (49, .iaload, 1) :: (50, .aload_n 0, 1) :: (51, .getfield 37, 3) :: (54, .iload_n 1, 1) :: (55, .iconst 2, 1) :: (56, .iadd, 1) :: (57, .iaload, 1) :: (58, .invokevirtual 44, 3) :: (61, .aload_n 0, 1) :: (62, .aload_n 0, 1) :: (63, .getfield 37, 3) :: (66, .iload_n 1, 1) :: (67, .iconst 3, 1) :: (68, .iadd, 1) :: (69, .iaload, 1) :: (70, .putfield 61, 3) :: (73, .iconst 1, 1) :: (74, .ireturn, 1) :: []
theorem o_X2_leaveLayer_18 : Chn cX2_leaveLayer B_X2_leaveLayer_18 := chn_of _ (by decide +kernel)
def B_X2_leaveLayer_16 : Blk := (16, .iconst 0, 1) :: (17, .ireturn, 1) :: []
theorem o_X2_leaveLayer_16 : Chn cX2_leaveLayer B_X2_leaveLayer_16 := chn_of _ (by decide +kernel)
def B_X2_leaveLayer_0 : Blk := (0, .aload_n 0, 1) :: (1, .getfield 48, 3) :: (4, .ifCond .le 12, 3) :: (7, .aload_n 0, 1) :: (8, .getfield 48, 3) :: (11, .bipush 8, 2) :: (13, .if_icmp .le 5, 3) :: B_X2_leaveLayer_16
theorem o_X2_leaveLayer_0 : Chn cX2_leaveLayer B_X2_leaveLayer_0 := chn_app ((0, .aload_n 0, 1) :: (1, .getfield 48, 3) :: (4, .ifCond .le 12, 3) :: (7, .aload_n 0, 1) :: (8, .getfield 48, 3) :: (11, .bipush 8, 2) :: (13, .if_icmp .le 5, 3) :: []) o_X2_leaveLayer_16 (by decide +kernel)
abbrev cX2_variableOf : ByteArray := prog_4_method_9_code
def yX2_variableOf : MethodName := ⟨RX2, "variableOf", "(J)I"⟩
def M_X2_variableOf : MT := (yX2_variableOf, cX2_variableOf, 4, (some .int), RX2, 1)
theorem mk_X2_variableOf : MokV M_X2_variableOf 2 1 := ⟨⟨⟨by decide, by decide, rfl⟩, (allW_in (kT_4 _ (List.mem_of_getElem? (i := 123) rfl)) rfl), (allW_in (kT_1 _ (List.mem_of_getElem? (i := 3) rfl)) rfl), by decide⟩, ⟨TX2, 16, rfl⟩, (allW_in (kT_4 _ (List.mem_of_getElem? (i := 121) rfl)) rfl), (allW_in (kT_4 _ (List.mem_of_getElem? (i := 122) rfl)) rfl)⟩
def B_X2_variableOf_34 : Blk := (34, .iconst (-1), 1) :: (35, .ireturn, 1) :: []
theorem o_X2_variableOf_34 : Chn cX2_variableOf B_X2_variableOf_34 := chn_of _ (by decide +kernel)
def B_X2_variableOf_28 : Blk := (28, .iinc 3 1, 3) :: (31, .goto (-29), 3) :: []
theorem o_X2_variableOf_28 : Chn cX2_variableOf B_X2_variableOf_28 := chn_of _ (by decide +kernel)
def B_X2_variableOf_2 : Blk := (2, .iload_n 3, 1) :: (3, .aload_n 0, 1) :: (4, .getfield 52, 3) :: (7, .if_icmp .ge 27, 3) :: (10, .iload_n 3, 1) :: (11, .iconst 4, 1) :: (12, .if_icmp .ge 22, 3) :: (15, .aload_n 0, 1) :: (16, .getfield 9, 3) :: (19, .iload_n 3, 1) :: (20, .laload, 1) :: (21, .lload_n 1, 1) :: (22, .lcmp, 1) :: (23, .ifCond .ne 5, 3) :: (26, .iload_n 3, 1) :: (27, .ireturn, 1) :: []
theorem o_X2_variableOf_2 : Chn cX2_variableOf B_X2_variableOf_2 := chn_of _ (by decide +kernel)
def B_X2_variableOf_0 : Blk := (0, .iconst 0, 1) :: (1, .istore_n 3, 1) :: B_X2_variableOf_2
theorem o_X2_variableOf_0 : Chn cX2_variableOf B_X2_variableOf_0 := chn_app ((0, .iconst 0, 1) :: (1, .istore_n 3, 1) :: []) o_X2_variableOf_2 (by decide +kernel)
theorem fl_2_9 : FLk RX2 9 2 0 3 true := ⟨RX2, TX2, 16, "IntegerHouse$House", "variableNames", "[J", rfl, by decide, rfl, Or.inl (allW_in (kT_1 _ (List.mem_of_getElem? (i := 82) rfl)) rfl), rfl, (fun h => absurd h (by decide)), (fun h => absurd h (by decide)), (fun h => absurd h (by decide)), (fun h => absurd h (by decide))⟩
abbrev cX2_claimOf : ByteArray := prog_4_method_10_code
def yX2_claimOf : MethodName := ⟨RX2, "claimOf", "(J)I"⟩
def M_X2_claimOf : MT := (yX2_claimOf, cX2_claimOf, 4, (some .int), RX2, 1)
theorem mk_X2_claimOf : MokV M_X2_claimOf 2 1 := ⟨⟨⟨by decide, by decide, rfl⟩, (allW_in (kT_4 _ (List.mem_of_getElem? (i := 127) rfl)) rfl), (allW_in (kT_1 _ (List.mem_of_getElem? (i := 3) rfl)) rfl), by decide⟩, ⟨TX2, 16, rfl⟩, (allW_in (kT_4 _ (List.mem_of_getElem? (i := 125) rfl)) rfl), (allW_in (kT_4 _ (List.mem_of_getElem? (i := 126) rfl)) rfl)⟩
def B_X2_claimOf_35 : Blk := (35, .iconst (-1), 1) :: (36, .ireturn, 1) :: []
theorem o_X2_claimOf_35 : Chn cX2_claimOf B_X2_claimOf_35 := chn_of _ (by decide +kernel)
def B_X2_claimOf_29 : Blk := (29, .iinc 3 1, 3) :: (32, .goto (-30), 3) :: []
theorem o_X2_claimOf_29 : Chn cX2_claimOf B_X2_claimOf_29 := chn_of _ (by decide +kernel)
def B_X2_claimOf_2 : Blk := (2, .iload_n 3, 1) :: (3, .aload_n 0, 1) :: (4, .getfield 55, 3) :: (7, .if_icmp .ge 28, 3) :: (10, .iload_n 3, 1) :: (11, .bipush 24, 2) :: (13, .if_icmp .ge 22, 3) :: (16, .aload_n 0, 1) :: (17, .getfield 15, 3) :: (20, .iload_n 3, 1) :: (21, .laload, 1) :: (22, .lload_n 1, 1) :: (23, .lcmp, 1) :: (24, .ifCond .ne 5, 3) :: (27, .iload_n 3, 1) :: (28, .ireturn, 1) :: []
theorem o_X2_claimOf_2 : Chn cX2_claimOf B_X2_claimOf_2 := chn_of _ (by decide +kernel)
def B_X2_claimOf_0 : Blk := (0, .iconst 0, 1) :: (1, .istore_n 3, 1) :: B_X2_claimOf_2
theorem o_X2_claimOf_0 : Chn cX2_claimOf B_X2_claimOf_0 := chn_app ((0, .iconst 0, 1) :: (1, .istore_n 3, 1) :: []) o_X2_claimOf_2 (by decide +kernel)
theorem fl_2_15 : FLk RX2 15 2 1 3 true := ⟨RX2, TX2, 16, "IntegerHouse$House", "claimNames", "[J", rfl, by decide, rfl, Or.inl (allW_in (kT_1 _ (List.mem_of_getElem? (i := 83) rfl)) rfl), rfl, (fun h => absurd h (by decide)), (fun h => absurd h (by decide)), (fun h => absurd h (by decide)), (fun h => absurd h (by decide))⟩
abbrev cX2_addVariable : ByteArray := prog_4_method_11_code
def yX2_addVariable : MethodName := ⟨RX2, "addVariable", "(J)Z"⟩
def M_X2_addVariable : MT := (yX2_addVariable, cX2_addVariable, 3, (some .boolean), RX2, 1)
theorem mk_X2_addVariable : MokV M_X2_addVariable 2 1 := ⟨⟨⟨by decide, by decide, rfl⟩, (allW_in (kT_4 _ (List.mem_of_getElem? (i := 131) rfl)) rfl), (allW_in (kT_1 _ (List.mem_of_getElem? (i := 3) rfl)) rfl), by decide⟩, ⟨TX2, 16, rfl⟩, (allW_in (kT_4 _ (List.mem_of_getElem? (i := 129) rfl)) rfl), (allW_in (kT_4 _ (List.mem_of_getElem? (i := 130) rfl)) rfl)⟩
def B_X2_addVariable_17 : Blk := (17, .aload_n 0, 1) :: (18, .getfield 9, 3) :: (21, .aload_n 0, 1) :: (22, .getfield 52, 3) :: (25, .lload_n 1, 1) :: (26, .lastore, 1) :: (27, .aload_n 0, 1) :: (28, .dup, 1) :: (29, .getfield 52, 3) :: (32, .iconst 1, 1) :: (33, .iadd, 1) :: (34, .putfield 52, 3) :: (37, .iconst 1, 1) :: (38, .ireturn, 1) :: []
theorem o_X2_addVariable_17 : Chn cX2_addVariable B_X2_addVariable_17 := chn_of _ (by decide +kernel)
def B_X2_addVariable_15 : Blk := (15, .iconst 0, 1) :: (16, .ireturn, 1) :: []
theorem o_X2_addVariable_15 : Chn cX2_addVariable B_X2_addVariable_15 := chn_of _ (by decide +kernel)
def B_X2_addVariable_0 : Blk := (0, .aload_n 0, 1) :: (1, .getfield 52, 3) :: (4, .ifCond .lt 11, 3) :: (7, .aload_n 0, 1) :: (8, .getfield 52, 3) :: (11, .iconst 4, 1) :: (12, .if_icmp .lt 5, 3) :: B_X2_addVariable_15
theorem o_X2_addVariable_0 : Chn cX2_addVariable B_X2_addVariable_0 := chn_app ((0, .aload_n 0, 1) :: (1, .getfield 52, 3) :: (4, .ifCond .lt 11, 3) :: (7, .aload_n 0, 1) :: (8, .getfield 52, 3) :: (11, .iconst 4, 1) :: (12, .if_icmp .lt 5, 3) :: []) o_X2_addVariable_15 (by decide +kernel)
abbrev cX2_setFact : ByteArray := prog_4_method_14_code
def yX2_setFact : MethodName := ⟨RX2, "setFact", "(III)V"⟩
def M_X2_setFact : MT := (yX2_setFact, cX2_setFact, 4, none, RX2, 0)
theorem mk_X2_setFact : MokV M_X2_setFact 2 3 := ⟨⟨⟨by decide, by decide, rfl⟩, (allW_in (kT_4 _ (List.mem_of_getElem? (i := 147) rfl)) rfl), (allW_in (kT_1 _ (List.mem_of_getElem? (i := 3) rfl)) rfl), by decide⟩, ⟨TX2, 16, rfl⟩, (allW_in (kT_4 _ (List.mem_of_getElem? (i := 145) rfl)) rfl), (allW_in (kT_4 _ (List.mem_of_getElem? (i := 146) rfl)) rfl)⟩
def B_X2_setFact_32 : Blk := (32, .return_, 1) :: []
theorem o_X2_setFact_32 : Chn cX2_setFact B_X2_setFact_32 := chn_of _ (by decide +kernel)
def B_X2_setFact_0 : Blk := (0, .iload_n 1, 1) :: (1, .ifCond .lt 31, 3) :: (4, .iload_n 1, 1) :: (5, .bipush 26, 2) :: (7, .if_icmp .ge 25, 3) :: (10, .iload_n 2, 1) :: (11, .ifCond .lt 21, 3) :: (14, .iload_n 2, 1) :: (15, .bipush 10, 2) :: (17, .if_icmp .ge 15, 3) :: (20, .aload_n 0, 1) :: (21, .getfield 28, 3) :: (24, .iload_n 1, 1) :: (25, .bipush 10, 2) :: (27, .imul, 1) :: (28, .iload_n 2, 1) :: (29, .iadd, 1) :: (30, .iload_n 3, 1) :: (31, .iastore, 1) :: B_X2_setFact_32
theorem o_X2_setFact_0 : Chn cX2_setFact B_X2_setFact_0 := chn_app ((0, .iload_n 1, 1) :: (1, .ifCond .lt 31, 3) :: (4, .iload_n 1, 1) :: (5, .bipush 26, 2) :: (7, .if_icmp .ge 25, 3) :: (10, .iload_n 2, 1) :: (11, .ifCond .lt 21, 3) :: (14, .iload_n 2, 1) :: (15, .bipush 10, 2) :: (17, .if_icmp .ge 15, 3) :: (20, .aload_n 0, 1) :: (21, .getfield 28, 3) :: (24, .iload_n 1, 1) :: (25, .bipush 10, 2) :: (27, .imul, 1) :: (28, .iload_n 2, 1) :: (29, .iadd, 1) :: (30, .iload_n 3, 1) :: (31, .iastore, 1) :: []) o_X2_setFact_32 (by decide +kernel)
abbrev cX2_addClaim : ByteArray := prog_4_method_12_code
def yX2_addClaim : MethodName := ⟨RX2, "addClaim", "(J)V"⟩
def M_X2_addClaim : MT := (yX2_addClaim, cX2_addClaim, 3, none, RX2, 0)
theorem mk_X2_addClaim : MokV M_X2_addClaim 2 1 := ⟨⟨⟨by decide, by decide, rfl⟩, (allW_in (kT_4 _ (List.mem_of_getElem? (i := 223) rfl)) rfl), (allW_in (kT_1 _ (List.mem_of_getElem? (i := 3) rfl)) rfl), by decide⟩, ⟨TX2, 16, rfl⟩, (allW_in (kT_4 _ (List.mem_of_getElem? (i := 221) rfl)) rfl), (allW_in (kT_4 _ (List.mem_of_getElem? (i := 222) rfl)) rfl)⟩
def B_X2_addClaim_50 : Blk := (50, .return_, 1) :: []
theorem o_X2_addClaim_50 : Chn cX2_addClaim B_X2_addClaim_50 := chn_of _ (by decide +kernel)
def B_X2_addClaim_0 : Blk := (0, .aload_n 0, 1) :: (1, .getfield 55, 3) :: (4, .ifCond .lt 46, 3) :: (7, .aload_n 0, 1) :: (8, .getfield 55, 3) :: (11, .bipush 24, 2) :: (13, .if_icmp .ge 37, 3) :: (16, .aload_n 0, 1) :: (17, .aload_n 0, 1) :: (18, .getfield 55, 3) :: (21, .bipush 8, 2) :: (23, .aload_n 0, 1) :: (24, .getfield 48, 3) :: (27, .invokevirtual 64, 3) :: (30, .aload_n 0, 1) :: (31, .getfield 15, 3) :: (34, .aload_n 0, 1) :: (35, .getfield 55, 3) :: (38, .lload_n 1, 1) :: (39, .lastore, 1) :: (40, .aload_n 0, 1) :: (41, .dup, 1) :: (42, .getfield 55, 3) :: (45, .iconst 1, 1) :: (46, .iadd, 1) :: (47, .putfield 55, 3) :: B_X2_addClaim_50
theorem o_X2_addClaim_0 : Chn cX2_addClaim B_X2_addClaim_0 := chn_app ((0, .aload_n 0, 1) :: (1, .getfield 55, 3) :: (4, .ifCond .lt 46, 3) :: (7, .aload_n 0, 1) :: (8, .getfield 55, 3) :: (11, .bipush 24, 2) :: (13, .if_icmp .ge 37, 3) :: (16, .aload_n 0, 1) :: (17, .aload_n 0, 1) :: (18, .getfield 55, 3) :: (21, .bipush 8, 2) :: (23, .aload_n 0, 1) :: (24, .getfield 48, 3) :: (27, .invokevirtual 64, 3) :: (30, .aload_n 0, 1) :: (31, .getfield 15, 3) :: (34, .aload_n 0, 1) :: (35, .getfield 55, 3) :: (38, .lload_n 1, 1) :: (39, .lastore, 1) :: (40, .aload_n 0, 1) :: (41, .dup, 1) :: (42, .getfield 55, 3) :: (45, .iconst 1, 1) :: (46, .iadd, 1) :: (47, .putfield 55, 3) :: []) o_X2_addClaim_50 (by decide +kernel)
theorem ml_2_64 : MLk RX2 64 yX2_setFact := Or.inl (allW_in (kT_4 _ (List.mem_of_getElem? (i := 224) rfl)) rfl)
abbrev cX2_setToken : ByteArray := prog_4_method_15_code
def yX2_setToken : MethodName := ⟨RX2, "setToken", "(III)V"⟩
def M_X2_setToken : MT := (yX2_setToken, cX2_setToken, 4, none, RX2, 0)
theorem mk_X2_setToken : MokV M_X2_setToken 2 3 := ⟨⟨⟨by decide, by decide, rfl⟩, (allW_in (kT_4 _ (List.mem_of_getElem? (i := 159) rfl)) rfl), (allW_in (kT_1 _ (List.mem_of_getElem? (i := 3) rfl)) rfl), by decide⟩, ⟨TX2, 16, rfl⟩, (allW_in (kT_4 _ (List.mem_of_getElem? (i := 157) rfl)) rfl), (allW_in (kT_4 _ (List.mem_of_getElem? (i := 158) rfl)) rfl)⟩
def B_X2_setToken_32 : Blk := (32, .return_, 1) :: []
theorem o_X2_setToken_32 : Chn cX2_setToken B_X2_setToken_32 := chn_of _ (by decide +kernel)
def B_X2_setToken_0 : Blk := (0, .iload_n 1, 1) :: (1, .ifCond .lt 31, 3) :: (4, .iload_n 1, 1) :: (5, .bipush 26, 2) :: (7, .if_icmp .ge 25, 3) :: (10, .iload_n 2, 1) :: (11, .ifCond .lt 21, 3) :: (14, .iload_n 2, 1) :: (15, .bipush 120, 2) :: (17, .if_icmp .ge 15, 3) :: (20, .aload_n 0, 1) :: (21, .getfield 18, 3) :: (24, .iload_n 1, 1) :: (25, .bipush 120, 2) :: (27, .imul, 1) :: (28, .iload_n 2, 1) :: (29, .iadd, 1) :: (30, .iload_n 3, 1) :: (31, .iastore, 1) :: B_X2_setToken_32
theorem o_X2_setToken_0 : Chn cX2_setToken B_X2_setToken_0 := chn_app ((0, .iload_n 1, 1) :: (1, .ifCond .lt 31, 3) :: (4, .iload_n 1, 1) :: (5, .bipush 26, 2) :: (7, .if_icmp .ge 25, 3) :: (10, .iload_n 2, 1) :: (11, .ifCond .lt 21, 3) :: (14, .iload_n 2, 1) :: (15, .bipush 120, 2) :: (17, .if_icmp .ge 15, 3) :: (20, .aload_n 0, 1) :: (21, .getfield 18, 3) :: (24, .iload_n 1, 1) :: (25, .bipush 120, 2) :: (27, .imul, 1) :: (28, .iload_n 2, 1) :: (29, .iadd, 1) :: (30, .iload_n 3, 1) :: (31, .iastore, 1) :: []) o_X2_setToken_32 (by decide +kernel)
theorem fl_2_18 : FLk RX2 18 2 2 3 true := ⟨RX2, TX2, 16, "IntegerHouse$House", "tokens", "[I", rfl, by decide, rfl, Or.inl (allW_in (kT_1 _ (List.mem_of_getElem? (i := 84) rfl)) rfl), rfl, (fun h => absurd h (by decide)), (fun h => absurd h (by decide)), (fun h => absurd h (by decide)), (fun h => absurd h (by decide))⟩
abbrev cX2_token : ByteArray := prog_4_method_16_code
def yX2_token : MethodName := ⟨RX2, "token", "(II)I"⟩
def M_X2_token : MT := (yX2_token, cX2_token, 4, (some .int), RX2, 1)
theorem mk_X2_token : MokV M_X2_token 2 2 := ⟨⟨⟨by decide, by decide, rfl⟩, (allW_in (kT_6 _ (List.mem_of_getElem? (i := 33) rfl)) rfl), (allW_in (kT_1 _ (List.mem_of_getElem? (i := 3) rfl)) rfl), by decide⟩, ⟨TX2, 16, rfl⟩, (allW_in (kT_6 _ (List.mem_of_getElem? (i := 31) rfl)) rfl), (allW_in (kT_6 _ (List.mem_of_getElem? (i := 32) rfl)) rfl)⟩
def B_X2_token_55 : Blk := (55, .ireturn, 1) :: []
theorem o_X2_token_55 : Chn cX2_token B_X2_token_55 := chn_of _ (by decide +kernel)
def B_X2_token_54 : Blk := (54, .iconst 0, 1) :: B_X2_token_55
theorem o_X2_token_54 : Chn cX2_token B_X2_token_54 := chn_app ((54, .iconst 0, 1) :: []) o_X2_token_55 (by decide +kernel)
def B_X2_token_35 : Blk := (35, .istore_n 3, 1) :: (36, .iload_n 3, 1) :: (37, .ifCond .eq 17, 3) :: (40, .aload_n 0, 1) :: (41, .getfield 18, 3) :: (44, .iload_n 1, 1) :: (45, .bipush 120, 2) :: (47, .imul, 1) :: (48, .iload_n 2, 1) :: (49, .iadd, 1) :: (50, .iaload, 1) :: (51, .goto 4, 3) :: []
theorem o_X2_token_35 : Chn cX2_token B_X2_token_35 := chn_of _ (by decide +kernel)
def B_X2_token_34 : Blk := (34, .iconst 0, 1) :: B_X2_token_35
theorem o_X2_token_34 : Chn cX2_token B_X2_token_34 := chn_app ((34, .iconst 0, 1) :: []) o_X2_token_35 (by decide +kernel)
def B_X2_token_0 : Blk := (0, .iload_n 1, 1) :: (1, .ifCond .lt 33, 3) :: (4, .iload_n 1, 1) :: (5, .bipush 26, 2) :: (7, .if_icmp .ge 27, 3) :: (10, .iload_n 2, 1) :: (11, .ifCond .lt 23, 3) :: (14, .iload_n 2, 1) :: (15, .bipush 120, 2) :: (17, .if_icmp .ge 17, 3) :: (20, .iload_n 2, 1) :: (21, .aload_n 0, 1) :: (22, .iload_n 1, 1) :: (23, .iconst 0, 1) :: (24, .invokevirtual 67, 3) :: (27, .if_icmp .ge 7, 3) :: (30, .iconst 1, 1) :: (31, .goto 4, 3) :: []
theorem o_X2_token_0 : Chn cX2_token B_X2_token_0 := chn_of _ (by decide +kernel)
theorem ml_2_67 : MLk RX2 67 yX2_fact := Or.inl (allW_in (kT_6 _ (List.mem_of_getElem? (i := 29) rfl)) rfl)
abbrev cX2_setStep : ByteArray := prog_4_method_17_code
def yX2_setStep : MethodName := ⟨RX2, "setStep", "(III)V"⟩
def M_X2_setStep : MT := (yX2_setStep, cX2_setStep, 4, none, RX2, 0)
theorem mk_X2_setStep : MokV M_X2_setStep 2 3 := ⟨⟨⟨by decide, by decide, rfl⟩, (allW_in (kT_4 _ (List.mem_of_getElem? (i := 184) rfl)) rfl), (allW_in (kT_1 _ (List.mem_of_getElem? (i := 3) rfl)) rfl), by decide⟩, ⟨TX2, 16, rfl⟩, (allW_in (kT_4 _ (List.mem_of_getElem? (i := 182) rfl)) rfl), (allW_in (kT_4 _ (List.mem_of_getElem? (i := 183) rfl)) rfl)⟩
def B_X2_setStep_34 : Blk := (34, .return_, 1) :: []
theorem o_X2_setStep_34 : Chn cX2_setStep B_X2_setStep_34 := chn_of _ (by decide +kernel)
def B_X2_setStep_0 : Blk := (0, .iload_n 1, 1) :: (1, .ifCond .lt 33, 3) :: (4, .iload_n 1, 1) :: (5, .bipush 26, 2) :: (7, .if_icmp .ge 27, 3) :: (10, .iload_n 2, 1) :: (11, .ifCond .lt 23, 3) :: (14, .iload_n 2, 1) :: (15, .sipush 512, 3) :: (18, .if_icmp .ge 16, 3) :: (21, .aload_n 0, 1) :: (22, .getfield 22, 3) :: (25, .iload_n 1, 1) :: (26, .sipush 512, 3) :: (29, .imul, 1) :: (30, .iload_n 2, 1) :: (31, .iadd, 1) :: (32, .iload_n 3, 1) :: (33, .iastore, 1) :: B_X2_setStep_34
theorem o_X2_setStep_0 : Chn cX2_setStep B_X2_setStep_0 := chn_app ((0, .iload_n 1, 1) :: (1, .ifCond .lt 33, 3) :: (4, .iload_n 1, 1) :: (5, .bipush 26, 2) :: (7, .if_icmp .ge 27, 3) :: (10, .iload_n 2, 1) :: (11, .ifCond .lt 23, 3) :: (14, .iload_n 2, 1) :: (15, .sipush 512, 3) :: (18, .if_icmp .ge 16, 3) :: (21, .aload_n 0, 1) :: (22, .getfield 22, 3) :: (25, .iload_n 1, 1) :: (26, .sipush 512, 3) :: (29, .imul, 1) :: (30, .iload_n 2, 1) :: (31, .iadd, 1) :: (32, .iload_n 3, 1) :: (33, .iastore, 1) :: []) o_X2_setStep_34 (by decide +kernel)
theorem fl_2_22 : FLk RX2 22 2 3 3 true := ⟨RX2, TX2, 16, "IntegerHouse$House", "steps", "[I", rfl, by decide, rfl, Or.inl (allW_in (kT_1 _ (List.mem_of_getElem? (i := 85) rfl)) rfl), rfl, (fun h => absurd h (by decide)), (fun h => absurd h (by decide)), (fun h => absurd h (by decide)), (fun h => absurd h (by decide))⟩
abbrev cX2_step : ByteArray := prog_4_method_18_code
def yX2_step : MethodName := ⟨RX2, "step", "(II)I"⟩
def M_X2_step : MT := (yX2_step, cX2_step, 3, (some .int), RX2, 1)
theorem mk_X2_step : MokV M_X2_step 2 2 := ⟨⟨⟨by decide, by decide, rfl⟩, (allW_in (kT_5 _ (List.mem_of_getElem? (i := 5) rfl)) rfl), (allW_in (kT_1 _ (List.mem_of_getElem? (i := 3) rfl)) rfl), by decide⟩, ⟨TX2, 16, rfl⟩, (allW_in (kT_5 _ (List.mem_of_getElem? (i := 3) rfl)) rfl), (allW_in (kT_5 _ (List.mem_of_getElem? (i := 4) rfl)) rfl)⟩
def B_X2_step_37 : Blk := (37, .ireturn, 1) :: []
theorem o_X2_step_37 : Chn cX2_step B_X2_step_37 := chn_of _ (by decide +kernel)
def B_X2_step_36 : Blk := (36, .iconst 0, 1) :: B_X2_step_37
theorem o_X2_step_36 : Chn cX2_step B_X2_step_36 := chn_app ((36, .iconst 0, 1) :: []) o_X2_step_37 (by decide +kernel)
def B_X2_step_0 : Blk := (0, .iload_n 1, 1) :: (1, .ifCond .lt 35, 3) :: (4, .iload_n 1, 1) :: (5, .bipush 26, 2) :: (7, .if_icmp .ge 29, 3) :: (10, .iload_n 2, 1) :: (11, .ifCond .lt 25, 3) :: (14, .iload_n 2, 1) :: (15, .sipush 512, 3) :: (18, .if_icmp .ge 18, 3) :: (21, .aload_n 0, 1) :: (22, .getfield 22, 3) :: (25, .iload_n 1, 1) :: (26, .sipush 512, 3) :: (29, .imul, 1) :: (30, .iload_n 2, 1) :: (31, .iadd, 1) :: (32, .iaload, 1) :: (33, .goto 4, 3) :: []
theorem o_X2_step_0 : Chn cX2_step B_X2_step_0 := chn_of _ (by decide +kernel)
abbrev cX2_poolNumber : ByteArray := prog_4_method_21_code
def yX2_poolNumber : MethodName := ⟨RX2, "poolNumber", "([I)I"⟩
def M_X2_poolNumber : MT := (yX2_poolNumber, cX2_poolNumber, 6, (some .int), RX2, 1)
theorem mk_X2_poolNumber : MokV M_X2_poolNumber 2 1 := ⟨⟨⟨by decide, by decide, rfl⟩, (allW_in (kT_5 _ (List.mem_of_getElem? (i := 65) rfl)) rfl), (allW_in (kT_1 _ (List.mem_of_getElem? (i := 3) rfl)) rfl), by decide⟩, ⟨TX2, 16, rfl⟩, (allW_in (kT_5 _ (List.mem_of_getElem? (i := 63) rfl)) rfl), (allW_in (kT_5 _ (List.mem_of_getElem? (i := 64) rfl)) rfl)⟩
def B_X2_poolNumber_167 : Blk := (167, .iload_n 2, 1) :: (168, .ireturn, 1) :: []
theorem o_X2_poolNumber_167 : Chn cX2_poolNumber B_X2_poolNumber_167 := chn_of _ (by decide +kernel)
def B_X2_poolNumber_157 : Blk := (157, .aload_n 0, 1) :: (158, .dup, 1) :: (159, .getfield 58, 3) :: (162, .iconst 1, 1) :: (163, .iadd, 1) :: (164, .putfield 58, 3) :: B_X2_poolNumber_167
theorem o_X2_poolNumber_157 : Chn cX2_poolNumber B_X2_poolNumber_157 := chn_app ((157, .aload_n 0, 1) :: (158, .dup, 1) :: (159, .getfield 58, 3) :: (162, .iconst 1, 1) :: (163, .iadd, 1) :: (164, .putfield 58, 3) :: []) o_X2_poolNumber_167 (by decide +kernel)
def B_X2_poolNumber_121 : Blk := (121, .iload 4, 2) :: (123, .bipush 6, 2) :: (125, .if_icmp .ge 32, 3) :: (128, .iload 4, 2) :: (130, .aload_n 1, 1) :: (131, .arraylength, 1) :: (132, .if_icmp .ge 25, 3) :: (135, .aload_n 0, 1) :: (136, .getfield 34, 3) :: (139, .iload_n 2, 1) :: (140, .bipush 6, 2) :: (142, .imul, 1) :: (143, .iload 4, 2) :: (145, .iadd, 1) :: (146, .aload_n 1, 1) :: (147, .iload 4, 2) :: (149, .iaload, 1) :: (150, .iastore, 1) :: (151, .iinc 4 1, 3) :: (154, .goto (-33), 3) :: []
theorem o_X2_poolNumber_121 : Chn cX2_poolNumber B_X2_poolNumber_121 := chn_of _ (by decide +kernel)
def B_X2_poolNumber_92 : Blk := (92, .iload_n 3, 1) :: (93, .ifCond .ne 74, 3) :: (96, .aload_n 0, 1) :: (97, .getfield 58, 3) :: (100, .ifCond .lt 67, 3) :: (103, .aload_n 0, 1) :: (104, .getfield 58, 3) :: (107, .sipush 640, 3) :: (110, .if_icmp .ge 57, 3) :: (113, .aload_n 0, 1) :: (114, .getfield 58, 3) :: (117, .istore_n 2, 1) :: (118, .iconst 0, 1) :: (119, .istore 4, 2) :: B_X2_poolNumber_121
theorem o_X2_poolNumber_92 : Chn cX2_poolNumber B_X2_poolNumber_92 := chn_app ((92, .iload_n 3, 1) :: (93, .ifCond .ne 74, 3) :: (96, .aload_n 0, 1) :: (97, .getfield 58, 3) :: (100, .ifCond .lt 67, 3) :: (103, .aload_n 0, 1) :: (104, .getfield 58, 3) :: (107, .sipush 640, 3) :: (110, .if_icmp .ge 57, 3) :: (113, .aload_n 0, 1) :: (114, .getfield 58, 3) :: (117, .istore_n 2, 1) :: (118, .iconst 0, 1) :: (119, .istore 4, 2) :: []) o_X2_poolNumber_121 (by decide +kernel)
def B_X2_poolNumber_86 : Blk := (86, .iinc 4 1, 3) :: (89, .goto (-82), 3) :: []
theorem o_X2_poolNumber_86 : Chn cX2_poolNumber B_X2_poolNumber_86 := chn_of _ (by decide +kernel)
def B_X2_poolNumber_79 : Blk := (79, .istore_n 3, 1) :: (80, .iinc 5 1, 3) :: (83, .goto (-47), 3) :: []
theorem o_X2_poolNumber_79 : Chn cX2_poolNumber B_X2_poolNumber_79 := chn_of _ (by decide +kernel)
def B_X2_poolNumber_78 : Blk := (78, .iconst 0, 1) :: B_X2_poolNumber_79
theorem o_X2_poolNumber_78 : Chn cX2_poolNumber B_X2_poolNumber_78 := chn_app ((78, .iconst 0, 1) :: []) o_X2_poolNumber_79 (by decide +kernel)
def B_X2_poolNumber_36 : Blk := (36, .iload 5, 2) :: (38, .bipush 6, 2) :: (40, .if_icmp .ge 46, 3) :: (43, .iload 5, 2) :: (45, .aload_n 1, 1) :: (46, .arraylength, 1) :: (47, .if_icmp .ge 39, 3) :: (50, .iload_n 3, 1) :: (51, .ifCond .eq 35, 3) :: (54, .aload_n 0, 1) :: (55, .getfield 34, 3) :: (58, .iload 4, 2) :: (60, .bipush 6, 2) :: (62, .imul, 1) :: (63, .iload 5, 2) :: (65, .iadd, 1) :: (66, .iaload, 1) :: (67, .aload_n 1, 1) :: (68, .iload 5, 2) :: (70, .iaload, 1) :: (71, .if_icmp .ne 7, 3) :: (74, .iconst 1, 1) :: (75, .goto 4, 3) :: []
theorem o_X2_poolNumber_36 : Chn cX2_poolNumber B_X2_poolNumber_36 := chn_of _ (by decide +kernel)
def B_X2_poolNumber_7 : Blk := (7, .iload 4, 2) :: (9, .aload_n 0, 1) :: (10, .getfield 58, 3) :: (13, .if_icmp .ge 79, 3) :: (16, .iload 4, 2) :: (18, .sipush 640, 3) :: (21, .if_icmp .ge 71, 3) :: (24, .iload_n 3, 1) :: (25, .ifCond .ne 67, 3) :: (28, .iload 4, 2) :: (30, .istore_n 2, 1) :: (31, .iconst 1, 1) :: (32, .istore_n 3, 1) :: (33, .iconst 0, 1) :: (34, .istore 5, 2) :: B_X2_poolNumber_36
theorem o_X2_poolNumber_7 : Chn cX2_poolNumber B_X2_poolNumber_7 := chn_app ((7, .iload 4, 2) :: (9, .aload_n 0, 1) :: (10, .getfield 58, 3) :: (13, .if_icmp .ge 79, 3) :: (16, .iload 4, 2) :: (18, .sipush 640, 3) :: (21, .if_icmp .ge 71, 3) :: (24, .iload_n 3, 1) :: (25, .ifCond .ne 67, 3) :: (28, .iload 4, 2) :: (30, .istore_n 2, 1) :: (31, .iconst 1, 1) :: (32, .istore_n 3, 1) :: (33, .iconst 0, 1) :: (34, .istore 5, 2) :: []) o_X2_poolNumber_36 (by decide +kernel)
def B_X2_poolNumber_0 : Blk := (0, .iconst 0, 1) :: (1, .istore_n 2, 1) :: (2, .iconst 0, 1) :: (3, .istore_n 3, 1) :: (4, .iconst 0, 1) :: (5, .istore 4, 2) :: B_X2_poolNumber_7
theorem o_X2_poolNumber_0 : Chn cX2_poolNumber B_X2_poolNumber_0 := chn_app ((0, .iconst 0, 1) :: (1, .istore_n 2, 1) :: (2, .iconst 0, 1) :: (3, .istore_n 3, 1) :: (4, .iconst 0, 1) :: (5, .istore 4, 2) :: []) o_X2_poolNumber_7 (by decide +kernel)
abbrev cX2_addAtom : ByteArray := prog_4_method_22_code
def yX2_addAtom : MethodName := ⟨RX2, "addAtom", "(II)Z"⟩
def M_X2_addAtom : MT := (yX2_addAtom, cX2_addAtom, 5, (some .boolean), RX2, 1)
theorem mk_X2_addAtom : MokV M_X2_addAtom 2 2 := ⟨⟨⟨by decide, by decide, rfl⟩, (allW_in (kT_5 _ (List.mem_of_getElem? (i := 69) rfl)) rfl), (allW_in (kT_1 _ (List.mem_of_getElem? (i := 3) rfl)) rfl), by decide⟩, ⟨TX2, 16, rfl⟩, (allW_in (kT_5 _ (List.mem_of_getElem? (i := 67) rfl)) rfl), (allW_in (kT_5 _ (List.mem_of_getElem? (i := 68) rfl)) rfl)⟩
def B_X2_addAtom_76 : Blk := (76, .aload_n 0, 1) :: (77, .getfield 31, 3) :: (80, .iload_n 1, 1) :: (81, .bipush 24, 2) :: (83, .imul, 1) :: (84, .iload_n 3, 1) :: (85, .iadd, 1) :: (86, .iload_n 2, 1) :: (87, .iastore, 1) :: (88, .aload_n 0, 1) :: (89, .getfield 28, 3) :: (92, .iload_n 1, 1) :: (93, .bipush 10, 2) :: (95, .imul, 1) :: (96, .iconst 4, 1) :: (97, .iadd, 1) :: (98, .iload_n 3, 1) :: (99, .iconst 1, 1) :: (100, .iadd, 1) :: (101, .iastore, 1) :: (102, .iconst 1, 1) :: (103, .ireturn, 1) :: []
theorem o_X2_addAtom_76 : Chn cX2_addAtom B_X2_addAtom_76 := chn_of _ (by decide +kernel)
def B_X2_addAtom_74 : Blk := (74, .iconst 0, 1) :: (75, .ireturn, 1) :: []
theorem o_X2_addAtom_74 : Chn cX2_addAtom B_X2_addAtom_74 := chn_of _ (by decide +kernel)
def B_X2_addAtom_64 : Blk := (64, .iload_n 3, 1) :: (65, .ifCond .lt 9, 3) :: (68, .iload_n 3, 1) :: (69, .bipush 24, 2) :: (71, .if_icmp .lt 5, 3) :: B_X2_addAtom_74
theorem o_X2_addAtom_64 : Chn cX2_addAtom B_X2_addAtom_64 := chn_app ((64, .iload_n 3, 1) :: (65, .ifCond .lt 9, 3) :: (68, .iload_n 3, 1) :: (69, .bipush 24, 2) :: (71, .if_icmp .lt 5, 3) :: []) o_X2_addAtom_74 (by decide +kernel)
def B_X2_addAtom_58 : Blk := (58, .iinc 4 1, 3) :: (61, .goto (-34), 3) :: []
theorem o_X2_addAtom_58 : Chn cX2_addAtom B_X2_addAtom_58 := chn_of _ (by decide +kernel)
def B_X2_addAtom_27 : Blk := (27, .iload 4, 2) :: (29, .iload_n 3, 1) :: (30, .if_icmp .ge 34, 3) :: (33, .iload 4, 2) :: (35, .bipush 24, 2) :: (37, .if_icmp .ge 27, 3) :: (40, .aload_n 0, 1) :: (41, .getfield 31, 3) :: (44, .iload_n 1, 1) :: (45, .bipush 24, 2) :: (47, .imul, 1) :: (48, .iload 4, 2) :: (50, .iadd, 1) :: (51, .iaload, 1) :: (52, .iload_n 2, 1) :: (53, .if_icmp .ne 5, 3) :: (56, .iconst 1, 1) :: (57, .ireturn, 1) :: []
theorem o_X2_addAtom_27 : Chn cX2_addAtom B_X2_addAtom_27 := chn_of _ (by decide +kernel)
def B_X2_addAtom_12 : Blk := (12, .aload_n 0, 1) :: (13, .getfield 28, 3) :: (16, .iload_n 1, 1) :: (17, .bipush 10, 2) :: (19, .imul, 1) :: (20, .iconst 4, 1) :: (21, .iadd, 1) :: (22, .iaload, 1) :: (23, .istore_n 3, 1) :: (24, .iconst 0, 1) :: (25, .istore 4, 2) :: B_X2_addAtom_27
theorem o_X2_addAtom_12 : Chn cX2_addAtom B_X2_addAtom_12 := chn_app ((12, .aload_n 0, 1) :: (13, .getfield 28, 3) :: (16, .iload_n 1, 1) :: (17, .bipush 10, 2) :: (19, .imul, 1) :: (20, .iconst 4, 1) :: (21, .iadd, 1) :: (22, .iaload, 1) :: (23, .istore_n 3, 1) :: (24, .iconst 0, 1) :: (25, .istore 4, 2) :: []) o_X2_addAtom_27 (by decide +kernel)
def B_X2_addAtom_10 : Blk := (10, .iconst 0, 1) :: (11, .ireturn, 1) :: []
theorem o_X2_addAtom_10 : Chn cX2_addAtom B_X2_addAtom_10 := chn_of _ (by decide +kernel)
def B_X2_addAtom_0 : Blk := (0, .iload_n 1, 1) :: (1, .ifCond .lt 9, 3) :: (4, .iload_n 1, 1) :: (5, .bipush 26, 2) :: (7, .if_icmp .lt 5, 3) :: B_X2_addAtom_10
theorem o_X2_addAtom_0 : Chn cX2_addAtom B_X2_addAtom_0 := chn_app ((0, .iload_n 1, 1) :: (1, .ifCond .lt 9, 3) :: (4, .iload_n 1, 1) :: (5, .bipush 26, 2) :: (7, .if_icmp .lt 5, 3) :: []) o_X2_addAtom_10 (by decide +kernel)
abbrev cX2_allPlain : ByteArray := prog_4_method_23_code
def yX2_allPlain : MethodName := ⟨RX2, "allPlain", "()Z"⟩
def M_X2_allPlain : MT := (yX2_allPlain, cX2_allPlain, 2, (some .boolean), RX2, 1)
theorem mk_X2_allPlain : MokV M_X2_allPlain 2 0 := ⟨⟨⟨by decide, by decide, rfl⟩, (allW_in (kT_7 _ (List.mem_of_getElem? (i := 129) rfl)) rfl), (allW_in (kT_1 _ (List.mem_of_getElem? (i := 3) rfl)) rfl), by decide⟩, ⟨TX2, 16, rfl⟩, (allW_in (kT_7 _ (List.mem_of_getElem? (i := 127) rfl)) rfl), (allW_in (kT_7 _ (List.mem_of_getElem? (i := 128) rfl)) rfl)⟩
def B_X2_allPlain_39 : Blk := (39, .iconst 1, 1) :: (40, .ireturn, 1) :: []
theorem o_X2_allPlain_39 : Chn cX2_allPlain B_X2_allPlain_39 := chn_of _ (by decide +kernel)
def B_X2_allPlain_33 : Blk := (33, .iinc 1 1, 3) :: (36, .goto (-34), 3) :: []
theorem o_X2_allPlain_33 : Chn cX2_allPlain B_X2_allPlain_33 := chn_of _ (by decide +kernel)
def B_X2_allPlain_2 : Blk := (2, .iload_n 1, 1) :: (3, .aload_n 0, 1) :: (4, .getfield 55, 3) :: (7, .if_icmp .ge 32, 3) :: (10, .aload_n 0, 1) :: (11, .getfield 61, 3) :: (14, .iload_n 1, 1) :: (15, .iushr, 1) :: (16, .iconst 1, 1) :: (17, .iand, 1) :: (18, .iconst 1, 1) :: (19, .if_icmp .ne 14, 3) :: (22, .aload_n 0, 1) :: (23, .iload_n 1, 1) :: (24, .iconst 5, 1) :: (25, .invokevirtual 67, 3) :: (28, .ifCond .ne 5, 3) :: (31, .iconst 0, 1) :: (32, .ireturn, 1) :: []
theorem o_X2_allPlain_2 : Chn cX2_allPlain B_X2_allPlain_2 := chn_of _ (by decide +kernel)
def B_X2_allPlain_0 : Blk := (0, .iconst 0, 1) :: (1, .istore_n 1, 1) :: B_X2_allPlain_2
theorem o_X2_allPlain_0 : Chn cX2_allPlain B_X2_allPlain_0 := chn_app ((0, .iconst 0, 1) :: (1, .istore_n 1, 1) :: []) o_X2_allPlain_2 (by decide +kernel)
abbrev cX2_tightness : ByteArray := prog_4_method_27_code
def yX2_tightness : MethodName := ⟨RX2, "tightness", "(I)I"⟩
def M_X2_tightness : MT := (yX2_tightness, cX2_tightness, 1, (some .int), RX2, 1)
theorem mk_X2_tightness : MokS M_X2_tightness 1 := ⟨⟨⟨by decide, by decide, rfl⟩, (allW_in (kT_6 _ (List.mem_of_getElem? (i := 48) rfl)) rfl), (allW_in (kT_1 _ (List.mem_of_getElem? (i := 3) rfl)) rfl), by decide⟩, (allW_in (kT_6 _ (List.mem_of_getElem? (i := 47) rfl)) rfl)⟩
def B_X2_tightness_33 : Blk := (33, .ireturn, 1) :: []
theorem o_X2_tightness_33 : Chn cX2_tightness B_X2_tightness_33 := chn_of _ (by decide +kernel)
def B_X2_tightness_32 : Blk := (32, .iconst 0, 1) :: B_X2_tightness_33
theorem o_X2_tightness_32 : Chn cX2_tightness B_X2_tightness_32 := chn_app ((32, .iconst 0, 1) :: []) o_X2_tightness_33 (by decide +kernel)
def B_X2_tightness_28 : Blk := (28, .iconst 1, 1) :: (29, .goto 4, 3) :: []
theorem o_X2_tightness_28 : Chn cX2_tightness B_X2_tightness_28 := chn_of _ (by decide +kernel)
def B_X2_tightness_10 : Blk := (10, .iload_n 0, 1) :: (11, .bipush 24, 2) :: (13, .if_icmp .eq 15, 3) :: (16, .iload_n 0, 1) :: (17, .bipush 19, 2) :: (19, .if_icmp .eq 9, 3) :: (22, .iload_n 0, 1) :: (23, .bipush 20, 2) :: (25, .if_icmp .ne 7, 3) :: B_X2_tightness_28
theorem o_X2_tightness_10 : Chn cX2_tightness B_X2_tightness_10 := chn_app ((10, .iload_n 0, 1) :: (11, .bipush 24, 2) :: (13, .if_icmp .eq 15, 3) :: (16, .iload_n 0, 1) :: (17, .bipush 19, 2) :: (19, .if_icmp .eq 9, 3) :: (22, .iload_n 0, 1) :: (23, .bipush 20, 2) :: (25, .if_icmp .ne 7, 3) :: []) o_X2_tightness_28 (by decide +kernel)
def B_X2_tightness_0 : Blk := (0, .iload_n 0, 1) :: (1, .bipush 23, 2) :: (3, .if_icmp .ne 7, 3) :: (6, .iconst 2, 1) :: (7, .goto 26, 3) :: []
theorem o_X2_tightness_0 : Chn cX2_tightness B_X2_tightness_0 := chn_of _ (by decide +kernel)
abbrev cX3_spelled : ByteArray := prog_5_method_16_code
def yX3_spelled : MethodName := ⟨RX3, "spelled", "(I)J"⟩
def M_X3_spelled : MT := (yX3_spelled, cX3_spelled, 4, (some .long), RX3, 2)
theorem mk_X3_spelled : MokV M_X3_spelled 3 1 := ⟨⟨⟨by decide, by decide, rfl⟩, (allW_in (kT_6 _ (List.mem_of_getElem? (i := 64) rfl)) rfl), (allW_in (kT_1 _ (List.mem_of_getElem? (i := 4) rfl)) rfl), by decide⟩, ⟨TX3, 9, rfl⟩, (allW_in (kT_6 _ (List.mem_of_getElem? (i := 62) rfl)) rfl), (allW_in (kT_6 _ (List.mem_of_getElem? (i := 63) rfl)) rfl)⟩
def B_X3_spelled_81 : Blk := (81, .lreturn, 1) :: []
theorem o_X3_spelled_81 : Chn cX3_spelled B_X3_spelled_81 := chn_of _ (by decide +kernel)
def B_X3_spelled_80 : Blk := (80, .lconst 0, 1) :: B_X3_spelled_81
theorem o_X3_spelled_80 : Chn cX3_spelled B_X3_spelled_80 := chn_app ((80, .lconst 0, 1) :: []) o_X3_spelled_81 (by decide +kernel)
def B_X3_spelled_53 : Blk := (53, .iload_n 1, 1) :: (54, .bipush 21, 2) :: (56, .isub, 1) :: (57, .istore_n 3, 1) :: (58, .iload_n 3, 1) :: (59, .ifCond .lt 21, 3) :: (62, .iload_n 3, 1) :: (63, .aload_n 0, 1) :: (64, .getfield 11, 3) :: (67, .arraylength, 1) :: (68, .if_icmp .ge 12, 3) :: (71, .aload_n 0, 1) :: (72, .getfield 11, 3) :: (75, .iload_n 3, 1) :: (76, .laload, 1) :: (77, .goto 4, 3) :: []
theorem o_X3_spelled_53 : Chn cX3_spelled B_X3_spelled_53 := chn_of _ (by decide +kernel)
def B_X3_spelled_22 : Blk := (22, .iload_n 2, 1) :: (23, .bipush 12, 2) :: (25, .if_icmp .lt 28, 3) :: (28, .iload_n 2, 1) :: (29, .bipush 17, 2) :: (31, .if_icmp .ge 22, 3) :: (34, .ldc 86, 2) :: (36, .iload_n 2, 1) :: (37, .invokevirtual 44, 3) :: (40, .i2l, 1) :: (41, .bipush 8, 2) :: (43, .lshl, 1) :: (44, .ldc 84, 2) :: (46, .iload_n 2, 1) :: (47, .invokevirtual 44, 3) :: (50, .i2l, 1) :: (51, .lor, 1) :: (52, .lreturn, 1) :: []
theorem o_X3_spelled_22 : Chn cX3_spelled B_X3_spelled_22 := chn_of _ (by decide +kernel)
def B_X3_spelled_0 : Blk := (0, .iload_n 1, 1) :: (1, .iconst 4, 1) :: (2, .isub, 1) :: (3, .istore_n 2, 1) :: (4, .iload_n 2, 1) :: (5, .ifCond .lt 17, 3) :: (8, .iload_n 2, 1) :: (9, .bipush 12, 2) :: (11, .if_icmp .ge 11, 3) :: (14, .ldc 86, 2) :: (16, .iload_n 2, 1) :: (17, .invokevirtual 44, 3) :: (20, .i2l, 1) :: (21, .lreturn, 1) :: []
theorem o_X3_spelled_0 : Chn cX3_spelled B_X3_spelled_0 := chn_of _ (by decide +kernel)
theorem fl_3_11 : FLk RX3 11 3 0 3 true := ⟨RX3, TX3, 9, "IntegerHouse$Lexer", "words", "[J", rfl, by decide, rfl, Or.inl (allW_in (kT_1 _ (List.mem_of_getElem? (i := 210) rfl)) rfl), rfl, (fun h => absurd h (by decide)), (fun h => absurd h (by decide)), (fun h => absurd h (by decide)), (fun h => absurd h (by decide))⟩
theorem ml_3_44 : MLk RX3 44 yJ0_charAt_5068e := Or.inl (allW_in (kT_1 _ (List.mem_of_getElem? (i := 172) rfl)) rfl)
abbrev cX3_spelledNumber : ByteArray := prog_5_method_17_code
def yX3_spelledNumber : MethodName := ⟨RX3, "spelledNumber", "(I)J"⟩
def M_X3_spelledNumber : MT := (yX3_spelledNumber, cX3_spelledNumber, 6, (some .long), RX3, 2)
theorem mk_X3_spelledNumber : MokS M_X3_spelledNumber 1 := ⟨⟨⟨by decide, by decide, rfl⟩, (allW_in (kT_6 _ (List.mem_of_getElem? (i := 67) rfl)) rfl), (allW_in (kT_1 _ (List.mem_of_getElem? (i := 4) rfl)) rfl), by decide⟩, (allW_in (kT_6 _ (List.mem_of_getElem? (i := 66) rfl)) rfl)⟩
def B_X3_spelledNumber_54 : Blk := (54, .lload_n 1, 1) :: (55, .lreturn, 1) :: []
theorem o_X3_spelledNumber_54 : Chn cX3_spelledNumber B_X3_spelledNumber_54 := chn_of _ (by decide +kernel)
def B_X3_spelledNumber_19 : Blk := (19, .iload 5, 2) :: (21, .iload 4, 2) :: (23, .if_icmp .ge 31, 3) :: (26, .lload_n 1, 1) :: (27, .bipush 48, 2) :: (29, .iload_n 3, 1) :: (30, .bipush 10, 2) :: (32, .irem, 1) :: (33, .iadd, 1) :: (34, .i2l, 1) :: (35, .bipush 8, 2) :: (37, .iload 5, 2) :: (39, .imul, 1) :: (40, .lshl, 1) :: (41, .lor, 1) :: (42, .lstore_n 1, 1) :: (43, .iload_n 3, 1) :: (44, .bipush 10, 2) :: (46, .idiv, 1) :: (47, .istore_n 3, 1) :: (48, .iinc 5 1, 3) :: (51, .goto (-32), 3) :: []
theorem o_X3_spelledNumber_19 : Chn cX3_spelledNumber B_X3_spelledNumber_19 := chn_of _ (by decide +kernel)
def B_X3_spelledNumber_0 : Blk := (0, .lconst 0, 1) :: (1, .lstore_n 1, 1) :: (2, .iload_n 0, 1) :: (3, .ldc 58, 2) :: (5, .iand, 1) :: (6, .istore_n 3, 1) :: (7, .iload_n 0, 1) :: (8, .bipush 20, 2) :: (10, .ishr, 1) :: (11, .bipush 7, 2) :: (13, .iand, 1) :: (14, .istore 4, 2) :: (16, .iconst 0, 1) :: (17, .istore 5, 2) :: B_X3_spelledNumber_19
theorem o_X3_spelledNumber_0 : Chn cX3_spelledNumber B_X3_spelledNumber_0 := chn_app ((0, .lconst 0, 1) :: (1, .lstore_n 1, 1) :: (2, .iload_n 0, 1) :: (3, .ldc 58, 2) :: (5, .iand, 1) :: (6, .istore_n 3, 1) :: (7, .iload_n 0, 1) :: (8, .bipush 20, 2) :: (10, .ishr, 1) :: (11, .bipush 7, 2) :: (13, .iand, 1) :: (14, .istore 4, 2) :: (16, .iconst 0, 1) :: (17, .istore 5, 2) :: []) o_X3_spelledNumber_19 (by decide +kernel)
abbrev cX2_showByte : ByteArray := prog_4_method_31_code
def yX2_showByte : MethodName := ⟨RX2, "showByte", "(I)V"⟩
def M_X2_showByte : MT := (yX2_showByte, cX2_showByte, 2, none, RX2, 0)
theorem mk_X2_showByte : MokV M_X2_showByte 2 1 := ⟨⟨⟨by decide, by decide, rfl⟩, (allW_in (kT_6 _ (List.mem_of_getElem? (i := 71) rfl)) rfl), (allW_in (kT_1 _ (List.mem_of_getElem? (i := 3) rfl)) rfl), by decide⟩, ⟨TX2, 16, rfl⟩, (allW_in (kT_6 _ (List.mem_of_getElem? (i := 70) rfl)) rfl), (allW_in (kTs_5 _ (List.mem_of_getElem? (i := 1) rfl)) rfl)⟩
def B_X2_showByte_38 : Blk := (38, .return_, 1) :: []
theorem o_X2_showByte_38 : Chn cX2_showByte B_X2_showByte_38 := chn_of _ (by decide +kernel)
def B_X2_showByte_0 : Blk := (0, .aload_n 0, 1) :: (1, .getfield 71, 3) :: (4, .ifCond .lt 34, 3) :: (7, .aload_n 0, 1) :: (8, .getfield 71, 3) :: (11, .sipush 1200, 3) :: (14, .if_icmp .ge 24, 3) :: (17, .aload_n 0, 1) :: (18, .getfield 40, 3) :: (21, .aload_n 0, 1) :: (22, .getfield 71, 3) :: (25, .iload_n 1, 1) :: (26, .i2b, 1) :: (27, .bastore, 1) :: (28, .aload_n 0, 1) :: (29, .dup, 1) :: (30, .getfield 71, 3) :: (33, .iconst 1, 1) :: (34, .iadd, 1) :: (35, .putfield 71, 3) :: B_X2_showByte_38
theorem o_X2_showByte_0 : Chn cX2_showByte B_X2_showByte_0 := chn_app ((0, .aload_n 0, 1) :: (1, .getfield 71, 3) :: (4, .ifCond .lt 34, 3) :: (7, .aload_n 0, 1) :: (8, .getfield 71, 3) :: (11, .sipush 1200, 3) :: (14, .if_icmp .ge 24, 3) :: (17, .aload_n 0, 1) :: (18, .getfield 40, 3) :: (21, .aload_n 0, 1) :: (22, .getfield 71, 3) :: (25, .iload_n 1, 1) :: (26, .i2b, 1) :: (27, .bastore, 1) :: (28, .aload_n 0, 1) :: (29, .dup, 1) :: (30, .getfield 71, 3) :: (33, .iconst 1, 1) :: (34, .iadd, 1) :: (35, .putfield 71, 3) :: []) o_X2_showByte_38 (by decide +kernel)
theorem fl_2_71 : FLk RX2 71 2 15 0 false := ⟨RX2, TX2, 16, "IntegerHouse$House", "shownSize", "I", rfl, by decide, rfl, Or.inl (allW_in (kT_1 _ (List.mem_of_getElem? (i := 116) rfl)) rfl), rfl, (fun _ => rfl), (fun h => absurd h (by decide)), (fun h => absurd h (by decide)), (fun h => absurd h (by decide))⟩
theorem fl_2_40 : FLk RX2 40 2 9 3 true := ⟨RX2, TX2, 16, "IntegerHouse$House", "shown", "[B", rfl, by decide, rfl, Or.inl (allW_in (kT_1 _ (List.mem_of_getElem? (i := 93) rfl)) rfl), rfl, (fun h => absurd h (by decide)), (fun h => absurd h (by decide)), (fun h => absurd h (by decide)), (fun h => absurd h (by decide))⟩
abbrev cX2_showToken : ByteArray := prog_4_method_30_code
def yX2_showToken : MethodName := ⟨RX2, "showToken", "(ILIntegerHouse$Lexer;)V"⟩
def M_X2_showToken : MT := (yX2_showToken, cX2_showToken, 9, none, RX2, 0)
theorem mk_X2_showToken : MokV M_X2_showToken 2 2 := ⟨⟨⟨by decide, by decide, rfl⟩, (allW_in (kT_6 _ (List.mem_of_getElem? (i := 60) rfl)) rfl), (allW_in (kT_1 _ (List.mem_of_getElem? (i := 3) rfl)) rfl), by decide⟩, ⟨TX2, 16, rfl⟩, (allW_in (kT_6 _ (List.mem_of_getElem? (i := 59) rfl)) rfl), (allW_in (kTs_5 _ (List.mem_of_getElem? (i := 0) rfl)) rfl)⟩
def B_X2_showToken_140 : Blk := (140, .return_, 1) :: []
theorem o_X2_showToken_140 : Chn cX2_showToken B_X2_showToken_140 := chn_of _ (by decide +kernel)
def B_X2_showToken_134 : Blk := (134, .iinc 7 (-8), 3) :: (137, .goto (-31), 3) :: []
theorem o_X2_showToken_134 : Chn cX2_showToken B_X2_showToken_134 := chn_of _ (by decide +kernel)
def B_X2_showToken_106 : Blk := (106, .iload 7, 2) :: (108, .ifCond .lt 32, 3) :: (111, .lload 5, 2) :: (113, .iload 7, 2) :: (115, .lushr, 1) :: (116, .l2i, 1) :: (117, .sipush 255, 3) :: (120, .iand, 1) :: (121, .istore 8, 2) :: (123, .iload 8, 2) :: (125, .ifCond .eq 9, 3) :: (128, .aload_n 0, 1) :: (129, .iload 8, 2) :: (131, .invokevirtual 116, 3) :: B_X2_showToken_134
theorem o_X2_showToken_106 : Chn cX2_showToken B_X2_showToken_106 := chn_app ((106, .iload 7, 2) :: (108, .ifCond .lt 32, 3) :: (111, .lload 5, 2) :: (113, .iload 7, 2) :: (115, .lushr, 1) :: (116, .l2i, 1) :: (117, .sipush 255, 3) :: (120, .iand, 1) :: (121, .istore 8, 2) :: (123, .iload 8, 2) :: (125, .ifCond .eq 9, 3) :: (128, .aload_n 0, 1) :: (129, .iload 8, 2) :: (131, .invokevirtual 116, 3) :: []) o_X2_showToken_134 (by decide +kernel)
def B_X2_showToken_102 : Blk := (102, .bipush 56, 2) :: (104, .istore 7, 2) :: B_X2_showToken_106
theorem o_X2_showToken_102 : Chn cX2_showToken B_X2_showToken_102 := chn_app ((102, .bipush 56, 2) :: (104, .istore 7, 2) :: []) o_X2_showToken_106 (by decide +kernel)
def B_X2_showToken_89 : Blk := (89, .aload_n 0, 1) :: (90, .getfield 71, 3) :: (93, .ifCond .le 9, 3) :: (96, .aload_n 0, 1) :: (97, .bipush 32, 2) :: (99, .invokevirtual 116, 3) :: B_X2_showToken_102
theorem o_X2_showToken_89 : Chn cX2_showToken B_X2_showToken_89 := chn_app ((89, .aload_n 0, 1) :: (90, .getfield 71, 3) :: (93, .ifCond .le 9, 3) :: (96, .aload_n 0, 1) :: (97, .bipush 32, 2) :: (99, .invokevirtual 116, 3) :: []) o_X2_showToken_102 (by decide +kernel)
def B_X2_showToken_62 : Blk := (62, .iload_n 3, 1) :: (63, .bipush 42, 2) :: (65, .if_icmp .ne 24, 3) :: (68, .iload 4, 2) :: (70, .ifCond .lt 19, 3) :: (73, .iload 4, 2) :: (75, .bipush 24, 2) :: (77, .if_icmp .ge 12, 3) :: (80, .aload_n 0, 1) :: (81, .getfield 15, 3) :: (84, .iload 4, 2) :: (86, .laload, 1) :: (87, .lstore 5, 2) :: B_X2_showToken_89
theorem o_X2_showToken_62 : Chn cX2_showToken B_X2_showToken_62 := chn_app ((62, .iload_n 3, 1) :: (63, .bipush 42, 2) :: (65, .if_icmp .ne 24, 3) :: (68, .iload 4, 2) :: (70, .ifCond .lt 19, 3) :: (73, .iload 4, 2) :: (75, .bipush 24, 2) :: (77, .if_icmp .ge 12, 3) :: (80, .aload_n 0, 1) :: (81, .getfield 15, 3) :: (84, .iload 4, 2) :: (86, .laload, 1) :: (87, .lstore 5, 2) :: []) o_X2_showToken_89 (by decide +kernel)
def B_X2_showToken_33 : Blk := (33, .iload_n 3, 1) :: (34, .bipush 41, 2) :: (36, .if_icmp .ne 26, 3) :: (39, .iload 4, 2) :: (41, .ifCond .lt 21, 3) :: (44, .iload 4, 2) :: (46, .iconst 4, 1) :: (47, .if_icmp .ge 15, 3) :: (50, .aload_n 0, 1) :: (51, .getfield 9, 3) :: (54, .iload 4, 2) :: (56, .laload, 1) :: (57, .lstore 5, 2) :: (59, .goto 30, 3) :: []
theorem o_X2_showToken_33 : Chn cX2_showToken B_X2_showToken_33 := chn_of _ (by decide +kernel)
def B_X2_showToken_0 : Blk := (0, .iload_n 1, 1) :: (1, .bipush 63, 2) :: (3, .iand, 1) :: (4, .istore_n 3, 1) :: (5, .iload_n 1, 1) :: (6, .bipush 6, 2) :: (8, .ishr, 1) :: (9, .istore 4, 2) :: (11, .aload_n 2, 1) :: (12, .iload_n 3, 1) :: (13, .invokevirtual 107, 3) :: (16, .lstore 5, 2) :: (18, .iload_n 3, 1) :: (19, .iconst 2, 1) :: (20, .if_icmp .ne 13, 3) :: (23, .iload 4, 2) :: (25, .invokestatic 113, 3) :: (28, .lstore 5, 2) :: (30, .goto 59, 3) :: []
theorem o_X2_showToken_0 : Chn cX2_showToken B_X2_showToken_0 := chn_of _ (by decide +kernel)
theorem ml_2_107 : MLk RX2 107 yX3_spelled := Or.inl (allW_in (kT_6 _ (List.mem_of_getElem? (i := 61) rfl)) rfl)
theorem ml_2_116 : MLk RX2 116 yX2_showByte := Or.inl (allW_in (kT_6 _ (List.mem_of_getElem? (i := 68) rfl)) rfl)
theorem ml_2_113 : MLk RX2 113 yX3_spelledNumber := Or.inl (allW_in (kT_6 _ (List.mem_of_getElem? (i := 65) rfl)) rfl)
abbrev cX2_shownByte : ByteArray := prog_4_method_32_code
def yX2_shownByte : MethodName := ⟨RX2, "shownByte", "(I)I"⟩
def M_X2_shownByte : MT := (yX2_shownByte, cX2_shownByte, 2, (some .int), RX2, 1)
theorem mk_X2_shownByte : MokV M_X2_shownByte 2 1 := ⟨⟨⟨by decide, by decide, rfl⟩, (allW_in (kT_6 _ (List.mem_of_getElem? (i := 79) rfl)) rfl), (allW_in (kT_1 _ (List.mem_of_getElem? (i := 3) rfl)) rfl), by decide⟩, ⟨TX2, 16, rfl⟩, (allW_in (kT_6 _ (List.mem_of_getElem? (i := 77) rfl)) rfl), (allW_in (kT_6 _ (List.mem_of_getElem? (i := 78) rfl)) rfl)⟩
def B_X2_shownByte_33 : Blk := (33, .ireturn, 1) :: []
theorem o_X2_shownByte_33 : Chn cX2_shownByte B_X2_shownByte_33 := chn_of _ (by decide +kernel)
def B_X2_shownByte_32 : Blk := (32, .iconst (-1), 1) :: B_X2_shownByte_33
theorem o_X2_shownByte_32 : Chn cX2_shownByte B_X2_shownByte_32 := chn_app ((32, .iconst (-1), 1) :: []) o_X2_shownByte_33 (by decide +kernel)
def B_X2_shownByte_0 : Blk := (0, .iload_n 1, 1) :: (1, .ifCond .lt 31, 3) :: (4, .iload_n 1, 1) :: (5, .aload_n 0, 1) :: (6, .getfield 71, 3) :: (9, .if_icmp .ge 23, 3) :: (12, .iload_n 1, 1) :: (13, .sipush 1200, 3) :: (16, .if_icmp .ge 16, 3) :: (19, .aload_n 0, 1) :: (20, .getfield 40, 3) :: (23, .iload_n 1, 1) :: (24, .baload, 1) :: (25, .sipush 255, 3) :: (28, .iand, 1) :: (29, .goto 4, 3) :: []
theorem o_X2_shownByte_0 : Chn cX2_shownByte B_X2_shownByte_0 := chn_of _ (by decide +kernel)
abbrev cX3_packed : ByteArray := prog_5_method_2_code
def yX3_packed : MethodName := ⟨RX3, "packed", "(Ljava/lang/String;I)J"⟩
def M_X3_packed : MT := (yX3_packed, cX3_packed, 5, (some .long), RX3, 2)
theorem mk_X3_packed : MokS M_X3_packed 2 := ⟨⟨⟨by decide, by decide, rfl⟩, (allW_in (kT_1 _ (List.mem_of_getElem? (i := 161) rfl)) rfl), (allW_in (kT_1 _ (List.mem_of_getElem? (i := 4) rfl)) rfl), by decide⟩, (allW_in (kT_1 _ (List.mem_of_getElem? (i := 160) rfl)) rfl)⟩
def B_X3_packed_53 : Blk := (53, .lload_n 2, 1) :: (54, .lreturn, 1) :: []
theorem o_X3_packed_53 : Chn cX3_packed B_X3_packed_53 := chn_of _ (by decide +kernel)
def B_X3_packed_5 : Blk := (5, .iload 4, 2) :: (7, .iload_n 1, 1) :: (8, .bipush 8, 2) :: (10, .iadd, 1) :: (11, .if_icmp .ge 42, 3) :: (14, .iload 4, 2) :: (16, .aload_n 0, 1) :: (17, .invokevirtual 38, 3) :: (20, .if_icmp .ge 33, 3) :: (23, .aload_n 0, 1) :: (24, .iload 4, 2) :: (26, .invokevirtual 44, 3) :: (29, .bipush 32, 2) :: (31, .if_icmp .eq 22, 3) :: (34, .lload_n 2, 1) :: (35, .bipush 8, 2) :: (37, .lshl, 1) :: (38, .aload_n 0, 1) :: (39, .iload 4, 2) :: (41, .invokevirtual 44, 3) :: (44, .i2l, 1) :: (45, .lor, 1) :: (46, .lstore_n 2, 1) :: (47, .iinc 4 1, 3) :: (50, .goto (-45), 3) :: []
theorem o_X3_packed_5 : Chn cX3_packed B_X3_packed_5 := chn_of _ (by decide +kernel)
def B_X3_packed_0 : Blk := (0, .lconst 0, 1) :: (1, .lstore_n 2, 1) :: (2, .iload_n 1, 1) :: (3, .istore 4, 2) :: B_X3_packed_5
theorem o_X3_packed_0 : Chn cX3_packed B_X3_packed_0 := chn_app ((0, .lconst 0, 1) :: (1, .lstore_n 2, 1) :: (2, .iload_n 1, 1) :: (3, .istore 4, 2) :: []) o_X3_packed_5 (by decide +kernel)
theorem ml_3_38 : MLk RX3 38 yJ0_length_8abf5 := Or.inl (allW_in (kT_1 _ (List.mem_of_getElem? (i := 162) rfl)) rfl)
abbrev cX3_kindAt : ByteArray := prog_5_method_3_code
def yX3_kindAt : MethodName := ⟨RX3, "kindAt", "(I)I"⟩
def M_X3_kindAt : MT := (yX3_kindAt, cX3_kindAt, 2, (some .int), RX3, 1)
theorem mk_X3_kindAt : MokV M_X3_kindAt 3 1 := ⟨⟨⟨by decide, by decide, rfl⟩, (allW_in (kT_4 _ (List.mem_of_getElem? (i := 212) rfl)) rfl), (allW_in (kT_1 _ (List.mem_of_getElem? (i := 4) rfl)) rfl), by decide⟩, ⟨TX3, 9, rfl⟩, (allW_in (kT_4 _ (List.mem_of_getElem? (i := 210) rfl)) rfl), (allW_in (kT_4 _ (List.mem_of_getElem? (i := 211) rfl)) rfl)⟩
def B_X3_kindAt_22 : Blk := (22, .ireturn, 1) :: []
theorem o_X3_kindAt_22 : Chn cX3_kindAt B_X3_kindAt_22 := chn_of _ (by decide +kernel)
def B_X3_kindAt_21 : Blk := (21, .iconst 0, 1) :: B_X3_kindAt_22
theorem o_X3_kindAt_21 : Chn cX3_kindAt B_X3_kindAt_21 := chn_app ((21, .iconst 0, 1) :: []) o_X3_kindAt_22 (by decide +kernel)
def B_X3_kindAt_0 : Blk := (0, .iload_n 1, 1) :: (1, .ifCond .lt 20, 3) :: (4, .iload_n 1, 1) :: (5, .aload_n 0, 1) :: (6, .getfield 48, 3) :: (9, .if_icmp .ge 12, 3) :: (12, .aload_n 0, 1) :: (13, .getfield 15, 3) :: (16, .iload_n 1, 1) :: (17, .iaload, 1) :: (18, .goto 4, 3) :: []
theorem o_X3_kindAt_0 : Chn cX3_kindAt B_X3_kindAt_0 := chn_of _ (by decide +kernel)
theorem fl_3_48 : FLk RX3 48 3 5 0 false := ⟨RX3, TX3, 9, "IntegerHouse$Lexer", "size", "I", rfl, by decide, rfl, Or.inl (allW_in (kT_1 _ (List.mem_of_getElem? (i := 217) rfl)) rfl), rfl, (fun _ => rfl), (fun h => absurd h (by decide)), (fun h => absurd h (by decide)), (fun h => absurd h (by decide))⟩
theorem fl_3_15 : FLk RX3 15 3 1 3 true := ⟨RX3, TX3, 9, "IntegerHouse$Lexer", "kinds", "[I", rfl, by decide, rfl, Or.inl (allW_in (kT_1 _ (List.mem_of_getElem? (i := 211) rfl)) rfl), rfl, (fun h => absurd h (by decide)), (fun h => absurd h (by decide)), (fun h => absurd h (by decide)), (fun h => absurd h (by decide))⟩
abbrev cX3_placeAt : ByteArray := prog_5_method_4_code
def yX3_placeAt : MethodName := ⟨RX3, "placeAt", "(I)I"⟩
def M_X3_placeAt : MT := (yX3_placeAt, cX3_placeAt, 2, (some .int), RX3, 1)
theorem mk_X3_placeAt : MokV M_X3_placeAt 3 1 := ⟨⟨⟨by decide, by decide, rfl⟩, (allW_in (kT_8 _ (List.mem_of_getElem? (i := 83) rfl)) rfl), (allW_in (kT_1 _ (List.mem_of_getElem? (i := 4) rfl)) rfl), by decide⟩, ⟨TX3, 9, rfl⟩, (allW_in (kT_8 _ (List.mem_of_getElem? (i := 81) rfl)) rfl), (allW_in (kT_8 _ (List.mem_of_getElem? (i := 82) rfl)) rfl)⟩
def B_X3_placeAt_30 : Blk := (30, .ireturn, 1) :: []
theorem o_X3_placeAt_30 : Chn cX3_placeAt B_X3_placeAt_30 := chn_of _ (by decide +kernel)
def B_X3_placeAt_21 : Blk := (21, .aload_n 0, 1) :: (22, .getfield 52, 3) :: (25, .aload_n 0, 1) :: (26, .getfield 55, 3) :: (29, .isub, 1) :: B_X3_placeAt_30
theorem o_X3_placeAt_21 : Chn cX3_placeAt B_X3_placeAt_21 := chn_app ((21, .aload_n 0, 1) :: (22, .getfield 52, 3) :: (25, .aload_n 0, 1) :: (26, .getfield 55, 3) :: (29, .isub, 1) :: []) o_X3_placeAt_30 (by decide +kernel)
def B_X3_placeAt_0 : Blk := (0, .iload_n 1, 1) :: (1, .ifCond .lt 20, 3) :: (4, .iload_n 1, 1) :: (5, .aload_n 0, 1) :: (6, .getfield 48, 3) :: (9, .if_icmp .ge 12, 3) :: (12, .aload_n 0, 1) :: (13, .getfield 19, 3) :: (16, .iload_n 1, 1) :: (17, .iaload, 1) :: (18, .goto 12, 3) :: []
theorem o_X3_placeAt_0 : Chn cX3_placeAt B_X3_placeAt_0 := chn_of _ (by decide +kernel)
theorem fl_3_52 : FLk RX3 52 3 8 0 false := ⟨RX3, TX3, 9, "IntegerHouse$Lexer", "stop", "I", rfl, by decide, rfl, Or.inl (allW_in (kT_1 _ (List.mem_of_getElem? (i := 221) rfl)) rfl), rfl, (fun _ => rfl), (fun h => absurd h (by decide)), (fun h => absurd h (by decide)), (fun h => absurd h (by decide))⟩
theorem fl_3_55 : FLk RX3 55 3 7 0 false := ⟨RX3, TX3, 9, "IntegerHouse$Lexer", "begin", "I", rfl, by decide, rfl, Or.inl (allW_in (kT_1 _ (List.mem_of_getElem? (i := 220) rfl)) rfl), rfl, (fun _ => rfl), (fun h => absurd h (by decide)), (fun h => absurd h (by decide)), (fun h => absurd h (by decide))⟩
theorem fl_3_19 : FLk RX3 19 3 2 3 true := ⟨RX3, TX3, 9, "IntegerHouse$Lexer", "spots", "[I", rfl, by decide, rfl, Or.inl (allW_in (kT_1 _ (List.mem_of_getElem? (i := 213) rfl)) rfl), rfl, (fun h => absurd h (by decide)), (fun h => absurd h (by decide)), (fun h => absurd h (by decide)), (fun h => absurd h (by decide))⟩
abbrev cX3_numberAt : ByteArray := prog_5_method_5_code
def yX3_numberAt : MethodName := ⟨RX3, "numberAt", "(I)I"⟩
def M_X3_numberAt : MT := (yX3_numberAt, cX3_numberAt, 2, (some .int), RX3, 1)
theorem mk_X3_numberAt : MokV M_X3_numberAt 3 1 := ⟨⟨⟨by decide, by decide, rfl⟩, (allW_in (kT_4 _ (List.mem_of_getElem? (i := 167) rfl)) rfl), (allW_in (kT_1 _ (List.mem_of_getElem? (i := 4) rfl)) rfl), by decide⟩, ⟨TX3, 9, rfl⟩, (allW_in (kT_4 _ (List.mem_of_getElem? (i := 165) rfl)) rfl), (allW_in (kT_4 _ (List.mem_of_getElem? (i := 166) rfl)) rfl)⟩
def B_X3_numberAt_25 : Blk := (25, .ireturn, 1) :: []
theorem o_X3_numberAt_25 : Chn cX3_numberAt B_X3_numberAt_25 := chn_of _ (by decide +kernel)
def B_X3_numberAt_24 : Blk := (24, .iconst 0, 1) :: B_X3_numberAt_25
theorem o_X3_numberAt_24 : Chn cX3_numberAt B_X3_numberAt_24 := chn_app ((24, .iconst 0, 1) :: []) o_X3_numberAt_25 (by decide +kernel)
def B_X3_numberAt_0 : Blk := (0, .iload_n 1, 1) :: (1, .ifCond .lt 23, 3) :: (4, .iload_n 1, 1) :: (5, .aload_n 0, 1) :: (6, .getfield 48, 3) :: (9, .if_icmp .ge 15, 3) :: (12, .aload_n 0, 1) :: (13, .getfield 22, 3) :: (16, .iload_n 1, 1) :: (17, .iaload, 1) :: (18, .ldc 58, 2) :: (20, .iand, 1) :: (21, .goto 4, 3) :: []
theorem o_X3_numberAt_0 : Chn cX3_numberAt B_X3_numberAt_0 := chn_of _ (by decide +kernel)
theorem fl_3_22 : FLk RX3 22 3 3 3 true := ⟨RX3, TX3, 9, "IntegerHouse$Lexer", "numbers", "[I", rfl, by decide, rfl, Or.inl (allW_in (kT_1 _ (List.mem_of_getElem? (i := 215) rfl)) rfl), rfl, (fun h => absurd h (by decide)), (fun h => absurd h (by decide)), (fun h => absurd h (by decide)), (fun h => absurd h (by decide))⟩
abbrev cX3_writtenAt : ByteArray := prog_5_method_6_code
def yX3_writtenAt : MethodName := ⟨RX3, "writtenAt", "(I)I"⟩
def M_X3_writtenAt : MT := (yX3_writtenAt, cX3_writtenAt, 2, (some .int), RX3, 1)
theorem mk_X3_writtenAt : MokV M_X3_writtenAt 3 1 := ⟨⟨⟨by decide, by decide, rfl⟩, (allW_in (kT_4 _ (List.mem_of_getElem? (i := 172) rfl)) rfl), (allW_in (kT_1 _ (List.mem_of_getElem? (i := 4) rfl)) rfl), by decide⟩, ⟨TX3, 9, rfl⟩, (allW_in (kT_4 _ (List.mem_of_getElem? (i := 170) rfl)) rfl), (allW_in (kT_4 _ (List.mem_of_getElem? (i := 171) rfl)) rfl)⟩
def B_X3_writtenAt_22 : Blk := (22, .ireturn, 1) :: []
theorem o_X3_writtenAt_22 : Chn cX3_writtenAt B_X3_writtenAt_22 := chn_of _ (by decide +kernel)
def B_X3_writtenAt_21 : Blk := (21, .iconst 0, 1) :: B_X3_writtenAt_22
theorem o_X3_writtenAt_21 : Chn cX3_writtenAt B_X3_writtenAt_21 := chn_app ((21, .iconst 0, 1) :: []) o_X3_writtenAt_22 (by decide +kernel)
def B_X3_writtenAt_0 : Blk := (0, .iload_n 1, 1) :: (1, .ifCond .lt 20, 3) :: (4, .iload_n 1, 1) :: (5, .aload_n 0, 1) :: (6, .getfield 48, 3) :: (9, .if_icmp .ge 12, 3) :: (12, .aload_n 0, 1) :: (13, .getfield 22, 3) :: (16, .iload_n 1, 1) :: (17, .iaload, 1) :: (18, .goto 4, 3) :: []
theorem o_X3_writtenAt_0 : Chn cX3_writtenAt B_X3_writtenAt_0 := chn_of _ (by decide +kernel)
abbrev cX3_nameAt : ByteArray := prog_5_method_7_code
def yX3_nameAt : MethodName := ⟨RX3, "nameAt", "(I)J"⟩
def M_X3_nameAt : MT := (yX3_nameAt, cX3_nameAt, 2, (some .long), RX3, 2)
theorem mk_X3_nameAt : MokV M_X3_nameAt 3 1 := ⟨⟨⟨by decide, by decide, rfl⟩, (allW_in (kT_4 _ (List.mem_of_getElem? (i := 115) rfl)) rfl), (allW_in (kT_1 _ (List.mem_of_getElem? (i := 4) rfl)) rfl), by decide⟩, ⟨TX3, 9, rfl⟩, (allW_in (kT_4 _ (List.mem_of_getElem? (i := 113) rfl)) rfl), (allW_in (kT_4 _ (List.mem_of_getElem? (i := 114) rfl)) rfl)⟩
def B_X3_nameAt_22 : Blk := (22, .lreturn, 1) :: []
theorem o_X3_nameAt_22 : Chn cX3_nameAt B_X3_nameAt_22 := chn_of _ (by decide +kernel)
def B_X3_nameAt_21 : Blk := (21, .lconst 0, 1) :: B_X3_nameAt_22
theorem o_X3_nameAt_21 : Chn cX3_nameAt B_X3_nameAt_21 := chn_app ((21, .lconst 0, 1) :: []) o_X3_nameAt_22 (by decide +kernel)
def B_X3_nameAt_0 : Blk := (0, .iload_n 1, 1) :: (1, .ifCond .lt 20, 3) :: (4, .iload_n 1, 1) :: (5, .aload_n 0, 1) :: (6, .getfield 48, 3) :: (9, .if_icmp .ge 12, 3) :: (12, .aload_n 0, 1) :: (13, .getfield 25, 3) :: (16, .iload_n 1, 1) :: (17, .laload, 1) :: (18, .goto 4, 3) :: []
theorem o_X3_nameAt_0 : Chn cX3_nameAt B_X3_nameAt_0 := chn_of _ (by decide +kernel)
theorem fl_3_25 : FLk RX3 25 3 4 3 true := ⟨RX3, TX3, 9, "IntegerHouse$Lexer", "names", "[J", rfl, by decide, rfl, Or.inl (allW_in (kT_1 _ (List.mem_of_getElem? (i := 216) rfl)) rfl), rfl, (fun h => absurd h (by decide)), (fun h => absurd h (by decide)), (fun h => absurd h (by decide)), (fun h => absurd h (by decide))⟩
abbrev cX3_byteAt : ByteArray := prog_5_method_9_code
def yX3_byteAt : MethodName := ⟨RX3, "byteAt", "(I)I"⟩
def M_X3_byteAt : MT := (yX3_byteAt, cX3_byteAt, 2, (some .int), RX3, 1)
theorem mk_X3_byteAt : MokV M_X3_byteAt 3 1 := ⟨⟨⟨by decide, by decide, rfl⟩, (allW_in (kT_4 _ (List.mem_of_getElem? (i := 79) rfl)) rfl), (allW_in (kT_1 _ (List.mem_of_getElem? (i := 4) rfl)) rfl), by decide⟩, ⟨TX3, 9, rfl⟩, (allW_in (kT_4 _ (List.mem_of_getElem? (i := 78) rfl)) rfl), (allW_in (kTs_1 _ (List.mem_of_getElem? (i := 7) rfl)) rfl)⟩
def B_X3_byteAt_43 : Blk := (43, .ireturn, 1) :: []
theorem o_X3_byteAt_43 : Chn cX3_byteAt B_X3_byteAt_43 := chn_of _ (by decide +kernel)
def B_X3_byteAt_42 : Blk := (42, .iconst 0, 1) :: B_X3_byteAt_43
theorem o_X3_byteAt_42 : Chn cX3_byteAt B_X3_byteAt_42 := chn_app ((42, .iconst 0, 1) :: []) o_X3_byteAt_43 (by decide +kernel)
def B_X3_byteAt_0 : Blk := (0, .iload_n 1, 1) :: (1, .aload_n 0, 1) :: (2, .getfield 55, 3) :: (5, .if_icmp .lt 37, 3) :: (8, .iload_n 1, 1) :: (9, .aload_n 0, 1) :: (10, .getfield 52, 3) :: (13, .if_icmp .ge 29, 3) :: (16, .iload_n 1, 1) :: (17, .ifCond .lt 25, 3) :: (20, .iload_n 1, 1) :: (21, .aload_n 0, 1) :: (22, .getfield 28, 3) :: (25, .arraylength, 1) :: (26, .if_icmp .ge 16, 3) :: (29, .aload_n 0, 1) :: (30, .getfield 28, 3) :: (33, .iload_n 1, 1) :: (34, .baload, 1) :: (35, .sipush 255, 3) :: (38, .iand, 1) :: (39, .goto 4, 3) :: []
theorem o_X3_byteAt_0 : Chn cX3_byteAt B_X3_byteAt_0 := chn_of _ (by decide +kernel)
theorem fl_3_28 : FLk RX3 28 3 6 4 false := ⟨RX3, TX3, 9, "IntegerHouse$Lexer", "source", "[B", rfl, by decide, rfl, Or.inl (allW_in (kT_1 _ (List.mem_of_getElem? (i := 219) rfl)) rfl), rfl, (fun h => absurd h (by decide)), (fun h => absurd h (by decide)), (fun h => absurd h (by decide)), (fun _ => rfl)⟩
abbrev cX3_behindBlanks : ByteArray := prog_5_method_10_code
def yX3_behindBlanks : MethodName := ⟨RX3, "behindBlanks", "(I)I"⟩
def M_X3_behindBlanks : MT := (yX3_behindBlanks, cX3_behindBlanks, 3, (some .int), RX3, 1)
theorem mk_X3_behindBlanks : MokV M_X3_behindBlanks 3 1 := ⟨⟨⟨by decide, by decide, rfl⟩, (allW_in (kT_4 _ (List.mem_of_getElem? (i := 75) rfl)) rfl), (allW_in (kT_1 _ (List.mem_of_getElem? (i := 4) rfl)) rfl), by decide⟩, ⟨TX3, 9, rfl⟩, (allW_in (kT_4 _ (List.mem_of_getElem? (i := 74) rfl)) rfl), (allW_in (kTs_1 _ (List.mem_of_getElem? (i := 6) rfl)) rfl)⟩
def B_X3_behindBlanks_36 : Blk := (36, .iload_n 2, 1) :: (37, .ireturn, 1) :: []
theorem o_X3_behindBlanks_36 : Chn cX3_behindBlanks B_X3_behindBlanks_36 := chn_of _ (by decide +kernel)
def B_X3_behindBlanks_30 : Blk := (30, .iinc 2 1, 3) :: (33, .goto (-31), 3) :: []
theorem o_X3_behindBlanks_30 : Chn cX3_behindBlanks B_X3_behindBlanks_30 := chn_of _ (by decide +kernel)
def B_X3_behindBlanks_2 : Blk := (2, .iload_n 2, 1) :: (3, .aload_n 0, 1) :: (4, .getfield 52, 3) :: (7, .if_icmp .ge 29, 3) :: (10, .aload_n 0, 1) :: (11, .iload_n 2, 1) :: (12, .invokevirtual 63, 3) :: (15, .bipush 32, 2) :: (17, .if_icmp .eq 13, 3) :: (20, .aload_n 0, 1) :: (21, .iload_n 2, 1) :: (22, .invokevirtual 63, 3) :: (25, .bipush 10, 2) :: (27, .if_icmp .ne 9, 3) :: B_X3_behindBlanks_30
theorem o_X3_behindBlanks_2 : Chn cX3_behindBlanks B_X3_behindBlanks_2 := chn_app ((2, .iload_n 2, 1) :: (3, .aload_n 0, 1) :: (4, .getfield 52, 3) :: (7, .if_icmp .ge 29, 3) :: (10, .aload_n 0, 1) :: (11, .iload_n 2, 1) :: (12, .invokevirtual 63, 3) :: (15, .bipush 32, 2) :: (17, .if_icmp .eq 13, 3) :: (20, .aload_n 0, 1) :: (21, .iload_n 2, 1) :: (22, .invokevirtual 63, 3) :: (25, .bipush 10, 2) :: (27, .if_icmp .ne 9, 3) :: []) o_X3_behindBlanks_30 (by decide +kernel)
def B_X3_behindBlanks_0 : Blk := (0, .iload_n 1, 1) :: (1, .istore_n 2, 1) :: B_X3_behindBlanks_2
theorem o_X3_behindBlanks_0 : Chn cX3_behindBlanks B_X3_behindBlanks_0 := chn_app ((0, .iload_n 1, 1) :: (1, .istore_n 2, 1) :: []) o_X3_behindBlanks_2 (by decide +kernel)
theorem ml_3_63 : MLk RX3 63 yX3_byteAt := Or.inl (allW_in (kT_4 _ (List.mem_of_getElem? (i := 76) rfl)) rfl)
abbrev cX3_isLetter : ByteArray := prog_5_method_11_code
def yX3_isLetter : MethodName := ⟨RX3, "isLetter", "(I)Z"⟩
def M_X3_isLetter : MT := (yX3_isLetter, cX3_isLetter, 1, (some .boolean), RX3, 1)
theorem mk_X3_isLetter : MokS M_X3_isLetter 1 := ⟨⟨⟨by decide, by decide, rfl⟩, (allW_in (kT_4 _ (List.mem_of_getElem? (i := 82) rfl)) rfl), (allW_in (kT_1 _ (List.mem_of_getElem? (i := 4) rfl)) rfl), by decide⟩, (allW_in (kT_4 _ (List.mem_of_getElem? (i := 81) rfl)) rfl)⟩
def B_X3_isLetter_29 : Blk := (29, .ireturn, 1) :: []
theorem o_X3_isLetter_29 : Chn cX3_isLetter B_X3_isLetter_29 := chn_of _ (by decide +kernel)
def B_X3_isLetter_28 : Blk := (28, .iconst 0, 1) :: B_X3_isLetter_29
theorem o_X3_isLetter_28 : Chn cX3_isLetter B_X3_isLetter_28 := chn_app ((28, .iconst 0, 1) :: []) o_X3_isLetter_29 (by decide +kernel)
def B_X3_isLetter_24 : Blk := (24, .iconst 1, 1) :: (25, .goto 4, 3) :: []
theorem o_X3_isLetter_24 : Chn cX3_isLetter B_X3_isLetter_24 := chn_of _ (by decide +kernel)
def B_X3_isLetter_12 : Blk := (12, .iload_n 0, 1) :: (13, .bipush 65, 2) :: (15, .if_icmp .lt 13, 3) :: (18, .iload_n 0, 1) :: (19, .bipush 90, 2) :: (21, .if_icmp .gt 7, 3) :: B_X3_isLetter_24
theorem o_X3_isLetter_12 : Chn cX3_isLetter B_X3_isLetter_12 := chn_app ((12, .iload_n 0, 1) :: (13, .bipush 65, 2) :: (15, .if_icmp .lt 13, 3) :: (18, .iload_n 0, 1) :: (19, .bipush 90, 2) :: (21, .if_icmp .gt 7, 3) :: []) o_X3_isLetter_24 (by decide +kernel)
def B_X3_isLetter_0 : Blk := (0, .iload_n 0, 1) :: (1, .bipush 97, 2) :: (3, .if_icmp .lt 9, 3) :: (6, .iload_n 0, 1) :: (7, .bipush 122, 2) :: (9, .if_icmp .le 15, 3) :: B_X3_isLetter_12
theorem o_X3_isLetter_0 : Chn cX3_isLetter B_X3_isLetter_0 := chn_app ((0, .iload_n 0, 1) :: (1, .bipush 97, 2) :: (3, .if_icmp .lt 9, 3) :: (6, .iload_n 0, 1) :: (7, .bipush 122, 2) :: (9, .if_icmp .le 15, 3) :: []) o_X3_isLetter_12 (by decide +kernel)
abbrev cX3_isDigit : ByteArray := prog_5_method_12_code
def yX3_isDigit : MethodName := ⟨RX3, "isDigit", "(I)Z"⟩
def M_X3_isDigit : MT := (yX3_isDigit, cX3_isDigit, 1, (some .boolean), RX3, 1)
theorem mk_X3_isDigit : MokS M_X3_isDigit 1 := ⟨⟨⟨by decide, by decide, rfl⟩, (allW_in (kT_4 _ (List.mem_of_getElem? (i := 89) rfl)) rfl), (allW_in (kT_1 _ (List.mem_of_getElem? (i := 4) rfl)) rfl), by decide⟩, (allW_in (kT_4 _ (List.mem_of_getElem? (i := 88) rfl)) rfl)⟩
def B_X3_isDigit_17 : Blk := (17, .ireturn, 1) :: []
theorem o_X3_isDigit_17 : Chn cX3_isDigit B_X3_isDigit_17 := chn_of _ (by decide +kernel)
def B_X3_isDigit_16 : Blk := (16, .iconst 0, 1) :: B_X3_isDigit_17
theorem o_X3_isDigit_16 : Chn cX3_isDigit B_X3_isDigit_16 := chn_app ((16, .iconst 0, 1) :: []) o_X3_isDigit_17 (by decide +kernel)
def B_X3_isDigit_0 : Blk := (0, .iload_n 0, 1) :: (1, .bipush 48, 2) :: (3, .if_icmp .lt 13, 3) :: (6, .iload_n 0, 1) :: (7, .bipush 57, 2) :: (9, .if_icmp .gt 7, 3) :: (12, .iconst 1, 1) :: (13, .goto 4, 3) :: []
theorem o_X3_isDigit_0 : Chn cX3_isDigit B_X3_isDigit_0 := chn_of _ (by decide +kernel)
abbrev cX3_word : ByteArray := prog_5_method_13_code
def yX3_word : MethodName := ⟨RX3, "word", "(III)I"⟩
def M_X3_word : MT := (yX3_word, cX3_word, 9, (some .int), RX3, 1)
theorem mk_X3_word : MokV M_X3_word 3 3 := ⟨⟨⟨by decide, by decide, rfl⟩, (allW_in (kT_4 _ (List.mem_of_getElem? (i := 86) rfl)) rfl), (allW_in (kT_1 _ (List.mem_of_getElem? (i := 4) rfl)) rfl), by decide⟩, ⟨TX3, 9, rfl⟩, (allW_in (kT_4 _ (List.mem_of_getElem? (i := 85) rfl)) rfl), (allW_in (kTs_1 _ (List.mem_of_getElem? (i := 8) rfl)) rfl)⟩
def B_X3_word_154 : Blk := (154, .iload 6, 2) :: (156, .ireturn, 1) :: []
theorem o_X3_word_154 : Chn cX3_word B_X3_word_154 := chn_of _ (by decide +kernel)
def B_X3_word_127 : Blk := (127, .iload_n 1, 1) :: (128, .ifCond .lt 26, 3) :: (131, .iload_n 1, 1) :: (132, .sipush 2000, 3) :: (135, .if_icmp .gt 19, 3) :: (138, .aload_n 0, 1) :: (139, .getfield 15, 3) :: (142, .iload_n 1, 1) :: (143, .iload 7, 2) :: (145, .iastore, 1) :: (146, .aload_n 0, 1) :: (147, .getfield 25, 3) :: (150, .iload_n 1, 1) :: (151, .lload 4, 2) :: (153, .lastore, 1) :: B_X3_word_154
theorem o_X3_word_127 : Chn cX3_word B_X3_word_127 := chn_app ((127, .iload_n 1, 1) :: (128, .ifCond .lt 26, 3) :: (131, .iload_n 1, 1) :: (132, .sipush 2000, 3) :: (135, .if_icmp .gt 19, 3) :: (138, .aload_n 0, 1) :: (139, .getfield 15, 3) :: (142, .iload_n 1, 1) :: (143, .iload 7, 2) :: (145, .iastore, 1) :: (146, .aload_n 0, 1) :: (147, .getfield 25, 3) :: (150, .iload_n 1, 1) :: (151, .lload 4, 2) :: (153, .lastore, 1) :: []) o_X3_word_154 (by decide +kernel)
def B_X3_word_121 : Blk := (121, .iinc 8 1, 3) :: (124, .goto (-45), 3) :: []
theorem o_X3_word_121 : Chn cX3_word B_X3_word_121 := chn_of _ (by decide +kernel)
def B_X3_word_79 : Blk := (79, .iload 8, 2) :: (81, .iload_n 3, 1) :: (82, .if_icmp .ge 45, 3) :: (85, .iload 8, 2) :: (87, .aload_n 0, 1) :: (88, .getfield 11, 3) :: (91, .arraylength, 1) :: (92, .if_icmp .ge 35, 3) :: (95, .iload 7, 2) :: (97, .iconst 1, 1) :: (98, .if_icmp .ne 29, 3) :: (101, .aload_n 0, 1) :: (102, .getfield 11, 3) :: (105, .iload 8, 2) :: (107, .laload, 1) :: (108, .lload 4, 2) :: (110, .lcmp, 1) :: (111, .ifCond .ne 10, 3) :: (114, .bipush 21, 2) :: (116, .iload 8, 2) :: (118, .iadd, 1) :: (119, .istore 7, 2) :: B_X3_word_121
theorem o_X3_word_79 : Chn cX3_word B_X3_word_79 := chn_app ((79, .iload 8, 2) :: (81, .iload_n 3, 1) :: (82, .if_icmp .ge 45, 3) :: (85, .iload 8, 2) :: (87, .aload_n 0, 1) :: (88, .getfield 11, 3) :: (91, .arraylength, 1) :: (92, .if_icmp .ge 35, 3) :: (95, .iload 7, 2) :: (97, .iconst 1, 1) :: (98, .if_icmp .ne 29, 3) :: (101, .aload_n 0, 1) :: (102, .getfield 11, 3) :: (105, .iload 8, 2) :: (107, .laload, 1) :: (108, .lload 4, 2) :: (110, .lcmp, 1) :: (111, .ifCond .ne 10, 3) :: (114, .bipush 21, 2) :: (116, .iload 8, 2) :: (118, .iadd, 1) :: (119, .istore 7, 2) :: []) o_X3_word_121 (by decide +kernel)
def B_X3_word_74 : Blk := (74, .istore 7, 2) :: (76, .iconst 0, 1) :: (77, .istore 8, 2) :: B_X3_word_79
theorem o_X3_word_74 : Chn cX3_word B_X3_word_74 := chn_app ((74, .istore 7, 2) :: (76, .iconst 0, 1) :: (77, .istore 8, 2) :: []) o_X3_word_79 (by decide +kernel)
def B_X3_word_73 : Blk := (73, .iconst 1, 1) :: B_X3_word_74
theorem o_X3_word_73 : Chn cX3_word B_X3_word_73 := chn_app ((73, .iconst 1, 1) :: []) o_X3_word_74 (by decide +kernel)
def B_X3_word_60 : Blk := (60, .iload 6, 2) :: (62, .iload_n 2, 1) :: (63, .isub, 1) :: (64, .bipush 8, 2) :: (66, .if_icmp .le 7, 3) :: (69, .iconst 3, 1) :: (70, .goto 4, 3) :: []
theorem o_X3_word_60 : Chn cX3_word B_X3_word_60 := chn_of _ (by decide +kernel)
def B_X3_word_39 : Blk := (39, .lload 4, 2) :: (41, .bipush 8, 2) :: (43, .lshl, 1) :: (44, .aload_n 0, 1) :: (45, .iload 6, 2) :: (47, .invokevirtual 63, 3) :: (50, .i2l, 1) :: (51, .lor, 1) :: (52, .lstore 4, 2) :: (54, .iinc 6 1, 3) :: (57, .goto (-51), 3) :: []
theorem o_X3_word_39 : Chn cX3_word B_X3_word_39 := chn_of _ (by decide +kernel)
def B_X3_word_6 : Blk := (6, .iload 6, 2) :: (8, .aload_n 0, 1) :: (9, .getfield 52, 3) :: (12, .if_icmp .ge 48, 3) :: (15, .aload_n 0, 1) :: (16, .iload 6, 2) :: (18, .invokevirtual 63, 3) :: (21, .invokestatic 66, 3) :: (24, .ifCond .ne 15, 3) :: (27, .aload_n 0, 1) :: (28, .iload 6, 2) :: (30, .invokevirtual 63, 3) :: (33, .invokestatic 74, 3) :: (36, .ifCond .eq 24, 3) :: B_X3_word_39
theorem o_X3_word_6 : Chn cX3_word B_X3_word_6 := chn_app ((6, .iload 6, 2) :: (8, .aload_n 0, 1) :: (9, .getfield 52, 3) :: (12, .if_icmp .ge 48, 3) :: (15, .aload_n 0, 1) :: (16, .iload 6, 2) :: (18, .invokevirtual 63, 3) :: (21, .invokestatic 66, 3) :: (24, .ifCond .ne 15, 3) :: (27, .aload_n 0, 1) :: (28, .iload 6, 2) :: (30, .invokevirtual 63, 3) :: (33, .invokestatic 74, 3) :: (36, .ifCond .eq 24, 3) :: []) o_X3_word_39 (by decide +kernel)
def B_X3_word_0 : Blk := (0, .lconst 0, 1) :: (1, .lstore 4, 2) :: (3, .iload_n 2, 1) :: (4, .istore 6, 2) :: B_X3_word_6
theorem o_X3_word_0 : Chn cX3_word B_X3_word_0 := chn_app ((0, .lconst 0, 1) :: (1, .lstore 4, 2) :: (3, .iload_n 2, 1) :: (4, .istore 6, 2) :: []) o_X3_word_6 (by decide +kernel)
theorem ml_3_66 : MLk RX3 66 yX3_isLetter := Or.inl (allW_in (kT_4 _ (List.mem_of_getElem? (i := 80) rfl)) rfl)
theorem ml_3_74 : MLk RX3 74 yX3_isDigit := Or.inl (allW_in (kT_4 _ (List.mem_of_getElem? (i := 87) rfl)) rfl)
abbrev cX3_digits : ByteArray := prog_5_method_14_code
def yX3_digits : MethodName := ⟨RX3, "digits", "(II)I"⟩
def M_X3_digits : MT := (yX3_digits, cX3_digits, 6, (some .int), RX3, 1)
theorem mk_X3_digits : MokV M_X3_digits 3 2 := ⟨⟨⟨by decide, by decide, rfl⟩, (allW_in (kT_4 _ (List.mem_of_getElem? (i := 93) rfl)) rfl), (allW_in (kT_1 _ (List.mem_of_getElem? (i := 4) rfl)) rfl), by decide⟩, ⟨TX3, 9, rfl⟩, (allW_in (kT_4 _ (List.mem_of_getElem? (i := 92) rfl)) rfl), (allW_in (kTs_1 _ (List.mem_of_getElem? (i := 9) rfl)) rfl)⟩
def B_X3_digits_133 : Blk := (133, .iload 4, 2) :: (135, .ireturn, 1) :: []
theorem o_X3_digits_133 : Chn cX3_digits B_X3_digits_133 := chn_of _ (by decide +kernel)
def B_X3_digits_114 : Blk := (114, .iastore, 1) :: (115, .aload_n 0, 1) :: (116, .getfield 22, 3) :: (119, .iload_n 1, 1) :: (120, .iload_n 3, 1) :: (121, .iload 4, 2) :: (123, .iload_n 2, 1) :: (124, .isub, 1) :: (125, .bipush 7, 2) :: (127, .iand, 1) :: (128, .bipush 20, 2) :: (130, .ishl, 1) :: (131, .ior, 1) :: (132, .iastore, 1) :: B_X3_digits_133
theorem o_X3_digits_114 : Chn cX3_digits B_X3_digits_114 := chn_app ((114, .iastore, 1) :: (115, .aload_n 0, 1) :: (116, .getfield 22, 3) :: (119, .iload_n 1, 1) :: (120, .iload_n 3, 1) :: (121, .iload 4, 2) :: (123, .iload_n 2, 1) :: (124, .isub, 1) :: (125, .bipush 7, 2) :: (127, .iand, 1) :: (128, .bipush 20, 2) :: (130, .ishl, 1) :: (131, .ior, 1) :: (132, .iastore, 1) :: []) o_X3_digits_133 (by decide +kernel)
def B_X3_digits_113 : Blk := (113, .iconst 3, 1) :: B_X3_digits_114
theorem o_X3_digits_113 : Chn cX3_digits B_X3_digits_113 := chn_app ((113, .iconst 3, 1) :: []) o_X3_digits_114 (by decide +kernel)
def B_X3_digits_86 : Blk := (86, .istore 5, 2) :: (88, .iload_n 1, 1) :: (89, .ifCond .lt 44, 3) :: (92, .iload_n 1, 1) :: (93, .sipush 2000, 3) :: (96, .if_icmp .gt 37, 3) :: (99, .aload_n 0, 1) :: (100, .getfield 15, 3) :: (103, .iload_n 1, 1) :: (104, .iload 5, 2) :: (106, .ifCond .eq 7, 3) :: (109, .iconst 2, 1) :: (110, .goto 4, 3) :: []
theorem o_X3_digits_86 : Chn cX3_digits B_X3_digits_86 := chn_of _ (by decide +kernel)
def B_X3_digits_85 : Blk := (85, .iconst 0, 1) :: B_X3_digits_86
theorem o_X3_digits_85 : Chn cX3_digits B_X3_digits_85 := chn_app ((85, .iconst 0, 1) :: []) o_X3_digits_86 (by decide +kernel)
def B_X3_digits_60 : Blk := (60, .iload 4, 2) :: (62, .iload_n 2, 1) :: (63, .isub, 1) :: (64, .bipush 6, 2) :: (66, .if_icmp .gt 19, 3) :: (69, .aload_n 0, 1) :: (70, .iload 4, 2) :: (72, .invokevirtual 63, 3) :: (75, .invokestatic 66, 3) :: (78, .ifCond .ne 7, 3) :: (81, .iconst 1, 1) :: (82, .goto 4, 3) :: []
theorem o_X3_digits_60 : Chn cX3_digits B_X3_digits_60 := chn_of _ (by decide +kernel)
def B_X3_digits_53 : Blk := (53, .istore_n 3, 1) :: (54, .iinc 4 1, 3) :: (57, .goto (-52), 3) :: []
theorem o_X3_digits_53 : Chn cX3_digits B_X3_digits_53 := chn_of _ (by decide +kernel)
def B_X3_digits_52 : Blk := (52, .iload_n 3, 1) :: B_X3_digits_53
theorem o_X3_digits_52 : Chn cX3_digits B_X3_digits_52 := chn_app ((52, .iload_n 3, 1) :: []) o_X3_digits_53 (by decide +kernel)
def B_X3_digits_5 : Blk := (5, .iload 4, 2) :: (7, .aload_n 0, 1) :: (8, .getfield 52, 3) :: (11, .if_icmp .ge 49, 3) :: (14, .aload_n 0, 1) :: (15, .iload 4, 2) :: (17, .invokevirtual 63, 3) :: (20, .invokestatic 74, 3) :: (23, .ifCond .eq 37, 3) :: (26, .iload 4, 2) :: (28, .iload_n 2, 1) :: (29, .isub, 1) :: (30, .bipush 6, 2) :: (32, .if_icmp .ge 20, 3) :: (35, .iload_n 3, 1) :: (36, .bipush 10, 2) :: (38, .imul, 1) :: (39, .aload_n 0, 1) :: (40, .iload 4, 2) :: (42, .invokevirtual 63, 3) :: (45, .iadd, 1) :: (46, .bipush 48, 2) :: (48, .isub, 1) :: (49, .goto 4, 3) :: []
theorem o_X3_digits_5 : Chn cX3_digits B_X3_digits_5 := chn_of _ (by decide +kernel)
def B_X3_digits_0 : Blk := (0, .iconst 0, 1) :: (1, .istore_n 3, 1) :: (2, .iload_n 2, 1) :: (3, .istore 4, 2) :: B_X3_digits_5
theorem o_X3_digits_0 : Chn cX3_digits B_X3_digits_0 := chn_app ((0, .iconst 0, 1) :: (1, .istore_n 3, 1) :: (2, .iload_n 2, 1) :: (3, .istore 4, 2) :: []) o_X3_digits_5 (by decide +kernel)
abbrev cX3_sign : ByteArray := prog_5_method_15_code
def yX3_sign : MethodName := ⟨RX3, "sign", "(II)I"⟩
def M_X3_sign : MT := (yX3_sign, cX3_sign, 6, (some .int), RX3, 1)
theorem mk_X3_sign : MokV M_X3_sign 3 2 := ⟨⟨⟨by decide, by decide, rfl⟩, (allW_in (kT_4 _ (List.mem_of_getElem? (i := 97) rfl)) rfl), (allW_in (kT_1 _ (List.mem_of_getElem? (i := 4) rfl)) rfl), by decide⟩, ⟨TX3, 9, rfl⟩, (allW_in (kT_4 _ (List.mem_of_getElem? (i := 96) rfl)) rfl), (allW_in (kTs_1 _ (List.mem_of_getElem? (i := 10) rfl)) rfl)⟩
def B_X3_sign_108 : Blk := (108, .iadd, 1) :: (109, .ireturn, 1) :: []
theorem o_X3_sign_108 : Chn cX3_sign B_X3_sign_108 := chn_of _ (by decide +kernel)
def B_X3_sign_107 : Blk := (107, .iconst 1, 1) :: B_X3_sign_108
theorem o_X3_sign_107 : Chn cX3_sign B_X3_sign_107 := chn_app ((107, .iconst 1, 1) :: []) o_X3_sign_108 (by decide +kernel)
def B_X3_sign_96 : Blk := (96, .iload_n 2, 1) :: (97, .iload_n 3, 1) :: (98, .bipush 16, 2) :: (100, .if_icmp .lt 7, 3) :: (103, .iconst 2, 1) :: (104, .goto 4, 3) :: []
theorem o_X3_sign_96 : Chn cX3_sign B_X3_sign_96 := chn_of _ (by decide +kernel)
def B_X3_sign_78 : Blk := (78, .iload_n 1, 1) :: (79, .ifCond .lt 17, 3) :: (82, .iload_n 1, 1) :: (83, .sipush 2000, 3) :: (86, .if_icmp .gt 10, 3) :: (89, .aload_n 0, 1) :: (90, .getfield 15, 3) :: (93, .iload_n 1, 1) :: (94, .iload_n 3, 1) :: (95, .iastore, 1) :: B_X3_sign_96
theorem o_X3_sign_78 : Chn cX3_sign B_X3_sign_78 := chn_app ((78, .iload_n 1, 1) :: (79, .ifCond .lt 17, 3) :: (82, .iload_n 1, 1) :: (83, .sipush 2000, 3) :: (86, .if_icmp .gt 10, 3) :: (89, .aload_n 0, 1) :: (90, .getfield 15, 3) :: (93, .iload_n 1, 1) :: (94, .iload_n 3, 1) :: (95, .iastore, 1) :: []) o_X3_sign_96 (by decide +kernel)
def B_X3_sign_72 : Blk := (72, .iinc 4 (-1), 3) :: (75, .goto (-69), 3) :: []
theorem o_X3_sign_72 : Chn cX3_sign B_X3_sign_72 := chn_of _ (by decide +kernel)
def B_X3_sign_45 : Blk := (45, .istore 5, 2) :: (47, .iload 5, 2) :: (49, .ifCond .eq 23, 3) :: (52, .aload_n 0, 1) :: (53, .iload_n 2, 1) :: (54, .invokevirtual 63, 3) :: (57, .ldc 86, 2) :: (59, .iload 4, 2) :: (61, .invokevirtual 44, 3) :: (64, .if_icmp .ne 8, 3) :: (67, .iconst 4, 1) :: (68, .iload 4, 2) :: (70, .iadd, 1) :: (71, .istore_n 3, 1) :: B_X3_sign_72
theorem o_X3_sign_45 : Chn cX3_sign B_X3_sign_45 := chn_app ((45, .istore 5, 2) :: (47, .iload 5, 2) :: (49, .ifCond .eq 23, 3) :: (52, .aload_n 0, 1) :: (53, .iload_n 2, 1) :: (54, .invokevirtual 63, 3) :: (57, .ldc 86, 2) :: (59, .iload 4, 2) :: (61, .invokevirtual 44, 3) :: (64, .if_icmp .ne 8, 3) :: (67, .iconst 4, 1) :: (68, .iload 4, 2) :: (70, .iadd, 1) :: (71, .istore_n 3, 1) :: []) o_X3_sign_72 (by decide +kernel)
def B_X3_sign_44 : Blk := (44, .iconst 0, 1) :: B_X3_sign_45
theorem o_X3_sign_44 : Chn cX3_sign B_X3_sign_44 := chn_app ((44, .iconst 0, 1) :: []) o_X3_sign_45 (by decide +kernel)
def B_X3_sign_40 : Blk := (40, .iconst 1, 1) :: (41, .goto 4, 3) :: []
theorem o_X3_sign_40 : Chn cX3_sign B_X3_sign_40 := chn_of _ (by decide +kernel)
def B_X3_sign_6 : Blk := (6, .iload 4, 2) :: (8, .ifCond .lt 70, 3) :: (11, .iload_n 3, 1) :: (12, .iconst 3, 1) :: (13, .if_icmp .ne 65, 3) :: (16, .iload 4, 2) :: (18, .bipush 12, 2) :: (20, .if_icmp .lt 20, 3) :: (23, .aload_n 0, 1) :: (24, .iload_n 2, 1) :: (25, .iconst 1, 1) :: (26, .iadd, 1) :: (27, .invokevirtual 63, 3) :: (30, .ldc 84, 2) :: (32, .iload 4, 2) :: (34, .invokevirtual 44, 3) :: (37, .if_icmp .ne 7, 3) :: B_X3_sign_40
theorem o_X3_sign_6 : Chn cX3_sign B_X3_sign_6 := chn_app ((6, .iload 4, 2) :: (8, .ifCond .lt 70, 3) :: (11, .iload_n 3, 1) :: (12, .iconst 3, 1) :: (13, .if_icmp .ne 65, 3) :: (16, .iload 4, 2) :: (18, .bipush 12, 2) :: (20, .if_icmp .lt 20, 3) :: (23, .aload_n 0, 1) :: (24, .iload_n 2, 1) :: (25, .iconst 1, 1) :: (26, .iadd, 1) :: (27, .invokevirtual 63, 3) :: (30, .ldc 84, 2) :: (32, .iload 4, 2) :: (34, .invokevirtual 44, 3) :: (37, .if_icmp .ne 7, 3) :: []) o_X3_sign_40 (by decide +kernel)
def B_X3_sign_0 : Blk := (0, .iconst 3, 1) :: (1, .istore_n 3, 1) :: (2, .bipush 16, 2) :: (4, .istore 4, 2) :: B_X3_sign_6
theorem o_X3_sign_0 : Chn cX3_sign B_X3_sign_0 := chn_app ((0, .iconst 3, 1) :: (1, .istore_n 3, 1) :: (2, .bipush 16, 2) :: (4, .istore 4, 2) :: []) o_X3_sign_6 (by decide +kernel)
abbrev cX4_begin : ByteArray := prog_6_method_3_code
def yX4_begin : MethodName := ⟨RX4, "begin", "(I)V"⟩
def M_X4_begin : MT := (yX4_begin, cX4_begin, 2, none, RX4, 0)
theorem mk_X4_begin : MokV M_X4_begin 4 1 := ⟨⟨⟨by decide, by decide, rfl⟩, (allW_in (kT_4 _ (List.mem_of_getElem? (i := 236) rfl)) rfl), (allW_in (kT_1 _ (List.mem_of_getElem? (i := 9) rfl)) rfl), by decide⟩, ⟨TX4, 10, rfl⟩, (allW_in (kT_4 _ (List.mem_of_getElem? (i := 235) rfl)) rfl), (allW_in (kTs_2 _ (List.mem_of_getElem? (i := 15) rfl)) rfl)⟩
def B_X4_begin_0 : Blk := (0, .aload_n 0, 1) :: (1, .iload_n 1, 1) :: (2, .putfield 33, 3) :: (5, .aload_n 0, 1) :: (6, .iconst 0, 1) :: (7, .putfield 86, 3) :: (10, .aload_n 0, 1) :: (11, .iconst 0, 1) :: (12, .putfield 61, 3) :: (15, .aload_n 0, 1) :: (16, .iconst 0, 1) :: (17, .putfield 89, 3) :: (20, .aload_n 0, 1) :: (21, .iconst 0, 1) :: (22, .putfield 83, 3) :: (25, .aload_n 0, 1) :: (26, .getfield 15, 3) :: (29, .iconst 0, 1) :: (30, .iconst 0, 1) :: (31, .iastore, 1) :: (32, .aload_n 0, 1) :: (33, .getfield 25, 3) :: (36, .iload_n 1, 1) :: (37, .iconst 4, 1) :: (38, .iconst 0, 1) :: (39, .invokevirtual 79, 3) :: (42, .return_, 1) :: []
theorem o_X4_begin_0 : Chn cX4_begin B_X4_begin_0 := chn_of _ (by decide +kernel)
theorem fl_4_33 : FLk RX4 33 4 5 0 false := ⟨RX4, TX4, 10, "IntegerHouse$Maker", "slot", "I", rfl, by decide, rfl, Or.inl (allW_in (kT_2 _ (List.mem_of_getElem? (i := 13) rfl)) rfl), rfl, (fun _ => rfl), (fun h => absurd h (by decide)), (fun h => absurd h (by decide)), (fun h => absurd h (by decide))⟩
theorem fl_4_86 : FLk RX4 86 4 6 0 false := ⟨RX4, TX4, 10, "IntegerHouse$Maker", "codeSize", "I", rfl, by decide, rfl, Or.inl (allW_in (kT_2 _ (List.mem_of_getElem? (i := 14) rfl)) rfl), rfl, (fun _ => rfl), (fun h => absurd h (by decide)), (fun h => absurd h (by decide)), (fun h => absurd h (by decide))⟩
theorem fl_4_61 : FLk RX4 61 4 7 1 false := ⟨RX4, TX4, 10, "IntegerHouse$Maker", "great", "Z", rfl, by decide, rfl, Or.inl (allW_in (kT_2 _ (List.mem_of_getElem? (i := 15) rfl)) rfl), rfl, (fun h => absurd h (by decide)), (fun _ => rfl), (fun h => absurd h (by decide)), (fun h => absurd h (by decide))⟩
theorem fl_4_89 : FLk RX4 89 4 8 1 false := ⟨RX4, TX4, 10, "IntegerHouse$Maker", "crowded", "Z", rfl, by decide, rfl, Or.inl (allW_in (kT_2 _ (List.mem_of_getElem? (i := 16) rfl)) rfl), rfl, (fun h => absurd h (by decide)), (fun _ => rfl), (fun h => absurd h (by decide)), (fun h => absurd h (by decide))⟩
theorem fl_4_83 : FLk RX4 83 4 9 0 false := ⟨RX4, TX4, 10, "IntegerHouse$Maker", "falsehood", "I", rfl, by decide, rfl, Or.inl (allW_in (kT_2 _ (List.mem_of_getElem? (i := 17) rfl)) rfl), rfl, (fun _ => rfl), (fun h => absurd h (by decide)), (fun h => absurd h (by decide)), (fun h => absurd h (by decide))⟩
theorem fl_4_15 : FLk RX4 15 4 2 3 true := ⟨RX4, TX4, 10, "IntegerHouse$Maker", "tops", "[I", rfl, by decide, rfl, Or.inl (allW_in (kT_2 _ (List.mem_of_getElem? (i := 9) rfl)) rfl), rfl, (fun h => absurd h (by decide)), (fun h => absurd h (by decide)), (fun h => absurd h (by decide)), (fun h => absurd h (by decide))⟩
theorem fl_4_25 : FLk RX4 25 4 0 3 true := ⟨RX4, TX4, 10, "IntegerHouse$Maker", "house", "LIntegerHouse$House;", rfl, by decide, rfl, Or.inl (allW_in (kT_2 _ (List.mem_of_getElem? (i := 7) rfl)) rfl), rfl, (fun h => absurd h (by decide)), (fun h => absurd h (by decide)), (fun h => absurd h (by decide)), (fun h => absurd h (by decide))⟩
theorem ml_4_79 : MLk RX4 79 yX2_setFact := Or.inl (allW_in (kT_4 _ (List.mem_of_getElem? (i := 237) rfl)) rfl)
abbrev cX4_isPlain : ByteArray := prog_6_method_7_code
def yX4_isPlain : MethodName := ⟨RX4, "isPlain", "(I)Z"⟩
def M_X4_isPlain : MT := (yX4_isPlain, cX4_isPlain, 4, (some .boolean), RX4, 1)
theorem mk_X4_isPlain : MokV M_X4_isPlain 4 1 := ⟨⟨⟨by decide, by decide, rfl⟩, (allW_in (kT_5 _ (List.mem_of_getElem? (i := 9) rfl)) rfl), (allW_in (kT_1 _ (List.mem_of_getElem? (i := 9) rfl)) rfl), by decide⟩, ⟨TX4, 10, rfl⟩, (allW_in (kT_5 _ (List.mem_of_getElem? (i := 8) rfl)) rfl), (allW_in (kTs_3 _ (List.mem_of_getElem? (i := 0) rfl)) rfl)⟩
def B_X4_isPlain_96 : Blk := (96, .ireturn, 1) :: []
theorem o_X4_isPlain_96 : Chn cX4_isPlain B_X4_isPlain_96 := chn_of _ (by decide +kernel)
def B_X4_isPlain_95 : Blk := (95, .iconst 0, 1) :: B_X4_isPlain_96
theorem o_X4_isPlain_95 : Chn cX4_isPlain B_X4_isPlain_95 := chn_app ((95, .iconst 0, 1) :: []) o_X4_isPlain_96 (by decide +kernel)
def B_X4_isPlain_68 : Blk := (68, .istore_n 3, 1) :: (69, .iload_n 3, 1) :: (70, .ifCond .ne 25, 3) :: (73, .iload_n 2, 1) :: (74, .bipush 19, 2) :: (76, .if_icmp .eq 19, 3) :: (79, .iload_n 2, 1) :: (80, .bipush 20, 2) :: (82, .if_icmp .eq 13, 3) :: (85, .iload_n 2, 1) :: (86, .bipush 18, 2) :: (88, .if_icmp .eq 7, 3) :: (91, .iconst 1, 1) :: (92, .goto 4, 3) :: []
theorem o_X4_isPlain_68 : Chn cX4_isPlain B_X4_isPlain_68 := chn_of _ (by decide +kernel)
def B_X4_isPlain_67 : Blk := (67, .iconst 0, 1) :: B_X4_isPlain_68
theorem o_X4_isPlain_67 : Chn cX4_isPlain B_X4_isPlain_67 := chn_app ((67, .iconst 0, 1) :: []) o_X4_isPlain_68 (by decide +kernel)
def B_X4_isPlain_63 : Blk := (63, .iconst 1, 1) :: (64, .goto 4, 3) :: []
theorem o_X4_isPlain_63 : Chn cX4_isPlain B_X4_isPlain_63 := chn_of _ (by decide +kernel)
def B_X4_isPlain_33 : Blk := (33, .iload_n 2, 1) :: (34, .bipush 27, 2) :: (36, .if_icmp .eq 27, 3) :: (39, .iload_n 2, 1) :: (40, .bipush 24, 2) :: (42, .if_icmp .eq 21, 3) :: (45, .iload_n 2, 1) :: (46, .bipush 25, 2) :: (48, .if_icmp .eq 15, 3) :: (51, .iload_n 2, 1) :: (52, .bipush 28, 2) :: (54, .if_icmp .lt 13, 3) :: (57, .iload_n 2, 1) :: (58, .bipush 33, 2) :: (60, .if_icmp .gt 7, 3) :: B_X4_isPlain_63
theorem o_X4_isPlain_33 : Chn cX4_isPlain B_X4_isPlain_33 := chn_app ((33, .iload_n 2, 1) :: (34, .bipush 27, 2) :: (36, .if_icmp .eq 27, 3) :: (39, .iload_n 2, 1) :: (40, .bipush 24, 2) :: (42, .if_icmp .eq 21, 3) :: (45, .iload_n 2, 1) :: (46, .bipush 25, 2) :: (48, .if_icmp .eq 15, 3) :: (51, .iload_n 2, 1) :: (52, .bipush 28, 2) :: (54, .if_icmp .lt 13, 3) :: (57, .iload_n 2, 1) :: (58, .bipush 33, 2) :: (60, .if_icmp .gt 7, 3) :: []) o_X4_isPlain_63 (by decide +kernel)
def B_X4_isPlain_32 : Blk := (32, .ireturn, 1) :: []
theorem o_X4_isPlain_32 : Chn cX4_isPlain B_X4_isPlain_32 := chn_of _ (by decide +kernel)
def B_X4_isPlain_31 : Blk := (31, .iconst 0, 1) :: B_X4_isPlain_32
theorem o_X4_isPlain_31 : Chn cX4_isPlain B_X4_isPlain_31 := chn_app ((31, .iconst 0, 1) :: []) o_X4_isPlain_32 (by decide +kernel)
def B_X4_isPlain_0 : Blk := (0, .iload_n 1, 1) :: (1, .bipush 63, 2) :: (3, .iand, 1) :: (4, .istore_n 2, 1) :: (5, .iload_n 2, 1) :: (6, .bipush 42, 2) :: (8, .if_icmp .ne 25, 3) :: (11, .aload_n 0, 1) :: (12, .getfield 25, 3) :: (15, .iload_n 1, 1) :: (16, .bipush 6, 2) :: (18, .ishr, 1) :: (19, .iconst 5, 1) :: (20, .invokevirtual 39, 3) :: (23, .iconst 1, 1) :: (24, .if_icmp .ne 7, 3) :: (27, .iconst 1, 1) :: (28, .goto 4, 3) :: []
theorem o_X4_isPlain_0 : Chn cX4_isPlain B_X4_isPlain_0 := chn_of _ (by decide +kernel)
theorem ml_4_39 : MLk RX4 39 yX2_fact := Or.inl (allW_in (kT_4 _ (List.mem_of_getElem? (i := 238) rfl)) rfl)
abbrev cX11_isComparison : ByteArray := prog_1_method_49_code
def yX11_isComparison : MethodName := ⟨RX11, "isComparison", "(I)Z"⟩
def M_X11_isComparison : MT := (yX11_isComparison, cX11_isComparison, 1, (some .boolean), RX11, 1)
theorem mk_X11_isComparison : MokS M_X11_isComparison 1 := ⟨⟨⟨by decide, by decide, rfl⟩, (allW_in (kT_4 _ (List.mem_of_getElem? (i := 215) rfl)) rfl), (allW_in (kT_1 _ (List.mem_of_getElem? (i := 1) rfl)) rfl), by decide⟩, (allW_in (kT_4 _ (List.mem_of_getElem? (i := 214) rfl)) rfl)⟩
def B_X11_isComparison_23 : Blk := (23, .ireturn, 1) :: []
theorem o_X11_isComparison_23 : Chn cX11_isComparison B_X11_isComparison_23 := chn_of _ (by decide +kernel)
def B_X11_isComparison_22 : Blk := (22, .iconst 0, 1) :: B_X11_isComparison_23
theorem o_X11_isComparison_22 : Chn cX11_isComparison B_X11_isComparison_22 := chn_app ((22, .iconst 0, 1) :: []) o_X11_isComparison_23 (by decide +kernel)
def B_X11_isComparison_18 : Blk := (18, .iconst 1, 1) :: (19, .goto 4, 3) :: []
theorem o_X11_isComparison_18 : Chn cX11_isComparison B_X11_isComparison_18 := chn_of _ (by decide +kernel)
def B_X11_isComparison_0 : Blk := (0, .iload_n 0, 1) :: (1, .bipush 10, 2) :: (3, .if_icmp .eq 15, 3) :: (6, .iload_n 0, 1) :: (7, .bipush 14, 2) :: (9, .if_icmp .lt 13, 3) :: (12, .iload_n 0, 1) :: (13, .bipush 18, 2) :: (15, .if_icmp .gt 7, 3) :: B_X11_isComparison_18
theorem o_X11_isComparison_0 : Chn cX11_isComparison B_X11_isComparison_0 := chn_app ((0, .iload_n 0, 1) :: (1, .bipush 10, 2) :: (3, .if_icmp .eq 15, 3) :: (6, .iload_n 0, 1) :: (7, .bipush 14, 2) :: (9, .if_icmp .lt 13, 3) :: (12, .iload_n 0, 1) :: (13, .bipush 18, 2) :: (15, .if_icmp .gt 7, 3) :: []) o_X11_isComparison_18 (by decide +kernel)
abbrev cX4_isConclusion : ByteArray := prog_6_method_10_code
def yX4_isConclusion : MethodName := ⟨RX4, "isConclusion", "(I)Z"⟩
def M_X4_isConclusion : MT := (yX4_isConclusion, cX4_isConclusion, 1, (some .boolean), RX4, 1)
theorem mk_X4_isConclusion : MokS M_X4_isConclusion 1 := ⟨⟨⟨by decide, by decide, rfl⟩, (allW_in (kT_5 _ (List.mem_of_getElem? (i := 16) rfl)) rfl), (allW_in (kT_1 _ (List.mem_of_getElem? (i := 9) rfl)) rfl), by decide⟩, (allW_in (kT_5 _ (List.mem_of_getElem? (i := 15) rfl)) rfl)⟩
def B_X4_isConclusion_18 : Blk := (18, .ireturn, 1) :: []
theorem o_X4_isConclusion_18 : Chn cX4_isConclusion B_X4_isConclusion_18 := chn_of _ (by decide +kernel)
def B_X4_isConclusion_17 : Blk := (17, .iconst 0, 1) :: B_X4_isConclusion_18
theorem o_X4_isConclusion_17 : Chn cX4_isConclusion B_X4_isConclusion_17 := chn_app ((17, .iconst 0, 1) :: []) o_X4_isConclusion_18 (by decide +kernel)
def B_X4_isConclusion_13 : Blk := (13, .iconst 1, 1) :: (14, .goto 4, 3) :: []
theorem o_X4_isConclusion_13 : Chn cX4_isConclusion B_X4_isConclusion_13 := chn_of _ (by decide +kernel)
def B_X4_isConclusion_0 : Blk := (0, .iload_n 0, 1) :: (1, .bipush 33, 2) :: (3, .if_icmp .eq 10, 3) :: (6, .iload_n 0, 1) :: (7, .invokestatic 105, 3) :: (10, .ifCond .eq 7, 3) :: B_X4_isConclusion_13
theorem o_X4_isConclusion_0 : Chn cX4_isConclusion B_X4_isConclusion_0 := chn_app ((0, .iload_n 0, 1) :: (1, .bipush 33, 2) :: (3, .if_icmp .eq 10, 3) :: (6, .iload_n 0, 1) :: (7, .invokestatic 105, 3) :: (10, .ifCond .eq 7, 3) :: []) o_X4_isConclusion_13 (by decide +kernel)
theorem ml_4_105 : MLk RX4 105 yX11_isComparison := Or.inr ⟨"IntegerHouse", List.mem_of_getElem? (i := 4) rfl⟩
abbrev cX4_lastOf : ByteArray := prog_6_method_9_code
def yX4_lastOf : MethodName := ⟨RX4, "lastOf", "(II)I"⟩
def M_X4_lastOf : MT := (yX4_lastOf, cX4_lastOf, 4, (some .int), RX4, 1)
theorem mk_X4_lastOf : MokV M_X4_lastOf 4 2 := ⟨⟨⟨by decide, by decide, rfl⟩, (allW_in (kT_5 _ (List.mem_of_getElem? (i := 13) rfl)) rfl), (allW_in (kT_1 _ (List.mem_of_getElem? (i := 9) rfl)) rfl), by decide⟩, ⟨TX4, 10, rfl⟩, (allW_in (kT_5 _ (List.mem_of_getElem? (i := 12) rfl)) rfl), (allW_in (kTs_3 _ (List.mem_of_getElem? (i := 1) rfl)) rfl)⟩
def B_X4_lastOf_36 : Blk := (36, .iload_n 3, 1) :: (37, .ireturn, 1) :: []
theorem o_X4_lastOf_36 : Chn cX4_lastOf B_X4_lastOf_36 := chn_of _ (by decide +kernel)
def B_X4_lastOf_2 : Blk := (2, .iload_n 3, 1) :: (3, .iload_n 2, 1) :: (4, .iconst 1, 1) :: (5, .isub, 1) :: (6, .if_icmp .ge 30, 3) :: (9, .aload_n 0, 1) :: (10, .getfield 25, 3) :: (13, .aload_n 0, 1) :: (14, .getfield 33, 3) :: (17, .iload_n 3, 1) :: (18, .invokevirtual 43, 3) :: (21, .bipush 63, 2) :: (23, .iand, 1) :: (24, .invokestatic 102, 3) :: (27, .ifCond .ne 9, 3) :: (30, .iinc 3 1, 3) :: (33, .goto (-31), 3) :: []
theorem o_X4_lastOf_2 : Chn cX4_lastOf B_X4_lastOf_2 := chn_of _ (by decide +kernel)
def B_X4_lastOf_0 : Blk := (0, .iload_n 1, 1) :: (1, .istore_n 3, 1) :: B_X4_lastOf_2
theorem o_X4_lastOf_0 : Chn cX4_lastOf B_X4_lastOf_0 := chn_app ((0, .iload_n 1, 1) :: (1, .istore_n 3, 1) :: []) o_X4_lastOf_2 (by decide +kernel)
theorem ml_4_43 : MLk RX4 43 yX2_step := Or.inl (allW_in (kT_5 _ (List.mem_of_getElem? (i := 2) rfl)) rfl)
theorem ml_4_102 : MLk RX4 102 yX4_isConclusion := Or.inl (allW_in (kT_5 _ (List.mem_of_getElem? (i := 14) rfl)) rfl)
abbrev cX4_waysOf : ByteArray := prog_6_method_11_code
def yX4_waysOf : MethodName := ⟨RX4, "waysOf", "(I)I"⟩
def M_X4_waysOf : MT := (yX4_waysOf, cX4_waysOf, 2, (some .int), RX4, 1)
theorem mk_X4_waysOf : MokS M_X4_waysOf 1 := ⟨⟨⟨by decide, by decide, rfl⟩, (allW_in (kT_5 _ (List.mem_of_getElem? (i := 24) rfl)) rfl), (allW_in (kT_1 _ (List.mem_of_getElem? (i := 9) rfl)) rfl), by decide⟩, (allW_in (kT_5 _ (List.mem_of_getElem? (i := 23) rfl)) rfl)⟩
def B_X4_waysOf_41 : Blk := (41, .ireturn, 1) :: []
theorem o_X4_waysOf_41 : Chn cX4_waysOf B_X4_waysOf_41 := chn_of _ (by decide +kernel)
def B_X4_waysOf_40 : Blk := (40, .iconst 1, 1) :: B_X4_waysOf_41
theorem o_X4_waysOf_40 : Chn cX4_waysOf B_X4_waysOf_40 := chn_app ((40, .iconst 1, 1) :: []) o_X4_waysOf_41 (by decide +kernel)
def B_X4_waysOf_24 : Blk := (24, .iload_n 1, 1) :: (25, .bipush 28, 2) :: (27, .if_icmp .lt 13, 3) :: (30, .iload_n 1, 1) :: (31, .bipush 30, 2) :: (33, .if_icmp .gt 7, 3) :: (36, .iconst 2, 1) :: (37, .goto 4, 3) :: []
theorem o_X4_waysOf_24 : Chn cX4_waysOf B_X4_waysOf_24 := chn_of _ (by decide +kernel)
def B_X4_waysOf_17 : Blk := (17, .iload_n 0, 1) :: (18, .bipush 6, 2) :: (20, .ishr, 1) :: (21, .goto 20, 3) :: []
theorem o_X4_waysOf_17 : Chn cX4_waysOf B_X4_waysOf_17 := chn_of _ (by decide +kernel)
def B_X4_waysOf_0 : Blk := (0, .iload_n 0, 1) :: (1, .bipush 63, 2) :: (3, .iand, 1) :: (4, .istore_n 1, 1) :: (5, .iload_n 1, 1) :: (6, .bipush 31, 2) :: (8, .if_icmp .eq 9, 3) :: (11, .iload_n 1, 1) :: (12, .bipush 32, 2) :: (14, .if_icmp .ne 10, 3) :: B_X4_waysOf_17
theorem o_X4_waysOf_0 : Chn cX4_waysOf B_X4_waysOf_0 := chn_app ((0, .iload_n 0, 1) :: (1, .bipush 63, 2) :: (3, .iand, 1) :: (4, .istore_n 1, 1) :: (5, .iload_n 1, 1) :: (6, .bipush 31, 2) :: (8, .if_icmp .eq 9, 3) :: (11, .iload_n 1, 1) :: (12, .bipush 32, 2) :: (14, .if_icmp .ne 10, 3) :: []) o_X4_waysOf_17 (by decide +kernel)
abbrev cX4_casesOf : ByteArray := prog_6_method_12_code
def yX4_casesOf : MethodName := ⟨RX4, "casesOf", "(II)I"⟩
def M_X4_casesOf : MT := (yX4_casesOf, cX4_casesOf, 5, (some .int), RX4, 1)
theorem mk_X4_casesOf : MokV M_X4_casesOf 4 2 := ⟨⟨⟨by decide, by decide, rfl⟩, (allW_in (kT_5 _ (List.mem_of_getElem? (i := 21) rfl)) rfl), (allW_in (kT_1 _ (List.mem_of_getElem? (i := 9) rfl)) rfl), by decide⟩, ⟨TX4, 10, rfl⟩, (allW_in (kT_5 _ (List.mem_of_getElem? (i := 20) rfl)) rfl), (allW_in (kTs_3 _ (List.mem_of_getElem? (i := 2) rfl)) rfl)⟩
def B_X4_casesOf_41 : Blk := (41, .iload_n 3, 1) :: (42, .ireturn, 1) :: []
theorem o_X4_casesOf_41 : Chn cX4_casesOf B_X4_casesOf_41 := chn_of _ (by decide +kernel)
def B_X4_casesOf_5 : Blk := (5, .iload 4, 2) :: (7, .iload_n 2, 1) :: (8, .if_icmp .gt 33, 3) :: (11, .bipush 65, 2) :: (13, .iload_n 3, 1) :: (14, .aload_n 0, 1) :: (15, .getfield 25, 3) :: (18, .aload_n 0, 1) :: (19, .getfield 33, 3) :: (22, .iload 4, 2) :: (24, .invokevirtual 43, 3) :: (27, .invokestatic 108, 3) :: (30, .imul, 1) :: (31, .invokestatic 56, 3) :: (34, .istore_n 3, 1) :: (35, .iinc 4 1, 3) :: (38, .goto (-33), 3) :: []
theorem o_X4_casesOf_5 : Chn cX4_casesOf B_X4_casesOf_5 := chn_of _ (by decide +kernel)
def B_X4_casesOf_0 : Blk := (0, .iconst 1, 1) :: (1, .istore_n 3, 1) :: (2, .iload_n 1, 1) :: (3, .istore 4, 2) :: B_X4_casesOf_5
theorem o_X4_casesOf_0 : Chn cX4_casesOf B_X4_casesOf_0 := chn_app ((0, .iconst 1, 1) :: (1, .istore_n 3, 1) :: (2, .iload_n 1, 1) :: (3, .istore 4, 2) :: []) o_X4_casesOf_5 (by decide +kernel)
theorem ml_4_108 : MLk RX4 108 yX4_waysOf := Or.inl (allW_in (kT_5 _ (List.mem_of_getElem? (i := 22) rfl)) rfl)
abbrev cX4_top : ByteArray := prog_6_method_22_code
def yX4_top : MethodName := ⟨RX4, "top", "(I)I"⟩
def M_X4_top : MT := (yX4_top, cX4_top, 2, (some .int), RX4, 1)
theorem mk_X4_top : MokV M_X4_top 4 1 := ⟨⟨⟨by decide, by decide, rfl⟩, (allW_in (kT_5 _ (List.mem_of_getElem? (i := 41) rfl)) rfl), (allW_in (kT_1 _ (List.mem_of_getElem? (i := 9) rfl)) rfl), by decide⟩, ⟨TX4, 10, rfl⟩, (allW_in (kT_5 _ (List.mem_of_getElem? (i := 40) rfl)) rfl), (allW_in (kTs_3 _ (List.mem_of_getElem? (i := 6) rfl)) rfl)⟩
def B_X4_top_20 : Blk := (20, .ireturn, 1) :: []
theorem o_X4_top_20 : Chn cX4_top B_X4_top_20 := chn_of _ (by decide +kernel)
def B_X4_top_19 : Blk := (19, .iconst 0, 1) :: B_X4_top_20
theorem o_X4_top_19 : Chn cX4_top B_X4_top_19 := chn_app ((19, .iconst 0, 1) :: []) o_X4_top_20 (by decide +kernel)
def B_X4_top_0 : Blk := (0, .iload_n 1, 1) :: (1, .ifCond .lt 18, 3) :: (4, .iload_n 1, 1) :: (5, .bipush 8, 2) :: (7, .if_icmp .ge 12, 3) :: (10, .aload_n 0, 1) :: (11, .getfield 15, 3) :: (14, .iload_n 1, 1) :: (15, .iaload, 1) :: (16, .goto 4, 3) :: []
theorem o_X4_top_0 : Chn cX4_top B_X4_top_0 := chn_of _ (by decide +kernel)
abbrev cX4_form : ByteArray := prog_6_method_24_code
def yX4_form : MethodName := ⟨RX4, "form", "(II)I"⟩
def M_X4_form : MT := (yX4_form, cX4_form, 2, (some .int), RX4, 1)
theorem mk_X4_form : MokS M_X4_form 2 := ⟨⟨⟨by decide, by decide, rfl⟩, (allW_in (kT_5 _ (List.mem_of_getElem? (i := 44) rfl)) rfl), (allW_in (kT_1 _ (List.mem_of_getElem? (i := 9) rfl)) rfl), by decide⟩, (allW_in (kT_5 _ (List.mem_of_getElem? (i := 43) rfl)) rfl)⟩
def B_X4_form_33 : Blk := (33, .ireturn, 1) :: []
theorem o_X4_form_33 : Chn cX4_form B_X4_form_33 := chn_of _ (by decide +kernel)
def B_X4_form_32 : Blk := (32, .iconst 0, 1) :: B_X4_form_33
theorem o_X4_form_32 : Chn cX4_form B_X4_form_32 := chn_app ((32, .iconst 0, 1) :: []) o_X4_form_33 (by decide +kernel)
def B_X4_form_0 : Blk := (0, .iload_n 0, 1) :: (1, .ifCond .lt 31, 3) :: (4, .iload_n 0, 1) :: (5, .bipush 8, 2) :: (7, .if_icmp .ge 25, 3) :: (10, .iload_n 1, 1) :: (11, .ifCond .lt 21, 3) :: (14, .iload_n 1, 1) :: (15, .bipush 40, 2) :: (17, .if_icmp .ge 15, 3) :: (20, .iload_n 0, 1) :: (21, .bipush 40, 2) :: (23, .imul, 1) :: (24, .iload_n 1, 1) :: (25, .iadd, 1) :: (26, .bipush 6, 2) :: (28, .imul, 1) :: (29, .goto 4, 3) :: []
theorem o_X4_form_0 : Chn cX4_form B_X4_form_0 := chn_of _ (by decide +kernel)
abbrev cX4_lineOf : ByteArray := prog_6_method_31_code
def yX4_lineOf : MethodName := ⟨RX4, "lineOf", "(III)I"⟩
def M_X4_lineOf : MT := (yX4_lineOf, cX4_lineOf, 8, (some .int), RX4, 1)
theorem mk_X4_lineOf : MokV M_X4_lineOf 4 3 := ⟨⟨⟨by decide, by decide, rfl⟩, (allW_in (kT_5 _ (List.mem_of_getElem? (i := 48) rfl)) rfl), (allW_in (kT_1 _ (List.mem_of_getElem? (i := 9) rfl)) rfl), by decide⟩, ⟨TX4, 10, rfl⟩, (allW_in (kT_5 _ (List.mem_of_getElem? (i := 47) rfl)) rfl), (allW_in (kTs_3 _ (List.mem_of_getElem? (i := 7) rfl)) rfl)⟩
def B_X4_lineOf_167 : Blk := (167, .ireturn, 1) :: []
theorem o_X4_lineOf_167 : Chn cX4_lineOf B_X4_lineOf_167 := chn_of _ (by decide +kernel)
def B_X4_lineOf_166 : Blk := (166, .iconst (-1), 1) :: B_X4_lineOf_167
theorem o_X4_lineOf_166 : Chn cX4_lineOf B_X4_lineOf_166 := chn_app ((166, .iconst (-1), 1) :: []) o_X4_lineOf_167 (by decide +kernel)
def B_X4_lineOf_161 : Blk := (161, .bipush 27, 2) :: (163, .goto 4, 3) :: []
theorem o_X4_lineOf_161 : Chn cX4_lineOf B_X4_lineOf_161 := chn_of _ (by decide +kernel)
def B_X4_lineOf_124 : Blk := (124, .ior, 1) :: (125, .putfield 61, 3) :: (128, .aload_n 0, 1) :: (129, .getfield 19, 3) :: (132, .iconst 4, 1) :: (133, .lload 5, 2) :: (135, .l2i, 1) :: (136, .iastore, 1) :: (137, .aload_n 0, 1) :: (138, .getfield 19, 3) :: (141, .iconst 5, 1) :: (142, .iconst 0, 1) :: (143, .iastore, 1) :: (144, .iload 4, 2) :: (146, .ifCond .eq 20, 3) :: (149, .lload 5, 2) :: (151, .lconst 0, 1) :: (152, .lcmp, 1) :: (153, .ifCond .lt 8, 3) :: (156, .bipush 26, 2) :: (158, .goto 9, 3) :: []
theorem o_X4_lineOf_124 : Chn cX4_lineOf B_X4_lineOf_124 := chn_of _ (by decide +kernel)
def B_X4_lineOf_123 : Blk := (123, .iconst 0, 1) :: B_X4_lineOf_124
theorem o_X4_lineOf_123 : Chn cX4_lineOf B_X4_lineOf_123 := chn_app ((123, .iconst 0, 1) :: []) o_X4_lineOf_124 (by decide +kernel)
def B_X4_lineOf_85 : Blk := (85, .iload_n 2, 1) :: (86, .ineg, 1) :: (87, .i2l, 1) :: (88, .aload_n 0, 1) :: (89, .getfield 11, 3) :: (92, .iload_n 1, 1) :: (93, .iconst 4, 1) :: (94, .iadd, 1) :: (95, .laload, 1) :: (96, .lmul, 1) :: (97, .iload_n 3, 1) :: (98, .i2l, 1) :: (99, .lsub, 1) :: (100, .lstore 5, 2) :: (102, .aload_n 0, 1) :: (103, .dup, 1) :: (104, .getfield 61, 3) :: (107, .lload 5, 2) :: (109, .invokestatic 98, 3) :: (112, .ldc2_w 183, 3) :: (115, .lcmp, 1) :: (116, .ifCond .le 7, 3) :: (119, .iconst 1, 1) :: (120, .goto 4, 3) :: []
theorem o_X4_lineOf_85 : Chn cX4_lineOf B_X4_lineOf_85 := chn_of _ (by decide +kernel)
def B_X4_lineOf_66 : Blk := (66, .iand, 1) :: (67, .istore 4, 2) :: (69, .aload_n 0, 1) :: (70, .getfield 19, 3) :: (73, .iload 5, 2) :: (75, .lload 6, 2) :: (77, .l2i, 1) :: (78, .iastore, 1) :: (79, .iinc 5 1, 3) :: (82, .goto (-76), 3) :: []
theorem o_X4_lineOf_66 : Chn cX4_lineOf B_X4_lineOf_66 := chn_of _ (by decide +kernel)
def B_X4_lineOf_65 : Blk := (65, .iconst 0, 1) :: B_X4_lineOf_66
theorem o_X4_lineOf_65 : Chn cX4_lineOf B_X4_lineOf_65 := chn_app ((65, .iconst 0, 1) :: []) o_X4_lineOf_66 (by decide +kernel)
def B_X4_lineOf_48 : Blk := (48, .ior, 1) :: (49, .putfield 61, 3) :: (52, .iload 4, 2) :: (54, .lload 6, 2) :: (56, .lconst 0, 1) :: (57, .lcmp, 1) :: (58, .ifCond .ne 7, 3) :: (61, .iconst 1, 1) :: (62, .goto 4, 3) :: []
theorem o_X4_lineOf_48 : Chn cX4_lineOf B_X4_lineOf_48 := chn_of _ (by decide +kernel)
def B_X4_lineOf_47 : Blk := (47, .iconst 0, 1) :: B_X4_lineOf_48
theorem o_X4_lineOf_47 : Chn cX4_lineOf B_X4_lineOf_47 := chn_app ((47, .iconst 0, 1) :: []) o_X4_lineOf_48 (by decide +kernel)
def B_X4_lineOf_6 : Blk := (6, .iload 5, 2) :: (8, .iconst 4, 1) :: (9, .if_icmp .ge 76, 3) :: (12, .iload_n 2, 1) :: (13, .i2l, 1) :: (14, .aload_n 0, 1) :: (15, .getfield 11, 3) :: (18, .iload_n 1, 1) :: (19, .iload 5, 2) :: (21, .iadd, 1) :: (22, .laload, 1) :: (23, .lmul, 1) :: (24, .lstore 6, 2) :: (26, .aload_n 0, 1) :: (27, .dup, 1) :: (28, .getfield 61, 3) :: (31, .lload 6, 2) :: (33, .invokestatic 98, 3) :: (36, .ldc2_w 181, 3) :: (39, .lcmp, 1) :: (40, .ifCond .le 7, 3) :: (43, .iconst 1, 1) :: (44, .goto 4, 3) :: []
theorem o_X4_lineOf_6 : Chn cX4_lineOf B_X4_lineOf_6 := chn_of _ (by decide +kernel)
def B_X4_lineOf_0 : Blk := (0, .iconst 1, 1) :: (1, .istore 4, 2) :: (3, .iconst 0, 1) :: (4, .istore 5, 2) :: B_X4_lineOf_6
theorem o_X4_lineOf_0 : Chn cX4_lineOf B_X4_lineOf_0 := chn_app ((0, .iconst 1, 1) :: (1, .istore 4, 2) :: (3, .iconst 0, 1) :: (4, .istore 5, 2) :: []) o_X4_lineOf_6 (by decide +kernel)
theorem fl_4_11 : FLk RX4 11 4 1 3 true := ⟨RX4, TX4, 10, "IntegerHouse$Maker", "forms", "[J", rfl, by decide, rfl, Or.inl (allW_in (kT_2 _ (List.mem_of_getElem? (i := 8) rfl)) rfl), rfl, (fun h => absurd h (by decide)), (fun h => absurd h (by decide)), (fun h => absurd h (by decide)), (fun h => absurd h (by decide))⟩
theorem fl_4_19 : FLk RX4 19 4 3 3 true := ⟨RX4, TX4, 10, "IntegerHouse$Maker", "row", "[I", rfl, by decide, rfl, Or.inl (allW_in (kT_2 _ (List.mem_of_getElem? (i := 10) rfl)) rfl), rfl, (fun h => absurd h (by decide)), (fun h => absurd h (by decide)), (fun h => absurd h (by decide)), (fun h => absurd h (by decide))⟩
abbrev cX4_emit : ByteArray := prog_6_method_14_code
def yX4_emit : MethodName := ⟨RX4, "emit", "(I)V"⟩
def M_X4_emit : MT := (yX4_emit, cX4_emit, 2, none, RX4, 0)
theorem mk_X4_emit : MokV M_X4_emit 4 1 := ⟨⟨⟨by decide, by decide, rfl⟩, (allW_in (kT_5 _ (List.mem_of_getElem? (i := 61) rfl)) rfl), (allW_in (kT_1 _ (List.mem_of_getElem? (i := 9) rfl)) rfl), by decide⟩, ⟨TX4, 10, rfl⟩, (allW_in (kT_5 _ (List.mem_of_getElem? (i := 60) rfl)) rfl), (allW_in (kTs_3 _ (List.mem_of_getElem? (i := 9) rfl)) rfl)⟩
def B_X4_emit_65 : Blk := (65, .return_, 1) :: []
theorem o_X4_emit_65 : Chn cX4_emit B_X4_emit_65 := chn_of _ (by decide +kernel)
def B_X4_emit_0 : Blk := (0, .aload_n 0, 1) :: (1, .getfield 33, 3) :: (4, .ifCond .lt 61, 3) :: (7, .aload_n 0, 1) :: (8, .getfield 33, 3) :: (11, .bipush 26, 2) :: (13, .if_icmp .ge 52, 3) :: (16, .aload_n 0, 1) :: (17, .getfield 86, 3) :: (20, .ifCond .lt 45, 3) :: (23, .aload_n 0, 1) :: (24, .getfield 86, 3) :: (27, .sipush 1024, 3) :: (30, .if_icmp .ge 35, 3) :: (33, .aload_n 0, 1) :: (34, .getfield 25, 3) :: (37, .getfield 118, 3) :: (40, .aload_n 0, 1) :: (41, .getfield 33, 3) :: (44, .sipush 1024, 3) :: (47, .imul, 1) :: (48, .aload_n 0, 1) :: (49, .getfield 86, 3) :: (52, .iadd, 1) :: (53, .iload_n 1, 1) :: (54, .iastore, 1) :: (55, .aload_n 0, 1) :: (56, .dup, 1) :: (57, .getfield 86, 3) :: (60, .iconst 1, 1) :: (61, .iadd, 1) :: (62, .putfield 86, 3) :: B_X4_emit_65
theorem o_X4_emit_0 : Chn cX4_emit B_X4_emit_0 := chn_app ((0, .aload_n 0, 1) :: (1, .getfield 33, 3) :: (4, .ifCond .lt 61, 3) :: (7, .aload_n 0, 1) :: (8, .getfield 33, 3) :: (11, .bipush 26, 2) :: (13, .if_icmp .ge 52, 3) :: (16, .aload_n 0, 1) :: (17, .getfield 86, 3) :: (20, .ifCond .lt 45, 3) :: (23, .aload_n 0, 1) :: (24, .getfield 86, 3) :: (27, .sipush 1024, 3) :: (30, .if_icmp .ge 35, 3) :: (33, .aload_n 0, 1) :: (34, .getfield 25, 3) :: (37, .getfield 118, 3) :: (40, .aload_n 0, 1) :: (41, .getfield 33, 3) :: (44, .sipush 1024, 3) :: (47, .imul, 1) :: (48, .aload_n 0, 1) :: (49, .getfield 86, 3) :: (52, .iadd, 1) :: (53, .iload_n 1, 1) :: (54, .iastore, 1) :: (55, .aload_n 0, 1) :: (56, .dup, 1) :: (57, .getfield 86, 3) :: (60, .iconst 1, 1) :: (61, .iadd, 1) :: (62, .putfield 86, 3) :: []) o_X4_emit_65 (by decide +kernel)
theorem fl_4_118 : FLk RX4 118 2 4 3 true := ⟨RX2, TX2, 16, "IntegerHouse$House", "code", "[I", rfl, by decide, rfl, Or.inr ⟨"IntegerHouse", List.mem_of_getElem? (i := 4) rfl⟩, rfl, (fun h => absurd h (by decide)), (fun h => absurd h (by decide)), (fun h => absurd h (by decide)), (fun h => absurd h (by decide))⟩
abbrev cX4_add : ByteArray := prog_6_method_33_code
def yX4_add : MethodName := ⟨RX4, "add", "(I)V"⟩
def M_X4_add : MT := (yX4_add, cX4_add, 3, none, RX4, 0)
theorem mk_X4_add : MokV M_X4_add 4 1 := ⟨⟨⟨by decide, by decide, rfl⟩, (allW_in (kT_5 _ (List.mem_of_getElem? (i := 57) rfl)) rfl), (allW_in (kT_1 _ (List.mem_of_getElem? (i := 9) rfl)) rfl), by decide⟩, ⟨TX4, 10, rfl⟩, (allW_in (kT_5 _ (List.mem_of_getElem? (i := 56) rfl)) rfl), (allW_in (kTs_3 _ (List.mem_of_getElem? (i := 8) rfl)) rfl)⟩
def B_X4_add_89 : Blk := (89, .return_, 1) :: []
theorem o_X4_add_89 : Chn cX4_add B_X4_add_89 := chn_of _ (by decide +kernel)
def B_X4_add_81 : Blk := (81, .putfield 89, 3) :: (84, .aload_n 0, 1) :: (85, .iload_n 2, 1) :: (86, .invokevirtual 76, 3) :: B_X4_add_89
theorem o_X4_add_81 : Chn cX4_add B_X4_add_81 := chn_app ((81, .putfield 89, 3) :: (84, .aload_n 0, 1) :: (85, .iload_n 2, 1) :: (86, .invokevirtual 76, 3) :: []) o_X4_add_89 (by decide +kernel)
def B_X4_add_80 : Blk := (80, .iconst 0, 1) :: B_X4_add_81
theorem o_X4_add_80 : Chn cX4_add B_X4_add_80 := chn_app ((80, .iconst 0, 1) :: []) o_X4_add_81 (by decide +kernel)
def B_X4_add_34 : Blk := (34, .aload_n 0, 1) :: (35, .getfield 61, 3) :: (38, .ifCond .ne 51, 3) :: (41, .aload_n 0, 1) :: (42, .getfield 89, 3) :: (45, .ifCond .ne 44, 3) :: (48, .aload_n 0, 1) :: (49, .getfield 25, 3) :: (52, .aload_n 0, 1) :: (53, .getfield 19, 3) :: (56, .invokevirtual 190, 3) :: (59, .istore_n 2, 1) :: (60, .aload_n 0, 1) :: (61, .aload_n 0, 1) :: (62, .getfield 25, 3) :: (65, .aload_n 0, 1) :: (66, .getfield 33, 3) :: (69, .iload_n 2, 1) :: (70, .invokevirtual 115, 3) :: (73, .ifCond .ne 7, 3) :: (76, .iconst 1, 1) :: (77, .goto 4, 3) :: []
theorem o_X4_add_34 : Chn cX4_add B_X4_add_34 := chn_of _ (by decide +kernel)
def B_X4_add_27 : Blk := (27, .ior, 1) :: (28, .putfield 83, 3) :: (31, .goto 58, 3) :: []
theorem o_X4_add_27 : Chn cX4_add B_X4_add_27 := chn_of _ (by decide +kernel)
def B_X4_add_26 : Blk := (26, .iconst 0, 1) :: B_X4_add_27
theorem o_X4_add_26 : Chn cX4_add B_X4_add_26 := chn_app ((26, .iconst 0, 1) :: []) o_X4_add_27 (by decide +kernel)
def B_X4_add_0 : Blk := (0, .iload_n 1, 1) :: (1, .iconst (-1), 1) :: (2, .if_icmp .eq 32, 3) :: (5, .aload_n 0, 1) :: (6, .iload_n 1, 1) :: (7, .ineg, 1) :: (8, .invokevirtual 76, 3) :: (11, .aload_n 0, 1) :: (12, .dup, 1) :: (13, .getfield 83, 3) :: (16, .iload_n 1, 1) :: (17, .bipush 27, 2) :: (19, .if_icmp .ne 7, 3) :: (22, .iconst 1, 1) :: (23, .goto 4, 3) :: []
theorem o_X4_add_0 : Chn cX4_add B_X4_add_0 := chn_of _ (by decide +kernel)
theorem ml_4_190 : MLk RX4 190 yX2_poolNumber := Or.inl (allW_in (kT_5 _ (List.mem_of_getElem? (i := 62) rfl)) rfl)
theorem ml_4_115 : MLk RX4 115 yX2_addAtom := Or.inl (allW_in (kT_5 _ (List.mem_of_getElem? (i := 66) rfl)) rfl)
theorem ml_4_76 : MLk RX4 76 yX4_emit := Or.inl (allW_in (kT_5 _ (List.mem_of_getElem? (i := 58) rfl)) rfl)
abbrev cX4_copyForm : ByteArray := prog_6_method_26_code
def yX4_copyForm : MethodName := ⟨RX4, "copyForm", "(II)V"⟩
def M_X4_copyForm : MT := (yX4_copyForm, cX4_copyForm, 4, none, RX4, 0)
theorem mk_X4_copyForm : MokV M_X4_copyForm 4 2 := ⟨⟨⟨by decide, by decide, rfl⟩, (allW_in (kT_5 _ (List.mem_of_getElem? (i := 77) rfl)) rfl), (allW_in (kT_1 _ (List.mem_of_getElem? (i := 9) rfl)) rfl), by decide⟩, ⟨TX4, 10, rfl⟩, (allW_in (kT_5 _ (List.mem_of_getElem? (i := 76) rfl)) rfl), (allW_in (kTs_3 _ (List.mem_of_getElem? (i := 11) rfl)) rfl)⟩
def B_X4_copyForm_30 : Blk := (30, .return_, 1) :: []
theorem o_X4_copyForm_30 : Chn cX4_copyForm B_X4_copyForm_30 := chn_of _ (by decide +kernel)
def B_X4_copyForm_2 : Blk := (2, .iload_n 3, 1) :: (3, .bipush 6, 2) :: (5, .if_icmp .ge 25, 3) :: (8, .aload_n 0, 1) :: (9, .getfield 11, 3) :: (12, .iload_n 2, 1) :: (13, .iload_n 3, 1) :: (14, .iadd, 1) :: (15, .aload_n 0, 1) :: (16, .getfield 11, 3) :: (19, .iload_n 1, 1) :: (20, .iload_n 3, 1) :: (21, .iadd, 1) :: (22, .laload, 1) :: (23, .lastore, 1) :: (24, .iinc 3 1, 3) :: (27, .goto (-25), 3) :: []
theorem o_X4_copyForm_2 : Chn cX4_copyForm B_X4_copyForm_2 := chn_of _ (by decide +kernel)
def B_X4_copyForm_0 : Blk := (0, .iconst 0, 1) :: (1, .istore_n 3, 1) :: B_X4_copyForm_2
theorem o_X4_copyForm_0 : Chn cX4_copyForm B_X4_copyForm_0 := chn_app ((0, .iconst 0, 1) :: (1, .istore_n 3, 1) :: []) o_X4_copyForm_2 (by decide +kernel)
abbrev cX4_setTop : ByteArray := prog_6_method_23_code
def yX4_setTop : MethodName := ⟨RX4, "setTop", "(II)V"⟩
def M_X4_setTop : MT := (yX4_setTop, cX4_setTop, 3, none, RX4, 0)
theorem mk_X4_setTop : MokV M_X4_setTop 4 2 := ⟨⟨⟨by decide, by decide, rfl⟩, (allW_in (kT_5 _ (List.mem_of_getElem? (i := 81) rfl)) rfl), (allW_in (kT_1 _ (List.mem_of_getElem? (i := 9) rfl)) rfl), by decide⟩, ⟨TX4, 10, rfl⟩, (allW_in (kT_5 _ (List.mem_of_getElem? (i := 80) rfl)) rfl), (allW_in (kTs_3 _ (List.mem_of_getElem? (i := 12) rfl)) rfl)⟩
def B_X4_setTop_17 : Blk := (17, .return_, 1) :: []
theorem o_X4_setTop_17 : Chn cX4_setTop B_X4_setTop_17 := chn_of _ (by decide +kernel)
def B_X4_setTop_0 : Blk := (0, .iload_n 1, 1) :: (1, .ifCond .lt 16, 3) :: (4, .iload_n 1, 1) :: (5, .bipush 8, 2) :: (7, .if_icmp .ge 10, 3) :: (10, .aload_n 0, 1) :: (11, .getfield 15, 3) :: (14, .iload_n 1, 1) :: (15, .iload_n 2, 1) :: (16, .iastore, 1) :: B_X4_setTop_17
theorem o_X4_setTop_0 : Chn cX4_setTop B_X4_setTop_0 := chn_app ((0, .iload_n 1, 1) :: (1, .ifCond .lt 16, 3) :: (4, .iload_n 1, 1) :: (5, .bipush 8, 2) :: (7, .if_icmp .ge 10, 3) :: (10, .aload_n 0, 1) :: (11, .getfield 15, 3) :: (14, .iload_n 1, 1) :: (15, .iload_n 2, 1) :: (16, .iastore, 1) :: []) o_X4_setTop_17 (by decide +kernel)
abbrev cX4_copyLevel : ByteArray := prog_6_method_27_code
def yX4_copyLevel : MethodName := ⟨RX4, "copyLevel", "(I)V"⟩
def M_X4_copyLevel : MT := (yX4_copyLevel, cX4_copyLevel, 4, none, RX4, 0)
theorem mk_X4_copyLevel : MokV M_X4_copyLevel 4 1 := ⟨⟨⟨by decide, by decide, rfl⟩, (allW_in (kT_5 _ (List.mem_of_getElem? (i := 73) rfl)) rfl), (allW_in (kT_1 _ (List.mem_of_getElem? (i := 9) rfl)) rfl), by decide⟩, ⟨TX4, 10, rfl⟩, (allW_in (kT_5 _ (List.mem_of_getElem? (i := 72) rfl)) rfl), (allW_in (kTs_3 _ (List.mem_of_getElem? (i := 10) rfl)) rfl)⟩
def B_X4_copyLevel_35 : Blk := (35, .aload_n 0, 1) :: (36, .iload_n 1, 1) :: (37, .iconst 1, 1) :: (38, .iadd, 1) :: (39, .iload_n 2, 1) :: (40, .invokevirtual 160, 3) :: (43, .return_, 1) :: []
theorem o_X4_copyLevel_35 : Chn cX4_copyLevel B_X4_copyLevel_35 := chn_of _ (by decide +kernel)
def B_X4_copyLevel_8 : Blk := (8, .iload_n 3, 1) :: (9, .iload_n 2, 1) :: (10, .if_icmp .ge 25, 3) :: (13, .aload_n 0, 1) :: (14, .iload_n 1, 1) :: (15, .iload_n 3, 1) :: (16, .invokestatic 95, 3) :: (19, .iload_n 1, 1) :: (20, .iconst 1, 1) :: (21, .iadd, 1) :: (22, .iload_n 3, 1) :: (23, .invokestatic 95, 3) :: (26, .invokevirtual 163, 3) :: (29, .iinc 3 1, 3) :: (32, .goto (-24), 3) :: []
theorem o_X4_copyLevel_8 : Chn cX4_copyLevel B_X4_copyLevel_8 := chn_of _ (by decide +kernel)
def B_X4_copyLevel_0 : Blk := (0, .aload_n 0, 1) :: (1, .iload_n 1, 1) :: (2, .invokevirtual 137, 3) :: (5, .istore_n 2, 1) :: (6, .iconst 0, 1) :: (7, .istore_n 3, 1) :: B_X4_copyLevel_8
theorem o_X4_copyLevel_0 : Chn cX4_copyLevel B_X4_copyLevel_0 := chn_app ((0, .aload_n 0, 1) :: (1, .iload_n 1, 1) :: (2, .invokevirtual 137, 3) :: (5, .istore_n 2, 1) :: (6, .iconst 0, 1) :: (7, .istore_n 3, 1) :: []) o_X4_copyLevel_8 (by decide +kernel)
theorem ml_4_137 : MLk RX4 137 yX4_top := Or.inl (allW_in (kT_5 _ (List.mem_of_getElem? (i := 38) rfl)) rfl)
theorem ml_4_160 : MLk RX4 160 yX4_setTop := Or.inl (allW_in (kT_5 _ (List.mem_of_getElem? (i := 78) rfl)) rfl)
theorem ml_4_95 : MLk RX4 95 yX4_form := Or.inl (allW_in (kT_5 _ (List.mem_of_getElem? (i := 42) rfl)) rfl)
theorem ml_4_163 : MLk RX4 163 yX4_copyForm := Or.inl (allW_in (kT_5 _ (List.mem_of_getElem? (i := 74) rfl)) rfl)
abbrev cX4_multiply : ByteArray := prog_6_method_28_code
def yX4_multiply : MethodName := ⟨RX4, "multiply", "(II)V"⟩
def M_X4_multiply : MT := (yX4_multiply, cX4_multiply, 4, none, RX4, 0)
theorem mk_X4_multiply : MokV M_X4_multiply 4 2 := ⟨⟨⟨by decide, by decide, rfl⟩, (allW_in (kT_5 _ (List.mem_of_getElem? (i := 85) rfl)) rfl), (allW_in (kT_1 _ (List.mem_of_getElem? (i := 9) rfl)) rfl), by decide⟩, ⟨TX4, 10, rfl⟩, (allW_in (kT_5 _ (List.mem_of_getElem? (i := 84) rfl)) rfl), (allW_in (kTs_3 _ (List.mem_of_getElem? (i := 13) rfl)) rfl)⟩
def B_X4_multiply_26 : Blk := (26, .return_, 1) :: []
theorem o_X4_multiply_26 : Chn cX4_multiply B_X4_multiply_26 := chn_of _ (by decide +kernel)
def B_X4_multiply_2 : Blk := (2, .iload_n 3, 1) :: (3, .iconst 5, 1) :: (4, .if_icmp .ge 22, 3) :: (7, .aload_n 0, 1) :: (8, .getfield 11, 3) :: (11, .iload_n 1, 1) :: (12, .iload_n 3, 1) :: (13, .iadd, 1) :: (14, .dup2, 1) :: (15, .laload, 1) :: (16, .iload_n 2, 1) :: (17, .i2l, 1) :: (18, .lmul, 1) :: (19, .lastore, 1) :: (20, .iinc 3 1, 3) :: (23, .goto (-21), 3) :: []
theorem o_X4_multiply_2 : Chn cX4_multiply B_X4_multiply_2 := chn_of _ (by decide +kernel)
def B_X4_multiply_0 : Blk := (0, .iconst 0, 1) :: (1, .istore_n 3, 1) :: B_X4_multiply_2
theorem o_X4_multiply_0 : Chn cX4_multiply B_X4_multiply_0 := chn_app ((0, .iconst 0, 1) :: (1, .istore_n 3, 1) :: []) o_X4_multiply_2 (by decide +kernel)
abbrev cX4_splitSign : ByteArray := prog_6_method_17_code
def yX4_splitSign : MethodName := ⟨RX4, "splitSign", "(II)V"⟩
def M_X4_splitSign : MT := (yX4_splitSign, cX4_splitSign, 4, none, RX4, 0)
theorem mk_X4_splitSign : MokV M_X4_splitSign 4 2 := ⟨⟨⟨by decide, by decide, rfl⟩, (allW_in (kT_5 _ (List.mem_of_getElem? (i := 37) rfl)) rfl), (allW_in (kT_1 _ (List.mem_of_getElem? (i := 9) rfl)) rfl), by decide⟩, ⟨TX4, 10, rfl⟩, (allW_in (kT_5 _ (List.mem_of_getElem? (i := 36) rfl)) rfl), (allW_in (kTs_3 _ (List.mem_of_getElem? (i := 5) rfl)) rfl)⟩
def B_X4_splitSign_51 : Blk := (51, .return_, 1) :: []
theorem o_X4_splitSign_51 : Chn cX4_splitSign B_X4_splitSign_51 := chn_of _ (by decide +kernel)
def B_X4_splitSign_0 : Blk := (0, .aload_n 0, 1) :: (1, .iload_n 1, 1) :: (2, .invokevirtual 137, 3) :: (5, .iconst 1, 1) :: (6, .isub, 1) :: (7, .istore_n 3, 1) :: (8, .aload_n 0, 1) :: (9, .aload_n 0, 1) :: (10, .iload_n 1, 1) :: (11, .iload_n 3, 1) :: (12, .invokestatic 95, 3) :: (15, .iconst (-1), 1) :: (16, .iconst 0, 1) :: (17, .invokevirtual 140, 3) :: (20, .invokevirtual 144, 3) :: (23, .aload_n 0, 1) :: (24, .iload_n 1, 1) :: (25, .invokevirtual 147, 3) :: (28, .iload_n 2, 1) :: (29, .iconst 1, 1) :: (30, .if_icmp .ne 21, 3) :: (33, .aload_n 0, 1) :: (34, .bipush (-25), 2) :: (36, .invokevirtual 76, 3) :: (39, .aload_n 0, 1) :: (40, .iload_n 1, 1) :: (41, .iconst 1, 1) :: (42, .iadd, 1) :: (43, .iload_n 3, 1) :: (44, .invokestatic 95, 3) :: (47, .iconst (-1), 1) :: (48, .invokevirtual 150, 3) :: B_X4_splitSign_51
theorem o_X4_splitSign_0 : Chn cX4_splitSign B_X4_splitSign_0 := chn_app ((0, .aload_n 0, 1) :: (1, .iload_n 1, 1) :: (2, .invokevirtual 137, 3) :: (5, .iconst 1, 1) :: (6, .isub, 1) :: (7, .istore_n 3, 1) :: (8, .aload_n 0, 1) :: (9, .aload_n 0, 1) :: (10, .iload_n 1, 1) :: (11, .iload_n 3, 1) :: (12, .invokestatic 95, 3) :: (15, .iconst (-1), 1) :: (16, .iconst 0, 1) :: (17, .invokevirtual 140, 3) :: (20, .invokevirtual 144, 3) :: (23, .aload_n 0, 1) :: (24, .iload_n 1, 1) :: (25, .invokevirtual 147, 3) :: (28, .iload_n 2, 1) :: (29, .iconst 1, 1) :: (30, .if_icmp .ne 21, 3) :: (33, .aload_n 0, 1) :: (34, .bipush (-25), 2) :: (36, .invokevirtual 76, 3) :: (39, .aload_n 0, 1) :: (40, .iload_n 1, 1) :: (41, .iconst 1, 1) :: (42, .iadd, 1) :: (43, .iload_n 3, 1) :: (44, .invokestatic 95, 3) :: (47, .iconst (-1), 1) :: (48, .invokevirtual 150, 3) :: []) o_X4_splitSign_51 (by decide +kernel)
theorem ml_4_140 : MLk RX4 140 yX4_lineOf := Or.inl (allW_in (kT_5 _ (List.mem_of_getElem? (i := 45) rfl)) rfl)
theorem ml_4_144 : MLk RX4 144 yX4_add := Or.inl (allW_in (kT_5 _ (List.mem_of_getElem? (i := 54) rfl)) rfl)
theorem ml_4_147 : MLk RX4 147 yX4_copyLevel := Or.inl (allW_in (kT_5 _ (List.mem_of_getElem? (i := 70) rfl)) rfl)
theorem ml_4_150 : MLk RX4 150 yX4_multiply := Or.inl (allW_in (kT_5 _ (List.mem_of_getElem? (i := 82) rfl)) rfl)
abbrev cX11_commonDivisor : ByteArray := prog_1_method_50_code
def yX11_commonDivisor : MethodName := ⟨RX11, "commonDivisor", "(JJ)J"⟩
def M_X11_commonDivisor : MT := (yX11_commonDivisor, cX11_commonDivisor, 11, (some .long), RX11, 2)
theorem mk_X11_commonDivisor : MokS M_X11_commonDivisor 2 := ⟨⟨⟨by decide, by decide, rfl⟩, (allW_in (kT_5 _ (List.mem_of_getElem? (i := 99) rfl)) rfl), (allW_in (kT_1 _ (List.mem_of_getElem? (i := 1) rfl)) rfl), by decide⟩, (allW_in (kT_5 _ (List.mem_of_getElem? (i := 98) rfl)) rfl)⟩
def B_X11_commonDivisor_67 : Blk := (67, .lload 4, 2) :: (69, .lreturn, 1) :: []
theorem o_X11_commonDivisor_67 : Chn cX11_commonDivisor B_X11_commonDivisor_67 := chn_of _ (by decide +kernel)
def B_X11_commonDivisor_31 : Blk := (31, .iload 8, 2) :: (33, .sipush 200, 3) :: (36, .if_icmp .ge 31, 3) :: (39, .lload 6, 2) :: (41, .lconst 0, 1) :: (42, .lcmp, 1) :: (43, .ifCond .eq 24, 3) :: (46, .lload 4, 2) :: (48, .lload 6, 2) :: (50, .lrem, 1) :: (51, .lstore 9, 2) :: (53, .lload 6, 2) :: (55, .lstore 4, 2) :: (57, .lload 9, 2) :: (59, .lstore 6, 2) :: (61, .iinc 8 1, 3) :: (64, .goto (-33), 3) :: []
theorem o_X11_commonDivisor_31 : Chn cX11_commonDivisor B_X11_commonDivisor_31 := chn_of _ (by decide +kernel)
def B_X11_commonDivisor_26 : Blk := (26, .lstore 6, 2) :: (28, .iconst 0, 1) :: (29, .istore 8, 2) :: B_X11_commonDivisor_31
theorem o_X11_commonDivisor_26 : Chn cX11_commonDivisor B_X11_commonDivisor_26 := chn_app ((26, .lstore 6, 2) :: (28, .iconst 0, 1) :: (29, .istore 8, 2) :: []) o_X11_commonDivisor_31 (by decide +kernel)
def B_X11_commonDivisor_25 : Blk := (25, .lload_n 2, 1) :: B_X11_commonDivisor_26
theorem o_X11_commonDivisor_25 : Chn cX11_commonDivisor B_X11_commonDivisor_25 := chn_app ((25, .lload_n 2, 1) :: []) o_X11_commonDivisor_26 (by decide +kernel)
def B_X11_commonDivisor_12 : Blk := (12, .lstore 4, 2) :: (14, .lload_n 2, 1) :: (15, .lconst 0, 1) :: (16, .lcmp, 1) :: (17, .ifCond .ge 8, 3) :: (20, .lload_n 2, 1) :: (21, .lneg, 1) :: (22, .goto 4, 3) :: []
theorem o_X11_commonDivisor_12 : Chn cX11_commonDivisor B_X11_commonDivisor_12 := chn_of _ (by decide +kernel)
def B_X11_commonDivisor_11 : Blk := (11, .lload_n 0, 1) :: B_X11_commonDivisor_12
theorem o_X11_commonDivisor_11 : Chn cX11_commonDivisor B_X11_commonDivisor_11 := chn_app ((11, .lload_n 0, 1) :: []) o_X11_commonDivisor_12 (by decide +kernel)
def B_X11_commonDivisor_0 : Blk := (0, .lload_n 0, 1) :: (1, .lconst 0, 1) :: (2, .lcmp, 1) :: (3, .ifCond .ge 8, 3) :: (6, .lload_n 0, 1) :: (7, .lneg, 1) :: (8, .goto 4, 3) :: []
theorem o_X11_commonDivisor_0 : Chn cX11_commonDivisor B_X11_commonDivisor_0 := chn_of _ (by decide +kernel)
abbrev cX4_combine : ByteArray := prog_6_method_29_code
def yX4_combine : MethodName := ⟨RX4, "combine", "(IIII)V"⟩
def M_X4_combine : MT := (yX4_combine, cX4_combine, 12, none, RX4, 0)
theorem mk_X4_combine : MokV M_X4_combine 4 4 := ⟨⟨⟨by decide, by decide, rfl⟩, (allW_in (kT_5 _ (List.mem_of_getElem? (i := 93) rfl)) rfl), (allW_in (kT_1 _ (List.mem_of_getElem? (i := 9) rfl)) rfl), by decide⟩, ⟨TX4, 10, rfl⟩, (allW_in (kT_5 _ (List.mem_of_getElem? (i := 92) rfl)) rfl), (allW_in (kTs_3 _ (List.mem_of_getElem? (i := 15) rfl)) rfl)⟩
def B_X4_combine_106 : Blk := (106, .aload_n 0, 1) :: (107, .getfield 11, 3) :: (110, .iload 4, 2) :: (112, .iconst 5, 1) :: (113, .iadd, 1) :: (114, .lload 9, 2) :: (116, .lastore, 1) :: (117, .return_, 1) :: []
theorem o_X4_combine_106 : Chn cX4_combine B_X4_combine_106 := chn_of _ (by decide +kernel)
def B_X4_combine_50 : Blk := (50, .iload 11, 2) :: (52, .iconst 5, 1) :: (53, .if_icmp .ge 53, 3) :: (56, .aload_n 0, 1) :: (57, .getfield 11, 3) :: (60, .iload 4, 2) :: (62, .iload 11, 2) :: (64, .iadd, 1) :: (65, .aload_n 0, 1) :: (66, .getfield 11, 3) :: (69, .iload_n 1, 1) :: (70, .iload 11, 2) :: (72, .iadd, 1) :: (73, .laload, 1) :: (74, .lload 9, 2) :: (76, .lload 5, 2) :: (78, .ldiv, 1) :: (79, .lmul, 1) :: (80, .iload_n 3, 1) :: (81, .i2l, 1) :: (82, .aload_n 0, 1) :: (83, .getfield 11, 3) :: (86, .iload_n 2, 1) :: (87, .iload 11, 2) :: (89, .iadd, 1) :: (90, .laload, 1) :: (91, .lmul, 1) :: (92, .lload 9, 2) :: (94, .lload 7, 2) :: (96, .ldiv, 1) :: (97, .lmul, 1) :: (98, .ladd, 1) :: (99, .lastore, 1) :: (100, .iinc 11 1, 3) :: (103, .goto (-53), 3) :: []
theorem o_X4_combine_50 : Chn cX4_combine B_X4_combine_50 := chn_of _ (by decide +kernel)
def B_X4_combine_0 : Blk := (0, .lconst 1, 1) :: (1, .aload_n 0, 1) :: (2, .getfield 11, 3) :: (5, .iload_n 1, 1) :: (6, .iconst 5, 1) :: (7, .iadd, 1) :: (8, .laload, 1) :: (9, .invokestatic 172, 3) :: (12, .lstore 5, 2) :: (14, .lconst 1, 1) :: (15, .aload_n 0, 1) :: (16, .getfield 11, 3) :: (19, .iload_n 2, 1) :: (20, .iconst 5, 1) :: (21, .iadd, 1) :: (22, .laload, 1) :: (23, .invokestatic 172, 3) :: (26, .lstore 7, 2) :: (28, .lload 5, 2) :: (30, .lconst 1, 1) :: (31, .lload 5, 2) :: (33, .lload 7, 2) :: (35, .invokestatic 176, 3) :: (38, .invokestatic 172, 3) :: (41, .ldiv, 1) :: (42, .lload 7, 2) :: (44, .lmul, 1) :: (45, .lstore 9, 2) :: (47, .iconst 0, 1) :: (48, .istore 11, 2) :: B_X4_combine_50
theorem o_X4_combine_0 : Chn cX4_combine B_X4_combine_0 := chn_app ((0, .lconst 1, 1) :: (1, .aload_n 0, 1) :: (2, .getfield 11, 3) :: (5, .iload_n 1, 1) :: (6, .iconst 5, 1) :: (7, .iadd, 1) :: (8, .laload, 1) :: (9, .invokestatic 172, 3) :: (12, .lstore 5, 2) :: (14, .lconst 1, 1) :: (15, .aload_n 0, 1) :: (16, .getfield 11, 3) :: (19, .iload_n 2, 1) :: (20, .iconst 5, 1) :: (21, .iadd, 1) :: (22, .laload, 1) :: (23, .invokestatic 172, 3) :: (26, .lstore 7, 2) :: (28, .lload 5, 2) :: (30, .lconst 1, 1) :: (31, .lload 5, 2) :: (33, .lload 7, 2) :: (35, .invokestatic 176, 3) :: (38, .invokestatic 172, 3) :: (41, .ldiv, 1) :: (42, .lload 7, 2) :: (44, .lmul, 1) :: (45, .lstore 9, 2) :: (47, .iconst 0, 1) :: (48, .istore 11, 2) :: []) o_X4_combine_50 (by decide +kernel)
theorem ml_4_176 : MLk RX4 176 yX11_commonDivisor := Or.inr ⟨"IntegerHouse", List.mem_of_getElem? (i := 5) rfl⟩
abbrev cX4_check : ByteArray := prog_6_method_30_code
def yX4_check : MethodName := ⟨RX4, "check", "(I)V"⟩
def M_X4_check : MT := (yX4_check, cX4_check, 3, none, RX4, 0)
theorem mk_X4_check : MokV M_X4_check 4 1 := ⟨⟨⟨by decide, by decide, rfl⟩, (allW_in (kT_5 _ (List.mem_of_getElem? (i := 103) rfl)) rfl), (allW_in (kT_1 _ (List.mem_of_getElem? (i := 9) rfl)) rfl), by decide⟩, ⟨TX4, 10, rfl⟩, (allW_in (kT_5 _ (List.mem_of_getElem? (i := 102) rfl)) rfl), (allW_in (kTs_4 _ (List.mem_of_getElem? (i := 0) rfl)) rfl)⟩
def B_X4_check_45 : Blk := (45, .return_, 1) :: []
theorem o_X4_check_45 : Chn cX4_check B_X4_check_45 := chn_of _ (by decide +kernel)
def B_X4_check_35 : Blk := (35, .ior, 1) :: (36, .putfield 61, 3) :: (39, .iinc 2 1, 3) :: (42, .goto (-40), 3) :: []
theorem o_X4_check_35 : Chn cX4_check B_X4_check_35 := chn_of _ (by decide +kernel)
def B_X4_check_34 : Blk := (34, .iconst 0, 1) :: B_X4_check_35
theorem o_X4_check_34 : Chn cX4_check B_X4_check_34 := chn_app ((34, .iconst 0, 1) :: []) o_X4_check_35 (by decide +kernel)
def B_X4_check_2 : Blk := (2, .iload_n 2, 1) :: (3, .iconst 5, 1) :: (4, .if_icmp .ge 41, 3) :: (7, .aload_n 0, 1) :: (8, .dup, 1) :: (9, .getfield 61, 3) :: (12, .aload_n 0, 1) :: (13, .getfield 11, 3) :: (16, .iload_n 1, 1) :: (17, .iload_n 2, 1) :: (18, .iadd, 1) :: (19, .laload, 1) :: (20, .invokestatic 98, 3) :: (23, .ldc2_w 179, 3) :: (26, .lcmp, 1) :: (27, .ifCond .le 7, 3) :: (30, .iconst 1, 1) :: (31, .goto 4, 3) :: []
theorem o_X4_check_2 : Chn cX4_check B_X4_check_2 := chn_of _ (by decide +kernel)
def B_X4_check_0 : Blk := (0, .iconst 0, 1) :: (1, .istore_n 2, 1) :: B_X4_check_2
theorem o_X4_check_0 : Chn cX4_check B_X4_check_0 := chn_app ((0, .iconst 0, 1) :: (1, .istore_n 2, 1) :: []) o_X4_check_2 (by decide +kernel)
abbrev cX4_splitOrder : ByteArray := prog_6_method_18_code
def yX4_splitOrder : MethodName := ⟨RX4, "splitOrder", "(III)V"⟩
def M_X4_splitOrder : MT := (yX4_splitOrder, cX4_splitOrder, 6, none, RX4, 0)
theorem mk_X4_splitOrder : MokV M_X4_splitOrder 4 3 := ⟨⟨⟨by decide, by decide, rfl⟩, (allW_in (kT_5 _ (List.mem_of_getElem? (i := 89) rfl)) rfl), (allW_in (kT_1 _ (List.mem_of_getElem? (i := 9) rfl)) rfl), by decide⟩, ⟨TX4, 10, rfl⟩, (allW_in (kT_5 _ (List.mem_of_getElem? (i := 88) rfl)) rfl), (allW_in (kTs_3 _ (List.mem_of_getElem? (i := 14) rfl)) rfl)⟩
def B_X4_splitOrder_103 : Blk := (103, .return_, 1) :: []
theorem o_X4_splitOrder_103 : Chn cX4_splitOrder B_X4_splitOrder_103 := chn_of _ (by decide +kernel)
def B_X4_splitOrder_0 : Blk := (0, .aload_n 0, 1) :: (1, .iload_n 1, 1) :: (2, .invokevirtual 137, 3) :: (5, .iconst 1, 1) :: (6, .isub, 1) :: (7, .istore 4, 2) :: (9, .iload_n 1, 1) :: (10, .iload 4, 2) :: (12, .iconst 1, 1) :: (13, .iadd, 1) :: (14, .invokestatic 95, 3) :: (17, .istore 5, 2) :: (19, .aload_n 0, 1) :: (20, .iload_n 1, 1) :: (21, .iload 4, 2) :: (23, .iconst 1, 1) :: (24, .isub, 1) :: (25, .invokestatic 95, 3) :: (28, .iload_n 1, 1) :: (29, .iload 4, 2) :: (31, .invokestatic 95, 3) :: (34, .iconst (-1), 1) :: (35, .iload 5, 2) :: (37, .invokevirtual 153, 3) :: (40, .aload_n 0, 1) :: (41, .iload 5, 2) :: (43, .invokevirtual 157, 3) :: (46, .aload_n 0, 1) :: (47, .aload_n 0, 1) :: (48, .iload 5, 2) :: (50, .iload_n 2, 1) :: (51, .iconst 0, 1) :: (52, .invokevirtual 140, 3) :: (55, .invokevirtual 144, 3) :: (58, .aload_n 0, 1) :: (59, .iload_n 1, 1) :: (60, .invokevirtual 147, 3) :: (63, .aload_n 0, 1) :: (64, .iload_n 1, 1) :: (65, .iconst 1, 1) :: (66, .iadd, 1) :: (67, .iload 4, 2) :: (69, .invokevirtual 160, 3) :: (72, .iload_n 3, 1) :: (73, .iconst 1, 1) :: (74, .if_icmp .ne 29, 3) :: (77, .aload_n 0, 1) :: (78, .bipush (-25), 2) :: (80, .invokevirtual 76, 3) :: (83, .aload_n 0, 1) :: (84, .iload_n 1, 1) :: (85, .iload 4, 2) :: (87, .invokestatic 95, 3) :: (90, .iload_n 1, 1) :: (91, .iconst 1, 1) :: (92, .iadd, 1) :: (93, .iload 4, 2) :: (95, .iconst 1, 1) :: (96, .isub, 1) :: (97, .invokestatic 95, 3) :: (100, .invokevirtual 163, 3) :: B_X4_splitOrder_103
theorem o_X4_splitOrder_0 : Chn cX4_splitOrder B_X4_splitOrder_0 := chn_app ((0, .aload_n 0, 1) :: (1, .iload_n 1, 1) :: (2, .invokevirtual 137, 3) :: (5, .iconst 1, 1) :: (6, .isub, 1) :: (7, .istore 4, 2) :: (9, .iload_n 1, 1) :: (10, .iload 4, 2) :: (12, .iconst 1, 1) :: (13, .iadd, 1) :: (14, .invokestatic 95, 3) :: (17, .istore 5, 2) :: (19, .aload_n 0, 1) :: (20, .iload_n 1, 1) :: (21, .iload 4, 2) :: (23, .iconst 1, 1) :: (24, .isub, 1) :: (25, .invokestatic 95, 3) :: (28, .iload_n 1, 1) :: (29, .iload 4, 2) :: (31, .invokestatic 95, 3) :: (34, .iconst (-1), 1) :: (35, .iload 5, 2) :: (37, .invokevirtual 153, 3) :: (40, .aload_n 0, 1) :: (41, .iload 5, 2) :: (43, .invokevirtual 157, 3) :: (46, .aload_n 0, 1) :: (47, .aload_n 0, 1) :: (48, .iload 5, 2) :: (50, .iload_n 2, 1) :: (51, .iconst 0, 1) :: (52, .invokevirtual 140, 3) :: (55, .invokevirtual 144, 3) :: (58, .aload_n 0, 1) :: (59, .iload_n 1, 1) :: (60, .invokevirtual 147, 3) :: (63, .aload_n 0, 1) :: (64, .iload_n 1, 1) :: (65, .iconst 1, 1) :: (66, .iadd, 1) :: (67, .iload 4, 2) :: (69, .invokevirtual 160, 3) :: (72, .iload_n 3, 1) :: (73, .iconst 1, 1) :: (74, .if_icmp .ne 29, 3) :: (77, .aload_n 0, 1) :: (78, .bipush (-25), 2) :: (80, .invokevirtual 76, 3) :: (83, .aload_n 0, 1) :: (84, .iload_n 1, 1) :: (85, .iload 4, 2) :: (87, .invokestatic 95, 3) :: (90, .iload_n 1, 1) :: (91, .iconst 1, 1) :: (92, .iadd, 1) :: (93, .iload 4, 2) :: (95, .iconst 1, 1) :: (96, .isub, 1) :: (97, .invokestatic 95, 3) :: (100, .invokevirtual 163, 3) :: []) o_X4_splitOrder_103 (by decide +kernel)
theorem ml_4_153 : MLk RX4 153 yX4_combine := Or.inl (allW_in (kT_5 _ (List.mem_of_getElem? (i := 90) rfl)) rfl)
theorem ml_4_157 : MLk RX4 157 yX4_check := Or.inl (allW_in (kT_5 _ (List.mem_of_getElem? (i := 100) rfl)) rfl)
def RJ9 : String := "java/lang/Math"
abbrev cJ9_floorMod_f86c9 : ByteArray := prog_20_method_52_code
def yJ9_floorMod_f86c9 : MethodName := ⟨RJ9, "floorMod", "(JJ)J"⟩
def M_J9_floorMod_f86c9 : MT := (yJ9_floorMod_f86c9, cJ9_floorMod_f86c9, 6, (some .long), RJ9, 2)
theorem mk_J9_floorMod_f86c9 : MokS M_J9_floorMod_f86c9 2 := ⟨⟨⟨by decide, by decide, rfl⟩, (allW_in (kT_5 _ (List.mem_of_getElem? (i := 116) rfl)) rfl), (allW_in (kT_1 _ (List.mem_of_getElem? (i := 23) rfl)) rfl), by decide⟩, (allW_in (kT_5 _ (List.mem_of_getElem? (i := 115) rfl)) rfl)⟩
def B_J9_floorMod_f86c9_25 : Blk := (25, .lload 4, 2) :: (27, .lreturn, 1) :: []
theorem o_J9_floorMod_f86c9_25 : Chn cJ9_floorMod_f86c9 B_J9_floorMod_f86c9_25 := chn_of _ (by decide +kernel)
def B_J9_floorMod_f86c9_0 : Blk := (0, .lload_n 0, 1) :: (1, .lload_n 2, 1) :: (2, .lrem, 1) :: (3, .lstore 4, 2) :: (5, .lload_n 0, 1) :: (6, .lload_n 2, 1) :: (7, .lxor, 1) :: (8, .lconst 0, 1) :: (9, .lcmp, 1) :: (10, .ifCond .ge 15, 3) :: (13, .lload 4, 2) :: (15, .lconst 0, 1) :: (16, .lcmp, 1) :: (17, .ifCond .eq 8, 3) :: (20, .lload 4, 2) :: (22, .lload_n 2, 1) :: (23, .ladd, 1) :: (24, .lreturn, 1) :: []
theorem o_J9_floorMod_f86c9_0 : Chn cJ9_floorMod_f86c9 B_J9_floorMod_f86c9_0 := chn_of _ (by decide +kernel)
abbrev cX4_divisorOf : ByteArray := prog_6_method_32_code
def yX4_divisorOf : MethodName := ⟨RX4, "divisorOf", "(II)I"⟩
def M_X4_divisorOf : MT := (yX4_divisorOf, cX4_divisorOf, 7, (some .int), RX4, 1)
theorem mk_X4_divisorOf : MokV M_X4_divisorOf 4 2 := ⟨⟨⟨by decide, by decide, rfl⟩, (allW_in (kT_5 _ (List.mem_of_getElem? (i := 112) rfl)) rfl), (allW_in (kT_1 _ (List.mem_of_getElem? (i := 9) rfl)) rfl), by decide⟩, ⟨TX4, 10, rfl⟩, (allW_in (kT_5 _ (List.mem_of_getElem? (i := 111) rfl)) rfl), (allW_in (kTs_4 _ (List.mem_of_getElem? (i := 2) rfl)) rfl)⟩
def B_X4_divisorOf_136 : Blk := (136, .ireturn, 1) :: []
theorem o_X4_divisorOf_136 : Chn cX4_divisorOf B_X4_divisorOf_136 := chn_of _ (by decide +kernel)
def B_X4_divisorOf_135 : Blk := (135, .iconst (-1), 1) :: B_X4_divisorOf_136
theorem o_X4_divisorOf_135 : Chn cX4_divisorOf B_X4_divisorOf_135 := chn_app ((135, .iconst (-1), 1) :: []) o_X4_divisorOf_136 (by decide +kernel)
def B_X4_divisorOf_130 : Blk := (130, .bipush 27, 2) :: (132, .goto 4, 3) :: []
theorem o_X4_divisorOf_130 : Chn cX4_divisorOf B_X4_divisorOf_130 := chn_of _ (by decide +kernel)
def B_X4_divisorOf_103 : Blk := (103, .aload_n 0, 1) :: (104, .getfield 19, 3) :: (107, .iconst 5, 1) :: (108, .lload_n 3, 1) :: (109, .l2i, 1) :: (110, .iastore, 1) :: (111, .iload 5, 2) :: (113, .ifCond .eq 22, 3) :: (116, .aload_n 0, 1) :: (117, .getfield 19, 3) :: (120, .iconst 4, 1) :: (121, .iaload, 1) :: (122, .ifCond .ne 8, 3) :: (125, .bipush 26, 2) :: (127, .goto 9, 3) :: []
theorem o_X4_divisorOf_103 : Chn cX4_divisorOf B_X4_divisorOf_103 := chn_of _ (by decide +kernel)
def B_X4_divisorOf_94 : Blk := (94, .iand, 1) :: (95, .istore 5, 2) :: (97, .iinc 6 1, 3) :: (100, .goto (-56), 3) :: []
theorem o_X4_divisorOf_94 : Chn cX4_divisorOf B_X4_divisorOf_94 := chn_of _ (by decide +kernel)
def B_X4_divisorOf_93 : Blk := (93, .iconst 0, 1) :: B_X4_divisorOf_94
theorem o_X4_divisorOf_93 : Chn cX4_divisorOf B_X4_divisorOf_93 := chn_app ((93, .iconst 0, 1) :: []) o_X4_divisorOf_94 (by decide +kernel)
def B_X4_divisorOf_89 : Blk := (89, .iconst 1, 1) :: (90, .goto 4, 3) :: []
theorem o_X4_divisorOf_89 : Chn cX4_divisorOf B_X4_divisorOf_89 := chn_of _ (by decide +kernel)
def B_X4_divisorOf_44 : Blk := (44, .iload 6, 2) :: (46, .iconst 4, 1) :: (47, .if_icmp .gt 56, 3) :: (50, .aload_n 0, 1) :: (51, .getfield 19, 3) :: (54, .iload 6, 2) :: (56, .aload_n 0, 1) :: (57, .getfield 11, 3) :: (60, .iload_n 1, 1) :: (61, .iload 6, 2) :: (63, .iadd, 1) :: (64, .laload, 1) :: (65, .lload_n 3, 1) :: (66, .invokestatic 187, 3) :: (69, .l2i, 1) :: (70, .iastore, 1) :: (71, .iload 5, 2) :: (73, .iload 6, 2) :: (75, .iconst 4, 1) :: (76, .if_icmp .eq 13, 3) :: (79, .aload_n 0, 1) :: (80, .getfield 19, 3) :: (83, .iload 6, 2) :: (85, .iaload, 1) :: (86, .ifCond .ne 7, 3) :: B_X4_divisorOf_89
theorem o_X4_divisorOf_44 : Chn cX4_divisorOf B_X4_divisorOf_44 := chn_app ((44, .iload 6, 2) :: (46, .iconst 4, 1) :: (47, .if_icmp .gt 56, 3) :: (50, .aload_n 0, 1) :: (51, .getfield 19, 3) :: (54, .iload 6, 2) :: (56, .aload_n 0, 1) :: (57, .getfield 11, 3) :: (60, .iload_n 1, 1) :: (61, .iload 6, 2) :: (63, .iadd, 1) :: (64, .laload, 1) :: (65, .lload_n 3, 1) :: (66, .invokestatic 187, 3) :: (69, .l2i, 1) :: (70, .iastore, 1) :: (71, .iload 5, 2) :: (73, .iload 6, 2) :: (75, .iconst 4, 1) :: (76, .if_icmp .eq 13, 3) :: (79, .aload_n 0, 1) :: (80, .getfield 19, 3) :: (83, .iload 6, 2) :: (85, .iaload, 1) :: (86, .ifCond .ne 7, 3) :: []) o_X4_divisorOf_89 (by decide +kernel)
def B_X4_divisorOf_34 : Blk := (34, .ior, 1) :: (35, .putfield 61, 3) :: (38, .iconst 1, 1) :: (39, .istore 5, 2) :: (41, .iconst 0, 1) :: (42, .istore 6, 2) :: B_X4_divisorOf_44
theorem o_X4_divisorOf_34 : Chn cX4_divisorOf B_X4_divisorOf_34 := chn_app ((34, .ior, 1) :: (35, .putfield 61, 3) :: (38, .iconst 1, 1) :: (39, .istore 5, 2) :: (41, .iconst 0, 1) :: (42, .istore 6, 2) :: []) o_X4_divisorOf_44 (by decide +kernel)
def B_X4_divisorOf_33 : Blk := (33, .iconst 0, 1) :: B_X4_divisorOf_34
theorem o_X4_divisorOf_33 : Chn cX4_divisorOf B_X4_divisorOf_33 := chn_app ((33, .iconst 0, 1) :: []) o_X4_divisorOf_34 (by decide +kernel)
def B_X4_divisorOf_0 : Blk := (0, .lconst 1, 1) :: (1, .iload_n 2, 1) :: (2, .i2l, 1) :: (3, .aload_n 0, 1) :: (4, .getfield 11, 3) :: (7, .iload_n 1, 1) :: (8, .iconst 5, 1) :: (9, .iadd, 1) :: (10, .laload, 1) :: (11, .lmul, 1) :: (12, .invokestatic 172, 3) :: (15, .lstore_n 3, 1) :: (16, .aload_n 0, 1) :: (17, .dup, 1) :: (18, .getfield 61, 3) :: (21, .lload_n 3, 1) :: (22, .ldc2_w 185, 3) :: (25, .lcmp, 1) :: (26, .ifCond .le 7, 3) :: (29, .iconst 1, 1) :: (30, .goto 4, 3) :: []
theorem o_X4_divisorOf_0 : Chn cX4_divisorOf B_X4_divisorOf_0 := chn_of _ (by decide +kernel)
theorem ml_4_187 : MLk RX4 187 yJ9_floorMod_f86c9 := Or.inl (allW_in (kT_5 _ (List.mem_of_getElem? (i := 114) rfl)) rfl)
abbrev cX4_pushForm : ByteArray := prog_6_method_25_code
def yX4_pushForm : MethodName := ⟨RX4, "pushForm", "(III)V"⟩
def M_X4_pushForm : MT := (yX4_pushForm, cX4_pushForm, 6, none, RX4, 0)
theorem mk_X4_pushForm : MokV M_X4_pushForm 4 3 := ⟨⟨⟨by decide, by decide, rfl⟩, (allW_in (kT_5 _ (List.mem_of_getElem? (i := 120) rfl)) rfl), (allW_in (kT_1 _ (List.mem_of_getElem? (i := 9) rfl)) rfl), by decide⟩, ⟨TX4, 10, rfl⟩, (allW_in (kT_5 _ (List.mem_of_getElem? (i := 119) rfl)) rfl), (allW_in (kTs_4 _ (List.mem_of_getElem? (i := 3) rfl)) rfl)⟩
def B_X4_pushForm_69 : Blk := (69, .aload_n 0, 1) :: (70, .iload_n 1, 1) :: (71, .aload_n 0, 1) :: (72, .iload_n 1, 1) :: (73, .invokevirtual 137, 3) :: (76, .iconst 1, 1) :: (77, .iadd, 1) :: (78, .invokevirtual 160, 3) :: (81, .return_, 1) :: []
theorem o_X4_pushForm_69 : Chn cX4_pushForm B_X4_pushForm_69 := chn_of _ (by decide +kernel)
def B_X4_pushForm_62 : Blk := (62, .lastore, 1) :: (63, .iinc 5 1, 3) :: (66, .goto (-52), 3) :: []
theorem o_X4_pushForm_62 : Chn cX4_pushForm B_X4_pushForm_62 := chn_of _ (by decide +kernel)
def B_X4_pushForm_61 : Blk := (61, .lconst 0, 1) :: B_X4_pushForm_62
theorem o_X4_pushForm_61 : Chn cX4_pushForm B_X4_pushForm_61 := chn_app ((61, .lconst 0, 1) :: []) o_X4_pushForm_62 (by decide +kernel)
def B_X4_pushForm_51 : Blk := (51, .iload 5, 2) :: (53, .iconst 5, 1) :: (54, .if_icmp .ne 7, 3) :: (57, .lconst 1, 1) :: (58, .goto 4, 3) :: []
theorem o_X4_pushForm_51 : Chn cX4_pushForm B_X4_pushForm_51 := chn_of _ (by decide +kernel)
def B_X4_pushForm_40 : Blk := (40, .iload 5, 2) :: (42, .iconst 4, 1) :: (43, .if_icmp .ne 8, 3) :: (46, .iload_n 3, 1) :: (47, .i2l, 1) :: (48, .goto 14, 3) :: []
theorem o_X4_pushForm_40 : Chn cX4_pushForm B_X4_pushForm_40 := chn_of _ (by decide +kernel)
def B_X4_pushForm_14 : Blk := (14, .iload 5, 2) :: (16, .bipush 6, 2) :: (18, .if_icmp .ge 51, 3) :: (21, .aload_n 0, 1) :: (22, .getfield 11, 3) :: (25, .iload 4, 2) :: (27, .iload 5, 2) :: (29, .iadd, 1) :: (30, .iload 5, 2) :: (32, .iload_n 2, 1) :: (33, .if_icmp .ne 7, 3) :: (36, .lconst 1, 1) :: (37, .goto 25, 3) :: []
theorem o_X4_pushForm_14 : Chn cX4_pushForm B_X4_pushForm_14 := chn_of _ (by decide +kernel)
def B_X4_pushForm_0 : Blk := (0, .iload_n 1, 1) :: (1, .aload_n 0, 1) :: (2, .iload_n 1, 1) :: (3, .invokevirtual 137, 3) :: (6, .invokestatic 95, 3) :: (9, .istore 4, 2) :: (11, .iconst 0, 1) :: (12, .istore 5, 2) :: B_X4_pushForm_14
theorem o_X4_pushForm_0 : Chn cX4_pushForm B_X4_pushForm_0 := chn_app ((0, .iload_n 1, 1) :: (1, .aload_n 0, 1) :: (2, .iload_n 1, 1) :: (3, .invokevirtual 137, 3) :: (6, .invokestatic 95, 3) :: (9, .istore 4, 2) :: (11, .iconst 0, 1) :: (12, .istore 5, 2) :: []) o_X4_pushForm_14 (by decide +kernel)
abbrev cX4_splitRest : ByteArray := prog_6_method_19_code
def yX4_splitRest : MethodName := ⟨RX4, "splitRest", "(IZII)V"⟩
def M_X4_splitRest : MT := (yX4_splitRest, cX4_splitRest, 7, none, RX4, 0)
theorem mk_X4_splitRest : MokV M_X4_splitRest 4 4 := ⟨⟨⟨by decide, by decide, rfl⟩, (allW_in (kT_5 _ (List.mem_of_getElem? (i := 108) rfl)) rfl), (allW_in (kT_1 _ (List.mem_of_getElem? (i := 9) rfl)) rfl), by decide⟩, ⟨TX4, 10, rfl⟩, (allW_in (kT_5 _ (List.mem_of_getElem? (i := 107) rfl)) rfl), (allW_in (kTs_4 _ (List.mem_of_getElem? (i := 1) rfl)) rfl)⟩
def B_X4_splitRest_143 : Blk := (143, .return_, 1) :: []
theorem o_X4_splitRest_143 : Chn cX4_splitRest B_X4_splitRest_143 := chn_of _ (by decide +kernel)
def B_X4_splitRest_133 : Blk := (133, .aload_n 0, 1) :: (134, .iload_n 1, 1) :: (135, .iconst 1, 1) :: (136, .iadd, 1) :: (137, .iconst (-1), 1) :: (138, .iload 4, 2) :: (140, .invokevirtual 169, 3) :: B_X4_splitRest_143
theorem o_X4_splitRest_133 : Chn cX4_splitRest B_X4_splitRest_133 := chn_app ((133, .aload_n 0, 1) :: (134, .iload_n 1, 1) :: (135, .iconst 1, 1) :: (136, .iadd, 1) :: (137, .iconst (-1), 1) :: (138, .iload 4, 2) :: (140, .invokevirtual 169, 3) :: []) o_X4_splitRest_143 (by decide +kernel)
def B_X4_splitRest_0 : Blk := (0, .aload_n 0, 1) :: (1, .iload_n 1, 1) :: (2, .invokevirtual 137, 3) :: (5, .iconst 1, 1) :: (6, .isub, 1) :: (7, .istore 5, 2) :: (9, .iload_n 1, 1) :: (10, .iload 5, 2) :: (12, .iconst 1, 1) :: (13, .iadd, 1) :: (14, .invokestatic 95, 3) :: (17, .istore 6, 2) :: (19, .aload_n 0, 1) :: (20, .iload_n 1, 1) :: (21, .iload 5, 2) :: (23, .invokestatic 95, 3) :: (26, .iload 6, 2) :: (28, .invokevirtual 163, 3) :: (31, .aload_n 0, 1) :: (32, .getfield 11, 3) :: (35, .iload 6, 2) :: (37, .iconst 4, 1) :: (38, .iadd, 1) :: (39, .dup2, 1) :: (40, .laload, 1) :: (41, .iload 4, 2) :: (43, .i2l, 1) :: (44, .aload_n 0, 1) :: (45, .getfield 11, 3) :: (48, .iload 6, 2) :: (50, .iconst 5, 1) :: (51, .iadd, 1) :: (52, .laload, 1) :: (53, .lmul, 1) :: (54, .lsub, 1) :: (55, .lastore, 1) :: (56, .aload_n 0, 1) :: (57, .iload 6, 2) :: (59, .invokevirtual 157, 3) :: (62, .aload_n 0, 1) :: (63, .aload_n 0, 1) :: (64, .iload 6, 2) :: (66, .iload_n 3, 1) :: (67, .invokevirtual 166, 3) :: (70, .invokevirtual 144, 3) :: (73, .aload_n 0, 1) :: (74, .iload_n 1, 1) :: (75, .invokevirtual 147, 3) :: (78, .aload_n 0, 1) :: (79, .iload_n 1, 1) :: (80, .iconst 1, 1) :: (81, .iadd, 1) :: (82, .iload 5, 2) :: (84, .invokevirtual 160, 3) :: (87, .iload_n 2, 1) :: (88, .ifCond .eq 45, 3) :: (91, .aload_n 0, 1) :: (92, .getfield 11, 3) :: (95, .iload 6, 2) :: (97, .iconst 5, 1) :: (98, .iadd, 1) :: (99, .dup2, 1) :: (100, .laload, 1) :: (101, .iload_n 3, 1) :: (102, .i2l, 1) :: (103, .lmul, 1) :: (104, .lastore, 1) :: (105, .aload_n 0, 1) :: (106, .iload 6, 2) :: (108, .iload_n 1, 1) :: (109, .iconst 1, 1) :: (110, .iadd, 1) :: (111, .iload 5, 2) :: (113, .invokestatic 95, 3) :: (116, .invokevirtual 163, 3) :: (119, .aload_n 0, 1) :: (120, .iload_n 1, 1) :: (121, .iconst 1, 1) :: (122, .iadd, 1) :: (123, .iload 5, 2) :: (125, .iconst 1, 1) :: (126, .iadd, 1) :: (127, .invokevirtual 160, 3) :: (130, .goto 13, 3) :: []
theorem o_X4_splitRest_0 : Chn cX4_splitRest B_X4_splitRest_0 := chn_of _ (by decide +kernel)
theorem ml_4_166 : MLk RX4 166 yX4_divisorOf := Or.inl (allW_in (kT_5 _ (List.mem_of_getElem? (i := 109) rfl)) rfl)
theorem ml_4_169 : MLk RX4 169 yX4_pushForm := Or.inl (allW_in (kT_5 _ (List.mem_of_getElem? (i := 117) rfl)) rfl)
abbrev cX4_conclude : ByteArray := prog_6_method_20_code
def yX4_conclude : MethodName := ⟨RX4, "conclude", "(III)V"⟩
def M_X4_conclude : MT := (yX4_conclude, cX4_conclude, 6, none, RX4, 0)
theorem mk_X4_conclude : MokV M_X4_conclude 4 3 := ⟨⟨⟨by decide, by decide, rfl⟩, (allW_in (kT_5 _ (List.mem_of_getElem? (i := 124) rfl)) rfl), (allW_in (kT_1 _ (List.mem_of_getElem? (i := 9) rfl)) rfl), by decide⟩, ⟨TX4, 10, rfl⟩, (allW_in (kT_5 _ (List.mem_of_getElem? (i := 123) rfl)) rfl), (allW_in (kTs_4 _ (List.mem_of_getElem? (i := 4) rfl)) rfl)⟩
def B_X4_conclude_184 : Blk := (184, .return_, 1) :: []
theorem o_X4_conclude_184 : Chn cX4_conclude B_X4_conclude_184 := chn_of _ (by decide +kernel)
def B_X4_conclude_142 : Blk := (142, .aload_n 0, 1) :: (143, .aload_n 0, 1) :: (144, .iload 5, 2) :: (146, .iconst 1, 1) :: (147, .iconst 0, 1) :: (148, .invokevirtual 140, 3) :: (151, .invokevirtual 144, 3) :: (154, .aload_n 0, 1) :: (155, .aload_n 0, 1) :: (156, .iload 5, 2) :: (158, .iconst (-1), 1) :: (159, .iconst 0, 1) :: (160, .invokevirtual 140, 3) :: (163, .invokevirtual 144, 3) :: (166, .aload_n 0, 1) :: (167, .bipush (-23), 2) :: (169, .invokevirtual 76, 3) :: (172, .iload_n 1, 1) :: (173, .bipush 18, 2) :: (175, .if_icmp .ne 9, 3) :: (178, .aload_n 0, 1) :: (179, .bipush (-25), 2) :: (181, .invokevirtual 76, 3) :: B_X4_conclude_184
theorem o_X4_conclude_142 : Chn cX4_conclude B_X4_conclude_142 := chn_app ((142, .aload_n 0, 1) :: (143, .aload_n 0, 1) :: (144, .iload 5, 2) :: (146, .iconst 1, 1) :: (147, .iconst 0, 1) :: (148, .invokevirtual 140, 3) :: (151, .invokevirtual 144, 3) :: (154, .aload_n 0, 1) :: (155, .aload_n 0, 1) :: (156, .iload 5, 2) :: (158, .iconst (-1), 1) :: (159, .iconst 0, 1) :: (160, .invokevirtual 140, 3) :: (163, .invokevirtual 144, 3) :: (166, .aload_n 0, 1) :: (167, .bipush (-23), 2) :: (169, .invokevirtual 76, 3) :: (172, .iload_n 1, 1) :: (173, .bipush 18, 2) :: (175, .if_icmp .ne 9, 3) :: (178, .aload_n 0, 1) :: (179, .bipush (-25), 2) :: (181, .invokevirtual 76, 3) :: []) o_X4_conclude_184 (by decide +kernel)
def B_X4_conclude_133 : Blk := (133, .invokevirtual 140, 3) :: (136, .invokevirtual 144, 3) :: (139, .goto 45, 3) :: []
theorem o_X4_conclude_133 : Chn cX4_conclude B_X4_conclude_133 := chn_of _ (by decide +kernel)
def B_X4_conclude_132 : Blk := (132, .iconst 0, 1) :: B_X4_conclude_133
theorem o_X4_conclude_132 : Chn cX4_conclude B_X4_conclude_132 := chn_app ((132, .iconst 0, 1) :: []) o_X4_conclude_133 (by decide +kernel)
def B_X4_conclude_117 : Blk := (117, .aload_n 0, 1) :: (118, .aload_n 0, 1) :: (119, .iload 5, 2) :: (121, .iconst (-1), 1) :: (122, .iload_n 1, 1) :: (123, .bipush 15, 2) :: (125, .if_icmp .ne 7, 3) :: (128, .iconst 1, 1) :: (129, .goto 4, 3) :: []
theorem o_X4_conclude_117 : Chn cX4_conclude B_X4_conclude_117 := chn_of _ (by decide +kernel)
def B_X4_conclude_105 : Blk := (105, .iload_n 1, 1) :: (106, .bipush 15, 2) :: (108, .if_icmp .eq 9, 3) :: (111, .iload_n 1, 1) :: (112, .bipush 17, 2) :: (114, .if_icmp .ne 28, 3) :: B_X4_conclude_117
theorem o_X4_conclude_105 : Chn cX4_conclude B_X4_conclude_105 := chn_app ((105, .iload_n 1, 1) :: (106, .bipush 15, 2) :: (108, .if_icmp .eq 9, 3) :: (111, .iload_n 1, 1) :: (112, .bipush 17, 2) :: (114, .if_icmp .ne 28, 3) :: []) o_X4_conclude_117 (by decide +kernel)
def B_X4_conclude_96 : Blk := (96, .invokevirtual 140, 3) :: (99, .invokevirtual 144, 3) :: (102, .goto 82, 3) :: []
theorem o_X4_conclude_96 : Chn cX4_conclude B_X4_conclude_96 := chn_of _ (by decide +kernel)
def B_X4_conclude_95 : Blk := (95, .iconst 0, 1) :: B_X4_conclude_96
theorem o_X4_conclude_95 : Chn cX4_conclude B_X4_conclude_95 := chn_app ((95, .iconst 0, 1) :: []) o_X4_conclude_96 (by decide +kernel)
def B_X4_conclude_80 : Blk := (80, .aload_n 0, 1) :: (81, .aload_n 0, 1) :: (82, .iload 5, 2) :: (84, .iconst 1, 1) :: (85, .iload_n 1, 1) :: (86, .bipush 14, 2) :: (88, .if_icmp .ne 7, 3) :: (91, .iconst 1, 1) :: (92, .goto 4, 3) :: []
theorem o_X4_conclude_80 : Chn cX4_conclude B_X4_conclude_80 := chn_of _ (by decide +kernel)
def B_X4_conclude_31 : Blk := (31, .iload_n 3, 1) :: (32, .iload 4, 2) :: (34, .iconst 1, 1) :: (35, .iadd, 1) :: (36, .invokestatic 95, 3) :: (39, .istore 5, 2) :: (41, .aload_n 0, 1) :: (42, .iload_n 3, 1) :: (43, .iload 4, 2) :: (45, .iconst 1, 1) :: (46, .isub, 1) :: (47, .invokestatic 95, 3) :: (50, .iload_n 3, 1) :: (51, .iload 4, 2) :: (53, .invokestatic 95, 3) :: (56, .iconst (-1), 1) :: (57, .iload 5, 2) :: (59, .invokevirtual 153, 3) :: (62, .aload_n 0, 1) :: (63, .iload 5, 2) :: (65, .invokevirtual 157, 3) :: (68, .iload_n 1, 1) :: (69, .bipush 14, 2) :: (71, .if_icmp .eq 9, 3) :: (74, .iload_n 1, 1) :: (75, .bipush 16, 2) :: (77, .if_icmp .ne 28, 3) :: B_X4_conclude_80
theorem o_X4_conclude_31 : Chn cX4_conclude B_X4_conclude_31 := chn_app ((31, .iload_n 3, 1) :: (32, .iload 4, 2) :: (34, .iconst 1, 1) :: (35, .iadd, 1) :: (36, .invokestatic 95, 3) :: (39, .istore 5, 2) :: (41, .aload_n 0, 1) :: (42, .iload_n 3, 1) :: (43, .iload 4, 2) :: (45, .iconst 1, 1) :: (46, .isub, 1) :: (47, .invokestatic 95, 3) :: (50, .iload_n 3, 1) :: (51, .iload 4, 2) :: (53, .invokestatic 95, 3) :: (56, .iconst (-1), 1) :: (57, .iload 5, 2) :: (59, .invokevirtual 153, 3) :: (62, .aload_n 0, 1) :: (63, .iload 5, 2) :: (65, .invokevirtual 157, 3) :: (68, .iload_n 1, 1) :: (69, .bipush 14, 2) :: (71, .if_icmp .eq 9, 3) :: (74, .iload_n 1, 1) :: (75, .bipush 16, 2) :: (77, .if_icmp .ne 28, 3) :: []) o_X4_conclude_80 (by decide +kernel)
def B_X4_conclude_0 : Blk := (0, .aload_n 0, 1) :: (1, .iload_n 3, 1) :: (2, .invokevirtual 137, 3) :: (5, .iconst 1, 1) :: (6, .isub, 1) :: (7, .istore 4, 2) :: (9, .iload_n 1, 1) :: (10, .bipush 33, 2) :: (12, .if_icmp .ne 19, 3) :: (15, .aload_n 0, 1) :: (16, .aload_n 0, 1) :: (17, .iload_n 3, 1) :: (18, .iload 4, 2) :: (20, .invokestatic 95, 3) :: (23, .iload_n 2, 1) :: (24, .invokevirtual 166, 3) :: (27, .invokevirtual 144, 3) :: (30, .return_, 1) :: []
theorem o_X4_conclude_0 : Chn cX4_conclude B_X4_conclude_0 := chn_of _ (by decide +kernel)
abbrev cX4_work : ByteArray := prog_6_method_21_code
def yX4_work : MethodName := ⟨RX4, "work", "(III)V"⟩
def M_X4_work : MT := (yX4_work, cX4_work, 5, none, RX4, 0)
theorem mk_X4_work : MokV M_X4_work 4 3 := ⟨⟨⟨by decide, by decide, rfl⟩, (allW_in (kT_5 _ (List.mem_of_getElem? (i := 128) rfl)) rfl), (allW_in (kT_1 _ (List.mem_of_getElem? (i := 9) rfl)) rfl), by decide⟩, ⟨TX4, 10, rfl⟩, (allW_in (kT_5 _ (List.mem_of_getElem? (i := 127) rfl)) rfl), (allW_in (kTs_4 _ (List.mem_of_getElem? (i := 5) rfl)) rfl)⟩
def B_X4_work_155 : Blk := (155, .return_, 1) :: []
theorem o_X4_work_155 : Chn cX4_work B_X4_work_155 := chn_of _ (by decide +kernel)
def B_X4_work_145 : Blk := (145, .aload_n 0, 1) :: (146, .iload_n 3, 1) :: (147, .iload 4, 2) :: (149, .invokestatic 95, 3) :: (152, .invokevirtual 157, 3) :: B_X4_work_155
theorem o_X4_work_145 : Chn cX4_work B_X4_work_145 := chn_app ((145, .aload_n 0, 1) :: (146, .iload_n 3, 1) :: (147, .iload 4, 2) :: (149, .invokestatic 95, 3) :: (152, .invokevirtual 157, 3) :: []) o_X4_work_155 (by decide +kernel)
def B_X4_work_108 : Blk := (108, .aload_n 0, 1) :: (109, .iload_n 3, 1) :: (110, .iload 4, 2) :: (112, .iconst 1, 1) :: (113, .isub, 1) :: (114, .invokestatic 95, 3) :: (117, .iload_n 3, 1) :: (118, .iload 4, 2) :: (120, .invokestatic 95, 3) :: (123, .iconst 1, 1) :: (124, .iload_n 3, 1) :: (125, .iload 4, 2) :: (127, .iconst 1, 1) :: (128, .isub, 1) :: (129, .invokestatic 95, 3) :: (132, .invokevirtual 153, 3) :: (135, .aload_n 0, 1) :: (136, .iload_n 3, 1) :: (137, .iload 4, 2) :: (139, .invokevirtual 160, 3) :: (142, .goto 13, 3) :: []
theorem o_X4_work_108 : Chn cX4_work B_X4_work_108 := chn_of _ (by decide +kernel)
def B_X4_work_94 : Blk := (94, .aload_n 0, 1) :: (95, .iload_n 3, 1) :: (96, .iload 4, 2) :: (98, .invokestatic 95, 3) :: (101, .iconst (-1), 1) :: (102, .invokevirtual 150, 3) :: (105, .goto 50, 3) :: []
theorem o_X4_work_94 : Chn cX4_work B_X4_work_94 := chn_of _ (by decide +kernel)
def B_X4_work_80 : Blk := (80, .aload_n 0, 1) :: (81, .iload_n 3, 1) :: (82, .iload 4, 2) :: (84, .invokestatic 95, 3) :: (87, .iload_n 2, 1) :: (88, .invokevirtual 150, 3) :: (91, .goto 64, 3) :: []
theorem o_X4_work_80 : Chn cX4_work B_X4_work_80 := chn_of _ (by decide +kernel)
def B_X4_work_70 : Blk := (70, .aload_n 0, 1) :: (71, .iload_n 3, 1) :: (72, .iconst (-1), 1) :: (73, .iload_n 2, 1) :: (74, .invokevirtual 169, 3) :: (77, .goto 78, 3) :: []
theorem o_X4_work_70 : Chn cX4_work B_X4_work_70 := chn_of _ (by decide +kernel)
def B_X4_work_60 : Blk := (60, .aload_n 0, 1) :: (61, .iload_n 3, 1) :: (62, .iload_n 2, 1) :: (63, .iconst 0, 1) :: (64, .invokevirtual 169, 3) :: (67, .goto 88, 3) :: []
theorem o_X4_work_60 : Chn cX4_work B_X4_work_60 := chn_of _ (by decide +kernel)
def B_X4_work_0 : Blk := (0, .aload_n 0, 1) :: (1, .iload_n 3, 1) :: (2, .invokevirtual 137, 3) :: (5, .iconst 1, 1) :: (6, .isub, 1) :: (7, .istore 4, 2) :: (9, .iload_n 1, 1) :: (10, .lookupswitch 135 #[(2, 60), (11, 98), (12, 84), (13, 70), (41, 50)], 50) :: []
theorem o_X4_work_0 : Chn cX4_work B_X4_work_0 := chn_of _ (by decide +kernel)
abbrev cX4_arePlain : ByteArray := prog_6_method_8_code
def yX4_arePlain : MethodName := ⟨RX4, "arePlain", "(II)Z"⟩
def M_X4_arePlain : MT := (yX4_arePlain, cX4_arePlain, 5, (some .boolean), RX4, 1)
theorem mk_X4_arePlain : MokV M_X4_arePlain 4 2 := ⟨⟨⟨by decide, by decide, rfl⟩, (allW_in (kT_5 _ (List.mem_of_getElem? (i := 132) rfl)) rfl), (allW_in (kT_1 _ (List.mem_of_getElem? (i := 9) rfl)) rfl), by decide⟩, ⟨TX4, 10, rfl⟩, (allW_in (kT_5 _ (List.mem_of_getElem? (i := 131) rfl)) rfl), (allW_in (kTs_4 _ (List.mem_of_getElem? (i := 6) rfl)) rfl)⟩
def B_X4_arePlain_37 : Blk := (37, .iload_n 3, 1) :: (38, .ireturn, 1) :: []
theorem o_X4_arePlain_37 : Chn cX4_arePlain B_X4_arePlain_37 := chn_of _ (by decide +kernel)
def B_X4_arePlain_5 : Blk := (5, .iload 4, 2) :: (7, .iload_n 2, 1) :: (8, .if_icmp .gt 29, 3) :: (11, .iload_n 3, 1) :: (12, .aload_n 0, 1) :: (13, .aload_n 0, 1) :: (14, .getfield 25, 3) :: (17, .aload_n 0, 1) :: (18, .getfield 33, 3) :: (21, .iload 4, 2) :: (23, .invokevirtual 43, 3) :: (26, .invokevirtual 46, 3) :: (29, .iand, 1) :: (30, .istore_n 3, 1) :: (31, .iinc 4 1, 3) :: (34, .goto (-29), 3) :: []
theorem o_X4_arePlain_5 : Chn cX4_arePlain B_X4_arePlain_5 := chn_of _ (by decide +kernel)
def B_X4_arePlain_0 : Blk := (0, .iconst 1, 1) :: (1, .istore_n 3, 1) :: (2, .iload_n 1, 1) :: (3, .istore 4, 2) :: B_X4_arePlain_5
theorem o_X4_arePlain_0 : Chn cX4_arePlain B_X4_arePlain_0 := chn_app ((0, .iconst 1, 1) :: (1, .istore_n 3, 1) :: (2, .iload_n 1, 1) :: (3, .istore 4, 2) :: []) o_X4_arePlain_5 (by decide +kernel)
theorem ml_4_46 : MLk RX4 46 yX4_isPlain := Or.inl (allW_in (kT_5 _ (List.mem_of_getElem? (i := 6) rfl)) rfl)
abbrev cX4_takeNamed : ByteArray := prog_6_method_13_code
def yX4_takeNamed : MethodName := ⟨RX4, "takeNamed", "(I)V"⟩
def M_X4_takeNamed : MT := (yX4_takeNamed, cX4_takeNamed, 4, none, RX4, 0)
theorem mk_X4_takeNamed : MokV M_X4_takeNamed 4 1 := ⟨⟨⟨by decide, by decide, rfl⟩, (allW_in (kT_5 _ (List.mem_of_getElem? (i := 136) rfl)) rfl), (allW_in (kT_1 _ (List.mem_of_getElem? (i := 9) rfl)) rfl), by decide⟩, ⟨TX4, 10, rfl⟩, (allW_in (kT_5 _ (List.mem_of_getElem? (i := 135) rfl)) rfl), (allW_in (kTs_4 _ (List.mem_of_getElem? (i := 7) rfl)) rfl)⟩
def B_X4_takeNamed_60 : Blk := (60, .aload_n 0, 1) :: (61, .dup, 1) :: (62, .getfield 83, 3) :: (65, .aload_n 0, 1) :: (66, .getfield 25, 3) :: (69, .iload_n 1, 1) :: (70, .bipush 6, 2) :: (72, .invokevirtual 39, 3) :: (75, .ior, 1) :: (76, .putfield 83, 3) :: (79, .aload_n 0, 1) :: (80, .bipush (-100), 2) :: (82, .iload_n 1, 1) :: (83, .isub, 1) :: (84, .invokevirtual 76, 3) :: (87, .return_, 1) :: []
theorem o_X4_takeNamed_60 : Chn cX4_takeNamed B_X4_takeNamed_60 := chn_of _ (by decide +kernel)
def B_X4_takeNamed_50 : Blk := (50, .ior, 1) :: (51, .putfield 89, 3) :: (54, .iinc 3 1, 3) :: (57, .goto (-45), 3) :: []
theorem o_X4_takeNamed_50 : Chn cX4_takeNamed B_X4_takeNamed_50 := chn_of _ (by decide +kernel)
def B_X4_takeNamed_49 : Blk := (49, .iconst 0, 1) :: B_X4_takeNamed_50
theorem o_X4_takeNamed_49 : Chn cX4_takeNamed B_X4_takeNamed_49 := chn_app ((49, .iconst 0, 1) :: []) o_X4_takeNamed_50 (by decide +kernel)
def B_X4_takeNamed_12 : Blk := (12, .iload_n 3, 1) :: (13, .iload_n 2, 1) :: (14, .if_icmp .ge 46, 3) :: (17, .aload_n 0, 1) :: (18, .dup, 1) :: (19, .getfield 89, 3) :: (22, .aload_n 0, 1) :: (23, .getfield 25, 3) :: (26, .aload_n 0, 1) :: (27, .getfield 33, 3) :: (30, .aload_n 0, 1) :: (31, .getfield 25, 3) :: (34, .iload_n 1, 1) :: (35, .iload_n 3, 1) :: (36, .invokevirtual 112, 3) :: (39, .invokevirtual 115, 3) :: (42, .ifCond .ne 7, 3) :: (45, .iconst 1, 1) :: (46, .goto 4, 3) :: []
theorem o_X4_takeNamed_12 : Chn cX4_takeNamed B_X4_takeNamed_12 := chn_of _ (by decide +kernel)
def B_X4_takeNamed_0 : Blk := (0, .aload_n 0, 1) :: (1, .getfield 25, 3) :: (4, .iload_n 1, 1) :: (5, .iconst 4, 1) :: (6, .invokevirtual 39, 3) :: (9, .istore_n 2, 1) :: (10, .iconst 0, 1) :: (11, .istore_n 3, 1) :: B_X4_takeNamed_12
theorem o_X4_takeNamed_0 : Chn cX4_takeNamed B_X4_takeNamed_0 := chn_app ((0, .aload_n 0, 1) :: (1, .getfield 25, 3) :: (4, .iload_n 1, 1) :: (5, .iconst 4, 1) :: (6, .invokevirtual 39, 3) :: (9, .istore_n 2, 1) :: (10, .iconst 0, 1) :: (11, .istore_n 3, 1) :: []) o_X4_takeNamed_12 (by decide +kernel)
theorem ml_4_112 : MLk RX4 112 yX2_atomOf := Or.inl (allW_in (kT_5 _ (List.mem_of_getElem? (i := 137) rfl)) rfl)
abbrev cX4_makeGoal : ByteArray := prog_6_method_4_code
def yX4_makeGoal : MethodName := ⟨RX4, "makeGoal", "()Z"⟩
def M_X4_makeGoal : MT := (yX4_makeGoal, cX4_makeGoal, 4, (some .boolean), RX4, 1)
theorem mk_X4_makeGoal : MokV M_X4_makeGoal 4 0 := ⟨⟨⟨by decide, by decide, rfl⟩, (allW_in (kT_6 _ (List.mem_of_getElem? (i := 230) rfl)) rfl), (allW_in (kT_1 _ (List.mem_of_getElem? (i := 9) rfl)) rfl), by decide⟩, ⟨TX4, 10, rfl⟩, (allW_in (kT_6 _ (List.mem_of_getElem? (i := 228) rfl)) rfl), (allW_in (kT_6 _ (List.mem_of_getElem? (i := 229) rfl)) rfl)⟩
def B_X4_makeGoal_104 : Blk := (104, .ireturn, 1) :: []
theorem o_X4_makeGoal_104 : Chn cX4_makeGoal B_X4_makeGoal_104 := chn_of _ (by decide +kernel)
def B_X4_makeGoal_103 : Blk := (103, .iconst 0, 1) :: B_X4_makeGoal_104
theorem o_X4_makeGoal_103 : Chn cX4_makeGoal B_X4_makeGoal_103 := chn_app ((103, .iconst 0, 1) :: []) o_X4_makeGoal_104 (by decide +kernel)
def B_X4_makeGoal_92 : Blk := (92, .aload_n 0, 1) :: (93, .getfield 61, 3) :: (96, .ifCond .ne 7, 3) :: (99, .iconst 1, 1) :: (100, .goto 4, 3) :: []
theorem o_X4_makeGoal_92 : Chn cX4_makeGoal B_X4_makeGoal_92 := chn_of _ (by decide +kernel)
def B_X4_makeGoal_63 : Blk := (63, .iload_n 2, 1) :: (64, .iconst 4, 1) :: (65, .if_icmp .gt 27, 3) :: (68, .aload_n 0, 1) :: (69, .getfield 22, 3) :: (72, .iload_n 2, 1) :: (73, .aload_n 0, 1) :: (74, .getfield 11, 3) :: (77, .iconst 0, 1) :: (78, .iconst 0, 1) :: (79, .invokestatic 95, 3) :: (82, .iload_n 2, 1) :: (83, .iadd, 1) :: (84, .laload, 1) :: (85, .lastore, 1) :: (86, .iinc 2 1, 3) :: (89, .goto (-26), 3) :: []
theorem o_X4_makeGoal_63 : Chn cX4_makeGoal B_X4_makeGoal_63 := chn_of _ (by decide +kernel)
def B_X4_makeGoal_61 : Blk := (61, .iconst 0, 1) :: (62, .istore_n 2, 1) :: B_X4_makeGoal_63
theorem o_X4_makeGoal_61 : Chn cX4_makeGoal B_X4_makeGoal_61 := chn_app ((61, .iconst 0, 1) :: (62, .istore_n 2, 1) :: []) o_X4_makeGoal_63 (by decide +kernel)
def B_X4_makeGoal_19 : Blk := (19, .iload_n 2, 1) :: (20, .iload_n 1, 1) :: (21, .if_icmp .ge 40, 3) :: (24, .aload_n 0, 1) :: (25, .getfield 61, 3) :: (28, .ifCond .ne 33, 3) :: (31, .aload_n 0, 1) :: (32, .getfield 25, 3) :: (35, .bipush 25, 2) :: (37, .iload_n 2, 1) :: (38, .invokevirtual 43, 3) :: (41, .istore_n 3, 1) :: (42, .aload_n 0, 1) :: (43, .iload_n 3, 1) :: (44, .bipush 63, 2) :: (46, .iand, 1) :: (47, .iload_n 3, 1) :: (48, .bipush 6, 2) :: (50, .ishr, 1) :: (51, .iconst 0, 1) :: (52, .invokevirtual 92, 3) :: (55, .iinc 2 1, 3) :: (58, .goto (-39), 3) :: []
theorem o_X4_makeGoal_19 : Chn cX4_makeGoal B_X4_makeGoal_19 := chn_of _ (by decide +kernel)
def B_X4_makeGoal_0 : Blk := (0, .aload_n 0, 1) :: (1, .bipush 25, 2) :: (3, .invokevirtual 29, 3) :: (6, .aload_n 0, 1) :: (7, .getfield 25, 3) :: (10, .bipush 25, 2) :: (12, .iconst 1, 1) :: (13, .invokevirtual 39, 3) :: (16, .istore_n 1, 1) :: (17, .iconst 0, 1) :: (18, .istore_n 2, 1) :: B_X4_makeGoal_19
theorem o_X4_makeGoal_0 : Chn cX4_makeGoal B_X4_makeGoal_0 := chn_app ((0, .aload_n 0, 1) :: (1, .bipush 25, 2) :: (3, .invokevirtual 29, 3) :: (6, .aload_n 0, 1) :: (7, .getfield 25, 3) :: (10, .bipush 25, 2) :: (12, .iconst 1, 1) :: (13, .invokevirtual 39, 3) :: (16, .istore_n 1, 1) :: (17, .iconst 0, 1) :: (18, .istore_n 2, 1) :: []) o_X4_makeGoal_19 (by decide +kernel)
theorem ml_4_29 : MLk RX4 29 yX4_begin := Or.inl (allW_in (kT_4 _ (List.mem_of_getElem? (i := 233) rfl)) rfl)
theorem fl_4_22 : FLk RX4 22 4 4 3 true := ⟨RX4, TX4, 10, "IntegerHouse$Maker", "goal", "[J", rfl, by decide, rfl, Or.inl (allW_in (kT_2 _ (List.mem_of_getElem? (i := 11) rfl)) rfl), rfl, (fun h => absurd h (by decide)), (fun h => absurd h (by decide)), (fun h => absurd h (by decide)), (fun h => absurd h (by decide))⟩
theorem ml_4_92 : MLk RX4 92 yX4_work := Or.inl (allW_in (kT_5 _ (List.mem_of_getElem? (i := 125) rfl)) rfl)
abbrev cX4_goalSizes : ByteArray := prog_6_method_5_code
def yX4_goalSizes : MethodName := ⟨RX4, "goalSizes", "()J"⟩
def M_X4_goalSizes : MT := (yX4_goalSizes, cX4_goalSizes, 4, (some .long), RX4, 2)
theorem mk_X4_goalSizes : MokV M_X4_goalSizes 4 0 := ⟨⟨⟨by decide, by decide, rfl⟩, (allW_in (kT_6 _ (List.mem_of_getElem? (i := 234) rfl)) rfl), (allW_in (kT_1 _ (List.mem_of_getElem? (i := 9) rfl)) rfl), by decide⟩, ⟨TX4, 10, rfl⟩, (allW_in (kT_6 _ (List.mem_of_getElem? (i := 232) rfl)) rfl), (allW_in (kT_6 _ (List.mem_of_getElem? (i := 233) rfl)) rfl)⟩
def B_X4_goalSizes_27 : Blk := (27, .lload_n 1, 1) :: (28, .lreturn, 1) :: []
theorem o_X4_goalSizes_27 : Chn cX4_goalSizes B_X4_goalSizes_27 := chn_of _ (by decide +kernel)
def B_X4_goalSizes_4 : Blk := (4, .iload_n 3, 1) :: (5, .iconst 4, 1) :: (6, .if_icmp .ge 21, 3) :: (9, .lload_n 1, 1) :: (10, .aload_n 0, 1) :: (11, .getfield 22, 3) :: (14, .iload_n 3, 1) :: (15, .laload, 1) :: (16, .invokestatic 98, 3) :: (19, .ladd, 1) :: (20, .lstore_n 1, 1) :: (21, .iinc 3 1, 3) :: (24, .goto (-20), 3) :: []
theorem o_X4_goalSizes_4 : Chn cX4_goalSizes B_X4_goalSizes_4 := chn_of _ (by decide +kernel)
def B_X4_goalSizes_0 : Blk := (0, .lconst 0, 1) :: (1, .lstore_n 1, 1) :: (2, .iconst 0, 1) :: (3, .istore_n 3, 1) :: B_X4_goalSizes_4
theorem o_X4_goalSizes_0 : Chn cX4_goalSizes B_X4_goalSizes_0 := chn_app ((0, .lconst 0, 1) :: (1, .lstore_n 1, 1) :: (2, .iconst 0, 1) :: (3, .istore_n 3, 1) :: []) o_X4_goalSizes_4 (by decide +kernel)
abbrev cX4_isGoalWithin : ByteArray := prog_6_method_6_code
def yX4_isGoalWithin : MethodName := ⟨RX4, "isGoalWithin", "(II)Z"⟩
def M_X4_isGoalWithin : MT := (yX4_isGoalWithin, cX4_isGoalWithin, 5, (some .boolean), RX4, 1)
theorem mk_X4_isGoalWithin : MokV M_X4_isGoalWithin 4 2 := ⟨⟨⟨by decide, by decide, rfl⟩, (allW_in (kT_7 _ (List.mem_of_getElem? (i := 138) rfl)) rfl), (allW_in (kT_1 _ (List.mem_of_getElem? (i := 9) rfl)) rfl), by decide⟩, ⟨TX4, 10, rfl⟩, (allW_in (kT_7 _ (List.mem_of_getElem? (i := 136) rfl)) rfl), (allW_in (kT_7 _ (List.mem_of_getElem? (i := 137) rfl)) rfl)⟩
def B_X4_isGoalWithin_60 : Blk := (60, .iload_n 3, 1) :: (61, .ireturn, 1) :: []
theorem o_X4_isGoalWithin_60 : Chn cX4_isGoalWithin B_X4_isGoalWithin_60 := chn_of _ (by decide +kernel)
def B_X4_isGoalWithin_52 : Blk := (52, .iand, 1) :: (53, .istore_n 3, 1) :: (54, .iinc 4 1, 3) :: (57, .goto (-33), 3) :: []
theorem o_X4_isGoalWithin_52 : Chn cX4_isGoalWithin B_X4_isGoalWithin_52 := chn_of _ (by decide +kernel)
def B_X4_isGoalWithin_51 : Blk := (51, .iconst 0, 1) :: B_X4_isGoalWithin_52
theorem o_X4_isGoalWithin_51 : Chn cX4_isGoalWithin B_X4_isGoalWithin_51 := chn_app ((51, .iconst 0, 1) :: []) o_X4_isGoalWithin_52 (by decide +kernel)
def B_X4_isGoalWithin_24 : Blk := (24, .iload 4, 2) :: (26, .iconst 4, 1) :: (27, .if_icmp .ge 33, 3) :: (30, .iload_n 3, 1) :: (31, .aload_n 0, 1) :: (32, .getfield 22, 3) :: (35, .iload 4, 2) :: (37, .laload, 1) :: (38, .invokestatic 98, 3) :: (41, .iload_n 1, 1) :: (42, .i2l, 1) :: (43, .lcmp, 1) :: (44, .ifCond .gt 7, 3) :: (47, .iconst 1, 1) :: (48, .goto 4, 3) :: []
theorem o_X4_isGoalWithin_24 : Chn cX4_isGoalWithin B_X4_isGoalWithin_24 := chn_of _ (by decide +kernel)
def B_X4_isGoalWithin_20 : Blk := (20, .istore_n 3, 1) :: (21, .iconst 0, 1) :: (22, .istore 4, 2) :: B_X4_isGoalWithin_24
theorem o_X4_isGoalWithin_20 : Chn cX4_isGoalWithin B_X4_isGoalWithin_20 := chn_app ((20, .istore_n 3, 1) :: (21, .iconst 0, 1) :: (22, .istore 4, 2) :: []) o_X4_isGoalWithin_24 (by decide +kernel)
def B_X4_isGoalWithin_19 : Blk := (19, .iconst 0, 1) :: B_X4_isGoalWithin_20
theorem o_X4_isGoalWithin_19 : Chn cX4_isGoalWithin B_X4_isGoalWithin_19 := chn_app ((19, .iconst 0, 1) :: []) o_X4_isGoalWithin_20 (by decide +kernel)
def B_X4_isGoalWithin_0 : Blk := (0, .aload_n 0, 1) :: (1, .getfield 22, 3) :: (4, .iconst 4, 1) :: (5, .laload, 1) :: (6, .invokestatic 98, 3) :: (9, .iload_n 2, 1) :: (10, .i2l, 1) :: (11, .lcmp, 1) :: (12, .ifCond .gt 7, 3) :: (15, .iconst 1, 1) :: (16, .goto 4, 3) :: []
theorem o_X4_isGoalWithin_0 : Chn cX4_isGoalWithin B_X4_isGoalWithin_0 := chn_of _ (by decide +kernel)
abbrev cX5_isTold : ByteArray := prog_7_method_2_code
def yX5_isTold : MethodName := ⟨RX5, "isTold", "(II)Z"⟩
def M_X5_isTold : MT := (yX5_isTold, cX5_isTold, 3, (some .boolean), RX5, 1)
theorem mk_X5_isTold : MokV M_X5_isTold 5 2 := ⟨⟨⟨by decide, by decide, rfl⟩, (allW_in (kT_9 _ (List.mem_of_getElem? (i := 106) rfl)) rfl), (allW_in (kT_1 _ (List.mem_of_getElem? (i := 13) rfl)) rfl), by decide⟩, ⟨TX5, 11, rfl⟩, (allW_in (kT_9 _ (List.mem_of_getElem? (i := 104) rfl)) rfl), (allW_in (kT_9 _ (List.mem_of_getElem? (i := 105) rfl)) rfl)⟩
def B_X5_isTold_29 : Blk := (29, .ireturn, 1) :: []
theorem o_X5_isTold_29 : Chn cX5_isTold B_X5_isTold_29 := chn_of _ (by decide +kernel)
def B_X5_isTold_28 : Blk := (28, .iconst 0, 1) :: B_X5_isTold_29
theorem o_X5_isTold_28 : Chn cX5_isTold B_X5_isTold_28 := chn_app ((28, .iconst 0, 1) :: []) o_X5_isTold_29 (by decide +kernel)
def B_X5_isTold_0 : Blk := (0, .iload_n 1, 1) :: (1, .ifCond .lt 27, 3) :: (4, .iload_n 1, 1) :: (5, .aload_n 0, 1) :: (6, .getfield 41, 3) :: (9, .if_icmp .ge 19, 3) :: (12, .iload_n 2, 1) :: (13, .ifCond .lt 15, 3) :: (16, .iload_n 2, 1) :: (17, .aload_n 0, 1) :: (18, .getfield 45, 3) :: (21, .if_icmp .ge 7, 3) :: (24, .iconst 1, 1) :: (25, .goto 4, 3) :: []
theorem o_X5_isTold_0 : Chn cX5_isTold B_X5_isTold_0 := chn_of _ (by decide +kernel)
theorem fl_5_41 : FLk RX5 41 5 9 0 false := ⟨RX5, TX5, 11, "IntegerHouse$OwnForm", "toldStates", "I", rfl, by decide, rfl, Or.inl (allW_in (kT_2 _ (List.mem_of_getElem? (i := 232) rfl)) rfl), rfl, (fun _ => rfl), (fun h => absurd h (by decide)), (fun h => absurd h (by decide)), (fun h => absurd h (by decide))⟩
theorem fl_5_45 : FLk RX5 45 5 10 0 false := ⟨RX5, TX5, 11, "IntegerHouse$OwnForm", "toldLetters", "I", rfl, by decide, rfl, Or.inl (allW_in (kT_2 _ (List.mem_of_getElem? (i := 233) rfl)) rfl), rfl, (fun _ => rfl), (fun h => absurd h (by decide)), (fun h => absurd h (by decide)), (fun h => absurd h (by decide))⟩
abbrev cX5_toldHalf : ByteArray := prog_7_method_3_code
def yX5_toldHalf : MethodName := ⟨RX5, "toldHalf", "(II)I"⟩
def M_X5_toldHalf : MT := (yX5_toldHalf, cX5_toldHalf, 3, (some .int), RX5, 1)
theorem mk_X5_toldHalf : MokV M_X5_toldHalf 5 2 := ⟨⟨⟨by decide, by decide, rfl⟩, (allW_in (kT_9 _ (List.mem_of_getElem? (i := 111) rfl)) rfl), (allW_in (kT_1 _ (List.mem_of_getElem? (i := 13) rfl)) rfl), by decide⟩, ⟨TX5, 11, rfl⟩, (allW_in (kT_9 _ (List.mem_of_getElem? (i := 109) rfl)) rfl), (allW_in (kT_9 _ (List.mem_of_getElem? (i := 110) rfl)) rfl)⟩
def B_X5_toldHalf_37 : Blk := (37, .ireturn, 1) :: []
theorem o_X5_toldHalf_37 : Chn cX5_toldHalf B_X5_toldHalf_37 := chn_of _ (by decide +kernel)
def B_X5_toldHalf_36 : Blk := (36, .iconst 0, 1) :: B_X5_toldHalf_37
theorem o_X5_toldHalf_36 : Chn cX5_toldHalf B_X5_toldHalf_36 := chn_app ((36, .iconst 0, 1) :: []) o_X5_toldHalf_37 (by decide +kernel)
def B_X5_toldHalf_0 : Blk := (0, .aload_n 0, 1) :: (1, .iload_n 1, 1) :: (2, .iload_n 2, 1) :: (3, .invokevirtual 48, 3) :: (6, .ifCond .eq 30, 3) :: (9, .iload_n 1, 1) :: (10, .sipush 3000, 3) :: (13, .if_icmp .ge 23, 3) :: (16, .iload_n 2, 1) :: (17, .bipush 16, 2) :: (19, .if_icmp .ge 17, 3) :: (22, .aload_n 0, 1) :: (23, .getfield 31, 3) :: (26, .iload_n 1, 1) :: (27, .bipush 16, 2) :: (29, .imul, 1) :: (30, .iload_n 2, 1) :: (31, .iadd, 1) :: (32, .iaload, 1) :: (33, .goto 4, 3) :: []
theorem o_X5_toldHalf_0 : Chn cX5_toldHalf B_X5_toldHalf_0 := chn_of _ (by decide +kernel)
theorem ml_5_48 : MLk RX5 48 yX5_isTold := Or.inl (allW_in (kT_9 _ (List.mem_of_getElem? (i := 112) rfl)) rfl)
theorem fl_5_31 : FLk RX5 31 5 7 3 true := ⟨RX5, TX5, 11, "IntegerHouse$OwnForm", "halves", "[I", rfl, by decide, rfl, Or.inl (allW_in (kT_2 _ (List.mem_of_getElem? (i := 230) rfl)) rfl), rfl, (fun h => absurd h (by decide)), (fun h => absurd h (by decide)), (fun h => absurd h (by decide)), (fun h => absurd h (by decide))⟩
abbrev cX5_toldTakes : ByteArray := prog_7_method_4_code
def yX5_toldTakes : MethodName := ⟨RX5, "toldTakes", "(II)I"⟩
def M_X5_toldTakes : MT := (yX5_toldTakes, cX5_toldTakes, 3, (some .int), RX5, 1)
theorem mk_X5_toldTakes : MokV M_X5_toldTakes 5 2 := ⟨⟨⟨by decide, by decide, rfl⟩, (allW_in (kT_9 _ (List.mem_of_getElem? (i := 123) rfl)) rfl), (allW_in (kT_1 _ (List.mem_of_getElem? (i := 13) rfl)) rfl), by decide⟩, ⟨TX5, 11, rfl⟩, (allW_in (kT_9 _ (List.mem_of_getElem? (i := 121) rfl)) rfl), (allW_in (kT_9 _ (List.mem_of_getElem? (i := 122) rfl)) rfl)⟩
def B_X5_toldTakes_30 : Blk := (30, .ireturn, 1) :: []
theorem o_X5_toldTakes_30 : Chn cX5_toldTakes B_X5_toldTakes_30 := chn_of _ (by decide +kernel)
def B_X5_toldTakes_29 : Blk := (29, .iconst 0, 1) :: B_X5_toldTakes_30
theorem o_X5_toldTakes_29 : Chn cX5_toldTakes B_X5_toldTakes_29 := chn_app ((29, .iconst 0, 1) :: []) o_X5_toldTakes_30 (by decide +kernel)
def B_X5_toldTakes_0 : Blk := (0, .aload_n 0, 1) :: (1, .iload_n 1, 1) :: (2, .iload_n 2, 1) :: (3, .invokevirtual 48, 3) :: (6, .ifCond .eq 23, 3) :: (9, .iload_n 1, 1) :: (10, .sipush 3000, 3) :: (13, .if_icmp .ge 16, 3) :: (16, .aload_n 0, 1) :: (17, .getfield 34, 3) :: (20, .iload_n 1, 1) :: (21, .iaload, 1) :: (22, .iload_n 2, 1) :: (23, .iushr, 1) :: (24, .iconst 1, 1) :: (25, .iand, 1) :: (26, .goto 4, 3) :: []
theorem o_X5_toldTakes_0 : Chn cX5_toldTakes B_X5_toldTakes_0 := chn_of _ (by decide +kernel)
theorem fl_5_34 : FLk RX5 34 5 8 3 true := ⟨RX5, TX5, 11, "IntegerHouse$OwnForm", "taken", "[I", rfl, by decide, rfl, Or.inl (allW_in (kT_2 _ (List.mem_of_getElem? (i := 231) rfl)) rfl), rfl, (fun h => absurd h (by decide)), (fun h => absurd h (by decide)), (fun h => absurd h (by decide)), (fun h => absurd h (by decide))⟩
abbrev cJ7_fill_53178 : ByteArray := prog_27_method_103_code
def yJ7_fill_53178 : MethodName := ⟨RJ7, "fill", "([II)V"⟩
def M_J7_fill_53178 : MT := (yJ7_fill_53178, cJ7_fill_53178, 4, none, RJ7, 0)
theorem mk_J7_fill_53178 : MokS M_J7_fill_53178 2 := ⟨⟨⟨by decide, by decide, rfl⟩, (allW_in (kT_6 _ (List.mem_of_getElem? (i := 137) rfl)) rfl), (allW_in (kT_1 _ (List.mem_of_getElem? (i := 26) rfl)) rfl), by decide⟩, (allW_in (kT_6 _ (List.mem_of_getElem? (i := 136) rfl)) rfl)⟩
def B_J7_fill_53178_20 : Blk := (20, .return_, 1) :: []
theorem o_J7_fill_53178_20 : Chn cJ7_fill_53178 B_J7_fill_53178_20 := chn_of _ (by decide +kernel)
def B_J7_fill_53178_5 : Blk := (5, .iload_n 2, 1) :: (6, .iload_n 3, 1) :: (7, .if_icmp .ge 13, 3) :: (10, .aload_n 0, 1) :: (11, .iload_n 2, 1) :: (12, .iload_n 1, 1) :: (13, .iastore, 1) :: (14, .iinc 2 1, 3) :: (17, .goto (-12), 3) :: []
theorem o_J7_fill_53178_5 : Chn cJ7_fill_53178 B_J7_fill_53178_5 := chn_of _ (by decide +kernel)
def B_J7_fill_53178_0 : Blk := (0, .iconst 0, 1) :: (1, .istore_n 2, 1) :: (2, .aload_n 0, 1) :: (3, .arraylength, 1) :: (4, .istore_n 3, 1) :: B_J7_fill_53178_5
theorem o_J7_fill_53178_0 : Chn cJ7_fill_53178 B_J7_fill_53178_0 := chn_app ((0, .iconst 0, 1) :: (1, .istore_n 2, 1) :: (2, .aload_n 0, 1) :: (3, .arraylength, 1) :: (4, .istore_n 3, 1) :: []) o_J7_fill_53178_5 (by decide +kernel)
abbrev cX5_sortOf : ByteArray := prog_7_method_8_code
def yX5_sortOf : MethodName := ⟨RX5, "sortOf", "(I)I"⟩
def M_X5_sortOf : MT := (yX5_sortOf, cX5_sortOf, 2, (some .int), RX5, 1)
theorem mk_X5_sortOf : MokV M_X5_sortOf 5 1 := ⟨⟨⟨by decide, by decide, rfl⟩, (allW_in (kT_7 _ (List.mem_of_getElem? (i := 105) rfl)) rfl), (allW_in (kT_1 _ (List.mem_of_getElem? (i := 13) rfl)) rfl), by decide⟩, ⟨TX5, 11, rfl⟩, (allW_in (kT_7 _ (List.mem_of_getElem? (i := 104) rfl)) rfl), (allW_in (kTs_6 _ (List.mem_of_getElem? (i := 10) rfl)) rfl)⟩
def B_X5_sortOf_21 : Blk := (21, .ireturn, 1) :: []
theorem o_X5_sortOf_21 : Chn cX5_sortOf B_X5_sortOf_21 := chn_of _ (by decide +kernel)
def B_X5_sortOf_20 : Blk := (20, .iconst 0, 1) :: B_X5_sortOf_21
theorem o_X5_sortOf_20 : Chn cX5_sortOf B_X5_sortOf_20 := chn_app ((20, .iconst 0, 1) :: []) o_X5_sortOf_21 (by decide +kernel)
def B_X5_sortOf_0 : Blk := (0, .iload_n 1, 1) :: (1, .ifCond .lt 19, 3) :: (4, .iload_n 1, 1) :: (5, .sipush 3000, 3) :: (8, .if_icmp .ge 12, 3) :: (11, .aload_n 0, 1) :: (12, .getfield 15, 3) :: (15, .iload_n 1, 1) :: (16, .iaload, 1) :: (17, .goto 4, 3) :: []
theorem o_X5_sortOf_0 : Chn cX5_sortOf B_X5_sortOf_0 := chn_of _ (by decide +kernel)
theorem fl_5_15 : FLk RX5 15 5 2 3 true := ⟨RX5, TX5, 11, "IntegerHouse$OwnForm", "sorts", "[I", rfl, by decide, rfl, Or.inl (allW_in (kT_2 _ (List.mem_of_getElem? (i := 225) rfl)) rfl), rfl, (fun h => absurd h (by decide)), (fun h => absurd h (by decide)), (fun h => absurd h (by decide)), (fun h => absurd h (by decide))⟩
abbrev cX5_areLike : ByteArray := prog_7_method_9_code
def yX5_areLike : MethodName := ⟨RX5, "areLike", "(II)Z"⟩
def M_X5_areLike : MT := (yX5_areLike, cX5_areLike, 5, (some .boolean), RX5, 1)
theorem mk_X5_areLike : MokV M_X5_areLike 5 2 := ⟨⟨⟨by decide, by decide, rfl⟩, (allW_in (kT_7 _ (List.mem_of_getElem? (i := 111) rfl)) rfl), (allW_in (kT_1 _ (List.mem_of_getElem? (i := 13) rfl)) rfl), by decide⟩, ⟨TX5, 11, rfl⟩, (allW_in (kT_7 _ (List.mem_of_getElem? (i := 110) rfl)) rfl), (allW_in (kTs_6 _ (List.mem_of_getElem? (i := 11) rfl)) rfl)⟩
def B_X5_areLike_81 : Blk := (81, .iload_n 3, 1) :: (82, .ireturn, 1) :: []
theorem o_X5_areLike_81 : Chn cX5_areLike B_X5_areLike_81 := chn_of _ (by decide +kernel)
def B_X5_areLike_74 : Blk := (74, .istore_n 3, 1) :: (75, .iinc 4 1, 3) :: (78, .goto (-56), 3) :: []
theorem o_X5_areLike_74 : Chn cX5_areLike B_X5_areLike_74 := chn_of _ (by decide +kernel)
def B_X5_areLike_73 : Blk := (73, .iconst 0, 1) :: B_X5_areLike_74
theorem o_X5_areLike_73 : Chn cX5_areLike B_X5_areLike_73 := chn_app ((73, .iconst 0, 1) :: []) o_X5_areLike_74 (by decide +kernel)
def B_X5_areLike_22 : Blk := (22, .iload 4, 2) :: (24, .aload_n 0, 1) :: (25, .getfield 37, 3) :: (28, .getfield 93, 3) :: (31, .if_icmp .ge 50, 3) :: (34, .iload_n 3, 1) :: (35, .ifCond .eq 46, 3) :: (38, .aload_n 0, 1) :: (39, .aload_n 0, 1) :: (40, .getfield 37, 3) :: (43, .iload_n 1, 1) :: (44, .iload 4, 2) :: (46, .invokevirtual 96, 3) :: (49, .invokevirtual 90, 3) :: (52, .aload_n 0, 1) :: (53, .aload_n 0, 1) :: (54, .getfield 37, 3) :: (57, .iload_n 2, 1) :: (58, .iload 4, 2) :: (60, .invokevirtual 96, 3) :: (63, .invokevirtual 90, 3) :: (66, .if_icmp .ne 7, 3) :: (69, .iconst 1, 1) :: (70, .goto 4, 3) :: []
theorem o_X5_areLike_22 : Chn cX5_areLike B_X5_areLike_22 := chn_of _ (by decide +kernel)
def B_X5_areLike_18 : Blk := (18, .istore_n 3, 1) :: (19, .iconst 0, 1) :: (20, .istore 4, 2) :: B_X5_areLike_22
theorem o_X5_areLike_18 : Chn cX5_areLike B_X5_areLike_18 := chn_app ((18, .istore_n 3, 1) :: (19, .iconst 0, 1) :: (20, .istore 4, 2) :: []) o_X5_areLike_22 (by decide +kernel)
def B_X5_areLike_17 : Blk := (17, .iconst 0, 1) :: B_X5_areLike_18
theorem o_X5_areLike_17 : Chn cX5_areLike B_X5_areLike_17 := chn_app ((17, .iconst 0, 1) :: []) o_X5_areLike_18 (by decide +kernel)
def B_X5_areLike_0 : Blk := (0, .aload_n 0, 1) :: (1, .iload_n 1, 1) :: (2, .invokevirtual 90, 3) :: (5, .aload_n 0, 1) :: (6, .iload_n 2, 1) :: (7, .invokevirtual 90, 3) :: (10, .if_icmp .ne 7, 3) :: (13, .iconst 1, 1) :: (14, .goto 4, 3) :: []
theorem o_X5_areLike_0 : Chn cX5_areLike B_X5_areLike_0 := chn_of _ (by decide +kernel)
theorem ml_5_90 : MLk RX5 90 yX5_sortOf := Or.inl (allW_in (kT_7 _ (List.mem_of_getElem? (i := 102) rfl)) rfl)
theorem fl_5_37 : FLk RX5 37 5 0 3 true := ⟨RX5, TX5, 11, "IntegerHouse$OwnForm", "places", "LIntegerHouse$Places;", rfl, by decide, rfl, Or.inl (allW_in (kT_2 _ (List.mem_of_getElem? (i := 223) rfl)) rfl), rfl, (fun h => absurd h (by decide)), (fun h => absurd h (by decide)), (fun h => absurd h (by decide)), (fun h => absurd h (by decide))⟩
theorem fl_5_93 : FLk RX5 93 6 12 0 false := ⟨RX6, TX6, 14, "IntegerHouse$Places", "letters", "I", rfl, by decide, rfl, Or.inr ⟨"IntegerHouse", List.mem_of_getElem? (i := 30) rfl⟩, rfl, (fun _ => rfl), (fun h => absurd h (by decide)), (fun h => absurd h (by decide)), (fun h => absurd h (by decide))⟩
theorem ml_5_96 : MLk RX5 96 yX6_behind := Or.inl (allW_in (kT_7 _ (List.mem_of_getElem? (i := 106) rfl)) rfl)
abbrev cX5_likeOf : ByteArray := prog_7_method_7_code
def yX5_likeOf : MethodName := ⟨RX5, "likeOf", "(I)I"⟩
def M_X5_likeOf : MT := (yX5_likeOf, cX5_likeOf, 6, (some .int), RX5, 1)
theorem mk_X5_likeOf : MokV M_X5_likeOf 5 1 := ⟨⟨⟨by decide, by decide, rfl⟩, (allW_in (kT_7 _ (List.mem_of_getElem? (i := 101) rfl)) rfl), (allW_in (kT_1 _ (List.mem_of_getElem? (i := 13) rfl)) rfl), by decide⟩, ⟨TX5, 11, rfl⟩, (allW_in (kT_7 _ (List.mem_of_getElem? (i := 100) rfl)) rfl), (allW_in (kTs_6 _ (List.mem_of_getElem? (i := 9) rfl)) rfl)⟩
def B_X5_likeOf_135 : Blk := (135, .iload_n 1, 1) :: (136, .ireturn, 1) :: []
theorem o_X5_likeOf_135 : Chn cX5_likeOf B_X5_likeOf_135 := chn_of _ (by decide +kernel)
def B_X5_likeOf_121 : Blk := (121, .iload_n 3, 1) :: (122, .iconst 1, 1) :: (123, .iadd, 1) :: (124, .sipush 8191, 3) :: (127, .iand, 1) :: (128, .istore_n 3, 1) :: (129, .iinc 4 1, 3) :: (132, .goto (-64), 3) :: []
theorem o_X5_likeOf_121 : Chn cX5_likeOf B_X5_likeOf_121 := chn_of _ (by decide +kernel)
def B_X5_likeOf_102 : Blk := (102, .aload_n 0, 1) :: (103, .iload 5, 2) :: (105, .iload_n 1, 1) :: (106, .invokevirtual 100, 3) :: (109, .ifCond .eq 12, 3) :: (112, .iload 5, 2) :: (114, .sipush 2999, 3) :: (117, .invokestatic 57, 3) :: (120, .ireturn, 1) :: []
theorem o_X5_likeOf_102 : Chn cX5_likeOf B_X5_likeOf_102 := chn_of _ (by decide +kernel)
def B_X5_likeOf_68 : Blk := (68, .iload 4, 2) :: (70, .sipush 8192, 3) :: (73, .if_icmp .ge 62, 3) :: (76, .aload_n 0, 1) :: (77, .getfield 21, 3) :: (80, .iload_n 3, 1) :: (81, .iaload, 1) :: (82, .iconst 1, 1) :: (83, .isub, 1) :: (84, .istore 5, 2) :: (86, .iload 5, 2) :: (88, .ifCond .ge 14, 3) :: (91, .aload_n 0, 1) :: (92, .getfield 21, 3) :: (95, .iload_n 3, 1) :: (96, .iload_n 1, 1) :: (97, .iconst 1, 1) :: (98, .iadd, 1) :: (99, .iastore, 1) :: (100, .iload_n 1, 1) :: (101, .ireturn, 1) :: []
theorem o_X5_likeOf_68 : Chn cX5_likeOf B_X5_likeOf_68 := chn_of _ (by decide +kernel)
def B_X5_likeOf_44 : Blk := (44, .iload_n 2, 1) :: (45, .iload_n 2, 1) :: (46, .bipush 15, 2) :: (48, .iushr, 1) :: (49, .ixor, 1) :: (50, .ldc 99, 2) :: (52, .imul, 1) :: (53, .istore_n 2, 1) :: (54, .iload_n 2, 1) :: (55, .iload_n 2, 1) :: (56, .bipush 13, 2) :: (58, .iushr, 1) :: (59, .ixor, 1) :: (60, .sipush 8191, 3) :: (63, .iand, 1) :: (64, .istore_n 3, 1) :: (65, .iconst 0, 1) :: (66, .istore 4, 2) :: B_X5_likeOf_68
theorem o_X5_likeOf_44 : Chn cX5_likeOf B_X5_likeOf_44 := chn_app ((44, .iload_n 2, 1) :: (45, .iload_n 2, 1) :: (46, .bipush 15, 2) :: (48, .iushr, 1) :: (49, .ixor, 1) :: (50, .ldc 99, 2) :: (52, .imul, 1) :: (53, .istore_n 2, 1) :: (54, .iload_n 2, 1) :: (55, .iload_n 2, 1) :: (56, .bipush 13, 2) :: (58, .iushr, 1) :: (59, .ixor, 1) :: (60, .sipush 8191, 3) :: (63, .iand, 1) :: (64, .istore_n 3, 1) :: (65, .iconst 0, 1) :: (66, .istore 4, 2) :: []) o_X5_likeOf_68 (by decide +kernel)
def B_X5_likeOf_8 : Blk := (8, .iload_n 3, 1) :: (9, .aload_n 0, 1) :: (10, .getfield 37, 3) :: (13, .getfield 93, 3) :: (16, .if_icmp .ge 28, 3) :: (19, .iload_n 2, 1) :: (20, .bipush 31, 2) :: (22, .imul, 1) :: (23, .aload_n 0, 1) :: (24, .aload_n 0, 1) :: (25, .getfield 37, 3) :: (28, .iload_n 1, 1) :: (29, .iload_n 3, 1) :: (30, .invokevirtual 96, 3) :: (33, .invokevirtual 90, 3) :: (36, .iadd, 1) :: (37, .istore_n 2, 1) :: (38, .iinc 3 1, 3) :: (41, .goto (-33), 3) :: []
theorem o_X5_likeOf_8 : Chn cX5_likeOf B_X5_likeOf_8 := chn_of _ (by decide +kernel)
def B_X5_likeOf_0 : Blk := (0, .aload_n 0, 1) :: (1, .iload_n 1, 1) :: (2, .invokevirtual 90, 3) :: (5, .istore_n 2, 1) :: (6, .iconst 0, 1) :: (7, .istore_n 3, 1) :: B_X5_likeOf_8
theorem o_X5_likeOf_0 : Chn cX5_likeOf B_X5_likeOf_0 := chn_app ((0, .aload_n 0, 1) :: (1, .iload_n 1, 1) :: (2, .invokevirtual 90, 3) :: (5, .istore_n 2, 1) :: (6, .iconst 0, 1) :: (7, .istore_n 3, 1) :: []) o_X5_likeOf_8 (by decide +kernel)
theorem fl_5_21 : FLk RX5 21 5 4 3 true := ⟨RX5, TX5, 11, "IntegerHouse$OwnForm", "table", "[I", rfl, by decide, rfl, Or.inl (allW_in (kT_2 _ (List.mem_of_getElem? (i := 227) rfl)) rfl), rfl, (fun h => absurd h (by decide)), (fun h => absurd h (by decide)), (fun h => absurd h (by decide)), (fun h => absurd h (by decide))⟩
theorem ml_5_100 : MLk RX5 100 yX5_areLike := Or.inl (allW_in (kT_7 _ (List.mem_of_getElem? (i := 108) rfl)) rfl)
abbrev cX5_refine : ByteArray := prog_7_method_6_code
def yX5_refine : MethodName := ⟨RX5, "refine", "(I)I"⟩
def M_X5_refine : MT := (yX5_refine, cX5_refine, 5, (some .int), RX5, 1)
theorem mk_X5_refine : MokV M_X5_refine 5 1 := ⟨⟨⟨by decide, by decide, rfl⟩, (allW_in (kT_7 _ (List.mem_of_getElem? (i := 96) rfl)) rfl), (allW_in (kT_1 _ (List.mem_of_getElem? (i := 13) rfl)) rfl), by decide⟩, ⟨TX5, 11, rfl⟩, (allW_in (kT_7 _ (List.mem_of_getElem? (i := 95) rfl)) rfl), (allW_in (kTs_6 _ (List.mem_of_getElem? (i := 8) rfl)) rfl)⟩
def B_X5_refine_74 : Blk := (74, .aload_n 0, 1) :: (75, .getfield 18, 3) :: (78, .iconst 0, 1) :: (79, .aload_n 0, 1) :: (80, .getfield 15, 3) :: (83, .iconst 0, 1) :: (84, .iload_n 1, 1) :: (85, .sipush 3000, 3) :: (88, .invokestatic 57, 3) :: (91, .invokestatic 84, 3) :: (94, .iload_n 2, 1) :: (95, .ireturn, 1) :: []
theorem o_X5_refine_74 : Chn cX5_refine B_X5_refine_74 := chn_of _ (by decide +kernel)
def B_X5_refine_66 : Blk := (66, .iadd, 1) :: (67, .istore_n 2, 1) :: (68, .iinc 3 1, 3) :: (71, .goto (-59), 3) :: []
theorem o_X5_refine_66 : Chn cX5_refine B_X5_refine_66 := chn_of _ (by decide +kernel)
def B_X5_refine_65 : Blk := (65, .iconst 0, 1) :: B_X5_refine_66
theorem o_X5_refine_65 : Chn cX5_refine B_X5_refine_65 := chn_app ((65, .iconst 0, 1) :: []) o_X5_refine_66 (by decide +kernel)
def B_X5_refine_53 : Blk := (53, .iastore, 1) :: (54, .iload_n 2, 1) :: (55, .iload 4, 2) :: (57, .iload_n 3, 1) :: (58, .if_icmp .ne 7, 3) :: (61, .iconst 1, 1) :: (62, .goto 4, 3) :: []
theorem o_X5_refine_53 : Chn cX5_refine B_X5_refine_53 := chn_of _ (by decide +kernel)
def B_X5_refine_46 : Blk := (46, .aload_n 0, 1) :: (47, .getfield 18, 3) :: (50, .iload 4, 2) :: (52, .iaload, 1) :: B_X5_refine_53
theorem o_X5_refine_46 : Chn cX5_refine B_X5_refine_46 := chn_app ((46, .aload_n 0, 1) :: (47, .getfield 18, 3) :: (50, .iload 4, 2) :: (52, .iaload, 1) :: []) o_X5_refine_53 (by decide +kernel)
def B_X5_refine_12 : Blk := (12, .iload_n 3, 1) :: (13, .iload_n 1, 1) :: (14, .if_icmp .ge 60, 3) :: (17, .iload_n 3, 1) :: (18, .sipush 3000, 3) :: (21, .if_icmp .ge 53, 3) :: (24, .aload_n 0, 1) :: (25, .iload_n 3, 1) :: (26, .invokevirtual 81, 3) :: (29, .istore 4, 2) :: (31, .aload_n 0, 1) :: (32, .getfield 18, 3) :: (35, .iload_n 3, 1) :: (36, .iload 4, 2) :: (38, .iload_n 3, 1) :: (39, .if_icmp .ne 7, 3) :: (42, .iload_n 2, 1) :: (43, .goto 10, 3) :: []
theorem o_X5_refine_12 : Chn cX5_refine B_X5_refine_12 := chn_of _ (by decide +kernel)
def B_X5_refine_0 : Blk := (0, .aload_n 0, 1) :: (1, .getfield 21, 3) :: (4, .iconst 0, 1) :: (5, .invokestatic 75, 3) :: (8, .iconst 0, 1) :: (9, .istore_n 2, 1) :: (10, .iconst 0, 1) :: (11, .istore_n 3, 1) :: B_X5_refine_12
theorem o_X5_refine_0 : Chn cX5_refine B_X5_refine_0 := chn_app ((0, .aload_n 0, 1) :: (1, .getfield 21, 3) :: (4, .iconst 0, 1) :: (5, .invokestatic 75, 3) :: (8, .iconst 0, 1) :: (9, .istore_n 2, 1) :: (10, .iconst 0, 1) :: (11, .istore_n 3, 1) :: []) o_X5_refine_12 (by decide +kernel)
theorem ml_5_75 : MLk RX5 75 yJ7_fill_53178 := Or.inl (allW_in (kT_7 _ (List.mem_of_getElem? (i := 97) rfl)) rfl)
theorem fl_5_18 : FLk RX5 18 5 3 3 true := ⟨RX5, TX5, 11, "IntegerHouse$OwnForm", "finer", "[I", rfl, by decide, rfl, Or.inl (allW_in (kT_2 _ (List.mem_of_getElem? (i := 226) rfl)) rfl), rfl, (fun h => absurd h (by decide)), (fun h => absurd h (by decide)), (fun h => absurd h (by decide)), (fun h => absurd h (by decide))⟩
theorem ml_5_84 : MLk RX5 84 arraycopyName := Or.inl (allW_in (kT_7 _ (List.mem_of_getElem? (i := 112) rfl)) rfl)
theorem ml_5_81 : MLk RX5 81 yX5_likeOf := Or.inl (allW_in (kT_7 _ (List.mem_of_getElem? (i := 98) rfl)) rfl)

abbrev cX5_addState : ByteArray := prog_7_method_11_code
def yX5_addState : MethodName := ⟨RX5, "addState", "(I)I"⟩
def M_X5_addState : MT := (yX5_addState, cX5_addState, 3, (some .int), RX5, 1)
theorem mk_X5_addState : MokV M_X5_addState 5 1 := ⟨⟨⟨by decide, by decide, rfl⟩, (allW_in (kT_7 _ (List.mem_of_getElem? (i := 120) rfl)) rfl), (allW_in (kT_1 _ (List.mem_of_getElem? (i := 13) rfl)) rfl), by decide⟩, ⟨TX5, 11, rfl⟩, (allW_in (kT_7 _ (List.mem_of_getElem? (i := 119) rfl)) rfl), (allW_in (kTs_6 _ (List.mem_of_getElem? (i := 13) rfl)) rfl)⟩
def B_X5_addState_99 : Blk := (99, .aload_n 0, 1) :: (100, .getfield 24, 3) :: (103, .iload_n 2, 1) :: (104, .iaload, 1) :: (105, .ireturn, 1) :: []
theorem o_X5_addState_99 : Chn cX5_addState B_X5_addState_99 := chn_of _ (by decide +kernel)
def B_X5_addState_0 : Blk := (0, .iconst 0, 1) :: (1, .aload_n 0, 1) :: (2, .iload_n 1, 1) :: (3, .invokevirtual 90, 3) :: (6, .sipush 2999, 3) :: (9, .invokestatic 57, 3) :: (12, .invokestatic 106, 3) :: (15, .istore_n 2, 1) :: (16, .aload_n 0, 1) :: (17, .getfield 24, 3) :: (20, .iload_n 2, 1) :: (21, .iaload, 1) :: (22, .iconst (-1), 1) :: (23, .if_icmp .ne 76, 3) :: (26, .aload_n 0, 1) :: (27, .getfield 41, 3) :: (30, .ifCond .lt 69, 3) :: (33, .aload_n 0, 1) :: (34, .getfield 41, 3) :: (37, .sipush 3000, 3) :: (40, .if_icmp .ge 59, 3) :: (43, .iload_n 1, 1) :: (44, .ifCond .lt 55, 3) :: (47, .iload_n 1, 1) :: (48, .sipush 3000, 3) :: (51, .if_icmp .ge 48, 3) :: (54, .aload_n 0, 1) :: (55, .getfield 24, 3) :: (58, .iload_n 2, 1) :: (59, .aload_n 0, 1) :: (60, .getfield 41, 3) :: (63, .iastore, 1) :: (64, .aload_n 0, 1) :: (65, .getfield 27, 3) :: (68, .aload_n 0, 1) :: (69, .getfield 41, 3) :: (72, .iload_n 1, 1) :: (73, .iastore, 1) :: (74, .aload_n 0, 1) :: (75, .getfield 34, 3) :: (78, .aload_n 0, 1) :: (79, .getfield 41, 3) :: (82, .aload_n 0, 1) :: (83, .getfield 11, 3) :: (86, .iload_n 1, 1) :: (87, .iaload, 1) :: (88, .iastore, 1) :: (89, .aload_n 0, 1) :: (90, .dup, 1) :: (91, .getfield 41, 3) :: (94, .iconst 1, 1) :: (95, .iadd, 1) :: (96, .putfield 41, 3) :: B_X5_addState_99
theorem o_X5_addState_0 : Chn cX5_addState B_X5_addState_0 := chn_app ((0, .iconst 0, 1) :: (1, .aload_n 0, 1) :: (2, .iload_n 1, 1) :: (3, .invokevirtual 90, 3) :: (6, .sipush 2999, 3) :: (9, .invokestatic 57, 3) :: (12, .invokestatic 106, 3) :: (15, .istore_n 2, 1) :: (16, .aload_n 0, 1) :: (17, .getfield 24, 3) :: (20, .iload_n 2, 1) :: (21, .iaload, 1) :: (22, .iconst (-1), 1) :: (23, .if_icmp .ne 76, 3) :: (26, .aload_n 0, 1) :: (27, .getfield 41, 3) :: (30, .ifCond .lt 69, 3) :: (33, .aload_n 0, 1) :: (34, .getfield 41, 3) :: (37, .sipush 3000, 3) :: (40, .if_icmp .ge 59, 3) :: (43, .iload_n 1, 1) :: (44, .ifCond .lt 55, 3) :: (47, .iload_n 1, 1) :: (48, .sipush 3000, 3) :: (51, .if_icmp .ge 48, 3) :: (54, .aload_n 0, 1) :: (55, .getfield 24, 3) :: (58, .iload_n 2, 1) :: (59, .aload_n 0, 1) :: (60, .getfield 41, 3) :: (63, .iastore, 1) :: (64, .aload_n 0, 1) :: (65, .getfield 27, 3) :: (68, .aload_n 0, 1) :: (69, .getfield 41, 3) :: (72, .iload_n 1, 1) :: (73, .iastore, 1) :: (74, .aload_n 0, 1) :: (75, .getfield 34, 3) :: (78, .aload_n 0, 1) :: (79, .getfield 41, 3) :: (82, .aload_n 0, 1) :: (83, .getfield 11, 3) :: (86, .iload_n 1, 1) :: (87, .iaload, 1) :: (88, .iastore, 1) :: (89, .aload_n 0, 1) :: (90, .dup, 1) :: (91, .getfield 41, 3) :: (94, .iconst 1, 1) :: (95, .iadd, 1) :: (96, .putfield 41, 3) :: []) o_X5_addState_99 (by decide +kernel)
theorem fl_5_24 : FLk RX5 24 5 5 3 true := ⟨RX5, TX5, 11, "IntegerHouse$OwnForm", "states", "[I", rfl, by decide, rfl, Or.inl (allW_in (kT_2 _ (List.mem_of_getElem? (i := 228) rfl)) rfl), rfl, (fun h => absurd h (by decide)), (fun h => absurd h (by decide)), (fun h => absurd h (by decide)), (fun h => absurd h (by decide))⟩
theorem fl_5_27 : FLk RX5 27 5 6 3 true := ⟨RX5, TX5, 11, "IntegerHouse$OwnForm", "samples", "[I", rfl, by decide, rfl, Or.inl (allW_in (kT_2 _ (List.mem_of_getElem? (i := 229) rfl)) rfl), rfl, (fun h => absurd h (by decide)), (fun h => absurd h (by decide)), (fun h => absurd h (by decide)), (fun h => absurd h (by decide))⟩
theorem fl_5_11 : FLk RX5 11 5 1 3 true := ⟨RX5, TX5, 11, "IntegerHouse$OwnForm", "ends", "[I", rfl, by decide, rfl, Or.inl (allW_in (kT_2 _ (List.mem_of_getElem? (i := 224) rfl)) rfl), rfl, (fun h => absurd h (by decide)), (fun h => absurd h (by decide)), (fun h => absurd h (by decide)), (fun h => absurd h (by decide))⟩
abbrev cX5_giveNumbers : ByteArray := prog_7_method_10_code
def yX5_giveNumbers : MethodName := ⟨RX5, "giveNumbers", "(I)V"⟩
def M_X5_giveNumbers : MT := (yX5_giveNumbers, cX5_giveNumbers, 4, none, RX5, 0)
theorem mk_X5_giveNumbers : MokV M_X5_giveNumbers 5 1 := ⟨⟨⟨by decide, by decide, rfl⟩, (allW_in (kT_7 _ (List.mem_of_getElem? (i := 116) rfl)) rfl), (allW_in (kT_1 _ (List.mem_of_getElem? (i := 13) rfl)) rfl), by decide⟩, ⟨TX5, 11, rfl⟩, (allW_in (kT_7 _ (List.mem_of_getElem? (i := 115) rfl)) rfl), (allW_in (kTs_6 _ (List.mem_of_getElem? (i := 12) rfl)) rfl)⟩
def B_X5_giveNumbers_104 : Blk := (104, .return_, 1) :: []
theorem o_X5_giveNumbers_104 : Chn cX5_giveNumbers B_X5_giveNumbers_104 := chn_of _ (by decide +kernel)
def B_X5_giveNumbers_98 : Blk := (98, .iinc 2 1, 3) :: (101, .goto (-69), 3) :: []
theorem o_X5_giveNumbers_98 : Chn cX5_giveNumbers B_X5_giveNumbers_98 := chn_of _ (by decide +kernel)
def B_X5_giveNumbers_49 : Blk := (49, .iload_n 3, 1) :: (50, .aload_n 0, 1) :: (51, .getfield 45, 3) :: (54, .if_icmp .ge 44, 3) :: (57, .iload_n 3, 1) :: (58, .bipush 16, 2) :: (60, .if_icmp .ge 38, 3) :: (63, .aload_n 0, 1) :: (64, .getfield 31, 3) :: (67, .iload_n 2, 1) :: (68, .bipush 16, 2) :: (70, .imul, 1) :: (71, .iload_n 3, 1) :: (72, .iadd, 1) :: (73, .aload_n 0, 1) :: (74, .aload_n 0, 1) :: (75, .getfield 37, 3) :: (78, .aload_n 0, 1) :: (79, .getfield 27, 3) :: (82, .iload_n 2, 1) :: (83, .iaload, 1) :: (84, .iload_n 3, 1) :: (85, .invokevirtual 96, 3) :: (88, .invokevirtual 103, 3) :: (91, .iastore, 1) :: (92, .iinc 3 1, 3) :: (95, .goto (-46), 3) :: []
theorem o_X5_giveNumbers_49 : Chn cX5_giveNumbers B_X5_giveNumbers_49 := chn_of _ (by decide +kernel)
def B_X5_giveNumbers_32 : Blk := (32, .iload_n 2, 1) :: (33, .aload_n 0, 1) :: (34, .getfield 41, 3) :: (37, .if_icmp .ge 67, 3) :: (40, .iload_n 2, 1) :: (41, .sipush 3000, 3) :: (44, .if_icmp .ge 60, 3) :: (47, .iconst 0, 1) :: (48, .istore_n 3, 1) :: B_X5_giveNumbers_49
theorem o_X5_giveNumbers_32 : Chn cX5_giveNumbers B_X5_giveNumbers_32 := chn_app ((32, .iload_n 2, 1) :: (33, .aload_n 0, 1) :: (34, .getfield 41, 3) :: (37, .if_icmp .ge 67, 3) :: (40, .iload_n 2, 1) :: (41, .sipush 3000, 3) :: (44, .if_icmp .ge 60, 3) :: (47, .iconst 0, 1) :: (48, .istore_n 3, 1) :: []) o_X5_giveNumbers_49 (by decide +kernel)
def B_X5_giveNumbers_0 : Blk := (0, .aload_n 0, 1) :: (1, .getfield 24, 3) :: (4, .iconst (-1), 1) :: (5, .invokestatic 75, 3) :: (8, .aload_n 0, 1) :: (9, .aload_n 0, 1) :: (10, .getfield 37, 3) :: (13, .getfield 93, 3) :: (16, .putfield 45, 3) :: (19, .aload_n 0, 1) :: (20, .iconst 0, 1) :: (21, .putfield 41, 3) :: (24, .aload_n 0, 1) :: (25, .iconst 0, 1) :: (26, .invokevirtual 103, 3) :: (29, .pop, 1) :: (30, .iconst 0, 1) :: (31, .istore_n 2, 1) :: B_X5_giveNumbers_32
theorem o_X5_giveNumbers_0 : Chn cX5_giveNumbers B_X5_giveNumbers_0 := chn_app ((0, .aload_n 0, 1) :: (1, .getfield 24, 3) :: (4, .iconst (-1), 1) :: (5, .invokestatic 75, 3) :: (8, .aload_n 0, 1) :: (9, .aload_n 0, 1) :: (10, .getfield 37, 3) :: (13, .getfield 93, 3) :: (16, .putfield 45, 3) :: (19, .aload_n 0, 1) :: (20, .iconst 0, 1) :: (21, .putfield 41, 3) :: (24, .aload_n 0, 1) :: (25, .iconst 0, 1) :: (26, .invokevirtual 103, 3) :: (29, .pop, 1) :: (30, .iconst 0, 1) :: (31, .istore_n 2, 1) :: []) o_X5_giveNumbers_32 (by decide +kernel)
theorem ml_5_103 : MLk RX5 103 yX5_addState := Or.inl (allW_in (kT_7 _ (List.mem_of_getElem? (i := 117) rfl)) rfl)
abbrev cX5_tell : ByteArray := prog_7_method_5_code
def yX5_tell : MethodName := ⟨RX5, "tell", "(I)I"⟩
def M_X5_tell : MT := (yX5_tell, cX5_tell, 7, (some .int), RX5, 1)
theorem mk_X5_tell : MokV M_X5_tell 5 1 := ⟨⟨⟨by decide, by decide, rfl⟩, (allW_in (kT_7 _ (List.mem_of_getElem? (i := 90) rfl)) rfl), (allW_in (kT_1 _ (List.mem_of_getElem? (i := 13) rfl)) rfl), by decide⟩, ⟨TX5, 11, rfl⟩, (allW_in (kT_7 _ (List.mem_of_getElem? (i := 88) rfl)) rfl), (allW_in (kT_7 _ (List.mem_of_getElem? (i := 89) rfl)) rfl)⟩
def B_X5_tell_104 : Blk := (104, .aload_n 0, 1) :: (105, .iload_n 2, 1) :: (106, .invokevirtual 71, 3) :: (109, .aload_n 0, 1) :: (110, .getfield 41, 3) :: (113, .ireturn, 1) :: []
theorem o_X5_tell_104 : Chn cX5_tell B_X5_tell_104 := chn_of _ (by decide +kernel)
def B_X5_tell_96 : Blk := (96, .istore 4, 2) :: (98, .iinc 5 1, 3) :: (101, .goto (-36), 3) :: []
theorem o_X5_tell_96 : Chn cX5_tell B_X5_tell_96 := chn_of _ (by decide +kernel)
def B_X5_tell_95 : Blk := (95, .iconst 0, 1) :: B_X5_tell_96
theorem o_X5_tell_95 : Chn cX5_tell B_X5_tell_95 := chn_app ((95, .iconst 0, 1) :: []) o_X5_tell_96 (by decide +kernel)
def B_X5_tell_65 : Blk := (65, .iload 5, 2) :: (67, .iload_n 2, 1) :: (68, .if_icmp .gt 36, 3) :: (71, .iload 4, 2) :: (73, .ifCond .eq 31, 3) :: (76, .iload_n 3, 1) :: (77, .istore 6, 2) :: (79, .aload_n 0, 1) :: (80, .iload_n 2, 1) :: (81, .invokevirtual 67, 3) :: (84, .istore_n 3, 1) :: (85, .iload_n 3, 1) :: (86, .iload 6, 2) :: (88, .if_icmp .eq 7, 3) :: (91, .iconst 1, 1) :: (92, .goto 4, 3) :: []
theorem o_X5_tell_65 : Chn cX5_tell B_X5_tell_65 := chn_of _ (by decide +kernel)
def B_X5_tell_57 : Blk := (57, .iconst 0, 1) :: (58, .istore_n 3, 1) :: (59, .iconst 1, 1) :: (60, .istore 4, 2) :: (62, .iconst 0, 1) :: (63, .istore 5, 2) :: B_X5_tell_65
theorem o_X5_tell_57 : Chn cX5_tell B_X5_tell_57 := chn_app ((57, .iconst 0, 1) :: (58, .istore_n 3, 1) :: (59, .iconst 1, 1) :: (60, .istore 4, 2) :: (62, .iconst 0, 1) :: (63, .istore 5, 2) :: []) o_X5_tell_65 (by decide +kernel)
def B_X5_tell_16 : Blk := (16, .iload_n 3, 1) :: (17, .iload_n 2, 1) :: (18, .if_icmp .ge 39, 3) :: (21, .aload_n 0, 1) :: (22, .getfield 11, 3) :: (25, .iload_n 3, 1) :: (26, .aload_n 0, 1) :: (27, .getfield 37, 3) :: (30, .iload_n 3, 1) :: (31, .iconst 1, 1) :: (32, .iload_n 1, 1) :: (33, .ishl, 1) :: (34, .iconst 0, 1) :: (35, .invokevirtual 63, 3) :: (38, .iastore, 1) :: (39, .aload_n 0, 1) :: (40, .getfield 15, 3) :: (43, .iload_n 3, 1) :: (44, .aload_n 0, 1) :: (45, .getfield 11, 3) :: (48, .iload_n 3, 1) :: (49, .iaload, 1) :: (50, .iastore, 1) :: (51, .iinc 3 1, 3) :: (54, .goto (-38), 3) :: []
theorem o_X5_tell_16 : Chn cX5_tell B_X5_tell_16 := chn_of _ (by decide +kernel)
def B_X5_tell_0 : Blk := (0, .aload_n 0, 1) :: (1, .getfield 37, 3) :: (4, .getfield 52, 3) :: (7, .sipush 3000, 3) :: (10, .invokestatic 57, 3) :: (13, .istore_n 2, 1) :: (14, .iconst 0, 1) :: (15, .istore_n 3, 1) :: B_X5_tell_16
theorem o_X5_tell_0 : Chn cX5_tell B_X5_tell_0 := chn_app ((0, .aload_n 0, 1) :: (1, .getfield 37, 3) :: (4, .getfield 52, 3) :: (7, .sipush 3000, 3) :: (10, .invokestatic 57, 3) :: (13, .istore_n 2, 1) :: (14, .iconst 0, 1) :: (15, .istore_n 3, 1) :: []) o_X5_tell_16 (by decide +kernel)
theorem fl_5_52 : FLk RX5 52 6 13 0 false := ⟨RX6, TX6, 14, "IntegerHouse$Places", "size", "I", rfl, by decide, rfl, Or.inr ⟨"IntegerHouse", List.mem_of_getElem? (i := 33) rfl⟩, rfl, (fun _ => rfl), (fun h => absurd h (by decide)), (fun h => absurd h (by decide)), (fun h => absurd h (by decide))⟩
theorem ml_5_71 : MLk RX5 71 yX5_giveNumbers := Or.inl (allW_in (kT_7 _ (List.mem_of_getElem? (i := 113) rfl)) rfl)
theorem ml_5_67 : MLk RX5 67 yX5_refine := Or.inl (allW_in (kT_7 _ (List.mem_of_getElem? (i := 93) rfl)) rfl)
theorem ml_5_63 : MLk RX5 63 yX6_acceptedBy := Or.inl (allW_in (kT_7 _ (List.mem_of_getElem? (i := 92) rfl)) rfl)

abbrev cX6_addPlace : ByteArray := prog_8_method_10_code
def yX6_addPlace : MethodName := ⟨RX6, "addPlace", "(I)I"⟩
def M_X6_addPlace : MT := (yX6_addPlace, cX6_addPlace, 4, (some .int), RX6, 1)
theorem mk_X6_addPlace : MokV M_X6_addPlace 6 1 := ⟨⟨⟨by decide, by decide, rfl⟩, (allW_in (kT_6 _ (List.mem_of_getElem? (i := 146) rfl)) rfl), (allW_in (kT_1 _ (List.mem_of_getElem? (i := 11) rfl)) rfl), by decide⟩, ⟨TX6, 14, rfl⟩, (allW_in (kT_6 _ (List.mem_of_getElem? (i := 145) rfl)) rfl), (allW_in (kTs_5 _ (List.mem_of_getElem? (i := 7) rfl)) rfl)⟩
def B_X6_addPlace_63 : Blk := (63, .aload_n 0, 1) :: (64, .dup, 1) :: (65, .getfield 52, 3) :: (68, .iconst 1, 1) :: (69, .iadd, 1) :: (70, .putfield 52, 3) :: (73, .aload_n 0, 1) :: (74, .getfield 41, 3) :: (77, .iload_n 1, 1) :: (78, .sipush 8191, 3) :: (81, .iand, 1) :: (82, .aload_n 0, 1) :: (83, .getfield 52, 3) :: (86, .iastore, 1) :: (87, .aload_n 0, 1) :: (88, .getfield 52, 3) :: (91, .iconst 1, 1) :: (92, .isub, 1) :: (93, .ireturn, 1) :: []
theorem o_X6_addPlace_63 : Chn cX6_addPlace B_X6_addPlace_63 := chn_of _ (by decide +kernel)
def B_X6_addPlace_29 : Blk := (29, .iload_n 3, 1) :: (30, .aload_n 0, 1) :: (31, .getfield 76, 3) :: (34, .if_icmp .ge 29, 3) :: (37, .iload_n 3, 1) :: (38, .bipush 32, 2) :: (40, .if_icmp .ge 23, 3) :: (43, .aload_n 0, 1) :: (44, .getfield 31, 3) :: (47, .iload_n 2, 1) :: (48, .iload_n 3, 1) :: (49, .iadd, 1) :: (50, .aload_n 0, 1) :: (51, .getfield 27, 3) :: (54, .iload_n 3, 1) :: (55, .iaload, 1) :: (56, .iastore, 1) :: (57, .iinc 3 1, 3) :: (60, .goto (-31), 3) :: []
theorem o_X6_addPlace_29 : Chn cX6_addPlace B_X6_addPlace_29 := chn_of _ (by decide +kernel)
def B_X6_addPlace_19 : Blk := (19, .aload_n 0, 1) :: (20, .getfield 52, 3) :: (23, .bipush 32, 2) :: (25, .imul, 1) :: (26, .istore_n 2, 1) :: (27, .iconst 0, 1) :: (28, .istore_n 3, 1) :: B_X6_addPlace_29
theorem o_X6_addPlace_19 : Chn cX6_addPlace B_X6_addPlace_19 := chn_app ((19, .aload_n 0, 1) :: (20, .getfield 52, 3) :: (23, .bipush 32, 2) :: (25, .imul, 1) :: (26, .istore_n 2, 1) :: (27, .iconst 0, 1) :: (28, .istore_n 3, 1) :: []) o_X6_addPlace_29 (by decide +kernel)
def B_X6_addPlace_17 : Blk := (17, .iconst (-1), 1) :: (18, .ireturn, 1) :: []
theorem o_X6_addPlace_17 : Chn cX6_addPlace B_X6_addPlace_17 := chn_of _ (by decide +kernel)
def B_X6_addPlace_0 : Blk := (0, .aload_n 0, 1) :: (1, .getfield 52, 3) :: (4, .ifCond .lt 13, 3) :: (7, .aload_n 0, 1) :: (8, .getfield 52, 3) :: (11, .sipush 3000, 3) :: (14, .if_icmp .lt 5, 3) :: B_X6_addPlace_17
theorem o_X6_addPlace_0 : Chn cX6_addPlace B_X6_addPlace_0 := chn_app ((0, .aload_n 0, 1) :: (1, .getfield 52, 3) :: (4, .ifCond .lt 13, 3) :: (7, .aload_n 0, 1) :: (8, .getfield 52, 3) :: (11, .sipush 3000, 3) :: (14, .if_icmp .lt 5, 3) :: []) o_X6_addPlace_17 (by decide +kernel)
theorem fl_6_52 : FLk RX6 52 6 13 0 false := ⟨RX6, TX6, 14, "IntegerHouse$Places", "size", "I", rfl, by decide, rfl, Or.inl (allW_in (kT_2 _ (List.mem_of_getElem? (i := 117) rfl)) rfl), rfl, (fun _ => rfl), (fun h => absurd h (by decide)), (fun h => absurd h (by decide)), (fun h => absurd h (by decide))⟩
theorem fl_6_41 : FLk RX6 41 6 9 3 true := ⟨RX6, TX6, 14, "IntegerHouse$Places", "table", "[I", rfl, by decide, rfl, Or.inl (allW_in (kT_2 _ (List.mem_of_getElem? (i := 111) rfl)) rfl), rfl, (fun h => absurd h (by decide)), (fun h => absurd h (by decide)), (fun h => absurd h (by decide)), (fun h => absurd h (by decide))⟩
theorem fl_6_31 : FLk RX6 31 6 6 3 true := ⟨RX6, TX6, 14, "IntegerHouse$Places", "stands", "[I", rfl, by decide, rfl, Or.inl (allW_in (kT_2 _ (List.mem_of_getElem? (i := 108) rfl)) rfl), rfl, (fun h => absurd h (by decide)), (fun h => absurd h (by decide)), (fun h => absurd h (by decide)), (fun h => absurd h (by decide))⟩
theorem fl_6_27 : FLk RX6 27 6 5 3 true := ⟨RX6, TX6, 14, "IntegerHouse$Places", "fresh", "[I", rfl, by decide, rfl, Or.inl (allW_in (kT_2 _ (List.mem_of_getElem? (i := 107) rfl)) rfl), rfl, (fun h => absurd h (by decide)), (fun h => absurd h (by decide)), (fun h => absurd h (by decide)), (fun h => absurd h (by decide))⟩
abbrev cX6_isFresh : ByteArray := prog_8_method_9_code
def yX6_isFresh : MethodName := ⟨RX6, "isFresh", "(I)Z"⟩
def M_X6_isFresh : MT := (yX6_isFresh, cX6_isFresh, 4, (some .boolean), RX6, 1)
theorem mk_X6_isFresh : MokV M_X6_isFresh 6 1 := ⟨⟨⟨by decide, by decide, rfl⟩, (allW_in (kT_6 _ (List.mem_of_getElem? (i := 150) rfl)) rfl), (allW_in (kT_1 _ (List.mem_of_getElem? (i := 11) rfl)) rfl), by decide⟩, ⟨TX6, 14, rfl⟩, (allW_in (kT_6 _ (List.mem_of_getElem? (i := 149) rfl)) rfl), (allW_in (kTs_5 _ (List.mem_of_getElem? (i := 8) rfl)) rfl)⟩
def B_X6_isFresh_52 : Blk := (52, .iconst 1, 1) :: (53, .ireturn, 1) :: []
theorem o_X6_isFresh_52 : Chn cX6_isFresh B_X6_isFresh_52 := chn_of _ (by decide +kernel)
def B_X6_isFresh_46 : Blk := (46, .iinc 3 1, 3) :: (49, .goto (-36), 3) :: []
theorem o_X6_isFresh_46 : Chn cX6_isFresh B_X6_isFresh_46 := chn_of _ (by decide +kernel)
def B_X6_isFresh_13 : Blk := (13, .iload_n 3, 1) :: (14, .aload_n 0, 1) :: (15, .getfield 76, 3) :: (18, .if_icmp .ge 34, 3) :: (21, .iload_n 3, 1) :: (22, .bipush 32, 2) :: (24, .if_icmp .ge 28, 3) :: (27, .aload_n 0, 1) :: (28, .getfield 31, 3) :: (31, .iload_n 2, 1) :: (32, .iload_n 3, 1) :: (33, .iadd, 1) :: (34, .iaload, 1) :: (35, .aload_n 0, 1) :: (36, .getfield 27, 3) :: (39, .iload_n 3, 1) :: (40, .iaload, 1) :: (41, .if_icmp .eq 5, 3) :: (44, .iconst 0, 1) :: (45, .ireturn, 1) :: []
theorem o_X6_isFresh_13 : Chn cX6_isFresh B_X6_isFresh_13 := chn_of _ (by decide +kernel)
def B_X6_isFresh_0 : Blk := (0, .iload_n 1, 1) :: (1, .sipush 2999, 3) :: (4, .invokestatic 96, 3) :: (7, .bipush 32, 2) :: (9, .imul, 1) :: (10, .istore_n 2, 1) :: (11, .iconst 0, 1) :: (12, .istore_n 3, 1) :: B_X6_isFresh_13
theorem o_X6_isFresh_0 : Chn cX6_isFresh B_X6_isFresh_0 := chn_app ((0, .iload_n 1, 1) :: (1, .sipush 2999, 3) :: (4, .invokestatic 96, 3) :: (7, .bipush 32, 2) :: (9, .imul, 1) :: (10, .istore_n 2, 1) :: (11, .iconst 0, 1) :: (12, .istore_n 3, 1) :: []) o_X6_isFresh_13 (by decide +kernel)
abbrev cX6_locate : ByteArray := prog_8_method_8_code
def yX6_locate : MethodName := ⟨RX6, "locate", "()I"⟩
def M_X6_locate : MT := (yX6_locate, cX6_locate, 5, (some .int), RX6, 1)
theorem mk_X6_locate : MokV M_X6_locate 6 0 := ⟨⟨⟨by decide, by decide, rfl⟩, (allW_in (kT_6 _ (List.mem_of_getElem? (i := 141) rfl)) rfl), (allW_in (kT_1 _ (List.mem_of_getElem? (i := 11) rfl)) rfl), by decide⟩, ⟨TX6, 14, rfl⟩, (allW_in (kT_6 _ (List.mem_of_getElem? (i := 140) rfl)) rfl), (allW_in (kTs_5 _ (List.mem_of_getElem? (i := 6) rfl)) rfl)⟩
def B_X6_locate_114 : Blk := (114, .iconst (-1), 1) :: (115, .ireturn, 1) :: []
theorem o_X6_locate_114 : Chn cX6_locate B_X6_locate_114 := chn_of _ (by decide +kernel)
def B_X6_locate_100 : Blk := (100, .iload_n 2, 1) :: (101, .iconst 1, 1) :: (102, .iadd, 1) :: (103, .sipush 8191, 3) :: (106, .iand, 1) :: (107, .istore_n 2, 1) :: (108, .iinc 3 1, 3) :: (111, .goto (-51), 3) :: []
theorem o_X6_locate_100 : Chn cX6_locate B_X6_locate_100 := chn_of _ (by decide +kernel)
def B_X6_locate_88 : Blk := (88, .aload_n 0, 1) :: (89, .iload 4, 2) :: (91, .invokevirtual 120, 3) :: (94, .ifCond .eq 6, 3) :: (97, .iload 4, 2) :: (99, .ireturn, 1) :: []
theorem o_X6_locate_88 : Chn cX6_locate B_X6_locate_88 := chn_of _ (by decide +kernel)
def B_X6_locate_60 : Blk := (60, .iload_n 3, 1) :: (61, .sipush 8192, 3) :: (64, .if_icmp .ge 50, 3) :: (67, .aload_n 0, 1) :: (68, .getfield 41, 3) :: (71, .iload_n 2, 1) :: (72, .iaload, 1) :: (73, .iconst 1, 1) :: (74, .isub, 1) :: (75, .istore 4, 2) :: (77, .iload 4, 2) :: (79, .ifCond .ge 9, 3) :: (82, .aload_n 0, 1) :: (83, .iload_n 2, 1) :: (84, .invokevirtual 117, 3) :: (87, .ireturn, 1) :: []
theorem o_X6_locate_60 : Chn cX6_locate B_X6_locate_60 := chn_of _ (by decide +kernel)
def B_X6_locate_37 : Blk := (37, .iload_n 1, 1) :: (38, .iload_n 1, 1) :: (39, .bipush 15, 2) :: (41, .iushr, 1) :: (42, .ixor, 1) :: (43, .ldc 116, 2) :: (45, .imul, 1) :: (46, .istore_n 1, 1) :: (47, .iload_n 1, 1) :: (48, .iload_n 1, 1) :: (49, .bipush 13, 2) :: (51, .iushr, 1) :: (52, .ixor, 1) :: (53, .sipush 8191, 3) :: (56, .iand, 1) :: (57, .istore_n 2, 1) :: (58, .iconst 0, 1) :: (59, .istore_n 3, 1) :: B_X6_locate_60
theorem o_X6_locate_37 : Chn cX6_locate B_X6_locate_37 := chn_app ((37, .iload_n 1, 1) :: (38, .iload_n 1, 1) :: (39, .bipush 15, 2) :: (41, .iushr, 1) :: (42, .ixor, 1) :: (43, .ldc 116, 2) :: (45, .imul, 1) :: (46, .istore_n 1, 1) :: (47, .iload_n 1, 1) :: (48, .iload_n 1, 1) :: (49, .bipush 13, 2) :: (51, .iushr, 1) :: (52, .ixor, 1) :: (53, .sipush 8191, 3) :: (56, .iand, 1) :: (57, .istore_n 2, 1) :: (58, .iconst 0, 1) :: (59, .istore_n 3, 1) :: []) o_X6_locate_60 (by decide +kernel)
def B_X6_locate_5 : Blk := (5, .iload_n 2, 1) :: (6, .aload_n 0, 1) :: (7, .getfield 76, 3) :: (10, .if_icmp .ge 27, 3) :: (13, .iload_n 2, 1) :: (14, .bipush 32, 2) :: (16, .if_icmp .ge 21, 3) :: (19, .iload_n 1, 1) :: (20, .bipush 31, 2) :: (22, .imul, 1) :: (23, .aload_n 0, 1) :: (24, .getfield 27, 3) :: (27, .iload_n 2, 1) :: (28, .iaload, 1) :: (29, .iadd, 1) :: (30, .istore_n 1, 1) :: (31, .iinc 2 1, 3) :: (34, .goto (-29), 3) :: []
theorem o_X6_locate_5 : Chn cX6_locate B_X6_locate_5 := chn_of _ (by decide +kernel)
def B_X6_locate_0 : Blk := (0, .bipush 7, 2) :: (2, .istore_n 1, 1) :: (3, .iconst 0, 1) :: (4, .istore_n 2, 1) :: B_X6_locate_5
theorem o_X6_locate_0 : Chn cX6_locate B_X6_locate_0 := chn_app ((0, .bipush 7, 2) :: (2, .istore_n 1, 1) :: (3, .iconst 0, 1) :: (4, .istore_n 2, 1) :: []) o_X6_locate_5 (by decide +kernel)
theorem ml_6_120 : MLk RX6 120 yX6_isFresh := Or.inl (allW_in (kT_6 _ (List.mem_of_getElem? (i := 147) rfl)) rfl)
theorem ml_6_117 : MLk RX6 117 yX6_addPlace := Or.inl (allW_in (kT_6 _ (List.mem_of_getElem? (i := 143) rfl)) rfl)
abbrev cX6_halved : ByteArray := prog_8_method_7_code
def yX6_halved : MethodName := ⟨RX6, "halved", "(II)I"⟩
def M_X6_halved : MT := (yX6_halved, cX6_halved, 5, (some .int), RX6, 1)
theorem mk_X6_halved : MokS M_X6_halved 2 := ⟨⟨⟨by decide, by decide, rfl⟩, (allW_in (kT_6 _ (List.mem_of_getElem? (i := 157) rfl)) rfl), (allW_in (kT_1 _ (List.mem_of_getElem? (i := 11) rfl)) rfl), by decide⟩, (allW_in (kT_6 _ (List.mem_of_getElem? (i := 156) rfl)) rfl)⟩
def B_X6_halved_94 : Blk := (94, .ireturn, 1) :: []
theorem o_X6_halved_94 : Chn cX6_halved B_X6_halved_94 := chn_of _ (by decide +kernel)
def B_X6_halved_83 : Blk := (83, .iload 4, 2) :: (85, .iconst 4, 1) :: (86, .ishl, 1) :: (87, .iload_n 3, 1) :: (88, .iconst 2, 1) :: (89, .idiv, 1) :: (90, .iload 4, 2) :: (92, .irem, 1) :: (93, .ior, 1) :: B_X6_halved_94
theorem o_X6_halved_83 : Chn cX6_halved B_X6_halved_83 := chn_app ((83, .iload 4, 2) :: (85, .iconst 4, 1) :: (86, .ishl, 1) :: (87, .iload_n 3, 1) :: (88, .iconst 2, 1) :: (89, .idiv, 1) :: (90, .iload 4, 2) :: (92, .irem, 1) :: (93, .ior, 1) :: []) o_X6_halved_94 (by decide +kernel)
def B_X6_halved_63 : Blk := (63, .iconst 1, 1) :: (64, .iload_n 2, 1) :: (65, .iconst 2, 1) :: (66, .idiv, 1) :: (67, .invokestatic 101, 3) :: (70, .istore 4, 2) :: (72, .iload 4, 2) :: (74, .iconst 1, 1) :: (75, .if_icmp .ne 8, 3) :: (78, .bipush (-2), 2) :: (80, .goto 14, 3) :: []
theorem o_X6_halved_63 : Chn cX6_halved B_X6_halved_63 := chn_of _ (by decide +kernel)
def B_X6_halved_54 : Blk := (54, .iload_n 3, 1) :: (55, .iconst 2, 1) :: (56, .irem, 1) :: (57, .iconst 1, 1) :: (58, .if_icmp .ne 5, 3) :: (61, .iconst (-1), 1) :: (62, .ireturn, 1) :: []
theorem o_X6_halved_54 : Chn cX6_halved B_X6_halved_54 := chn_of _ (by decide +kernel)
def B_X6_halved_41 : Blk := (41, .istore 4, 2) :: (43, .iload_n 2, 1) :: (44, .iconst 4, 1) :: (45, .ishl, 1) :: (46, .iload 4, 2) :: (48, .iconst 2, 1) :: (49, .idiv, 1) :: (50, .iload_n 2, 1) :: (51, .irem, 1) :: (52, .ior, 1) :: (53, .ireturn, 1) :: []
theorem o_X6_halved_41 : Chn cX6_halved B_X6_halved_41 := chn_of _ (by decide +kernel)
def B_X6_halved_38 : Blk := (38, .iload_n 3, 1) :: (39, .iload_n 2, 1) :: (40, .iadd, 1) :: B_X6_halved_41
theorem o_X6_halved_38 : Chn cX6_halved B_X6_halved_38 := chn_app ((38, .iload_n 3, 1) :: (39, .iload_n 2, 1) :: (40, .iadd, 1) :: []) o_X6_halved_41 (by decide +kernel)
def B_X6_halved_6 : Blk := (6, .iconst 1, 1) :: (7, .iload_n 0, 1) :: (8, .iconst 4, 1) :: (9, .ishr, 1) :: (10, .invokestatic 101, 3) :: (13, .istore_n 2, 1) :: (14, .iload_n 0, 1) :: (15, .bipush 15, 2) :: (17, .iand, 1) :: (18, .iload_n 1, 1) :: (19, .iadd, 1) :: (20, .istore_n 3, 1) :: (21, .iload_n 2, 1) :: (22, .iconst 2, 1) :: (23, .irem, 1) :: (24, .iconst 1, 1) :: (25, .if_icmp .ne 29, 3) :: (28, .iload_n 3, 1) :: (29, .iconst 2, 1) :: (30, .irem, 1) :: (31, .ifCond .ne 7, 3) :: (34, .iload_n 3, 1) :: (35, .goto 6, 3) :: []
theorem o_X6_halved_6 : Chn cX6_halved B_X6_halved_6 := chn_of _ (by decide +kernel)
def B_X6_halved_0 : Blk := (0, .iload_n 0, 1) :: (1, .ifCond .ge 5, 3) :: (4, .iload_n 0, 1) :: (5, .ireturn, 1) :: []
theorem o_X6_halved_0 : Chn cX6_halved B_X6_halved_0 := chn_of _ (by decide +kernel)
abbrev cX6_halve : ByteArray := prog_8_method_6_code
def yX6_halve : MethodName := ⟨RX6, "halve", "(II)V"⟩
def M_X6_halve : MT := (yX6_halve, cX6_halve, 7, none, RX6, 0)
theorem mk_X6_halve : MokV M_X6_halve 6 2 := ⟨⟨⟨by decide, by decide, rfl⟩, (allW_in (kT_6 _ (List.mem_of_getElem? (i := 154) rfl)) rfl), (allW_in (kT_1 _ (List.mem_of_getElem? (i := 11) rfl)) rfl), by decide⟩, ⟨TX6, 14, rfl⟩, (allW_in (kT_6 _ (List.mem_of_getElem? (i := 153) rfl)) rfl), (allW_in (kTs_5 _ (List.mem_of_getElem? (i := 9) rfl)) rfl)⟩
def B_X6_halve_97 : Blk := (97, .return_, 1) :: []
theorem o_X6_halve_97 : Chn cX6_halve B_X6_halve_97 := chn_of _ (by decide +kernel)
def B_X6_halve_90 : Blk := (90, .iastore, 1) :: (91, .iinc 5 1, 3) :: (94, .goto (-80), 3) :: []
theorem o_X6_halve_90 : Chn cX6_halve B_X6_halve_90 := chn_of _ (by decide +kernel)
def B_X6_halve_75 : Blk := (75, .iload 6, 2) :: (77, .aload_n 0, 1) :: (78, .getfield 24, 3) :: (81, .iload 4, 2) :: (83, .iload 5, 2) :: (85, .iadd, 1) :: (86, .iaload, 1) :: (87, .invokestatic 113, 3) :: B_X6_halve_90
theorem o_X6_halve_75 : Chn cX6_halve B_X6_halve_75 := chn_app ((75, .iload 6, 2) :: (77, .aload_n 0, 1) :: (78, .getfield 24, 3) :: (81, .iload 4, 2) :: (83, .iload 5, 2) :: (85, .iadd, 1) :: (86, .iaload, 1) :: (87, .invokestatic 113, 3) :: []) o_X6_halve_90 (by decide +kernel)
def B_X6_halve_14 : Blk := (14, .iload 5, 2) :: (16, .aload_n 0, 1) :: (17, .getfield 76, 3) :: (20, .if_icmp .ge 77, 3) :: (23, .iload 5, 2) :: (25, .bipush 32, 2) :: (27, .if_icmp .ge 70, 3) :: (30, .aload_n 0, 1) :: (31, .getfield 31, 3) :: (34, .iload_n 3, 1) :: (35, .iload 5, 2) :: (37, .iadd, 1) :: (38, .iaload, 1) :: (39, .istore 6, 2) :: (41, .aload_n 0, 1) :: (42, .getfield 27, 3) :: (45, .iload 5, 2) :: (47, .aload_n 0, 1) :: (48, .getfield 20, 3) :: (51, .iload 5, 2) :: (53, .baload, 1) :: (54, .ifCond .eq 21, 3) :: (57, .iload 6, 2) :: (59, .aload_n 0, 1) :: (60, .getfield 24, 3) :: (63, .iload 4, 2) :: (65, .iload 5, 2) :: (67, .iadd, 1) :: (68, .iaload, 1) :: (69, .isub, 1) :: (70, .iconst 1, 1) :: (71, .ishr, 1) :: (72, .goto 18, 3) :: []
theorem o_X6_halve_14 : Chn cX6_halve B_X6_halve_14 := chn_of _ (by decide +kernel)
def B_X6_halve_0 : Blk := (0, .iload_n 1, 1) :: (1, .bipush 32, 2) :: (3, .imul, 1) :: (4, .istore_n 3, 1) :: (5, .iload_n 2, 1) :: (6, .bipush 32, 2) :: (8, .imul, 1) :: (9, .istore 4, 2) :: (11, .iconst 0, 1) :: (12, .istore 5, 2) :: B_X6_halve_14
theorem o_X6_halve_0 : Chn cX6_halve B_X6_halve_0 := chn_app ((0, .iload_n 1, 1) :: (1, .bipush 32, 2) :: (3, .imul, 1) :: (4, .istore_n 3, 1) :: (5, .iload_n 2, 1) :: (6, .bipush 32, 2) :: (8, .imul, 1) :: (9, .istore 4, 2) :: (11, .iconst 0, 1) :: (12, .istore 5, 2) :: []) o_X6_halve_14 (by decide +kernel)
theorem ml_6_113 : MLk RX6 113 yX6_halved := Or.inl (allW_in (kT_6 _ (List.mem_of_getElem? (i := 155) rfl)) rfl)
abbrev cX6_explore : ByteArray := prog_8_method_3_code
def yX6_explore : MethodName := ⟨RX6, "explore", "(I)Z"⟩
def M_X6_explore : MT := (yX6_explore, cX6_explore, 5, (some .boolean), RX6, 1)
theorem mk_X6_explore : MokV M_X6_explore 6 1 := ⟨⟨⟨by decide, by decide, rfl⟩, (allW_in (kT_6 _ (List.mem_of_getElem? (i := 134) rfl)) rfl), (allW_in (kT_1 _ (List.mem_of_getElem? (i := 11) rfl)) rfl), by decide⟩, ⟨TX6, 14, rfl⟩, (allW_in (kT_6 _ (List.mem_of_getElem? (i := 132) rfl)) rfl), (allW_in (kT_6 _ (List.mem_of_getElem? (i := 133) rfl)) rfl)⟩
def B_X6_explore_185 : Blk := (185, .iconst 1, 1) :: (186, .ireturn, 1) :: []
theorem o_X6_explore_185 : Chn cX6_explore B_X6_explore_185 := chn_of _ (by decide +kernel)
def B_X6_explore_179 : Blk := (179, .iinc 2 1, 3) :: (182, .goto (-73), 3) :: []
theorem o_X6_explore_179 : Chn cX6_explore B_X6_explore_179 := chn_of _ (by decide +kernel)
def B_X6_explore_160 : Blk := (160, .aload_n 0, 1) :: (161, .getfield 35, 3) :: (164, .iload_n 2, 1) :: (165, .bipush 16, 2) :: (167, .imul, 1) :: (168, .iload_n 3, 1) :: (169, .iadd, 1) :: (170, .iload 4, 2) :: (172, .iastore, 1) :: (173, .iinc 3 1, 3) :: (176, .goto (-50), 3) :: []
theorem o_X6_explore_160 : Chn cX6_explore B_X6_explore_160 := chn_of _ (by decide +kernel)
def B_X6_explore_126 : Blk := (126, .iload_n 3, 1) :: (127, .aload_n 0, 1) :: (128, .getfield 56, 3) :: (131, .if_icmp .ge 48, 3) :: (134, .iload_n 3, 1) :: (135, .bipush 16, 2) :: (137, .if_icmp .ge 42, 3) :: (140, .aload_n 0, 1) :: (141, .iload_n 2, 1) :: (142, .iload_n 3, 1) :: (143, .invokevirtual 86, 3) :: (146, .aload_n 0, 1) :: (147, .invokevirtual 82, 3) :: (150, .istore 4, 2) :: (152, .iload 4, 2) :: (154, .iconst (-1), 1) :: (155, .if_icmp .ne 5, 3) :: (158, .iconst 0, 1) :: (159, .ireturn, 1) :: []
theorem o_X6_explore_126 : Chn cX6_explore B_X6_explore_126 := chn_of _ (by decide +kernel)
def B_X6_explore_109 : Blk := (109, .iload_n 2, 1) :: (110, .aload_n 0, 1) :: (111, .getfield 52, 3) :: (114, .if_icmp .ge 71, 3) :: (117, .iload_n 2, 1) :: (118, .sipush 3000, 3) :: (121, .if_icmp .ge 64, 3) :: (124, .iconst 0, 1) :: (125, .istore_n 3, 1) :: B_X6_explore_126
theorem o_X6_explore_109 : Chn cX6_explore B_X6_explore_109 := chn_app ((109, .iload_n 2, 1) :: (110, .aload_n 0, 1) :: (111, .getfield 52, 3) :: (114, .if_icmp .ge 71, 3) :: (117, .iload_n 2, 1) :: (118, .sipush 3000, 3) :: (121, .if_icmp .ge 64, 3) :: (124, .iconst 0, 1) :: (125, .istore_n 3, 1) :: []) o_X6_explore_126 (by decide +kernel)
def B_X6_explore_102 : Blk := (102, .aload_n 0, 1) :: (103, .invokevirtual 82, 3) :: (106, .pop, 1) :: (107, .iconst 0, 1) :: (108, .istore_n 2, 1) :: B_X6_explore_109
theorem o_X6_explore_102 : Chn cX6_explore B_X6_explore_102 := chn_app ((102, .aload_n 0, 1) :: (103, .invokevirtual 82, 3) :: (106, .pop, 1) :: (107, .iconst 0, 1) :: (108, .istore_n 2, 1) :: []) o_X6_explore_109 (by decide +kernel)
def B_X6_explore_95 : Blk := (95, .iastore, 1) :: (96, .iinc 2 1, 3) :: (99, .goto (-74), 3) :: []
theorem o_X6_explore_95 : Chn cX6_explore B_X6_explore_95 := chn_of _ (by decide +kernel)
def B_X6_explore_89 : Blk := (89, .iload_n 3, 1) :: (90, .iconst 4, 1) :: (91, .ishl, 1) :: (92, .iload 4, 2) :: (94, .ior, 1) :: B_X6_explore_95
theorem o_X6_explore_89 : Chn cX6_explore B_X6_explore_89 := chn_app ((89, .iload_n 3, 1) :: (90, .iconst 4, 1) :: (91, .ishl, 1) :: (92, .iload 4, 2) :: (94, .ior, 1) :: []) o_X6_explore_95 (by decide +kernel)
def B_X6_explore_25 : Blk := (25, .iload_n 2, 1) :: (26, .aload_n 0, 1) :: (27, .getfield 76, 3) :: (30, .if_icmp .ge 72, 3) :: (33, .iload_n 2, 1) :: (34, .bipush 32, 2) :: (36, .if_icmp .ge 66, 3) :: (39, .aload_n 0, 1) :: (40, .getfield 44, 3) :: (43, .aload_n 0, 1) :: (44, .getfield 11, 3) :: (47, .iload_n 2, 1) :: (48, .iaload, 1) :: (49, .iconst 5, 1) :: (50, .invokevirtual 79, 3) :: (53, .istore_n 3, 1) :: (54, .aload_n 0, 1) :: (55, .getfield 44, 3) :: (58, .aload_n 0, 1) :: (59, .getfield 11, 3) :: (62, .iload_n 2, 1) :: (63, .iaload, 1) :: (64, .iconst 4, 1) :: (65, .invokevirtual 79, 3) :: (68, .istore 4, 2) :: (70, .aload_n 0, 1) :: (71, .getfield 27, 3) :: (74, .iload_n 2, 1) :: (75, .aload_n 0, 1) :: (76, .getfield 20, 3) :: (79, .iload_n 2, 1) :: (80, .baload, 1) :: (81, .ifCond .eq 8, 3) :: (84, .iload 4, 2) :: (86, .goto 9, 3) :: []
theorem o_X6_explore_25 : Chn cX6_explore B_X6_explore_25 := chn_of _ (by decide +kernel)
def B_X6_explore_10 : Blk := (10, .aload_n 0, 1) :: (11, .getfield 41, 3) :: (14, .iconst 0, 1) :: (15, .invokestatic 70, 3) :: (18, .aload_n 0, 1) :: (19, .iconst 0, 1) :: (20, .putfield 52, 3) :: (23, .iconst 0, 1) :: (24, .istore_n 2, 1) :: B_X6_explore_25
theorem o_X6_explore_10 : Chn cX6_explore B_X6_explore_10 := chn_app ((10, .aload_n 0, 1) :: (11, .getfield 41, 3) :: (14, .iconst 0, 1) :: (15, .invokestatic 70, 3) :: (18, .aload_n 0, 1) :: (19, .iconst 0, 1) :: (20, .putfield 52, 3) :: (23, .iconst 0, 1) :: (24, .istore_n 2, 1) :: []) o_X6_explore_25 (by decide +kernel)
def B_X6_explore_0 : Blk := (0, .aload_n 0, 1) :: (1, .iload_n 1, 1) :: (2, .invokevirtual 67, 3) :: (5, .ifCond .ne 5, 3) :: (8, .iconst 0, 1) :: (9, .ireturn, 1) :: []
theorem o_X6_explore_0 : Chn cX6_explore B_X6_explore_0 := chn_of _ (by decide +kernel)
theorem ml_6_70 : MLk RX6 70 yJ7_fill_53178 := Or.inl (allW_in (kT_6 _ (List.mem_of_getElem? (i := 135) rfl)) rfl)
theorem ml_6_82 : MLk RX6 82 yX6_locate := Or.inl (allW_in (kT_6 _ (List.mem_of_getElem? (i := 138) rfl)) rfl)
theorem ml_6_86 : MLk RX6 86 yX6_halve := Or.inl (allW_in (kT_6 _ (List.mem_of_getElem? (i := 151) rfl)) rfl)
abbrev cX6_atomsAt : ByteArray := prog_8_method_14_code
def yX6_atomsAt : MethodName := ⟨RX6, "atomsAt", "(II)I"⟩
def M_X6_atomsAt : MT := (yX6_atomsAt, cX6_atomsAt, 10, (some .int), RX6, 1)
theorem mk_X6_atomsAt : MokV M_X6_atomsAt 6 2 := ⟨⟨⟨by decide, by decide, rfl⟩, (allW_in (kT_6 _ (List.mem_of_getElem? (i := 161) rfl)) rfl), (allW_in (kT_1 _ (List.mem_of_getElem? (i := 11) rfl)) rfl), by decide⟩, ⟨TX6, 14, rfl⟩, (allW_in (kT_6 _ (List.mem_of_getElem? (i := 160) rfl)) rfl), (allW_in (kTs_5 _ (List.mem_of_getElem? (i := 10) rfl)) rfl)⟩
def B_X6_atomsAt_149 : Blk := (149, .iload_n 3, 1) :: (150, .ireturn, 1) :: []
theorem o_X6_atomsAt_149 : Chn cX6_atomsAt B_X6_atomsAt_149 := chn_of _ (by decide +kernel)
def B_X6_atomsAt_141 : Blk := (141, .ior, 1) :: (142, .istore_n 3, 1) :: (143, .iinc 5 1, 3) :: (146, .goto (-129), 3) :: []
theorem o_X6_atomsAt_141 : Chn cX6_atomsAt B_X6_atomsAt_141 := chn_of _ (by decide +kernel)
def B_X6_atomsAt_140 : Blk := (140, .iconst 0, 1) :: B_X6_atomsAt_141
theorem o_X6_atomsAt_140 : Chn cX6_atomsAt B_X6_atomsAt_140 := chn_app ((140, .iconst 0, 1) :: []) o_X6_atomsAt_141 (by decide +kernel)
def B_X6_atomsAt_127 : Blk := (127, .iload_n 3, 1) :: (128, .iload 8, 2) :: (130, .ifCond .eq 10, 3) :: (133, .iconst 1, 1) :: (134, .iload 5, 2) :: (136, .ishl, 1) :: (137, .goto 4, 3) :: []
theorem o_X6_atomsAt_127 : Chn cX6_atomsAt B_X6_atomsAt_127 := chn_of _ (by decide +kernel)
def B_X6_atomsAt_125 : Blk := (125, .istore 8, 2) :: B_X6_atomsAt_127
theorem o_X6_atomsAt_125 : Chn cX6_atomsAt B_X6_atomsAt_125 := chn_app ((125, .istore 8, 2) :: []) o_X6_atomsAt_127 (by decide +kernel)
def B_X6_atomsAt_124 : Blk := (124, .iconst 0, 1) :: B_X6_atomsAt_125
theorem o_X6_atomsAt_124 : Chn cX6_atomsAt B_X6_atomsAt_124 := chn_app ((124, .iconst 0, 1) :: []) o_X6_atomsAt_125 (by decide +kernel)
def B_X6_atomsAt_120 : Blk := (120, .iconst 1, 1) :: (121, .goto 4, 3) :: []
theorem o_X6_atomsAt_120 : Chn cX6_atomsAt B_X6_atomsAt_120 := chn_of _ (by decide +kernel)
def B_X6_atomsAt_72 : Blk := (72, .istore 8, 2) :: (74, .aload_n 0, 1) :: (75, .getfield 20, 3) :: (78, .iload 5, 2) :: (80, .baload, 1) :: (81, .ifCond .ne 46, 3) :: (84, .iconst 1, 1) :: (85, .iload 6, 2) :: (87, .iconst 4, 1) :: (88, .ishr, 1) :: (89, .invokestatic 101, 3) :: (92, .istore 9, 2) :: (94, .iload 6, 2) :: (96, .bipush (-2), 2) :: (98, .if_icmp .eq 22, 3) :: (101, .iload 6, 2) :: (103, .ifCond .lt 21, 3) :: (106, .iload 6, 2) :: (108, .bipush 15, 2) :: (110, .iand, 1) :: (111, .iload 7, 2) :: (113, .isub, 1) :: (114, .iload 9, 2) :: (116, .irem, 1) :: (117, .ifCond .ne 7, 3) :: B_X6_atomsAt_120
theorem o_X6_atomsAt_72 : Chn cX6_atomsAt B_X6_atomsAt_72 := chn_app ((72, .istore 8, 2) :: (74, .aload_n 0, 1) :: (75, .getfield 20, 3) :: (78, .iload 5, 2) :: (80, .baload, 1) :: (81, .ifCond .ne 46, 3) :: (84, .iconst 1, 1) :: (85, .iload 6, 2) :: (87, .iconst 4, 1) :: (88, .ishr, 1) :: (89, .invokestatic 101, 3) :: (92, .istore 9, 2) :: (94, .iload 6, 2) :: (96, .bipush (-2), 2) :: (98, .if_icmp .eq 22, 3) :: (101, .iload 6, 2) :: (103, .ifCond .lt 21, 3) :: (106, .iload 6, 2) :: (108, .bipush 15, 2) :: (110, .iand, 1) :: (111, .iload 7, 2) :: (113, .isub, 1) :: (114, .iload 9, 2) :: (116, .irem, 1) :: (117, .ifCond .ne 7, 3) :: []) o_X6_atomsAt_120 (by decide +kernel)
def B_X6_atomsAt_71 : Blk := (71, .iconst 0, 1) :: B_X6_atomsAt_72
theorem o_X6_atomsAt_71 : Chn cX6_atomsAt B_X6_atomsAt_71 := chn_app ((71, .iconst 0, 1) :: []) o_X6_atomsAt_72 (by decide +kernel)
def B_X6_atomsAt_17 : Blk := (17, .iload 5, 2) :: (19, .aload_n 0, 1) :: (20, .getfield 76, 3) :: (23, .if_icmp .ge 126, 3) :: (26, .iload 5, 2) :: (28, .bipush 32, 2) :: (30, .if_icmp .ge 119, 3) :: (33, .aload_n 0, 1) :: (34, .getfield 31, 3) :: (37, .iload 4, 2) :: (39, .iload 5, 2) :: (41, .iadd, 1) :: (42, .iaload, 1) :: (43, .istore 6, 2) :: (45, .aload_n 0, 1) :: (46, .getfield 24, 3) :: (49, .iload_n 2, 1) :: (50, .bipush 32, 2) :: (52, .imul, 1) :: (53, .iload 5, 2) :: (55, .iadd, 1) :: (56, .iaload, 1) :: (57, .istore 7, 2) :: (59, .iload 6, 2) :: (61, .iload 7, 2) :: (63, .iadd, 1) :: (64, .ifCond .lt 7, 3) :: (67, .iconst 1, 1) :: (68, .goto 4, 3) :: []
theorem o_X6_atomsAt_17 : Chn cX6_atomsAt B_X6_atomsAt_17 := chn_of _ (by decide +kernel)
def B_X6_atomsAt_0 : Blk := (0, .iconst 0, 1) :: (1, .istore_n 3, 1) :: (2, .iload_n 1, 1) :: (3, .sipush 2999, 3) :: (6, .invokestatic 96, 3) :: (9, .bipush 32, 2) :: (11, .imul, 1) :: (12, .istore 4, 2) :: (14, .iconst 0, 1) :: (15, .istore 5, 2) :: B_X6_atomsAt_17
theorem o_X6_atomsAt_0 : Chn cX6_atomsAt B_X6_atomsAt_0 := chn_app ((0, .iconst 0, 1) :: (1, .istore_n 3, 1) :: (2, .iload_n 1, 1) :: (3, .sipush 2999, 3) :: (6, .invokestatic 96, 3) :: (9, .bipush 32, 2) :: (11, .imul, 1) :: (12, .istore 4, 2) :: (14, .iconst 0, 1) :: (15, .istore 5, 2) :: []) o_X6_atomsAt_17 (by decide +kernel)
abbrev cX6_judge : ByteArray := prog_8_method_2_code
def yX6_judge : MethodName := ⟨RX6, "judge", "(I)Z"⟩
def M_X6_judge : MT := (yX6_judge, cX6_judge, 4, (some .boolean), RX6, 1)
theorem mk_X6_judge : MokV M_X6_judge 6 1 := ⟨⟨⟨by decide, by decide, rfl⟩, (allW_in (kT_6 _ (List.mem_of_getElem? (i := 130) rfl)) rfl), (allW_in (kT_1 _ (List.mem_of_getElem? (i := 11) rfl)) rfl), by decide⟩, ⟨TX6, 14, rfl⟩, (allW_in (kT_6 _ (List.mem_of_getElem? (i := 128) rfl)) rfl), (allW_in (kT_6 _ (List.mem_of_getElem? (i := 129) rfl)) rfl)⟩
def B_X6_judge_76 : Blk := (76, .iconst 1, 1) :: (77, .ireturn, 1) :: []
theorem o_X6_judge_76 : Chn cX6_judge B_X6_judge_76 := chn_of _ (by decide +kernel)
def B_X6_judge_70 : Blk := (70, .iinc 2 1, 3) :: (73, .goto (-61), 3) :: []
theorem o_X6_judge_70 : Chn cX6_judge B_X6_judge_70 := chn_of _ (by decide +kernel)
def B_X6_judge_29 : Blk := (29, .iload_n 3, 1) :: (30, .aload_n 0, 1) :: (31, .getfield 56, 3) :: (34, .if_icmp .ge 36, 3) :: (37, .iload_n 3, 1) :: (38, .bipush 16, 2) :: (40, .if_icmp .ge 30, 3) :: (43, .aload_n 0, 1) :: (44, .getfield 38, 3) :: (47, .iload_n 2, 1) :: (48, .bipush 16, 2) :: (50, .imul, 1) :: (51, .iload_n 3, 1) :: (52, .iadd, 1) :: (53, .aload_n 0, 1) :: (54, .aload_n 0, 1) :: (55, .iload_n 2, 1) :: (56, .iload_n 3, 1) :: (57, .invokevirtual 59, 3) :: (60, .invokevirtual 63, 3) :: (63, .iastore, 1) :: (64, .iinc 3 1, 3) :: (67, .goto (-38), 3) :: []
theorem o_X6_judge_29 : Chn cX6_judge B_X6_judge_29 := chn_of _ (by decide +kernel)
def B_X6_judge_12 : Blk := (12, .iload_n 2, 1) :: (13, .aload_n 0, 1) :: (14, .getfield 52, 3) :: (17, .if_icmp .ge 59, 3) :: (20, .iload_n 2, 1) :: (21, .sipush 3000, 3) :: (24, .if_icmp .ge 52, 3) :: (27, .iconst 0, 1) :: (28, .istore_n 3, 1) :: B_X6_judge_29
theorem o_X6_judge_12 : Chn cX6_judge B_X6_judge_12 := chn_app ((12, .iload_n 2, 1) :: (13, .aload_n 0, 1) :: (14, .getfield 52, 3) :: (17, .if_icmp .ge 59, 3) :: (20, .iload_n 2, 1) :: (21, .sipush 3000, 3) :: (24, .if_icmp .ge 52, 3) :: (27, .iconst 0, 1) :: (28, .istore_n 3, 1) :: []) o_X6_judge_29 (by decide +kernel)
def B_X6_judge_10 : Blk := (10, .iconst 0, 1) :: (11, .istore_n 2, 1) :: B_X6_judge_12
theorem o_X6_judge_10 : Chn cX6_judge B_X6_judge_10 := chn_app ((10, .iconst 0, 1) :: (11, .istore_n 2, 1) :: []) o_X6_judge_12 (by decide +kernel)
def B_X6_judge_0 : Blk := (0, .aload_n 0, 1) :: (1, .iload_n 1, 1) :: (2, .invokevirtual 48, 3) :: (5, .ifCond .ne 5, 3) :: (8, .iconst 0, 1) :: (9, .ireturn, 1) :: []
theorem o_X6_judge_0 : Chn cX6_judge B_X6_judge_0 := chn_of _ (by decide +kernel)
theorem ml_6_48 : MLk RX6 48 yX6_explore := Or.inl (allW_in (kT_6 _ (List.mem_of_getElem? (i := 131) rfl)) rfl)
theorem ml_6_59 : MLk RX6 59 yX6_atomsAt := Or.inl (allW_in (kT_6 _ (List.mem_of_getElem? (i := 158) rfl)) rfl)
abbrev cX7_isLine : ByteArray := prog_9_method_2_code
def yX7_isLine : MethodName := ⟨RX7, "isLine", "(I)Z"⟩
def M_X7_isLine : MT := (yX7_isLine, cX7_isLine, 2, (some .boolean), RX7, 1)
theorem mk_X7_isLine : MokV M_X7_isLine 7 1 := ⟨⟨⟨by decide, by decide, rfl⟩, (allW_in (kT_9 _ (List.mem_of_getElem? (i := 165) rfl)) rfl), (allW_in (kT_1 _ (List.mem_of_getElem? (i := 16) rfl)) rfl), by decide⟩, ⟨TX7, 17, rfl⟩, (allW_in (kT_9 _ (List.mem_of_getElem? (i := 163) rfl)) rfl), (allW_in (kT_9 _ (List.mem_of_getElem? (i := 164) rfl)) rfl)⟩
def B_X7_isLine_18 : Blk := (18, .ireturn, 1) :: []
theorem o_X7_isLine_18 : Chn cX7_isLine B_X7_isLine_18 := chn_of _ (by decide +kernel)
def B_X7_isLine_17 : Blk := (17, .iconst 0, 1) :: B_X7_isLine_18
theorem o_X7_isLine_17 : Chn cX7_isLine B_X7_isLine_17 := chn_app ((17, .iconst 0, 1) :: []) o_X7_isLine_18 (by decide +kernel)
def B_X7_isLine_0 : Blk := (0, .iload_n 1, 1) :: (1, .iconst 1, 1) :: (2, .if_icmp .lt 15, 3) :: (5, .iload_n 1, 1) :: (6, .aload_n 0, 1) :: (7, .getfield 46, 3) :: (10, .if_icmp .gt 7, 3) :: (13, .iconst 1, 1) :: (14, .goto 4, 3) :: []
theorem o_X7_isLine_0 : Chn cX7_isLine B_X7_isLine_0 := chn_of _ (by decide +kernel)
theorem fl_7_46 : FLk RX7 46 7 10 0 false := ⟨RX7, TX7, 17, "IntegerHouse$Prover", "size", "I", rfl, by decide, rfl, Or.inl (allW_in (kT_3 _ (List.mem_of_getElem? (i := 127) rfl)) rfl), rfl, (fun _ => rfl), (fun h => absurd h (by decide)), (fun h => absurd h (by decide)), (fun h => absurd h (by decide))⟩
abbrev cX7_lineNumber : ByteArray := prog_9_method_3_code
def yX7_lineNumber : MethodName := ⟨RX7, "lineNumber", "(II)J"⟩
def M_X7_lineNumber : MT := (yX7_lineNumber, cX7_lineNumber, 3, (some .long), RX7, 2)
theorem mk_X7_lineNumber : MokV M_X7_lineNumber 7 2 := ⟨⟨⟨by decide, by decide, rfl⟩, (allW_in (kT_8 _ (List.mem_of_getElem? (i := 124) rfl)) rfl), (allW_in (kT_1 _ (List.mem_of_getElem? (i := 16) rfl)) rfl), by decide⟩, ⟨TX7, 17, rfl⟩, (allW_in (kT_8 _ (List.mem_of_getElem? (i := 122) rfl)) rfl), (allW_in (kT_8 _ (List.mem_of_getElem? (i := 123) rfl)) rfl)⟩
def B_X7_lineNumber_37 : Blk := (37, .lreturn, 1) :: []
theorem o_X7_lineNumber_37 : Chn cX7_lineNumber B_X7_lineNumber_37 := chn_of _ (by decide +kernel)
def B_X7_lineNumber_36 : Blk := (36, .lconst 0, 1) :: B_X7_lineNumber_37
theorem o_X7_lineNumber_36 : Chn cX7_lineNumber B_X7_lineNumber_36 := chn_app ((36, .lconst 0, 1) :: []) o_X7_lineNumber_37 (by decide +kernel)
def B_X7_lineNumber_0 : Blk := (0, .iload_n 1, 1) :: (1, .iconst 1, 1) :: (2, .if_icmp .lt 34, 3) :: (5, .iload_n 1, 1) :: (6, .sipush 200, 3) :: (9, .if_icmp .gt 27, 3) :: (12, .iload_n 2, 1) :: (13, .ifCond .lt 23, 3) :: (16, .iload_n 2, 1) :: (17, .iconst 5, 1) :: (18, .if_icmp .ge 18, 3) :: (21, .aload_n 0, 1) :: (22, .getfield 11, 3) :: (25, .iload_n 1, 1) :: (26, .iconst 1, 1) :: (27, .isub, 1) :: (28, .iconst 5, 1) :: (29, .imul, 1) :: (30, .iload_n 2, 1) :: (31, .iadd, 1) :: (32, .laload, 1) :: (33, .goto 4, 3) :: []
theorem o_X7_lineNumber_0 : Chn cX7_lineNumber B_X7_lineNumber_0 := chn_of _ (by decide +kernel)
theorem fl_7_11 : FLk RX7 11 7 2 3 true := ⟨RX7, TX7, 17, "IntegerHouse$Prover", "lines", "[J", rfl, by decide, rfl, Or.inl (allW_in (kT_3 _ (List.mem_of_getElem? (i := 119) rfl)) rfl), rfl, (fun h => absurd h (by decide)), (fun h => absurd h (by decide)), (fun h => absurd h (by decide)), (fun h => absurd h (by decide))⟩
abbrev cX3_scan : ByteArray := prog_5_method_8_code
def yX3_scan : MethodName := ⟨RX3, "scan", "([BIIZ)V"⟩
def M_X3_scan : MT := (yX3_scan, cX3_scan, 9, none, RX3, 0)
theorem mk_X3_scan : MokV M_X3_scan 3 4 := ⟨⟨⟨by decide, by decide, rfl⟩, (allW_in (kT_4 _ (List.mem_of_getElem? (i := 71) rfl)) rfl), (allW_in (kT_1 _ (List.mem_of_getElem? (i := 4) rfl)) rfl), by decide⟩, ⟨TX3, 9, rfl⟩, (allW_in (kT_4 _ (List.mem_of_getElem? (i := 69) rfl)) rfl), (allW_in (kT_4 _ (List.mem_of_getElem? (i := 70) rfl)) rfl)⟩
def B_X3_scan_179 : Blk := (179, .aload_n 0, 1) :: (180, .getfield 15, 3) :: (183, .aload_n 0, 1) :: (184, .getfield 48, 3) :: (187, .iconst 0, 1) :: (188, .iastore, 1) :: (189, .aload_n 0, 1) :: (190, .getfield 19, 3) :: (193, .aload_n 0, 1) :: (194, .getfield 48, 3) :: (197, .iload_n 3, 1) :: (198, .iastore, 1) :: (199, .return_, 1) :: []
theorem o_X3_scan_179 : Chn cX3_scan B_X3_scan_179 := chn_of _ (by decide +kernel)
def B_X3_scan_171 : Blk := (171, .istore 5, 2) :: (173, .iinc 7 1, 3) :: (176, .goto (-130), 3) :: []
theorem o_X3_scan_171 : Chn cX3_scan B_X3_scan_171 := chn_of _ (by decide +kernel)
def B_X3_scan_165 : Blk := (165, .aload_n 0, 1) :: (166, .iload 5, 2) :: (168, .invokevirtual 59, 3) :: B_X3_scan_171
theorem o_X3_scan_165 : Chn cX3_scan B_X3_scan_165 := chn_app ((165, .aload_n 0, 1) :: (166, .iload 5, 2) :: (168, .invokevirtual 59, 3) :: []) o_X3_scan_171 (by decide +kernel)
def B_X3_scan_139 : Blk := (139, .aload_n 0, 1) :: (140, .iload 7, 2) :: (142, .iconst 1, 1) :: (143, .iadd, 1) :: (144, .putfield 48, 3) :: (147, .aload_n 0, 1) :: (148, .getfield 15, 3) :: (151, .iload 7, 2) :: (153, .iaload, 1) :: (154, .iconst 3, 1) :: (155, .if_icmp .ne 10, 3) :: (158, .aload_n 0, 1) :: (159, .getfield 52, 3) :: (162, .goto 9, 3) :: []
theorem o_X3_scan_139 : Chn cX3_scan B_X3_scan_139 := chn_of _ (by decide +kernel)
def B_X3_scan_129 : Blk := (129, .aload_n 0, 1) :: (130, .iload 7, 2) :: (132, .iload 5, 2) :: (134, .invokevirtual 81, 3) :: (137, .istore 5, 2) :: B_X3_scan_139
theorem o_X3_scan_129 : Chn cX3_scan B_X3_scan_129 := chn_app ((129, .aload_n 0, 1) :: (130, .iload 7, 2) :: (132, .iload 5, 2) :: (134, .invokevirtual 81, 3) :: (137, .istore 5, 2) :: []) o_X3_scan_139 (by decide +kernel)
def B_X3_scan_108 : Blk := (108, .iload 8, 2) :: (110, .invokestatic 74, 3) :: (113, .ifCond .eq 16, 3) :: (116, .aload_n 0, 1) :: (117, .iload 7, 2) :: (119, .iload 5, 2) :: (121, .invokevirtual 77, 3) :: (124, .istore 5, 2) :: (126, .goto 13, 3) :: []
theorem o_X3_scan_108 : Chn cX3_scan B_X3_scan_108 := chn_of _ (by decide +kernel)
def B_X3_scan_46 : Blk := (46, .iload 7, 2) :: (48, .sipush 2000, 3) :: (51, .if_icmp .ge 128, 3) :: (54, .iload 5, 2) :: (56, .aload_n 0, 1) :: (57, .getfield 52, 3) :: (60, .if_icmp .ge 119, 3) :: (63, .aload_n 0, 1) :: (64, .getfield 19, 3) :: (67, .iload 7, 2) :: (69, .iload 5, 2) :: (71, .aload_n 0, 1) :: (72, .getfield 55, 3) :: (75, .isub, 1) :: (76, .iastore, 1) :: (77, .aload_n 0, 1) :: (78, .iload 5, 2) :: (80, .invokevirtual 63, 3) :: (83, .istore 8, 2) :: (85, .iload 8, 2) :: (87, .invokestatic 66, 3) :: (90, .ifCond .eq 18, 3) :: (93, .aload_n 0, 1) :: (94, .iload 7, 2) :: (96, .iload 5, 2) :: (98, .iload 6, 2) :: (100, .invokevirtual 70, 3) :: (103, .istore 5, 2) :: (105, .goto 34, 3) :: []
theorem o_X3_scan_46 : Chn cX3_scan B_X3_scan_46 := chn_of _ (by decide +kernel)
def B_X3_scan_41 : Blk := (41, .istore 6, 2) :: (43, .iconst 0, 1) :: (44, .istore 7, 2) :: B_X3_scan_46
theorem o_X3_scan_41 : Chn cX3_scan B_X3_scan_41 := chn_app ((41, .istore 6, 2) :: (43, .iconst 0, 1) :: (44, .istore 7, 2) :: []) o_X3_scan_46 (by decide +kernel)
def B_X3_scan_39 : Blk := (39, .bipush 14, 2) :: B_X3_scan_41
theorem o_X3_scan_39 : Chn cX3_scan B_X3_scan_39 := chn_app ((39, .bipush 14, 2) :: []) o_X3_scan_41 (by decide +kernel)
def B_X3_scan_0 : Blk := (0, .aload_n 0, 1) :: (1, .aload_n 1, 1) :: (2, .putfield 28, 3) :: (5, .aload_n 0, 1) :: (6, .iload_n 2, 1) :: (7, .putfield 55, 3) :: (10, .aload_n 0, 1) :: (11, .iload_n 2, 1) :: (12, .iload_n 3, 1) :: (13, .iadd, 1) :: (14, .putfield 52, 3) :: (17, .aload_n 0, 1) :: (18, .iconst 0, 1) :: (19, .putfield 48, 3) :: (22, .aload_n 0, 1) :: (23, .iload_n 2, 1) :: (24, .invokevirtual 59, 3) :: (27, .istore 5, 2) :: (29, .iload 4, 2) :: (31, .ifCond .eq 8, 3) :: (34, .bipush 20, 2) :: (36, .goto 5, 3) :: []
theorem o_X3_scan_0 : Chn cX3_scan B_X3_scan_0 := chn_of _ (by decide +kernel)
theorem ml_3_59 : MLk RX3 59 yX3_behindBlanks := Or.inl (allW_in (kT_4 _ (List.mem_of_getElem? (i := 72) rfl)) rfl)
theorem ml_3_81 : MLk RX3 81 yX3_sign := Or.inl (allW_in (kT_4 _ (List.mem_of_getElem? (i := 94) rfl)) rfl)
theorem ml_3_77 : MLk RX3 77 yX3_digits := Or.inl (allW_in (kT_4 _ (List.mem_of_getElem? (i := 90) rfl)) rfl)
theorem ml_3_70 : MLk RX3 70 yX3_word := Or.inl (allW_in (kT_4 _ (List.mem_of_getElem? (i := 83) rfl)) rfl)
abbrev cX7_expect : ByteArray := prog_9_method_6_code
def yX7_expect : MethodName := ⟨RX7, "expect", "(I)V"⟩
def M_X7_expect : MT := (yX7_expect, cX7_expect, 2, none, RX7, 0)
theorem mk_X7_expect : MokV M_X7_expect 7 1 := ⟨⟨⟨by decide, by decide, rfl⟩, (allW_in (kT_8 _ (List.mem_of_getElem? (i := 87) rfl)) rfl), (allW_in (kT_1 _ (List.mem_of_getElem? (i := 16) rfl)) rfl), by decide⟩, ⟨TX7, 17, rfl⟩, (allW_in (kT_8 _ (List.mem_of_getElem? (i := 86) rfl)) rfl), (allW_in (kTs_8 _ (List.mem_of_getElem? (i := 7) rfl)) rfl)⟩
def B_X7_expect_62 : Blk := (62, .aload_n 0, 1) :: (63, .dup, 1) :: (64, .getfield 59, 3) :: (67, .iconst 1, 1) :: (68, .iadd, 1) :: (69, .putfield 59, 3) :: (72, .return_, 1) :: []
theorem o_X7_expect_62 : Chn cX7_expect B_X7_expect_62 := chn_of _ (by decide +kernel)
def B_X7_expect_44 : Blk := (44, .putfield 62, 3) :: (47, .aload_n 0, 1) :: (48, .aload_n 0, 1) :: (49, .getfield 38, 3) :: (52, .aload_n 0, 1) :: (53, .getfield 59, 3) :: (56, .invokevirtual 79, 3) :: (59, .putfield 65, 3) :: B_X7_expect_62
theorem o_X7_expect_44 : Chn cX7_expect B_X7_expect_44 := chn_app ((44, .putfield 62, 3) :: (47, .aload_n 0, 1) :: (48, .aload_n 0, 1) :: (49, .getfield 38, 3) :: (52, .aload_n 0, 1) :: (53, .getfield 59, 3) :: (56, .invokevirtual 79, 3) :: (59, .putfield 65, 3) :: []) o_X7_expect_62 (by decide +kernel)
def B_X7_expect_43 : Blk := (43, .iconst 2, 1) :: B_X7_expect_44
theorem o_X7_expect_43 : Chn cX7_expect B_X7_expect_43 := chn_app ((43, .iconst 2, 1) :: []) o_X7_expect_44 (by decide +kernel)
def B_X7_expect_8 : Blk := (8, .aload_n 0, 1) :: (9, .getfield 38, 3) :: (12, .aload_n 0, 1) :: (13, .getfield 59, 3) :: (16, .invokevirtual 68, 3) :: (19, .iload_n 1, 1) :: (20, .if_icmp .eq 42, 3) :: (23, .aload_n 0, 1) :: (24, .aload_n 0, 1) :: (25, .getfield 38, 3) :: (28, .aload_n 0, 1) :: (29, .getfield 59, 3) :: (32, .invokevirtual 68, 3) :: (35, .iconst 3, 1) :: (36, .if_icmp .ne 7, 3) :: (39, .iconst 1, 1) :: (40, .goto 4, 3) :: []
theorem o_X7_expect_8 : Chn cX7_expect B_X7_expect_8 := chn_of _ (by decide +kernel)
def B_X7_expect_0 : Blk := (0, .aload_n 0, 1) :: (1, .getfield 62, 3) :: (4, .ifCond .eq 4, 3) :: (7, .return_, 1) :: []
theorem o_X7_expect_0 : Chn cX7_expect B_X7_expect_0 := chn_of _ (by decide +kernel)
theorem fl_7_62 : FLk RX7 62 7 12 0 false := ⟨RX7, TX7, 17, "IntegerHouse$Prover", "faultKind", "I", rfl, by decide, rfl, Or.inl (allW_in (kT_3 _ (List.mem_of_getElem? (i := 129) rfl)) rfl), rfl, (fun _ => rfl), (fun h => absurd h (by decide)), (fun h => absurd h (by decide)), (fun h => absurd h (by decide))⟩
theorem fl_7_38 : FLk RX7 38 7 0 3 true := ⟨RX7, TX7, 17, "IntegerHouse$Prover", "lexer", "LIntegerHouse$Lexer;", rfl, by decide, rfl, Or.inl (allW_in (kT_3 _ (List.mem_of_getElem? (i := 117) rfl)) rfl), rfl, (fun h => absurd h (by decide)), (fun h => absurd h (by decide)), (fun h => absurd h (by decide)), (fun h => absurd h (by decide))⟩
theorem fl_7_59 : FLk RX7 59 7 14 0 false := ⟨RX7, TX7, 17, "IntegerHouse$Prover", "at", "I", rfl, by decide, rfl, Or.inl (allW_in (kT_3 _ (List.mem_of_getElem? (i := 133) rfl)) rfl), rfl, (fun _ => rfl), (fun h => absurd h (by decide)), (fun h => absurd h (by decide)), (fun h => absurd h (by decide))⟩
theorem ml_7_68 : MLk RX7 68 yX3_kindAt := Or.inl (allW_in (kT_8 _ (List.mem_of_getElem? (i := 75) rfl)) rfl)
theorem ml_7_79 : MLk RX7 79 yX3_placeAt := Or.inl (allW_in (kT_8 _ (List.mem_of_getElem? (i := 80) rfl)) rfl)
theorem fl_7_65 : FLk RX7 65 7 13 0 false := ⟨RX7, TX7, 17, "IntegerHouse$Prover", "faultPlace", "I", rfl, by decide, rfl, Or.inl (allW_in (kT_3 _ (List.mem_of_getElem? (i := 131) rfl)) rfl), rfl, (fun _ => rfl), (fun h => absurd h (by decide)), (fun h => absurd h (by decide)), (fun h => absurd h (by decide))⟩
abbrev cX7_takeNumber : ByteArray := prog_9_method_7_code
def yX7_takeNumber : MethodName := ⟨RX7, "takeNumber", "(Z)V"⟩
def M_X7_takeNumber : MT := (yX7_takeNumber, cX7_takeNumber, 3, none, RX7, 0)
theorem mk_X7_takeNumber : MokV M_X7_takeNumber 7 1 := ⟨⟨⟨by decide, by decide, rfl⟩, (allW_in (kT_8 _ (List.mem_of_getElem? (i := 92) rfl)) rfl), (allW_in (kT_1 _ (List.mem_of_getElem? (i := 16) rfl)) rfl), by decide⟩, ⟨TX7, 17, rfl⟩, (allW_in (kT_8 _ (List.mem_of_getElem? (i := 91) rfl)) rfl), (allW_in (kTs_8 _ (List.mem_of_getElem? (i := 8) rfl)) rfl)⟩
def B_X7_takeNumber_61 : Blk := (61, .return_, 1) :: []
theorem o_X7_takeNumber_61 : Chn cX7_takeNumber B_X7_takeNumber_61 := chn_of _ (by decide +kernel)
def B_X7_takeNumber_50 : Blk := (50, .iastore, 1) :: (51, .aload_n 0, 1) :: (52, .dup, 1) :: (53, .getfield 82, 3) :: (56, .iconst 1, 1) :: (57, .iadd, 1) :: (58, .putfield 82, 3) :: B_X7_takeNumber_61
theorem o_X7_takeNumber_50 : Chn cX7_takeNumber B_X7_takeNumber_50 := chn_app ((50, .iastore, 1) :: (51, .aload_n 0, 1) :: (52, .dup, 1) :: (53, .getfield 82, 3) :: (56, .iconst 1, 1) :: (57, .iadd, 1) :: (58, .putfield 82, 3) :: []) o_X7_takeNumber_61 (by decide +kernel)
def B_X7_takeNumber_49 : Blk := (49, .iload_n 2, 1) :: B_X7_takeNumber_50
theorem o_X7_takeNumber_49 : Chn cX7_takeNumber B_X7_takeNumber_49 := chn_app ((49, .iload_n 2, 1) :: []) o_X7_takeNumber_50 (by decide +kernel)
def B_X7_takeNumber_0 : Blk := (0, .aload_n 0, 1) :: (1, .getfield 38, 3) :: (4, .aload_n 0, 1) :: (5, .getfield 59, 3) :: (8, .invokevirtual 105, 3) :: (11, .istore_n 2, 1) :: (12, .aload_n 0, 1) :: (13, .iconst 2, 1) :: (14, .invokevirtual 85, 3) :: (17, .aload_n 0, 1) :: (18, .getfield 82, 3) :: (21, .ifCond .lt 40, 3) :: (24, .aload_n 0, 1) :: (25, .getfield 82, 3) :: (28, .iconst 4, 1) :: (29, .if_icmp .ge 32, 3) :: (32, .aload_n 0, 1) :: (33, .getfield 22, 3) :: (36, .aload_n 0, 1) :: (37, .getfield 82, 3) :: (40, .iload_n 1, 1) :: (41, .ifCond .eq 8, 3) :: (44, .iload_n 2, 1) :: (45, .ineg, 1) :: (46, .goto 4, 3) :: []
theorem o_X7_takeNumber_0 : Chn cX7_takeNumber B_X7_takeNumber_0 := chn_of _ (by decide +kernel)
theorem ml_7_105 : MLk RX7 105 yX3_numberAt := Or.inl (allW_in (kT_8 _ (List.mem_of_getElem? (i := 93) rfl)) rfl)
theorem ml_7_85 : MLk RX7 85 yX7_expect := Or.inl (allW_in (kT_8 _ (List.mem_of_getElem? (i := 84) rfl)) rfl)
theorem fl_7_82 : FLk RX7 82 7 15 0 false := ⟨RX7, TX7, 17, "IntegerHouse$Prover", "given", "I", rfl, by decide, rfl, Or.inl (allW_in (kT_3 _ (List.mem_of_getElem? (i := 134) rfl)) rfl), rfl, (fun _ => rfl), (fun h => absurd h (by decide)), (fun h => absurd h (by decide)), (fun h => absurd h (by decide))⟩
theorem fl_7_22 : FLk RX7 22 7 5 3 true := ⟨RX7, TX7, 17, "IntegerHouse$Prover", "numbers", "[I", rfl, by decide, rfl, Or.inl (allW_in (kT_3 _ (List.mem_of_getElem? (i := 122) rfl)) rfl), rfl, (fun h => absurd h (by decide)), (fun h => absurd h (by decide)), (fun h => absurd h (by decide)), (fun h => absurd h (by decide))⟩

abbrev cX7_isLatestFalse : ByteArray := prog_9_method_18_code
def yX7_isLatestFalse : MethodName := ⟨RX7, "isLatestFalse", "()Z"⟩
def M_X7_isLatestFalse : MT := (yX7_isLatestFalse, cX7_isLatestFalse, 3, (some .boolean), RX7, 1)
theorem mk_X7_isLatestFalse : MokV M_X7_isLatestFalse 7 0 := ⟨⟨⟨by decide, by decide, rfl⟩, (allW_in (kT_8 _ (List.mem_of_getElem? (i := 146) rfl)) rfl), (allW_in (kT_1 _ (List.mem_of_getElem? (i := 16) rfl)) rfl), by decide⟩, ⟨TX7, 17, rfl⟩, (allW_in (kT_8 _ (List.mem_of_getElem? (i := 145) rfl)) rfl), (allW_in (kTs_9 _ (List.mem_of_getElem? (i := 2) rfl)) rfl)⟩
def B_X7_isLatestFalse_62 : Blk := (62, .iload_n 1, 1) :: (63, .ireturn, 1) :: []
theorem o_X7_isLatestFalse_62 : Chn cX7_isLatestFalse B_X7_isLatestFalse_62 := chn_of _ (by decide +kernel)
def B_X7_isLatestFalse_54 : Blk := (54, .iand, 1) :: (55, .istore_n 1, 1) :: (56, .iinc 2 1, 3) :: (59, .goto (-30), 3) :: []
theorem o_X7_isLatestFalse_54 : Chn cX7_isLatestFalse B_X7_isLatestFalse_54 := chn_of _ (by decide +kernel)
def B_X7_isLatestFalse_53 : Blk := (53, .iconst 0, 1) :: B_X7_isLatestFalse_54
theorem o_X7_isLatestFalse_53 : Chn cX7_isLatestFalse B_X7_isLatestFalse_53 := chn_app ((53, .iconst 0, 1) :: []) o_X7_isLatestFalse_54 (by decide +kernel)
def B_X7_isLatestFalse_29 : Blk := (29, .iload_n 2, 1) :: (30, .iconst 4, 1) :: (31, .if_icmp .ge 31, 3) :: (34, .iload_n 1, 1) :: (35, .aload_n 0, 1) :: (36, .aload_n 0, 1) :: (37, .getfield 46, 3) :: (40, .iload_n 2, 1) :: (41, .invokevirtual 165, 3) :: (44, .lconst 0, 1) :: (45, .lcmp, 1) :: (46, .ifCond .ne 7, 3) :: (49, .iconst 1, 1) :: (50, .goto 4, 3) :: []
theorem o_X7_isLatestFalse_29 : Chn cX7_isLatestFalse B_X7_isLatestFalse_29 := chn_of _ (by decide +kernel)
def B_X7_isLatestFalse_26 : Blk := (26, .istore_n 1, 1) :: (27, .iconst 0, 1) :: (28, .istore_n 2, 1) :: B_X7_isLatestFalse_29
theorem o_X7_isLatestFalse_26 : Chn cX7_isLatestFalse B_X7_isLatestFalse_26 := chn_app ((26, .istore_n 1, 1) :: (27, .iconst 0, 1) :: (28, .istore_n 2, 1) :: []) o_X7_isLatestFalse_29 (by decide +kernel)
def B_X7_isLatestFalse_25 : Blk := (25, .iconst 0, 1) :: B_X7_isLatestFalse_26
theorem o_X7_isLatestFalse_25 : Chn cX7_isLatestFalse B_X7_isLatestFalse_25 := chn_app ((25, .iconst 0, 1) :: []) o_X7_isLatestFalse_26 (by decide +kernel)
def B_X7_isLatestFalse_0 : Blk := (0, .aload_n 0, 1) :: (1, .getfield 46, 3) :: (4, .ifCond .le 21, 3) :: (7, .aload_n 0, 1) :: (8, .aload_n 0, 1) :: (9, .getfield 46, 3) :: (12, .iconst 4, 1) :: (13, .invokevirtual 165, 3) :: (16, .lconst 0, 1) :: (17, .lcmp, 1) :: (18, .ifCond .ge 7, 3) :: (21, .iconst 1, 1) :: (22, .goto 4, 3) :: []
theorem o_X7_isLatestFalse_0 : Chn cX7_isLatestFalse B_X7_isLatestFalse_0 := chn_of _ (by decide +kernel)
theorem ml_7_165 : MLk RX7 165 yX7_lineNumber := Or.inl (allW_in (kT_8 _ (List.mem_of_getElem? (i := 121) rfl)) rfl)
abbrev cX7_endPart : ByteArray := prog_9_method_17_code
def yX7_endPart : MethodName := ⟨RX7, "endPart", "(Z)Z"⟩
def M_X7_endPart : MT := (yX7_endPart, cX7_endPart, 3, (some .boolean), RX7, 1)
theorem mk_X7_endPart : MokV M_X7_endPart 7 1 := ⟨⟨⟨by decide, by decide, rfl⟩, (allW_in (kT_8 _ (List.mem_of_getElem? (i := 142) rfl)) rfl), (allW_in (kT_1 _ (List.mem_of_getElem? (i := 16) rfl)) rfl), by decide⟩, ⟨TX7, 17, rfl⟩, (allW_in (kT_8 _ (List.mem_of_getElem? (i := 141) rfl)) rfl), (allW_in (kTs_9 _ (List.mem_of_getElem? (i := 1) rfl)) rfl)⟩
def B_X7_endPart_85 : Blk := (85, .iconst 1, 1) :: (86, .ireturn, 1) :: []
theorem o_X7_endPart_85 : Chn cX7_endPart B_X7_endPart_85 := chn_of _ (by decide +kernel)
def B_X7_endPart_57 : Blk := (57, .iload_n 2, 1) :: (58, .aload_n 0, 1) :: (59, .getfield 46, 3) :: (62, .if_icmp .ge 23, 3) :: (65, .iload_n 2, 1) :: (66, .sipush 200, 3) :: (69, .if_icmp .ge 16, 3) :: (72, .aload_n 0, 1) :: (73, .getfield 15, 3) :: (76, .iload_n 2, 1) :: (77, .iconst 0, 1) :: (78, .bastore, 1) :: (79, .iinc 2 1, 3) :: (82, .goto (-25), 3) :: []
theorem o_X7_endPart_57 : Chn cX7_endPart B_X7_endPart_57 := chn_of _ (by decide +kernel)
def B_X7_endPart_41 : Blk := (41, .iconst 0, 1) :: (42, .aload_n 0, 1) :: (43, .getfield 32, 3) :: (46, .aload_n 0, 1) :: (47, .getfield 56, 3) :: (50, .iconst 1, 1) :: (51, .isub, 1) :: (52, .iaload, 1) :: (53, .invokestatic 182, 3) :: (56, .istore_n 2, 1) :: B_X7_endPart_57
theorem o_X7_endPart_41 : Chn cX7_endPart B_X7_endPart_41 := chn_app ((41, .iconst 0, 1) :: (42, .aload_n 0, 1) :: (43, .getfield 32, 3) :: (46, .aload_n 0, 1) :: (47, .getfield 56, 3) :: (50, .iconst 1, 1) :: (51, .isub, 1) :: (52, .iaload, 1) :: (53, .invokestatic 182, 3) :: (56, .istore_n 2, 1) :: []) o_X7_endPart_57 (by decide +kernel)
def B_X7_endPart_39 : Blk := (39, .iconst 0, 1) :: (40, .ireturn, 1) :: []
theorem o_X7_endPart_39 : Chn cX7_endPart B_X7_endPart_39 := chn_of _ (by decide +kernel)
def B_X7_endPart_0 : Blk := (0, .aload_n 0, 1) :: (1, .getfield 56, 3) :: (4, .iconst 1, 1) :: (5, .if_icmp .lt 34, 3) :: (8, .aload_n 0, 1) :: (9, .getfield 56, 3) :: (12, .bipush 20, 2) :: (14, .if_icmp .gt 25, 3) :: (17, .aload_n 0, 1) :: (18, .getfield 35, 3) :: (21, .aload_n 0, 1) :: (22, .getfield 56, 3) :: (25, .iconst 1, 1) :: (26, .isub, 1) :: (27, .baload, 1) :: (28, .iload_n 1, 1) :: (29, .if_icmp .ne 10, 3) :: (32, .aload_n 0, 1) :: (33, .invokevirtual 75, 3) :: (36, .ifCond .ne 5, 3) :: B_X7_endPart_39
theorem o_X7_endPart_0 : Chn cX7_endPart B_X7_endPart_0 := chn_app ((0, .aload_n 0, 1) :: (1, .getfield 56, 3) :: (4, .iconst 1, 1) :: (5, .if_icmp .lt 34, 3) :: (8, .aload_n 0, 1) :: (9, .getfield 56, 3) :: (12, .bipush 20, 2) :: (14, .if_icmp .gt 25, 3) :: (17, .aload_n 0, 1) :: (18, .getfield 35, 3) :: (21, .aload_n 0, 1) :: (22, .getfield 56, 3) :: (25, .iconst 1, 1) :: (26, .isub, 1) :: (27, .baload, 1) :: (28, .iload_n 1, 1) :: (29, .if_icmp .ne 10, 3) :: (32, .aload_n 0, 1) :: (33, .invokevirtual 75, 3) :: (36, .ifCond .ne 5, 3) :: []) o_X7_endPart_39 (by decide +kernel)
theorem fl_7_56 : FLk RX7 56 7 11 0 false := ⟨RX7, TX7, 17, "IntegerHouse$Prover", "open", "I", rfl, by decide, rfl, Or.inl (allW_in (kT_3 _ (List.mem_of_getElem? (i := 128) rfl)) rfl), rfl, (fun _ => rfl), (fun h => absurd h (by decide)), (fun h => absurd h (by decide)), (fun h => absurd h (by decide))⟩
theorem fl_7_35 : FLk RX7 35 7 9 3 true := ⟨RX7, TX7, 17, "IntegerHouse$Prover", "isSecond", "[Z", rfl, by decide, rfl, Or.inl (allW_in (kT_3 _ (List.mem_of_getElem? (i := 126) rfl)) rfl), rfl, (fun h => absurd h (by decide)), (fun h => absurd h (by decide)), (fun h => absurd h (by decide)), (fun h => absurd h (by decide))⟩
theorem ml_7_75 : MLk RX7 75 yX7_isLatestFalse := Or.inl (allW_in (kT_8 _ (List.mem_of_getElem? (i := 143) rfl)) rfl)
theorem fl_7_32 : FLk RX7 32 7 8 3 true := ⟨RX7, TX7, 17, "IntegerHouse$Prover", "partBegins", "[I", rfl, by decide, rfl, Or.inl (allW_in (kT_3 _ (List.mem_of_getElem? (i := 125) rfl)) rfl), rfl, (fun h => absurd h (by decide)), (fun h => absurd h (by decide)), (fun h => absurd h (by decide)), (fun h => absurd h (by decide))⟩
theorem fl_7_15 : FLk RX7 15 7 3 3 true := ⟨RX7, TX7, 17, "IntegerHouse$Prover", "known", "[Z", rfl, by decide, rfl, Or.inl (allW_in (kT_3 _ (List.mem_of_getElem? (i := 120) rfl)) rfl), rfl, (fun h => absurd h (by decide)), (fun h => absurd h (by decide)), (fun h => absurd h (by decide)), (fun h => absurd h (by decide))⟩
abbrev cX7_endSecond : ByteArray := prog_9_method_16_code
def yX7_endSecond : MethodName := ⟨RX7, "endSecond", "()Z"⟩
def M_X7_endSecond : MT := (yX7_endSecond, cX7_endSecond, 1, (some .boolean), RX7, 1)
theorem mk_X7_endSecond : MokV M_X7_endSecond 7 0 := ⟨⟨⟨by decide, by decide, rfl⟩, (allW_in (kT_8 _ (List.mem_of_getElem? (i := 152) rfl)) rfl), (allW_in (kT_1 _ (List.mem_of_getElem? (i := 16) rfl)) rfl), by decide⟩, ⟨TX7, 17, rfl⟩, (allW_in (kT_8 _ (List.mem_of_getElem? (i := 151) rfl)) rfl), (allW_in (kTs_9 _ (List.mem_of_getElem? (i := 3) rfl)) rfl)⟩
def B_X7_endSecond_10 : Blk := (10, .aload_n 0, 1) :: (11, .getfield 19, 3) :: (14, .iconst 4, 1) :: (15, .ldc2_w 180, 3) :: (18, .lastore, 1) :: (19, .aload_n 0, 1) :: (20, .dup, 1) :: (21, .getfield 56, 3) :: (24, .iconst 1, 1) :: (25, .isub, 1) :: (26, .putfield 56, 3) :: (29, .iconst 1, 1) :: (30, .ireturn, 1) :: []
theorem o_X7_endSecond_10 : Chn cX7_endSecond B_X7_endSecond_10 := chn_of _ (by decide +kernel)
def B_X7_endSecond_0 : Blk := (0, .aload_n 0, 1) :: (1, .iconst 1, 1) :: (2, .invokevirtual 176, 3) :: (5, .ifCond .ne 5, 3) :: (8, .iconst 0, 1) :: (9, .ireturn, 1) :: []
theorem o_X7_endSecond_0 : Chn cX7_endSecond B_X7_endSecond_0 := chn_of _ (by decide +kernel)
theorem ml_7_176 : MLk RX7 176 yX7_endPart := Or.inl (allW_in (kT_8 _ (List.mem_of_getElem? (i := 139) rfl)) rfl)
theorem fl_7_19 : FLk RX7 19 7 4 3 true := ⟨RX7, TX7, 17, "IntegerHouse$Prover", "row", "[J", rfl, by decide, rfl, Or.inl (allW_in (kT_3 _ (List.mem_of_getElem? (i := 121) rfl)) rfl), rfl, (fun h => absurd h (by decide)), (fun h => absurd h (by decide)), (fun h => absurd h (by decide)), (fun h => absurd h (by decide))⟩
abbrev cX7_addLine : ByteArray := prog_9_method_9_code
def yX7_addLine : MethodName := ⟨RX7, "addLine", "()Z"⟩
def M_X7_addLine : MT := (yX7_addLine, cX7_addLine, 2, (some .boolean), RX7, 1)
theorem mk_X7_addLine : MokV M_X7_addLine 7 0 := ⟨⟨⟨by decide, by decide, rfl⟩, (allW_in (kT_8 _ (List.mem_of_getElem? (i := 110) rfl)) rfl), (allW_in (kT_1 _ (List.mem_of_getElem? (i := 16) rfl)) rfl), by decide⟩, ⟨TX7, 17, rfl⟩, (allW_in (kT_8 _ (List.mem_of_getElem? (i := 109) rfl)) rfl), (allW_in (kTs_8 _ (List.mem_of_getElem? (i := 11) rfl)) rfl)⟩
def B_X7_addLine_82 : Blk := (82, .aload_n 0, 1) :: (83, .getfield 15, 3) :: (86, .aload_n 0, 1) :: (87, .getfield 46, 3) :: (90, .iconst 1, 1) :: (91, .bastore, 1) :: (92, .aload_n 0, 1) :: (93, .dup, 1) :: (94, .getfield 46, 3) :: (97, .iconst 1, 1) :: (98, .iadd, 1) :: (99, .putfield 46, 3) :: (102, .iconst 1, 1) :: (103, .ireturn, 1) :: []
theorem o_X7_addLine_82 : Chn cX7_addLine B_X7_addLine_82 := chn_of _ (by decide +kernel)
def B_X7_addLine_52 : Blk := (52, .iload_n 1, 1) :: (53, .iconst 5, 1) :: (54, .if_icmp .ge 28, 3) :: (57, .aload_n 0, 1) :: (58, .getfield 11, 3) :: (61, .aload_n 0, 1) :: (62, .getfield 46, 3) :: (65, .iconst 5, 1) :: (66, .imul, 1) :: (67, .iload_n 1, 1) :: (68, .iadd, 1) :: (69, .aload_n 0, 1) :: (70, .getfield 19, 3) :: (73, .iload_n 1, 1) :: (74, .laload, 1) :: (75, .lastore, 1) :: (76, .iinc 1 1, 3) :: (79, .goto (-27), 3) :: []
theorem o_X7_addLine_52 : Chn cX7_addLine B_X7_addLine_52 := chn_of _ (by decide +kernel)
def B_X7_addLine_50 : Blk := (50, .iconst 0, 1) :: (51, .istore_n 1, 1) :: B_X7_addLine_52
theorem o_X7_addLine_50 : Chn cX7_addLine B_X7_addLine_50 := chn_app ((50, .iconst 0, 1) :: (51, .istore_n 1, 1) :: []) o_X7_addLine_52 (by decide +kernel)
def B_X7_addLine_48 : Blk := (48, .iconst 0, 1) :: (49, .ireturn, 1) :: []
theorem o_X7_addLine_48 : Chn cX7_addLine B_X7_addLine_48 := chn_of _ (by decide +kernel)
def B_X7_addLine_31 : Blk := (31, .aload_n 0, 1) :: (32, .getfield 46, 3) :: (35, .ifCond .lt 13, 3) :: (38, .aload_n 0, 1) :: (39, .getfield 46, 3) :: (42, .sipush 200, 3) :: (45, .if_icmp .lt 5, 3) :: B_X7_addLine_48
theorem o_X7_addLine_31 : Chn cX7_addLine B_X7_addLine_31 := chn_app ((31, .aload_n 0, 1) :: (32, .getfield 46, 3) :: (35, .ifCond .lt 13, 3) :: (38, .aload_n 0, 1) :: (39, .getfield 46, 3) :: (42, .sipush 200, 3) :: (45, .if_icmp .lt 5, 3) :: []) o_X7_addLine_48 (by decide +kernel)
def B_X7_addLine_25 : Blk := (25, .iinc 1 1, 3) :: (28, .goto (-26), 3) :: []
theorem o_X7_addLine_25 : Chn cX7_addLine B_X7_addLine_25 := chn_of _ (by decide +kernel)
def B_X7_addLine_2 : Blk := (2, .iload_n 1, 1) :: (3, .iconst 5, 1) :: (4, .if_icmp .ge 27, 3) :: (7, .aload_n 0, 1) :: (8, .getfield 19, 3) :: (11, .iload_n 1, 1) :: (12, .laload, 1) :: (13, .invokestatic 135, 3) :: (16, .ldc2_w 141, 3) :: (19, .lcmp, 1) :: (20, .ifCond .le 5, 3) :: (23, .iconst 0, 1) :: (24, .ireturn, 1) :: []
theorem o_X7_addLine_2 : Chn cX7_addLine B_X7_addLine_2 := chn_of _ (by decide +kernel)
def B_X7_addLine_0 : Blk := (0, .iconst 0, 1) :: (1, .istore_n 1, 1) :: B_X7_addLine_2
theorem o_X7_addLine_0 : Chn cX7_addLine B_X7_addLine_0 := chn_app ((0, .iconst 0, 1) :: (1, .istore_n 1, 1) :: []) o_X7_addLine_2 (by decide +kernel)
abbrev cX7_endFirst : ByteArray := prog_9_method_15_code
def yX7_endFirst : MethodName := ⟨RX7, "endFirst", "()Z"⟩
def M_X7_endFirst : MT := (yX7_endFirst, cX7_endFirst, 2, (some .boolean), RX7, 1)
theorem mk_X7_endFirst : MokV M_X7_endFirst 7 0 := ⟨⟨⟨by decide, by decide, rfl⟩, (allW_in (kT_8 _ (List.mem_of_getElem? (i := 138) rfl)) rfl), (allW_in (kT_1 _ (List.mem_of_getElem? (i := 16) rfl)) rfl), by decide⟩, ⟨TX7, 17, rfl⟩, (allW_in (kT_8 _ (List.mem_of_getElem? (i := 137) rfl)) rfl), (allW_in (kTs_9 _ (List.mem_of_getElem? (i := 0) rfl)) rfl)⟩
def B_X7_endFirst_40 : Blk := (40, .aload_n 0, 1) :: (41, .getfield 19, 3) :: (44, .iconst 4, 1) :: (45, .aload_n 0, 1) :: (46, .getfield 29, 3) :: (49, .aload_n 0, 1) :: (50, .getfield 56, 3) :: (53, .iconst 1, 1) :: (54, .isub, 1) :: (55, .iaload, 1) :: (56, .iconst 1, 1) :: (57, .iadd, 1) :: (58, .ineg, 1) :: (59, .i2l, 1) :: (60, .lastore, 1) :: (61, .aload_n 0, 1) :: (62, .getfield 35, 3) :: (65, .aload_n 0, 1) :: (66, .getfield 56, 3) :: (69, .iconst 1, 1) :: (70, .isub, 1) :: (71, .iconst 1, 1) :: (72, .bastore, 1) :: (73, .aload_n 0, 1) :: (74, .getfield 32, 3) :: (77, .aload_n 0, 1) :: (78, .getfield 56, 3) :: (81, .iconst 1, 1) :: (82, .isub, 1) :: (83, .aload_n 0, 1) :: (84, .getfield 46, 3) :: (87, .iastore, 1) :: (88, .iconst 1, 1) :: (89, .ireturn, 1) :: []
theorem o_X7_endFirst_40 : Chn cX7_endFirst B_X7_endFirst_40 := chn_of _ (by decide +kernel)
def B_X7_endFirst_10 : Blk := (10, .aload_n 0, 1) :: (11, .getfield 26, 3) :: (14, .aload_n 0, 1) :: (15, .getfield 56, 3) :: (18, .iconst 1, 1) :: (19, .isub, 1) :: (20, .iaload, 1) :: (21, .istore_n 1, 1) :: (22, .iload_n 1, 1) :: (23, .ifCond .lt 17, 3) :: (26, .iload_n 1, 1) :: (27, .iconst 4, 1) :: (28, .if_icmp .ge 12, 3) :: (31, .aload_n 0, 1) :: (32, .getfield 19, 3) :: (35, .iload_n 1, 1) :: (36, .ldc2_w 180, 3) :: (39, .lastore, 1) :: B_X7_endFirst_40
theorem o_X7_endFirst_10 : Chn cX7_endFirst B_X7_endFirst_10 := chn_app ((10, .aload_n 0, 1) :: (11, .getfield 26, 3) :: (14, .aload_n 0, 1) :: (15, .getfield 56, 3) :: (18, .iconst 1, 1) :: (19, .isub, 1) :: (20, .iaload, 1) :: (21, .istore_n 1, 1) :: (22, .iload_n 1, 1) :: (23, .ifCond .lt 17, 3) :: (26, .iload_n 1, 1) :: (27, .iconst 4, 1) :: (28, .if_icmp .ge 12, 3) :: (31, .aload_n 0, 1) :: (32, .getfield 19, 3) :: (35, .iload_n 1, 1) :: (36, .ldc2_w 180, 3) :: (39, .lastore, 1) :: []) o_X7_endFirst_40 (by decide +kernel)
def B_X7_endFirst_0 : Blk := (0, .aload_n 0, 1) :: (1, .iconst 0, 1) :: (2, .invokevirtual 176, 3) :: (5, .ifCond .ne 5, 3) :: (8, .iconst 0, 1) :: (9, .ireturn, 1) :: []
theorem o_X7_endFirst_0 : Chn cX7_endFirst B_X7_endFirst_0 := chn_of _ (by decide +kernel)
theorem fl_7_26 : FLk RX7 26 7 6 3 true := ⟨RX7, TX7, 17, "IntegerHouse$Prover", "caseVariable", "[I", rfl, by decide, rfl, Or.inl (allW_in (kT_3 _ (List.mem_of_getElem? (i := 123) rfl)) rfl), rfl, (fun h => absurd h (by decide)), (fun h => absurd h (by decide)), (fun h => absurd h (by decide)), (fun h => absurd h (by decide))⟩
theorem fl_7_29 : FLk RX7 29 7 7 3 true := ⟨RX7, TX7, 17, "IntegerHouse$Prover", "caseNumber", "[I", rfl, by decide, rfl, Or.inl (allW_in (kT_3 _ (List.mem_of_getElem? (i := 124) rfl)) rfl), rfl, (fun h => absurd h (by decide)), (fun h => absurd h (by decide)), (fun h => absurd h (by decide)), (fun h => absurd h (by decide))⟩
abbrev cX7_openCase : ByteArray := prog_9_method_14_code
def yX7_openCase : MethodName := ⟨RX7, "openCase", "()Z"⟩
def M_X7_openCase : MT := (yX7_openCase, cX7_openCase, 2, (some .boolean), RX7, 1)
theorem mk_X7_openCase : MokV M_X7_openCase 7 0 := ⟨⟨⟨by decide, by decide, rfl⟩, (allW_in (kT_8 _ (List.mem_of_getElem? (i := 133) rfl)) rfl), (allW_in (kT_1 _ (List.mem_of_getElem? (i := 16) rfl)) rfl), by decide⟩, ⟨TX7, 17, rfl⟩, (allW_in (kT_8 _ (List.mem_of_getElem? (i := 132) rfl)) rfl), (allW_in (kTs_8 _ (List.mem_of_getElem? (i := 15) rfl)) rfl)⟩
def B_X7_openCase_39 : Blk := (39, .aload_n 0, 1) :: (40, .getfield 19, 3) :: (43, .iload_n 1, 1) :: (44, .lconst 1, 1) :: (45, .lastore, 1) :: (46, .aload_n 0, 1) :: (47, .getfield 19, 3) :: (50, .iconst 4, 1) :: (51, .aload_n 0, 1) :: (52, .getfield 22, 3) :: (55, .iconst 0, 1) :: (56, .iaload, 1) :: (57, .i2l, 1) :: (58, .lastore, 1) :: (59, .aload_n 0, 1) :: (60, .getfield 26, 3) :: (63, .aload_n 0, 1) :: (64, .getfield 56, 3) :: (67, .iload_n 1, 1) :: (68, .iastore, 1) :: (69, .aload_n 0, 1) :: (70, .getfield 29, 3) :: (73, .aload_n 0, 1) :: (74, .getfield 56, 3) :: (77, .aload_n 0, 1) :: (78, .getfield 22, 3) :: (81, .iconst 0, 1) :: (82, .iaload, 1) :: (83, .iastore, 1) :: (84, .aload_n 0, 1) :: (85, .getfield 32, 3) :: (88, .aload_n 0, 1) :: (89, .getfield 56, 3) :: (92, .aload_n 0, 1) :: (93, .getfield 46, 3) :: (96, .iastore, 1) :: (97, .aload_n 0, 1) :: (98, .getfield 35, 3) :: (101, .aload_n 0, 1) :: (102, .getfield 56, 3) :: (105, .iconst 0, 1) :: (106, .bastore, 1) :: (107, .aload_n 0, 1) :: (108, .dup, 1) :: (109, .getfield 56, 3) :: (112, .iconst 1, 1) :: (113, .iadd, 1) :: (114, .putfield 56, 3) :: (117, .iconst 1, 1) :: (118, .ireturn, 1) :: []
theorem o_X7_openCase_39 : Chn cX7_openCase B_X7_openCase_39 := chn_of _ (by decide +kernel)
def B_X7_openCase_37 : Blk := (37, .iconst 0, 1) :: (38, .ireturn, 1) :: []
theorem o_X7_openCase_37 : Chn cX7_openCase B_X7_openCase_37 := chn_of _ (by decide +kernel)
def B_X7_openCase_0 : Blk := (0, .aload_n 0, 1) :: (1, .getfield 42, 3) :: (4, .aload_n 0, 1) :: (5, .getfield 93, 3) :: (8, .invokevirtual 173, 3) :: (11, .istore_n 1, 1) :: (12, .iload_n 1, 1) :: (13, .ifCond .lt 24, 3) :: (16, .iload_n 1, 1) :: (17, .iconst 4, 1) :: (18, .if_icmp .ge 19, 3) :: (21, .aload_n 0, 1) :: (22, .getfield 56, 3) :: (25, .ifCond .lt 12, 3) :: (28, .aload_n 0, 1) :: (29, .getfield 56, 3) :: (32, .bipush 20, 2) :: (34, .if_icmp .lt 5, 3) :: B_X7_openCase_37
theorem o_X7_openCase_0 : Chn cX7_openCase B_X7_openCase_0 := chn_app ((0, .aload_n 0, 1) :: (1, .getfield 42, 3) :: (4, .aload_n 0, 1) :: (5, .getfield 93, 3) :: (8, .invokevirtual 173, 3) :: (11, .istore_n 1, 1) :: (12, .iload_n 1, 1) :: (13, .ifCond .lt 24, 3) :: (16, .iload_n 1, 1) :: (17, .iconst 4, 1) :: (18, .if_icmp .ge 19, 3) :: (21, .aload_n 0, 1) :: (22, .getfield 56, 3) :: (25, .ifCond .lt 12, 3) :: (28, .aload_n 0, 1) :: (29, .getfield 56, 3) :: (32, .bipush 20, 2) :: (34, .if_icmp .lt 5, 3) :: []) o_X7_openCase_37 (by decide +kernel)
theorem fl_7_42 : FLk RX7 42 7 1 3 true := ⟨RX7, TX7, 17, "IntegerHouse$Prover", "house", "LIntegerHouse$House;", rfl, by decide, rfl, Or.inl (allW_in (kT_3 _ (List.mem_of_getElem? (i := 118) rfl)) rfl), rfl, (fun h => absurd h (by decide)), (fun h => absurd h (by decide)), (fun h => absurd h (by decide)), (fun h => absurd h (by decide))⟩
theorem fl_7_93 : FLk RX7 93 7 16 2 false := ⟨RX7, TX7, 17, "IntegerHouse$Prover", "name", "J", rfl, by decide, rfl, Or.inl (allW_in (kT_3 _ (List.mem_of_getElem? (i := 135) rfl)) rfl), rfl, (fun h => absurd h (by decide)), (fun h => absurd h (by decide)), (fun _ => rfl), (fun h => absurd h (by decide))⟩
theorem ml_7_173 : MLk RX7 173 yX2_variableOf := Or.inl (allW_in (kT_8 _ (List.mem_of_getElem? (i := 134) rfl)) rfl)
abbrev cX7_isKnown : ByteArray := prog_9_method_11_code
def yX7_isKnown : MethodName := ⟨RX7, "isKnown", "(I)Z"⟩
def M_X7_isKnown : MT := (yX7_isKnown, cX7_isKnown, 2, (some .boolean), RX7, 1)
theorem mk_X7_isKnown : MokV M_X7_isKnown 7 1 := ⟨⟨⟨by decide, by decide, rfl⟩, (allW_in (kT_8 _ (List.mem_of_getElem? (i := 120) rfl)) rfl), (allW_in (kT_1 _ (List.mem_of_getElem? (i := 16) rfl)) rfl), by decide⟩, ⟨TX7, 17, rfl⟩, (allW_in (kT_8 _ (List.mem_of_getElem? (i := 119) rfl)) rfl), (allW_in (kTs_8 _ (List.mem_of_getElem? (i := 13) rfl)) rfl)⟩
def B_X7_isKnown_36 : Blk := (36, .ireturn, 1) :: []
theorem o_X7_isKnown_36 : Chn cX7_isKnown B_X7_isKnown_36 := chn_of _ (by decide +kernel)
def B_X7_isKnown_35 : Blk := (35, .iconst 0, 1) :: B_X7_isKnown_36
theorem o_X7_isKnown_35 : Chn cX7_isKnown B_X7_isKnown_35 := chn_app ((35, .iconst 0, 1) :: []) o_X7_isKnown_36 (by decide +kernel)
def B_X7_isKnown_0 : Blk := (0, .iload_n 1, 1) :: (1, .iconst 1, 1) :: (2, .if_icmp .lt 33, 3) :: (5, .iload_n 1, 1) :: (6, .aload_n 0, 1) :: (7, .getfield 46, 3) :: (10, .if_icmp .gt 25, 3) :: (13, .iload_n 1, 1) :: (14, .sipush 200, 3) :: (17, .if_icmp .gt 18, 3) :: (20, .aload_n 0, 1) :: (21, .getfield 15, 3) :: (24, .iload_n 1, 1) :: (25, .iconst 1, 1) :: (26, .isub, 1) :: (27, .baload, 1) :: (28, .ifCond .eq 7, 3) :: (31, .iconst 1, 1) :: (32, .goto 4, 3) :: []
theorem o_X7_isKnown_0 : Chn cX7_isKnown B_X7_isKnown_0 := chn_of _ (by decide +kernel)
abbrev cJ9_floorDiv_f86c9 : ByteArray := prog_20_method_49_code
def yJ9_floorDiv_f86c9 : MethodName := ⟨RJ9, "floorDiv", "(JJ)J"⟩
def M_J9_floorDiv_f86c9 : MT := (yJ9_floorDiv_f86c9, cJ9_floorDiv_f86c9, 6, (some .long), RJ9, 2)
theorem mk_J9_floorDiv_f86c9 : MokS M_J9_floorDiv_f86c9 2 := ⟨⟨⟨by decide, by decide, rfl⟩, (allW_in (kT_8 _ (List.mem_of_getElem? (i := 29) rfl)) rfl), (allW_in (kT_1 _ (List.mem_of_getElem? (i := 23) rfl)) rfl), by decide⟩, (allW_in (kT_8 _ (List.mem_of_getElem? (i := 28) rfl)) rfl)⟩
def B_J9_floorDiv_f86c9_27 : Blk := (27, .lload 4, 2) :: (29, .lreturn, 1) :: []
theorem o_J9_floorDiv_f86c9_27 : Chn cJ9_floorDiv_f86c9 B_J9_floorDiv_f86c9_27 := chn_of _ (by decide +kernel)
def B_J9_floorDiv_f86c9_0 : Blk := (0, .lload_n 0, 1) :: (1, .lload_n 2, 1) :: (2, .ldiv, 1) :: (3, .lstore 4, 2) :: (5, .lload_n 0, 1) :: (6, .lload_n 2, 1) :: (7, .lxor, 1) :: (8, .lconst 0, 1) :: (9, .lcmp, 1) :: (10, .ifCond .ge 17, 3) :: (13, .lload 4, 2) :: (15, .lload_n 2, 1) :: (16, .lmul, 1) :: (17, .lload_n 0, 1) :: (18, .lcmp, 1) :: (19, .ifCond .eq 8, 3) :: (22, .lload 4, 2) :: (24, .lconst 1, 1) :: (25, .lsub, 1) :: (26, .lreturn, 1) :: []
theorem o_J9_floorDiv_f86c9_0 : Chn cJ9_floorDiv_f86c9 B_J9_floorDiv_f86c9_0 := chn_of _ (by decide +kernel)
abbrev cX7_takeCut : ByteArray := prog_9_method_13_code
def yX7_takeCut : MethodName := ⟨RX7, "takeCut", "()Z"⟩
def M_X7_takeCut : MT := (yX7_takeCut, cX7_takeCut, 6, (some .boolean), RX7, 1)
theorem mk_X7_takeCut : MokV M_X7_takeCut 7 0 := ⟨⟨⟨by decide, by decide, rfl⟩, (allW_in (kT_8 _ (List.mem_of_getElem? (i := 128) rfl)) rfl), (allW_in (kT_1 _ (List.mem_of_getElem? (i := 16) rfl)) rfl), by decide⟩, ⟨TX7, 17, rfl⟩, (allW_in (kT_8 _ (List.mem_of_getElem? (i := 127) rfl)) rfl), (allW_in (kTs_8 _ (List.mem_of_getElem? (i := 14) rfl)) rfl)⟩
def B_X7_takeCut_91 : Blk := (91, .iload_n 2, 1) :: (92, .ireturn, 1) :: []
theorem o_X7_takeCut_91 : Chn cX7_takeCut B_X7_takeCut_91 := chn_of _ (by decide +kernel)
def B_X7_takeCut_70 : Blk := (70, .iand, 1) :: (71, .istore_n 2, 1) :: (72, .aload_n 0, 1) :: (73, .getfield 19, 3) :: (76, .iload_n 3, 1) :: (77, .lload 4, 2) :: (79, .iload_n 1, 1) :: (80, .i2l, 1) :: (81, .invokestatic 169, 3) :: (84, .lastore, 1) :: (85, .iinc 3 1, 3) :: (88, .goto (-57), 3) :: []
theorem o_X7_takeCut_70 : Chn cX7_takeCut B_X7_takeCut_70 := chn_of _ (by decide +kernel)
def B_X7_takeCut_69 : Blk := (69, .iconst 0, 1) :: B_X7_takeCut_70
theorem o_X7_takeCut_69 : Chn cX7_takeCut B_X7_takeCut_69 := chn_app ((69, .iconst 0, 1) :: []) o_X7_takeCut_70 (by decide +kernel)
def B_X7_takeCut_65 : Blk := (65, .iconst 1, 1) :: (66, .goto 4, 3) :: []
theorem o_X7_takeCut_65 : Chn cX7_takeCut B_X7_takeCut_65 := chn_of _ (by decide +kernel)
def B_X7_takeCut_31 : Blk := (31, .iload_n 3, 1) :: (32, .iconst 5, 1) :: (33, .if_icmp .ge 58, 3) :: (36, .aload_n 0, 1) :: (37, .aload_n 0, 1) :: (38, .getfield 22, 3) :: (41, .iconst 0, 1) :: (42, .iaload, 1) :: (43, .iload_n 3, 1) :: (44, .invokevirtual 165, 3) :: (47, .lstore 4, 2) :: (49, .iload_n 2, 1) :: (50, .iload_n 3, 1) :: (51, .iconst 4, 1) :: (52, .if_icmp .eq 13, 3) :: (55, .lload 4, 2) :: (57, .iload_n 1, 1) :: (58, .i2l, 1) :: (59, .lrem, 1) :: (60, .lconst 0, 1) :: (61, .lcmp, 1) :: (62, .ifCond .ne 7, 3) :: B_X7_takeCut_65
theorem o_X7_takeCut_31 : Chn cX7_takeCut B_X7_takeCut_31 := chn_app ((31, .iload_n 3, 1) :: (32, .iconst 5, 1) :: (33, .if_icmp .ge 58, 3) :: (36, .aload_n 0, 1) :: (37, .aload_n 0, 1) :: (38, .getfield 22, 3) :: (41, .iconst 0, 1) :: (42, .iaload, 1) :: (43, .iload_n 3, 1) :: (44, .invokevirtual 165, 3) :: (47, .lstore 4, 2) :: (49, .iload_n 2, 1) :: (50, .iload_n 3, 1) :: (51, .iconst 4, 1) :: (52, .if_icmp .eq 13, 3) :: (55, .lload 4, 2) :: (57, .iload_n 1, 1) :: (58, .i2l, 1) :: (59, .lrem, 1) :: (60, .lconst 0, 1) :: (61, .lcmp, 1) :: (62, .ifCond .ne 7, 3) :: []) o_X7_takeCut_65 (by decide +kernel)
def B_X7_takeCut_27 : Blk := (27, .iconst 1, 1) :: (28, .istore_n 2, 1) :: (29, .iconst 0, 1) :: (30, .istore_n 3, 1) :: B_X7_takeCut_31
theorem o_X7_takeCut_27 : Chn cX7_takeCut B_X7_takeCut_27 := chn_app ((27, .iconst 1, 1) :: (28, .istore_n 2, 1) :: (29, .iconst 0, 1) :: (30, .istore_n 3, 1) :: []) o_X7_takeCut_31 (by decide +kernel)
def B_X7_takeCut_25 : Blk := (25, .iconst 0, 1) :: (26, .ireturn, 1) :: []
theorem o_X7_takeCut_25 : Chn cX7_takeCut B_X7_takeCut_25 := chn_of _ (by decide +kernel)
def B_X7_takeCut_0 : Blk := (0, .aload_n 0, 1) :: (1, .getfield 22, 3) :: (4, .iconst 1, 1) :: (5, .iaload, 1) :: (6, .istore_n 1, 1) :: (7, .aload_n 0, 1) :: (8, .aload_n 0, 1) :: (9, .getfield 22, 3) :: (12, .iconst 0, 1) :: (13, .iaload, 1) :: (14, .invokevirtual 162, 3) :: (17, .ifCond .eq 8, 3) :: (20, .iload_n 1, 1) :: (21, .iconst 1, 1) :: (22, .if_icmp .ge 5, 3) :: B_X7_takeCut_25
theorem o_X7_takeCut_0 : Chn cX7_takeCut B_X7_takeCut_0 := chn_app ((0, .aload_n 0, 1) :: (1, .getfield 22, 3) :: (4, .iconst 1, 1) :: (5, .iaload, 1) :: (6, .istore_n 1, 1) :: (7, .aload_n 0, 1) :: (8, .aload_n 0, 1) :: (9, .getfield 22, 3) :: (12, .iconst 0, 1) :: (13, .iaload, 1) :: (14, .invokevirtual 162, 3) :: (17, .ifCond .eq 8, 3) :: (20, .iload_n 1, 1) :: (21, .iconst 1, 1) :: (22, .if_icmp .ge 5, 3) :: []) o_X7_takeCut_25 (by decide +kernel)
theorem ml_7_162 : MLk RX7 162 yX7_isKnown := Or.inl (allW_in (kT_8 _ (List.mem_of_getElem? (i := 117) rfl)) rfl)
theorem ml_7_169 : MLk RX7 169 yJ9_floorDiv_f86c9 := Or.inl (allW_in (kT_8 _ (List.mem_of_getElem? (i := 129) rfl)) rfl)
abbrev cX7_takeSum : ByteArray := prog_9_method_12_code
def yX7_takeSum : MethodName := ⟨RX7, "takeSum", "()Z"⟩
def M_X7_takeSum : MT := (yX7_takeSum, cX7_takeSum, 2, (some .boolean), RX7, 1)
theorem mk_X7_takeSum : MokV M_X7_takeSum 7 0 := ⟨⟨⟨by decide, by decide, rfl⟩, (allW_in (kT_8 _ (List.mem_of_getElem? (i := 116) rfl)) rfl), (allW_in (kT_1 _ (List.mem_of_getElem? (i := 16) rfl)) rfl), by decide⟩, ⟨TX7, 17, rfl⟩, (allW_in (kT_8 _ (List.mem_of_getElem? (i := 115) rfl)) rfl), (allW_in (kTs_8 _ (List.mem_of_getElem? (i := 12) rfl)) rfl)⟩
def B_X7_takeSum_86 : Blk := (86, .iconst 1, 1) :: (87, .ireturn, 1) :: []
theorem o_X7_takeSum_86 : Chn cX7_takeSum B_X7_takeSum_86 := chn_of _ (by decide +kernel)
def B_X7_takeSum_30 : Blk := (30, .iload_n 1, 1) :: (31, .iconst 5, 1) :: (32, .if_icmp .ge 54, 3) :: (35, .aload_n 0, 1) :: (36, .getfield 19, 3) :: (39, .iload_n 1, 1) :: (40, .aload_n 0, 1) :: (41, .getfield 22, 3) :: (44, .iconst 0, 1) :: (45, .iaload, 1) :: (46, .i2l, 1) :: (47, .aload_n 0, 1) :: (48, .aload_n 0, 1) :: (49, .getfield 22, 3) :: (52, .iconst 1, 1) :: (53, .iaload, 1) :: (54, .iload_n 1, 1) :: (55, .invokevirtual 165, 3) :: (58, .lmul, 1) :: (59, .aload_n 0, 1) :: (60, .getfield 22, 3) :: (63, .iconst 2, 1) :: (64, .iaload, 1) :: (65, .i2l, 1) :: (66, .aload_n 0, 1) :: (67, .aload_n 0, 1) :: (68, .getfield 22, 3) :: (71, .iconst 3, 1) :: (72, .iaload, 1) :: (73, .iload_n 1, 1) :: (74, .invokevirtual 165, 3) :: (77, .lmul, 1) :: (78, .ladd, 1) :: (79, .lastore, 1) :: (80, .iinc 1 1, 3) :: (83, .goto (-53), 3) :: []
theorem o_X7_takeSum_30 : Chn cX7_takeSum B_X7_takeSum_30 := chn_of _ (by decide +kernel)
def B_X7_takeSum_28 : Blk := (28, .iconst 0, 1) :: (29, .istore_n 1, 1) :: B_X7_takeSum_30
theorem o_X7_takeSum_28 : Chn cX7_takeSum B_X7_takeSum_28 := chn_app ((28, .iconst 0, 1) :: (29, .istore_n 1, 1) :: []) o_X7_takeSum_30 (by decide +kernel)
def B_X7_takeSum_26 : Blk := (26, .iconst 0, 1) :: (27, .ireturn, 1) :: []
theorem o_X7_takeSum_26 : Chn cX7_takeSum B_X7_takeSum_26 := chn_of _ (by decide +kernel)
def B_X7_takeSum_0 : Blk := (0, .aload_n 0, 1) :: (1, .aload_n 0, 1) :: (2, .getfield 22, 3) :: (5, .iconst 1, 1) :: (6, .iaload, 1) :: (7, .invokevirtual 162, 3) :: (10, .ifCond .eq 16, 3) :: (13, .aload_n 0, 1) :: (14, .aload_n 0, 1) :: (15, .getfield 22, 3) :: (18, .iconst 3, 1) :: (19, .iaload, 1) :: (20, .invokevirtual 162, 3) :: (23, .ifCond .ne 5, 3) :: B_X7_takeSum_26
theorem o_X7_takeSum_0 : Chn cX7_takeSum B_X7_takeSum_0 := chn_app ((0, .aload_n 0, 1) :: (1, .aload_n 0, 1) :: (2, .getfield 22, 3) :: (5, .iconst 1, 1) :: (6, .iaload, 1) :: (7, .invokevirtual 162, 3) :: (10, .ifCond .eq 16, 3) :: (13, .aload_n 0, 1) :: (14, .aload_n 0, 1) :: (15, .getfield 22, 3) :: (18, .iconst 3, 1) :: (19, .iaload, 1) :: (20, .invokevirtual 162, 3) :: (23, .ifCond .ne 5, 3) :: []) o_X7_takeSum_26 (by decide +kernel)
abbrev cX7_takeAtom : ByteArray := prog_9_method_10_code
def yX7_takeAtom : MethodName := ⟨RX7, "takeAtom", "()Z"⟩
def M_X7_takeAtom : MT := (yX7_takeAtom, cX7_takeAtom, 5, (some .boolean), RX7, 1)
theorem mk_X7_takeAtom : MokV M_X7_takeAtom 7 0 := ⟨⟨⟨by decide, by decide, rfl⟩, (allW_in (kT_8 _ (List.mem_of_getElem? (i := 102) rfl)) rfl), (allW_in (kT_1 _ (List.mem_of_getElem? (i := 16) rfl)) rfl), by decide⟩, ⟨TX7, 17, rfl⟩, (allW_in (kT_8 _ (List.mem_of_getElem? (i := 101) rfl)) rfl), (allW_in (kTs_8 _ (List.mem_of_getElem? (i := 10) rfl)) rfl)⟩
def B_X7_takeAtom_124 : Blk := (124, .iconst 1, 1) :: (125, .ireturn, 1) :: []
theorem o_X7_takeAtom_124 : Chn cX7_takeAtom B_X7_takeAtom_124 := chn_of _ (by decide +kernel)
def B_X7_takeAtom_86 : Blk := (86, .iload 4, 2) :: (88, .iconst 5, 1) :: (89, .if_icmp .ge 35, 3) :: (92, .aload_n 0, 1) :: (93, .getfield 19, 3) :: (96, .iload 4, 2) :: (98, .aload_n 0, 1) :: (99, .getfield 42, 3) :: (102, .aload_n 0, 1) :: (103, .getfield 42, 3) :: (106, .iload_n 1, 1) :: (107, .iload_n 2, 1) :: (108, .invokevirtual 156, 3) :: (111, .iload 4, 2) :: (113, .invokevirtual 159, 3) :: (116, .i2l, 1) :: (117, .lastore, 1) :: (118, .iinc 4 1, 3) :: (121, .goto (-35), 3) :: []
theorem o_X7_takeAtom_86 : Chn cX7_takeAtom B_X7_takeAtom_86 := chn_of _ (by decide +kernel)
def B_X7_takeAtom_83 : Blk := (83, .iconst 0, 1) :: (84, .istore 4, 2) :: B_X7_takeAtom_86
theorem o_X7_takeAtom_83 : Chn cX7_takeAtom B_X7_takeAtom_83 := chn_app ((83, .iconst 0, 1) :: (84, .istore 4, 2) :: []) o_X7_takeAtom_86 (by decide +kernel)
def B_X7_takeAtom_81 : Blk := (81, .iconst 0, 1) :: (82, .ireturn, 1) :: []
theorem o_X7_takeAtom_81 : Chn cX7_takeAtom B_X7_takeAtom_81 := chn_of _ (by decide +kernel)
def B_X7_takeAtom_59 : Blk := (59, .istore_n 3, 1) :: (60, .iload_n 3, 1) :: (61, .ifCond .eq 20, 3) :: (64, .iload_n 2, 1) :: (65, .ifCond .lt 16, 3) :: (68, .iload_n 2, 1) :: (69, .aload_n 0, 1) :: (70, .getfield 42, 3) :: (73, .iload_n 1, 1) :: (74, .iconst 4, 1) :: (75, .invokevirtual 149, 3) :: (78, .if_icmp .lt 5, 3) :: B_X7_takeAtom_81
theorem o_X7_takeAtom_59 : Chn cX7_takeAtom B_X7_takeAtom_59 := chn_app ((59, .istore_n 3, 1) :: (60, .iload_n 3, 1) :: (61, .ifCond .eq 20, 3) :: (64, .iload_n 2, 1) :: (65, .ifCond .lt 16, 3) :: (68, .iload_n 2, 1) :: (69, .aload_n 0, 1) :: (70, .getfield 42, 3) :: (73, .iload_n 1, 1) :: (74, .iconst 4, 1) :: (75, .invokevirtual 149, 3) :: (78, .if_icmp .lt 5, 3) :: []) o_X7_takeAtom_81 (by decide +kernel)
def B_X7_takeAtom_58 : Blk := (58, .iconst 0, 1) :: B_X7_takeAtom_59
theorem o_X7_takeAtom_58 : Chn cX7_takeAtom B_X7_takeAtom_58 := chn_app ((58, .iconst 0, 1) :: []) o_X7_takeAtom_59 (by decide +kernel)
def B_X7_takeAtom_0 : Blk := (0, .aload_n 0, 1) :: (1, .getfield 42, 3) :: (4, .aload_n 0, 1) :: (5, .getfield 93, 3) :: (8, .invokevirtual 143, 3) :: (11, .istore_n 1, 1) :: (12, .aload_n 0, 1) :: (13, .getfield 22, 3) :: (16, .iconst 0, 1) :: (17, .iaload, 1) :: (18, .iconst 1, 1) :: (19, .isub, 1) :: (20, .istore_n 2, 1) :: (21, .iload_n 1, 1) :: (22, .iconst (-1), 1) :: (23, .if_icmp .eq 35, 3) :: (26, .aload_n 0, 1) :: (27, .getfield 42, 3) :: (30, .iload_n 1, 1) :: (31, .iconst 5, 1) :: (32, .invokevirtual 149, 3) :: (35, .iconst 1, 1) :: (36, .if_icmp .ne 22, 3) :: (39, .aload_n 0, 1) :: (40, .getfield 42, 3) :: (43, .getfield 153, 3) :: (46, .iload_n 1, 1) :: (47, .iushr, 1) :: (48, .iconst 1, 1) :: (49, .iand, 1) :: (50, .iconst 1, 1) :: (51, .if_icmp .ne 7, 3) :: (54, .iconst 1, 1) :: (55, .goto 4, 3) :: []
theorem o_X7_takeAtom_0 : Chn cX7_takeAtom B_X7_takeAtom_0 := chn_of _ (by decide +kernel)
theorem ml_7_143 : MLk RX7 143 yX2_claimOf := Or.inl (allW_in (kT_8 _ (List.mem_of_getElem? (i := 103) rfl)) rfl)
theorem ml_7_149 : MLk RX7 149 yX2_fact := Or.inl (allW_in (kT_8 _ (List.mem_of_getElem? (i := 104) rfl)) rfl)
theorem ml_7_156 : MLk RX7 156 yX2_atomOf := Or.inl (allW_in (kT_8 _ (List.mem_of_getElem? (i := 105) rfl)) rfl)
theorem ml_7_159 : MLk RX7 159 yX2_pooled := Or.inl (allW_in (kT_8 _ (List.mem_of_getElem? (i := 106) rfl)) rfl)
theorem fl_7_153 : FLk RX7 153 2 13 0 false := ⟨RX2, TX2, 16, "IntegerHouse$House", "on", "I", rfl, by decide, rfl, Or.inr ⟨"IntegerHouse", List.mem_of_getElem? (i := 19) rfl⟩, rfl, (fun _ => rfl), (fun h => absurd h (by decide)), (fun h => absurd h (by decide)), (fun h => absurd h (by decide))⟩
abbrev cX7_isDone : ByteArray := prog_9_method_8_code
def yX7_isDone : MethodName := ⟨RX7, "isDone", "(I)Z"⟩
def M_X7_isDone : MT := (yX7_isDone, cX7_isDone, 2, (some .boolean), RX7, 1)
theorem mk_X7_isDone : MokV M_X7_isDone 7 1 := ⟨⟨⟨by decide, by decide, rfl⟩, (allW_in (kT_8 _ (List.mem_of_getElem? (i := 97) rfl)) rfl), (allW_in (kT_1 _ (List.mem_of_getElem? (i := 16) rfl)) rfl), by decide⟩, ⟨TX7, 17, rfl⟩, (allW_in (kT_8 _ (List.mem_of_getElem? (i := 96) rfl)) rfl), (allW_in (kTs_8 _ (List.mem_of_getElem? (i := 9) rfl)) rfl)⟩
def B_X7_isDone_180 : Blk := (180, .iconst 0, 1) :: (181, .ireturn, 1) :: []
theorem o_X7_isDone_180 : Chn cX7_isDone B_X7_isDone_180 := chn_of _ (by decide +kernel)
def B_X7_isDone_179 : Blk := (179, .ireturn, 1) :: []
theorem o_X7_isDone_179 : Chn cX7_isDone B_X7_isDone_179 := chn_of _ (by decide +kernel)
def B_X7_isDone_178 : Blk := (178, .iconst 0, 1) :: B_X7_isDone_179
theorem o_X7_isDone_178 : Chn cX7_isDone B_X7_isDone_178 := chn_app ((178, .iconst 0, 1) :: []) o_X7_isDone_179 (by decide +kernel)
def B_X7_isDone_160 : Blk := (160, .aload_n 0, 1) :: (161, .invokevirtual 132, 3) :: (164, .ifCond .eq 14, 3) :: (167, .aload_n 0, 1) :: (168, .invokevirtual 117, 3) :: (171, .ifCond .eq 7, 3) :: (174, .iconst 1, 1) :: (175, .goto 4, 3) :: []
theorem o_X7_isDone_160 : Chn cX7_isDone B_X7_isDone_160 := chn_of _ (by decide +kernel)
def B_X7_isDone_159 : Blk := (159, .ireturn, 1) :: []
theorem o_X7_isDone_159 : Chn cX7_isDone B_X7_isDone_159 := chn_of _ (by decide +kernel)
def B_X7_isDone_158 : Blk := (158, .iconst 0, 1) :: B_X7_isDone_159
theorem o_X7_isDone_158 : Chn cX7_isDone B_X7_isDone_158 := chn_app ((158, .iconst 0, 1) :: []) o_X7_isDone_159 (by decide +kernel)
def B_X7_isDone_140 : Blk := (140, .aload_n 0, 1) :: (141, .invokevirtual 129, 3) :: (144, .ifCond .eq 14, 3) :: (147, .aload_n 0, 1) :: (148, .invokevirtual 117, 3) :: (151, .ifCond .eq 7, 3) :: (154, .iconst 1, 1) :: (155, .goto 4, 3) :: []
theorem o_X7_isDone_140 : Chn cX7_isDone B_X7_isDone_140 := chn_of _ (by decide +kernel)
def B_X7_isDone_139 : Blk := (139, .ireturn, 1) :: []
theorem o_X7_isDone_139 : Chn cX7_isDone B_X7_isDone_139 := chn_of _ (by decide +kernel)
def B_X7_isDone_138 : Blk := (138, .iconst 0, 1) :: B_X7_isDone_139
theorem o_X7_isDone_138 : Chn cX7_isDone B_X7_isDone_138 := chn_app ((138, .iconst 0, 1) :: []) o_X7_isDone_139 (by decide +kernel)
def B_X7_isDone_120 : Blk := (120, .aload_n 0, 1) :: (121, .invokevirtual 126, 3) :: (124, .ifCond .eq 14, 3) :: (127, .aload_n 0, 1) :: (128, .invokevirtual 117, 3) :: (131, .ifCond .eq 7, 3) :: (134, .iconst 1, 1) :: (135, .goto 4, 3) :: []
theorem o_X7_isDone_120 : Chn cX7_isDone B_X7_isDone_120 := chn_of _ (by decide +kernel)
def B_X7_isDone_119 : Blk := (119, .ireturn, 1) :: []
theorem o_X7_isDone_119 : Chn cX7_isDone B_X7_isDone_119 := chn_of _ (by decide +kernel)
def B_X7_isDone_118 : Blk := (118, .iconst 0, 1) :: B_X7_isDone_119
theorem o_X7_isDone_118 : Chn cX7_isDone B_X7_isDone_118 := chn_app ((118, .iconst 0, 1) :: []) o_X7_isDone_119 (by decide +kernel)
def B_X7_isDone_100 : Blk := (100, .aload_n 0, 1) :: (101, .invokevirtual 123, 3) :: (104, .ifCond .eq 14, 3) :: (107, .aload_n 0, 1) :: (108, .invokevirtual 117, 3) :: (111, .ifCond .eq 7, 3) :: (114, .iconst 1, 1) :: (115, .goto 4, 3) :: []
theorem o_X7_isDone_100 : Chn cX7_isDone B_X7_isDone_100 := chn_of _ (by decide +kernel)
def B_X7_isDone_99 : Blk := (99, .ireturn, 1) :: []
theorem o_X7_isDone_99 : Chn cX7_isDone B_X7_isDone_99 := chn_of _ (by decide +kernel)
def B_X7_isDone_98 : Blk := (98, .iconst 0, 1) :: B_X7_isDone_99
theorem o_X7_isDone_98 : Chn cX7_isDone B_X7_isDone_98 := chn_app ((98, .iconst 0, 1) :: []) o_X7_isDone_99 (by decide +kernel)
def B_X7_isDone_80 : Blk := (80, .aload_n 0, 1) :: (81, .invokevirtual 120, 3) :: (84, .ifCond .eq 14, 3) :: (87, .aload_n 0, 1) :: (88, .invokevirtual 117, 3) :: (91, .ifCond .eq 7, 3) :: (94, .iconst 1, 1) :: (95, .goto 4, 3) :: []
theorem o_X7_isDone_80 : Chn cX7_isDone B_X7_isDone_80 := chn_of _ (by decide +kernel)
def B_X7_isDone_79 : Blk := (79, .ireturn, 1) :: []
theorem o_X7_isDone_79 : Chn cX7_isDone B_X7_isDone_79 := chn_of _ (by decide +kernel)
def B_X7_isDone_78 : Blk := (78, .iconst 0, 1) :: B_X7_isDone_79
theorem o_X7_isDone_78 : Chn cX7_isDone B_X7_isDone_78 := chn_app ((78, .iconst 0, 1) :: []) o_X7_isDone_79 (by decide +kernel)
def B_X7_isDone_60 : Blk := (60, .aload_n 0, 1) :: (61, .invokevirtual 114, 3) :: (64, .ifCond .eq 14, 3) :: (67, .aload_n 0, 1) :: (68, .invokevirtual 117, 3) :: (71, .ifCond .eq 7, 3) :: (74, .iconst 1, 1) :: (75, .goto 4, 3) :: []
theorem o_X7_isDone_60 : Chn cX7_isDone B_X7_isDone_60 := chn_of _ (by decide +kernel)
def B_X7_isDone_12 : Blk := (12, .aload_n 0, 1) :: (13, .getfield 19, 3) :: (16, .lconst 0, 1) :: (17, .invokestatic 108, 3) :: (20, .iload_n 1, 1) :: (21, .tableswitch 159 35 40 #[39, 59, 79, 99, 119, 139], 39) :: []
theorem o_X7_isDone_12 : Chn cX7_isDone B_X7_isDone_12 := chn_of _ (by decide +kernel)
def B_X7_isDone_0 : Blk := (0, .aload_n 0, 1) :: (1, .getfield 46, 3) :: (4, .sipush 200, 3) :: (7, .if_icmp .lt 5, 3) :: (10, .iconst 0, 1) :: (11, .ireturn, 1) :: []
theorem o_X7_isDone_0 : Chn cX7_isDone B_X7_isDone_0 := chn_of _ (by decide +kernel)
theorem ml_7_108 : MLk RX7 108 yJ7_fill_d0a16 := Or.inl (allW_in (kT_8 _ (List.mem_of_getElem? (i := 98) rfl)) rfl)
theorem ml_7_114 : MLk RX7 114 yX7_takeAtom := Or.inl (allW_in (kT_8 _ (List.mem_of_getElem? (i := 99) rfl)) rfl)
theorem ml_7_117 : MLk RX7 117 yX7_addLine := Or.inl (allW_in (kT_8 _ (List.mem_of_getElem? (i := 107) rfl)) rfl)
theorem ml_7_120 : MLk RX7 120 yX7_takeSum := Or.inl (allW_in (kT_8 _ (List.mem_of_getElem? (i := 113) rfl)) rfl)
theorem ml_7_123 : MLk RX7 123 yX7_takeCut := Or.inl (allW_in (kT_8 _ (List.mem_of_getElem? (i := 125) rfl)) rfl)
theorem ml_7_126 : MLk RX7 126 yX7_openCase := Or.inl (allW_in (kT_8 _ (List.mem_of_getElem? (i := 130) rfl)) rfl)
theorem ml_7_129 : MLk RX7 129 yX7_endFirst := Or.inl (allW_in (kT_8 _ (List.mem_of_getElem? (i := 135) rfl)) rfl)
theorem ml_7_132 : MLk RX7 132 yX7_endSecond := Or.inl (allW_in (kT_8 _ (List.mem_of_getElem? (i := 149) rfl)) rfl)
abbrev cX7_readLine : ByteArray := prog_9_method_5_code
def yX7_readLine : MethodName := ⟨RX7, "readLine", "()V"⟩
def M_X7_readLine : MT := (yX7_readLine, cX7_readLine, 6, none, RX7, 0)
theorem mk_X7_readLine : MokV M_X7_readLine 7 0 := ⟨⟨⟨by decide, by decide, rfl⟩, (allW_in (kT_8 _ (List.mem_of_getElem? (i := 79) rfl)) rfl), (allW_in (kT_1 _ (List.mem_of_getElem? (i := 16) rfl)) rfl), by decide⟩, ⟨TX7, 17, rfl⟩, (allW_in (kT_8 _ (List.mem_of_getElem? (i := 78) rfl)) rfl), (allW_in (kTs_8 _ (List.mem_of_getElem? (i := 6) rfl)) rfl)⟩
def B_X7_readLine_219 : Blk := (219, .return_, 1) :: []
theorem o_X7_readLine_219 : Chn cX7_readLine B_X7_readLine_219 := chn_of _ (by decide +kernel)
def B_X7_readLine_188 : Blk := (188, .aload_n 0, 1) :: (189, .bipush 9, 2) :: (191, .invokevirtual 85, 3) :: (194, .aload_n 0, 1) :: (195, .getfield 62, 3) :: (198, .ifCond .ne 21, 3) :: (201, .aload_n 0, 1) :: (202, .iload_n 2, 1) :: (203, .invokevirtual 101, 3) :: (206, .ifCond .ne 13, 3) :: (209, .aload_n 0, 1) :: (210, .iconst 5, 1) :: (211, .putfield 62, 3) :: (214, .aload_n 0, 1) :: (215, .iload_n 1, 1) :: (216, .putfield 65, 3) :: B_X7_readLine_219
theorem o_X7_readLine_188 : Chn cX7_readLine B_X7_readLine_188 := chn_app ((188, .aload_n 0, 1) :: (189, .bipush 9, 2) :: (191, .invokevirtual 85, 3) :: (194, .aload_n 0, 1) :: (195, .getfield 62, 3) :: (198, .ifCond .ne 21, 3) :: (201, .aload_n 0, 1) :: (202, .iload_n 2, 1) :: (203, .invokevirtual 101, 3) :: (206, .ifCond .ne 13, 3) :: (209, .aload_n 0, 1) :: (210, .iconst 5, 1) :: (211, .putfield 62, 3) :: (214, .aload_n 0, 1) :: (215, .iload_n 1, 1) :: (216, .putfield 65, 3) :: []) o_X7_readLine_219 (by decide +kernel)
def B_X7_readLine_163 : Blk := (163, .iload 5, 2) :: (165, .iload 4, 2) :: (167, .if_icmp .ge 21, 3) :: (170, .aload_n 0, 1) :: (171, .getfield 62, 3) :: (174, .ifCond .ne 14, 3) :: (177, .aload_n 0, 1) :: (178, .iload_n 3, 1) :: (179, .invokevirtual 97, 3) :: (182, .iinc 5 1, 3) :: (185, .goto (-22), 3) :: []
theorem o_X7_readLine_163 : Chn cX7_readLine B_X7_readLine_163 := chn_of _ (by decide +kernel)
def B_X7_readLine_158 : Blk := (158, .istore 4, 2) :: (160, .iconst 0, 1) :: (161, .istore 5, 2) :: B_X7_readLine_163
theorem o_X7_readLine_158 : Chn cX7_readLine B_X7_readLine_158 := chn_app ((158, .istore 4, 2) :: (160, .iconst 0, 1) :: (161, .istore 5, 2) :: []) o_X7_readLine_163 (by decide +kernel)
def B_X7_readLine_157 : Blk := (157, .iconst 1, 1) :: B_X7_readLine_158
theorem o_X7_readLine_157 : Chn cX7_readLine B_X7_readLine_157 := chn_app ((157, .iconst 1, 1) :: []) o_X7_readLine_158 (by decide +kernel)
def B_X7_readLine_153 : Blk := (153, .iconst 0, 1) :: (154, .goto 4, 3) :: []
theorem o_X7_readLine_153 : Chn cX7_readLine B_X7_readLine_153 := chn_of _ (by decide +kernel)
def B_X7_readLine_141 : Blk := (141, .iload_n 2, 1) :: (142, .bipush 39, 2) :: (144, .if_icmp .eq 9, 3) :: (147, .iload_n 2, 1) :: (148, .bipush 40, 2) :: (150, .if_icmp .ne 7, 3) :: B_X7_readLine_153
theorem o_X7_readLine_141 : Chn cX7_readLine B_X7_readLine_141 := chn_app ((141, .iload_n 2, 1) :: (142, .bipush 39, 2) :: (144, .if_icmp .eq 9, 3) :: (147, .iload_n 2, 1) :: (148, .bipush 40, 2) :: (150, .if_icmp .ne 7, 3) :: []) o_X7_readLine_153 (by decide +kernel)
def B_X7_readLine_131 : Blk := (131, .iload_n 2, 1) :: (132, .bipush 37, 2) :: (134, .if_icmp .ne 7, 3) :: (137, .iconst 2, 1) :: (138, .goto 20, 3) :: []
theorem o_X7_readLine_131 : Chn cX7_readLine B_X7_readLine_131 := chn_of _ (by decide +kernel)
def B_X7_readLine_121 : Blk := (121, .iload_n 2, 1) :: (122, .bipush 36, 2) :: (124, .if_icmp .ne 7, 3) :: (127, .iconst 4, 1) :: (128, .goto 30, 3) :: []
theorem o_X7_readLine_121 : Chn cX7_readLine B_X7_readLine_121 := chn_of _ (by decide +kernel)
def B_X7_readLine_110 : Blk := (110, .istore_n 3, 1) :: (111, .iload_n 3, 1) :: (112, .ifCond .eq 9, 3) :: (115, .aload_n 0, 1) :: (116, .bipush 12, 2) :: (118, .invokevirtual 85, 3) :: B_X7_readLine_121
theorem o_X7_readLine_110 : Chn cX7_readLine B_X7_readLine_110 := chn_app ((110, .istore_n 3, 1) :: (111, .iload_n 3, 1) :: (112, .ifCond .eq 9, 3) :: (115, .aload_n 0, 1) :: (116, .bipush 12, 2) :: (118, .invokevirtual 85, 3) :: []) o_X7_readLine_121 (by decide +kernel)
def B_X7_readLine_109 : Blk := (109, .iconst 0, 1) :: B_X7_readLine_110
theorem o_X7_readLine_109 : Chn cX7_readLine B_X7_readLine_109 := chn_app ((109, .iconst 0, 1) :: []) o_X7_readLine_110 (by decide +kernel)
def B_X7_readLine_83 : Blk := (83, .iload_n 2, 1) :: (84, .bipush 38, 2) :: (86, .if_icmp .ne 23, 3) :: (89, .aload_n 0, 1) :: (90, .getfield 38, 3) :: (93, .aload_n 0, 1) :: (94, .getfield 59, 3) :: (97, .invokevirtual 68, 3) :: (100, .bipush 12, 2) :: (102, .if_icmp .ne 7, 3) :: (105, .iconst 1, 1) :: (106, .goto 4, 3) :: []
theorem o_X7_readLine_83 : Chn cX7_readLine B_X7_readLine_83 := chn_of _ (by decide +kernel)
def B_X7_readLine_63 : Blk := (63, .aload_n 0, 1) :: (64, .aload_n 0, 1) :: (65, .getfield 38, 3) :: (68, .aload_n 0, 1) :: (69, .getfield 59, 3) :: (72, .invokevirtual 89, 3) :: (75, .putfield 93, 3) :: (78, .aload_n 0, 1) :: (79, .iconst 1, 1) :: (80, .invokevirtual 85, 3) :: B_X7_readLine_83
theorem o_X7_readLine_63 : Chn cX7_readLine B_X7_readLine_63 := chn_app ((63, .aload_n 0, 1) :: (64, .aload_n 0, 1) :: (65, .getfield 38, 3) :: (68, .aload_n 0, 1) :: (69, .getfield 59, 3) :: (72, .invokevirtual 89, 3) :: (75, .putfield 93, 3) :: (78, .aload_n 0, 1) :: (79, .iconst 1, 1) :: (80, .invokevirtual 85, 3) :: []) o_X7_readLine_83 (by decide +kernel)
def B_X7_readLine_48 : Blk := (48, .invokevirtual 85, 3) :: (51, .iload_n 2, 1) :: (52, .bipush 35, 2) :: (54, .if_icmp .eq 9, 3) :: (57, .iload_n 2, 1) :: (58, .bipush 38, 2) :: (60, .if_icmp .ne 23, 3) :: B_X7_readLine_63
theorem o_X7_readLine_48 : Chn cX7_readLine B_X7_readLine_48 := chn_app ((48, .invokevirtual 85, 3) :: (51, .iload_n 2, 1) :: (52, .bipush 35, 2) :: (54, .if_icmp .eq 9, 3) :: (57, .iload_n 2, 1) :: (58, .bipush 38, 2) :: (60, .if_icmp .ne 23, 3) :: []) o_X7_readLine_63 (by decide +kernel)
def B_X7_readLine_46 : Blk := (46, .bipush 35, 2) :: B_X7_readLine_48
theorem o_X7_readLine_46 : Chn cX7_readLine B_X7_readLine_46 := chn_app ((46, .bipush 35, 2) :: []) o_X7_readLine_48 (by decide +kernel)
def B_X7_readLine_0 : Blk := (0, .aload_n 0, 1) :: (1, .getfield 38, 3) :: (4, .aload_n 0, 1) :: (5, .getfield 59, 3) :: (8, .invokevirtual 79, 3) :: (11, .istore_n 1, 1) :: (12, .aload_n 0, 1) :: (13, .getfield 38, 3) :: (16, .aload_n 0, 1) :: (17, .getfield 59, 3) :: (20, .invokevirtual 68, 3) :: (23, .istore_n 2, 1) :: (24, .aload_n 0, 1) :: (25, .iconst 0, 1) :: (26, .putfield 82, 3) :: (29, .aload_n 0, 1) :: (30, .iload_n 2, 1) :: (31, .bipush 35, 2) :: (33, .if_icmp .lt 13, 3) :: (36, .iload_n 2, 1) :: (37, .bipush 40, 2) :: (39, .if_icmp .gt 7, 3) :: (42, .iload_n 2, 1) :: (43, .goto 5, 3) :: []
theorem o_X7_readLine_0 : Chn cX7_readLine B_X7_readLine_0 := chn_of _ (by decide +kernel)
theorem ml_7_89 : MLk RX7 89 yX3_nameAt := Or.inl (allW_in (kT_8 _ (List.mem_of_getElem? (i := 88) rfl)) rfl)
theorem ml_7_101 : MLk RX7 101 yX7_isDone := Or.inl (allW_in (kT_8 _ (List.mem_of_getElem? (i := 94) rfl)) rfl)
theorem ml_7_97 : MLk RX7 97 yX7_takeNumber := Or.inl (allW_in (kT_8 _ (List.mem_of_getElem? (i := 89) rfl)) rfl)
abbrev cX7_check : ByteArray := prog_9_method_4_code
def yX7_check : MethodName := ⟨RX7, "check", "([BI)I"⟩
def M_X7_check : MT := (yX7_check, cX7_check, 4, (some .int), RX7, 1)
theorem mk_X7_check : MokV M_X7_check 7 2 := ⟨⟨⟨by decide, by decide, rfl⟩, (allW_in (kT_8 _ (List.mem_of_getElem? (i := 73) rfl)) rfl), (allW_in (kT_1 _ (List.mem_of_getElem? (i := 16) rfl)) rfl), by decide⟩, ⟨TX7, 17, rfl⟩, (allW_in (kT_8 _ (List.mem_of_getElem? (i := 71) rfl)) rfl), (allW_in (kT_8 _ (List.mem_of_getElem? (i := 72) rfl)) rfl)⟩
def B_X7_check_104 : Blk := (104, .ireturn, 1) :: []
theorem o_X7_check_104 : Chn cX7_check B_X7_check_104 := chn_of _ (by decide +kernel)
def B_X7_check_103 : Blk := (103, .iconst 0, 1) :: B_X7_check_104
theorem o_X7_check_103 : Chn cX7_check B_X7_check_103 := chn_app ((103, .iconst 0, 1) :: []) o_X7_check_104 (by decide +kernel)
def B_X7_check_85 : Blk := (85, .aload_n 0, 1) :: (86, .getfield 56, 3) :: (89, .ifCond .ne 14, 3) :: (92, .aload_n 0, 1) :: (93, .invokevirtual 75, 3) :: (96, .ifCond .eq 7, 3) :: (99, .iconst 1, 1) :: (100, .goto 4, 3) :: []
theorem o_X7_check_85 : Chn cX7_check B_X7_check_85 := chn_of _ (by decide +kernel)
def B_X7_check_76 : Blk := (76, .aload_n 0, 1) :: (77, .getfield 62, 3) :: (80, .ifCond .eq 5, 3) :: (83, .iconst (-1), 1) :: (84, .ireturn, 1) :: []
theorem o_X7_check_76 : Chn cX7_check B_X7_check_76 := chn_of _ (by decide +kernel)
def B_X7_check_38 : Blk := (38, .iload_n 3, 1) :: (39, .sipush 2000, 3) :: (42, .if_icmp .ge 34, 3) :: (45, .aload_n 0, 1) :: (46, .getfield 62, 3) :: (49, .ifCond .ne 27, 3) :: (52, .aload_n 0, 1) :: (53, .getfield 38, 3) :: (56, .aload_n 0, 1) :: (57, .getfield 59, 3) :: (60, .invokevirtual 68, 3) :: (63, .ifCond .eq 13, 3) :: (66, .aload_n 0, 1) :: (67, .invokevirtual 72, 3) :: (70, .iinc 3 1, 3) :: (73, .goto (-35), 3) :: []
theorem o_X7_check_38 : Chn cX7_check B_X7_check_38 := chn_of _ (by decide +kernel)
def B_X7_check_0 : Blk := (0, .aload_n 0, 1) :: (1, .getfield 38, 3) :: (4, .aload_n 1, 1) :: (5, .iconst 0, 1) :: (6, .iload_n 2, 1) :: (7, .iconst 1, 1) :: (8, .invokevirtual 50, 3) :: (11, .aload_n 0, 1) :: (12, .iconst 0, 1) :: (13, .putfield 46, 3) :: (16, .aload_n 0, 1) :: (17, .iconst 0, 1) :: (18, .putfield 56, 3) :: (21, .aload_n 0, 1) :: (22, .iconst 0, 1) :: (23, .putfield 59, 3) :: (26, .aload_n 0, 1) :: (27, .iconst 0, 1) :: (28, .putfield 62, 3) :: (31, .aload_n 0, 1) :: (32, .iconst 0, 1) :: (33, .putfield 65, 3) :: (36, .iconst 0, 1) :: (37, .istore_n 3, 1) :: B_X7_check_38
theorem o_X7_check_0 : Chn cX7_check B_X7_check_0 := chn_app ((0, .aload_n 0, 1) :: (1, .getfield 38, 3) :: (4, .aload_n 1, 1) :: (5, .iconst 0, 1) :: (6, .iload_n 2, 1) :: (7, .iconst 1, 1) :: (8, .invokevirtual 50, 3) :: (11, .aload_n 0, 1) :: (12, .iconst 0, 1) :: (13, .putfield 46, 3) :: (16, .aload_n 0, 1) :: (17, .iconst 0, 1) :: (18, .putfield 56, 3) :: (21, .aload_n 0, 1) :: (22, .iconst 0, 1) :: (23, .putfield 59, 3) :: (26, .aload_n 0, 1) :: (27, .iconst 0, 1) :: (28, .putfield 62, 3) :: (31, .aload_n 0, 1) :: (32, .iconst 0, 1) :: (33, .putfield 65, 3) :: (36, .iconst 0, 1) :: (37, .istore_n 3, 1) :: []) o_X7_check_38 (by decide +kernel)
theorem ml_7_50 : MLk RX7 50 yX3_scan := Or.inl (allW_in (kT_8 _ (List.mem_of_getElem? (i := 74) rfl)) rfl)
theorem ml_7_72 : MLk RX7 72 yX7_readLine := Or.inl (allW_in (kT_8 _ (List.mem_of_getElem? (i := 76) rfl)) rfl)
abbrev cX8_next : ByteArray := prog_10_method_8_code
def yX8_next : MethodName := ⟨RX8, "next", "()V"⟩
def M_X8_next : MT := (yX8_next, cX8_next, 1, none, RX8, 0)
theorem mk_X8_next : MokV M_X8_next 8 0 := ⟨⟨⟨by decide, by decide, rfl⟩, (allW_in (kT_4 _ (List.mem_of_getElem? (i := 103) rfl)) rfl), (allW_in (kT_1 _ (List.mem_of_getElem? (i := 10) rfl)) rfl), by decide⟩, ⟨TX8, 15, rfl⟩, (allW_in (kT_4 _ (List.mem_of_getElem? (i := 102) rfl)) rfl), (allW_in (kTs_1 _ (List.mem_of_getElem? (i := 11) rfl)) rfl)⟩
def B_X8_next_80 : Blk := (80, .return_, 1) :: []
theorem o_X8_next_80 : Chn cX8_next B_X8_next_80 := chn_of _ (by decide +kernel)
def B_X8_next_28 : Blk := (28, .putfield 79, 3) :: (31, .aload_n 0, 1) :: (32, .getfield 79, 3) :: (35, .ifCond .lt 45, 3) :: (38, .aload_n 0, 1) :: (39, .getfield 79, 3) :: (42, .sipush 2000, 3) :: (45, .if_icmp .gt 35, 3) :: (48, .aload_n 0, 1) :: (49, .aload_n 0, 1) :: (50, .getfield 9, 3) :: (53, .getfield 129, 3) :: (56, .aload_n 0, 1) :: (57, .getfield 79, 3) :: (60, .iaload, 1) :: (61, .putfield 39, 3) :: (64, .aload_n 0, 1) :: (65, .aload_n 0, 1) :: (66, .getfield 9, 3) :: (69, .getfield 133, 3) :: (72, .aload_n 0, 1) :: (73, .getfield 79, 3) :: (76, .iaload, 1) :: (77, .putfield 136, 3) :: B_X8_next_80
theorem o_X8_next_28 : Chn cX8_next B_X8_next_28 := chn_app ((28, .putfield 79, 3) :: (31, .aload_n 0, 1) :: (32, .getfield 79, 3) :: (35, .ifCond .lt 45, 3) :: (38, .aload_n 0, 1) :: (39, .getfield 79, 3) :: (42, .sipush 2000, 3) :: (45, .if_icmp .gt 35, 3) :: (48, .aload_n 0, 1) :: (49, .aload_n 0, 1) :: (50, .getfield 9, 3) :: (53, .getfield 129, 3) :: (56, .aload_n 0, 1) :: (57, .getfield 79, 3) :: (60, .iaload, 1) :: (61, .putfield 39, 3) :: (64, .aload_n 0, 1) :: (65, .aload_n 0, 1) :: (66, .getfield 9, 3) :: (69, .getfield 133, 3) :: (72, .aload_n 0, 1) :: (73, .getfield 79, 3) :: (76, .iaload, 1) :: (77, .putfield 136, 3) :: []) o_X8_next_80 (by decide +kernel)
def B_X8_next_24 : Blk := (24, .aload_n 0, 1) :: (25, .getfield 79, 3) :: B_X8_next_28
theorem o_X8_next_24 : Chn cX8_next B_X8_next_24 := chn_app ((24, .aload_n 0, 1) :: (25, .getfield 79, 3) :: []) o_X8_next_28 (by decide +kernel)
def B_X8_next_0 : Blk := (0, .aload_n 0, 1) :: (1, .aload_n 0, 1) :: (2, .getfield 79, 3) :: (5, .aload_n 0, 1) :: (6, .getfield 9, 3) :: (9, .getfield 126, 3) :: (12, .if_icmp .ge 12, 3) :: (15, .aload_n 0, 1) :: (16, .getfield 79, 3) :: (19, .iconst 1, 1) :: (20, .iadd, 1) :: (21, .goto 7, 3) :: []
theorem o_X8_next_0 : Chn cX8_next B_X8_next_0 := chn_of _ (by decide +kernel)
theorem fl_8_79 : FLk RX8 79 8 6 0 false := ⟨RX8, TX8, 15, "IntegerHouse$Reader", "at", "I", rfl, by decide, rfl, Or.inl (allW_in (kT_2 _ (List.mem_of_getElem? (i := 54) rfl)) rfl), rfl, (fun _ => rfl), (fun h => absurd h (by decide)), (fun h => absurd h (by decide)), (fun h => absurd h (by decide))⟩
theorem fl_8_9 : FLk RX8 9 8 0 3 true := ⟨RX8, TX8, 15, "IntegerHouse$Reader", "lexer", "LIntegerHouse$Lexer;", rfl, by decide, rfl, Or.inl (allW_in (kT_2 _ (List.mem_of_getElem? (i := 45) rfl)) rfl), rfl, (fun h => absurd h (by decide)), (fun h => absurd h (by decide)), (fun h => absurd h (by decide)), (fun h => absurd h (by decide))⟩
theorem fl_8_126 : FLk RX8 126 3 5 0 false := ⟨RX3, TX3, 9, "IntegerHouse$Lexer", "size", "I", rfl, by decide, rfl, Or.inr ⟨"IntegerHouse", List.mem_of_getElem? (i := 25) rfl⟩, rfl, (fun _ => rfl), (fun h => absurd h (by decide)), (fun h => absurd h (by decide)), (fun h => absurd h (by decide))⟩
theorem fl_8_129 : FLk RX8 129 3 1 3 true := ⟨RX3, TX3, 9, "IntegerHouse$Lexer", "kinds", "[I", rfl, by decide, rfl, Or.inr ⟨"IntegerHouse", List.mem_of_getElem? (i := 23) rfl⟩, rfl, (fun h => absurd h (by decide)), (fun h => absurd h (by decide)), (fun h => absurd h (by decide)), (fun h => absurd h (by decide))⟩
theorem fl_8_39 : FLk RX8 39 8 7 0 false := ⟨RX8, TX8, 15, "IntegerHouse$Reader", "kind", "I", rfl, by decide, rfl, Or.inl (allW_in (kT_2 _ (List.mem_of_getElem? (i := 55) rfl)) rfl), rfl, (fun _ => rfl), (fun h => absurd h (by decide)), (fun h => absurd h (by decide)), (fun h => absurd h (by decide))⟩
theorem fl_8_133 : FLk RX8 133 3 2 3 true := ⟨RX3, TX3, 9, "IntegerHouse$Lexer", "spots", "[I", rfl, by decide, rfl, Or.inr ⟨"IntegerHouse", List.mem_of_getElem? (i := 24) rfl⟩, rfl, (fun h => absurd h (by decide)), (fun h => absurd h (by decide)), (fun h => absurd h (by decide)), (fun h => absurd h (by decide))⟩
theorem fl_8_136 : FLk RX8 136 8 8 0 false := ⟨RX8, TX8, 15, "IntegerHouse$Reader", "place", "I", rfl, by decide, rfl, Or.inl (allW_in (kT_2 _ (List.mem_of_getElem? (i := 56) rfl)) rfl), rfl, (fun _ => rfl), (fun h => absurd h (by decide)), (fun h => absurd h (by decide)), (fun h => absurd h (by decide))⟩
abbrev cX8_begin : ByteArray := prog_10_method_7_code
def yX8_begin : MethodName := ⟨RX8, "begin", "([BII)V"⟩
def M_X8_begin : MT := (yX8_begin, cX8_begin, 4, none, RX8, 0)
theorem mk_X8_begin : MokV M_X8_begin 8 3 := ⟨⟨⟨by decide, by decide, rfl⟩, (allW_in (kT_4 _ (List.mem_of_getElem? (i := 67) rfl)) rfl), (allW_in (kT_1 _ (List.mem_of_getElem? (i := 10) rfl)) rfl), by decide⟩, ⟨TX8, 15, rfl⟩, (allW_in (kT_4 _ (List.mem_of_getElem? (i := 66) rfl)) rfl), (allW_in (kTs_1 _ (List.mem_of_getElem? (i := 5) rfl)) rfl)⟩
def B_X8_begin_0 : Blk := (0, .aload_n 0, 1) :: (1, .getfield 9, 3) :: (4, .aload_n 1, 1) :: (5, .iload_n 2, 1) :: (6, .iload_n 3, 1) :: (7, .iconst 0, 1) :: (8, .invokevirtual 119, 3) :: (11, .aload_n 0, 1) :: (12, .iconst 0, 1) :: (13, .putfield 62, 3) :: (16, .aload_n 0, 1) :: (17, .iconst 0, 1) :: (18, .putfield 123, 3) :: (21, .aload_n 0, 1) :: (22, .iconst 0, 1) :: (23, .putfield 101, 3) :: (26, .aload_n 0, 1) :: (27, .iconst (-1), 1) :: (28, .putfield 79, 3) :: (31, .aload_n 0, 1) :: (32, .invokevirtual 98, 3) :: (35, .return_, 1) :: []
theorem o_X8_begin_0 : Chn cX8_begin B_X8_begin_0 := chn_of _ (by decide +kernel)
theorem ml_8_119 : MLk RX8 119 yX3_scan := Or.inl (allW_in (kT_4 _ (List.mem_of_getElem? (i := 68) rfl)) rfl)
theorem fl_8_62 : FLk RX8 62 8 3 0 false := ⟨RX8, TX8, 15, "IntegerHouse$Reader", "faultKind", "I", rfl, by decide, rfl, Or.inl (allW_in (kT_2 _ (List.mem_of_getElem? (i := 48) rfl)) rfl), rfl, (fun _ => rfl), (fun h => absurd h (by decide)), (fun h => absurd h (by decide)), (fun h => absurd h (by decide))⟩
theorem fl_8_123 : FLk RX8 123 8 4 0 false := ⟨RX8, TX8, 15, "IntegerHouse$Reader", "faultPlace", "I", rfl, by decide, rfl, Or.inl (allW_in (kT_2 _ (List.mem_of_getElem? (i := 50) rfl)) rfl), rfl, (fun _ => rfl), (fun h => absurd h (by decide)), (fun h => absurd h (by decide)), (fun h => absurd h (by decide))⟩
theorem fl_8_101 : FLk RX8 101 8 5 1 false := ⟨RX8, TX8, 15, "IntegerHouse$Reader", "hasFormula", "Z", rfl, by decide, rfl, Or.inl (allW_in (kT_2 _ (List.mem_of_getElem? (i := 52) rfl)) rfl), rfl, (fun h => absurd h (by decide)), (fun _ => rfl), (fun h => absurd h (by decide)), (fun h => absurd h (by decide))⟩
theorem ml_8_98 : MLk RX8 98 yX8_next := Or.inl (allW_in (kT_4 _ (List.mem_of_getElem? (i := 100) rfl)) rfl)
abbrev cX8_fail : ByteArray := prog_10_method_9_code
def yX8_fail : MethodName := ⟨RX8, "fail", "(I)V"⟩
def M_X8_fail : MT := (yX8_fail, cX8_fail, 2, none, RX8, 0)
theorem mk_X8_fail : MokV M_X8_fail 8 1 := ⟨⟨⟨by decide, by decide, rfl⟩, (allW_in (kT_4 _ (List.mem_of_getElem? (i := 119) rfl)) rfl), (allW_in (kT_1 _ (List.mem_of_getElem? (i := 10) rfl)) rfl), by decide⟩, ⟨TX8, 15, rfl⟩, (allW_in (kT_4 _ (List.mem_of_getElem? (i := 118) rfl)) rfl), (allW_in (kTs_1 _ (List.mem_of_getElem? (i := 14) rfl)) rfl)⟩
def B_X8_fail_32 : Blk := (32, .aload_n 0, 1) :: (33, .bipush 44, 2) :: (35, .putfield 39, 3) :: (38, .return_, 1) :: []
theorem o_X8_fail_32 : Chn cX8_fail B_X8_fail_32 := chn_of _ (by decide +kernel)
def B_X8_fail_21 : Blk := (21, .putfield 62, 3) :: (24, .aload_n 0, 1) :: (25, .aload_n 0, 1) :: (26, .getfield 136, 3) :: (29, .putfield 123, 3) :: B_X8_fail_32
theorem o_X8_fail_21 : Chn cX8_fail B_X8_fail_21 := chn_app ((21, .putfield 62, 3) :: (24, .aload_n 0, 1) :: (25, .aload_n 0, 1) :: (26, .getfield 136, 3) :: (29, .putfield 123, 3) :: []) o_X8_fail_32 (by decide +kernel)
def B_X8_fail_20 : Blk := (20, .iload_n 1, 1) :: B_X8_fail_21
theorem o_X8_fail_20 : Chn cX8_fail B_X8_fail_20 := chn_app ((20, .iload_n 1, 1) :: []) o_X8_fail_21 (by decide +kernel)
def B_X8_fail_0 : Blk := (0, .aload_n 0, 1) :: (1, .getfield 62, 3) :: (4, .ifCond .ne 28, 3) :: (7, .aload_n 0, 1) :: (8, .aload_n 0, 1) :: (9, .getfield 39, 3) :: (12, .iconst 3, 1) :: (13, .if_icmp .ne 7, 3) :: (16, .iconst 1, 1) :: (17, .goto 4, 3) :: []
theorem o_X8_fail_0 : Chn cX8_fail B_X8_fail_0 := chn_of _ (by decide +kernel)
abbrev cX8_expectEnd : ByteArray := prog_10_method_12_code
def yX8_expectEnd : MethodName := ⟨RX8, "expectEnd", "()V"⟩
def M_X8_expectEnd : MT := (yX8_expectEnd, cX8_expectEnd, 1, none, RX8, 0)
theorem mk_X8_expectEnd : MokV M_X8_expectEnd 8 0 := ⟨⟨⟨by decide, by decide, rfl⟩, (allW_in (kT_4 _ (List.mem_of_getElem? (i := 228) rfl)) rfl), (allW_in (kT_1 _ (List.mem_of_getElem? (i := 10) rfl)) rfl), by decide⟩, ⟨TX8, 15, rfl⟩, (allW_in (kT_4 _ (List.mem_of_getElem? (i := 227) rfl)) rfl), (allW_in (kTs_2 _ (List.mem_of_getElem? (i := 14) rfl)) rfl)⟩
def B_X8_expectEnd_12 : Blk := (12, .return_, 1) :: []
theorem o_X8_expectEnd_12 : Chn cX8_expectEnd B_X8_expectEnd_12 := chn_of _ (by decide +kernel)
def B_X8_expectEnd_0 : Blk := (0, .aload_n 0, 1) :: (1, .getfield 39, 3) :: (4, .ifCond .eq 8, 3) :: (7, .aload_n 0, 1) :: (8, .iconst 2, 1) :: (9, .invokevirtual 95, 3) :: B_X8_expectEnd_12
theorem o_X8_expectEnd_0 : Chn cX8_expectEnd B_X8_expectEnd_0 := chn_app ((0, .aload_n 0, 1) :: (1, .getfield 39, 3) :: (4, .ifCond .eq 8, 3) :: (7, .aload_n 0, 1) :: (8, .iconst 2, 1) :: (9, .invokevirtual 95, 3) :: []) o_X8_expectEnd_12 (by decide +kernel)
theorem ml_8_95 : MLk RX8 95 yX8_fail := Or.inl (allW_in (kT_4 _ (List.mem_of_getElem? (i := 116) rfl)) rfl)
abbrev cX8_readName : ByteArray := prog_10_method_3_code
def yX8_readName : MethodName := ⟨RX8, "readName", "([BI)I"⟩
def M_X8_readName : MT := (yX8_readName, cX8_readName, 4, (some .int), RX8, 1)
theorem mk_X8_readName : MokV M_X8_readName 8 2 := ⟨⟨⟨by decide, by decide, rfl⟩, (allW_in (kT_6 _ (List.mem_of_getElem? (i := 6) rfl)) rfl), (allW_in (kT_1 _ (List.mem_of_getElem? (i := 10) rfl)) rfl), by decide⟩, ⟨TX8, 15, rfl⟩, (allW_in (kT_6 _ (List.mem_of_getElem? (i := 4) rfl)) rfl), (allW_in (kT_6 _ (List.mem_of_getElem? (i := 5) rfl)) rfl)⟩
def B_X8_readName_97 : Blk := (97, .ireturn, 1) :: []
theorem o_X8_readName_97 : Chn cX8_readName B_X8_readName_97 := chn_of _ (by decide +kernel)
def B_X8_readName_96 : Blk := (96, .iconst (-1), 1) :: B_X8_readName_97
theorem o_X8_readName_96 : Chn cX8_readName B_X8_readName_96 := chn_app ((96, .iconst (-1), 1) :: []) o_X8_readName_97 (by decide +kernel)
def B_X8_readName_81 : Blk := (81, .aload_n 0, 1) :: (82, .invokevirtual 59, 3) :: (85, .aload_n 0, 1) :: (86, .getfield 62, 3) :: (89, .ifCond .ne 7, 3) :: (92, .iload_n 3, 1) :: (93, .goto 4, 3) :: []
theorem o_X8_readName_81 : Chn cX8_readName B_X8_readName_81 := chn_of _ (by decide +kernel)
def B_X8_readName_77 : Blk := (77, .aload_n 0, 1) :: (78, .invokevirtual 98, 3) :: B_X8_readName_81
theorem o_X8_readName_77 : Chn cX8_readName B_X8_readName_77 := chn_app ((77, .aload_n 0, 1) :: (78, .invokevirtual 98, 3) :: []) o_X8_readName_81 (by decide +kernel)
def B_X8_readName_64 : Blk := (64, .iload_n 3, 1) :: (65, .iconst (-1), 1) :: (66, .if_icmp .ne 11, 3) :: (69, .aload_n 0, 1) :: (70, .iconst 3, 1) :: (71, .invokevirtual 95, 3) :: (74, .goto 7, 3) :: []
theorem o_X8_readName_64 : Chn cX8_readName B_X8_readName_64 := chn_of _ (by decide +kernel)
def B_X8_readName_56 : Blk := (56, .aload_n 0, 1) :: (57, .iconst 2, 1) :: (58, .invokevirtual 95, 3) :: (61, .goto 20, 3) :: []
theorem o_X8_readName_56 : Chn cX8_readName B_X8_readName_56 := chn_of _ (by decide +kernel)
def B_X8_readName_0 : Blk := (0, .aload_n 0, 1) :: (1, .aload_n 1, 1) :: (2, .iconst 0, 1) :: (3, .iload_n 2, 1) :: (4, .invokevirtual 23, 3) :: (7, .aload_n 0, 1) :: (8, .getfield 15, 3) :: (11, .aload_n 0, 1) :: (12, .getfield 9, 3) :: (15, .aload_n 0, 1) :: (16, .getfield 79, 3) :: (19, .invokevirtual 82, 3) :: (22, .invokevirtual 88, 3) :: (25, .istore_n 3, 1) :: (26, .aload_n 0, 1) :: (27, .getfield 39, 3) :: (30, .iconst 1, 1) :: (31, .if_icmp .ne 25, 3) :: (34, .aload_n 0, 1) :: (35, .getfield 15, 3) :: (38, .aload_n 0, 1) :: (39, .getfield 9, 3) :: (42, .aload_n 0, 1) :: (43, .getfield 79, 3) :: (46, .invokevirtual 82, 3) :: (49, .invokevirtual 92, 3) :: (52, .iconst (-1), 1) :: (53, .if_icmp .eq 11, 3) :: B_X8_readName_56
theorem o_X8_readName_0 : Chn cX8_readName B_X8_readName_0 := chn_app ((0, .aload_n 0, 1) :: (1, .aload_n 1, 1) :: (2, .iconst 0, 1) :: (3, .iload_n 2, 1) :: (4, .invokevirtual 23, 3) :: (7, .aload_n 0, 1) :: (8, .getfield 15, 3) :: (11, .aload_n 0, 1) :: (12, .getfield 9, 3) :: (15, .aload_n 0, 1) :: (16, .getfield 79, 3) :: (19, .invokevirtual 82, 3) :: (22, .invokevirtual 88, 3) :: (25, .istore_n 3, 1) :: (26, .aload_n 0, 1) :: (27, .getfield 39, 3) :: (30, .iconst 1, 1) :: (31, .if_icmp .ne 25, 3) :: (34, .aload_n 0, 1) :: (35, .getfield 15, 3) :: (38, .aload_n 0, 1) :: (39, .getfield 9, 3) :: (42, .aload_n 0, 1) :: (43, .getfield 79, 3) :: (46, .invokevirtual 82, 3) :: (49, .invokevirtual 92, 3) :: (52, .iconst (-1), 1) :: (53, .if_icmp .eq 11, 3) :: []) o_X8_readName_56 (by decide +kernel)
theorem ml_8_23 : MLk RX8 23 yX8_begin := Or.inl (allW_in (kT_4 _ (List.mem_of_getElem? (i := 64) rfl)) rfl)
theorem fl_8_15 : FLk RX8 15 8 1 3 true := ⟨RX8, TX8, 15, "IntegerHouse$Reader", "house", "LIntegerHouse$House;", rfl, by decide, rfl, Or.inl (allW_in (kT_2 _ (List.mem_of_getElem? (i := 46) rfl)) rfl), rfl, (fun h => absurd h (by decide)), (fun h => absurd h (by decide)), (fun h => absurd h (by decide)), (fun h => absurd h (by decide))⟩
theorem ml_8_82 : MLk RX8 82 yX3_nameAt := Or.inl (allW_in (kT_4 _ (List.mem_of_getElem? (i := 112) rfl)) rfl)
theorem ml_8_88 : MLk RX8 88 yX2_claimOf := Or.inl (allW_in (kT_4 _ (List.mem_of_getElem? (i := 124) rfl)) rfl)
theorem ml_8_59 : MLk RX8 59 yX8_expectEnd := Or.inl (allW_in (kT_4 _ (List.mem_of_getElem? (i := 225) rfl)) rfl)
theorem ml_8_92 : MLk RX8 92 yX2_variableOf := Or.inl (allW_in (kT_4 _ (List.mem_of_getElem? (i := 120) rfl)) rfl)
abbrev cX8_accept : ByteArray := prog_10_method_19_code
def yX8_accept : MethodName := ⟨RX8, "accept", "(II)V"⟩
def M_X8_accept : MT := (yX8_accept, cX8_accept, 4, none, RX8, 0)
theorem mk_X8_accept : MokV M_X8_accept 8 2 := ⟨⟨⟨by decide, by decide, rfl⟩, (allW_in (kT_4 _ (List.mem_of_getElem? (i := 155) rfl)) rfl), (allW_in (kT_1 _ (List.mem_of_getElem? (i := 10) rfl)) rfl), by decide⟩, ⟨TX8, 15, rfl⟩, (allW_in (kT_4 _ (List.mem_of_getElem? (i := 154) rfl)) rfl), (allW_in (kTs_2 _ (List.mem_of_getElem? (i := 3) rfl)) rfl)⟩
def B_X8_accept_132 : Blk := (132, .return_, 1) :: []
theorem o_X8_accept_132 : Chn cX8_accept B_X8_accept_132 := chn_of _ (by decide +kernel)
def B_X8_accept_98 : Blk := (98, .iadd, 1) :: (99, .putfield 173, 3) :: (102, .aload_n 0, 1) :: (103, .getfield 15, 3) :: (106, .aload_n 0, 1) :: (107, .getfield 164, 3) :: (110, .aload_n 0, 1) :: (111, .getfield 167, 3) :: (114, .iload_n 2, 1) :: (115, .invokevirtual 185, 3) :: (118, .aload_n 0, 1) :: (119, .dup, 1) :: (120, .getfield 167, 3) :: (123, .iconst 1, 1) :: (124, .iadd, 1) :: (125, .putfield 167, 3) :: (128, .aload_n 0, 1) :: (129, .invokevirtual 98, 3) :: B_X8_accept_132
theorem o_X8_accept_98 : Chn cX8_accept B_X8_accept_98 := chn_app ((98, .iadd, 1) :: (99, .putfield 173, 3) :: (102, .aload_n 0, 1) :: (103, .getfield 15, 3) :: (106, .aload_n 0, 1) :: (107, .getfield 164, 3) :: (110, .aload_n 0, 1) :: (111, .getfield 167, 3) :: (114, .iload_n 2, 1) :: (115, .invokevirtual 185, 3) :: (118, .aload_n 0, 1) :: (119, .dup, 1) :: (120, .getfield 167, 3) :: (123, .iconst 1, 1) :: (124, .iadd, 1) :: (125, .putfield 167, 3) :: (128, .aload_n 0, 1) :: (129, .invokevirtual 98, 3) :: []) o_X8_accept_132 (by decide +kernel)
def B_X8_accept_97 : Blk := (97, .iconst 0, 1) :: B_X8_accept_98
theorem o_X8_accept_97 : Chn cX8_accept B_X8_accept_97 := chn_app ((97, .iconst 0, 1) :: []) o_X8_accept_98 (by decide +kernel)
def B_X8_accept_93 : Blk := (93, .iconst (-1), 1) :: (94, .goto 4, 3) :: []
theorem o_X8_accept_93 : Chn cX8_accept B_X8_accept_93 := chn_of _ (by decide +kernel)
def B_X8_accept_82 : Blk := (82, .iload_n 1, 1) :: (83, .iconst 5, 1) :: (84, .if_icmp .eq 9, 3) :: (87, .iload_n 1, 1) :: (88, .bipush 7, 2) :: (90, .if_icmp .ne 7, 3) :: B_X8_accept_93
theorem o_X8_accept_82 : Chn cX8_accept B_X8_accept_82 := chn_app ((82, .iload_n 1, 1) :: (83, .iconst 5, 1) :: (84, .if_icmp .eq 9, 3) :: (87, .iload_n 1, 1) :: (88, .bipush 7, 2) :: (90, .if_icmp .ne 7, 3) :: []) o_X8_accept_93 (by decide +kernel)
def B_X8_accept_69 : Blk := (69, .aload_n 0, 1) :: (70, .dup, 1) :: (71, .getfield 173, 3) :: (74, .iload_n 3, 1) :: (75, .ifCond .eq 7, 3) :: (78, .iconst 1, 1) :: (79, .goto 19, 3) :: []
theorem o_X8_accept_69 : Chn cX8_accept B_X8_accept_69 := chn_of _ (by decide +kernel)
def B_X8_accept_61 : Blk := (61, .aload_n 0, 1) :: (62, .iconst 5, 1) :: (63, .invokevirtual 95, 3) :: (66, .goto 66, 3) :: []
theorem o_X8_accept_61 : Chn cX8_accept B_X8_accept_61 := chn_of _ (by decide +kernel)
def B_X8_accept_39 : Blk := (39, .aload_n 0, 1) :: (40, .getfield 167, 3) :: (43, .bipush 120, 2) :: (45, .if_icmp .ge 16, 3) :: (48, .iload_n 3, 1) :: (49, .ifCond .eq 20, 3) :: (52, .aload_n 0, 1) :: (53, .getfield 173, 3) :: (56, .bipush 12, 2) :: (58, .if_icmp .lt 11, 3) :: B_X8_accept_61
theorem o_X8_accept_39 : Chn cX8_accept B_X8_accept_39 := chn_app ((39, .aload_n 0, 1) :: (40, .getfield 167, 3) :: (43, .bipush 120, 2) :: (45, .if_icmp .ge 16, 3) :: (48, .iload_n 3, 1) :: (49, .ifCond .eq 20, 3) :: (52, .aload_n 0, 1) :: (53, .getfield 173, 3) :: (56, .bipush 12, 2) :: (58, .if_icmp .lt 11, 3) :: []) o_X8_accept_61 (by decide +kernel)
def B_X8_accept_22 : Blk := (22, .istore_n 3, 1) :: (23, .aload_n 0, 1) :: (24, .getfield 39, 3) :: (27, .iload_n 1, 1) :: (28, .if_icmp .eq 11, 3) :: (31, .aload_n 0, 1) :: (32, .iconst 2, 1) :: (33, .invokevirtual 95, 3) :: (36, .goto 96, 3) :: []
theorem o_X8_accept_22 : Chn cX8_accept B_X8_accept_22 := chn_of _ (by decide +kernel)
def B_X8_accept_21 : Blk := (21, .iconst 0, 1) :: B_X8_accept_22
theorem o_X8_accept_21 : Chn cX8_accept B_X8_accept_21 := chn_app ((21, .iconst 0, 1) :: []) o_X8_accept_22 (by decide +kernel)
def B_X8_accept_17 : Blk := (17, .iconst 1, 1) :: (18, .goto 4, 3) :: []
theorem o_X8_accept_17 : Chn cX8_accept B_X8_accept_17 := chn_of _ (by decide +kernel)
def B_X8_accept_0 : Blk := (0, .iload_n 1, 1) :: (1, .bipush 25, 2) :: (3, .if_icmp .eq 14, 3) :: (6, .iload_n 1, 1) :: (7, .iconst 4, 1) :: (8, .if_icmp .eq 9, 3) :: (11, .iload_n 1, 1) :: (12, .bipush 6, 2) :: (14, .if_icmp .ne 7, 3) :: B_X8_accept_17
theorem o_X8_accept_0 : Chn cX8_accept B_X8_accept_0 := chn_app ((0, .iload_n 1, 1) :: (1, .bipush 25, 2) :: (3, .if_icmp .eq 14, 3) :: (6, .iload_n 1, 1) :: (7, .iconst 4, 1) :: (8, .if_icmp .eq 9, 3) :: (11, .iload_n 1, 1) :: (12, .bipush 6, 2) :: (14, .if_icmp .ne 7, 3) :: []) o_X8_accept_17 (by decide +kernel)
theorem fl_8_167 : FLk RX8 167 8 12 0 false := ⟨RX8, TX8, 15, "IntegerHouse$Reader", "tokens", "I", rfl, by decide, rfl, Or.inl (allW_in (kT_2 _ (List.mem_of_getElem? (i := 60) rfl)) rfl), rfl, (fun _ => rfl), (fun h => absurd h (by decide)), (fun h => absurd h (by decide)), (fun h => absurd h (by decide))⟩
theorem fl_8_173 : FLk RX8 173 8 14 0 false := ⟨RX8, TX8, 15, "IntegerHouse$Reader", "open", "I", rfl, by decide, rfl, Or.inl (allW_in (kT_2 _ (List.mem_of_getElem? (i := 62) rfl)) rfl), rfl, (fun _ => rfl), (fun h => absurd h (by decide)), (fun h => absurd h (by decide)), (fun h => absurd h (by decide))⟩
theorem fl_8_164 : FLk RX8 164 8 11 0 false := ⟨RX8, TX8, 15, "IntegerHouse$Reader", "slot", "I", rfl, by decide, rfl, Or.inl (allW_in (kT_2 _ (List.mem_of_getElem? (i := 59) rfl)) rfl), rfl, (fun _ => rfl), (fun h => absurd h (by decide)), (fun h => absurd h (by decide)), (fun h => absurd h (by decide))⟩
theorem ml_8_185 : MLk RX8 185 yX2_setToken := Or.inl (allW_in (kT_4 _ (List.mem_of_getElem? (i := 156) rfl)) rfl)
abbrev cX8_step : ByteArray := prog_10_method_18_code
def yX8_step : MethodName := ⟨RX8, "step", "(I)V"⟩
def M_X8_step : MT := (yX8_step, cX8_step, 2, none, RX8, 0)
theorem mk_X8_step : MokV M_X8_step 8 1 := ⟨⟨⟨by decide, by decide, rfl⟩, (allW_in (kT_4 _ (List.mem_of_getElem? (i := 180) rfl)) rfl), (allW_in (kT_1 _ (List.mem_of_getElem? (i := 10) rfl)) rfl), by decide⟩, ⟨TX8, 15, rfl⟩, (allW_in (kT_4 _ (List.mem_of_getElem? (i := 179) rfl)) rfl), (allW_in (kTs_2 _ (List.mem_of_getElem? (i := 6) rfl)) rfl)⟩
def B_X8_step_0 : Blk := (0, .aload_n 0, 1) :: (1, .getfield 15, 3) :: (4, .aload_n 0, 1) :: (5, .getfield 164, 3) :: (8, .aload_n 0, 1) :: (9, .getfield 170, 3) :: (12, .iload_n 1, 1) :: (13, .invokevirtual 182, 3) :: (16, .aload_n 0, 1) :: (17, .dup, 1) :: (18, .getfield 170, 3) :: (21, .iconst 1, 1) :: (22, .iadd, 1) :: (23, .putfield 170, 3) :: (26, .return_, 1) :: []
theorem o_X8_step_0 : Chn cX8_step B_X8_step_0 := chn_of _ (by decide +kernel)
theorem fl_8_170 : FLk RX8 170 8 13 0 false := ⟨RX8, TX8, 15, "IntegerHouse$Reader", "steps", "I", rfl, by decide, rfl, Or.inl (allW_in (kT_2 _ (List.mem_of_getElem? (i := 61) rfl)) rfl), rfl, (fun _ => rfl), (fun h => absurd h (by decide)), (fun h => absurd h (by decide)), (fun h => absurd h (by decide))⟩
theorem ml_8_182 : MLk RX8 182 yX2_setStep := Or.inl (allW_in (kT_4 _ (List.mem_of_getElem? (i := 181) rfl)) rfl)
abbrev cX8_checkDivisor : ByteArray := prog_10_method_24_code
def yX8_checkDivisor : MethodName := ⟨RX8, "checkDivisor", "()V"⟩
def M_X8_checkDivisor : MT := (yX8_checkDivisor, cX8_checkDivisor, 2, none, RX8, 0)
theorem mk_X8_checkDivisor : MokV M_X8_checkDivisor 8 0 := ⟨⟨⟨by decide, by decide, rfl⟩, (allW_in (kT_4 _ (List.mem_of_getElem? (i := 192) rfl)) rfl), (allW_in (kT_1 _ (List.mem_of_getElem? (i := 10) rfl)) rfl), by decide⟩, ⟨TX8, 15, rfl⟩, (allW_in (kT_4 _ (List.mem_of_getElem? (i := 191) rfl)) rfl), (allW_in (kTs_2 _ (List.mem_of_getElem? (i := 8) rfl)) rfl)⟩
def B_X8_checkDivisor_45 : Blk := (45, .return_, 1) :: []
theorem o_X8_checkDivisor_45 : Chn cX8_checkDivisor B_X8_checkDivisor_45 := chn_of _ (by decide +kernel)
def B_X8_checkDivisor_40 : Blk := (40, .aload_n 0, 1) :: (41, .iconst 4, 1) :: (42, .invokevirtual 95, 3) :: B_X8_checkDivisor_45
theorem o_X8_checkDivisor_40 : Chn cX8_checkDivisor B_X8_checkDivisor_40 := chn_app ((40, .aload_n 0, 1) :: (41, .iconst 4, 1) :: (42, .invokevirtual 95, 3) :: []) o_X8_checkDivisor_45 (by decide +kernel)
def B_X8_checkDivisor_0 : Blk := (0, .aload_n 0, 1) :: (1, .getfield 9, 3) :: (4, .aload_n 0, 1) :: (5, .getfield 79, 3) :: (8, .invokevirtual 206, 3) :: (11, .istore_n 1, 1) :: (12, .aload_n 0, 1) :: (13, .getfield 39, 3) :: (16, .iconst 2, 1) :: (17, .if_icmp .ne 28, 3) :: (20, .aload_n 0, 1) :: (21, .getfield 167, 3) :: (24, .bipush 120, 2) :: (26, .if_icmp .ge 19, 3) :: (29, .iload_n 1, 1) :: (30, .iconst 2, 1) :: (31, .if_icmp .lt 9, 3) :: (34, .iload_n 1, 1) :: (35, .bipush 12, 2) :: (37, .if_icmp .le 8, 3) :: B_X8_checkDivisor_40
theorem o_X8_checkDivisor_0 : Chn cX8_checkDivisor B_X8_checkDivisor_0 := chn_app ((0, .aload_n 0, 1) :: (1, .getfield 9, 3) :: (4, .aload_n 0, 1) :: (5, .getfield 79, 3) :: (8, .invokevirtual 206, 3) :: (11, .istore_n 1, 1) :: (12, .aload_n 0, 1) :: (13, .getfield 39, 3) :: (16, .iconst 2, 1) :: (17, .if_icmp .ne 28, 3) :: (20, .aload_n 0, 1) :: (21, .getfield 167, 3) :: (24, .bipush 120, 2) :: (26, .if_icmp .ge 19, 3) :: (29, .iload_n 1, 1) :: (30, .iconst 2, 1) :: (31, .if_icmp .lt 9, 3) :: (34, .iload_n 1, 1) :: (35, .bipush 12, 2) :: (37, .if_icmp .le 8, 3) :: []) o_X8_checkDivisor_40 (by decide +kernel)
theorem ml_8_206 : MLk RX8 206 yX3_numberAt := Or.inl (allW_in (kT_4 _ (List.mem_of_getElem? (i := 164) rfl)) rfl)
abbrev cX8_failIf : ByteArray := prog_10_method_10_code
def yX8_failIf : MethodName := ⟨RX8, "failIf", "(II)V"⟩
def M_X8_failIf : MT := (yX8_failIf, cX8_failIf, 3, none, RX8, 0)
theorem mk_X8_failIf : MokV M_X8_failIf 8 2 := ⟨⟨⟨by decide, by decide, rfl⟩, (allW_in (kT_5 _ (List.mem_of_getElem? (i := 144) rfl)) rfl), (allW_in (kT_1 _ (List.mem_of_getElem? (i := 10) rfl)) rfl), by decide⟩, ⟨TX8, 15, rfl⟩, (allW_in (kT_5 _ (List.mem_of_getElem? (i := 143) rfl)) rfl), (allW_in (kTs_4 _ (List.mem_of_getElem? (i := 8) rfl)) rfl)⟩
def B_X8_failIf_23 : Blk := (23, .return_, 1) :: []
theorem o_X8_failIf_23 : Chn cX8_failIf B_X8_failIf_23 := chn_of _ (by decide +kernel)
def B_X8_failIf_0 : Blk := (0, .iload_n 1, 1) :: (1, .ifCond .eq 22, 3) :: (4, .aload_n 0, 1) :: (5, .iload_n 1, 1) :: (6, .putfield 62, 3) :: (9, .aload_n 0, 1) :: (10, .aload_n 0, 1) :: (11, .getfield 15, 3) :: (14, .iload_n 2, 1) :: (15, .bipush 9, 2) :: (17, .invokevirtual 139, 3) :: (20, .putfield 123, 3) :: B_X8_failIf_23
theorem o_X8_failIf_0 : Chn cX8_failIf B_X8_failIf_0 := chn_app ((0, .iload_n 1, 1) :: (1, .ifCond .eq 22, 3) :: (4, .aload_n 0, 1) :: (5, .iload_n 1, 1) :: (6, .putfield 62, 3) :: (9, .aload_n 0, 1) :: (10, .aload_n 0, 1) :: (11, .getfield 15, 3) :: (14, .iload_n 2, 1) :: (15, .bipush 9, 2) :: (17, .invokevirtual 139, 3) :: (20, .putfield 123, 3) :: []) o_X8_failIf_23 (by decide +kernel)
theorem ml_8_139 : MLk RX8 139 yX2_fact := Or.inl (allW_in (kT_5 _ (List.mem_of_getElem? (i := 145) rfl)) rfl)
abbrev cX8_expect : ByteArray := prog_10_method_11_code
def yX8_expect : MethodName := ⟨RX8, "expect", "(I)V"⟩
def M_X8_expect : MT := (yX8_expect, cX8_expect, 2, none, RX8, 0)
theorem mk_X8_expect : MokV M_X8_expect 8 1 := ⟨⟨⟨by decide, by decide, rfl⟩, (allW_in (kT_4 _ (List.mem_of_getElem? (i := 139) rfl)) rfl), (allW_in (kT_1 _ (List.mem_of_getElem? (i := 10) rfl)) rfl), by decide⟩, ⟨TX8, 15, rfl⟩, (allW_in (kT_4 _ (List.mem_of_getElem? (i := 138) rfl)) rfl), (allW_in (kTs_2 _ (List.mem_of_getElem? (i := 0) rfl)) rfl)⟩
def B_X8_expect_20 : Blk := (20, .return_, 1) :: []
theorem o_X8_expect_20 : Chn cX8_expect B_X8_expect_20 := chn_of _ (by decide +kernel)
def B_X8_expect_15 : Blk := (15, .aload_n 0, 1) :: (16, .iconst 2, 1) :: (17, .invokevirtual 95, 3) :: B_X8_expect_20
theorem o_X8_expect_15 : Chn cX8_expect B_X8_expect_15 := chn_app ((15, .aload_n 0, 1) :: (16, .iconst 2, 1) :: (17, .invokevirtual 95, 3) :: []) o_X8_expect_20 (by decide +kernel)
def B_X8_expect_0 : Blk := (0, .aload_n 0, 1) :: (1, .getfield 39, 3) :: (4, .iload_n 1, 1) :: (5, .if_icmp .ne 10, 3) :: (8, .aload_n 0, 1) :: (9, .invokevirtual 98, 3) :: (12, .goto 8, 3) :: []
theorem o_X8_expect_0 : Chn cX8_expect B_X8_expect_0 := chn_of _ (by decide +kernel)
abbrev cX8_readVariable : ByteArray := prog_10_method_14_code
def yX8_readVariable : MethodName := ⟨RX8, "readVariable", "()V"⟩
def M_X8_readVariable : MT := (yX8_readVariable, cX8_readVariable, 3, none, RX8, 0)
theorem mk_X8_readVariable : MokV M_X8_readVariable 8 0 := ⟨⟨⟨by decide, by decide, rfl⟩, (allW_in (kT_4 _ (List.mem_of_getElem? (i := 111) rfl)) rfl), (allW_in (kT_1 _ (List.mem_of_getElem? (i := 10) rfl)) rfl), by decide⟩, ⟨TX8, 15, rfl⟩, (allW_in (kT_4 _ (List.mem_of_getElem? (i := 110) rfl)) rfl), (allW_in (kTs_1 _ (List.mem_of_getElem? (i := 13) rfl)) rfl)⟩
def B_X8_readVariable_83 : Blk := (83, .return_, 1) :: []
theorem o_X8_readVariable_83 : Chn cX8_readVariable B_X8_readVariable_83 := chn_of _ (by decide +kernel)
def B_X8_readVariable_78 : Blk := (78, .aload_n 0, 1) :: (79, .iconst 5, 1) :: (80, .invokevirtual 95, 3) :: B_X8_readVariable_83
theorem o_X8_readVariable_78 : Chn cX8_readVariable B_X8_readVariable_78 := chn_app ((78, .aload_n 0, 1) :: (79, .iconst 5, 1) :: (80, .invokevirtual 95, 3) :: []) o_X8_readVariable_83 (by decide +kernel)
def B_X8_readVariable_60 : Blk := (60, .aload_n 0, 1) :: (61, .getfield 15, 3) :: (64, .lload_n 1, 1) :: (65, .invokevirtual 146, 3) :: (68, .ifCond .eq 10, 3) :: (71, .aload_n 0, 1) :: (72, .invokevirtual 98, 3) :: (75, .goto 8, 3) :: []
theorem o_X8_readVariable_60 : Chn cX8_readVariable B_X8_readVariable_60 := chn_of _ (by decide +kernel)
def B_X8_readVariable_52 : Blk := (52, .aload_n 0, 1) :: (53, .iconst 3, 1) :: (54, .invokevirtual 95, 3) :: (57, .goto 26, 3) :: []
theorem o_X8_readVariable_52 : Chn cX8_readVariable B_X8_readVariable_52 := chn_of _ (by decide +kernel)
def B_X8_readVariable_28 : Blk := (28, .aload_n 0, 1) :: (29, .getfield 15, 3) :: (32, .lload_n 1, 1) :: (33, .invokevirtual 92, 3) :: (36, .iconst (-1), 1) :: (37, .if_icmp .ne 15, 3) :: (40, .aload_n 0, 1) :: (41, .getfield 15, 3) :: (44, .lload_n 1, 1) :: (45, .invokevirtual 88, 3) :: (48, .iconst (-1), 1) :: (49, .if_icmp .eq 11, 3) :: B_X8_readVariable_52
theorem o_X8_readVariable_28 : Chn cX8_readVariable B_X8_readVariable_28 := chn_app ((28, .aload_n 0, 1) :: (29, .getfield 15, 3) :: (32, .lload_n 1, 1) :: (33, .invokevirtual 92, 3) :: (36, .iconst (-1), 1) :: (37, .if_icmp .ne 15, 3) :: (40, .aload_n 0, 1) :: (41, .getfield 15, 3) :: (44, .lload_n 1, 1) :: (45, .invokevirtual 88, 3) :: (48, .iconst (-1), 1) :: (49, .if_icmp .eq 11, 3) :: []) o_X8_readVariable_52 (by decide +kernel)
def B_X8_readVariable_0 : Blk := (0, .aload_n 0, 1) :: (1, .getfield 9, 3) :: (4, .aload_n 0, 1) :: (5, .getfield 79, 3) :: (8, .invokevirtual 82, 3) :: (11, .lstore_n 1, 1) :: (12, .aload_n 0, 1) :: (13, .getfield 39, 3) :: (16, .iconst 1, 1) :: (17, .if_icmp .eq 11, 3) :: (20, .aload_n 0, 1) :: (21, .iconst 2, 1) :: (22, .invokevirtual 95, 3) :: (25, .goto 58, 3) :: []
theorem o_X8_readVariable_0 : Chn cX8_readVariable B_X8_readVariable_0 := chn_of _ (by decide +kernel)
theorem ml_8_146 : MLk RX8 146 yX2_addVariable := Or.inl (allW_in (kT_4 _ (List.mem_of_getElem? (i := 128) rfl)) rfl)
abbrev cX8_readVariables : ByteArray := prog_10_method_13_code
def yX8_readVariables : MethodName := ⟨RX8, "readVariables", "()V"⟩
def M_X8_readVariables : MT := (yX8_readVariables, cX8_readVariables, 2, none, RX8, 0)
theorem mk_X8_readVariables : MokV M_X8_readVariables 8 0 := ⟨⟨⟨by decide, by decide, rfl⟩, (allW_in (kT_4 _ (List.mem_of_getElem? (i := 107) rfl)) rfl), (allW_in (kT_1 _ (List.mem_of_getElem? (i := 10) rfl)) rfl), by decide⟩, ⟨TX8, 15, rfl⟩, (allW_in (kT_4 _ (List.mem_of_getElem? (i := 106) rfl)) rfl), (allW_in (kTs_1 _ (List.mem_of_getElem? (i := 12) rfl)) rfl)⟩
def B_X8_readVariables_35 : Blk := (35, .return_, 1) :: []
theorem o_X8_readVariables_35 : Chn cX8_readVariables B_X8_readVariables_35 := chn_of _ (by decide +kernel)
def B_X8_readVariables_10 : Blk := (10, .iload_n 1, 1) :: (11, .sipush 2000, 3) :: (14, .if_icmp .ge 21, 3) :: (17, .aload_n 0, 1) :: (18, .getfield 39, 3) :: (21, .iconst 1, 1) :: (22, .if_icmp .ne 13, 3) :: (25, .aload_n 0, 1) :: (26, .invokevirtual 143, 3) :: (29, .iinc 1 1, 3) :: (32, .goto (-22), 3) :: []
theorem o_X8_readVariables_10 : Chn cX8_readVariables B_X8_readVariables_10 := chn_of _ (by decide +kernel)
def B_X8_readVariables_0 : Blk := (0, .aload_n 0, 1) :: (1, .invokevirtual 98, 3) :: (4, .aload_n 0, 1) :: (5, .invokevirtual 143, 3) :: (8, .iconst 0, 1) :: (9, .istore_n 1, 1) :: B_X8_readVariables_10
theorem o_X8_readVariables_0 : Chn cX8_readVariables B_X8_readVariables_0 := chn_app ((0, .aload_n 0, 1) :: (1, .invokevirtual 98, 3) :: (4, .aload_n 0, 1) :: (5, .invokevirtual 143, 3) :: (8, .iconst 0, 1) :: (9, .istore_n 1, 1) :: []) o_X8_readVariables_10 (by decide +kernel)
theorem ml_8_143 : MLk RX8 143 yX8_readVariable := Or.inl (allW_in (kT_4 _ (List.mem_of_getElem? (i := 108) rfl)) rfl)
abbrev cX8_beginClaim : ByteArray := prog_10_method_15_code
def yX8_beginClaim : MethodName := ⟨RX8, "beginClaim", "()Z"⟩
def M_X8_beginClaim : MT := (yX8_beginClaim, cX8_beginClaim, 1, (some .boolean), RX8, 1)
theorem mk_X8_beginClaim : MokV M_X8_beginClaim 8 0 := ⟨⟨⟨by decide, by decide, rfl⟩, (allW_in (kT_4 _ (List.mem_of_getElem? (i := 135) rfl)) rfl), (allW_in (kT_1 _ (List.mem_of_getElem? (i := 10) rfl)) rfl), by decide⟩, ⟨TX8, 15, rfl⟩, (allW_in (kT_4 _ (List.mem_of_getElem? (i := 134) rfl)) rfl), (allW_in (kTs_1 _ (List.mem_of_getElem? (i := 15) rfl)) rfl)⟩
def B_X8_beginClaim_123 : Blk := (123, .ireturn, 1) :: []
theorem o_X8_beginClaim_123 : Chn cX8_beginClaim B_X8_beginClaim_123 := chn_of _ (by decide +kernel)
def B_X8_beginClaim_122 : Blk := (122, .iconst 0, 1) :: B_X8_beginClaim_123
theorem o_X8_beginClaim_122 : Chn cX8_beginClaim B_X8_beginClaim_122 := chn_app ((122, .iconst 0, 1) :: []) o_X8_beginClaim_123 (by decide +kernel)
def B_X8_beginClaim_111 : Blk := (111, .aload_n 0, 1) :: (112, .getfield 62, 3) :: (115, .ifCond .ne 7, 3) :: (118, .iconst 1, 1) :: (119, .goto 4, 3) :: []
theorem o_X8_beginClaim_111 : Chn cX8_beginClaim B_X8_beginClaim_111 := chn_of _ (by decide +kernel)
def B_X8_beginClaim_101 : Blk := (101, .aload_n 0, 1) :: (102, .invokevirtual 98, 3) :: (105, .aload_n 0, 1) :: (106, .bipush 10, 2) :: (108, .invokevirtual 56, 3) :: B_X8_beginClaim_111
theorem o_X8_beginClaim_101 : Chn cX8_beginClaim B_X8_beginClaim_101 := chn_app ((101, .aload_n 0, 1) :: (102, .invokevirtual 98, 3) :: (105, .aload_n 0, 1) :: (106, .bipush 10, 2) :: (108, .invokevirtual 56, 3) :: []) o_X8_beginClaim_111 (by decide +kernel)
def B_X8_beginClaim_81 : Blk := (81, .aload_n 0, 1) :: (82, .getfield 15, 3) :: (85, .getfield 33, 3) :: (88, .bipush 24, 2) :: (90, .if_icmp .lt 11, 3) :: (93, .aload_n 0, 1) :: (94, .iconst 5, 1) :: (95, .invokevirtual 95, 3) :: (98, .goto 13, 3) :: []
theorem o_X8_beginClaim_81 : Chn cX8_beginClaim B_X8_beginClaim_81 := chn_of _ (by decide +kernel)
def B_X8_beginClaim_73 : Blk := (73, .aload_n 0, 1) :: (74, .iconst 3, 1) :: (75, .invokevirtual 95, 3) :: (78, .goto 33, 3) :: []
theorem o_X8_beginClaim_73 : Chn cX8_beginClaim B_X8_beginClaim_73 := chn_of _ (by decide +kernel)
def B_X8_beginClaim_43 : Blk := (43, .aload_n 0, 1) :: (44, .getfield 15, 3) :: (47, .aload_n 0, 1) :: (48, .getfield 150, 3) :: (51, .invokevirtual 92, 3) :: (54, .iconst (-1), 1) :: (55, .if_icmp .ne 18, 3) :: (58, .aload_n 0, 1) :: (59, .getfield 15, 3) :: (62, .aload_n 0, 1) :: (63, .getfield 150, 3) :: (66, .invokevirtual 88, 3) :: (69, .iconst (-1), 1) :: (70, .if_icmp .eq 11, 3) :: B_X8_beginClaim_73
theorem o_X8_beginClaim_43 : Chn cX8_beginClaim B_X8_beginClaim_43 := chn_app ((43, .aload_n 0, 1) :: (44, .getfield 15, 3) :: (47, .aload_n 0, 1) :: (48, .getfield 150, 3) :: (51, .invokevirtual 92, 3) :: (54, .iconst (-1), 1) :: (55, .if_icmp .ne 18, 3) :: (58, .aload_n 0, 1) :: (59, .getfield 15, 3) :: (62, .aload_n 0, 1) :: (63, .getfield 150, 3) :: (66, .invokevirtual 88, 3) :: (69, .iconst (-1), 1) :: (70, .if_icmp .eq 11, 3) :: []) o_X8_beginClaim_73 (by decide +kernel)
def B_X8_beginClaim_0 : Blk := (0, .aload_n 0, 1) :: (1, .invokevirtual 98, 3) :: (4, .aload_n 0, 1) :: (5, .aload_n 0, 1) :: (6, .getfield 9, 3) :: (9, .aload_n 0, 1) :: (10, .getfield 79, 3) :: (13, .invokevirtual 82, 3) :: (16, .putfield 150, 3) :: (19, .aload_n 0, 1) :: (20, .aload_n 0, 1) :: (21, .getfield 136, 3) :: (24, .putfield 154, 3) :: (27, .aload_n 0, 1) :: (28, .getfield 39, 3) :: (31, .iconst 1, 1) :: (32, .if_icmp .eq 11, 3) :: (35, .aload_n 0, 1) :: (36, .iconst 2, 1) :: (37, .invokevirtual 95, 3) :: (40, .goto 71, 3) :: []
theorem o_X8_beginClaim_0 : Chn cX8_beginClaim B_X8_beginClaim_0 := chn_of _ (by decide +kernel)
theorem fl_8_150 : FLk RX8 150 8 9 2 false := ⟨RX8, TX8, 15, "IntegerHouse$Reader", "claimName", "J", rfl, by decide, rfl, Or.inl (allW_in (kT_2 _ (List.mem_of_getElem? (i := 57) rfl)) rfl), rfl, (fun h => absurd h (by decide)), (fun h => absurd h (by decide)), (fun _ => rfl), (fun h => absurd h (by decide))⟩
theorem fl_8_154 : FLk RX8 154 8 10 0 false := ⟨RX8, TX8, 15, "IntegerHouse$Reader", "claimPlace", "I", rfl, by decide, rfl, Or.inl (allW_in (kT_2 _ (List.mem_of_getElem? (i := 58) rfl)) rfl), rfl, (fun _ => rfl), (fun h => absurd h (by decide)), (fun h => absurd h (by decide)), (fun h => absurd h (by decide))⟩
theorem fl_8_33 : FLk RX8 33 2 11 0 false := ⟨RX2, TX2, 16, "IntegerHouse$House", "claims", "I", rfl, by decide, rfl, Or.inr ⟨"IntegerHouse", List.mem_of_getElem? (i := 11) rfl⟩, rfl, (fun _ => rfl), (fun h => absurd h (by decide)), (fun h => absurd h (by decide)), (fun h => absurd h (by decide))⟩
theorem ml_8_56 : MLk RX8 56 yX8_expect := Or.inl (allW_in (kT_4 _ (List.mem_of_getElem? (i := 136) rfl)) rfl)
abbrev cX8_endClaim : ByteArray := prog_10_method_16_code
def yX8_endClaim : MethodName := ⟨RX8, "endClaim", "()V"⟩
def M_X8_endClaim : MT := (yX8_endClaim, cX8_endClaim, 1, none, RX8, 0)
theorem mk_X8_endClaim : MokV M_X8_endClaim 8 0 := ⟨⟨⟨by decide, by decide, rfl⟩, (allW_in (kT_4 _ (List.mem_of_getElem? (i := 219) rfl)) rfl), (allW_in (kT_1 _ (List.mem_of_getElem? (i := 10) rfl)) rfl), by decide⟩, ⟨TX8, 15, rfl⟩, (allW_in (kT_4 _ (List.mem_of_getElem? (i := 218) rfl)) rfl), (allW_in (kTs_2 _ (List.mem_of_getElem? (i := 13) rfl)) rfl)⟩
def B_X8_endClaim_38 : Blk := (38, .return_, 1) :: []
theorem o_X8_endClaim_38 : Chn cX8_endClaim B_X8_endClaim_38 := chn_of _ (by decide +kernel)
def B_X8_endClaim_0 : Blk := (0, .aload_n 0, 1) :: (1, .getfield 62, 3) :: (4, .ifCond .ne 34, 3) :: (7, .aload_n 0, 1) :: (8, .getfield 15, 3) :: (11, .aload_n 0, 1) :: (12, .getfield 15, 3) :: (15, .getfield 33, 3) :: (18, .bipush 9, 2) :: (20, .aload_n 0, 1) :: (21, .getfield 154, 3) :: (24, .invokevirtual 157, 3) :: (27, .aload_n 0, 1) :: (28, .getfield 15, 3) :: (31, .aload_n 0, 1) :: (32, .getfield 150, 3) :: (35, .invokevirtual 160, 3) :: B_X8_endClaim_38
theorem o_X8_endClaim_0 : Chn cX8_endClaim B_X8_endClaim_0 := chn_app ((0, .aload_n 0, 1) :: (1, .getfield 62, 3) :: (4, .ifCond .ne 34, 3) :: (7, .aload_n 0, 1) :: (8, .getfield 15, 3) :: (11, .aload_n 0, 1) :: (12, .getfield 15, 3) :: (15, .getfield 33, 3) :: (18, .bipush 9, 2) :: (20, .aload_n 0, 1) :: (21, .getfield 154, 3) :: (24, .invokevirtual 157, 3) :: (27, .aload_n 0, 1) :: (28, .getfield 15, 3) :: (31, .aload_n 0, 1) :: (32, .getfield 150, 3) :: (35, .invokevirtual 160, 3) :: []) o_X8_endClaim_38 (by decide +kernel)
theorem ml_8_157 : MLk RX8 157 yX2_setFact := Or.inl (allW_in (kT_4 _ (List.mem_of_getElem? (i := 144) rfl)) rfl)
theorem ml_8_160 : MLk RX8 160 yX2_addClaim := Or.inl (allW_in (kT_4 _ (List.mem_of_getElem? (i := 220) rfl)) rfl)
abbrev cX9_setRow : ByteArray := prog_11_method_6_code
def yX9_setRow : MethodName := ⟨RX9, "setRow", "(IIJ)V"⟩
def M_X9_setRow : MT := (yX9_setRow, cX9_setRow, 5, none, RX9, 0)
theorem mk_X9_setRow : MokV M_X9_setRow 9 3 := ⟨⟨⟨by decide, by decide, rfl⟩, (allW_in (kT_7 _ (List.mem_of_getElem? (i := 158) rfl)) rfl), (allW_in (kT_1 _ (List.mem_of_getElem? (i := 14) rfl)) rfl), by decide⟩, ⟨TX9, 14, rfl⟩, (allW_in (kT_7 _ (List.mem_of_getElem? (i := 157) rfl)) rfl), (allW_in (kTs_7 _ (List.mem_of_getElem? (i := 0) rfl)) rfl)⟩
def B_X9_setRow_31 : Blk := (31, .return_, 1) :: []
theorem o_X9_setRow_31 : Chn cX9_setRow B_X9_setRow_31 := chn_of _ (by decide +kernel)
def B_X9_setRow_0 : Blk := (0, .iload_n 1, 1) :: (1, .ifCond .lt 30, 3) :: (4, .iload_n 1, 1) :: (5, .sipush 480, 3) :: (8, .if_icmp .ge 23, 3) :: (11, .iload_n 2, 1) :: (12, .ifCond .lt 19, 3) :: (15, .iload_n 2, 1) :: (16, .iconst 5, 1) :: (17, .if_icmp .ge 14, 3) :: (20, .aload_n 0, 1) :: (21, .getfield 11, 3) :: (24, .iload_n 1, 1) :: (25, .iconst 5, 1) :: (26, .imul, 1) :: (27, .iload_n 2, 1) :: (28, .iadd, 1) :: (29, .lload_n 3, 1) :: (30, .lastore, 1) :: B_X9_setRow_31
theorem o_X9_setRow_0 : Chn cX9_setRow B_X9_setRow_0 := chn_app ((0, .iload_n 1, 1) :: (1, .ifCond .lt 30, 3) :: (4, .iload_n 1, 1) :: (5, .sipush 480, 3) :: (8, .if_icmp .ge 23, 3) :: (11, .iload_n 2, 1) :: (12, .ifCond .lt 19, 3) :: (15, .iload_n 2, 1) :: (16, .iconst 5, 1) :: (17, .if_icmp .ge 14, 3) :: (20, .aload_n 0, 1) :: (21, .getfield 11, 3) :: (24, .iload_n 1, 1) :: (25, .iconst 5, 1) :: (26, .imul, 1) :: (27, .iload_n 2, 1) :: (28, .iadd, 1) :: (29, .lload_n 3, 1) :: (30, .lastore, 1) :: []) o_X9_setRow_31 (by decide +kernel)
theorem fl_9_11 : FLk RX9 11 9 0 3 true := ⟨RX9, TX9, 14, "IntegerHouse$Relaxer", "rows", "[J", rfl, by decide, rfl, Or.inl (allW_in (kT_3 _ (List.mem_of_getElem? (i := 23) rfl)) rfl), rfl, (fun h => absurd h (by decide)), (fun h => absurd h (by decide)), (fun h => absurd h (by decide)), (fun h => absurd h (by decide))⟩
abbrev cX9_clearRow : ByteArray := prog_11_method_7_code
def yX9_clearRow : MethodName := ⟨RX9, "clearRow", "(I)V"⟩
def M_X9_clearRow : MT := (yX9_clearRow, cX9_clearRow, 3, none, RX9, 0)
theorem mk_X9_clearRow : MokV M_X9_clearRow 9 1 := ⟨⟨⟨by decide, by decide, rfl⟩, (allW_in (kT_7 _ (List.mem_of_getElem? (i := 154) rfl)) rfl), (allW_in (kT_1 _ (List.mem_of_getElem? (i := 14) rfl)) rfl), by decide⟩, ⟨TX9, 14, rfl⟩, (allW_in (kT_7 _ (List.mem_of_getElem? (i := 153) rfl)) rfl), (allW_in (kTs_6 _ (List.mem_of_getElem? (i := 15) rfl)) rfl)⟩
def B_X9_clearRow_20 : Blk := (20, .return_, 1) :: []
theorem o_X9_clearRow_20 : Chn cX9_clearRow B_X9_clearRow_20 := chn_of _ (by decide +kernel)
def B_X9_clearRow_2 : Blk := (2, .iload_n 2, 1) :: (3, .iconst 5, 1) :: (4, .if_icmp .ge 16, 3) :: (7, .aload_n 0, 1) :: (8, .iload_n 1, 1) :: (9, .iload_n 2, 1) :: (10, .lconst 0, 1) :: (11, .invokevirtual 91, 3) :: (14, .iinc 2 1, 3) :: (17, .goto (-15), 3) :: []
theorem o_X9_clearRow_2 : Chn cX9_clearRow B_X9_clearRow_2 := chn_of _ (by decide +kernel)
def B_X9_clearRow_0 : Blk := (0, .iconst 0, 1) :: (1, .istore_n 2, 1) :: B_X9_clearRow_2
theorem o_X9_clearRow_0 : Chn cX9_clearRow B_X9_clearRow_0 := chn_app ((0, .iconst 0, 1) :: (1, .istore_n 2, 1) :: []) o_X9_clearRow_2 (by decide +kernel)
theorem ml_9_91 : MLk RX9 91 yX9_setRow := Or.inl (allW_in (kT_7 _ (List.mem_of_getElem? (i := 155) rfl)) rfl)
abbrev cX9_rowNumber : ByteArray := prog_11_method_5_code
def yX9_rowNumber : MethodName := ⟨RX9, "rowNumber", "(II)J"⟩
def M_X9_rowNumber : MT := (yX9_rowNumber, cX9_rowNumber, 3, (some .long), RX9, 2)
theorem mk_X9_rowNumber : MokV M_X9_rowNumber 9 2 := ⟨⟨⟨by decide, by decide, rfl⟩, (allW_in (kT_7 _ (List.mem_of_getElem? (i := 168) rfl)) rfl), (allW_in (kT_1 _ (List.mem_of_getElem? (i := 14) rfl)) rfl), by decide⟩, ⟨TX9, 14, rfl⟩, (allW_in (kT_7 _ (List.mem_of_getElem? (i := 167) rfl)) rfl), (allW_in (kTs_7 _ (List.mem_of_getElem? (i := 2) rfl)) rfl)⟩
def B_X9_rowNumber_34 : Blk := (34, .lreturn, 1) :: []
theorem o_X9_rowNumber_34 : Chn cX9_rowNumber B_X9_rowNumber_34 := chn_of _ (by decide +kernel)
def B_X9_rowNumber_33 : Blk := (33, .lconst 0, 1) :: B_X9_rowNumber_34
theorem o_X9_rowNumber_33 : Chn cX9_rowNumber B_X9_rowNumber_33 := chn_app ((33, .lconst 0, 1) :: []) o_X9_rowNumber_34 (by decide +kernel)
def B_X9_rowNumber_0 : Blk := (0, .iload_n 1, 1) :: (1, .ifCond .lt 32, 3) :: (4, .iload_n 1, 1) :: (5, .sipush 480, 3) :: (8, .if_icmp .ge 25, 3) :: (11, .iload_n 2, 1) :: (12, .ifCond .lt 21, 3) :: (15, .iload_n 2, 1) :: (16, .iconst 5, 1) :: (17, .if_icmp .ge 16, 3) :: (20, .aload_n 0, 1) :: (21, .getfield 11, 3) :: (24, .iload_n 1, 1) :: (25, .iconst 5, 1) :: (26, .imul, 1) :: (27, .iload_n 2, 1) :: (28, .iadd, 1) :: (29, .laload, 1) :: (30, .goto 4, 3) :: []
theorem o_X9_rowNumber_0 : Chn cX9_rowNumber B_X9_rowNumber_0 := chn_of _ (by decide +kernel)
abbrev cX9_isLike : ByteArray := prog_11_method_4_code
def yX9_isLike : MethodName := ⟨RX9, "isLike", "(II)Z"⟩
def M_X9_isLike : MT := (yX9_isLike, cX9_isLike, 5, (some .boolean), RX9, 1)
theorem mk_X9_isLike : MokV M_X9_isLike 9 2 := ⟨⟨⟨by decide, by decide, rfl⟩, (allW_in (kT_7 _ (List.mem_of_getElem? (i := 164) rfl)) rfl), (allW_in (kT_1 _ (List.mem_of_getElem? (i := 14) rfl)) rfl), by decide⟩, ⟨TX9, 14, rfl⟩, (allW_in (kT_7 _ (List.mem_of_getElem? (i := 163) rfl)) rfl), (allW_in (kTs_7 _ (List.mem_of_getElem? (i := 1) rfl)) rfl)⟩
def B_X9_isLike_43 : Blk := (43, .iload_n 3, 1) :: (44, .ireturn, 1) :: []
theorem o_X9_isLike_43 : Chn cX9_isLike B_X9_isLike_43 := chn_of _ (by decide +kernel)
def B_X9_isLike_35 : Blk := (35, .iand, 1) :: (36, .istore_n 3, 1) :: (37, .iinc 4 1, 3) :: (40, .goto (-35), 3) :: []
theorem o_X9_isLike_35 : Chn cX9_isLike B_X9_isLike_35 := chn_of _ (by decide +kernel)
def B_X9_isLike_34 : Blk := (34, .iconst 0, 1) :: B_X9_isLike_35
theorem o_X9_isLike_34 : Chn cX9_isLike B_X9_isLike_34 := chn_app ((34, .iconst 0, 1) :: []) o_X9_isLike_35 (by decide +kernel)
def B_X9_isLike_5 : Blk := (5, .iload 4, 2) :: (7, .iconst 5, 1) :: (8, .if_icmp .ge 35, 3) :: (11, .iload_n 3, 1) :: (12, .aload_n 0, 1) :: (13, .iload_n 1, 1) :: (14, .iload 4, 2) :: (16, .invokevirtual 99, 3) :: (19, .aload_n 0, 1) :: (20, .iload_n 2, 1) :: (21, .iload 4, 2) :: (23, .invokevirtual 99, 3) :: (26, .lcmp, 1) :: (27, .ifCond .ne 7, 3) :: (30, .iconst 1, 1) :: (31, .goto 4, 3) :: []
theorem o_X9_isLike_5 : Chn cX9_isLike B_X9_isLike_5 := chn_of _ (by decide +kernel)
def B_X9_isLike_0 : Blk := (0, .iconst 1, 1) :: (1, .istore_n 3, 1) :: (2, .iconst 0, 1) :: (3, .istore 4, 2) :: B_X9_isLike_5
theorem o_X9_isLike_0 : Chn cX9_isLike B_X9_isLike_0 := chn_app ((0, .iconst 1, 1) :: (1, .istore_n 3, 1) :: (2, .iconst 0, 1) :: (3, .istore 4, 2) :: []) o_X9_isLike_5 (by decide +kernel)
theorem ml_9_99 : MLk RX9 99 yX9_rowNumber := Or.inl (allW_in (kT_7 _ (List.mem_of_getElem? (i := 165) rfl)) rfl)
abbrev cX9_takeAtom : ByteArray := prog_11_method_3_code
def yX9_takeAtom : MethodName := ⟨RX9, "takeAtom", "(LIntegerHouse$House;I)Z"⟩
def M_X9_takeAtom : MT := (yX9_takeAtom, cX9_takeAtom, 4, (some .boolean), RX9, 1)
theorem mk_X9_takeAtom : MokV M_X9_takeAtom 9 2 := ⟨⟨⟨by decide, by decide, rfl⟩, (allW_in (kT_7 _ (List.mem_of_getElem? (i := 150) rfl)) rfl), (allW_in (kT_1 _ (List.mem_of_getElem? (i := 14) rfl)) rfl), by decide⟩, ⟨TX9, 14, rfl⟩, (allW_in (kT_7 _ (List.mem_of_getElem? (i := 149) rfl)) rfl), (allW_in (kTs_6 _ (List.mem_of_getElem? (i := 14) rfl)) rfl)⟩
def B_X9_takeAtom_98 : Blk := (98, .aload_n 0, 1) :: (99, .dup, 1) :: (100, .getfield 44, 3) :: (103, .iconst 1, 1) :: (104, .iadd, 1) :: (105, .putfield 44, 3) :: (108, .iconst 1, 1) :: (109, .ireturn, 1) :: []
theorem o_X9_takeAtom_98 : Chn cX9_takeAtom B_X9_takeAtom_98 := chn_of _ (by decide +kernel)
def B_X9_takeAtom_87 : Blk := (87, .aload_n 0, 1) :: (88, .getfield 44, 3) :: (91, .bipush 40, 2) :: (93, .if_icmp .lt 5, 3) :: (96, .iconst 0, 1) :: (97, .ireturn, 1) :: []
theorem o_X9_takeAtom_87 : Chn cX9_takeAtom B_X9_takeAtom_87 := chn_of _ (by decide +kernel)
def B_X9_takeAtom_81 : Blk := (81, .iinc 3 1, 3) :: (84, .goto (-25), 3) :: []
theorem o_X9_takeAtom_81 : Chn cX9_takeAtom B_X9_takeAtom_81 := chn_of _ (by decide +kernel)
def B_X9_takeAtom_59 : Blk := (59, .iload_n 3, 1) :: (60, .aload_n 0, 1) :: (61, .getfield 44, 3) :: (64, .if_icmp .ge 23, 3) :: (67, .aload_n 0, 1) :: (68, .iload_n 3, 1) :: (69, .aload_n 0, 1) :: (70, .getfield 44, 3) :: (73, .invokevirtual 95, 3) :: (76, .ifCond .eq 5, 3) :: (79, .iconst 1, 1) :: (80, .ireturn, 1) :: []
theorem o_X9_takeAtom_59 : Chn cX9_takeAtom B_X9_takeAtom_59 := chn_of _ (by decide +kernel)
def B_X9_takeAtom_57 : Blk := (57, .iconst 0, 1) :: (58, .istore_n 3, 1) :: B_X9_takeAtom_59
theorem o_X9_takeAtom_57 : Chn cX9_takeAtom B_X9_takeAtom_57 := chn_app ((57, .iconst 0, 1) :: (58, .istore_n 3, 1) :: []) o_X9_takeAtom_59 (by decide +kernel)
def B_X9_takeAtom_48 : Blk := (48, .invokevirtual 91, 3) :: (51, .iinc 3 1, 3) :: (54, .goto (-44), 3) :: []
theorem o_X9_takeAtom_48 : Chn cX9_takeAtom B_X9_takeAtom_48 := chn_of _ (by decide +kernel)
def B_X9_takeAtom_47 : Blk := (47, .lconst 0, 1) :: B_X9_takeAtom_48
theorem o_X9_takeAtom_47 : Chn cX9_takeAtom B_X9_takeAtom_47 := chn_app ((47, .lconst 0, 1) :: []) o_X9_takeAtom_48 (by decide +kernel)
def B_X9_takeAtom_36 : Blk := (36, .iload_n 3, 1) :: (37, .iconst 4, 1) :: (38, .if_icmp .ne 9, 3) :: (41, .ldc2_w 89, 3) :: (44, .goto 4, 3) :: []
theorem o_X9_takeAtom_36 : Chn cX9_takeAtom B_X9_takeAtom_36 := chn_of _ (by decide +kernel)
def B_X9_takeAtom_10 : Blk := (10, .iload_n 3, 1) :: (11, .iconst 5, 1) :: (12, .if_icmp .ge 45, 3) :: (15, .aload_n 0, 1) :: (16, .aload_n 0, 1) :: (17, .getfield 44, 3) :: (20, .iload_n 3, 1) :: (21, .iload_n 2, 1) :: (22, .iconst (-1), 1) :: (23, .if_icmp .eq 13, 3) :: (26, .aload_n 1, 1) :: (27, .iload_n 2, 1) :: (28, .iload_n 3, 1) :: (29, .invokevirtual 86, 3) :: (32, .i2l, 1) :: (33, .goto 15, 3) :: []
theorem o_X9_takeAtom_10 : Chn cX9_takeAtom B_X9_takeAtom_10 := chn_of _ (by decide +kernel)
def B_X9_takeAtom_0 : Blk := (0, .aload_n 0, 1) :: (1, .aload_n 0, 1) :: (2, .getfield 44, 3) :: (5, .invokevirtual 82, 3) :: (8, .iconst 0, 1) :: (9, .istore_n 3, 1) :: B_X9_takeAtom_10
theorem o_X9_takeAtom_0 : Chn cX9_takeAtom B_X9_takeAtom_0 := chn_app ((0, .aload_n 0, 1) :: (1, .aload_n 0, 1) :: (2, .getfield 44, 3) :: (5, .invokevirtual 82, 3) :: (8, .iconst 0, 1) :: (9, .istore_n 3, 1) :: []) o_X9_takeAtom_10 (by decide +kernel)
theorem fl_9_44 : FLk RX9 44 9 11 0 false := ⟨RX9, TX9, 14, "IntegerHouse$Relaxer", "size", "I", rfl, by decide, rfl, Or.inl (allW_in (kT_3 _ (List.mem_of_getElem? (i := 34) rfl)) rfl), rfl, (fun _ => rfl), (fun h => absurd h (by decide)), (fun h => absurd h (by decide)), (fun h => absurd h (by decide))⟩
theorem ml_9_82 : MLk RX9 82 yX9_clearRow := Or.inl (allW_in (kT_7 _ (List.mem_of_getElem? (i := 151) rfl)) rfl)
theorem ml_9_95 : MLk RX9 95 yX9_isLike := Or.inl (allW_in (kT_7 _ (List.mem_of_getElem? (i := 161) rfl)) rfl)
theorem ml_9_86 : MLk RX9 86 yX2_pooled := Or.inl (allW_in (kT_7 _ (List.mem_of_getElem? (i := 159) rfl)) rfl)
abbrev cX9_load : ByteArray := prog_11_method_2_code
def yX9_load : MethodName := ⟨RX9, "load", "(LIntegerHouse$House;[J)Z"⟩
def M_X9_load : MT := (yX9_load, cX9_load, 7, (some .boolean), RX9, 1)
theorem mk_X9_load : MokV M_X9_load 9 2 := ⟨⟨⟨by decide, by decide, rfl⟩, (allW_in (kT_7 _ (List.mem_of_getElem? (i := 142) rfl)) rfl), (allW_in (kT_1 _ (List.mem_of_getElem? (i := 14) rfl)) rfl), by decide⟩, ⟨TX9, 14, rfl⟩, (allW_in (kT_7 _ (List.mem_of_getElem? (i := 140) rfl)) rfl), (allW_in (kT_7 _ (List.mem_of_getElem? (i := 141) rfl)) rfl)⟩
def B_X9_load_178 : Blk := (178, .iload_n 3, 1) :: (179, .ireturn, 1) :: []
theorem o_X9_load_178 : Chn cX9_load B_X9_load_178 := chn_of _ (by decide +kernel)
def B_X9_load_172 : Blk := (172, .iinc 4 1, 3) :: (175, .goto (-104), 3) :: []
theorem o_X9_load_172 : Chn cX9_load B_X9_load_172 := chn_of _ (by decide +kernel)
def B_X9_load_138 : Blk := (138, .aload_n 1, 1) :: (139, .getfield 69, 3) :: (142, .iload 4, 2) :: (144, .iushr, 1) :: (145, .iconst 1, 1) :: (146, .iand, 1) :: (147, .iconst 1, 1) :: (148, .if_icmp .ne 24, 3) :: (151, .aload_n 1, 1) :: (152, .iload 4, 2) :: (154, .bipush 6, 2) :: (156, .invokevirtual 72, 3) :: (159, .iconst 1, 1) :: (160, .if_icmp .ne 12, 3) :: (163, .iload_n 3, 1) :: (164, .aload_n 0, 1) :: (165, .aload_n 1, 1) :: (166, .iconst (-1), 1) :: (167, .invokevirtual 78, 3) :: (170, .iand, 1) :: (171, .istore_n 3, 1) :: B_X9_load_172
theorem o_X9_load_138 : Chn cX9_load B_X9_load_138 := chn_app ((138, .aload_n 1, 1) :: (139, .getfield 69, 3) :: (142, .iload 4, 2) :: (144, .iushr, 1) :: (145, .iconst 1, 1) :: (146, .iand, 1) :: (147, .iconst 1, 1) :: (148, .if_icmp .ne 24, 3) :: (151, .aload_n 1, 1) :: (152, .iload 4, 2) :: (154, .bipush 6, 2) :: (156, .invokevirtual 72, 3) :: (159, .iconst 1, 1) :: (160, .if_icmp .ne 12, 3) :: (163, .iload_n 3, 1) :: (164, .aload_n 0, 1) :: (165, .aload_n 1, 1) :: (166, .iconst (-1), 1) :: (167, .invokevirtual 78, 3) :: (170, .iand, 1) :: (171, .istore_n 3, 1) :: []) o_X9_load_172 (by decide +kernel)
def B_X9_load_109 : Blk := (109, .iload 6, 2) :: (111, .iload 5, 2) :: (113, .if_icmp .ge 25, 3) :: (116, .iload_n 3, 1) :: (117, .aload_n 0, 1) :: (118, .aload_n 1, 1) :: (119, .aload_n 1, 1) :: (120, .iload 4, 2) :: (122, .iload 6, 2) :: (124, .invokevirtual 75, 3) :: (127, .invokevirtual 78, 3) :: (130, .iand, 1) :: (131, .istore_n 3, 1) :: (132, .iinc 6 1, 3) :: (135, .goto (-26), 3) :: []
theorem o_X9_load_109 : Chn cX9_load B_X9_load_109 := chn_of _ (by decide +kernel)
def B_X9_load_104 : Blk := (104, .istore 5, 2) :: (106, .iconst 0, 1) :: (107, .istore 6, 2) :: B_X9_load_109
theorem o_X9_load_104 : Chn cX9_load B_X9_load_104 := chn_app ((104, .istore 5, 2) :: (106, .iconst 0, 1) :: (107, .istore 6, 2) :: []) o_X9_load_109 (by decide +kernel)
def B_X9_load_103 : Blk := (103, .iconst 0, 1) :: B_X9_load_104
theorem o_X9_load_103 : Chn cX9_load B_X9_load_103 := chn_app ((103, .iconst 0, 1) :: []) o_X9_load_104 (by decide +kernel)
def B_X9_load_71 : Blk := (71, .iload 4, 2) :: (73, .aload_n 1, 1) :: (74, .getfield 66, 3) :: (77, .if_icmp .ge 101, 3) :: (80, .aload_n 1, 1) :: (81, .getfield 69, 3) :: (84, .iload 4, 2) :: (86, .iushr, 1) :: (87, .iconst 1, 1) :: (88, .iand, 1) :: (89, .iconst 1, 1) :: (90, .if_icmp .ne 13, 3) :: (93, .aload_n 1, 1) :: (94, .iload 4, 2) :: (96, .iconst 4, 1) :: (97, .invokevirtual 72, 3) :: (100, .goto 4, 3) :: []
theorem o_X9_load_71 : Chn cX9_load B_X9_load_71 := chn_of _ (by decide +kernel)
def B_X9_load_63 : Blk := (63, .putfield 63, 3) :: (66, .iconst 1, 1) :: (67, .istore_n 3, 1) :: (68, .iconst 0, 1) :: (69, .istore 4, 2) :: B_X9_load_71
theorem o_X9_load_63 : Chn cX9_load B_X9_load_63 := chn_app ((63, .putfield 63, 3) :: (66, .iconst 1, 1) :: (67, .istore_n 3, 1) :: (68, .iconst 0, 1) :: (69, .istore 4, 2) :: []) o_X9_load_71 (by decide +kernel)
def B_X9_load_62 : Blk := (62, .lconst 0, 1) :: B_X9_load_63
theorem o_X9_load_62 : Chn cX9_load B_X9_load_62 := chn_app ((62, .lconst 0, 1) :: []) o_X9_load_63 (by decide +kernel)
def B_X9_load_49 : Blk := (49, .aload_n 0, 1) :: (50, .aload_n 2, 1) :: (51, .arraylength, 1) :: (52, .iconst 4, 1) :: (53, .if_icmp .le 9, 3) :: (56, .aload_n 2, 1) :: (57, .iconst 4, 1) :: (58, .laload, 1) :: (59, .goto 4, 3) :: []
theorem o_X9_load_49 : Chn cX9_load B_X9_load_49 := chn_of _ (by decide +kernel)
def B_X9_load_23 : Blk := (23, .iload_n 3, 1) :: (24, .iconst 4, 1) :: (25, .if_icmp .ge 24, 3) :: (28, .iload_n 3, 1) :: (29, .aload_n 2, 1) :: (30, .arraylength, 1) :: (31, .if_icmp .ge 18, 3) :: (34, .aload_n 0, 1) :: (35, .getfield 15, 3) :: (38, .iload_n 3, 1) :: (39, .aload_n 2, 1) :: (40, .iload_n 3, 1) :: (41, .laload, 1) :: (42, .lastore, 1) :: (43, .iinc 3 1, 3) :: (46, .goto (-23), 3) :: []
theorem o_X9_load_23 : Chn cX9_load B_X9_load_23 := chn_of _ (by decide +kernel)
def B_X9_load_0 : Blk := (0, .aload_n 0, 1) :: (1, .iconst 0, 1) :: (2, .putfield 44, 3) :: (5, .aload_n 0, 1) :: (6, .iconst 0, 1) :: (7, .iconst 4, 1) :: (8, .aload_n 1, 1) :: (9, .getfield 48, 3) :: (12, .invokestatic 53, 3) :: (15, .invokestatic 59, 3) :: (18, .putfield 62, 3) :: (21, .iconst 0, 1) :: (22, .istore_n 3, 1) :: B_X9_load_23
theorem o_X9_load_0 : Chn cX9_load B_X9_load_0 := chn_app ((0, .aload_n 0, 1) :: (1, .iconst 0, 1) :: (2, .putfield 44, 3) :: (5, .aload_n 0, 1) :: (6, .iconst 0, 1) :: (7, .iconst 4, 1) :: (8, .aload_n 1, 1) :: (9, .getfield 48, 3) :: (12, .invokestatic 53, 3) :: (15, .invokestatic 59, 3) :: (18, .putfield 62, 3) :: (21, .iconst 0, 1) :: (22, .istore_n 3, 1) :: []) o_X9_load_23 (by decide +kernel)
theorem fl_9_48 : FLk RX9 48 2 10 0 false := ⟨RX2, TX2, 16, "IntegerHouse$House", "variables", "I", rfl, by decide, rfl, Or.inr ⟨"IntegerHouse", List.mem_of_getElem? (i := 6) rfl⟩, rfl, (fun _ => rfl), (fun h => absurd h (by decide)), (fun h => absurd h (by decide)), (fun h => absurd h (by decide))⟩
theorem fl_9_62 : FLk RX9 62 9 12 0 false := ⟨RX9, TX9, 14, "IntegerHouse$Relaxer", "variables", "I", rfl, by decide, rfl, Or.inl (allW_in (kT_3 _ (List.mem_of_getElem? (i := 36) rfl)) rfl), rfl, (fun _ => rfl), (fun h => absurd h (by decide)), (fun h => absurd h (by decide)), (fun h => absurd h (by decide))⟩
theorem fl_9_63 : FLk RX9 63 9 8 2 false := ⟨RX9, TX9, 14, "IntegerHouse$Relaxer", "goalNumber", "J", rfl, by decide, rfl, Or.inl (allW_in (kT_3 _ (List.mem_of_getElem? (i := 31) rfl)) rfl), rfl, (fun h => absurd h (by decide)), (fun h => absurd h (by decide)), (fun _ => rfl), (fun h => absurd h (by decide))⟩
theorem fl_9_66 : FLk RX9 66 2 11 0 false := ⟨RX2, TX2, 16, "IntegerHouse$House", "claims", "I", rfl, by decide, rfl, Or.inr ⟨"IntegerHouse", List.mem_of_getElem? (i := 12) rfl⟩, rfl, (fun _ => rfl), (fun h => absurd h (by decide)), (fun h => absurd h (by decide)), (fun h => absurd h (by decide))⟩
theorem fl_9_69 : FLk RX9 69 2 13 0 false := ⟨RX2, TX2, 16, "IntegerHouse$House", "on", "I", rfl, by decide, rfl, Or.inr ⟨"IntegerHouse", List.mem_of_getElem? (i := 18) rfl⟩, rfl, (fun _ => rfl), (fun h => absurd h (by decide)), (fun h => absurd h (by decide)), (fun h => absurd h (by decide))⟩
theorem ml_9_72 : MLk RX9 72 yX2_fact := Or.inl (allW_in (kT_7 _ (List.mem_of_getElem? (i := 145) rfl)) rfl)
theorem ml_9_78 : MLk RX9 78 yX9_takeAtom := Or.inl (allW_in (kT_7 _ (List.mem_of_getElem? (i := 147) rfl)) rfl)
theorem ml_9_75 : MLk RX9 75 yX2_atomOf := Or.inl (allW_in (kT_7 _ (List.mem_of_getElem? (i := 146) rfl)) rfl)
theorem fl_9_15 : FLk RX9 15 9 1 3 true := ⟨RX9, TX9, 14, "IntegerHouse$Relaxer", "goal", "[J", rfl, by decide, rfl, Or.inl (allW_in (kT_3 _ (List.mem_of_getElem? (i := 24) rfl)) rfl), rfl, (fun h => absurd h (by decide)), (fun h => absurd h (by decide)), (fun h => absurd h (by decide)), (fun h => absurd h (by decide))⟩
abbrev cX9_addLimit : ByteArray := prog_11_method_8_code
def yX9_addLimit : MethodName := ⟨RX9, "addLimit", "(IIJ)V"⟩
def M_X9_addLimit : MT := (yX9_addLimit, cX9_addLimit, 5, none, RX9, 0)
theorem mk_X9_addLimit : MokV M_X9_addLimit 9 3 := ⟨⟨⟨by decide, by decide, rfl⟩, (allW_in (kT_8 _ (List.mem_of_getElem? (i := 17) rfl)) rfl), (allW_in (kT_1 _ (List.mem_of_getElem? (i := 14) rfl)) rfl), by decide⟩, ⟨TX9, 14, rfl⟩, (allW_in (kT_8 _ (List.mem_of_getElem? (i := 15) rfl)) rfl), (allW_in (kT_8 _ (List.mem_of_getElem? (i := 16) rfl)) rfl)⟩
def B_X9_addLimit_0 : Blk := (0, .aload_n 0, 1) :: (1, .aload_n 0, 1) :: (2, .getfield 44, 3) :: (5, .invokevirtual 82, 3) :: (8, .aload_n 0, 1) :: (9, .aload_n 0, 1) :: (10, .getfield 44, 3) :: (13, .iload_n 1, 1) :: (14, .iload_n 2, 1) :: (15, .i2l, 1) :: (16, .invokevirtual 91, 3) :: (19, .aload_n 0, 1) :: (20, .aload_n 0, 1) :: (21, .getfield 44, 3) :: (24, .iconst 4, 1) :: (25, .lload_n 3, 1) :: (26, .invokevirtual 91, 3) :: (29, .aload_n 0, 1) :: (30, .aload_n 0, 1) :: (31, .getfield 44, 3) :: (34, .iconst 1, 1) :: (35, .iadd, 1) :: (36, .sipush 479, 3) :: (39, .invokestatic 53, 3) :: (42, .putfield 44, 3) :: (45, .return_, 1) :: []
theorem o_X9_addLimit_0 : Chn cX9_addLimit B_X9_addLimit_0 := chn_of _ (by decide +kernel)

abbrev cX9_beginEndless : ByteArray := prog_11_method_15_code
def yX9_beginEndless : MethodName := ⟨RX9, "beginEndless", "()V"⟩
def M_X9_beginEndless : MT := (yX9_beginEndless, cX9_beginEndless, 2, none, RX9, 0)
theorem mk_X9_beginEndless : MokV M_X9_beginEndless 9 0 := ⟨⟨⟨by decide, by decide, rfl⟩, (allW_in (kT_7 _ (List.mem_of_getElem? (i := 180) rfl)) rfl), (allW_in (kT_1 _ (List.mem_of_getElem? (i := 14) rfl)) rfl), by decide⟩, ⟨TX9, 14, rfl⟩, (allW_in (kT_7 _ (List.mem_of_getElem? (i := 179) rfl)) rfl), (allW_in (kTs_7 _ (List.mem_of_getElem? (i := 3) rfl)) rfl)⟩
def B_X9_beginEndless_61 : Blk := (61, .return_, 1) :: []
theorem o_X9_beginEndless_61 : Chn cX9_beginEndless B_X9_beginEndless_61 := chn_of _ (by decide +kernel)
def B_X9_beginEndless_47 : Blk := (47, .lastore, 1) :: (48, .aload_n 0, 1) :: (49, .getfield 18, 3) :: (52, .iload_n 1, 1) :: (53, .iconst (-1), 1) :: (54, .iastore, 1) :: (55, .iinc 1 1, 3) :: (58, .goto (-43), 3) :: []
theorem o_X9_beginEndless_47 : Chn cX9_beginEndless B_X9_beginEndless_47 := chn_of _ (by decide +kernel)
def B_X9_beginEndless_44 : Blk := (44, .ldc2_w 89, 3) :: B_X9_beginEndless_47
theorem o_X9_beginEndless_44 : Chn cX9_beginEndless B_X9_beginEndless_44 := chn_app ((44, .ldc2_w 89, 3) :: []) o_X9_beginEndless_47 (by decide +kernel)
def B_X9_beginEndless_15 : Blk := (15, .iload_n 1, 1) :: (16, .iconst 4, 1) :: (17, .if_icmp .ge 44, 3) :: (20, .aload_n 0, 1) :: (21, .getfield 22, 3) :: (24, .iload_n 1, 1) :: (25, .iconst 4, 1) :: (26, .imul, 1) :: (27, .iload_n 1, 1) :: (28, .iadd, 1) :: (29, .aload_n 0, 1) :: (30, .getfield 15, 3) :: (33, .iload_n 1, 1) :: (34, .laload, 1) :: (35, .lconst 0, 1) :: (36, .lcmp, 1) :: (37, .ifCond .le 7, 3) :: (40, .lconst 1, 1) :: (41, .goto 6, 3) :: []
theorem o_X9_beginEndless_15 : Chn cX9_beginEndless B_X9_beginEndless_15 := chn_of _ (by decide +kernel)
def B_X9_beginEndless_0 : Blk := (0, .aload_n 0, 1) :: (1, .getfield 22, 3) :: (4, .lconst 0, 1) :: (5, .invokestatic 147, 3) :: (8, .aload_n 0, 1) :: (9, .lconst 1, 1) :: (10, .putfield 37, 3) :: (13, .iconst 0, 1) :: (14, .istore_n 1, 1) :: B_X9_beginEndless_15
theorem o_X9_beginEndless_0 : Chn cX9_beginEndless B_X9_beginEndless_0 := chn_app ((0, .aload_n 0, 1) :: (1, .getfield 22, 3) :: (4, .lconst 0, 1) :: (5, .invokestatic 147, 3) :: (8, .aload_n 0, 1) :: (9, .lconst 1, 1) :: (10, .putfield 37, 3) :: (13, .iconst 0, 1) :: (14, .istore_n 1, 1) :: []) o_X9_beginEndless_15 (by decide +kernel)
theorem fl_9_22 : FLk RX9 22 9 3 3 true := ⟨RX9, TX9, 14, "IntegerHouse$Relaxer", "columns", "[J", rfl, by decide, rfl, Or.inl (allW_in (kT_3 _ (List.mem_of_getElem? (i := 26) rfl)) rfl), rfl, (fun h => absurd h (by decide)), (fun h => absurd h (by decide)), (fun h => absurd h (by decide)), (fun h => absurd h (by decide))⟩
theorem ml_9_147 : MLk RX9 147 yJ7_fill_d0a16 := Or.inl (allW_in (kT_7 _ (List.mem_of_getElem? (i := 181) rfl)) rfl)
theorem fl_9_37 : FLk RX9 37 9 9 2 false := ⟨RX9, TX9, 14, "IntegerHouse$Relaxer", "below", "J", rfl, by decide, rfl, Or.inl (allW_in (kT_3 _ (List.mem_of_getElem? (i := 32) rfl)) rfl), rfl, (fun h => absurd h (by decide)), (fun h => absurd h (by decide)), (fun _ => rfl), (fun h => absurd h (by decide))⟩
theorem fl_9_18 : FLk RX9 18 9 2 3 true := ⟨RX9, TX9, 14, "IntegerHouse$Relaxer", "basis", "[I", rfl, by decide, rfl, Or.inl (allW_in (kT_3 _ (List.mem_of_getElem? (i := 25) rfl)) rfl), rfl, (fun h => absurd h (by decide)), (fun h => absurd h (by decide)), (fun h => absurd h (by decide)), (fun h => absurd h (by decide))⟩
abbrev cX9_locate : ByteArray := prog_11_method_16_code
def yX9_locate : MethodName := ⟨RX9, "locate", "()V"⟩
def M_X9_locate : MT := (yX9_locate, cX9_locate, 5, none, RX9, 0)
theorem mk_X9_locate : MokV M_X9_locate 9 0 := ⟨⟨⟨by decide, by decide, rfl⟩, (allW_in (kT_7 _ (List.mem_of_getElem? (i := 186) rfl)) rfl), (allW_in (kT_1 _ (List.mem_of_getElem? (i := 14) rfl)) rfl), by decide⟩, ⟨TX9, 14, rfl⟩, (allW_in (kT_7 _ (List.mem_of_getElem? (i := 185) rfl)) rfl), (allW_in (kTs_7 _ (List.mem_of_getElem? (i := 4) rfl)) rfl)⟩
def B_X9_locate_107 : Blk := (107, .return_, 1) :: []
theorem o_X9_locate_107 : Chn cX9_locate B_X9_locate_107 := chn_of _ (by decide +kernel)
def B_X9_locate_101 : Blk := (101, .iinc 1 1, 3) :: (104, .goto (-94), 3) :: []
theorem o_X9_locate_101 : Chn cX9_locate B_X9_locate_101 := chn_of _ (by decide +kernel)
def B_X9_locate_95 : Blk := (95, .iinc 2 1, 3) :: (98, .goto (-67), 3) :: []
theorem o_X9_locate_95 : Chn cX9_locate B_X9_locate_95 := chn_of _ (by decide +kernel)
def B_X9_locate_73 : Blk := (73, .aload_n 0, 1) :: (74, .getfield 28, 3) :: (77, .iload_n 1, 1) :: (78, .dup2, 1) :: (79, .laload, 1) :: (80, .lload_n 3, 1) :: (81, .aload_n 0, 1) :: (82, .aload_n 0, 1) :: (83, .getfield 18, 3) :: (86, .iload_n 2, 1) :: (87, .iaload, 1) :: (88, .iconst 4, 1) :: (89, .invokevirtual 99, 3) :: (92, .lmul, 1) :: (93, .ladd, 1) :: (94, .lastore, 1) :: B_X9_locate_95
theorem o_X9_locate_73 : Chn cX9_locate B_X9_locate_73 := chn_app ((73, .aload_n 0, 1) :: (74, .getfield 28, 3) :: (77, .iload_n 1, 1) :: (78, .dup2, 1) :: (79, .laload, 1) :: (80, .lload_n 3, 1) :: (81, .aload_n 0, 1) :: (82, .aload_n 0, 1) :: (83, .getfield 18, 3) :: (86, .iload_n 2, 1) :: (87, .iaload, 1) :: (88, .iconst 4, 1) :: (89, .invokevirtual 99, 3) :: (92, .lmul, 1) :: (93, .ladd, 1) :: (94, .lastore, 1) :: []) o_X9_locate_95 (by decide +kernel)
def B_X9_locate_31 : Blk := (31, .iload_n 2, 1) :: (32, .aload_n 0, 1) :: (33, .getfield 62, 3) :: (36, .if_icmp .ge 65, 3) :: (39, .aload_n 0, 1) :: (40, .getfield 22, 3) :: (43, .iload_n 2, 1) :: (44, .iconst 4, 1) :: (45, .imul, 1) :: (46, .iload_n 1, 1) :: (47, .iadd, 1) :: (48, .laload, 1) :: (49, .lstore_n 3, 1) :: (50, .aload_n 0, 1) :: (51, .getfield 18, 3) :: (54, .iload_n 2, 1) :: (55, .iaload, 1) :: (56, .iconst (-1), 1) :: (57, .if_icmp .ne 16, 3) :: (60, .aload_n 0, 1) :: (61, .getfield 31, 3) :: (64, .iload_n 1, 1) :: (65, .dup2, 1) :: (66, .laload, 1) :: (67, .lload_n 3, 1) :: (68, .ladd, 1) :: (69, .lastore, 1) :: (70, .goto 25, 3) :: []
theorem o_X9_locate_31 : Chn cX9_locate B_X9_locate_31 := chn_of _ (by decide +kernel)
def B_X9_locate_10 : Blk := (10, .iload_n 1, 1) :: (11, .iconst 4, 1) :: (12, .if_icmp .ge 95, 3) :: (15, .aload_n 0, 1) :: (16, .getfield 28, 3) :: (19, .iload_n 1, 1) :: (20, .lconst 0, 1) :: (21, .lastore, 1) :: (22, .aload_n 0, 1) :: (23, .getfield 31, 3) :: (26, .iload_n 1, 1) :: (27, .lconst 0, 1) :: (28, .lastore, 1) :: (29, .iconst 0, 1) :: (30, .istore_n 2, 1) :: B_X9_locate_31
theorem o_X9_locate_10 : Chn cX9_locate B_X9_locate_10 := chn_app ((10, .iload_n 1, 1) :: (11, .iconst 4, 1) :: (12, .if_icmp .ge 95, 3) :: (15, .aload_n 0, 1) :: (16, .getfield 28, 3) :: (19, .iload_n 1, 1) :: (20, .lconst 0, 1) :: (21, .lastore, 1) :: (22, .aload_n 0, 1) :: (23, .getfield 31, 3) :: (26, .iload_n 1, 1) :: (27, .lconst 0, 1) :: (28, .lastore, 1) :: (29, .iconst 0, 1) :: (30, .istore_n 2, 1) :: []) o_X9_locate_31 (by decide +kernel)
def B_X9_locate_0 : Blk := (0, .aload_n 0, 1) :: (1, .aload_n 0, 1) :: (2, .getfield 37, 3) :: (5, .putfield 41, 3) :: (8, .iconst 0, 1) :: (9, .istore_n 1, 1) :: B_X9_locate_10
theorem o_X9_locate_0 : Chn cX9_locate B_X9_locate_0 := chn_app ((0, .aload_n 0, 1) :: (1, .aload_n 0, 1) :: (2, .getfield 37, 3) :: (5, .putfield 41, 3) :: (8, .iconst 0, 1) :: (9, .istore_n 1, 1) :: []) o_X9_locate_10 (by decide +kernel)
theorem fl_9_41 : FLk RX9 41 9 10 2 false := ⟨RX9, TX9, 14, "IntegerHouse$Relaxer", "pointBelow", "J", rfl, by decide, rfl, Or.inl (allW_in (kT_3 _ (List.mem_of_getElem? (i := 33) rfl)) rfl), rfl, (fun h => absurd h (by decide)), (fun h => absurd h (by decide)), (fun _ => rfl), (fun h => absurd h (by decide))⟩
theorem fl_9_28 : FLk RX9 28 9 5 3 true := ⟨RX9, TX9, 14, "IntegerHouse$Relaxer", "point", "[J", rfl, by decide, rfl, Or.inl (allW_in (kT_3 _ (List.mem_of_getElem? (i := 28) rfl)) rfl), rfl, (fun h => absurd h (by decide)), (fun h => absurd h (by decide)), (fun h => absurd h (by decide)), (fun h => absurd h (by decide))⟩
theorem fl_9_31 : FLk RX9 31 9 6 3 true := ⟨RX9, TX9, 14, "IntegerHouse$Relaxer", "endless", "[J", rfl, by decide, rfl, Or.inl (allW_in (kT_3 _ (List.mem_of_getElem? (i := 29) rfl)) rfl), rfl, (fun h => absurd h (by decide)), (fun h => absurd h (by decide)), (fun h => absurd h (by decide)), (fun h => absurd h (by decide))⟩
abbrev cX9_signOf : ByteArray := prog_11_method_19_code
def yX9_signOf : MethodName := ⟨RX9, "signOf", "(JJ)I"⟩
def M_X9_signOf : MT := (yX9_signOf, cX9_signOf, 4, (some .int), RX9, 1)
theorem mk_X9_signOf : MokS M_X9_signOf 2 := ⟨⟨⟨by decide, by decide, rfl⟩, (allW_in (kT_7 _ (List.mem_of_getElem? (i := 198) rfl)) rfl), (allW_in (kT_1 _ (List.mem_of_getElem? (i := 14) rfl)) rfl), by decide⟩, (allW_in (kT_7 _ (List.mem_of_getElem? (i := 197) rfl)) rfl)⟩
def B_X9_signOf_27 : Blk := (27, .ireturn, 1) :: []
theorem o_X9_signOf_27 : Chn cX9_signOf B_X9_signOf_27 := chn_of _ (by decide +kernel)
def B_X9_signOf_26 : Blk := (26, .iconst 0, 1) :: B_X9_signOf_27
theorem o_X9_signOf_26 : Chn cX9_signOf B_X9_signOf_26 := chn_app ((26, .iconst 0, 1) :: []) o_X9_signOf_27 (by decide +kernel)
def B_X9_signOf_22 : Blk := (22, .iconst 1, 1) :: (23, .goto 4, 3) :: []
theorem o_X9_signOf_22 : Chn cX9_signOf B_X9_signOf_22 := chn_of _ (by decide +kernel)
def B_X9_signOf_10 : Blk := (10, .lload_n 0, 1) :: (11, .lconst 0, 1) :: (12, .lcmp, 1) :: (13, .ifCond .gt 9, 3) :: (16, .lload_n 2, 1) :: (17, .lconst 0, 1) :: (18, .lcmp, 1) :: (19, .ifCond .le 7, 3) :: B_X9_signOf_22
theorem o_X9_signOf_10 : Chn cX9_signOf B_X9_signOf_10 := chn_app ((10, .lload_n 0, 1) :: (11, .lconst 0, 1) :: (12, .lcmp, 1) :: (13, .ifCond .gt 9, 3) :: (16, .lload_n 2, 1) :: (17, .lconst 0, 1) :: (18, .lcmp, 1) :: (19, .ifCond .le 7, 3) :: []) o_X9_signOf_22 (by decide +kernel)
def B_X9_signOf_0 : Blk := (0, .lload_n 0, 1) :: (1, .lconst 0, 1) :: (2, .lcmp, 1) :: (3, .ifCond .ge 7, 3) :: (6, .iconst (-1), 1) :: (7, .goto 20, 3) :: []
theorem o_X9_signOf_0 : Chn cX9_signOf B_X9_signOf_0 := chn_of _ (by decide +kernel)
abbrev cX9_slackSign : ByteArray := prog_11_method_18_code
def yX9_slackSign : MethodName := ⟨RX9, "slackSign", "(I)I"⟩
def M_X9_slackSign : MT := (yX9_slackSign, cX9_slackSign, 11, (some .int), RX9, 1)
theorem mk_X9_slackSign : MokV M_X9_slackSign 9 1 := ⟨⟨⟨by decide, by decide, rfl⟩, (allW_in (kT_7 _ (List.mem_of_getElem? (i := 194) rfl)) rfl), (allW_in (kT_1 _ (List.mem_of_getElem? (i := 14) rfl)) rfl), by decide⟩, ⟨TX9, 14, rfl⟩, (allW_in (kT_7 _ (List.mem_of_getElem? (i := 193) rfl)) rfl), (allW_in (kTs_7 _ (List.mem_of_getElem? (i := 6) rfl)) rfl)⟩
def B_X9_slackSign_93 : Blk := (93, .lload 6, 2) :: (95, .lload 8, 2) :: (97, .bipush 30, 2) :: (99, .lshr, 1) :: (100, .ladd, 1) :: (101, .lload 8, 2) :: (103, .lload_n 2, 1) :: (104, .land, 1) :: (105, .invokestatic 159, 3) :: (108, .ireturn, 1) :: []
theorem o_X9_slackSign_93 : Chn cX9_slackSign B_X9_slackSign_93 := chn_of _ (by decide +kernel)
def B_X9_slackSign_33 : Blk := (33, .iload 10, 2) :: (35, .aload_n 0, 1) :: (36, .getfield 62, 3) :: (39, .if_icmp .ge 54, 3) :: (42, .lload 6, 2) :: (44, .aload_n 0, 1) :: (45, .iload_n 1, 1) :: (46, .iload 10, 2) :: (48, .invokevirtual 99, 3) :: (51, .aload_n 0, 1) :: (52, .getfield 28, 3) :: (55, .iload 10, 2) :: (57, .laload, 1) :: (58, .bipush 30, 2) :: (60, .lshr, 1) :: (61, .lmul, 1) :: (62, .lsub, 1) :: (63, .lstore 6, 2) :: (65, .lload 8, 2) :: (67, .aload_n 0, 1) :: (68, .iload_n 1, 1) :: (69, .iload 10, 2) :: (71, .invokevirtual 99, 3) :: (74, .aload_n 0, 1) :: (75, .getfield 28, 3) :: (78, .iload 10, 2) :: (80, .laload, 1) :: (81, .lload_n 2, 1) :: (82, .land, 1) :: (83, .lmul, 1) :: (84, .lsub, 1) :: (85, .lstore 8, 2) :: (87, .iinc 10 1, 3) :: (90, .goto (-57), 3) :: []
theorem o_X9_slackSign_33 : Chn cX9_slackSign B_X9_slackSign_33 := chn_of _ (by decide +kernel)
def B_X9_slackSign_0 : Blk := (0, .ldc2_w 157, 3) :: (3, .lstore_n 2, 1) :: (4, .aload_n 0, 1) :: (5, .iload_n 1, 1) :: (6, .iconst 4, 1) :: (7, .invokevirtual 99, 3) :: (10, .aload_n 0, 1) :: (11, .getfield 41, 3) :: (14, .lmul, 1) :: (15, .lstore 4, 2) :: (17, .lload 4, 2) :: (19, .bipush 30, 2) :: (21, .lshr, 1) :: (22, .lstore 6, 2) :: (24, .lload 4, 2) :: (26, .lload_n 2, 1) :: (27, .land, 1) :: (28, .lstore 8, 2) :: (30, .iconst 0, 1) :: (31, .istore 10, 2) :: B_X9_slackSign_33
theorem o_X9_slackSign_0 : Chn cX9_slackSign B_X9_slackSign_0 := chn_app ((0, .ldc2_w 157, 3) :: (3, .lstore_n 2, 1) :: (4, .aload_n 0, 1) :: (5, .iload_n 1, 1) :: (6, .iconst 4, 1) :: (7, .invokevirtual 99, 3) :: (10, .aload_n 0, 1) :: (11, .getfield 41, 3) :: (14, .lmul, 1) :: (15, .lstore 4, 2) :: (17, .lload 4, 2) :: (19, .bipush 30, 2) :: (21, .lshr, 1) :: (22, .lstore 6, 2) :: (24, .lload 4, 2) :: (26, .lload_n 2, 1) :: (27, .land, 1) :: (28, .lstore 8, 2) :: (30, .iconst 0, 1) :: (31, .istore 10, 2) :: []) o_X9_slackSign_33 (by decide +kernel)
theorem ml_9_159 : MLk RX9 159 yX9_signOf := Or.inl (allW_in (kT_7 _ (List.mem_of_getElem? (i := 196) rfl)) rfl)
abbrev cX9_brokenRow : ByteArray := prog_11_method_17_code
def yX9_brokenRow : MethodName := ⟨RX9, "brokenRow", "()I"⟩
def M_X9_brokenRow : MT := (yX9_brokenRow, cX9_brokenRow, 5, (some .int), RX9, 1)
theorem mk_X9_brokenRow : MokV M_X9_brokenRow 9 0 := ⟨⟨⟨by decide, by decide, rfl⟩, (allW_in (kT_7 _ (List.mem_of_getElem? (i := 190) rfl)) rfl), (allW_in (kT_1 _ (List.mem_of_getElem? (i := 14) rfl)) rfl), by decide⟩, ⟨TX9, 14, rfl⟩, (allW_in (kT_7 _ (List.mem_of_getElem? (i := 189) rfl)) rfl), (allW_in (kTs_7 _ (List.mem_of_getElem? (i := 5) rfl)) rfl)⟩
def B_X9_brokenRow_76 : Blk := (76, .iconst (-1), 1) :: (77, .ireturn, 1) :: []
theorem o_X9_brokenRow_76 : Chn cX9_brokenRow B_X9_brokenRow_76 := chn_of _ (by decide +kernel)
def B_X9_brokenRow_70 : Blk := (70, .iinc 1 1, 3) :: (73, .goto (-71), 3) :: []
theorem o_X9_brokenRow_70 : Chn cX9_brokenRow B_X9_brokenRow_70 := chn_of _ (by decide +kernel)
def B_X9_brokenRow_68 : Blk := (68, .iload_n 1, 1) :: (69, .ireturn, 1) :: []
theorem o_X9_brokenRow_68 : Chn cX9_brokenRow B_X9_brokenRow_68 := chn_of _ (by decide +kernel)
def B_X9_brokenRow_48 : Blk := (48, .lload_n 2, 1) :: (49, .lconst 0, 1) :: (50, .lcmp, 1) :: (51, .ifCond .gt 17, 3) :: (54, .lload_n 2, 1) :: (55, .lconst 0, 1) :: (56, .lcmp, 1) :: (57, .ifCond .ne 13, 3) :: (60, .aload_n 0, 1) :: (61, .iload_n 1, 1) :: (62, .invokevirtual 153, 3) :: (65, .ifCond .ge 5, 3) :: B_X9_brokenRow_68
theorem o_X9_brokenRow_48 : Chn cX9_brokenRow B_X9_brokenRow_48 := chn_app ((48, .lload_n 2, 1) :: (49, .lconst 0, 1) :: (50, .lcmp, 1) :: (51, .ifCond .gt 17, 3) :: (54, .lload_n 2, 1) :: (55, .lconst 0, 1) :: (56, .lcmp, 1) :: (57, .ifCond .ne 13, 3) :: (60, .aload_n 0, 1) :: (61, .iload_n 1, 1) :: (62, .invokevirtual 153, 3) :: (65, .ifCond .ge 5, 3) :: []) o_X9_brokenRow_68 (by decide +kernel)
def B_X9_brokenRow_15 : Blk := (15, .iload 4, 2) :: (17, .aload_n 0, 1) :: (18, .getfield 62, 3) :: (21, .if_icmp .ge 27, 3) :: (24, .lload_n 2, 1) :: (25, .aload_n 0, 1) :: (26, .iload_n 1, 1) :: (27, .iload 4, 2) :: (29, .invokevirtual 99, 3) :: (32, .aload_n 0, 1) :: (33, .getfield 31, 3) :: (36, .iload 4, 2) :: (38, .laload, 1) :: (39, .lmul, 1) :: (40, .ladd, 1) :: (41, .lstore_n 2, 1) :: (42, .iinc 4 1, 3) :: (45, .goto (-30), 3) :: []
theorem o_X9_brokenRow_15 : Chn cX9_brokenRow B_X9_brokenRow_15 := chn_of _ (by decide +kernel)
def B_X9_brokenRow_2 : Blk := (2, .iload_n 1, 1) :: (3, .aload_n 0, 1) :: (4, .getfield 44, 3) :: (7, .if_icmp .ge 69, 3) :: (10, .lconst 0, 1) :: (11, .lstore_n 2, 1) :: (12, .iconst 0, 1) :: (13, .istore 4, 2) :: B_X9_brokenRow_15
theorem o_X9_brokenRow_2 : Chn cX9_brokenRow B_X9_brokenRow_2 := chn_app ((2, .iload_n 1, 1) :: (3, .aload_n 0, 1) :: (4, .getfield 44, 3) :: (7, .if_icmp .ge 69, 3) :: (10, .lconst 0, 1) :: (11, .lstore_n 2, 1) :: (12, .iconst 0, 1) :: (13, .istore 4, 2) :: []) o_X9_brokenRow_15 (by decide +kernel)
def B_X9_brokenRow_0 : Blk := (0, .iconst 0, 1) :: (1, .istore_n 1, 1) :: B_X9_brokenRow_2
theorem o_X9_brokenRow_0 : Chn cX9_brokenRow B_X9_brokenRow_0 := chn_app ((0, .iconst 0, 1) :: (1, .istore_n 1, 1) :: []) o_X9_brokenRow_2 (by decide +kernel)
theorem ml_9_153 : MLk RX9 153 yX9_slackSign := Or.inl (allW_in (kT_7 _ (List.mem_of_getElem? (i := 191) rfl)) rfl)
abbrev cX9_verdict : ByteArray := prog_11_method_14_code
def yX9_verdict : MethodName := ⟨RX9, "verdict", "()I"⟩
def M_X9_verdict : MT := (yX9_verdict, cX9_verdict, 5, (some .int), RX9, 1)
theorem mk_X9_verdict : MokV M_X9_verdict 9 0 := ⟨⟨⟨by decide, by decide, rfl⟩, (allW_in (kT_7 _ (List.mem_of_getElem? (i := 202) rfl)) rfl), (allW_in (kT_1 _ (List.mem_of_getElem? (i := 14) rfl)) rfl), by decide⟩, ⟨TX9, 14, rfl⟩, (allW_in (kT_7 _ (List.mem_of_getElem? (i := 201) rfl)) rfl), (allW_in (kTs_7 _ (List.mem_of_getElem? (i := 7) rfl)) rfl)⟩
def B_X9_verdict_79 : Blk := (79, .ireturn, 1) :: []
theorem o_X9_verdict_79 : Chn cX9_verdict B_X9_verdict_79 := chn_of _ (by decide +kernel)
def B_X9_verdict_78 : Blk := (78, .iconst 2, 1) :: B_X9_verdict_79
theorem o_X9_verdict_78 : Chn cX9_verdict B_X9_verdict_78 := chn_app ((78, .iconst 2, 1) :: []) o_X9_verdict_79 (by decide +kernel)
def B_X9_verdict_68 : Blk := (68, .lload_n 1, 1) :: (69, .lconst 0, 1) :: (70, .lcmp, 1) :: (71, .ifCond .ne 7, 3) :: (74, .iconst 3, 1) :: (75, .goto 4, 3) :: []
theorem o_X9_verdict_68 : Chn cX9_verdict B_X9_verdict_68 := chn_of _ (by decide +kernel)
def B_X9_verdict_60 : Blk := (60, .iload_n 3, 1) :: (61, .ifCond .eq 7, 3) :: (64, .iconst 1, 1) :: (65, .goto 14, 3) :: []
theorem o_X9_verdict_60 : Chn cX9_verdict B_X9_verdict_60 := chn_of _ (by decide +kernel)
def B_X9_verdict_52 : Blk := (52, .iand, 1) :: (53, .istore_n 3, 1) :: (54, .iinc 4 1, 3) :: (57, .goto (-50), 3) :: []
theorem o_X9_verdict_52 : Chn cX9_verdict B_X9_verdict_52 := chn_of _ (by decide +kernel)
def B_X9_verdict_51 : Blk := (51, .iconst 0, 1) :: B_X9_verdict_52
theorem o_X9_verdict_51 : Chn cX9_verdict B_X9_verdict_51 := chn_app ((51, .iconst 0, 1) :: []) o_X9_verdict_52 (by decide +kernel)
def B_X9_verdict_7 : Blk := (7, .iload 4, 2) :: (9, .aload_n 0, 1) :: (10, .getfield 62, 3) :: (13, .if_icmp .ge 47, 3) :: (16, .lload_n 1, 1) :: (17, .aload_n 0, 1) :: (18, .getfield 15, 3) :: (21, .iload 4, 2) :: (23, .laload, 1) :: (24, .aload_n 0, 1) :: (25, .getfield 31, 3) :: (28, .iload 4, 2) :: (30, .laload, 1) :: (31, .lmul, 1) :: (32, .ladd, 1) :: (33, .lstore_n 1, 1) :: (34, .iload_n 3, 1) :: (35, .aload_n 0, 1) :: (36, .getfield 31, 3) :: (39, .iload 4, 2) :: (41, .laload, 1) :: (42, .lconst 0, 1) :: (43, .lcmp, 1) :: (44, .ifCond .ne 7, 3) :: (47, .iconst 1, 1) :: (48, .goto 4, 3) :: []
theorem o_X9_verdict_7 : Chn cX9_verdict B_X9_verdict_7 := chn_of _ (by decide +kernel)
def B_X9_verdict_0 : Blk := (0, .lconst 0, 1) :: (1, .lstore_n 1, 1) :: (2, .iconst 1, 1) :: (3, .istore_n 3, 1) :: (4, .iconst 0, 1) :: (5, .istore 4, 2) :: B_X9_verdict_7
theorem o_X9_verdict_0 : Chn cX9_verdict B_X9_verdict_0 := chn_app ((0, .lconst 0, 1) :: (1, .lstore_n 1, 1) :: (2, .iconst 1, 1) :: (3, .istore_n 3, 1) :: (4, .iconst 0, 1) :: (5, .istore 4, 2) :: []) o_X9_verdict_7 (by decide +kernel)
abbrev cX9_mixOf : ByteArray := prog_11_method_21_code
def yX9_mixOf : MethodName := ⟨RX9, "mixOf", "(I)V"⟩
def M_X9_mixOf : MT := (yX9_mixOf, cX9_mixOf, 4, none, RX9, 0)
theorem mk_X9_mixOf : MokV M_X9_mixOf 9 1 := ⟨⟨⟨by decide, by decide, rfl⟩, (allW_in (kT_7 _ (List.mem_of_getElem? (i := 206) rfl)) rfl), (allW_in (kT_1 _ (List.mem_of_getElem? (i := 14) rfl)) rfl), by decide⟩, ⟨TX9, 14, rfl⟩, (allW_in (kT_7 _ (List.mem_of_getElem? (i := 205) rfl)) rfl), (allW_in (kTs_7 _ (List.mem_of_getElem? (i := 8) rfl)) rfl)⟩
def B_X9_mixOf_70 : Blk := (70, .return_, 1) :: []
theorem o_X9_mixOf_70 : Chn cX9_mixOf B_X9_mixOf_70 := chn_of _ (by decide +kernel)
def B_X9_mixOf_64 : Blk := (64, .iinc 2 1, 3) :: (67, .goto (-65), 3) :: []
theorem o_X9_mixOf_64 : Chn cX9_mixOf B_X9_mixOf_64 := chn_of _ (by decide +kernel)
def B_X9_mixOf_16 : Blk := (16, .iload_n 3, 1) :: (17, .aload_n 0, 1) :: (18, .getfield 62, 3) :: (21, .if_icmp .ge 43, 3) :: (24, .iload_n 2, 1) :: (25, .aload_n 0, 1) :: (26, .getfield 62, 3) :: (29, .if_icmp .ge 35, 3) :: (32, .aload_n 0, 1) :: (33, .getfield 25, 3) :: (36, .iload_n 2, 1) :: (37, .dup2, 1) :: (38, .laload, 1) :: (39, .aload_n 0, 1) :: (40, .iload_n 1, 1) :: (41, .iload_n 3, 1) :: (42, .invokevirtual 99, 3) :: (45, .aload_n 0, 1) :: (46, .getfield 22, 3) :: (49, .iload_n 2, 1) :: (50, .iconst 4, 1) :: (51, .imul, 1) :: (52, .iload_n 3, 1) :: (53, .iadd, 1) :: (54, .laload, 1) :: (55, .lmul, 1) :: (56, .ladd, 1) :: (57, .lastore, 1) :: (58, .iinc 3 1, 3) :: (61, .goto (-45), 3) :: []
theorem o_X9_mixOf_16 : Chn cX9_mixOf B_X9_mixOf_16 := chn_of _ (by decide +kernel)
def B_X9_mixOf_2 : Blk := (2, .iload_n 2, 1) :: (3, .iconst 4, 1) :: (4, .if_icmp .ge 66, 3) :: (7, .aload_n 0, 1) :: (8, .getfield 25, 3) :: (11, .iload_n 2, 1) :: (12, .lconst 0, 1) :: (13, .lastore, 1) :: (14, .iconst 0, 1) :: (15, .istore_n 3, 1) :: B_X9_mixOf_16
theorem o_X9_mixOf_2 : Chn cX9_mixOf B_X9_mixOf_2 := chn_app ((2, .iload_n 2, 1) :: (3, .iconst 4, 1) :: (4, .if_icmp .ge 66, 3) :: (7, .aload_n 0, 1) :: (8, .getfield 25, 3) :: (11, .iload_n 2, 1) :: (12, .lconst 0, 1) :: (13, .lastore, 1) :: (14, .iconst 0, 1) :: (15, .istore_n 3, 1) :: []) o_X9_mixOf_16 (by decide +kernel)
def B_X9_mixOf_0 : Blk := (0, .iconst 0, 1) :: (1, .istore_n 2, 1) :: B_X9_mixOf_2
theorem o_X9_mixOf_0 : Chn cX9_mixOf B_X9_mixOf_0 := chn_app ((0, .iconst 0, 1) :: (1, .istore_n 2, 1) :: []) o_X9_mixOf_2 (by decide +kernel)
theorem fl_9_25 : FLk RX9 25 9 4 3 true := ⟨RX9, TX9, 14, "IntegerHouse$Relaxer", "mix", "[J", rfl, by decide, rfl, Or.inl (allW_in (kT_3 _ (List.mem_of_getElem? (i := 27) rfl)) rfl), rfl, (fun h => absurd h (by decide)), (fun h => absurd h (by decide)), (fun h => absurd h (by decide)), (fun h => absurd h (by decide))⟩
abbrev cX9_goalOf : ByteArray := prog_11_method_24_code
def yX9_goalOf : MethodName := ⟨RX9, "goalOf", "(I)J"⟩
def M_X9_goalOf : MT := (yX9_goalOf, cX9_goalOf, 5, (some .long), RX9, 2)
theorem mk_X9_goalOf : MokV M_X9_goalOf 9 1 := ⟨⟨⟨by decide, by decide, rfl⟩, (allW_in (kT_7 _ (List.mem_of_getElem? (i := 218) rfl)) rfl), (allW_in (kT_1 _ (List.mem_of_getElem? (i := 14) rfl)) rfl), by decide⟩, ⟨TX9, 14, rfl⟩, (allW_in (kT_7 _ (List.mem_of_getElem? (i := 217) rfl)) rfl), (allW_in (kTs_7 _ (List.mem_of_getElem? (i := 11) rfl)) rfl)⟩
def B_X9_goalOf_42 : Blk := (42, .lload_n 2, 1) :: (43, .lreturn, 1) :: []
theorem o_X9_goalOf_42 : Chn cX9_goalOf B_X9_goalOf_42 := chn_of _ (by decide +kernel)
def B_X9_goalOf_5 : Blk := (5, .iload 4, 2) :: (7, .aload_n 0, 1) :: (8, .getfield 62, 3) :: (11, .if_icmp .ge 31, 3) :: (14, .lload_n 2, 1) :: (15, .aload_n 0, 1) :: (16, .getfield 15, 3) :: (19, .iload 4, 2) :: (21, .laload, 1) :: (22, .aload_n 0, 1) :: (23, .getfield 22, 3) :: (26, .iload_n 1, 1) :: (27, .iconst 4, 1) :: (28, .imul, 1) :: (29, .iload 4, 2) :: (31, .iadd, 1) :: (32, .laload, 1) :: (33, .lmul, 1) :: (34, .ladd, 1) :: (35, .lstore_n 2, 1) :: (36, .iinc 4 1, 3) :: (39, .goto (-34), 3) :: []
theorem o_X9_goalOf_5 : Chn cX9_goalOf B_X9_goalOf_5 := chn_of _ (by decide +kernel)
def B_X9_goalOf_0 : Blk := (0, .lconst 0, 1) :: (1, .lstore_n 2, 1) :: (2, .iconst 0, 1) :: (3, .istore 4, 2) :: B_X9_goalOf_5
theorem o_X9_goalOf_0 : Chn cX9_goalOf B_X9_goalOf_0 := chn_app ((0, .lconst 0, 1) :: (1, .lstore_n 2, 1) :: (2, .iconst 0, 1) :: (3, .istore 4, 2) :: []) o_X9_goalOf_5 (by decide +kernel)
abbrev cX9_crossSign : ByteArray := prog_11_method_20_code
def yX9_crossSign : MethodName := ⟨RX9, "crossSign", "(JJJJ)I"⟩
def M_X9_crossSign : MT := (yX9_crossSign, cX9_crossSign, 14, (some .int), RX9, 1)
theorem mk_X9_crossSign : MokS M_X9_crossSign 4 := ⟨⟨⟨by decide, by decide, rfl⟩, (allW_in (kT_7 _ (List.mem_of_getElem? (i := 221) rfl)) rfl), (allW_in (kT_1 _ (List.mem_of_getElem? (i := 14) rfl)) rfl), by decide⟩, (allW_in (kT_7 _ (List.mem_of_getElem? (i := 220) rfl)) rfl)⟩
def B_X9_crossSign_0 : Blk := (0, .ldc2_w 163, 3) :: (3, .lstore 8, 2) :: (5, .lload_n 0, 1) :: (6, .lload_n 2, 1) :: (7, .bipush 20, 2) :: (9, .lshr, 1) :: (10, .lmul, 1) :: (11, .lload 4, 2) :: (13, .lload 6, 2) :: (15, .bipush 20, 2) :: (17, .lshr, 1) :: (18, .lmul, 1) :: (19, .lsub, 1) :: (20, .lstore 10, 2) :: (22, .lload_n 0, 1) :: (23, .lload_n 2, 1) :: (24, .lload 8, 2) :: (26, .land, 1) :: (27, .lmul, 1) :: (28, .lload 4, 2) :: (30, .lload 6, 2) :: (32, .lload 8, 2) :: (34, .land, 1) :: (35, .lmul, 1) :: (36, .lsub, 1) :: (37, .lstore 12, 2) :: (39, .lload 10, 2) :: (41, .lload 12, 2) :: (43, .bipush 20, 2) :: (45, .lshr, 1) :: (46, .ladd, 1) :: (47, .lload 12, 2) :: (49, .lload 8, 2) :: (51, .land, 1) :: (52, .invokestatic 159, 3) :: (55, .ireturn, 1) :: []
theorem o_X9_crossSign_0 : Chn cX9_crossSign B_X9_crossSign_0 := chn_of _ (by decide +kernel)
abbrev cX9_isBefore : ByteArray := prog_11_method_23_code
def yX9_isBefore : MethodName := ⟨RX9, "isBefore", "(II)Z"⟩
def M_X9_isBefore : MT := (yX9_isBefore, cX9_isBefore, 5, (some .boolean), RX9, 1)
theorem mk_X9_isBefore : MokV M_X9_isBefore 9 2 := ⟨⟨⟨by decide, by decide, rfl⟩, (allW_in (kT_7 _ (List.mem_of_getElem? (i := 214) rfl)) rfl), (allW_in (kT_1 _ (List.mem_of_getElem? (i := 14) rfl)) rfl), by decide⟩, ⟨TX9, 14, rfl⟩, (allW_in (kT_7 _ (List.mem_of_getElem? (i := 213) rfl)) rfl), (allW_in (kTs_7 _ (List.mem_of_getElem? (i := 10) rfl)) rfl)⟩
def B_X9_isBefore_97 : Blk := (97, .ireturn, 1) :: []
theorem o_X9_isBefore_97 : Chn cX9_isBefore B_X9_isBefore_97 := chn_of _ (by decide +kernel)
def B_X9_isBefore_96 : Blk := (96, .iconst 0, 1) :: B_X9_isBefore_97
theorem o_X9_isBefore_96 : Chn cX9_isBefore B_X9_isBefore_96 := chn_app ((96, .iconst 0, 1) :: []) o_X9_isBefore_97 (by decide +kernel)
def B_X9_isBefore_88 : Blk := (88, .iload_n 3, 1) :: (89, .ifCond .ge 7, 3) :: (92, .iconst 1, 1) :: (93, .goto 4, 3) :: []
theorem o_X9_isBefore_88 : Chn cX9_isBefore B_X9_isBefore_88 := chn_of _ (by decide +kernel)
def B_X9_isBefore_29 : Blk := (29, .iload 4, 2) :: (31, .aload_n 0, 1) :: (32, .getfield 62, 3) :: (35, .if_icmp .ge 53, 3) :: (38, .iload_n 3, 1) :: (39, .ifCond .ne 49, 3) :: (42, .aload_n 0, 1) :: (43, .getfield 22, 3) :: (46, .iload_n 1, 1) :: (47, .iconst 4, 1) :: (48, .imul, 1) :: (49, .iload 4, 2) :: (51, .iadd, 1) :: (52, .laload, 1) :: (53, .lneg, 1) :: (54, .aload_n 0, 1) :: (55, .getfield 25, 3) :: (58, .iload_n 2, 1) :: (59, .laload, 1) :: (60, .aload_n 0, 1) :: (61, .getfield 22, 3) :: (64, .iload_n 2, 1) :: (65, .iconst 4, 1) :: (66, .imul, 1) :: (67, .iload 4, 2) :: (69, .iadd, 1) :: (70, .laload, 1) :: (71, .lneg, 1) :: (72, .aload_n 0, 1) :: (73, .getfield 25, 3) :: (76, .iload_n 1, 1) :: (77, .laload, 1) :: (78, .invokestatic 172, 3) :: (81, .istore_n 3, 1) :: (82, .iinc 4 1, 3) :: (85, .goto (-56), 3) :: []
theorem o_X9_isBefore_29 : Chn cX9_isBefore B_X9_isBefore_29 := chn_of _ (by decide +kernel)
def B_X9_isBefore_0 : Blk := (0, .aload_n 0, 1) :: (1, .iload_n 1, 1) :: (2, .invokevirtual 168, 3) :: (5, .aload_n 0, 1) :: (6, .getfield 25, 3) :: (9, .iload_n 2, 1) :: (10, .laload, 1) :: (11, .aload_n 0, 1) :: (12, .iload_n 2, 1) :: (13, .invokevirtual 168, 3) :: (16, .aload_n 0, 1) :: (17, .getfield 25, 3) :: (20, .iload_n 1, 1) :: (21, .laload, 1) :: (22, .invokestatic 172, 3) :: (25, .istore_n 3, 1) :: (26, .iconst 0, 1) :: (27, .istore 4, 2) :: B_X9_isBefore_29
theorem o_X9_isBefore_0 : Chn cX9_isBefore B_X9_isBefore_0 := chn_app ((0, .aload_n 0, 1) :: (1, .iload_n 1, 1) :: (2, .invokevirtual 168, 3) :: (5, .aload_n 0, 1) :: (6, .getfield 25, 3) :: (9, .iload_n 2, 1) :: (10, .laload, 1) :: (11, .aload_n 0, 1) :: (12, .iload_n 2, 1) :: (13, .invokevirtual 168, 3) :: (16, .aload_n 0, 1) :: (17, .getfield 25, 3) :: (20, .iload_n 1, 1) :: (21, .laload, 1) :: (22, .invokestatic 172, 3) :: (25, .istore_n 3, 1) :: (26, .iconst 0, 1) :: (27, .istore 4, 2) :: []) o_X9_isBefore_29 (by decide +kernel)
theorem ml_9_168 : MLk RX9 168 yX9_goalOf := Or.inl (allW_in (kT_7 _ (List.mem_of_getElem? (i := 215) rfl)) rfl)
theorem ml_9_172 : MLk RX9 172 yX9_crossSign := Or.inl (allW_in (kT_7 _ (List.mem_of_getElem? (i := 219) rfl)) rfl)
abbrev cX9_leaving : ByteArray := prog_11_method_22_code
def yX9_leaving : MethodName := ⟨RX9, "leaving", "()I"⟩
def M_X9_leaving : MT := (yX9_leaving, cX9_leaving, 3, (some .int), RX9, 1)
theorem mk_X9_leaving : MokV M_X9_leaving 9 0 := ⟨⟨⟨by decide, by decide, rfl⟩, (allW_in (kT_7 _ (List.mem_of_getElem? (i := 210) rfl)) rfl), (allW_in (kT_1 _ (List.mem_of_getElem? (i := 14) rfl)) rfl), by decide⟩, ⟨TX9, 14, rfl⟩, (allW_in (kT_7 _ (List.mem_of_getElem? (i := 209) rfl)) rfl), (allW_in (kTs_7 _ (List.mem_of_getElem? (i := 9) rfl)) rfl)⟩
def B_X9_leaving_45 : Blk := (45, .iload_n 1, 1) :: (46, .ireturn, 1) :: []
theorem o_X9_leaving_45 : Chn cX9_leaving B_X9_leaving_45 := chn_of _ (by decide +kernel)
def B_X9_leaving_39 : Blk := (39, .iinc 2 1, 3) :: (42, .goto (-38), 3) :: []
theorem o_X9_leaving_39 : Chn cX9_leaving B_X9_leaving_39 := chn_of _ (by decide +kernel)
def B_X9_leaving_37 : Blk := (37, .iload_n 2, 1) :: (38, .istore_n 1, 1) :: B_X9_leaving_39
theorem o_X9_leaving_37 : Chn cX9_leaving B_X9_leaving_37 := chn_app ((37, .iload_n 2, 1) :: (38, .istore_n 1, 1) :: []) o_X9_leaving_39 (by decide +kernel)
def B_X9_leaving_4 : Blk := (4, .iload_n 2, 1) :: (5, .aload_n 0, 1) :: (6, .getfield 62, 3) :: (9, .if_icmp .ge 36, 3) :: (12, .aload_n 0, 1) :: (13, .getfield 25, 3) :: (16, .iload_n 2, 1) :: (17, .laload, 1) :: (18, .lconst 0, 1) :: (19, .lcmp, 1) :: (20, .ifCond .le 19, 3) :: (23, .iload_n 1, 1) :: (24, .iconst (-1), 1) :: (25, .if_icmp .eq 12, 3) :: (28, .aload_n 0, 1) :: (29, .iload_n 2, 1) :: (30, .iload_n 1, 1) :: (31, .invokevirtual 165, 3) :: (34, .ifCond .eq 5, 3) :: B_X9_leaving_37
theorem o_X9_leaving_4 : Chn cX9_leaving B_X9_leaving_4 := chn_app ((4, .iload_n 2, 1) :: (5, .aload_n 0, 1) :: (6, .getfield 62, 3) :: (9, .if_icmp .ge 36, 3) :: (12, .aload_n 0, 1) :: (13, .getfield 25, 3) :: (16, .iload_n 2, 1) :: (17, .laload, 1) :: (18, .lconst 0, 1) :: (19, .lcmp, 1) :: (20, .ifCond .le 19, 3) :: (23, .iload_n 1, 1) :: (24, .iconst (-1), 1) :: (25, .if_icmp .eq 12, 3) :: (28, .aload_n 0, 1) :: (29, .iload_n 2, 1) :: (30, .iload_n 1, 1) :: (31, .invokevirtual 165, 3) :: (34, .ifCond .eq 5, 3) :: []) o_X9_leaving_37 (by decide +kernel)
def B_X9_leaving_0 : Blk := (0, .iconst (-1), 1) :: (1, .istore_n 1, 1) :: (2, .iconst 0, 1) :: (3, .istore_n 2, 1) :: B_X9_leaving_4
theorem o_X9_leaving_0 : Chn cX9_leaving B_X9_leaving_0 := chn_app ((0, .iconst (-1), 1) :: (1, .istore_n 1, 1) :: (2, .iconst 0, 1) :: (3, .istore_n 2, 1) :: []) o_X9_leaving_4 (by decide +kernel)
theorem ml_9_165 : MLk RX9 165 yX9_isBefore := Or.inl (allW_in (kT_7 _ (List.mem_of_getElem? (i := 211) rfl)) rfl)
abbrev cX9_exchange : ByteArray := prog_11_method_25_code
def yX9_exchange : MethodName := ⟨RX9, "exchange", "(II)V"⟩
def M_X9_exchange : MT := (yX9_exchange, cX9_exchange, 11, none, RX9, 0)
theorem mk_X9_exchange : MokV M_X9_exchange 9 2 := ⟨⟨⟨by decide, by decide, rfl⟩, (allW_in (kT_7 _ (List.mem_of_getElem? (i := 226) rfl)) rfl), (allW_in (kT_1 _ (List.mem_of_getElem? (i := 14) rfl)) rfl), by decide⟩, ⟨TX9, 14, rfl⟩, (allW_in (kT_7 _ (List.mem_of_getElem? (i := 225) rfl)) rfl), (allW_in (kTs_7 _ (List.mem_of_getElem? (i := 12) rfl)) rfl)⟩
def B_X9_exchange_169 : Blk := (169, .aload_n 0, 1) :: (170, .lload 5, 2) :: (172, .lload_n 3, 1) :: (173, .lmul, 1) :: (174, .putfield 37, 3) :: (177, .aload_n 0, 1) :: (178, .getfield 18, 3) :: (181, .iload_n 1, 1) :: (182, .iload_n 2, 1) :: (183, .iastore, 1) :: (184, .return_, 1) :: []
theorem o_X9_exchange_169 : Chn cX9_exchange B_X9_exchange_169 := chn_of _ (by decide +kernel)
def B_X9_exchange_138 : Blk := (138, .iload 7, 2) :: (140, .aload_n 0, 1) :: (141, .getfield 62, 3) :: (144, .if_icmp .ge 25, 3) :: (147, .aload_n 0, 1) :: (148, .getfield 22, 3) :: (151, .iload_n 1, 1) :: (152, .iconst 4, 1) :: (153, .imul, 1) :: (154, .iload 7, 2) :: (156, .iadd, 1) :: (157, .dup2, 1) :: (158, .laload, 1) :: (159, .lload 5, 2) :: (161, .lmul, 1) :: (162, .lastore, 1) :: (163, .iinc 7 1, 3) :: (166, .goto (-28), 3) :: []
theorem o_X9_exchange_138 : Chn cX9_exchange B_X9_exchange_138 := chn_of _ (by decide +kernel)
def B_X9_exchange_135 : Blk := (135, .iconst 0, 1) :: (136, .istore 7, 2) :: B_X9_exchange_138
theorem o_X9_exchange_135 : Chn cX9_exchange B_X9_exchange_135 := chn_app ((135, .iconst 0, 1) :: (136, .istore 7, 2) :: []) o_X9_exchange_138 (by decide +kernel)
def B_X9_exchange_129 : Blk := (129, .iinc 7 1, 3) :: (132, .goto (-107), 3) :: []
theorem o_X9_exchange_129 : Chn cX9_exchange B_X9_exchange_129 := chn_of _ (by decide +kernel)
def B_X9_exchange_122 : Blk := (122, .lastore, 1) :: (123, .iinc 8 1, 3) :: (126, .goto (-89), 3) :: []
theorem o_X9_exchange_122 : Chn cX9_exchange B_X9_exchange_122 := chn_of _ (by decide +kernel)
def B_X9_exchange_112 : Blk := (112, .lload 5, 2) :: (114, .lload 9, 2) :: (116, .aload_n 0, 1) :: (117, .getfield 37, 3) :: (120, .ldiv, 1) :: (121, .lmul, 1) :: B_X9_exchange_122
theorem o_X9_exchange_112 : Chn cX9_exchange B_X9_exchange_112 := chn_app ((112, .lload 5, 2) :: (114, .lload 9, 2) :: (116, .aload_n 0, 1) :: (117, .getfield 37, 3) :: (120, .ldiv, 1) :: (121, .lmul, 1) :: []) o_X9_exchange_122 (by decide +kernel)
def B_X9_exchange_37 : Blk := (37, .iload 8, 2) :: (39, .aload_n 0, 1) :: (40, .getfield 62, 3) :: (43, .if_icmp .ge 86, 3) :: (46, .iload 7, 2) :: (48, .iload_n 1, 1) :: (49, .if_icmp .eq 80, 3) :: (52, .lload_n 3, 1) :: (53, .aload_n 0, 1) :: (54, .getfield 22, 3) :: (57, .iload 7, 2) :: (59, .iconst 4, 1) :: (60, .imul, 1) :: (61, .iload 8, 2) :: (63, .iadd, 1) :: (64, .laload, 1) :: (65, .lmul, 1) :: (66, .aload_n 0, 1) :: (67, .getfield 25, 3) :: (70, .iload 7, 2) :: (72, .laload, 1) :: (73, .aload_n 0, 1) :: (74, .getfield 22, 3) :: (77, .iload_n 1, 1) :: (78, .iconst 4, 1) :: (79, .imul, 1) :: (80, .iload 8, 2) :: (82, .iadd, 1) :: (83, .laload, 1) :: (84, .lmul, 1) :: (85, .lsub, 1) :: (86, .lstore 9, 2) :: (88, .aload_n 0, 1) :: (89, .getfield 22, 3) :: (92, .iload 7, 2) :: (94, .iconst 4, 1) :: (95, .imul, 1) :: (96, .iload 8, 2) :: (98, .iadd, 1) :: (99, .aload_n 0, 1) :: (100, .getfield 37, 3) :: (103, .lconst 0, 1) :: (104, .lcmp, 1) :: (105, .ifCond .ne 7, 3) :: (108, .lconst 0, 1) :: (109, .goto 13, 3) :: []
theorem o_X9_exchange_37 : Chn cX9_exchange B_X9_exchange_37 := chn_of _ (by decide +kernel)
def B_X9_exchange_25 : Blk := (25, .iload 7, 2) :: (27, .aload_n 0, 1) :: (28, .getfield 62, 3) :: (31, .if_icmp .ge 104, 3) :: (34, .iconst 0, 1) :: (35, .istore 8, 2) :: B_X9_exchange_37
theorem o_X9_exchange_25 : Chn cX9_exchange B_X9_exchange_25 := chn_app ((25, .iload 7, 2) :: (27, .aload_n 0, 1) :: (28, .getfield 62, 3) :: (31, .if_icmp .ge 104, 3) :: (34, .iconst 0, 1) :: (35, .istore 8, 2) :: []) o_X9_exchange_37 (by decide +kernel)
def B_X9_exchange_20 : Blk := (20, .lstore 5, 2) :: (22, .iconst 0, 1) :: (23, .istore 7, 2) :: B_X9_exchange_25
theorem o_X9_exchange_20 : Chn cX9_exchange B_X9_exchange_20 := chn_app ((20, .lstore 5, 2) :: (22, .iconst 0, 1) :: (23, .istore 7, 2) :: []) o_X9_exchange_25 (by decide +kernel)
def B_X9_exchange_19 : Blk := (19, .lconst 1, 1) :: B_X9_exchange_20
theorem o_X9_exchange_19 : Chn cX9_exchange B_X9_exchange_19 := chn_app ((19, .lconst 1, 1) :: []) o_X9_exchange_20 (by decide +kernel)
def B_X9_exchange_0 : Blk := (0, .aload_n 0, 1) :: (1, .getfield 25, 3) :: (4, .iload_n 1, 1) :: (5, .laload, 1) :: (6, .lstore_n 3, 1) :: (7, .lload_n 3, 1) :: (8, .lconst 0, 1) :: (9, .lcmp, 1) :: (10, .ifCond .ge 9, 3) :: (13, .ldc2_w 89, 3) :: (16, .goto 4, 3) :: []
theorem o_X9_exchange_0 : Chn cX9_exchange B_X9_exchange_0 := chn_of _ (by decide +kernel)
abbrev cX9_solve : ByteArray := prog_11_method_13_code
def yX9_solve : MethodName := ⟨RX9, "solve", "()I"⟩
def M_X9_solve : MT := (yX9_solve, cX9_solve, 4, (some .int), RX9, 1)
theorem mk_X9_solve : MokV M_X9_solve 9 0 := ⟨⟨⟨by decide, by decide, rfl⟩, (allW_in (kT_7 _ (List.mem_of_getElem? (i := 176) rfl)) rfl), (allW_in (kT_1 _ (List.mem_of_getElem? (i := 14) rfl)) rfl), by decide⟩, ⟨TX9, 14, rfl⟩, (allW_in (kT_7 _ (List.mem_of_getElem? (i := 174) rfl)) rfl), (allW_in (kT_7 _ (List.mem_of_getElem? (i := 175) rfl)) rfl)⟩
def B_X9_solve_60 : Blk := (60, .iconst 0, 1) :: (61, .ireturn, 1) :: []
theorem o_X9_solve_60 : Chn cX9_solve B_X9_solve_60 := chn_of _ (by decide +kernel)
def B_X9_solve_48 : Blk := (48, .aload_n 0, 1) :: (49, .iload_n 3, 1) :: (50, .iload_n 2, 1) :: (51, .invokevirtual 143, 3) :: (54, .iinc 1 1, 3) :: (57, .goto (-51), 3) :: []
theorem o_X9_solve_48 : Chn cX9_solve B_X9_solve_48 := chn_of _ (by decide +kernel)
def B_X9_solve_31 : Blk := (31, .aload_n 0, 1) :: (32, .iload_n 2, 1) :: (33, .invokevirtual 137, 3) :: (36, .aload_n 0, 1) :: (37, .invokevirtual 140, 3) :: (40, .istore_n 3, 1) :: (41, .iload_n 3, 1) :: (42, .iconst (-1), 1) :: (43, .if_icmp .ne 5, 3) :: (46, .iconst 0, 1) :: (47, .ireturn, 1) :: []
theorem o_X9_solve_31 : Chn cX9_solve B_X9_solve_31 := chn_of _ (by decide +kernel)
def B_X9_solve_6 : Blk := (6, .iload_n 1, 1) :: (7, .ldc 127, 2) :: (9, .if_icmp .ge 51, 3) :: (12, .aload_n 0, 1) :: (13, .invokevirtual 128, 3) :: (16, .aload_n 0, 1) :: (17, .invokevirtual 131, 3) :: (20, .istore_n 2, 1) :: (21, .iload_n 2, 1) :: (22, .iconst (-1), 1) :: (23, .if_icmp .ne 8, 3) :: (26, .aload_n 0, 1) :: (27, .invokevirtual 134, 3) :: (30, .ireturn, 1) :: []
theorem o_X9_solve_6 : Chn cX9_solve B_X9_solve_6 := chn_of _ (by decide +kernel)
def B_X9_solve_0 : Blk := (0, .aload_n 0, 1) :: (1, .invokevirtual 124, 3) :: (4, .iconst 0, 1) :: (5, .istore_n 1, 1) :: B_X9_solve_6
theorem o_X9_solve_0 : Chn cX9_solve B_X9_solve_0 := chn_app ((0, .aload_n 0, 1) :: (1, .invokevirtual 124, 3) :: (4, .iconst 0, 1) :: (5, .istore_n 1, 1) :: []) o_X9_solve_6 (by decide +kernel)
theorem ml_9_124 : MLk RX9 124 yX9_beginEndless := Or.inl (allW_in (kT_7 _ (List.mem_of_getElem? (i := 177) rfl)) rfl)
theorem ml_9_128 : MLk RX9 128 yX9_locate := Or.inl (allW_in (kT_7 _ (List.mem_of_getElem? (i := 183) rfl)) rfl)
theorem ml_9_131 : MLk RX9 131 yX9_brokenRow := Or.inl (allW_in (kT_7 _ (List.mem_of_getElem? (i := 187) rfl)) rfl)
theorem ml_9_137 : MLk RX9 137 yX9_mixOf := Or.inl (allW_in (kT_7 _ (List.mem_of_getElem? (i := 203) rfl)) rfl)
theorem ml_9_140 : MLk RX9 140 yX9_leaving := Or.inl (allW_in (kT_7 _ (List.mem_of_getElem? (i := 207) rfl)) rfl)
theorem ml_9_143 : MLk RX9 143 yX9_exchange := Or.inl (allW_in (kT_7 _ (List.mem_of_getElem? (i := 223) rfl)) rfl)
theorem ml_9_134 : MLk RX9 134 yX9_verdict := Or.inl (allW_in (kT_7 _ (List.mem_of_getElem? (i := 199) rfl)) rfl)
abbrev cX9_goalAtPoint : ByteArray := prog_11_method_26_code
def yX9_goalAtPoint : MethodName := ⟨RX9, "goalAtPoint", "()J"⟩
def M_X9_goalAtPoint : MT := (yX9_goalAtPoint, cX9_goalAtPoint, 4, (some .long), RX9, 2)
theorem mk_X9_goalAtPoint : MokV M_X9_goalAtPoint 9 0 := ⟨⟨⟨by decide, by decide, rfl⟩, (allW_in (kT_7 _ (List.mem_of_getElem? (i := 230) rfl)) rfl), (allW_in (kT_1 _ (List.mem_of_getElem? (i := 14) rfl)) rfl), by decide⟩, ⟨TX9, 14, rfl⟩, (allW_in (kT_7 _ (List.mem_of_getElem? (i := 229) rfl)) rfl), (allW_in (kTs_7 _ (List.mem_of_getElem? (i := 13) rfl)) rfl)⟩
def B_X9_goalAtPoint_34 : Blk := (34, .lload_n 1, 1) :: (35, .lreturn, 1) :: []
theorem o_X9_goalAtPoint_34 : Chn cX9_goalAtPoint B_X9_goalAtPoint_34 := chn_of _ (by decide +kernel)
def B_X9_goalAtPoint_4 : Blk := (4, .iload_n 3, 1) :: (5, .aload_n 0, 1) :: (6, .getfield 62, 3) :: (9, .if_icmp .ge 25, 3) :: (12, .lload_n 1, 1) :: (13, .aload_n 0, 1) :: (14, .getfield 15, 3) :: (17, .iload_n 3, 1) :: (18, .laload, 1) :: (19, .aload_n 0, 1) :: (20, .getfield 28, 3) :: (23, .iload_n 3, 1) :: (24, .laload, 1) :: (25, .lmul, 1) :: (26, .ladd, 1) :: (27, .lstore_n 1, 1) :: (28, .iinc 3 1, 3) :: (31, .goto (-27), 3) :: []
theorem o_X9_goalAtPoint_4 : Chn cX9_goalAtPoint B_X9_goalAtPoint_4 := chn_of _ (by decide +kernel)
def B_X9_goalAtPoint_0 : Blk := (0, .lconst 0, 1) :: (1, .lstore_n 1, 1) :: (2, .iconst 0, 1) :: (3, .istore_n 3, 1) :: B_X9_goalAtPoint_4
theorem o_X9_goalAtPoint_0 : Chn cX9_goalAtPoint B_X9_goalAtPoint_0 := chn_app ((0, .lconst 0, 1) :: (1, .lstore_n 1, 1) :: (2, .iconst 0, 1) :: (3, .istore_n 3, 1) :: []) o_X9_goalAtPoint_4 (by decide +kernel)
abbrev cX9_tellOne : ByteArray := prog_11_method_10_code
def yX9_tellOne : MethodName := ⟨RX9, "tellOne", "(IJ)V"⟩
def M_X9_tellOne : MT := (yX9_tellOne, cX9_tellOne, 6, none, RX9, 0)
theorem mk_X9_tellOne : MokV M_X9_tellOne 9 2 := ⟨⟨⟨by decide, by decide, rfl⟩, (allW_in (kT_7 _ (List.mem_of_getElem? (i := 234) rfl)) rfl), (allW_in (kT_1 _ (List.mem_of_getElem? (i := 14) rfl)) rfl), by decide⟩, ⟨TX9, 14, rfl⟩, (allW_in (kT_7 _ (List.mem_of_getElem? (i := 233) rfl)) rfl), (allW_in (kTs_7 _ (List.mem_of_getElem? (i := 14) rfl)) rfl)⟩
def B_X9_tellOne_54 : Blk := (54, .return_, 1) :: []
theorem o_X9_tellOne_54 : Chn cX9_tellOne B_X9_tellOne_54 := chn_of _ (by decide +kernel)
def B_X9_tellOne_0 : Blk := (0, .lconst 1, 1) :: (1, .lload_n 2, 1) :: (2, .aload_n 0, 1) :: (3, .getfield 41, 3) :: (6, .invokestatic 118, 3) :: (9, .invokestatic 122, 3) :: (12, .lstore 4, 2) :: (14, .iload_n 1, 1) :: (15, .ifCond .lt 39, 3) :: (18, .iload_n 1, 1) :: (19, .iconst 1, 1) :: (20, .iadd, 1) :: (21, .aload_n 0, 1) :: (22, .getfield 34, 3) :: (25, .arraylength, 1) :: (26, .if_icmp .ge 28, 3) :: (29, .aload_n 0, 1) :: (30, .getfield 34, 3) :: (33, .iload_n 1, 1) :: (34, .lload_n 2, 1) :: (35, .lload 4, 2) :: (37, .ldiv, 1) :: (38, .lastore, 1) :: (39, .aload_n 0, 1) :: (40, .getfield 34, 3) :: (43, .iload_n 1, 1) :: (44, .iconst 1, 1) :: (45, .iadd, 1) :: (46, .aload_n 0, 1) :: (47, .getfield 41, 3) :: (50, .lload 4, 2) :: (52, .ldiv, 1) :: (53, .lastore, 1) :: B_X9_tellOne_54
theorem o_X9_tellOne_0 : Chn cX9_tellOne B_X9_tellOne_0 := chn_app ((0, .lconst 1, 1) :: (1, .lload_n 2, 1) :: (2, .aload_n 0, 1) :: (3, .getfield 41, 3) :: (6, .invokestatic 118, 3) :: (9, .invokestatic 122, 3) :: (12, .lstore 4, 2) :: (14, .iload_n 1, 1) :: (15, .ifCond .lt 39, 3) :: (18, .iload_n 1, 1) :: (19, .iconst 1, 1) :: (20, .iadd, 1) :: (21, .aload_n 0, 1) :: (22, .getfield 34, 3) :: (25, .arraylength, 1) :: (26, .if_icmp .ge 28, 3) :: (29, .aload_n 0, 1) :: (30, .getfield 34, 3) :: (33, .iload_n 1, 1) :: (34, .lload_n 2, 1) :: (35, .lload 4, 2) :: (37, .ldiv, 1) :: (38, .lastore, 1) :: (39, .aload_n 0, 1) :: (40, .getfield 34, 3) :: (43, .iload_n 1, 1) :: (44, .iconst 1, 1) :: (45, .iadd, 1) :: (46, .aload_n 0, 1) :: (47, .getfield 41, 3) :: (50, .lload 4, 2) :: (52, .ldiv, 1) :: (53, .lastore, 1) :: []) o_X9_tellOne_54 (by decide +kernel)
theorem ml_9_118 : MLk RX9 118 yX11_commonDivisor := Or.inr ⟨"IntegerHouse", List.mem_of_getElem? (i := 6) rfl⟩
theorem fl_9_34 : FLk RX9 34 9 7 3 true := ⟨RX9, TX9, 14, "IntegerHouse$Relaxer", "fractions", "[J", rfl, by decide, rfl, Or.inl (allW_in (kT_3 _ (List.mem_of_getElem? (i := 30) rfl)) rfl), rfl, (fun h => absurd h (by decide)), (fun h => absurd h (by decide)), (fun h => absurd h (by decide)), (fun h => absurd h (by decide))⟩
abbrev cX9_tell : ByteArray := prog_11_method_9_code
def yX9_tell : MethodName := ⟨RX9, "tell", "()I"⟩
def M_X9_tell : MT := (yX9_tell, cX9_tell, 3, (some .int), RX9, 1)
theorem mk_X9_tell : MokV M_X9_tell 9 0 := ⟨⟨⟨by decide, by decide, rfl⟩, (allW_in (kT_7 _ (List.mem_of_getElem? (i := 172) rfl)) rfl), (allW_in (kT_1 _ (List.mem_of_getElem? (i := 14) rfl)) rfl), by decide⟩, ⟨TX9, 14, rfl⟩, (allW_in (kT_7 _ (List.mem_of_getElem? (i := 170) rfl)) rfl), (allW_in (kT_7 _ (List.mem_of_getElem? (i := 171) rfl)) rfl)⟩
def B_X9_tell_91 : Blk := (91, .iload_n 1, 1) :: (92, .ireturn, 1) :: []
theorem o_X9_tell_91 : Chn cX9_tell B_X9_tell_91 := chn_of _ (by decide +kernel)
def B_X9_tell_57 : Blk := (57, .iload_n 2, 1) :: (58, .aload_n 0, 1) :: (59, .getfield 62, 3) :: (62, .if_icmp .ge 29, 3) :: (65, .iload_n 1, 1) :: (66, .iconst 1, 1) :: (67, .if_icmp .ne 24, 3) :: (70, .aload_n 0, 1) :: (71, .iconst 2, 1) :: (72, .iconst 2, 1) :: (73, .iload_n 2, 1) :: (74, .imul, 1) :: (75, .iadd, 1) :: (76, .aload_n 0, 1) :: (77, .getfield 28, 3) :: (80, .iload_n 2, 1) :: (81, .laload, 1) :: (82, .invokevirtual 114, 3) :: (85, .iinc 2 1, 3) :: (88, .goto (-31), 3) :: []
theorem o_X9_tell_57 : Chn cX9_tell B_X9_tell_57 := chn_of _ (by decide +kernel)
def B_X9_tell_33 : Blk := (33, .putfield 107, 3) :: (36, .aload_n 0, 1) :: (37, .iconst 0, 1) :: (38, .aload_n 0, 1) :: (39, .invokevirtual 110, 3) :: (42, .aload_n 0, 1) :: (43, .getfield 63, 3) :: (46, .aload_n 0, 1) :: (47, .getfield 41, 3) :: (50, .lmul, 1) :: (51, .ladd, 1) :: (52, .invokevirtual 114, 3) :: (55, .iconst 0, 1) :: (56, .istore_n 2, 1) :: B_X9_tell_57
theorem o_X9_tell_33 : Chn cX9_tell B_X9_tell_33 := chn_app ((33, .putfield 107, 3) :: (36, .aload_n 0, 1) :: (37, .iconst 0, 1) :: (38, .aload_n 0, 1) :: (39, .invokevirtual 110, 3) :: (42, .aload_n 0, 1) :: (43, .getfield 63, 3) :: (46, .aload_n 0, 1) :: (47, .getfield 41, 3) :: (50, .lmul, 1) :: (51, .ladd, 1) :: (52, .invokevirtual 114, 3) :: (55, .iconst 0, 1) :: (56, .istore_n 2, 1) :: []) o_X9_tell_57 (by decide +kernel)
def B_X9_tell_32 : Blk := (32, .iconst 2, 1) :: B_X9_tell_33
theorem o_X9_tell_32 : Chn cX9_tell B_X9_tell_32 := chn_app ((32, .iconst 2, 1) :: []) o_X9_tell_33 (by decide +kernel)
def B_X9_tell_15 : Blk := (15, .aload_n 0, 1) :: (16, .iload_n 1, 1) :: (17, .iconst 1, 1) :: (18, .if_icmp .ne 14, 3) :: (21, .iconst 2, 1) :: (22, .iconst 2, 1) :: (23, .aload_n 0, 1) :: (24, .getfield 62, 3) :: (27, .imul, 1) :: (28, .iadd, 1) :: (29, .goto 4, 3) :: []
theorem o_X9_tell_15 : Chn cX9_tell B_X9_tell_15 := chn_of _ (by decide +kernel)
def B_X9_tell_0 : Blk := (0, .aload_n 0, 1) :: (1, .invokevirtual 103, 3) :: (4, .istore_n 1, 1) :: (5, .iload_n 1, 1) :: (6, .iconst 1, 1) :: (7, .if_icmp .eq 8, 3) :: (10, .iload_n 1, 1) :: (11, .iconst 3, 1) :: (12, .if_icmp .ne 79, 3) :: B_X9_tell_15
theorem o_X9_tell_0 : Chn cX9_tell B_X9_tell_0 := chn_app ((0, .aload_n 0, 1) :: (1, .invokevirtual 103, 3) :: (4, .istore_n 1, 1) :: (5, .iload_n 1, 1) :: (6, .iconst 1, 1) :: (7, .if_icmp .eq 8, 3) :: (10, .iload_n 1, 1) :: (11, .iconst 3, 1) :: (12, .if_icmp .ne 79, 3) :: []) o_X9_tell_15 (by decide +kernel)
theorem ml_9_103 : MLk RX9 103 yX9_solve := Or.inl (allW_in (kT_7 _ (List.mem_of_getElem? (i := 173) rfl)) rfl)
theorem fl_9_107 : FLk RX9 107 9 13 0 false := ⟨RX9, TX9, 14, "IntegerHouse$Relaxer", "toldSize", "I", rfl, by decide, rfl, Or.inl (allW_in (kT_3 _ (List.mem_of_getElem? (i := 38) rfl)) rfl), rfl, (fun _ => rfl), (fun h => absurd h (by decide)), (fun h => absurd h (by decide)), (fun h => absurd h (by decide))⟩
theorem ml_9_110 : MLk RX9 110 yX9_goalAtPoint := Or.inl (allW_in (kT_7 _ (List.mem_of_getElem? (i := 227) rfl)) rfl)
theorem ml_9_114 : MLk RX9 114 yX9_tellOne := Or.inl (allW_in (kT_7 _ (List.mem_of_getElem? (i := 231) rfl)) rfl)
abbrev cX9_isTold : ByteArray := prog_11_method_11_code
def yX9_isTold : MethodName := ⟨RX9, "isTold", "(I)Z"⟩
def M_X9_isTold : MT := (yX9_isTold, cX9_isTold, 2, (some .boolean), RX9, 1)
theorem mk_X9_isTold : MokV M_X9_isTold 9 1 := ⟨⟨⟨by decide, by decide, rfl⟩, (allW_in (kT_9 _ (List.mem_of_getElem? (i := 134) rfl)) rfl), (allW_in (kT_1 _ (List.mem_of_getElem? (i := 14) rfl)) rfl), by decide⟩, ⟨TX9, 14, rfl⟩, (allW_in (kT_9 _ (List.mem_of_getElem? (i := 132) rfl)) rfl), (allW_in (kT_9 _ (List.mem_of_getElem? (i := 133) rfl)) rfl)⟩
def B_X9_isTold_17 : Blk := (17, .ireturn, 1) :: []
theorem o_X9_isTold_17 : Chn cX9_isTold B_X9_isTold_17 := chn_of _ (by decide +kernel)
def B_X9_isTold_16 : Blk := (16, .iconst 0, 1) :: B_X9_isTold_17
theorem o_X9_isTold_16 : Chn cX9_isTold B_X9_isTold_16 := chn_app ((16, .iconst 0, 1) :: []) o_X9_isTold_17 (by decide +kernel)
def B_X9_isTold_0 : Blk := (0, .iload_n 1, 1) :: (1, .ifCond .lt 15, 3) :: (4, .iload_n 1, 1) :: (5, .aload_n 0, 1) :: (6, .getfield 107, 3) :: (9, .if_icmp .ge 7, 3) :: (12, .iconst 1, 1) :: (13, .goto 4, 3) :: []
theorem o_X9_isTold_0 : Chn cX9_isTold B_X9_isTold_0 := chn_of _ (by decide +kernel)
abbrev cX9_toldFraction : ByteArray := prog_11_method_12_code
def yX9_toldFraction : MethodName := ⟨RX9, "toldFraction", "(I)J"⟩
def M_X9_toldFraction : MT := (yX9_toldFraction, cX9_toldFraction, 2, (some .long), RX9, 2)
theorem mk_X9_toldFraction : MokV M_X9_toldFraction 9 1 := ⟨⟨⟨by decide, by decide, rfl⟩, (allW_in (kT_9 _ (List.mem_of_getElem? (i := 139) rfl)) rfl), (allW_in (kT_1 _ (List.mem_of_getElem? (i := 14) rfl)) rfl), by decide⟩, ⟨TX9, 14, rfl⟩, (allW_in (kT_9 _ (List.mem_of_getElem? (i := 137) rfl)) rfl), (allW_in (kT_9 _ (List.mem_of_getElem? (i := 138) rfl)) rfl)⟩
def B_X9_toldFraction_23 : Blk := (23, .lreturn, 1) :: []
theorem o_X9_toldFraction_23 : Chn cX9_toldFraction B_X9_toldFraction_23 := chn_of _ (by decide +kernel)
def B_X9_toldFraction_22 : Blk := (22, .lconst 0, 1) :: B_X9_toldFraction_23
theorem o_X9_toldFraction_22 : Chn cX9_toldFraction B_X9_toldFraction_22 := chn_app ((22, .lconst 0, 1) :: []) o_X9_toldFraction_23 (by decide +kernel)
def B_X9_toldFraction_0 : Blk := (0, .iload_n 1, 1) :: (1, .ifCond .lt 21, 3) :: (4, .iload_n 1, 1) :: (5, .aload_n 0, 1) :: (6, .getfield 34, 3) :: (9, .arraylength, 1) :: (10, .if_icmp .ge 12, 3) :: (13, .aload_n 0, 1) :: (14, .getfield 34, 3) :: (17, .iload_n 1, 1) :: (18, .laload, 1) :: (19, .goto 4, 3) :: []
theorem o_X9_toldFraction_0 : Chn cX9_toldFraction B_X9_toldFraction_0 := chn_of _ (by decide +kernel)
abbrev cX9_goalDown : ByteArray := prog_11_method_27_code
def yX9_goalDown : MethodName := ⟨RX9, "goalDown", "()J"⟩
def M_X9_goalDown : MT := (yX9_goalDown, cX9_goalDown, 1, (some .long), RX9, 2)
theorem mk_X9_goalDown : MokV M_X9_goalDown 9 0 := ⟨⟨⟨by decide, by decide, rfl⟩, (allW_in (kT_8 _ (List.mem_of_getElem? (i := 26) rfl)) rfl), (allW_in (kT_1 _ (List.mem_of_getElem? (i := 14) rfl)) rfl), by decide⟩, ⟨TX9, 14, rfl⟩, (allW_in (kT_8 _ (List.mem_of_getElem? (i := 24) rfl)) rfl), (allW_in (kT_8 _ (List.mem_of_getElem? (i := 25) rfl)) rfl)⟩
def B_X9_goalDown_0 : Blk := (0, .aload_n 0, 1) :: (1, .invokevirtual 110, 3) :: (4, .lconst 1, 1) :: (5, .aload_n 0, 1) :: (6, .getfield 41, 3) :: (9, .invokestatic 122, 3) :: (12, .invokestatic 176, 3) :: (15, .aload_n 0, 1) :: (16, .getfield 63, 3) :: (19, .ladd, 1) :: (20, .lreturn, 1) :: []
theorem o_X9_goalDown_0 : Chn cX9_goalDown B_X9_goalDown_0 := chn_of _ (by decide +kernel)
theorem ml_9_176 : MLk RX9 176 yJ9_floorDiv_f86c9 := Or.inl (allW_in (kT_8 _ (List.mem_of_getElem? (i := 27) rfl)) rfl)
abbrev cX9_firstBroken : ByteArray := prog_11_method_28_code
def yX9_firstBroken : MethodName := ⟨RX9, "firstBroken", "()I"⟩
def M_X9_firstBroken : MT := (yX9_firstBroken, cX9_firstBroken, 2, (some .int), RX9, 1)
theorem mk_X9_firstBroken : MokV M_X9_firstBroken 9 0 := ⟨⟨⟨by decide, by decide, rfl⟩, (allW_in (kT_8 _ (List.mem_of_getElem? (i := 33) rfl)) rfl), (allW_in (kT_1 _ (List.mem_of_getElem? (i := 14) rfl)) rfl), by decide⟩, ⟨TX9, 14, rfl⟩, (allW_in (kT_8 _ (List.mem_of_getElem? (i := 31) rfl)) rfl), (allW_in (kT_8 _ (List.mem_of_getElem? (i := 32) rfl)) rfl)⟩
def B_X9_firstBroken_40 : Blk := (40, .iconst (-1), 1) :: (41, .ireturn, 1) :: []
theorem o_X9_firstBroken_40 : Chn cX9_firstBroken B_X9_firstBroken_40 := chn_of _ (by decide +kernel)
def B_X9_firstBroken_34 : Blk := (34, .iinc 1 1, 3) :: (37, .goto (-35), 3) :: []
theorem o_X9_firstBroken_34 : Chn cX9_firstBroken B_X9_firstBroken_34 := chn_of _ (by decide +kernel)
def B_X9_firstBroken_2 : Blk := (2, .iload_n 1, 1) :: (3, .aload_n 0, 1) :: (4, .getfield 62, 3) :: (7, .if_icmp .ge 33, 3) :: (10, .aload_n 0, 1) :: (11, .getfield 28, 3) :: (14, .iload_n 1, 1) :: (15, .laload, 1) :: (16, .lconst 1, 1) :: (17, .aload_n 0, 1) :: (18, .getfield 41, 3) :: (21, .invokestatic 122, 3) :: (24, .invokestatic 179, 3) :: (27, .lconst 0, 1) :: (28, .lcmp, 1) :: (29, .ifCond .eq 5, 3) :: (32, .iload_n 1, 1) :: (33, .ireturn, 1) :: []
theorem o_X9_firstBroken_2 : Chn cX9_firstBroken B_X9_firstBroken_2 := chn_of _ (by decide +kernel)
def B_X9_firstBroken_0 : Blk := (0, .iconst 0, 1) :: (1, .istore_n 1, 1) :: B_X9_firstBroken_2
theorem o_X9_firstBroken_0 : Chn cX9_firstBroken B_X9_firstBroken_0 := chn_app ((0, .iconst 0, 1) :: (1, .istore_n 1, 1) :: []) o_X9_firstBroken_2 (by decide +kernel)
theorem ml_9_179 : MLk RX9 179 yJ9_floorMod_f86c9 := Or.inl (allW_in (kT_8 _ (List.mem_of_getElem? (i := 34) rfl)) rfl)
abbrev cX9_down : ByteArray := prog_11_method_29_code
def yX9_down : MethodName := ⟨RX9, "down", "(I)J"⟩
def M_X9_down : MT := (yX9_down, cX9_down, 4, (some .long), RX9, 2)
theorem mk_X9_down : MokV M_X9_down 9 1 := ⟨⟨⟨by decide, by decide, rfl⟩, (allW_in (kT_8 _ (List.mem_of_getElem? (i := 42) rfl)) rfl), (allW_in (kT_1 _ (List.mem_of_getElem? (i := 14) rfl)) rfl), by decide⟩, ⟨TX9, 14, rfl⟩, (allW_in (kT_8 _ (List.mem_of_getElem? (i := 40) rfl)) rfl), (allW_in (kT_8 _ (List.mem_of_getElem? (i := 41) rfl)) rfl)⟩
def B_X9_down_19 : Blk := (19, .lstore_n 2, 1) :: (20, .lload_n 2, 1) :: (21, .lconst 1, 1) :: (22, .aload_n 0, 1) :: (23, .getfield 41, 3) :: (26, .invokestatic 122, 3) :: (29, .invokestatic 176, 3) :: (32, .lreturn, 1) :: []
theorem o_X9_down_19 : Chn cX9_down B_X9_down_19 := chn_of _ (by decide +kernel)
def B_X9_down_18 : Blk := (18, .lconst 0, 1) :: B_X9_down_19
theorem o_X9_down_18 : Chn cX9_down B_X9_down_18 := chn_app ((18, .lconst 0, 1) :: []) o_X9_down_19 (by decide +kernel)
def B_X9_down_0 : Blk := (0, .iload_n 1, 1) :: (1, .ifCond .lt 17, 3) :: (4, .iload_n 1, 1) :: (5, .iconst 4, 1) :: (6, .if_icmp .ge 12, 3) :: (9, .aload_n 0, 1) :: (10, .getfield 28, 3) :: (13, .iload_n 1, 1) :: (14, .laload, 1) :: (15, .goto 4, 3) :: []
theorem o_X9_down_0 : Chn cX9_down B_X9_down_0 := chn_of _ (by decide +kernel)
abbrev cX9_isLimit : ByteArray := prog_11_method_30_code
def yX9_isLimit : MethodName := ⟨RX9, "isLimit", "(J)Z"⟩
def M_X9_isLimit : MT := (yX9_isLimit, cX9_isLimit, 2, (some .boolean), RX9, 1)
theorem mk_X9_isLimit : MokS M_X9_isLimit 1 := ⟨⟨⟨by decide, by decide, rfl⟩, (allW_in (kT_8 _ (List.mem_of_getElem? (i := 49) rfl)) rfl), (allW_in (kT_1 _ (List.mem_of_getElem? (i := 14) rfl)) rfl), by decide⟩, (allW_in (kT_8 _ (List.mem_of_getElem? (i := 48) rfl)) rfl)⟩
def B_X9_isLimit_16 : Blk := (16, .ireturn, 1) :: []
theorem o_X9_isLimit_16 : Chn cX9_isLimit B_X9_isLimit_16 := chn_of _ (by decide +kernel)
def B_X9_isLimit_15 : Blk := (15, .iconst 0, 1) :: B_X9_isLimit_16
theorem o_X9_isLimit_15 : Chn cX9_isLimit B_X9_isLimit_15 := chn_app ((15, .iconst 0, 1) :: []) o_X9_isLimit_16 (by decide +kernel)
def B_X9_isLimit_0 : Blk := (0, .lload_n 0, 1) :: (1, .invokestatic 182, 3) :: (4, .ldc2_w 186, 3) :: (7, .lcmp, 1) :: (8, .ifCond .gt 7, 3) :: (11, .iconst 1, 1) :: (12, .goto 4, 3) :: []
theorem o_X9_isLimit_0 : Chn cX9_isLimit B_X9_isLimit_0 := chn_of _ (by decide +kernel)
abbrev cX9_findBasis : ByteArray := prog_11_method_33_code
def yX9_findBasis : MethodName := ⟨RX9, "findBasis", "()V"⟩
def M_X9_findBasis : MT := (yX9_findBasis, cX9_findBasis, 4, none, RX9, 0)
theorem mk_X9_findBasis : MokV M_X9_findBasis 9 0 := ⟨⟨⟨by decide, by decide, rfl⟩, (allW_in (kT_8 _ (List.mem_of_getElem? (i := 59) rfl)) rfl), (allW_in (kT_1 _ (List.mem_of_getElem? (i := 14) rfl)) rfl), by decide⟩, ⟨TX9, 14, rfl⟩, (allW_in (kT_8 _ (List.mem_of_getElem? (i := 58) rfl)) rfl), (allW_in (kTs_8 _ (List.mem_of_getElem? (i := 4) rfl)) rfl)⟩
def B_X9_findBasis_130 : Blk := (130, .return_, 1) :: []
theorem o_X9_findBasis_130 : Chn cX9_findBasis B_X9_findBasis_130 := chn_of _ (by decide +kernel)
def B_X9_findBasis_124 : Blk := (124, .iinc 1 1, 3) :: (127, .goto (-81), 3) :: []
theorem o_X9_findBasis_124 : Chn cX9_findBasis B_X9_findBasis_124 := chn_of _ (by decide +kernel)
def B_X9_findBasis_113 : Blk := (113, .iload_n 2, 1) :: (114, .iconst (-1), 1) :: (115, .if_icmp .eq 9, 3) :: (118, .aload_n 0, 1) :: (119, .iload_n 2, 1) :: (120, .iload_n 1, 1) :: (121, .invokevirtual 143, 3) :: B_X9_findBasis_124
theorem o_X9_findBasis_113 : Chn cX9_findBasis B_X9_findBasis_113 := chn_app ((113, .iload_n 2, 1) :: (114, .iconst (-1), 1) :: (115, .if_icmp .eq 9, 3) :: (118, .aload_n 0, 1) :: (119, .iload_n 2, 1) :: (120, .iload_n 1, 1) :: (121, .invokevirtual 143, 3) :: []) o_X9_findBasis_124 (by decide +kernel)
def B_X9_findBasis_106 : Blk := (106, .istore_n 2, 1) :: (107, .iinc 3 (-1), 3) :: (110, .goto (-34), 3) :: []
theorem o_X9_findBasis_106 : Chn cX9_findBasis B_X9_findBasis_106 := chn_of _ (by decide +kernel)
def B_X9_findBasis_105 : Blk := (105, .iload_n 2, 1) :: B_X9_findBasis_106
theorem o_X9_findBasis_105 : Chn cX9_findBasis B_X9_findBasis_105 := chn_app ((105, .iload_n 2, 1) :: []) o_X9_findBasis_106 (by decide +kernel)
def B_X9_findBasis_76 : Blk := (76, .iload_n 3, 1) :: (77, .ifCond .lt 36, 3) :: (80, .aload_n 0, 1) :: (81, .getfield 18, 3) :: (84, .iload_n 3, 1) :: (85, .iaload, 1) :: (86, .iconst (-1), 1) :: (87, .if_icmp .ne 18, 3) :: (90, .aload_n 0, 1) :: (91, .getfield 25, 3) :: (94, .iload_n 3, 1) :: (95, .laload, 1) :: (96, .lconst 0, 1) :: (97, .lcmp, 1) :: (98, .ifCond .eq 7, 3) :: (101, .iload_n 3, 1) :: (102, .goto 4, 3) :: []
theorem o_X9_findBasis_76 : Chn cX9_findBasis B_X9_findBasis_76 := chn_of _ (by decide +kernel)
def B_X9_findBasis_46 : Blk := (46, .iload_n 1, 1) :: (47, .aload_n 0, 1) :: (48, .getfield 44, 3) :: (51, .if_icmp .ge 79, 3) :: (54, .aload_n 0, 1) :: (55, .iload_n 1, 1) :: (56, .invokevirtual 153, 3) :: (59, .ifCond .ne 65, 3) :: (62, .aload_n 0, 1) :: (63, .iload_n 1, 1) :: (64, .invokevirtual 137, 3) :: (67, .iconst (-1), 1) :: (68, .istore_n 2, 1) :: (69, .aload_n 0, 1) :: (70, .getfield 62, 3) :: (73, .iconst 1, 1) :: (74, .isub, 1) :: (75, .istore_n 3, 1) :: B_X9_findBasis_76
theorem o_X9_findBasis_46 : Chn cX9_findBasis B_X9_findBasis_46 := chn_app ((46, .iload_n 1, 1) :: (47, .aload_n 0, 1) :: (48, .getfield 44, 3) :: (51, .if_icmp .ge 79, 3) :: (54, .aload_n 0, 1) :: (55, .iload_n 1, 1) :: (56, .invokevirtual 153, 3) :: (59, .ifCond .ne 65, 3) :: (62, .aload_n 0, 1) :: (63, .iload_n 1, 1) :: (64, .invokevirtual 137, 3) :: (67, .iconst (-1), 1) :: (68, .istore_n 2, 1) :: (69, .aload_n 0, 1) :: (70, .getfield 62, 3) :: (73, .iconst 1, 1) :: (74, .isub, 1) :: (75, .istore_n 3, 1) :: []) o_X9_findBasis_76 (by decide +kernel)
def B_X9_findBasis_44 : Blk := (44, .iconst 0, 1) :: (45, .istore_n 1, 1) :: B_X9_findBasis_46
theorem o_X9_findBasis_44 : Chn cX9_findBasis B_X9_findBasis_44 := chn_app ((44, .iconst 0, 1) :: (45, .istore_n 1, 1) :: []) o_X9_findBasis_46 (by decide +kernel)
def B_X9_findBasis_15 : Blk := (15, .iload_n 1, 1) :: (16, .iconst 4, 1) :: (17, .if_icmp .ge 27, 3) :: (20, .aload_n 0, 1) :: (21, .getfield 22, 3) :: (24, .iload_n 1, 1) :: (25, .iconst 4, 1) :: (26, .imul, 1) :: (27, .iload_n 1, 1) :: (28, .iadd, 1) :: (29, .lconst 1, 1) :: (30, .lastore, 1) :: (31, .aload_n 0, 1) :: (32, .getfield 18, 3) :: (35, .iload_n 1, 1) :: (36, .iconst (-1), 1) :: (37, .iastore, 1) :: (38, .iinc 1 1, 3) :: (41, .goto (-26), 3) :: []
theorem o_X9_findBasis_15 : Chn cX9_findBasis B_X9_findBasis_15 := chn_of _ (by decide +kernel)
def B_X9_findBasis_0 : Blk := (0, .aload_n 0, 1) :: (1, .getfield 22, 3) :: (4, .lconst 0, 1) :: (5, .invokestatic 147, 3) :: (8, .aload_n 0, 1) :: (9, .lconst 1, 1) :: (10, .putfield 37, 3) :: (13, .iconst 0, 1) :: (14, .istore_n 1, 1) :: B_X9_findBasis_15
theorem o_X9_findBasis_0 : Chn cX9_findBasis B_X9_findBasis_0 := chn_app ((0, .aload_n 0, 1) :: (1, .getfield 22, 3) :: (4, .lconst 0, 1) :: (5, .invokestatic 147, 3) :: (8, .aload_n 0, 1) :: (9, .lconst 1, 1) :: (10, .putfield 37, 3) :: (13, .iconst 0, 1) :: (14, .istore_n 1, 1) :: []) o_X9_findBasis_15 (by decide +kernel)
abbrev cX9_finishCut : ByteArray := prog_11_method_32_code
def yX9_finishCut : MethodName := ⟨RX9, "finishCut", "(JJ)Z"⟩
def M_X9_finishCut : MT := (yX9_finishCut, cX9_finishCut, 9, (some .boolean), RX9, 1)
theorem mk_X9_finishCut : MokV M_X9_finishCut 9 2 := ⟨⟨⟨by decide, by decide, rfl⟩, (allW_in (kT_8 _ (List.mem_of_getElem? (i := 63) rfl)) rfl), (allW_in (kT_1 _ (List.mem_of_getElem? (i := 14) rfl)) rfl), by decide⟩, ⟨TX9, 14, rfl⟩, (allW_in (kT_8 _ (List.mem_of_getElem? (i := 62) rfl)) rfl), (allW_in (kTs_8 _ (List.mem_of_getElem? (i := 5) rfl)) rfl)⟩
def B_X9_finishCut_197 : Blk := (197, .putfield 44, 3) :: (200, .iload 7, 2) :: (202, .ireturn, 1) :: []
theorem o_X9_finishCut_197 : Chn cX9_finishCut B_X9_finishCut_197 := chn_of _ (by decide +kernel)
def B_X9_finishCut_193 : Blk := (193, .aload_n 0, 1) :: (194, .getfield 44, 3) :: B_X9_finishCut_197
theorem o_X9_finishCut_193 : Chn cX9_finishCut B_X9_finishCut_193 := chn_app ((193, .aload_n 0, 1) :: (194, .getfield 44, 3) :: []) o_X9_finishCut_197 (by decide +kernel)
def B_X9_finishCut_172 : Blk := (172, .aload_n 0, 1) :: (173, .iload 7, 2) :: (175, .ifCond .eq 18, 3) :: (178, .aload_n 0, 1) :: (179, .getfield 44, 3) :: (182, .iconst 1, 1) :: (183, .iadd, 1) :: (184, .sipush 479, 3) :: (187, .invokestatic 53, 3) :: (190, .goto 7, 3) :: []
theorem o_X9_finishCut_172 : Chn cX9_finishCut B_X9_finishCut_172 := chn_of _ (by decide +kernel)
def B_X9_finishCut_163 : Blk := (163, .iand, 1) :: (164, .istore 7, 2) :: (166, .iinc 8 1, 3) :: (169, .goto (-65), 3) :: []
theorem o_X9_finishCut_163 : Chn cX9_finishCut B_X9_finishCut_163 := chn_of _ (by decide +kernel)
def B_X9_finishCut_162 : Blk := (162, .iconst 0, 1) :: B_X9_finishCut_163
theorem o_X9_finishCut_162 : Chn cX9_finishCut B_X9_finishCut_162 := chn_app ((162, .iconst 0, 1) :: []) o_X9_finishCut_163 (by decide +kernel)
def B_X9_finishCut_104 : Blk := (104, .iload 8, 2) :: (106, .aload_n 0, 1) :: (107, .getfield 62, 3) :: (110, .if_icmp .ge 62, 3) :: (113, .aload_n 0, 1) :: (114, .aload_n 0, 1) :: (115, .getfield 44, 3) :: (118, .iload 8, 2) :: (120, .aload_n 0, 1) :: (121, .aload_n 0, 1) :: (122, .getfield 44, 3) :: (125, .iload 8, 2) :: (127, .invokevirtual 99, 3) :: (130, .lload 5, 2) :: (132, .ldiv, 1) :: (133, .invokevirtual 91, 3) :: (136, .iload 7, 2) :: (138, .aload_n 0, 1) :: (139, .aload_n 0, 1) :: (140, .getfield 44, 3) :: (143, .iload 8, 2) :: (145, .invokevirtual 99, 3) :: (148, .invokestatic 182, 3) :: (151, .ldc2_w 199, 3) :: (154, .lcmp, 1) :: (155, .ifCond .gt 7, 3) :: (158, .iconst 1, 1) :: (159, .goto 4, 3) :: []
theorem o_X9_finishCut_104 : Chn cX9_finishCut B_X9_finishCut_104 := chn_of _ (by decide +kernel)
def B_X9_finishCut_64 : Blk := (64, .lconst 1, 1) :: (65, .lload 5, 2) :: (67, .invokestatic 122, 3) :: (70, .lstore 5, 2) :: (72, .aload_n 0, 1) :: (73, .aload_n 0, 1) :: (74, .getfield 44, 3) :: (77, .iconst 4, 1) :: (78, .lload_n 3, 1) :: (79, .lload 5, 2) :: (81, .invokestatic 176, 3) :: (84, .invokevirtual 91, 3) :: (87, .aload_n 0, 1) :: (88, .aload_n 0, 1) :: (89, .getfield 44, 3) :: (92, .iconst 4, 1) :: (93, .invokevirtual 99, 3) :: (96, .invokestatic 195, 3) :: (99, .istore 7, 2) :: (101, .iconst 0, 1) :: (102, .istore 8, 2) :: B_X9_finishCut_104
theorem o_X9_finishCut_64 : Chn cX9_finishCut B_X9_finishCut_64 := chn_app ((64, .lconst 1, 1) :: (65, .lload 5, 2) :: (67, .invokestatic 122, 3) :: (70, .lstore 5, 2) :: (72, .aload_n 0, 1) :: (73, .aload_n 0, 1) :: (74, .getfield 44, 3) :: (77, .iconst 4, 1) :: (78, .lload_n 3, 1) :: (79, .lload 5, 2) :: (81, .invokestatic 176, 3) :: (84, .invokevirtual 91, 3) :: (87, .aload_n 0, 1) :: (88, .aload_n 0, 1) :: (89, .getfield 44, 3) :: (92, .iconst 4, 1) :: (93, .invokevirtual 99, 3) :: (96, .invokestatic 195, 3) :: (99, .istore 7, 2) :: (101, .iconst 0, 1) :: (102, .istore 8, 2) :: []) o_X9_finishCut_104 (by decide +kernel)
def B_X9_finishCut_6 : Blk := (6, .iload 7, 2) :: (8, .aload_n 0, 1) :: (9, .getfield 62, 3) :: (12, .if_icmp .ge 52, 3) :: (15, .aload_n 0, 1) :: (16, .aload_n 0, 1) :: (17, .getfield 44, 3) :: (20, .iload 7, 2) :: (22, .aload_n 0, 1) :: (23, .aload_n 0, 1) :: (24, .getfield 44, 3) :: (27, .iload 7, 2) :: (29, .invokevirtual 99, 3) :: (32, .lconst 1, 1) :: (33, .lload_n 1, 1) :: (34, .invokestatic 122, 3) :: (37, .ldiv, 1) :: (38, .invokevirtual 91, 3) :: (41, .lload 5, 2) :: (43, .aload_n 0, 1) :: (44, .aload_n 0, 1) :: (45, .getfield 44, 3) :: (48, .iload 7, 2) :: (50, .invokevirtual 99, 3) :: (53, .invokestatic 118, 3) :: (56, .lstore 5, 2) :: (58, .iinc 7 1, 3) :: (61, .goto (-55), 3) :: []
theorem o_X9_finishCut_6 : Chn cX9_finishCut B_X9_finishCut_6 := chn_of _ (by decide +kernel)
def B_X9_finishCut_0 : Blk := (0, .lconst 0, 1) :: (1, .lstore 5, 2) :: (3, .iconst 0, 1) :: (4, .istore 7, 2) :: B_X9_finishCut_6
theorem o_X9_finishCut_0 : Chn cX9_finishCut B_X9_finishCut_0 := chn_app ((0, .lconst 0, 1) :: (1, .lstore 5, 2) :: (3, .iconst 0, 1) :: (4, .istore 7, 2) :: []) o_X9_finishCut_6 (by decide +kernel)
theorem ml_9_195 : MLk RX9 195 yX9_isLimit := Or.inl (allW_in (kT_8 _ (List.mem_of_getElem? (i := 64) rfl)) rfl)
abbrev cX9_addCut : ByteArray := prog_11_method_31_code
def yX9_addCut : MethodName := ⟨RX9, "addCut", "(I)Z"⟩
def M_X9_addCut : MT := (yX9_addCut, cX9_addCut, 13, (some .boolean), RX9, 1)
theorem mk_X9_addCut : MokV M_X9_addCut 9 1 := ⟨⟨⟨by decide, by decide, rfl⟩, (allW_in (kT_8 _ (List.mem_of_getElem? (i := 55) rfl)) rfl), (allW_in (kT_1 _ (List.mem_of_getElem? (i := 14) rfl)) rfl), by decide⟩, ⟨TX9, 14, rfl⟩, (allW_in (kT_8 _ (List.mem_of_getElem? (i := 53) rfl)) rfl), (allW_in (kT_8 _ (List.mem_of_getElem? (i := 54) rfl)) rfl)⟩
def B_X9_addCut_165 : Blk := (165, .aload_n 0, 1) :: (166, .lload_n 2, 1) :: (167, .lload 4, 2) :: (169, .lload 6, 2) :: (171, .lload_n 2, 1) :: (172, .invokestatic 176, 3) :: (175, .ladd, 1) :: (176, .invokevirtual 191, 3) :: (179, .ireturn, 1) :: []
theorem o_X9_addCut_165 : Chn cX9_addCut B_X9_addCut_165 := chn_of _ (by decide +kernel)
def B_X9_addCut_120 : Blk := (120, .lload 9, 2) :: (122, .aload_n 0, 1) :: (123, .aload_n 0, 1) :: (124, .getfield 18, 3) :: (127, .iload 8, 2) :: (129, .iaload, 1) :: (130, .iconst 4, 1) :: (131, .invokevirtual 99, 3) :: (134, .lmul, 1) :: (135, .lstore 11, 2) :: (137, .lload 4, 2) :: (139, .lload 11, 2) :: (141, .lload_n 2, 1) :: (142, .invokestatic 176, 3) :: (145, .ladd, 1) :: (146, .lstore 4, 2) :: (148, .lload 6, 2) :: (150, .lload 11, 2) :: (152, .lload_n 2, 1) :: (153, .invokestatic 179, 3) :: (156, .ladd, 1) :: (157, .lstore 6, 2) :: (159, .iinc 8 1, 3) :: (162, .goto (-132), 3) :: []
theorem o_X9_addCut_120 : Chn cX9_addCut B_X9_addCut_120 := chn_of _ (by decide +kernel)
def B_X9_addCut_68 : Blk := (68, .iload 11, 2) :: (70, .aload_n 0, 1) :: (71, .getfield 62, 3) :: (74, .if_icmp .ge 46, 3) :: (77, .aload_n 0, 1) :: (78, .aload_n 0, 1) :: (79, .getfield 44, 3) :: (82, .iload 11, 2) :: (84, .aload_n 0, 1) :: (85, .aload_n 0, 1) :: (86, .getfield 44, 3) :: (89, .iload 11, 2) :: (91, .invokevirtual 99, 3) :: (94, .lload 9, 2) :: (96, .aload_n 0, 1) :: (97, .aload_n 0, 1) :: (98, .getfield 18, 3) :: (101, .iload 8, 2) :: (103, .iaload, 1) :: (104, .iload 11, 2) :: (106, .invokevirtual 99, 3) :: (109, .lmul, 1) :: (110, .ladd, 1) :: (111, .invokevirtual 91, 3) :: (114, .iinc 11 1, 3) :: (117, .goto (-49), 3) :: []
theorem o_X9_addCut_68 : Chn cX9_addCut B_X9_addCut_68 := chn_of _ (by decide +kernel)
def B_X9_addCut_30 : Blk := (30, .iload 8, 2) :: (32, .aload_n 0, 1) :: (33, .getfield 62, 3) :: (36, .if_icmp .ge 129, 3) :: (39, .iload_n 1, 1) :: (40, .ifCond .lt 125, 3) :: (43, .iload_n 1, 1) :: (44, .iconst 4, 1) :: (45, .if_icmp .ge 120, 3) :: (48, .aload_n 0, 1) :: (49, .getfield 22, 3) :: (52, .iload 8, 2) :: (54, .iconst 4, 1) :: (55, .imul, 1) :: (56, .iload_n 1, 1) :: (57, .iadd, 1) :: (58, .laload, 1) :: (59, .lload_n 2, 1) :: (60, .invokestatic 179, 3) :: (63, .lstore 9, 2) :: (65, .iconst 0, 1) :: (66, .istore 11, 2) :: B_X9_addCut_68
theorem o_X9_addCut_30 : Chn cX9_addCut B_X9_addCut_30 := chn_app ((30, .iload 8, 2) :: (32, .aload_n 0, 1) :: (33, .getfield 62, 3) :: (36, .if_icmp .ge 129, 3) :: (39, .iload_n 1, 1) :: (40, .ifCond .lt 125, 3) :: (43, .iload_n 1, 1) :: (44, .iconst 4, 1) :: (45, .if_icmp .ge 120, 3) :: (48, .aload_n 0, 1) :: (49, .getfield 22, 3) :: (52, .iload 8, 2) :: (54, .iconst 4, 1) :: (55, .imul, 1) :: (56, .iload_n 1, 1) :: (57, .iadd, 1) :: (58, .laload, 1) :: (59, .lload_n 2, 1) :: (60, .invokestatic 179, 3) :: (63, .lstore 9, 2) :: (65, .iconst 0, 1) :: (66, .istore 11, 2) :: []) o_X9_addCut_68 (by decide +kernel)
def B_X9_addCut_0 : Blk := (0, .aload_n 0, 1) :: (1, .invokevirtual 188, 3) :: (4, .aload_n 0, 1) :: (5, .aload_n 0, 1) :: (6, .getfield 44, 3) :: (9, .invokevirtual 82, 3) :: (12, .lconst 1, 1) :: (13, .aload_n 0, 1) :: (14, .getfield 37, 3) :: (17, .invokestatic 122, 3) :: (20, .lstore_n 2, 1) :: (21, .lconst 0, 1) :: (22, .lstore 4, 2) :: (24, .lconst 0, 1) :: (25, .lstore 6, 2) :: (27, .iconst 0, 1) :: (28, .istore 8, 2) :: B_X9_addCut_30
theorem o_X9_addCut_0 : Chn cX9_addCut B_X9_addCut_0 := chn_app ((0, .aload_n 0, 1) :: (1, .invokevirtual 188, 3) :: (4, .aload_n 0, 1) :: (5, .aload_n 0, 1) :: (6, .getfield 44, 3) :: (9, .invokevirtual 82, 3) :: (12, .lconst 1, 1) :: (13, .aload_n 0, 1) :: (14, .getfield 37, 3) :: (17, .invokestatic 122, 3) :: (20, .lstore_n 2, 1) :: (21, .lconst 0, 1) :: (22, .lstore 4, 2) :: (24, .lconst 0, 1) :: (25, .lstore 6, 2) :: (27, .iconst 0, 1) :: (28, .istore 8, 2) :: []) o_X9_addCut_30 (by decide +kernel)
theorem ml_9_188 : MLk RX9 188 yX9_findBasis := Or.inl (allW_in (kT_8 _ (List.mem_of_getElem? (i := 56) rfl)) rfl)
theorem ml_9_191 : MLk RX9 191 yX9_finishCut := Or.inl (allW_in (kT_8 _ (List.mem_of_getElem? (i := 60) rfl)) rfl)
abbrev cX10_isTold : ByteArray := prog_12_method_2_code
def yX10_isTold : MethodName := ⟨RX10, "isTold", "(I)Z"⟩
def M_X10_isTold : MT := (yX10_isTold, cX10_isTold, 2, (some .boolean), RX10, 1)
theorem mk_X10_isTold : MokV M_X10_isTold 10 1 := ⟨⟨⟨by decide, by decide, rfl⟩, (allW_in (kT_9 _ (List.mem_of_getElem? (i := 150) rfl)) rfl), (allW_in (kT_1 _ (List.mem_of_getElem? (i := 15) rfl)) rfl), by decide⟩, ⟨TX10, 12, rfl⟩, (allW_in (kT_9 _ (List.mem_of_getElem? (i := 148) rfl)) rfl), (allW_in (kT_9 _ (List.mem_of_getElem? (i := 149) rfl)) rfl)⟩
def B_X10_isTold_22 : Blk := (22, .ireturn, 1) :: []
theorem o_X10_isTold_22 : Chn cX10_isTold B_X10_isTold_22 := chn_of _ (by decide +kernel)
def B_X10_isTold_21 : Blk := (21, .iconst 0, 1) :: B_X10_isTold_22
theorem o_X10_isTold_21 : Chn cX10_isTold B_X10_isTold_21 := chn_app ((21, .iconst 0, 1) :: []) o_X10_isTold_22 (by decide +kernel)
def B_X10_isTold_0 : Blk := (0, .aload_n 0, 1) :: (1, .getfield 32, 3) :: (4, .ifCond .eq 17, 3) :: (7, .iload_n 1, 1) :: (8, .ifCond .lt 13, 3) :: (11, .iload_n 1, 1) :: (12, .bipush 6, 2) :: (14, .if_icmp .gt 7, 3) :: (17, .iconst 1, 1) :: (18, .goto 4, 3) :: []
theorem o_X10_isTold_0 : Chn cX10_isTold B_X10_isTold_0 := chn_of _ (by decide +kernel)
theorem fl_10_32 : FLk RX10 32 10 11 1 false := ⟨RX10, TX10, 12, "IntegerHouse$Searcher", "told", "Z", rfl, by decide, rfl, Or.inl (allW_in (kT_3 _ (List.mem_of_getElem? (i := 85) rfl)) rfl), rfl, (fun h => absurd h (by decide)), (fun _ => rfl), (fun h => absurd h (by decide)), (fun h => absurd h (by decide))⟩
abbrev cX10_toldBest : ByteArray := prog_12_method_3_code
def yX10_toldBest : MethodName := ⟨RX10, "toldBest", "(I)J"⟩
def M_X10_toldBest : MT := (yX10_toldBest, cX10_toldBest, 3, (some .long), RX10, 2)
theorem mk_X10_toldBest : MokV M_X10_toldBest 10 1 := ⟨⟨⟨by decide, by decide, rfl⟩, (allW_in (kT_9 _ (List.mem_of_getElem? (i := 154) rfl)) rfl), (allW_in (kT_1 _ (List.mem_of_getElem? (i := 15) rfl)) rfl), by decide⟩, ⟨TX10, 12, rfl⟩, (allW_in (kT_9 _ (List.mem_of_getElem? (i := 152) rfl)) rfl), (allW_in (kT_9 _ (List.mem_of_getElem? (i := 153) rfl)) rfl)⟩
def B_X10_toldBest_56 : Blk := (56, .lreturn, 1) :: []
theorem o_X10_toldBest_56 : Chn cX10_toldBest B_X10_toldBest_56 := chn_of _ (by decide +kernel)
def B_X10_toldBest_55 : Blk := (55, .lconst 0, 1) :: B_X10_toldBest_56
theorem o_X10_toldBest_55 : Chn cX10_toldBest B_X10_toldBest_55 := chn_app ((55, .lconst 0, 1) :: []) o_X10_toldBest_56 (by decide +kernel)
def B_X10_toldBest_37 : Blk := (37, .iload_n 2, 1) :: (38, .ifCond .lt 17, 3) :: (41, .iload_n 2, 1) :: (42, .iconst 4, 1) :: (43, .if_icmp .ge 12, 3) :: (46, .aload_n 0, 1) :: (47, .getfield 25, 3) :: (50, .iload_n 2, 1) :: (51, .laload, 1) :: (52, .goto 4, 3) :: []
theorem o_X10_toldBest_37 : Chn cX10_toldBest B_X10_toldBest_37 := chn_of _ (by decide +kernel)
def B_X10_toldBest_22 : Blk := (22, .iload_n 1, 1) :: (23, .iconst 3, 1) :: (24, .isub, 1) :: (25, .istore_n 2, 1) :: (26, .iload_n 1, 1) :: (27, .ifCond .ne 10, 3) :: (30, .aload_n 0, 1) :: (31, .getfield 43, 3) :: (34, .goto 22, 3) :: []
theorem o_X10_toldBest_22 : Chn cX10_toldBest B_X10_toldBest_22 := chn_of _ (by decide +kernel)
def B_X10_toldBest_11 : Blk := (11, .iload_n 1, 1) :: (12, .iconst 2, 1) :: (13, .if_icmp .ne 9, 3) :: (16, .aload_n 0, 1) :: (17, .getfield 40, 3) :: (20, .i2l, 1) :: (21, .lreturn, 1) :: []
theorem o_X10_toldBest_11 : Chn cX10_toldBest B_X10_toldBest_11 := chn_of _ (by decide +kernel)
def B_X10_toldBest_0 : Blk := (0, .iload_n 1, 1) :: (1, .iconst 1, 1) :: (2, .if_icmp .ne 9, 3) :: (5, .aload_n 0, 1) :: (6, .getfield 36, 3) :: (9, .i2l, 1) :: (10, .lreturn, 1) :: []
theorem o_X10_toldBest_0 : Chn cX10_toldBest B_X10_toldBest_0 := chn_of _ (by decide +kernel)
theorem fl_10_25 : FLk RX10 25 10 5 3 true := ⟨RX10, TX10, 12, "IntegerHouse$Searcher", "values", "[J", rfl, by decide, rfl, Or.inl (allW_in (kT_3 _ (List.mem_of_getElem? (i := 79) rfl)) rfl), rfl, (fun h => absurd h (by decide)), (fun h => absurd h (by decide)), (fun h => absurd h (by decide)), (fun h => absurd h (by decide))⟩
theorem fl_10_43 : FLk RX10 43 10 9 2 false := ⟨RX10, TX10, 12, "IntegerHouse$Searcher", "bestValue", "J", rfl, by decide, rfl, Or.inl (allW_in (kT_3 _ (List.mem_of_getElem? (i := 83) rfl)) rfl), rfl, (fun h => absurd h (by decide)), (fun h => absurd h (by decide)), (fun _ => rfl), (fun h => absurd h (by decide))⟩
theorem fl_10_40 : FLk RX10 40 10 8 0 false := ⟨RX10, TX10, 12, "IntegerHouse$Searcher", "cuts", "I", rfl, by decide, rfl, Or.inl (allW_in (kT_3 _ (List.mem_of_getElem? (i := 82) rfl)) rfl), rfl, (fun _ => rfl), (fun h => absurd h (by decide)), (fun h => absurd h (by decide)), (fun h => absurd h (by decide))⟩
theorem fl_10_36 : FLk RX10 36 10 7 0 false := ⟨RX10, TX10, 12, "IntegerHouse$Searcher", "taken", "I", rfl, by decide, rfl, Or.inl (allW_in (kT_3 _ (List.mem_of_getElem? (i := 81) rfl)) rfl), rfl, (fun _ => rfl), (fun h => absurd h (by decide)), (fun h => absurd h (by decide)), (fun h => absurd h (by decide))⟩

abbrev cX10_lay : ByteArray := prog_12_method_5_code
def yX10_lay : MethodName := ⟨RX10, "lay", "(IIIJ)V"⟩
def M_X10_lay : MT := (yX10_lay, cX10_lay, 6, none, RX10, 0)
theorem mk_X10_lay : MokV M_X10_lay 10 4 := ⟨⟨⟨by decide, by decide, rfl⟩, (allW_in (kT_8 _ (List.mem_of_getElem? (i := 9) rfl)) rfl), (allW_in (kT_1 _ (List.mem_of_getElem? (i := 15) rfl)) rfl), by decide⟩, ⟨TX10, 12, rfl⟩, (allW_in (kT_8 _ (List.mem_of_getElem? (i := 8) rfl)) rfl), (allW_in (kTs_7 _ (List.mem_of_getElem? (i := 15) rfl)) rfl)⟩
def B_X10_lay_68 : Blk := (68, .return_, 1) :: []
theorem o_X10_lay_68 : Chn cX10_lay B_X10_lay_68 := chn_of _ (by decide +kernel)
def B_X10_lay_0 : Blk := (0, .aload_n 0, 1) :: (1, .getfield 56, 3) :: (4, .ifCond .lt 64, 3) :: (7, .aload_n 0, 1) :: (8, .getfield 56, 3) :: (11, .sipush 256, 3) :: (14, .if_icmp .ge 54, 3) :: (17, .aload_n 0, 1) :: (18, .getfield 11, 3) :: (21, .aload_n 0, 1) :: (22, .getfield 56, 3) :: (25, .iload_n 1, 1) :: (26, .iastore, 1) :: (27, .aload_n 0, 1) :: (28, .getfield 15, 3) :: (31, .aload_n 0, 1) :: (32, .getfield 56, 3) :: (35, .iload_n 2, 1) :: (36, .iastore, 1) :: (37, .aload_n 0, 1) :: (38, .getfield 18, 3) :: (41, .aload_n 0, 1) :: (42, .getfield 56, 3) :: (45, .iload_n 3, 1) :: (46, .iastore, 1) :: (47, .aload_n 0, 1) :: (48, .getfield 21, 3) :: (51, .aload_n 0, 1) :: (52, .getfield 56, 3) :: (55, .lload 4, 2) :: (57, .lastore, 1) :: (58, .aload_n 0, 1) :: (59, .dup, 1) :: (60, .getfield 56, 3) :: (63, .iconst 1, 1) :: (64, .iadd, 1) :: (65, .putfield 56, 3) :: B_X10_lay_68
theorem o_X10_lay_0 : Chn cX10_lay B_X10_lay_0 := chn_app ((0, .aload_n 0, 1) :: (1, .getfield 56, 3) :: (4, .ifCond .lt 64, 3) :: (7, .aload_n 0, 1) :: (8, .getfield 56, 3) :: (11, .sipush 256, 3) :: (14, .if_icmp .ge 54, 3) :: (17, .aload_n 0, 1) :: (18, .getfield 11, 3) :: (21, .aload_n 0, 1) :: (22, .getfield 56, 3) :: (25, .iload_n 1, 1) :: (26, .iastore, 1) :: (27, .aload_n 0, 1) :: (28, .getfield 15, 3) :: (31, .aload_n 0, 1) :: (32, .getfield 56, 3) :: (35, .iload_n 2, 1) :: (36, .iastore, 1) :: (37, .aload_n 0, 1) :: (38, .getfield 18, 3) :: (41, .aload_n 0, 1) :: (42, .getfield 56, 3) :: (45, .iload_n 3, 1) :: (46, .iastore, 1) :: (47, .aload_n 0, 1) :: (48, .getfield 21, 3) :: (51, .aload_n 0, 1) :: (52, .getfield 56, 3) :: (55, .lload 4, 2) :: (57, .lastore, 1) :: (58, .aload_n 0, 1) :: (59, .dup, 1) :: (60, .getfield 56, 3) :: (63, .iconst 1, 1) :: (64, .iadd, 1) :: (65, .putfield 56, 3) :: []) o_X10_lay_68 (by decide +kernel)
theorem fl_10_56 : FLk RX10 56 10 6 0 false := ⟨RX10, TX10, 12, "IntegerHouse$Searcher", "pile", "I", rfl, by decide, rfl, Or.inl (allW_in (kT_3 _ (List.mem_of_getElem? (i := 80) rfl)) rfl), rfl, (fun _ => rfl), (fun h => absurd h (by decide)), (fun h => absurd h (by decide)), (fun h => absurd h (by decide))⟩
theorem fl_10_11 : FLk RX10 11 10 1 3 true := ⟨RX10, TX10, 12, "IntegerHouse$Searcher", "rowsBefore", "[I", rfl, by decide, rfl, Or.inl (allW_in (kT_3 _ (List.mem_of_getElem? (i := 75) rfl)) rfl), rfl, (fun h => absurd h (by decide)), (fun h => absurd h (by decide)), (fun h => absurd h (by decide)), (fun h => absurd h (by decide))⟩
theorem fl_10_15 : FLk RX10 15 10 2 3 true := ⟨RX10, TX10, 12, "IntegerHouse$Searcher", "variableOf", "[I", rfl, by decide, rfl, Or.inl (allW_in (kT_3 _ (List.mem_of_getElem? (i := 76) rfl)) rfl), rfl, (fun h => absurd h (by decide)), (fun h => absurd h (by decide)), (fun h => absurd h (by decide)), (fun h => absurd h (by decide))⟩
theorem fl_10_18 : FLk RX10 18 10 3 3 true := ⟨RX10, TX10, 12, "IntegerHouse$Searcher", "signOf", "[I", rfl, by decide, rfl, Or.inl (allW_in (kT_3 _ (List.mem_of_getElem? (i := 77) rfl)) rfl), rfl, (fun h => absurd h (by decide)), (fun h => absurd h (by decide)), (fun h => absurd h (by decide)), (fun h => absurd h (by decide))⟩
theorem fl_10_21 : FLk RX10 21 10 4 3 true := ⟨RX10, TX10, 12, "IntegerHouse$Searcher", "limitOf", "[J", rfl, by decide, rfl, Or.inl (allW_in (kT_3 _ (List.mem_of_getElem? (i := 78) rfl)) rfl), rfl, (fun h => absurd h (by decide)), (fun h => absurd h (by decide)), (fun h => absurd h (by decide)), (fun h => absurd h (by decide))⟩
abbrev cX10_take : ByteArray := prog_12_method_6_code
def yX10_take : MethodName := ⟨RX10, "take", "()V"⟩
def M_X10_take : MT := (yX10_take, cX10_take, 1, none, RX10, 0)
theorem mk_X10_take : MokV M_X10_take 10 0 := ⟨⟨⟨by decide, by decide, rfl⟩, (allW_in (kT_8 _ (List.mem_of_getElem? (i := 13) rfl)) rfl), (allW_in (kT_1 _ (List.mem_of_getElem? (i := 15) rfl)) rfl), by decide⟩, ⟨TX10, 12, rfl⟩, (allW_in (kT_8 _ (List.mem_of_getElem? (i := 12) rfl)) rfl), (allW_in (kTs_8 _ (List.mem_of_getElem? (i := 0) rfl)) rfl)⟩
def B_X10_take_100 : Blk := (100, .return_, 1) :: []
theorem o_X10_take_100 : Chn cX10_take B_X10_take_100 := chn_of _ (by decide +kernel)
def B_X10_take_0 : Blk := (0, .aload_n 0, 1) :: (1, .getfield 56, 3) :: (4, .ifCond .le 96, 3) :: (7, .aload_n 0, 1) :: (8, .getfield 56, 3) :: (11, .sipush 256, 3) :: (14, .if_icmp .gt 86, 3) :: (17, .aload_n 0, 1) :: (18, .dup, 1) :: (19, .getfield 56, 3) :: (22, .iconst 1, 1) :: (23, .isub, 1) :: (24, .putfield 56, 3) :: (27, .aload_n 0, 1) :: (28, .dup, 1) :: (29, .getfield 36, 3) :: (32, .iconst 1, 1) :: (33, .iadd, 1) :: (34, .putfield 36, 3) :: (37, .aload_n 0, 1) :: (38, .getfield 28, 3) :: (41, .aload_n 0, 1) :: (42, .getfield 11, 3) :: (45, .aload_n 0, 1) :: (46, .getfield 56, 3) :: (49, .iaload, 1) :: (50, .putfield 59, 3) :: (53, .aload_n 0, 1) :: (54, .getfield 15, 3) :: (57, .aload_n 0, 1) :: (58, .getfield 56, 3) :: (61, .iaload, 1) :: (62, .iconst (-1), 1) :: (63, .if_icmp .eq 37, 3) :: (66, .aload_n 0, 1) :: (67, .getfield 28, 3) :: (70, .aload_n 0, 1) :: (71, .getfield 15, 3) :: (74, .aload_n 0, 1) :: (75, .getfield 56, 3) :: (78, .iaload, 1) :: (79, .aload_n 0, 1) :: (80, .getfield 18, 3) :: (83, .aload_n 0, 1) :: (84, .getfield 56, 3) :: (87, .iaload, 1) :: (88, .aload_n 0, 1) :: (89, .getfield 21, 3) :: (92, .aload_n 0, 1) :: (93, .getfield 56, 3) :: (96, .laload, 1) :: (97, .invokevirtual 75, 3) :: B_X10_take_100
theorem o_X10_take_0 : Chn cX10_take B_X10_take_0 := chn_app ((0, .aload_n 0, 1) :: (1, .getfield 56, 3) :: (4, .ifCond .le 96, 3) :: (7, .aload_n 0, 1) :: (8, .getfield 56, 3) :: (11, .sipush 256, 3) :: (14, .if_icmp .gt 86, 3) :: (17, .aload_n 0, 1) :: (18, .dup, 1) :: (19, .getfield 56, 3) :: (22, .iconst 1, 1) :: (23, .isub, 1) :: (24, .putfield 56, 3) :: (27, .aload_n 0, 1) :: (28, .dup, 1) :: (29, .getfield 36, 3) :: (32, .iconst 1, 1) :: (33, .iadd, 1) :: (34, .putfield 36, 3) :: (37, .aload_n 0, 1) :: (38, .getfield 28, 3) :: (41, .aload_n 0, 1) :: (42, .getfield 11, 3) :: (45, .aload_n 0, 1) :: (46, .getfield 56, 3) :: (49, .iaload, 1) :: (50, .putfield 59, 3) :: (53, .aload_n 0, 1) :: (54, .getfield 15, 3) :: (57, .aload_n 0, 1) :: (58, .getfield 56, 3) :: (61, .iaload, 1) :: (62, .iconst (-1), 1) :: (63, .if_icmp .eq 37, 3) :: (66, .aload_n 0, 1) :: (67, .getfield 28, 3) :: (70, .aload_n 0, 1) :: (71, .getfield 15, 3) :: (74, .aload_n 0, 1) :: (75, .getfield 56, 3) :: (78, .iaload, 1) :: (79, .aload_n 0, 1) :: (80, .getfield 18, 3) :: (83, .aload_n 0, 1) :: (84, .getfield 56, 3) :: (87, .iaload, 1) :: (88, .aload_n 0, 1) :: (89, .getfield 21, 3) :: (92, .aload_n 0, 1) :: (93, .getfield 56, 3) :: (96, .laload, 1) :: (97, .invokevirtual 75, 3) :: []) o_X10_take_100 (by decide +kernel)
theorem fl_10_28 : FLk RX10 28 10 0 3 true := ⟨RX10, TX10, 12, "IntegerHouse$Searcher", "relaxer", "LIntegerHouse$Relaxer;", rfl, by decide, rfl, Or.inl (allW_in (kT_3 _ (List.mem_of_getElem? (i := 74) rfl)) rfl), rfl, (fun h => absurd h (by decide)), (fun h => absurd h (by decide)), (fun h => absurd h (by decide)), (fun h => absurd h (by decide))⟩
theorem fl_10_59 : FLk RX10 59 9 11 0 false := ⟨RX9, TX9, 14, "IntegerHouse$Relaxer", "size", "I", rfl, by decide, rfl, Or.inr ⟨"IntegerHouse", List.mem_of_getElem? (i := 37) rfl⟩, rfl, (fun _ => rfl), (fun h => absurd h (by decide)), (fun h => absurd h (by decide)), (fun h => absurd h (by decide))⟩
theorem ml_10_75 : MLk RX10 75 yX9_addLimit := Or.inl (allW_in (kT_8 _ (List.mem_of_getElem? (i := 14) rfl)) rfl)
abbrev cX10_keepBest : ByteArray := prog_12_method_8_code
def yX10_keepBest : MethodName := ⟨RX10, "keepBest", "()V"⟩
def M_X10_keepBest : MT := (yX10_keepBest, cX10_keepBest, 2, none, RX10, 0)
theorem mk_X10_keepBest : MokV M_X10_keepBest 10 0 := ⟨⟨⟨by decide, by decide, rfl⟩, (allW_in (kT_8 _ (List.mem_of_getElem? (i := 38) rfl)) rfl), (allW_in (kT_1 _ (List.mem_of_getElem? (i := 15) rfl)) rfl), by decide⟩, ⟨TX10, 12, rfl⟩, (allW_in (kT_8 _ (List.mem_of_getElem? (i := 37) rfl)) rfl), (allW_in (kTs_8 _ (List.mem_of_getElem? (i := 2) rfl)) rfl)⟩
def B_X10_keepBest_58 : Blk := (58, .return_, 1) :: []
theorem o_X10_keepBest_58 : Chn cX10_keepBest B_X10_keepBest_58 := chn_of _ (by decide +kernel)
def B_X10_keepBest_51 : Blk := (51, .lastore, 1) :: (52, .iinc 1 1, 3) :: (55, .goto (-37), 3) :: []
theorem o_X10_keepBest_51 : Chn cX10_keepBest B_X10_keepBest_51 := chn_of _ (by decide +kernel)
def B_X10_keepBest_50 : Blk := (50, .lconst 0, 1) :: B_X10_keepBest_51
theorem o_X10_keepBest_50 : Chn cX10_keepBest B_X10_keepBest_50 := chn_app ((50, .lconst 0, 1) :: []) o_X10_keepBest_51 (by decide +kernel)
def B_X10_keepBest_18 : Blk := (18, .iload_n 1, 1) :: (19, .iconst 4, 1) :: (20, .if_icmp .ge 38, 3) :: (23, .aload_n 0, 1) :: (24, .getfield 25, 3) :: (27, .iload_n 1, 1) :: (28, .iload_n 1, 1) :: (29, .aload_n 0, 1) :: (30, .getfield 28, 3) :: (33, .getfield 99, 3) :: (36, .if_icmp .ge 14, 3) :: (39, .aload_n 0, 1) :: (40, .getfield 28, 3) :: (43, .iload_n 1, 1) :: (44, .invokevirtual 102, 3) :: (47, .goto 4, 3) :: []
theorem o_X10_keepBest_18 : Chn cX10_keepBest B_X10_keepBest_18 := chn_of _ (by decide +kernel)
def B_X10_keepBest_0 : Blk := (0, .aload_n 0, 1) :: (1, .iconst 1, 1) :: (2, .putfield 47, 3) :: (5, .aload_n 0, 1) :: (6, .aload_n 0, 1) :: (7, .getfield 28, 3) :: (10, .invokevirtual 83, 3) :: (13, .putfield 43, 3) :: (16, .iconst 0, 1) :: (17, .istore_n 1, 1) :: B_X10_keepBest_18
theorem o_X10_keepBest_0 : Chn cX10_keepBest B_X10_keepBest_0 := chn_app ((0, .aload_n 0, 1) :: (1, .iconst 1, 1) :: (2, .putfield 47, 3) :: (5, .aload_n 0, 1) :: (6, .aload_n 0, 1) :: (7, .getfield 28, 3) :: (10, .invokevirtual 83, 3) :: (13, .putfield 43, 3) :: (16, .iconst 0, 1) :: (17, .istore_n 1, 1) :: []) o_X10_keepBest_18 (by decide +kernel)
theorem fl_10_47 : FLk RX10 47 10 10 1 false := ⟨RX10, TX10, 12, "IntegerHouse$Searcher", "hasBest", "Z", rfl, by decide, rfl, Or.inl (allW_in (kT_3 _ (List.mem_of_getElem? (i := 84) rfl)) rfl), rfl, (fun h => absurd h (by decide)), (fun _ => rfl), (fun h => absurd h (by decide)), (fun h => absurd h (by decide))⟩
theorem ml_10_83 : MLk RX10 83 yX9_goalDown := Or.inl (allW_in (kT_8 _ (List.mem_of_getElem? (i := 23) rfl)) rfl)
theorem fl_10_99 : FLk RX10 99 9 12 0 false := ⟨RX9, TX9, 14, "IntegerHouse$Relaxer", "variables", "I", rfl, by decide, rfl, Or.inr ⟨"IntegerHouse", List.mem_of_getElem? (i := 38) rfl⟩, rfl, (fun _ => rfl), (fun h => absurd h (by decide)), (fun h => absurd h (by decide)), (fun h => absurd h (by decide))⟩
theorem ml_10_102 : MLk RX10 102 yX9_down := Or.inl (allW_in (kT_8 _ (List.mem_of_getElem? (i := 39) rfl)) rfl)
abbrev cX10_halve : ByteArray := prog_12_method_9_code
def yX10_halve : MethodName := ⟨RX10, "halve", "(I)Z"⟩
def M_X10_halve : MT := (yX10_halve, cX10_halve, 4, (some .boolean), RX10, 1)
theorem mk_X10_halve : MokV M_X10_halve 10 1 := ⟨⟨⟨by decide, by decide, rfl⟩, (allW_in (kT_8 _ (List.mem_of_getElem? (i := 46) rfl)) rfl), (allW_in (kT_1 _ (List.mem_of_getElem? (i := 15) rfl)) rfl), by decide⟩, ⟨TX10, 12, rfl⟩, (allW_in (kT_8 _ (List.mem_of_getElem? (i := 45) rfl)) rfl), (allW_in (kTs_8 _ (List.mem_of_getElem? (i := 3) rfl)) rfl)⟩
def B_X10_halve_27 : Blk := (27, .aload_n 0, 1) :: (28, .aload_n 0, 1) :: (29, .getfield 28, 3) :: (32, .getfield 59, 3) :: (35, .iload_n 1, 1) :: (36, .iconst (-1), 1) :: (37, .lload_n 2, 1) :: (38, .lconst 1, 1) :: (39, .ladd, 1) :: (40, .lneg, 1) :: (41, .invokevirtual 64, 3) :: (44, .aload_n 0, 1) :: (45, .aload_n 0, 1) :: (46, .getfield 28, 3) :: (49, .getfield 59, 3) :: (52, .iload_n 1, 1) :: (53, .iconst 1, 1) :: (54, .lload_n 2, 1) :: (55, .invokevirtual 64, 3) :: (58, .iconst 1, 1) :: (59, .ireturn, 1) :: []
theorem o_X10_halve_27 : Chn cX10_halve B_X10_halve_27 := chn_of _ (by decide +kernel)
def B_X10_halve_25 : Blk := (25, .iconst 0, 1) :: (26, .ireturn, 1) :: []
theorem o_X10_halve_25 : Chn cX10_halve B_X10_halve_25 := chn_of _ (by decide +kernel)
def B_X10_halve_0 : Blk := (0, .aload_n 0, 1) :: (1, .getfield 28, 3) :: (4, .iload_n 1, 1) :: (5, .invokevirtual 102, 3) :: (8, .lstore_n 2, 1) :: (9, .lload_n 2, 1) :: (10, .invokestatic 106, 3) :: (13, .ifCond .eq 12, 3) :: (16, .lload_n 2, 1) :: (17, .lconst 1, 1) :: (18, .ladd, 1) :: (19, .invokestatic 106, 3) :: (22, .ifCond .ne 5, 3) :: B_X10_halve_25
theorem o_X10_halve_0 : Chn cX10_halve B_X10_halve_0 := chn_app ((0, .aload_n 0, 1) :: (1, .getfield 28, 3) :: (4, .iload_n 1, 1) :: (5, .invokevirtual 102, 3) :: (8, .lstore_n 2, 1) :: (9, .lload_n 2, 1) :: (10, .invokestatic 106, 3) :: (13, .ifCond .eq 12, 3) :: (16, .lload_n 2, 1) :: (17, .lconst 1, 1) :: (18, .ladd, 1) :: (19, .invokestatic 106, 3) :: (22, .ifCond .ne 5, 3) :: []) o_X10_halve_25 (by decide +kernel)
theorem ml_10_106 : MLk RX10 106 yX9_isLimit := Or.inl (allW_in (kT_8 _ (List.mem_of_getElem? (i := 47) rfl)) rfl)
theorem ml_10_64 : MLk RX10 64 yX10_lay := Or.inl (allW_in (kT_8 _ (List.mem_of_getElem? (i := 6) rfl)) rfl)
abbrev cX10_look : ByteArray := prog_12_method_7_code
def yX10_look : MethodName := ⟨RX10, "look", "(I)Z"⟩
def M_X10_look : MT := (yX10_look, cX10_look, 5, (some .boolean), RX10, 1)
theorem mk_X10_look : MokV M_X10_look 10 1 := ⟨⟨⟨by decide, by decide, rfl⟩, (allW_in (kT_8 _ (List.mem_of_getElem? (i := 21) rfl)) rfl), (allW_in (kT_1 _ (List.mem_of_getElem? (i := 15) rfl)) rfl), by decide⟩, ⟨TX10, 12, rfl⟩, (allW_in (kT_8 _ (List.mem_of_getElem? (i := 20) rfl)) rfl), (allW_in (kTs_8 _ (List.mem_of_getElem? (i := 1) rfl)) rfl)⟩
def B_X10_look_121 : Blk := (121, .iconst 1, 1) :: (122, .ireturn, 1) :: []
theorem o_X10_look_121 : Chn cX10_look B_X10_look_121 := chn_of _ (by decide +kernel)
def B_X10_look_105 : Blk := (105, .aload_n 0, 1) :: (106, .dup, 1) :: (107, .getfield 40, 3) :: (110, .iconst 1, 1) :: (111, .iadd, 1) :: (112, .putfield 40, 3) :: (115, .iinc 2 1, 3) :: (118, .goto (-116), 3) :: []
theorem o_X10_look_105 : Chn cX10_look B_X10_look_105 := chn_of _ (by decide +kernel)
def B_X10_look_91 : Blk := (91, .aload_n 0, 1) :: (92, .getfield 28, 3) :: (95, .iload 4, 2) :: (97, .invokevirtual 96, 3) :: (100, .ifCond .ne 5, 3) :: (103, .iconst 0, 1) :: (104, .ireturn, 1) :: []
theorem o_X10_look_91 : Chn cX10_look B_X10_look_91 := chn_of _ (by decide +kernel)
def B_X10_look_84 : Blk := (84, .aload_n 0, 1) :: (85, .iload 4, 2) :: (87, .invokevirtual 93, 3) :: (90, .ireturn, 1) :: []
theorem o_X10_look_84 : Chn cX10_look B_X10_look_84 := chn_of _ (by decide +kernel)
def B_X10_look_75 : Blk := (75, .iload_n 1, 1) :: (76, .ifCond .eq 8, 3) :: (79, .iload_n 2, 1) :: (80, .iconst 3, 1) :: (81, .if_icmp .ne 10, 3) :: B_X10_look_84
theorem o_X10_look_75 : Chn cX10_look B_X10_look_75 := chn_app ((75, .iload_n 1, 1) :: (76, .ifCond .eq 8, 3) :: (79, .iload_n 2, 1) :: (80, .iconst 3, 1) :: (81, .if_icmp .ne 10, 3) :: []) o_X10_look_84 (by decide +kernel)
def B_X10_look_54 : Blk := (54, .aload_n 0, 1) :: (55, .getfield 28, 3) :: (58, .invokevirtual 87, 3) :: (61, .istore 4, 2) :: (63, .iload 4, 2) :: (65, .iconst (-1), 1) :: (66, .if_icmp .ne 9, 3) :: (69, .aload_n 0, 1) :: (70, .invokevirtual 90, 3) :: (73, .iconst 1, 1) :: (74, .ireturn, 1) :: []
theorem o_X10_look_54 : Chn cX10_look B_X10_look_54 := chn_of _ (by decide +kernel)
def B_X10_look_30 : Blk := (30, .aload_n 0, 1) :: (31, .getfield 47, 3) :: (34, .ifCond .eq 20, 3) :: (37, .aload_n 0, 1) :: (38, .getfield 28, 3) :: (41, .invokevirtual 83, 3) :: (44, .aload_n 0, 1) :: (45, .getfield 43, 3) :: (48, .lcmp, 1) :: (49, .ifCond .gt 5, 3) :: (52, .iconst 1, 1) :: (53, .ireturn, 1) :: []
theorem o_X10_look_30 : Chn cX10_look B_X10_look_30 := chn_of _ (by decide +kernel)
def B_X10_look_29 : Blk := (29, .ireturn, 1) :: []
theorem o_X10_look_29 : Chn cX10_look B_X10_look_29 := chn_of _ (by decide +kernel)
def B_X10_look_28 : Blk := (28, .iconst 0, 1) :: B_X10_look_29
theorem o_X10_look_28 : Chn cX10_look B_X10_look_28 := chn_app ((28, .iconst 0, 1) :: []) o_X10_look_29 (by decide +kernel)
def B_X10_look_2 : Blk := (2, .iload_n 2, 1) :: (3, .iconst 3, 1) :: (4, .if_icmp .gt 117, 3) :: (7, .aload_n 0, 1) :: (8, .getfield 28, 3) :: (11, .invokevirtual 79, 3) :: (14, .istore_n 3, 1) :: (15, .iload_n 3, 1) :: (16, .iconst 1, 1) :: (17, .if_icmp .eq 13, 3) :: (20, .iload_n 3, 1) :: (21, .ifCond .ne 7, 3) :: (24, .iconst 1, 1) :: (25, .goto 4, 3) :: []
theorem o_X10_look_2 : Chn cX10_look B_X10_look_2 := chn_of _ (by decide +kernel)
def B_X10_look_0 : Blk := (0, .iconst 0, 1) :: (1, .istore_n 2, 1) :: B_X10_look_2
theorem o_X10_look_0 : Chn cX10_look B_X10_look_0 := chn_app ((0, .iconst 0, 1) :: (1, .istore_n 2, 1) :: []) o_X10_look_2 (by decide +kernel)
theorem ml_10_79 : MLk RX10 79 yX9_solve := Or.inl (allW_in (kT_8 _ (List.mem_of_getElem? (i := 22) rfl)) rfl)
theorem ml_10_87 : MLk RX10 87 yX9_firstBroken := Or.inl (allW_in (kT_8 _ (List.mem_of_getElem? (i := 30) rfl)) rfl)
theorem ml_10_93 : MLk RX10 93 yX10_halve := Or.inl (allW_in (kT_8 _ (List.mem_of_getElem? (i := 43) rfl)) rfl)
theorem ml_10_96 : MLk RX10 96 yX9_addCut := Or.inl (allW_in (kT_8 _ (List.mem_of_getElem? (i := 52) rfl)) rfl)
theorem ml_10_90 : MLk RX10 90 yX10_keepBest := Or.inl (allW_in (kT_8 _ (List.mem_of_getElem? (i := 35) rfl)) rfl)
abbrev cX10_run : ByteArray := prog_12_method_4_code
def yX10_run : MethodName := ⟨RX10, "run", "(II)I"⟩
def M_X10_run : MT := (yX10_run, cX10_run, 4, (some .int), RX10, 1)
theorem mk_X10_run : MokV M_X10_run 10 2 := ⟨⟨⟨by decide, by decide, rfl⟩, (allW_in (kT_8 _ (List.mem_of_getElem? (i := 4) rfl)) rfl), (allW_in (kT_1 _ (List.mem_of_getElem? (i := 15) rfl)) rfl), by decide⟩, ⟨TX10, 12, rfl⟩, (allW_in (kT_8 _ (List.mem_of_getElem? (i := 2) rfl)) rfl), (allW_in (kT_8 _ (List.mem_of_getElem? (i := 3) rfl)) rfl)⟩
def B_X10_run_118 : Blk := (118, .ireturn, 1) :: []
theorem o_X10_run_118 : Chn cX10_run B_X10_run_118 := chn_of _ (by decide +kernel)
def B_X10_run_117 : Blk := (117, .iconst 0, 1) :: B_X10_run_118
theorem o_X10_run_117 : Chn cX10_run B_X10_run_117 := chn_app ((117, .iconst 0, 1) :: []) o_X10_run_118 (by decide +kernel)
def B_X10_run_106 : Blk := (106, .aload_n 0, 1) :: (107, .getfield 47, 3) :: (110, .ifCond .eq 7, 3) :: (113, .iconst 1, 1) :: (114, .goto 4, 3) :: []
theorem o_X10_run_106 : Chn cX10_run B_X10_run_106 := chn_of _ (by decide +kernel)
def B_X10_run_95 : Blk := (95, .aload_n 0, 1) :: (96, .getfield 56, 3) :: (99, .ifCond .le 7, 3) :: (102, .iconst 2, 1) :: (103, .goto 15, 3) :: []
theorem o_X10_run_95 : Chn cX10_run B_X10_run_95 := chn_of _ (by decide +kernel)
def B_X10_run_89 : Blk := (89, .iinc 3 1, 3) :: (92, .goto (-38), 3) :: []
theorem o_X10_run_89 : Chn cX10_run B_X10_run_89 := chn_of _ (by decide +kernel)
def B_X10_run_54 : Blk := (54, .iload_n 3, 1) :: (55, .bipush 100, 2) :: (57, .if_icmp .ge 38, 3) :: (60, .aload_n 0, 1) :: (61, .getfield 56, 3) :: (64, .ifCond .le 31, 3) :: (67, .aload_n 0, 1) :: (68, .getfield 36, 3) :: (71, .iload_n 2, 1) :: (72, .if_icmp .ge 23, 3) :: (75, .aload_n 0, 1) :: (76, .invokevirtual 68, 3) :: (79, .aload_n 0, 1) :: (80, .iload_n 1, 1) :: (81, .invokevirtual 71, 3) :: (84, .ifCond .ne 5, 3) :: (87, .iconst 3, 1) :: (88, .ireturn, 1) :: []
theorem o_X10_run_54 : Chn cX10_run B_X10_run_54 := chn_of _ (by decide +kernel)
def B_X10_run_0 : Blk := (0, .aload_n 0, 1) :: (1, .iconst 1, 1) :: (2, .putfield 32, 3) :: (5, .aload_n 0, 1) :: (6, .iconst 0, 1) :: (7, .putfield 36, 3) :: (10, .aload_n 0, 1) :: (11, .iconst 0, 1) :: (12, .putfield 40, 3) :: (15, .aload_n 0, 1) :: (16, .lconst 0, 1) :: (17, .putfield 43, 3) :: (20, .aload_n 0, 1) :: (21, .iconst 0, 1) :: (22, .putfield 47, 3) :: (25, .aload_n 0, 1) :: (26, .getfield 25, 3) :: (29, .lconst 0, 1) :: (30, .invokestatic 50, 3) :: (33, .aload_n 0, 1) :: (34, .iconst 0, 1) :: (35, .putfield 56, 3) :: (38, .aload_n 0, 1) :: (39, .aload_n 0, 1) :: (40, .getfield 28, 3) :: (43, .getfield 59, 3) :: (46, .iconst (-1), 1) :: (47, .iconst 0, 1) :: (48, .lconst 0, 1) :: (49, .invokevirtual 64, 3) :: (52, .iconst 0, 1) :: (53, .istore_n 3, 1) :: B_X10_run_54
theorem o_X10_run_0 : Chn cX10_run B_X10_run_0 := chn_app ((0, .aload_n 0, 1) :: (1, .iconst 1, 1) :: (2, .putfield 32, 3) :: (5, .aload_n 0, 1) :: (6, .iconst 0, 1) :: (7, .putfield 36, 3) :: (10, .aload_n 0, 1) :: (11, .iconst 0, 1) :: (12, .putfield 40, 3) :: (15, .aload_n 0, 1) :: (16, .lconst 0, 1) :: (17, .putfield 43, 3) :: (20, .aload_n 0, 1) :: (21, .iconst 0, 1) :: (22, .putfield 47, 3) :: (25, .aload_n 0, 1) :: (26, .getfield 25, 3) :: (29, .lconst 0, 1) :: (30, .invokestatic 50, 3) :: (33, .aload_n 0, 1) :: (34, .iconst 0, 1) :: (35, .putfield 56, 3) :: (38, .aload_n 0, 1) :: (39, .aload_n 0, 1) :: (40, .getfield 28, 3) :: (43, .getfield 59, 3) :: (46, .iconst (-1), 1) :: (47, .iconst 0, 1) :: (48, .lconst 0, 1) :: (49, .invokevirtual 64, 3) :: (52, .iconst 0, 1) :: (53, .istore_n 3, 1) :: []) o_X10_run_54 (by decide +kernel)
theorem ml_10_50 : MLk RX10 50 yJ7_fill_d0a16 := Or.inl (allW_in (kT_8 _ (List.mem_of_getElem? (i := 5) rfl)) rfl)
theorem ml_10_68 : MLk RX10 68 yX10_take := Or.inl (allW_in (kT_8 _ (List.mem_of_getElem? (i := 10) rfl)) rfl)
theorem ml_10_71 : MLk RX10 71 yX10_look := Or.inl (allW_in (kT_8 _ (List.mem_of_getElem? (i := 18) rfl)) rfl)
abbrev cX11_feedOne : ByteArray := prog_1_method_3_code
def yX11_feedOne : MethodName := ⟨RX11, "feedOne", "(I)V"⟩
def M_X11_feedOne : MT := (yX11_feedOne, cX11_feedOne, 3, none, RX11, 0)
theorem mk_X11_feedOne : MokV M_X11_feedOne 11 1 := ⟨⟨⟨by decide, by decide, rfl⟩, (allW_in (kT_9 _ (List.mem_of_getElem? (i := 18) rfl)) rfl), (allW_in (kT_1 _ (List.mem_of_getElem? (i := 1) rfl)) rfl), by decide⟩, ⟨TX11, 15, rfl⟩, (allW_in (kT_9 _ (List.mem_of_getElem? (i := 17) rfl)) rfl), (allW_in (kTs_9 _ (List.mem_of_getElem? (i := 7) rfl)) rfl)⟩
def B_X11_feedOne_53 : Blk := (53, .return_, 1) :: []
theorem o_X11_feedOne_53 : Chn cX11_feedOne B_X11_feedOne_53 := chn_of _ (by decide +kernel)
def B_X11_feedOne_47 : Blk := (47, .iinc 2 (-8), 3) :: (50, .goto (-47), 3) :: []
theorem o_X11_feedOne_47 : Chn cX11_feedOne B_X11_feedOne_47 := chn_of _ (by decide +kernel)
def B_X11_feedOne_3 : Blk := (3, .iload_n 2, 1) :: (4, .ifCond .lt 49, 3) :: (7, .aload_n 0, 1) :: (8, .getfield 102, 3) :: (11, .ifCond .lt 36, 3) :: (14, .aload_n 0, 1) :: (15, .getfield 102, 3) :: (18, .sipush 2000, 3) :: (21, .if_icmp .ge 26, 3) :: (24, .aload_n 0, 1) :: (25, .getfield 9, 3) :: (28, .aload_n 0, 1) :: (29, .getfield 102, 3) :: (32, .iload_n 1, 1) :: (33, .iload_n 2, 1) :: (34, .ishr, 1) :: (35, .i2b, 1) :: (36, .bastore, 1) :: (37, .aload_n 0, 1) :: (38, .dup, 1) :: (39, .getfield 102, 3) :: (42, .iconst 1, 1) :: (43, .iadd, 1) :: (44, .putfield 102, 3) :: B_X11_feedOne_47
theorem o_X11_feedOne_3 : Chn cX11_feedOne B_X11_feedOne_3 := chn_app ((3, .iload_n 2, 1) :: (4, .ifCond .lt 49, 3) :: (7, .aload_n 0, 1) :: (8, .getfield 102, 3) :: (11, .ifCond .lt 36, 3) :: (14, .aload_n 0, 1) :: (15, .getfield 102, 3) :: (18, .sipush 2000, 3) :: (21, .if_icmp .ge 26, 3) :: (24, .aload_n 0, 1) :: (25, .getfield 9, 3) :: (28, .aload_n 0, 1) :: (29, .getfield 102, 3) :: (32, .iload_n 1, 1) :: (33, .iload_n 2, 1) :: (34, .ishr, 1) :: (35, .i2b, 1) :: (36, .bastore, 1) :: (37, .aload_n 0, 1) :: (38, .dup, 1) :: (39, .getfield 102, 3) :: (42, .iconst 1, 1) :: (43, .iadd, 1) :: (44, .putfield 102, 3) :: []) o_X11_feedOne_47 (by decide +kernel)
def B_X11_feedOne_0 : Blk := (0, .bipush 24, 2) :: (2, .istore_n 2, 1) :: B_X11_feedOne_3
theorem o_X11_feedOne_0 : Chn cX11_feedOne B_X11_feedOne_0 := chn_app ((0, .bipush 24, 2) :: (2, .istore_n 2, 1) :: []) o_X11_feedOne_3 (by decide +kernel)
theorem fl_11_102 : FLk RX11 102 11 12 0 false := ⟨RX11, TX11, 15, "IntegerHouse", "tapeLength", "I", rfl, by decide, rfl, Or.inl (allW_in (kT_3 _ (List.mem_of_getElem? (i := 183) rfl)) rfl), rfl, (fun _ => rfl), (fun h => absurd h (by decide)), (fun h => absurd h (by decide)), (fun h => absurd h (by decide))⟩
theorem fl_11_9 : FLk RX11 9 11 0 3 true := ⟨RX11, TX11, 15, "IntegerHouse", "tape", "[B", rfl, by decide, rfl, Or.inl (allW_in (kT_3 _ (List.mem_of_getElem? (i := 171) rfl)) rfl), rfl, (fun h => absurd h (by decide)), (fun h => absurd h (by decide)), (fun h => absurd h (by decide)), (fun h => absurd h (by decide))⟩
abbrev cX11_sync : ByteArray := prog_1_method_5_code
def yX11_sync : MethodName := ⟨RX11, "sync", "()I"⟩
def M_X11_sync : MT := (yX11_sync, cX11_sync, 1, (some .int), RX11, 1)
theorem mk_X11_sync : MokV M_X11_sync 11 0 := ⟨⟨⟨by decide, by decide, rfl⟩, (allW_in (kT_3 _ (List.mem_of_getElem? (i := 220) rfl)) rfl), (allW_in (kT_1 _ (List.mem_of_getElem? (i := 1) rfl)) rfl), by decide⟩, ⟨TX11, 15, rfl⟩, (allW_in (kT_3 _ (List.mem_of_getElem? (i := 218) rfl)) rfl), (allW_in (kT_3 _ (List.mem_of_getElem? (i := 219) rfl)) rfl)⟩
def B_X11_sync_22 : Blk := (22, .ireturn, 1) :: []
theorem o_X11_sync_22 : Chn cX11_sync B_X11_sync_22 := chn_of _ (by decide +kernel)
def B_X11_sync_15 : Blk := (15, .aload_n 0, 1) :: (16, .getfield 16, 3) :: (19, .invokevirtual 126, 3) :: B_X11_sync_22
theorem o_X11_sync_15 : Chn cX11_sync B_X11_sync_15 := chn_app ((15, .aload_n 0, 1) :: (16, .getfield 16, 3) :: (19, .invokevirtual 126, 3) :: []) o_X11_sync_22 (by decide +kernel)
def B_X11_sync_0 : Blk := (0, .aload_n 0, 1) :: (1, .getfield 16, 3) :: (4, .getfield 122, 3) :: (7, .ifCond .eq 8, 3) :: (10, .bipush (-105), 2) :: (12, .goto 10, 3) :: []
theorem o_X11_sync_0 : Chn cX11_sync B_X11_sync_0 := chn_of _ (by decide +kernel)
theorem fl_11_16 : FLk RX11 16 11 1 3 true := ⟨RX11, TX11, 15, "IntegerHouse", "disk", "LIntegerHouse$Disk;", rfl, by decide, rfl, Or.inl (allW_in (kT_3 _ (List.mem_of_getElem? (i := 172) rfl)) rfl), rfl, (fun h => absurd h (by decide)), (fun h => absurd h (by decide)), (fun h => absurd h (by decide)), (fun h => absurd h (by decide))⟩
theorem fl_11_122 : FLk RX11 122 1 8 1 false := ⟨RX1, TX1, 9, "IntegerHouse$Disk", "down", "Z", rfl, by decide, rfl, Or.inr ⟨"IntegerHouse", List.mem_of_getElem? (i := 3) rfl⟩, rfl, (fun h => absurd h (by decide)), (fun _ => rfl), (fun h => absurd h (by decide)), (fun h => absurd h (by decide))⟩
theorem ml_11_126 : MLk RX11 126 yX1_writeAll := Or.inl (allW_in (kT_3 _ (List.mem_of_getElem? (i := 221) rfl)) rfl)
abbrev cX11_cut : ByteArray := prog_1_method_6_code
def yX11_cut : MethodName := ⟨RX11, "cut", "(II)I"⟩
def M_X11_cut : MT := (yX11_cut, cX11_cut, 3, (some .int), RX11, 1)
theorem mk_X11_cut : MokV M_X11_cut 11 2 := ⟨⟨⟨by decide, by decide, rfl⟩, (allW_in (kT_4 _ (List.mem_of_getElem? (i := 10) rfl)) rfl), (allW_in (kT_1 _ (List.mem_of_getElem? (i := 1) rfl)) rfl), by decide⟩, ⟨TX11, 15, rfl⟩, (allW_in (kT_4 _ (List.mem_of_getElem? (i := 8) rfl)) rfl), (allW_in (kT_4 _ (List.mem_of_getElem? (i := 9) rfl)) rfl)⟩
def B_X11_cut_39 : Blk := (39, .aload_n 0, 1) :: (40, .getfield 16, 3) :: (43, .iload_n 1, 1) :: (44, .iload_n 2, 1) :: (45, .invokevirtual 130, 3) :: (48, .iconst 1, 1) :: (49, .ireturn, 1) :: []
theorem o_X11_cut_39 : Chn cX11_cut B_X11_cut_39 := chn_of _ (by decide +kernel)
def B_X11_cut_36 : Blk := (36, .bipush (-102), 2) :: (38, .ireturn, 1) :: []
theorem o_X11_cut_36 : Chn cX11_cut B_X11_cut_36 := chn_of _ (by decide +kernel)
def B_X11_cut_13 : Blk := (13, .iload_n 1, 1) :: (14, .iconst (-1), 1) :: (15, .if_icmp .lt 21, 3) :: (18, .iload_n 1, 1) :: (19, .sipush 2000, 3) :: (22, .if_icmp .gt 14, 3) :: (25, .iload_n 2, 1) :: (26, .ifCond .lt 10, 3) :: (29, .iload_n 2, 1) :: (30, .sipush 255, 3) :: (33, .if_icmp .le 6, 3) :: B_X11_cut_36
theorem o_X11_cut_13 : Chn cX11_cut B_X11_cut_13 := chn_app ((13, .iload_n 1, 1) :: (14, .iconst (-1), 1) :: (15, .if_icmp .lt 21, 3) :: (18, .iload_n 1, 1) :: (19, .sipush 2000, 3) :: (22, .if_icmp .gt 14, 3) :: (25, .iload_n 2, 1) :: (26, .ifCond .lt 10, 3) :: (29, .iload_n 2, 1) :: (30, .sipush 255, 3) :: (33, .if_icmp .le 6, 3) :: []) o_X11_cut_36 (by decide +kernel)
def B_X11_cut_0 : Blk := (0, .aload_n 0, 1) :: (1, .getfield 16, 3) :: (4, .getfield 122, 3) :: (7, .ifCond .eq 6, 3) :: (10, .bipush (-105), 2) :: (12, .ireturn, 1) :: []
theorem o_X11_cut_0 : Chn cX11_cut B_X11_cut_0 := chn_of _ (by decide +kernel)
theorem ml_11_130 : MLk RX11 130 yX1_setCut := Or.inl (allW_in (kT_4 _ (List.mem_of_getElem? (i := 11) rfl)) rfl)


abbrev cX11_verify : ByteArray := prog_1_method_9_code
def yX11_verify : MethodName := ⟨RX11, "verify", "()I"⟩
def M_X11_verify : MT := (yX11_verify, cX11_verify, 1, (some .int), RX11, 1)
theorem mk_X11_verify : MokV M_X11_verify 11 0 := ⟨⟨⟨by decide, by decide, rfl⟩, (allW_in (kT_5 _ (List.mem_of_getElem? (i := 175) rfl)) rfl), (allW_in (kT_1 _ (List.mem_of_getElem? (i := 1) rfl)) rfl), by decide⟩, ⟨TX11, 15, rfl⟩, (allW_in (kT_5 _ (List.mem_of_getElem? (i := 173) rfl)) rfl), (allW_in (kT_5 _ (List.mem_of_getElem? (i := 174) rfl)) rfl)⟩
def B_X11_verify_22 : Blk := (22, .ireturn, 1) :: []
theorem o_X11_verify_22 : Chn cX11_verify B_X11_verify_22 := chn_of _ (by decide +kernel)
def B_X11_verify_15 : Blk := (15, .aload_n 0, 1) :: (16, .getfield 16, 3) :: (19, .invokevirtual 191, 3) :: B_X11_verify_22
theorem o_X11_verify_15 : Chn cX11_verify B_X11_verify_15 := chn_app ((15, .aload_n 0, 1) :: (16, .getfield 16, 3) :: (19, .invokevirtual 191, 3) :: []) o_X11_verify_22 (by decide +kernel)
def B_X11_verify_0 : Blk := (0, .aload_n 0, 1) :: (1, .getfield 16, 3) :: (4, .getfield 122, 3) :: (7, .ifCond .eq 8, 3) :: (10, .bipush (-105), 2) :: (12, .goto 10, 3) :: []
theorem o_X11_verify_0 : Chn cX11_verify B_X11_verify_0 := chn_of _ (by decide +kernel)
theorem ml_11_191 : MLk RX11 191 yX1_firstWrong := Or.inl (allW_in (kT_5 _ (List.mem_of_getElem? (i := 176) rfl)) rfl)
abbrev cX11_count : ByteArray := prog_1_method_12_code
def yX11_count : MethodName := ⟨RX11, "count", "(I)I"⟩
def M_X11_count : MT := (yX11_count, cX11_count, 2, (some .int), RX11, 1)
theorem mk_X11_count : MokV M_X11_count 11 1 := ⟨⟨⟨by decide, by decide, rfl⟩, (allW_in (kT_5 _ (List.mem_of_getElem? (i := 183) rfl)) rfl), (allW_in (kT_1 _ (List.mem_of_getElem? (i := 1) rfl)) rfl), by decide⟩, ⟨TX11, 15, rfl⟩, (allW_in (kT_5 _ (List.mem_of_getElem? (i := 181) rfl)) rfl), (allW_in (kT_5 _ (List.mem_of_getElem? (i := 182) rfl)) rfl)⟩
def B_X11_count_128 : Blk := (128, .iconst (-1), 1) :: (129, .ireturn, 1) :: []
theorem o_X11_count_128 : Chn cX11_count B_X11_count_128 := chn_of _ (by decide +kernel)
def B_X11_count_123 : Blk := (123, .aload_n 0, 1) :: (124, .getfield 137, 3) :: (127, .ireturn, 1) :: []
theorem o_X11_count_123 : Chn cX11_count B_X11_count_123 := chn_of _ (by decide +kernel)
def B_X11_count_115 : Blk := (115, .aload_n 0, 1) :: (116, .getfield 16, 3) :: (119, .getfield 227, 3) :: (122, .ireturn, 1) :: []
theorem o_X11_count_115 : Chn cX11_count B_X11_count_115 := chn_of _ (by decide +kernel)
def B_X11_count_107 : Blk := (107, .aload_n 0, 1) :: (108, .getfield 16, 3) :: (111, .getfield 224, 3) :: (114, .ireturn, 1) :: []
theorem o_X11_count_107 : Chn cX11_count B_X11_count_107 := chn_of _ (by decide +kernel)
def B_X11_count_99 : Blk := (99, .aload_n 0, 1) :: (100, .getfield 23, 3) :: (103, .getfield 221, 3) :: (106, .ireturn, 1) :: []
theorem o_X11_count_99 : Chn cX11_count B_X11_count_99 := chn_of _ (by decide +kernel)
def B_X11_count_88 : Blk := (88, .aload_n 0, 1) :: (89, .getfield 23, 3) :: (92, .getfield 213, 3) :: (95, .invokestatic 216, 3) :: (98, .ireturn, 1) :: []
theorem o_X11_count_88 : Chn cX11_count B_X11_count_88 := chn_of _ (by decide +kernel)
def B_X11_count_80 : Blk := (80, .aload_n 0, 1) :: (81, .getfield 23, 3) :: (84, .getfield 160, 3) :: (87, .ireturn, 1) :: []
theorem o_X11_count_80 : Chn cX11_count B_X11_count_80 := chn_of _ (by decide +kernel)
def B_X11_count_72 : Blk := (72, .aload_n 0, 1) :: (73, .getfield 23, 3) :: (76, .getfield 210, 3) :: (79, .ireturn, 1) :: []
theorem o_X11_count_72 : Chn cX11_count B_X11_count_72 := chn_of _ (by decide +kernel)
def B_X11_count_23 : Blk := (23, .iload_n 1, 1) :: (24, .tableswitch 104 0 7 #[48, 56, 64, 75, 104, 83, 91, 99], 48) :: []
theorem o_X11_count_23 : Chn cX11_count B_X11_count_23 := chn_of _ (by decide +kernel)
def B_X11_count_10 : Blk := (10, .aload_n 0, 1) :: (11, .getfield 16, 3) :: (14, .getfield 122, 3) :: (17, .ifCond .eq 6, 3) :: (20, .bipush (-105), 2) :: (22, .ireturn, 1) :: []
theorem o_X11_count_10 : Chn cX11_count B_X11_count_10 := chn_of _ (by decide +kernel)
def B_X11_count_0 : Blk := (0, .iload_n 1, 1) :: (1, .iconst 4, 1) :: (2, .if_icmp .ne 8, 3) :: (5, .aload_n 0, 1) :: (6, .getfield 102, 3) :: (9, .ireturn, 1) :: []
theorem o_X11_count_0 : Chn cX11_count B_X11_count_0 := chn_of _ (by decide +kernel)
theorem fl_11_23 : FLk RX11 23 11 2 3 true := ⟨RX11, TX11, 15, "IntegerHouse", "house", "LIntegerHouse$House;", rfl, by decide, rfl, Or.inl (allW_in (kT_3 _ (List.mem_of_getElem? (i := 173) rfl)) rfl), rfl, (fun h => absurd h (by decide)), (fun h => absurd h (by decide)), (fun h => absurd h (by decide)), (fun h => absurd h (by decide))⟩
theorem fl_11_210 : FLk RX11 210 2 10 0 false := ⟨RX2, TX2, 16, "IntegerHouse$House", "variables", "I", rfl, by decide, rfl, Or.inr ⟨"IntegerHouse", List.mem_of_getElem? (i := 10) rfl⟩, rfl, (fun _ => rfl), (fun h => absurd h (by decide)), (fun h => absurd h (by decide)), (fun h => absurd h (by decide))⟩
theorem fl_11_160 : FLk RX11 160 2 11 0 false := ⟨RX2, TX2, 16, "IntegerHouse$House", "claims", "I", rfl, by decide, rfl, Or.inr ⟨"IntegerHouse", List.mem_of_getElem? (i := 13) rfl⟩, rfl, (fun _ => rfl), (fun h => absurd h (by decide)), (fun h => absurd h (by decide)), (fun h => absurd h (by decide))⟩
theorem fl_11_213 : FLk RX11 213 2 13 0 false := ⟨RX2, TX2, 16, "IntegerHouse$House", "on", "I", rfl, by decide, rfl, Or.inr ⟨"IntegerHouse", List.mem_of_getElem? (i := 20) rfl⟩, rfl, (fun _ => rfl), (fun h => absurd h (by decide)), (fun h => absurd h (by decide)), (fun h => absurd h (by decide))⟩
theorem ml_11_216 : MLk RX11 216 yJ6_bitCount_0f7a4 := Or.inl (allW_in (kT_5 _ (List.mem_of_getElem? (i := 184) rfl)) rfl)
theorem fl_11_221 : FLk RX11 221 2 14 0 false := ⟨RX2, TX2, 16, "IntegerHouse$House", "layers", "I", rfl, by decide, rfl, Or.inr ⟨"IntegerHouse", List.mem_of_getElem? (i := 22) rfl⟩, rfl, (fun _ => rfl), (fun h => absurd h (by decide)), (fun h => absurd h (by decide)), (fun h => absurd h (by decide))⟩
theorem fl_11_224 : FLk RX11 224 1 4 0 false := ⟨RX1, TX1, 9, "IntegerHouse$Disk", "waiting", "I", rfl, by decide, rfl, Or.inr ⟨"IntegerHouse", List.mem_of_getElem? (i := 1) rfl⟩, rfl, (fun _ => rfl), (fun h => absurd h (by decide)), (fun h => absurd h (by decide)), (fun h => absurd h (by decide))⟩
theorem fl_11_227 : FLk RX11 227 1 5 0 false := ⟨RX1, TX1, 9, "IntegerHouse$Disk", "used", "I", rfl, by decide, rfl, Or.inr ⟨"IntegerHouse", List.mem_of_getElem? (i := 2) rfl⟩, rfl, (fun _ => rfl), (fun h => absurd h (by decide)), (fun h => absurd h (by decide)), (fun h => absurd h (by decide))⟩
theorem fl_11_137 : FLk RX11 137 11 14 0 false := ⟨RX11, TX11, 15, "IntegerHouse", "acts", "I", rfl, by decide, rfl, Or.inl (allW_in (kT_3 _ (List.mem_of_getElem? (i := 185) rfl)) rfl), rfl, (fun _ => rfl), (fun h => absurd h (by decide)), (fun h => absurd h (by decide)), (fun h => absurd h (by decide))⟩
abbrev cX11_useTape : ByteArray := prog_1_method_14_code
def yX11_useTape : MethodName := ⟨RX11, "useTape", "()I"⟩
def M_X11_useTape : MT := (yX11_useTape, cX11_useTape, 2, (some .int), RX11, 1)
theorem mk_X11_useTape : MokV M_X11_useTape 11 0 := ⟨⟨⟨by decide, by decide, rfl⟩, (allW_in (kT_5 _ (List.mem_of_getElem? (i := 197) rfl)) rfl), (allW_in (kT_1 _ (List.mem_of_getElem? (i := 1) rfl)) rfl), by decide⟩, ⟨TX11, 15, rfl⟩, (allW_in (kT_5 _ (List.mem_of_getElem? (i := 196) rfl)) rfl), (allW_in (kTs_4 _ (List.mem_of_getElem? (i := 9) rfl)) rfl)⟩
def B_X11_useTape_0 : Blk := (0, .aload_n 0, 1) :: (1, .getfield 102, 3) :: (4, .istore_n 1, 1) :: (5, .aload_n 0, 1) :: (6, .iconst 0, 1) :: (7, .putfield 102, 3) :: (10, .iload_n 1, 1) :: (11, .ireturn, 1) :: []
theorem o_X11_useTape_0 : Chn cX11_useTape B_X11_useTape_0 := chn_of _ (by decide +kernel)
abbrev cX11_faulted : ByteArray := prog_1_method_15_code
def yX11_faulted : MethodName := ⟨RX11, "faulted", "()I"⟩
def M_X11_faulted : MT := (yX11_faulted, cX11_faulted, 1, (some .int), RX11, 1)
theorem mk_X11_faulted : MokV M_X11_faulted 11 0 := ⟨⟨⟨by decide, by decide, rfl⟩, (allW_in (kT_5 _ (List.mem_of_getElem? (i := 201) rfl)) rfl), (allW_in (kT_1 _ (List.mem_of_getElem? (i := 1) rfl)) rfl), by decide⟩, ⟨TX11, 15, rfl⟩, (allW_in (kT_5 _ (List.mem_of_getElem? (i := 200) rfl)) rfl), (allW_in (kTs_4 _ (List.mem_of_getElem? (i := 10) rfl)) rfl)⟩
def B_X11_faulted_0 : Blk := (0, .aload_n 0, 1) :: (1, .aload_n 0, 1) :: (2, .getfield 48, 3) :: (5, .getfield 250, 3) :: (8, .putfield 253, 3) :: (11, .sipush (-1000), 3) :: (14, .aload_n 0, 1) :: (15, .getfield 48, 3) :: (18, .getfield 256, 3) :: (21, .isub, 1) :: (22, .ireturn, 1) :: []
theorem o_X11_faulted_0 : Chn cX11_faulted B_X11_faulted_0 := chn_of _ (by decide +kernel)
theorem fl_11_48 : FLk RX11 48 11 5 3 true := ⟨RX11, TX11, 15, "IntegerHouse", "reader", "LIntegerHouse$Reader;", rfl, by decide, rfl, Or.inl (allW_in (kT_3 _ (List.mem_of_getElem? (i := 176) rfl)) rfl), rfl, (fun h => absurd h (by decide)), (fun h => absurd h (by decide)), (fun h => absurd h (by decide)), (fun h => absurd h (by decide))⟩
theorem fl_11_250 : FLk RX11 250 8 3 0 false := ⟨RX8, TX8, 15, "IntegerHouse$Reader", "faultKind", "I", rfl, by decide, rfl, Or.inr ⟨"IntegerHouse", List.mem_of_getElem? (i := 27) rfl⟩, rfl, (fun _ => rfl), (fun h => absurd h (by decide)), (fun h => absurd h (by decide)), (fun h => absurd h (by decide))⟩
theorem fl_11_253 : FLk RX11 253 11 13 0 false := ⟨RX11, TX11, 15, "IntegerHouse", "latestFault", "I", rfl, by decide, rfl, Or.inl (allW_in (kT_3 _ (List.mem_of_getElem? (i := 184) rfl)) rfl), rfl, (fun _ => rfl), (fun h => absurd h (by decide)), (fun h => absurd h (by decide)), (fun h => absurd h (by decide))⟩
theorem fl_11_256 : FLk RX11 256 8 4 0 false := ⟨RX8, TX8, 15, "IntegerHouse$Reader", "faultPlace", "I", rfl, by decide, rfl, Or.inr ⟨"IntegerHouse", List.mem_of_getElem? (i := 28) rfl⟩, rfl, (fun _ => rfl), (fun h => absurd h (by decide)), (fun h => absurd h (by decide)), (fun h => absurd h (by decide))⟩
abbrev cX11_fault : ByteArray := prog_1_method_16_code
def yX11_fault : MethodName := ⟨RX11, "fault", "()I"⟩
def M_X11_fault : MT := (yX11_fault, cX11_fault, 1, (some .int), RX11, 1)
theorem mk_X11_fault : MokV M_X11_fault 11 0 := ⟨⟨⟨by decide, by decide, rfl⟩, (allW_in (kT_5 _ (List.mem_of_getElem? (i := 214) rfl)) rfl), (allW_in (kT_1 _ (List.mem_of_getElem? (i := 1) rfl)) rfl), by decide⟩, ⟨TX11, 15, rfl⟩, (allW_in (kT_5 _ (List.mem_of_getElem? (i := 212) rfl)) rfl), (allW_in (kT_5 _ (List.mem_of_getElem? (i := 213) rfl)) rfl)⟩
def B_X11_fault_0 : Blk := (0, .aload_n 0, 1) :: (1, .getfield 253, 3) :: (4, .ireturn, 1) :: []
theorem o_X11_fault_0 : Chn cX11_fault B_X11_fault_0 := chn_of _ (by decide +kernel)
abbrev cX11_on : ByteArray := prog_1_method_17_code
def yX11_on : MethodName := ⟨RX11, "on", "(IZ)I"⟩
def M_X11_on : MT := (yX11_on, cX11_on, 4, (some .int), RX11, 1)
theorem mk_X11_on : MokV M_X11_on 11 2 := ⟨⟨⟨by decide, by decide, rfl⟩, (allW_in (kT_5 _ (List.mem_of_getElem? (i := 218) rfl)) rfl), (allW_in (kT_1 _ (List.mem_of_getElem? (i := 1) rfl)) rfl), by decide⟩, ⟨TX11, 15, rfl⟩, (allW_in (kT_5 _ (List.mem_of_getElem? (i := 216) rfl)) rfl), (allW_in (kT_5 _ (List.mem_of_getElem? (i := 217) rfl)) rfl)⟩
def B_X11_on_80 : Blk := (80, .ireturn, 1) :: []
theorem o_X11_on_80 : Chn cX11_on B_X11_on_80 := chn_of _ (by decide +kernel)
def B_X11_on_79 : Blk := (79, .iconst 0, 1) :: B_X11_on_80
theorem o_X11_on_79 : Chn cX11_on B_X11_on_79 := chn_app ((79, .iconst 0, 1) :: []) o_X11_on_80 (by decide +kernel)
def B_X11_on_42 : Blk := (42, .aload_n 0, 1) :: (43, .getfield 23, 3) :: (46, .iload_n 1, 1) :: (47, .iload_n 2, 1) :: (48, .invokevirtual 180, 3) :: (51, .istore_n 3, 1) :: (52, .aload_n 0, 1) :: (53, .getfield 16, 3) :: (56, .iload_n 1, 1) :: (57, .iload_n 2, 1) :: (58, .invokevirtual 259, 3) :: (61, .aload_n 0, 1) :: (62, .dup, 1) :: (63, .getfield 137, 3) :: (66, .iconst 1, 1) :: (67, .iadd, 1) :: (68, .putfield 137, 3) :: (71, .iload_n 3, 1) :: (72, .ifCond .eq 7, 3) :: (75, .iconst 1, 1) :: (76, .goto 4, 3) :: []
theorem o_X11_on_42 : Chn cX11_on B_X11_on_42 := chn_of _ (by decide +kernel)
def B_X11_on_27 : Blk := (27, .aload_n 0, 1) :: (28, .getfield 16, 3) :: (31, .bipush 9, 2) :: (33, .invokevirtual 239, 3) :: (36, .ifCond .ne 6, 3) :: (39, .bipush (-104), 2) :: (41, .ireturn, 1) :: []
theorem o_X11_on_27 : Chn cX11_on B_X11_on_27 := chn_of _ (by decide +kernel)
def B_X11_on_13 : Blk := (13, .aload_n 0, 1) :: (14, .getfield 23, 3) :: (17, .iload_n 1, 1) :: (18, .invokevirtual 176, 3) :: (21, .ifCond .ne 6, 3) :: (24, .bipush (-101), 2) :: (26, .ireturn, 1) :: []
theorem o_X11_on_13 : Chn cX11_on B_X11_on_13 := chn_of _ (by decide +kernel)
def B_X11_on_0 : Blk := (0, .aload_n 0, 1) :: (1, .getfield 16, 3) :: (4, .getfield 122, 3) :: (7, .ifCond .eq 6, 3) :: (10, .bipush (-105), 2) :: (12, .ireturn, 1) :: []
theorem o_X11_on_0 : Chn cX11_on B_X11_on_0 := chn_of _ (by decide +kernel)
theorem ml_11_176 : MLk RX11 176 yX2_isClaim := Or.inl (allW_in (kT_5 _ (List.mem_of_getElem? (i := 152) rfl)) rfl)
theorem ml_11_239 : MLk RX11 239 yX1_hasRoom := Or.inl (allW_in (kT_5 _ (List.mem_of_getElem? (i := 202) rfl)) rfl)
theorem ml_11_180 : MLk RX11 180 yX2_turn := Or.inl (allW_in (kT_5 _ (List.mem_of_getElem? (i := 156) rfl)) rfl)
theorem ml_11_259 : MLk RX11 259 yX1_recordOn := Or.inl (allW_in (kT_5 _ (List.mem_of_getElem? (i := 219) rfl)) rfl)
abbrev cX11_push : ByteArray := prog_1_method_18_code
def yX11_push : MethodName := ⟨RX11, "push", "()I"⟩
def M_X11_push : MT := (yX11_push, cX11_push, 1, (some .int), RX11, 1)
theorem mk_X11_push : MokV M_X11_push 11 0 := ⟨⟨⟨by decide, by decide, rfl⟩, (allW_in (kT_5 _ (List.mem_of_getElem? (i := 230) rfl)) rfl), (allW_in (kT_1 _ (List.mem_of_getElem? (i := 1) rfl)) rfl), by decide⟩, ⟨TX11, 15, rfl⟩, (allW_in (kT_5 _ (List.mem_of_getElem? (i := 228) rfl)) rfl), (allW_in (kT_5 _ (List.mem_of_getElem? (i := 229) rfl)) rfl)⟩
def B_X11_push_39 : Blk := (39, .aload_n 0, 1) :: (40, .getfield 23, 3) :: (43, .invokevirtual 184, 3) :: (46, .pop, 1) :: (47, .aload_n 0, 1) :: (48, .getfield 16, 3) :: (51, .iconst 3, 1) :: (52, .invokevirtual 263, 3) :: (55, .aload_n 0, 1) :: (56, .dup, 1) :: (57, .getfield 137, 3) :: (60, .iconst 1, 1) :: (61, .iadd, 1) :: (62, .putfield 137, 3) :: (65, .aload_n 0, 1) :: (66, .getfield 23, 3) :: (69, .getfield 221, 3) :: (72, .ireturn, 1) :: []
theorem o_X11_push_39 : Chn cX11_push B_X11_push_39 := chn_of _ (by decide +kernel)
def B_X11_push_36 : Blk := (36, .bipush (-104), 2) :: (38, .ireturn, 1) :: []
theorem o_X11_push_36 : Chn cX11_push B_X11_push_36 := chn_of _ (by decide +kernel)
def B_X11_push_13 : Blk := (13, .aload_n 0, 1) :: (14, .getfield 23, 3) :: (17, .getfield 221, 3) :: (20, .bipush 8, 2) :: (22, .if_icmp .ge 14, 3) :: (25, .aload_n 0, 1) :: (26, .getfield 16, 3) :: (29, .iconst 1, 1) :: (30, .invokevirtual 239, 3) :: (33, .ifCond .ne 6, 3) :: B_X11_push_36
theorem o_X11_push_13 : Chn cX11_push B_X11_push_13 := chn_app ((13, .aload_n 0, 1) :: (14, .getfield 23, 3) :: (17, .getfield 221, 3) :: (20, .bipush 8, 2) :: (22, .if_icmp .ge 14, 3) :: (25, .aload_n 0, 1) :: (26, .getfield 16, 3) :: (29, .iconst 1, 1) :: (30, .invokevirtual 239, 3) :: (33, .ifCond .ne 6, 3) :: []) o_X11_push_36 (by decide +kernel)
def B_X11_push_0 : Blk := (0, .aload_n 0, 1) :: (1, .getfield 16, 3) :: (4, .getfield 122, 3) :: (7, .ifCond .eq 6, 3) :: (10, .bipush (-105), 2) :: (12, .ireturn, 1) :: []
theorem o_X11_push_0 : Chn cX11_push B_X11_push_0 := chn_of _ (by decide +kernel)
theorem ml_11_184 : MLk RX11 184 yX2_addLayer := Or.inl (allW_in (kT_5 _ (List.mem_of_getElem? (i := 160) rfl)) rfl)
theorem ml_11_263 : MLk RX11 263 yX1_recordAct := Or.inl (allW_in (kT_5 _ (List.mem_of_getElem? (i := 231) rfl)) rfl)
abbrev cX11_pop : ByteArray := prog_1_method_19_code
def yX11_pop : MethodName := ⟨RX11, "pop", "()I"⟩
def M_X11_pop : MT := (yX11_pop, cX11_pop, 1, (some .int), RX11, 1)
theorem mk_X11_pop : MokV M_X11_pop 11 0 := ⟨⟨⟨by decide, by decide, rfl⟩, (allW_in (kT_5 _ (List.mem_of_getElem? (i := 238) rfl)) rfl), (allW_in (kT_1 _ (List.mem_of_getElem? (i := 1) rfl)) rfl), by decide⟩, ⟨TX11, 15, rfl⟩, (allW_in (kT_5 _ (List.mem_of_getElem? (i := 236) rfl)) rfl), (allW_in (kT_5 _ (List.mem_of_getElem? (i := 237) rfl)) rfl)⟩
def B_X11_pop_40 : Blk := (40, .aload_n 0, 1) :: (41, .getfield 23, 3) :: (44, .invokevirtual 188, 3) :: (47, .pop, 1) :: (48, .aload_n 0, 1) :: (49, .getfield 16, 3) :: (52, .iconst 4, 1) :: (53, .invokevirtual 263, 3) :: (56, .aload_n 0, 1) :: (57, .dup, 1) :: (58, .getfield 137, 3) :: (61, .iconst 1, 1) :: (62, .iadd, 1) :: (63, .putfield 137, 3) :: (66, .aload_n 0, 1) :: (67, .getfield 23, 3) :: (70, .getfield 221, 3) :: (73, .ireturn, 1) :: []
theorem o_X11_pop_40 : Chn cX11_pop B_X11_pop_40 := chn_of _ (by decide +kernel)
def B_X11_pop_26 : Blk := (26, .aload_n 0, 1) :: (27, .getfield 16, 3) :: (30, .iconst 1, 1) :: (31, .invokevirtual 239, 3) :: (34, .ifCond .ne 6, 3) :: (37, .bipush (-104), 2) :: (39, .ireturn, 1) :: []
theorem o_X11_pop_26 : Chn cX11_pop B_X11_pop_26 := chn_of _ (by decide +kernel)
def B_X11_pop_13 : Blk := (13, .aload_n 0, 1) :: (14, .getfield 23, 3) :: (17, .getfield 221, 3) :: (20, .ifCond .ne 6, 3) :: (23, .bipush (-103), 2) :: (25, .ireturn, 1) :: []
theorem o_X11_pop_13 : Chn cX11_pop B_X11_pop_13 := chn_of _ (by decide +kernel)
def B_X11_pop_0 : Blk := (0, .aload_n 0, 1) :: (1, .getfield 16, 3) :: (4, .getfield 122, 3) :: (7, .ifCond .eq 6, 3) :: (10, .bipush (-105), 2) :: (12, .ireturn, 1) :: []
theorem o_X11_pop_0 : Chn cX11_pop B_X11_pop_0 := chn_of _ (by decide +kernel)
theorem ml_11_188 : MLk RX11 188 yX2_leaveLayer := Or.inl (allW_in (kT_5 _ (List.mem_of_getElem? (i := 164) rfl)) rfl)
abbrev cX11_find : ByteArray := prog_1_method_20_code
def yX11_find : MethodName := ⟨RX11, "find", "()I"⟩
def M_X11_find : MT := (yX11_find, cX11_find, 2, (some .int), RX11, 1)
theorem mk_X11_find : MokV M_X11_find 11 0 := ⟨⟨⟨by decide, by decide, rfl⟩, (allW_in (kT_6 _ (List.mem_of_getElem? (i := 2) rfl)) rfl), (allW_in (kT_1 _ (List.mem_of_getElem? (i := 1) rfl)) rfl), by decide⟩, ⟨TX11, 15, rfl⟩, (allW_in (kT_6 _ (List.mem_of_getElem? (i := 0) rfl)) rfl), (allW_in (kT_6 _ (List.mem_of_getElem? (i := 1) rfl)) rfl)⟩
def B_X11_find_42 : Blk := (42, .ireturn, 1) :: []
theorem o_X11_find_42 : Chn cX11_find B_X11_find_42 := chn_of _ (by decide +kernel)
def B_X11_find_41 : Blk := (41, .iload_n 1, 1) :: B_X11_find_42
theorem o_X11_find_41 : Chn cX11_find B_X11_find_41 := chn_app ((41, .iload_n 1, 1) :: []) o_X11_find_42 (by decide +kernel)
def B_X11_find_13 : Blk := (13, .aload_n 0, 1) :: (14, .getfield 48, 3) :: (17, .aload_n 0, 1) :: (18, .getfield 9, 3) :: (21, .aload_n 0, 1) :: (22, .invokevirtual 230, 3) :: (25, .invokevirtual 266, 3) :: (28, .istore_n 1, 1) :: (29, .iload_n 1, 1) :: (30, .iconst (-1), 1) :: (31, .if_icmp .ne 10, 3) :: (34, .aload_n 0, 1) :: (35, .invokevirtual 236, 3) :: (38, .goto 4, 3) :: []
theorem o_X11_find_13 : Chn cX11_find B_X11_find_13 := chn_of _ (by decide +kernel)
def B_X11_find_0 : Blk := (0, .aload_n 0, 1) :: (1, .getfield 16, 3) :: (4, .getfield 122, 3) :: (7, .ifCond .eq 6, 3) :: (10, .bipush (-105), 2) :: (12, .ireturn, 1) :: []
theorem o_X11_find_0 : Chn cX11_find B_X11_find_0 := chn_of _ (by decide +kernel)
theorem ml_11_230 : MLk RX11 230 yX11_useTape := Or.inl (allW_in (kT_5 _ (List.mem_of_getElem? (i := 194) rfl)) rfl)
theorem ml_11_266 : MLk RX11 266 yX8_readName := Or.inl (allW_in (kT_6 _ (List.mem_of_getElem? (i := 3) rfl)) rfl)
theorem ml_11_236 : MLk RX11 236 yX11_faulted := Or.inl (allW_in (kT_5 _ (List.mem_of_getElem? (i := 198) rfl)) rfl)
abbrev cX11_about : ByteArray := prog_1_method_21_code
def yX11_about : MethodName := ⟨RX11, "about", "(II)I"⟩
def M_X11_about : MT := (yX11_about, cX11_about, 3, (some .int), RX11, 1)
theorem mk_X11_about : MokV M_X11_about 11 2 := ⟨⟨⟨by decide, by decide, rfl⟩, (allW_in (kT_6 _ (List.mem_of_getElem? (i := 10) rfl)) rfl), (allW_in (kT_1 _ (List.mem_of_getElem? (i := 1) rfl)) rfl), by decide⟩, ⟨TX11, 15, rfl⟩, (allW_in (kT_6 _ (List.mem_of_getElem? (i := 8) rfl)) rfl), (allW_in (kT_6 _ (List.mem_of_getElem? (i := 9) rfl)) rfl)⟩
def B_X11_about_131 : Blk := (131, .iconst (-1), 1) :: (132, .ireturn, 1) :: []
theorem o_X11_about_131 : Chn cX11_about B_X11_about_131 := chn_of _ (by decide +kernel)
def B_X11_about_121 : Blk := (121, .aload_n 0, 1) :: (122, .getfield 23, 3) :: (125, .iload_n 1, 1) :: (126, .iconst 0, 1) :: (127, .invokevirtual 270, 3) :: (130, .ireturn, 1) :: []
theorem o_X11_about_121 : Chn cX11_about B_X11_about_121 := chn_of _ (by decide +kernel)
def B_X11_about_110 : Blk := (110, .aload_n 0, 1) :: (111, .getfield 23, 3) :: (114, .iload_n 1, 1) :: (115, .bipush 8, 2) :: (117, .invokevirtual 270, 3) :: (120, .ireturn, 1) :: []
theorem o_X11_about_110 : Chn cX11_about B_X11_about_110 := chn_of _ (by decide +kernel)
def B_X11_about_100 : Blk := (100, .aload_n 0, 1) :: (101, .getfield 23, 3) :: (104, .iload_n 1, 1) :: (105, .iconst 5, 1) :: (106, .invokevirtual 270, 3) :: (109, .ireturn, 1) :: []
theorem o_X11_about_100 : Chn cX11_about B_X11_about_100 := chn_of _ (by decide +kernel)
def B_X11_about_90 : Blk := (90, .aload_n 0, 1) :: (91, .getfield 23, 3) :: (94, .iload_n 1, 1) :: (95, .iconst 3, 1) :: (96, .invokevirtual 270, 3) :: (99, .ireturn, 1) :: []
theorem o_X11_about_90 : Chn cX11_about B_X11_about_90 := chn_of _ (by decide +kernel)
def B_X11_about_80 : Blk := (80, .aload_n 0, 1) :: (81, .getfield 23, 3) :: (84, .iload_n 1, 1) :: (85, .iconst 4, 1) :: (86, .invokevirtual 270, 3) :: (89, .ireturn, 1) :: []
theorem o_X11_about_80 : Chn cX11_about B_X11_about_80 := chn_of _ (by decide +kernel)
def B_X11_about_68 : Blk := (68, .aload_n 0, 1) :: (69, .getfield 23, 3) :: (72, .getfield 213, 3) :: (75, .iload_n 1, 1) :: (76, .iushr, 1) :: (77, .iconst 1, 1) :: (78, .iand, 1) :: (79, .ireturn, 1) :: []
theorem o_X11_about_68 : Chn cX11_about B_X11_about_68 := chn_of _ (by decide +kernel)
def B_X11_about_27 : Blk := (27, .iload_n 2, 1) :: (28, .tableswitch 103 0 5 #[40, 52, 62, 72, 82, 93], 40) :: []
theorem o_X11_about_27 : Chn cX11_about B_X11_about_27 := chn_of _ (by decide +kernel)
def B_X11_about_13 : Blk := (13, .aload_n 0, 1) :: (14, .getfield 23, 3) :: (17, .iload_n 1, 1) :: (18, .invokevirtual 176, 3) :: (21, .ifCond .ne 6, 3) :: (24, .bipush (-101), 2) :: (26, .ireturn, 1) :: []
theorem o_X11_about_13 : Chn cX11_about B_X11_about_13 := chn_of _ (by decide +kernel)
def B_X11_about_0 : Blk := (0, .aload_n 0, 1) :: (1, .getfield 16, 3) :: (4, .getfield 122, 3) :: (7, .ifCond .eq 6, 3) :: (10, .bipush (-105), 2) :: (12, .ireturn, 1) :: []
theorem o_X11_about_0 : Chn cX11_about B_X11_about_0 := chn_of _ (by decide +kernel)
theorem ml_11_270 : MLk RX11 270 yX2_fact := Or.inl (allW_in (kT_6 _ (List.mem_of_getElem? (i := 11) rfl)) rfl)
abbrev cX11_atom : ByteArray := prog_1_method_22_code
def yX11_atom : MethodName := ⟨RX11, "atom", "(III)I"⟩
def M_X11_atom : MT := (yX11_atom, cX11_atom, 4, (some .int), RX11, 1)
theorem mk_X11_atom : MokV M_X11_atom 11 3 := ⟨⟨⟨by decide, by decide, rfl⟩, (allW_in (kT_6 _ (List.mem_of_getElem? (i := 15) rfl)) rfl), (allW_in (kT_1 _ (List.mem_of_getElem? (i := 1) rfl)) rfl), by decide⟩, ⟨TX11, 15, rfl⟩, (allW_in (kT_6 _ (List.mem_of_getElem? (i := 13) rfl)) rfl), (allW_in (kT_6 _ (List.mem_of_getElem? (i := 14) rfl)) rfl)⟩
def B_X11_atom_56 : Blk := (56, .aload_n 0, 1) :: (57, .getfield 23, 3) :: (60, .aload_n 0, 1) :: (61, .getfield 23, 3) :: (64, .iload_n 1, 1) :: (65, .iload_n 2, 1) :: (66, .invokevirtual 273, 3) :: (69, .iload_n 3, 1) :: (70, .invokevirtual 276, 3) :: (73, .ireturn, 1) :: []
theorem o_X11_atom_56 : Chn cX11_atom B_X11_atom_56 := chn_of _ (by decide +kernel)
def B_X11_atom_53 : Blk := (53, .bipush (-102), 2) :: (55, .ireturn, 1) :: []
theorem o_X11_atom_53 : Chn cX11_atom B_X11_atom_53 := chn_of _ (by decide +kernel)
def B_X11_atom_27 : Blk := (27, .iload_n 2, 1) :: (28, .ifCond .lt 25, 3) :: (31, .iload_n 2, 1) :: (32, .aload_n 0, 1) :: (33, .getfield 23, 3) :: (36, .iload_n 1, 1) :: (37, .iconst 4, 1) :: (38, .invokevirtual 270, 3) :: (41, .if_icmp .ge 12, 3) :: (44, .iload_n 3, 1) :: (45, .ifCond .lt 8, 3) :: (48, .iload_n 3, 1) :: (49, .iconst 5, 1) :: (50, .if_icmp .le 6, 3) :: B_X11_atom_53
theorem o_X11_atom_27 : Chn cX11_atom B_X11_atom_27 := chn_app ((27, .iload_n 2, 1) :: (28, .ifCond .lt 25, 3) :: (31, .iload_n 2, 1) :: (32, .aload_n 0, 1) :: (33, .getfield 23, 3) :: (36, .iload_n 1, 1) :: (37, .iconst 4, 1) :: (38, .invokevirtual 270, 3) :: (41, .if_icmp .ge 12, 3) :: (44, .iload_n 3, 1) :: (45, .ifCond .lt 8, 3) :: (48, .iload_n 3, 1) :: (49, .iconst 5, 1) :: (50, .if_icmp .le 6, 3) :: []) o_X11_atom_53 (by decide +kernel)
def B_X11_atom_13 : Blk := (13, .aload_n 0, 1) :: (14, .getfield 23, 3) :: (17, .iload_n 1, 1) :: (18, .invokevirtual 176, 3) :: (21, .ifCond .ne 6, 3) :: (24, .bipush (-101), 2) :: (26, .ireturn, 1) :: []
theorem o_X11_atom_13 : Chn cX11_atom B_X11_atom_13 := chn_of _ (by decide +kernel)
def B_X11_atom_0 : Blk := (0, .aload_n 0, 1) :: (1, .getfield 16, 3) :: (4, .getfield 122, 3) :: (7, .ifCond .eq 6, 3) :: (10, .bipush (-105), 2) :: (12, .ireturn, 1) :: []
theorem o_X11_atom_0 : Chn cX11_atom B_X11_atom_0 := chn_of _ (by decide +kernel)
theorem ml_11_273 : MLk RX11 273 yX2_atomOf := Or.inl (allW_in (kT_6 _ (List.mem_of_getElem? (i := 16) rfl)) rfl)
theorem ml_11_276 : MLk RX11 276 yX2_pooled := Or.inl (allW_in (kT_6 _ (List.mem_of_getElem? (i := 17) rfl)) rfl)
abbrev cX11_printed : ByteArray := prog_1_method_24_code
def yX11_printed : MethodName := ⟨RX11, "printed", "(I)I"⟩
def M_X11_printed : MT := (yX11_printed, cX11_printed, 2, (some .int), RX11, 1)
theorem mk_X11_printed : MokV M_X11_printed 11 1 := ⟨⟨⟨by decide, by decide, rfl⟩, (allW_in (kT_6 _ (List.mem_of_getElem? (i := 75) rfl)) rfl), (allW_in (kT_1 _ (List.mem_of_getElem? (i := 1) rfl)) rfl), by decide⟩, ⟨TX11, 15, rfl⟩, (allW_in (kT_6 _ (List.mem_of_getElem? (i := 73) rfl)) rfl), (allW_in (kT_6 _ (List.mem_of_getElem? (i := 74) rfl)) rfl)⟩
def B_X11_printed_0 : Blk := (0, .aload_n 0, 1) :: (1, .getfield 23, 3) :: (4, .iload_n 1, 1) :: (5, .invokevirtual 283, 3) :: (8, .ireturn, 1) :: []
theorem o_X11_printed_0 : Chn cX11_printed B_X11_printed_0 := chn_of _ (by decide +kernel)
theorem ml_11_283 : MLk RX11 283 yX2_shownByte := Or.inl (allW_in (kT_6 _ (List.mem_of_getElem? (i := 76) rfl)) rfl)
abbrev cX11_isFar : ByteArray := prog_1_method_26_code
def yX11_isFar : MethodName := ⟨RX11, "isFar", "(IJ)Z"⟩
def M_X11_isFar : MT := (yX11_isFar, cX11_isFar, 4, (some .boolean), RX11, 1)
theorem mk_X11_isFar : MokV M_X11_isFar 11 2 := ⟨⟨⟨by decide, by decide, rfl⟩, (allW_in (kT_6 _ (List.mem_of_getElem? (i := 87) rfl)) rfl), (allW_in (kT_1 _ (List.mem_of_getElem? (i := 1) rfl)) rfl), by decide⟩, ⟨TX11, 15, rfl⟩, (allW_in (kT_6 _ (List.mem_of_getElem? (i := 86) rfl)) rfl), (allW_in (kTs_5 _ (List.mem_of_getElem? (i := 2) rfl)) rfl)⟩
def B_X11_isFar_32 : Blk := (32, .ireturn, 1) :: []
theorem o_X11_isFar_32 : Chn cX11_isFar B_X11_isFar_32 := chn_of _ (by decide +kernel)
def B_X11_isFar_31 : Blk := (31, .iconst 0, 1) :: B_X11_isFar_32
theorem o_X11_isFar_31 : Chn cX11_isFar B_X11_isFar_31 := chn_app ((31, .iconst 0, 1) :: []) o_X11_isFar_32 (by decide +kernel)
def B_X11_isFar_27 : Blk := (27, .iconst 1, 1) :: (28, .goto 4, 3) :: []
theorem o_X11_isFar_27 : Chn cX11_isFar B_X11_isFar_27 := chn_of _ (by decide +kernel)
def B_X11_isFar_0 : Blk := (0, .iload_n 1, 1) :: (1, .aload_n 0, 1) :: (2, .getfield 23, 3) :: (5, .getfield 210, 3) :: (8, .if_icmp .ge 23, 3) :: (11, .lload_n 2, 1) :: (12, .ldc2_w 294, 3) :: (15, .lcmp, 1) :: (16, .ifCond .gt 11, 3) :: (19, .lload_n 2, 1) :: (20, .ldc2_w 296, 3) :: (23, .lcmp, 1) :: (24, .ifCond .ge 7, 3) :: B_X11_isFar_27
theorem o_X11_isFar_0 : Chn cX11_isFar B_X11_isFar_0 := chn_app ((0, .iload_n 1, 1) :: (1, .aload_n 0, 1) :: (2, .getfield 23, 3) :: (5, .getfield 210, 3) :: (8, .if_icmp .ge 23, 3) :: (11, .lload_n 2, 1) :: (12, .ldc2_w 294, 3) :: (15, .lcmp, 1) :: (16, .ifCond .gt 11, 3) :: (19, .lload_n 2, 1) :: (20, .ldc2_w 296, 3) :: (23, .lcmp, 1) :: (24, .ifCond .ge 7, 3) :: []) o_X11_isFar_27 (by decide +kernel)
abbrev cX11_holds : ByteArray := prog_1_method_25_code
def yX11_holds : MethodName := ⟨RX11, "holds", "(IJJJJ)I"⟩
def M_X11_holds : MT := (yX11_holds, cX11_holds, 10, (some .int), RX11, 1)
theorem mk_X11_holds : MokV M_X11_holds 11 5 := ⟨⟨⟨by decide, by decide, rfl⟩, (allW_in (kT_6 _ (List.mem_of_getElem? (i := 83) rfl)) rfl), (allW_in (kT_1 _ (List.mem_of_getElem? (i := 1) rfl)) rfl), by decide⟩, ⟨TX11, 15, rfl⟩, (allW_in (kT_6 _ (List.mem_of_getElem? (i := 81) rfl)) rfl), (allW_in (kT_6 _ (List.mem_of_getElem? (i := 82) rfl)) rfl)⟩
def B_X11_holds_92 : Blk := (92, .ireturn, 1) :: []
theorem o_X11_holds_92 : Chn cX11_holds B_X11_holds_92 := chn_of _ (by decide +kernel)
def B_X11_holds_91 : Blk := (91, .iconst 0, 1) :: B_X11_holds_92
theorem o_X11_holds_91 : Chn cX11_holds B_X11_holds_91 := chn_app ((91, .iconst 0, 1) :: []) o_X11_holds_92 (by decide +kernel)
def B_X11_holds_69 : Blk := (69, .aload_n 0, 1) :: (70, .getfield 64, 3) :: (73, .iload_n 1, 1) :: (74, .lload_n 2, 1) :: (75, .lload 4, 2) :: (77, .lload 6, 2) :: (79, .lload 8, 2) :: (81, .invokevirtual 290, 3) :: (84, .ifCond .eq 7, 3) :: (87, .iconst 1, 1) :: (88, .goto 4, 3) :: []
theorem o_X11_holds_69 : Chn cX11_holds B_X11_holds_69 := chn_of _ (by decide +kernel)
def B_X11_holds_66 : Blk := (66, .bipush (-102), 2) :: (68, .ireturn, 1) :: []
theorem o_X11_holds_66 : Chn cX11_holds B_X11_holds_66 := chn_of _ (by decide +kernel)
def B_X11_holds_27 : Blk := (27, .aload_n 0, 1) :: (28, .iconst 0, 1) :: (29, .lload_n 2, 1) :: (30, .invokevirtual 286, 3) :: (33, .ifCond .ne 33, 3) :: (36, .aload_n 0, 1) :: (37, .iconst 1, 1) :: (38, .lload 4, 2) :: (40, .invokevirtual 286, 3) :: (43, .ifCond .ne 23, 3) :: (46, .aload_n 0, 1) :: (47, .iconst 2, 1) :: (48, .lload 6, 2) :: (50, .invokevirtual 286, 3) :: (53, .ifCond .ne 13, 3) :: (56, .aload_n 0, 1) :: (57, .iconst 3, 1) :: (58, .lload 8, 2) :: (60, .invokevirtual 286, 3) :: (63, .ifCond .eq 6, 3) :: B_X11_holds_66
theorem o_X11_holds_27 : Chn cX11_holds B_X11_holds_27 := chn_app ((27, .aload_n 0, 1) :: (28, .iconst 0, 1) :: (29, .lload_n 2, 1) :: (30, .invokevirtual 286, 3) :: (33, .ifCond .ne 33, 3) :: (36, .aload_n 0, 1) :: (37, .iconst 1, 1) :: (38, .lload 4, 2) :: (40, .invokevirtual 286, 3) :: (43, .ifCond .ne 23, 3) :: (46, .aload_n 0, 1) :: (47, .iconst 2, 1) :: (48, .lload 6, 2) :: (50, .invokevirtual 286, 3) :: (53, .ifCond .ne 13, 3) :: (56, .aload_n 0, 1) :: (57, .iconst 3, 1) :: (58, .lload 8, 2) :: (60, .invokevirtual 286, 3) :: (63, .ifCond .eq 6, 3) :: []) o_X11_holds_66 (by decide +kernel)
def B_X11_holds_13 : Blk := (13, .aload_n 0, 1) :: (14, .getfield 23, 3) :: (17, .iload_n 1, 1) :: (18, .invokevirtual 176, 3) :: (21, .ifCond .ne 6, 3) :: (24, .bipush (-101), 2) :: (26, .ireturn, 1) :: []
theorem o_X11_holds_13 : Chn cX11_holds B_X11_holds_13 := chn_of _ (by decide +kernel)
def B_X11_holds_0 : Blk := (0, .aload_n 0, 1) :: (1, .getfield 16, 3) :: (4, .getfield 122, 3) :: (7, .ifCond .eq 6, 3) :: (10, .bipush (-105), 2) :: (12, .ireturn, 1) :: []
theorem o_X11_holds_0 : Chn cX11_holds B_X11_holds_0 := chn_of _ (by decide +kernel)
theorem ml_11_286 : MLk RX11 286 yX11_isFar := Or.inl (allW_in (kT_6 _ (List.mem_of_getElem? (i := 84) rfl)) rfl)
theorem fl_11_64 : FLk RX11 64 11 7 3 true := ⟨RX11, TX11, 15, "IntegerHouse", "answers", "LIntegerHouse$Answers;", rfl, by decide, rfl, Or.inl (allW_in (kT_3 _ (List.mem_of_getElem? (i := 178) rfl)) rfl), rfl, (fun h => absurd h (by decide)), (fun h => absurd h (by decide)), (fun h => absurd h (by decide)), (fun h => absurd h (by decide))⟩
theorem ml_11_290 : MLk RX11 290 yX0_isSoFor := Or.inl (allW_in (kT_6 _ (List.mem_of_getElem? (i := 90) rfl)) rfl)
abbrev cX11_decide : ByteArray := prog_1_method_27_code
def yX11_decide : MethodName := ⟨RX11, "decide", "()I"⟩
def M_X11_decide : MT := (yX11_decide, cX11_decide, 1, (some .int), RX11, 1)
theorem mk_X11_decide : MokV M_X11_decide 11 0 := ⟨⟨⟨by decide, by decide, rfl⟩, (allW_in (kT_6 _ (List.mem_of_getElem? (i := 126) rfl)) rfl), (allW_in (kT_1 _ (List.mem_of_getElem? (i := 1) rfl)) rfl), by decide⟩, ⟨TX11, 15, rfl⟩, (allW_in (kT_6 _ (List.mem_of_getElem? (i := 124) rfl)) rfl), (allW_in (kT_6 _ (List.mem_of_getElem? (i := 125) rfl)) rfl)⟩
def B_X11_decide_56 : Blk := (56, .ireturn, 1) :: []
theorem o_X11_decide_56 : Chn cX11_decide B_X11_decide_56 := chn_of _ (by decide +kernel)
def B_X11_decide_55 : Blk := (55, .iconst 0, 1) :: B_X11_decide_56
theorem o_X11_decide_55 : Chn cX11_decide B_X11_decide_55 := chn_app ((55, .iconst 0, 1) :: []) o_X11_decide_56 (by decide +kernel)
def B_X11_decide_33 : Blk := (33, .aload_n 0, 1) :: (34, .getfield 64, 3) :: (37, .aload_n 0, 1) :: (38, .getfield 23, 3) :: (41, .getfield 213, 3) :: (44, .iconst 0, 1) :: (45, .invokevirtual 301, 3) :: (48, .ifCond .eq 7, 3) :: (51, .iconst 1, 1) :: (52, .goto 4, 3) :: []
theorem o_X11_decide_33 : Chn cX11_decide B_X11_decide_33 := chn_of _ (by decide +kernel)
def B_X11_decide_13 : Blk := (13, .aload_n 0, 1) :: (14, .getfield 55, 3) :: (17, .aload_n 0, 1) :: (18, .getfield 23, 3) :: (21, .getfield 213, 3) :: (24, .invokevirtual 298, 3) :: (27, .ifCond .ne 6, 3) :: (30, .bipush (-107), 2) :: (32, .ireturn, 1) :: []
theorem o_X11_decide_13 : Chn cX11_decide B_X11_decide_13 := chn_of _ (by decide +kernel)
def B_X11_decide_0 : Blk := (0, .aload_n 0, 1) :: (1, .getfield 16, 3) :: (4, .getfield 122, 3) :: (7, .ifCond .eq 6, 3) :: (10, .bipush (-105), 2) :: (12, .ireturn, 1) :: []
theorem o_X11_decide_0 : Chn cX11_decide B_X11_decide_0 := chn_of _ (by decide +kernel)
theorem fl_11_55 : FLk RX11 55 11 6 3 true := ⟨RX11, TX11, 15, "IntegerHouse", "places", "LIntegerHouse$Places;", rfl, by decide, rfl, Or.inl (allW_in (kT_3 _ (List.mem_of_getElem? (i := 177) rfl)) rfl), rfl, (fun h => absurd h (by decide)), (fun h => absurd h (by decide)), (fun h => absurd h (by decide)), (fun h => absurd h (by decide))⟩
theorem ml_11_298 : MLk RX11 298 yX6_judge := Or.inl (allW_in (kT_6 _ (List.mem_of_getElem? (i := 127) rfl)) rfl)
theorem ml_11_301 : MLk RX11 301 yX0_tellLeast := Or.inl (allW_in (kT_6 _ (List.mem_of_getElem? (i := 162) rfl)) rfl)
abbrev cX11_height : ByteArray := prog_1_method_30_code
def yX11_height : MethodName := ⟨RX11, "height", "()I"⟩
def M_X11_height : MT := (yX11_height, cX11_height, 1, (some .int), RX11, 1)
theorem mk_X11_height : MokV M_X11_height 11 0 := ⟨⟨⟨by decide, by decide, rfl⟩, (allW_in (kT_6 _ (List.mem_of_getElem? (i := 218) rfl)) rfl), (allW_in (kT_1 _ (List.mem_of_getElem? (i := 1) rfl)) rfl), by decide⟩, ⟨TX11, 15, rfl⟩, (allW_in (kT_6 _ (List.mem_of_getElem? (i := 216) rfl)) rfl), (allW_in (kT_6 _ (List.mem_of_getElem? (i := 217) rfl)) rfl)⟩
def B_X11_height_0 : Blk := (0, .aload_n 0, 1) :: (1, .getfield 64, 3) :: (4, .getfield 318, 3) :: (7, .ireturn, 1) :: []
theorem o_X11_height_0 : Chn cX11_height B_X11_height_0 := chn_of _ (by decide +kernel)
theorem fl_11_318 : FLk RX11 318 0 12 0 false := ⟨RX0, TX0, 19, "IntegerHouse$Answers", "toldHeight", "I", rfl, by decide, rfl, Or.inr ⟨"IntegerHouse", List.mem_of_getElem? (i := 35) rfl⟩, rfl, (fun _ => rfl), (fun h => absurd h (by decide)), (fun h => absurd h (by decide)), (fun h => absurd h (by decide))⟩
abbrev cX11_number : ByteArray := prog_1_method_32_code
def yX11_number : MethodName := ⟨RX11, "number", "()J"⟩
def M_X11_number : MT := (yX11_number, cX11_number, 1, (some .long), RX11, 2)
theorem mk_X11_number : MokV M_X11_number 11 0 := ⟨⟨⟨by decide, by decide, rfl⟩, (allW_in (kT_7 _ (List.mem_of_getElem? (i := 28) rfl)) rfl), (allW_in (kT_1 _ (List.mem_of_getElem? (i := 1) rfl)) rfl), by decide⟩, ⟨TX11, 15, rfl⟩, (allW_in (kT_7 _ (List.mem_of_getElem? (i := 26) rfl)) rfl), (allW_in (kT_7 _ (List.mem_of_getElem? (i := 27) rfl)) rfl)⟩
def B_X11_number_0 : Blk := (0, .aload_n 0, 1) :: (1, .getfield 64, 3) :: (4, .getfield 335, 3) :: (7, .lreturn, 1) :: []
theorem o_X11_number_0 : Chn cX11_number B_X11_number_0 := chn_of _ (by decide +kernel)
theorem fl_11_335 : FLk RX11 335 0 13 2 false := ⟨RX0, TX0, 19, "IntegerHouse$Answers", "toldNumber", "J", rfl, by decide, rfl, Or.inr ⟨"IntegerHouse", List.mem_of_getElem? (i := 36) rfl⟩, rfl, (fun h => absurd h (by decide)), (fun h => absurd h (by decide)), (fun _ => rfl), (fun h => absurd h (by decide))⟩
abbrev cX11_many : ByteArray := prog_1_method_33_code
def yX11_many : MethodName := ⟨RX11, "many", "()I"⟩
def M_X11_many : MT := (yX11_many, cX11_many, 1, (some .int), RX11, 1)
theorem mk_X11_many : MokV M_X11_many 11 0 := ⟨⟨⟨by decide, by decide, rfl⟩, (allW_in (kT_7 _ (List.mem_of_getElem? (i := 32) rfl)) rfl), (allW_in (kT_1 _ (List.mem_of_getElem? (i := 1) rfl)) rfl), by decide⟩, ⟨TX11, 15, rfl⟩, (allW_in (kT_7 _ (List.mem_of_getElem? (i := 30) rfl)) rfl), (allW_in (kT_7 _ (List.mem_of_getElem? (i := 31) rfl)) rfl)⟩
def B_X11_many_49 : Blk := (49, .ireturn, 1) :: []
theorem o_X11_many_49 : Chn cX11_many B_X11_many_49 := chn_of _ (by decide +kernel)
def B_X11_many_47 : Blk := (47, .bipush (-107), 2) :: B_X11_many_49
theorem o_X11_many_47 : Chn cX11_many B_X11_many_47 := chn_app ((47, .bipush (-107), 2) :: []) o_X11_many_49 (by decide +kernel)
def B_X11_many_13 : Blk := (13, .aload_n 0, 1) :: (14, .getfield 55, 3) :: (17, .aload_n 0, 1) :: (18, .getfield 23, 3) :: (21, .getfield 213, 3) :: (24, .invokevirtual 298, 3) :: (27, .ifCond .eq 20, 3) :: (30, .aload_n 0, 1) :: (31, .getfield 64, 3) :: (34, .aload_n 0, 1) :: (35, .getfield 23, 3) :: (38, .getfield 213, 3) :: (41, .invokevirtual 339, 3) :: (44, .goto 5, 3) :: []
theorem o_X11_many_13 : Chn cX11_many B_X11_many_13 := chn_of _ (by decide +kernel)
def B_X11_many_0 : Blk := (0, .aload_n 0, 1) :: (1, .getfield 16, 3) :: (4, .getfield 122, 3) :: (7, .ifCond .eq 6, 3) :: (10, .bipush (-105), 2) :: (12, .ireturn, 1) :: []
theorem o_X11_many_0 : Chn cX11_many B_X11_many_0 := chn_of _ (by decide +kernel)
theorem ml_11_339 : MLk RX11 339 yX0_howMany := Or.inl (allW_in (kT_7 _ (List.mem_of_getElem? (i := 33) rfl)) rfl)
abbrev cX11_core : ByteArray := prog_1_method_34_code
def yX11_core : MethodName := ⟨RX11, "core", "()I"⟩
def M_X11_core : MT := (yX11_core, cX11_core, 1, (some .int), RX11, 1)
theorem mk_X11_core : MokV M_X11_core 11 0 := ⟨⟨⟨by decide, by decide, rfl⟩, (allW_in (kT_7 _ (List.mem_of_getElem? (i := 53) rfl)) rfl), (allW_in (kT_1 _ (List.mem_of_getElem? (i := 1) rfl)) rfl), by decide⟩, ⟨TX11, 15, rfl⟩, (allW_in (kT_7 _ (List.mem_of_getElem? (i := 51) rfl)) rfl), (allW_in (kT_7 _ (List.mem_of_getElem? (i := 52) rfl)) rfl)⟩
def B_X11_core_49 : Blk := (49, .ireturn, 1) :: []
theorem o_X11_core_49 : Chn cX11_core B_X11_core_49 := chn_of _ (by decide +kernel)
def B_X11_core_47 : Blk := (47, .bipush (-107), 2) :: B_X11_core_49
theorem o_X11_core_47 : Chn cX11_core B_X11_core_47 := chn_app ((47, .bipush (-107), 2) :: []) o_X11_core_49 (by decide +kernel)
def B_X11_core_13 : Blk := (13, .aload_n 0, 1) :: (14, .getfield 55, 3) :: (17, .aload_n 0, 1) :: (18, .getfield 23, 3) :: (21, .getfield 213, 3) :: (24, .invokevirtual 298, 3) :: (27, .ifCond .eq 20, 3) :: (30, .aload_n 0, 1) :: (31, .getfield 64, 3) :: (34, .aload_n 0, 1) :: (35, .getfield 23, 3) :: (38, .getfield 213, 3) :: (41, .invokevirtual 342, 3) :: (44, .goto 5, 3) :: []
theorem o_X11_core_13 : Chn cX11_core B_X11_core_13 := chn_of _ (by decide +kernel)
def B_X11_core_0 : Blk := (0, .aload_n 0, 1) :: (1, .getfield 16, 3) :: (4, .getfield 122, 3) :: (7, .ifCond .eq 6, 3) :: (10, .bipush (-105), 2) :: (12, .ireturn, 1) :: []
theorem o_X11_core_0 : Chn cX11_core B_X11_core_0 := chn_of _ (by decide +kernel)
theorem ml_11_342 : MLk RX11 342 yX0_tellCore := Or.inl (allW_in (kT_7 _ (List.mem_of_getElem? (i := 54) rfl)) rfl)
abbrev cX11_inCore : ByteArray := prog_1_method_35_code
def yX11_inCore : MethodName := ⟨RX11, "inCore", "(I)I"⟩
def M_X11_inCore : MT := (yX11_inCore, cX11_inCore, 2, (some .int), RX11, 1)
theorem mk_X11_inCore : MokV M_X11_inCore 11 1 := ⟨⟨⟨by decide, by decide, rfl⟩, (allW_in (kT_7 _ (List.mem_of_getElem? (i := 65) rfl)) rfl), (allW_in (kT_1 _ (List.mem_of_getElem? (i := 1) rfl)) rfl), by decide⟩, ⟨TX11, 15, rfl⟩, (allW_in (kT_7 _ (List.mem_of_getElem? (i := 63) rfl)) rfl), (allW_in (kT_7 _ (List.mem_of_getElem? (i := 64) rfl)) rfl)⟩
def B_X11_inCore_0 : Blk := (0, .aload_n 0, 1) :: (1, .getfield 64, 3) :: (4, .iload_n 1, 1) :: (5, .invokevirtual 345, 3) :: (8, .ireturn, 1) :: []
theorem o_X11_inCore_0 : Chn cX11_inCore B_X11_inCore_0 := chn_of _ (by decide +kernel)
theorem ml_11_345 : MLk RX11 345 yX0_toldInCore := Or.inl (allW_in (kT_7 _ (List.mem_of_getElem? (i := 66) rfl)) rfl)
abbrev cX11_alike : ByteArray := prog_1_method_36_code
def yX11_alike : MethodName := ⟨RX11, "alike", "(II)I"⟩
def M_X11_alike : MT := (yX11_alike, cX11_alike, 3, (some .int), RX11, 1)
theorem mk_X11_alike : MokV M_X11_alike 11 2 := ⟨⟨⟨by decide, by decide, rfl⟩, (allW_in (kT_7 _ (List.mem_of_getElem? (i := 73) rfl)) rfl), (allW_in (kT_1 _ (List.mem_of_getElem? (i := 1) rfl)) rfl), by decide⟩, ⟨TX11, 15, rfl⟩, (allW_in (kT_7 _ (List.mem_of_getElem? (i := 71) rfl)) rfl), (allW_in (kT_7 _ (List.mem_of_getElem? (i := 72) rfl)) rfl)⟩
def B_X11_alike_75 : Blk := (75, .ireturn, 1) :: []
theorem o_X11_alike_75 : Chn cX11_alike B_X11_alike_75 := chn_of _ (by decide +kernel)
def B_X11_alike_74 : Blk := (74, .iconst 0, 1) :: B_X11_alike_75
theorem o_X11_alike_74 : Chn cX11_alike B_X11_alike_74 := chn_app ((74, .iconst 0, 1) :: []) o_X11_alike_75 (by decide +kernel)
def B_X11_alike_58 : Blk := (58, .aload_n 0, 1) :: (59, .getfield 64, 3) :: (62, .iload_n 1, 1) :: (63, .iload_n 2, 1) :: (64, .invokevirtual 348, 3) :: (67, .ifCond .eq 7, 3) :: (70, .iconst 1, 1) :: (71, .goto 4, 3) :: []
theorem o_X11_alike_58 : Chn cX11_alike B_X11_alike_58 := chn_of _ (by decide +kernel)
def B_X11_alike_38 : Blk := (38, .aload_n 0, 1) :: (39, .getfield 55, 3) :: (42, .iconst 1, 1) :: (43, .iload_n 1, 1) :: (44, .ishl, 1) :: (45, .iconst 1, 1) :: (46, .iload_n 2, 1) :: (47, .ishl, 1) :: (48, .ior, 1) :: (49, .invokevirtual 298, 3) :: (52, .ifCond .ne 6, 3) :: (55, .bipush (-107), 2) :: (57, .ireturn, 1) :: []
theorem o_X11_alike_38 : Chn cX11_alike B_X11_alike_38 := chn_of _ (by decide +kernel)
def B_X11_alike_35 : Blk := (35, .bipush (-101), 2) :: (37, .ireturn, 1) :: []
theorem o_X11_alike_35 : Chn cX11_alike B_X11_alike_35 := chn_of _ (by decide +kernel)
def B_X11_alike_13 : Blk := (13, .aload_n 0, 1) :: (14, .getfield 23, 3) :: (17, .iload_n 1, 1) :: (18, .invokevirtual 176, 3) :: (21, .ifCond .eq 14, 3) :: (24, .aload_n 0, 1) :: (25, .getfield 23, 3) :: (28, .iload_n 2, 1) :: (29, .invokevirtual 176, 3) :: (32, .ifCond .ne 6, 3) :: B_X11_alike_35
theorem o_X11_alike_13 : Chn cX11_alike B_X11_alike_13 := chn_app ((13, .aload_n 0, 1) :: (14, .getfield 23, 3) :: (17, .iload_n 1, 1) :: (18, .invokevirtual 176, 3) :: (21, .ifCond .eq 14, 3) :: (24, .aload_n 0, 1) :: (25, .getfield 23, 3) :: (28, .iload_n 2, 1) :: (29, .invokevirtual 176, 3) :: (32, .ifCond .ne 6, 3) :: []) o_X11_alike_35 (by decide +kernel)
def B_X11_alike_0 : Blk := (0, .aload_n 0, 1) :: (1, .getfield 16, 3) :: (4, .getfield 122, 3) :: (7, .ifCond .eq 6, 3) :: (10, .bipush (-105), 2) :: (12, .ireturn, 1) :: []
theorem o_X11_alike_0 : Chn cX11_alike B_X11_alike_0 := chn_of _ (by decide +kernel)
theorem ml_11_348 : MLk RX11 348 yX0_areAlike := Or.inl (allW_in (kT_7 _ (List.mem_of_getElem? (i := 74) rfl)) rfl)
abbrev cX11_places : ByteArray := prog_1_method_37_code
def yX11_places : MethodName := ⟨RX11, "places", "()I"⟩
def M_X11_places : MT := (yX11_places, cX11_places, 1, (some .int), RX11, 1)
theorem mk_X11_places : MokV M_X11_places 11 0 := ⟨⟨⟨by decide, by decide, rfl⟩, (allW_in (kT_7 _ (List.mem_of_getElem? (i := 81) rfl)) rfl), (allW_in (kT_1 _ (List.mem_of_getElem? (i := 1) rfl)) rfl), by decide⟩, ⟨TX11, 15, rfl⟩, (allW_in (kT_7 _ (List.mem_of_getElem? (i := 79) rfl)) rfl), (allW_in (kT_7 _ (List.mem_of_getElem? (i := 80) rfl)) rfl)⟩
def B_X11_places_42 : Blk := (42, .ireturn, 1) :: []
theorem o_X11_places_42 : Chn cX11_places B_X11_places_42 := chn_of _ (by decide +kernel)
def B_X11_places_40 : Blk := (40, .bipush (-107), 2) :: B_X11_places_42
theorem o_X11_places_40 : Chn cX11_places B_X11_places_40 := chn_app ((40, .bipush (-107), 2) :: []) o_X11_places_42 (by decide +kernel)
def B_X11_places_13 : Blk := (13, .aload_n 0, 1) :: (14, .getfield 55, 3) :: (17, .aload_n 0, 1) :: (18, .getfield 23, 3) :: (21, .getfield 213, 3) :: (24, .invokevirtual 351, 3) :: (27, .ifCond .eq 13, 3) :: (30, .aload_n 0, 1) :: (31, .getfield 55, 3) :: (34, .getfield 354, 3) :: (37, .goto 5, 3) :: []
theorem o_X11_places_13 : Chn cX11_places B_X11_places_13 := chn_of _ (by decide +kernel)
def B_X11_places_0 : Blk := (0, .aload_n 0, 1) :: (1, .getfield 16, 3) :: (4, .getfield 122, 3) :: (7, .ifCond .eq 6, 3) :: (10, .bipush (-105), 2) :: (12, .ireturn, 1) :: []
theorem o_X11_places_0 : Chn cX11_places B_X11_places_0 := chn_of _ (by decide +kernel)
theorem ml_11_351 : MLk RX11 351 yX6_explore := Or.inl (allW_in (kT_7 _ (List.mem_of_getElem? (i := 82) rfl)) rfl)
theorem fl_11_354 : FLk RX11 354 6 13 0 false := ⟨RX6, TX6, 14, "IntegerHouse$Places", "size", "I", rfl, by decide, rfl, Or.inr ⟨"IntegerHouse", List.mem_of_getElem? (i := 34) rfl⟩, rfl, (fun _ => rfl), (fun h => absurd h (by decide)), (fun h => absurd h (by decide)), (fun h => absurd h (by decide))⟩
abbrev cX11_own : ByteArray := prog_1_method_38_code
def yX11_own : MethodName := ⟨RX11, "own", "(I)I"⟩
def M_X11_own : MT := (yX11_own, cX11_own, 2, (some .int), RX11, 1)
theorem mk_X11_own : MokV M_X11_own 11 1 := ⟨⟨⟨by decide, by decide, rfl⟩, (allW_in (kT_7 _ (List.mem_of_getElem? (i := 86) rfl)) rfl), (allW_in (kT_1 _ (List.mem_of_getElem? (i := 1) rfl)) rfl), by decide⟩, ⟨TX11, 15, rfl⟩, (allW_in (kT_7 _ (List.mem_of_getElem? (i := 84) rfl)) rfl), (allW_in (kT_7 _ (List.mem_of_getElem? (i := 85) rfl)) rfl)⟩
def B_X11_own_53 : Blk := (53, .ireturn, 1) :: []
theorem o_X11_own_53 : Chn cX11_own B_X11_own_53 := chn_of _ (by decide +kernel)
def B_X11_own_51 : Blk := (51, .bipush (-107), 2) :: B_X11_own_53
theorem o_X11_own_51 : Chn cX11_own B_X11_own_51 := chn_app ((51, .bipush (-107), 2) :: []) o_X11_own_53 (by decide +kernel)
def B_X11_own_27 : Blk := (27, .aload_n 0, 1) :: (28, .getfield 55, 3) :: (31, .iconst 1, 1) :: (32, .iload_n 1, 1) :: (33, .ishl, 1) :: (34, .invokevirtual 298, 3) :: (37, .ifCond .eq 14, 3) :: (40, .aload_n 0, 1) :: (41, .getfield 73, 3) :: (44, .iload_n 1, 1) :: (45, .invokevirtual 357, 3) :: (48, .goto 5, 3) :: []
theorem o_X11_own_27 : Chn cX11_own B_X11_own_27 := chn_of _ (by decide +kernel)
def B_X11_own_13 : Blk := (13, .aload_n 0, 1) :: (14, .getfield 23, 3) :: (17, .iload_n 1, 1) :: (18, .invokevirtual 176, 3) :: (21, .ifCond .ne 6, 3) :: (24, .bipush (-101), 2) :: (26, .ireturn, 1) :: []
theorem o_X11_own_13 : Chn cX11_own B_X11_own_13 := chn_of _ (by decide +kernel)
def B_X11_own_0 : Blk := (0, .aload_n 0, 1) :: (1, .getfield 16, 3) :: (4, .getfield 122, 3) :: (7, .ifCond .eq 6, 3) :: (10, .bipush (-105), 2) :: (12, .ireturn, 1) :: []
theorem o_X11_own_0 : Chn cX11_own B_X11_own_0 := chn_of _ (by decide +kernel)
theorem fl_11_73 : FLk RX11 73 11 8 3 true := ⟨RX11, TX11, 15, "IntegerHouse", "ownForm", "LIntegerHouse$OwnForm;", rfl, by decide, rfl, Or.inl (allW_in (kT_3 _ (List.mem_of_getElem? (i := 179) rfl)) rfl), rfl, (fun h => absurd h (by decide)), (fun h => absurd h (by decide)), (fun h => absurd h (by decide)), (fun h => absurd h (by decide))⟩
theorem ml_11_357 : MLk RX11 357 yX5_tell := Or.inl (allW_in (kT_7 _ (List.mem_of_getElem? (i := 87) rfl)) rfl)
abbrev cX11_prove : ByteArray := prog_1_method_45_code
def yX11_prove : MethodName := ⟨RX11, "prove", "()I"⟩
def M_X11_prove : MT := (yX11_prove, cX11_prove, 2, (some .int), RX11, 1)
theorem mk_X11_prove : MokV M_X11_prove 11 0 := ⟨⟨⟨by decide, by decide, rfl⟩, (allW_in (kT_8 _ (List.mem_of_getElem? (i := 69) rfl)) rfl), (allW_in (kT_1 _ (List.mem_of_getElem? (i := 1) rfl)) rfl), by decide⟩, ⟨TX11, 15, rfl⟩, (allW_in (kT_8 _ (List.mem_of_getElem? (i := 67) rfl)) rfl), (allW_in (kT_8 _ (List.mem_of_getElem? (i := 68) rfl)) rfl)⟩
def B_X11_prove_57 : Blk := (57, .iload_n 1, 1) :: (58, .ireturn, 1) :: []
theorem o_X11_prove_57 : Chn cX11_prove B_X11_prove_57 := chn_of _ (by decide +kernel)
def B_X11_prove_13 : Blk := (13, .aload_n 0, 1) :: (14, .getfield 98, 3) :: (17, .aload_n 0, 1) :: (18, .getfield 9, 3) :: (21, .aload_n 0, 1) :: (22, .invokevirtual 230, 3) :: (25, .invokevirtual 395, 3) :: (28, .istore_n 1, 1) :: (29, .iload_n 1, 1) :: (30, .iconst (-1), 1) :: (31, .if_icmp .ne 26, 3) :: (34, .aload_n 0, 1) :: (35, .aload_n 0, 1) :: (36, .getfield 98, 3) :: (39, .getfield 398, 3) :: (42, .putfield 253, 3) :: (45, .sipush (-1000), 3) :: (48, .aload_n 0, 1) :: (49, .getfield 98, 3) :: (52, .getfield 399, 3) :: (55, .isub, 1) :: (56, .ireturn, 1) :: []
theorem o_X11_prove_13 : Chn cX11_prove B_X11_prove_13 := chn_of _ (by decide +kernel)
def B_X11_prove_0 : Blk := (0, .aload_n 0, 1) :: (1, .getfield 16, 3) :: (4, .getfield 122, 3) :: (7, .ifCond .eq 6, 3) :: (10, .bipush (-105), 2) :: (12, .ireturn, 1) :: []
theorem o_X11_prove_0 : Chn cX11_prove B_X11_prove_0 := chn_of _ (by decide +kernel)
theorem fl_11_98 : FLk RX11 98 11 11 3 true := ⟨RX11, TX11, 15, "IntegerHouse", "prover", "LIntegerHouse$Prover;", rfl, by decide, rfl, Or.inl (allW_in (kT_3 _ (List.mem_of_getElem? (i := 182) rfl)) rfl), rfl, (fun h => absurd h (by decide)), (fun h => absurd h (by decide)), (fun h => absurd h (by decide)), (fun h => absurd h (by decide))⟩
theorem ml_11_395 : MLk RX11 395 yX7_check := Or.inl (allW_in (kT_8 _ (List.mem_of_getElem? (i := 70) rfl)) rfl)
theorem fl_11_398 : FLk RX11 398 7 12 0 false := ⟨RX7, TX7, 17, "IntegerHouse$Prover", "faultKind", "I", rfl, by decide, rfl, Or.inr ⟨"IntegerHouse", List.mem_of_getElem? (i := 39) rfl⟩, rfl, (fun _ => rfl), (fun h => absurd h (by decide)), (fun h => absurd h (by decide)), (fun h => absurd h (by decide))⟩
theorem fl_11_399 : FLk RX11 399 7 13 0 false := ⟨RX7, TX7, 17, "IntegerHouse$Prover", "faultPlace", "I", rfl, by decide, rfl, Or.inr ⟨"IntegerHouse", List.mem_of_getElem? (i := 40) rfl⟩, rfl, (fun _ => rfl), (fun h => absurd h (by decide)), (fun h => absurd h (by decide)), (fun h => absurd h (by decide))⟩
abbrev cX11_bound : ByteArray := prog_1_method_47_code
def yX11_bound : MethodName := ⟨RX11, "bound", "(I)I"⟩
def M_X11_bound : MT := (yX11_bound, cX11_bound, 2, (some .int), RX11, 1)
theorem mk_X11_bound : MokV M_X11_bound 11 1 := ⟨⟨⟨by decide, by decide, rfl⟩, (allW_in (kT_8 _ (List.mem_of_getElem? (i := 156) rfl)) rfl), (allW_in (kT_1 _ (List.mem_of_getElem? (i := 1) rfl)) rfl), by decide⟩, ⟨TX11, 15, rfl⟩, (allW_in (kT_8 _ (List.mem_of_getElem? (i := 154) rfl)) rfl), (allW_in (kT_8 _ (List.mem_of_getElem? (i := 155) rfl)) rfl)⟩
def B_X11_bound_23 : Blk := (23, .ireturn, 1) :: []
theorem o_X11_bound_23 : Chn cX11_bound B_X11_bound_23 := chn_of _ (by decide +kernel)
def B_X11_bound_15 : Blk := (15, .aload_n 0, 1) :: (16, .getfield 64, 3) :: (19, .iload_n 1, 1) :: (20, .invokevirtual 409, 3) :: B_X11_bound_23
theorem o_X11_bound_15 : Chn cX11_bound B_X11_bound_15 := chn_app ((15, .aload_n 0, 1) :: (16, .getfield 64, 3) :: (19, .iload_n 1, 1) :: (20, .invokevirtual 409, 3) :: []) o_X11_bound_23 (by decide +kernel)
def B_X11_bound_0 : Blk := (0, .aload_n 0, 1) :: (1, .getfield 16, 3) :: (4, .getfield 122, 3) :: (7, .ifCond .eq 8, 3) :: (10, .bipush (-105), 2) :: (12, .goto 11, 3) :: []
theorem o_X11_bound_0 : Chn cX11_bound B_X11_bound_0 := chn_of _ (by decide +kernel)
theorem ml_11_409 : MLk RX11 409 yX0_boundDigit := Or.inl (allW_in (kT_8 _ (List.mem_of_getElem? (i := 157) rfl)) rfl)
abbrev cX11_audit : ByteArray := prog_1_method_48_code
def yX11_audit : MethodName := ⟨RX11, "audit", "()I"⟩
def M_X11_audit : MT := (yX11_audit, cX11_audit, 1, (some .int), RX11, 1)
theorem mk_X11_audit : MokV M_X11_audit 11 0 := ⟨⟨⟨by decide, by decide, rfl⟩, (allW_in (kT_8 _ (List.mem_of_getElem? (i := 179) rfl)) rfl), (allW_in (kT_1 _ (List.mem_of_getElem? (i := 1) rfl)) rfl), by decide⟩, ⟨TX11, 15, rfl⟩, (allW_in (kT_8 _ (List.mem_of_getElem? (i := 177) rfl)) rfl), (allW_in (kT_8 _ (List.mem_of_getElem? (i := 178) rfl)) rfl)⟩
def B_X11_audit_16 : Blk := (16, .ireturn, 1) :: []
theorem o_X11_audit_16 : Chn cX11_audit B_X11_audit_16 := chn_of _ (by decide +kernel)
def B_X11_audit_15 : Blk := (15, .iconst 0, 1) :: B_X11_audit_16
theorem o_X11_audit_15 : Chn cX11_audit B_X11_audit_15 := chn_app ((15, .iconst 0, 1) :: []) o_X11_audit_16 (by decide +kernel)
def B_X11_audit_0 : Blk := (0, .aload_n 0, 1) :: (1, .getfield 16, 3) :: (4, .getfield 122, 3) :: (7, .ifCond .eq 8, 3) :: (10, .bipush (-105), 2) :: (12, .goto 4, 3) :: []
theorem o_X11_audit_0 : Chn cX11_audit B_X11_audit_0 := chn_of _ (by decide +kernel)
