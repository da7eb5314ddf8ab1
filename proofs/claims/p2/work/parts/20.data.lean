abbrev cX1_isByte : ByteArray := prog_3_method_2_code
def yX1_isByte : MethodName := ⟨RX1, "isByte", "(II)Z"⟩
def M_X1_isByte : MT := (yX1_isByte, cX1_isByte, 2, (some .boolean), RX1, 1)
theorem mk_X1_isByte : MokS M_X1_isByte 2 := ⟨⟨⟨by decide, by decide, rfl⟩, (allW_in (kT_4 _ (List.mem_of_getElem? (i := 6) rfl)) rfl), (allW_in (kT_1 _ (List.mem_of_getElem? (i := 2) rfl)) rfl), by decide⟩, (allW_in (kT_4 _ (List.mem_of_getElem? (i := 5) rfl)) rfl)⟩
def B_X1_isByte_27 : Blk := [(27, .ireturn, 1)]
theorem o_X1_isByte_27 : Chn cX1_isByte B_X1_isByte_27 := chn_of _ (by decide +kernel)
def B_X1_isByte_26 : Blk := (26, .iconst 0, 1) :: B_X1_isByte_27
theorem o_X1_isByte_26 : Chn cX1_isByte B_X1_isByte_26 := chn_app [(26, .iconst 0, 1)] o_X1_isByte_27 (by decide +kernel)
def B_X1_isByte_0 : Blk := [(0, .iload_n 0, 1), (1, .iconst 1, 1), (2, .if_icmp .lt 24, 3), (5, .iload_n 0, 1), (6, .bipush 100, 2), (8, .if_icmp .gt 18, 3), (11, .iload_n 1, 1), (12, .ifCond .lt 14, 3), (15, .iload_n 1, 1), (16, .sipush 256, 3), (19, .if_icmp .ge 7, 3), (22, .iconst 1, 1), (23, .goto 4, 3)]
theorem o_X1_isByte_0 : Chn cX1_isByte B_X1_isByte_0 := chn_of _ (by decide +kernel)
abbrev cX1_byteOf : ByteArray := prog_3_method_3_code
def yX1_byteOf : MethodName := ⟨RX1, "byteOf", "(II)I"⟩
def M_X1_byteOf : MT := (yX1_byteOf, cX1_byteOf, 3, (some .int), RX1, 1)
theorem mk_X1_byteOf : MokV M_X1_byteOf 1 2 := ⟨⟨⟨by decide, by decide, rfl⟩, (allW_in (kT_4 _ (List.mem_of_getElem? (i := 38) rfl)) rfl), (allW_in (kT_1 _ (List.mem_of_getElem? (i := 2) rfl)) rfl), by decide⟩, ⟨TX1, 9, rfl⟩, (allW_in (kT_4 _ (List.mem_of_getElem? (i := 36) rfl)) rfl), (allW_in (kT_4 _ (List.mem_of_getElem? (i := 37) rfl)) rfl)⟩
def B_X1_byteOf_30 : Blk := [(30, .ireturn, 1)]
theorem o_X1_byteOf_30 : Chn cX1_byteOf B_X1_byteOf_30 := chn_of _ (by decide +kernel)
def B_X1_byteOf_29 : Blk := (29, .iconst 0, 1) :: B_X1_byteOf_30
theorem o_X1_byteOf_29 : Chn cX1_byteOf B_X1_byteOf_29 := chn_app [(29, .iconst 0, 1)] o_X1_byteOf_30 (by decide +kernel)
def B_X1_byteOf_0 : Blk := [(0, .iload_n 1, 1), (1, .iload_n 2, 1), (2, .invokestatic 29, 3), (5, .ifCond .eq 24, 3), (8, .aload_n 0, 1), (9, .getfield 11, 3), (12, .iload_n 1, 1), (13, .iconst 1, 1), (14, .isub, 1), (15, .sipush 256, 3), (18, .imul, 1), (19, .iload_n 2, 1), (20, .iadd, 1), (21, .baload, 1), (22, .sipush 255, 3), (25, .iand, 1), (26, .goto 4, 3)]
theorem o_X1_byteOf_0 : Chn cX1_byteOf B_X1_byteOf_0 := chn_of _ (by decide +kernel)
theorem ml_1_29 : MLk RX1 29 yX1_isByte := Or.inl (allW_in (kT_4 _ (List.mem_of_getElem? (i := 4) rfl)) rfl)
theorem fl_1_11 : FLk RX1 11 1 0 3 true := ⟨RX1, TX1, 9, "IntegerHouse$Disk", "blocks", "[B", rfl, by decide, rfl, Or.inl (allW_in (kT_1 _ (List.mem_of_getElem? (i := 42) rfl)) rfl), rfl, (fun h => absurd h (by decide)), (fun h => absurd h (by decide)), (fun h => absurd h (by decide)), (fun h => absurd h (by decide))⟩
abbrev cX1_hasRoom : ByteArray := prog_3_method_6_code
def yX1_hasRoom : MethodName := ⟨RX1, "hasRoom", "(I)Z"⟩
def M_X1_hasRoom : MT := (yX1_hasRoom, cX1_hasRoom, 2, (some .boolean), RX1, 1)
theorem mk_X1_hasRoom : MokV M_X1_hasRoom 1 1 := ⟨⟨⟨by decide, by decide, rfl⟩, (allW_in (kT_5 _ (List.mem_of_getElem? (i := 205) rfl)) rfl), (allW_in (kT_1 _ (List.mem_of_getElem? (i := 2) rfl)) rfl), by decide⟩, ⟨TX1, 9, rfl⟩, (allW_in (kT_5 _ (List.mem_of_getElem? (i := 203) rfl)) rfl), (allW_in (kT_5 _ (List.mem_of_getElem? (i := 204) rfl)) rfl)⟩
def B_X1_hasRoom_31 : Blk := [(31, .ireturn, 1)]
theorem o_X1_hasRoom_31 : Chn cX1_hasRoom B_X1_hasRoom_31 := chn_of _ (by decide +kernel)
def B_X1_hasRoom_30 : Blk := (30, .iconst 0, 1) :: B_X1_hasRoom_31
theorem o_X1_hasRoom_30 : Chn cX1_hasRoom B_X1_hasRoom_30 := chn_app [(30, .iconst 0, 1)] o_X1_hasRoom_31 (by decide +kernel)
def B_X1_hasRoom_0 : Blk := [(0, .aload_n 0, 1), (1, .getfield 40, 3), (4, .iload_n 1, 1), (5, .iadd, 1), (6, .sipush 248, 3), (9, .iadd, 1), (10, .iconst 1, 1), (11, .isub, 1), (12, .sipush 248, 3), (15, .idiv, 1), (16, .bipush 100, 2), (18, .aload_n 0, 1), (19, .getfield 43, 3), (22, .isub, 1), (23, .if_icmp .gt 7, 3), (26, .iconst 1, 1), (27, .goto 4, 3)]
theorem o_X1_hasRoom_0 : Chn cX1_hasRoom B_X1_hasRoom_0 := chn_of _ (by decide +kernel)
theorem fl_1_40 : FLk RX1 40 1 4 0 false := ⟨RX1, TX1, 9, "IntegerHouse$Disk", "waiting", "I", rfl, by decide, rfl, Or.inl (allW_in (kT_1 _ (List.mem_of_getElem? (i := 47) rfl)) rfl), rfl, (fun _ => rfl), (fun h => absurd h (by decide)), (fun h => absurd h (by decide)), (fun h => absurd h (by decide))⟩
theorem fl_1_43 : FLk RX1 43 1 5 0 false := ⟨RX1, TX1, 9, "IntegerHouse$Disk", "used", "I", rfl, by decide, rfl, Or.inl (allW_in (kT_1 _ (List.mem_of_getElem? (i := 49) rfl)) rfl), rfl, (fun _ => rfl), (fun h => absurd h (by decide)), (fun h => absurd h (by decide)), (fun h => absurd h (by decide))⟩
abbrev cX1_setCut : ByteArray := prog_3_method_5_code
def yX1_setCut : MethodName := ⟨RX1, "setCut", "(II)V"⟩
def M_X1_setCut : MT := (yX1_setCut, cX1_setCut, 3, none, RX1, 0)
theorem mk_X1_setCut : MokV M_X1_setCut 1 2 := ⟨⟨⟨by decide, by decide, rfl⟩, (allW_in (kT_4 _ (List.mem_of_getElem? (i := 14) rfl)) rfl), (allW_in (kT_1 _ (List.mem_of_getElem? (i := 2) rfl)) rfl), by decide⟩, ⟨TX1, 9, rfl⟩, (allW_in (kT_4 _ (List.mem_of_getElem? (i := 12) rfl)) rfl), (allW_in (kT_4 _ (List.mem_of_getElem? (i := 13) rfl)) rfl)⟩
def B_X1_setCut_0 : Blk := [(0, .aload_n 0, 1), (1, .iload_n 1, 1), (2, .putfield 25, 3), (5, .aload_n 0, 1), (6, .iload_n 2, 1), (7, .putfield 37, 3), (10, .return_, 1)]
theorem o_X1_setCut_0 : Chn cX1_setCut B_X1_setCut_0 := chn_of _ (by decide +kernel)
theorem fl_1_25 : FLk RX1 25 1 6 0 false := ⟨RX1, TX1, 9, "IntegerHouse$Disk", "cutAt", "I", rfl, by decide, rfl, Or.inl (allW_in (kT_1 _ (List.mem_of_getElem? (i := 51) rfl)) rfl), rfl, (fun _ => rfl), (fun h => absurd h (by decide)), (fun h => absurd h (by decide)), (fun h => absurd h (by decide))⟩
theorem fl_1_37 : FLk RX1 37 1 7 0 false := ⟨RX1, TX1, 9, "IntegerHouse$Disk", "tear", "I", rfl, by decide, rfl, Or.inl (allW_in (kT_1 _ (List.mem_of_getElem? (i := 52) rfl)) rfl), rfl, (fun _ => rfl), (fun h => absurd h (by decide)), (fun h => absurd h (by decide)), (fun h => absurd h (by decide))⟩
abbrev cX1_flip : ByteArray := prog_3_method_4_code
def yX1_flip : MethodName := ⟨RX1, "flip", "(III)I"⟩
def M_X1_flip : MT := (yX1_flip, cX1_flip, 4, (some .int), RX1, 1)
theorem mk_X1_flip : MokV M_X1_flip 1 3 := ⟨⟨⟨by decide, by decide, rfl⟩, (allW_in (kT_9 _ (List.mem_of_getElem? (i := 79) rfl)) rfl), (allW_in (kT_1 _ (List.mem_of_getElem? (i := 2) rfl)) rfl), by decide⟩, ⟨TX1, 9, rfl⟩, (allW_in (kT_9 _ (List.mem_of_getElem? (i := 77) rfl)) rfl), (allW_in (kT_9 _ (List.mem_of_getElem? (i := 78) rfl)) rfl)⟩
def B_X1_flip_28 : Blk := [(28, .aload_n 0, 1), (29, .iload_n 1, 1), (30, .iload_n 2, 1), (31, .invokevirtual 33, 3), (34, .ireturn, 1)]
theorem o_X1_flip_28 : Chn cX1_flip B_X1_flip_28 := chn_of _ (by decide +kernel)
def B_X1_flip_0 : Blk := (0, .iload_n 1, 1) :: (1, .iload_n 2, 1) :: (2, .invokestatic 29, 3) :: (5, .ifCond .eq 23, 3) :: (8, .aload_n 0, 1) :: (9, .getfield 11, 3) :: (12, .iload_n 1, 1) :: (13, .iconst 1, 1) :: (14, .isub, 1) :: (15, .sipush 256, 3) :: (18, .imul, 1) :: (19, .iload_n 2, 1) :: (20, .iadd, 1) :: (21, .dup2, 1) :: (22, .baload, 1) :: (23, .iload_n 3, 1) :: (24, .i2b, 1) :: (25, .ixor, 1) :: (26, .i2b, 1) :: (27, .bastore, 1) :: B_X1_flip_28
theorem o_X1_flip_0 : Chn cX1_flip B_X1_flip_0 := chn_app [(0, .iload_n 1, 1), (1, .iload_n 2, 1), (2, .invokestatic 29, 3), (5, .ifCond .eq 23, 3), (8, .aload_n 0, 1), (9, .getfield 11, 3), (12, .iload_n 1, 1), (13, .iconst 1, 1), (14, .isub, 1), (15, .sipush 256, 3), (18, .imul, 1), (19, .iload_n 2, 1), (20, .iadd, 1), (21, .dup2, 1), (22, .baload, 1), (23, .iload_n 3, 1), (24, .i2b, 1), (25, .ixor, 1), (26, .i2b, 1), (27, .bastore, 1)] o_X1_flip_28 (by decide +kernel)
theorem ml_1_33 : MLk RX1 33 yX1_byteOf := Or.inl (allW_in (kT_4 _ (List.mem_of_getElem? (i := 35) rfl)) rfl)
abbrev cX1_await : ByteArray := prog_3_method_9_code
def yX1_await : MethodName := ⟨RX1, "await", "(I)V"⟩
def M_X1_await : MT := (yX1_await, cX1_await, 2, none, RX1, 0)
theorem mk_X1_await : MokV M_X1_await 1 1 := ⟨⟨⟨by decide, by decide, rfl⟩, (allW_in (kT_4 _ (List.mem_of_getElem? (i := 46) rfl)) rfl), (allW_in (kT_1 _ (List.mem_of_getElem? (i := 2) rfl)) rfl), by decide⟩, ⟨TX1, 9, rfl⟩, (allW_in (kT_4 _ (List.mem_of_getElem? (i := 45) rfl)) rfl), (allW_in (kTs_1 _ (List.mem_of_getElem? (i := 3) rfl)) rfl)⟩
def B_X1_await_38 : Blk := [(38, .return_, 1)]
theorem o_X1_await_38 : Chn cX1_await B_X1_await_38 := chn_of _ (by decide +kernel)
def B_X1_await_0 : Blk := (0, .aload_n 0, 1) :: (1, .getfield 40, 3) :: (4, .ifCond .lt 34, 3) :: (7, .aload_n 0, 1) :: (8, .getfield 40, 3) :: (11, .sipush 24800, 3) :: (14, .if_icmp .ge 24, 3) :: (17, .aload_n 0, 1) :: (18, .getfield 22, 3) :: (21, .aload_n 0, 1) :: (22, .getfield 40, 3) :: (25, .iload_n 1, 1) :: (26, .i2b, 1) :: (27, .bastore, 1) :: (28, .aload_n 0, 1) :: (29, .dup, 1) :: (30, .getfield 40, 3) :: (33, .iconst 1, 1) :: (34, .iadd, 1) :: (35, .putfield 40, 3) :: B_X1_await_38
theorem o_X1_await_0 : Chn cX1_await B_X1_await_0 := chn_app [(0, .aload_n 0, 1), (1, .getfield 40, 3), (4, .ifCond .lt 34, 3), (7, .aload_n 0, 1), (8, .getfield 40, 3), (11, .sipush 24800, 3), (14, .if_icmp .ge 24, 3), (17, .aload_n 0, 1), (18, .getfield 22, 3), (21, .aload_n 0, 1), (22, .getfield 40, 3), (25, .iload_n 1, 1), (26, .i2b, 1), (27, .bastore, 1), (28, .aload_n 0, 1), (29, .dup, 1), (30, .getfield 40, 3), (33, .iconst 1, 1), (34, .iadd, 1), (35, .putfield 40, 3)] o_X1_await_38 (by decide +kernel)
theorem fl_1_22 : FLk RX1 22 1 3 3 true := ⟨RX1, TX1, 9, "IntegerHouse$Disk", "waits", "[B", rfl, by decide, rfl, Or.inl (allW_in (kT_1 _ (List.mem_of_getElem? (i := 45) rfl)) rfl), rfl, (fun h => absurd h (by decide)), (fun h => absurd h (by decide)), (fun h => absurd h (by decide)), (fun h => absurd h (by decide))⟩
abbrev cX11_feedOne : ByteArray := prog_1_method_3_code
def yX11_feedOne : MethodName := ⟨RX11, "feedOne", "(I)V"⟩
def M_X11_feedOne : MT := (yX11_feedOne, cX11_feedOne, 3, none, RX11, 0)
theorem mk_X11_feedOne : MokV M_X11_feedOne 11 1 := ⟨⟨⟨by decide, by decide, rfl⟩, (allW_in (kT_9 _ (List.mem_of_getElem? (i := 18) rfl)) rfl), (allW_in (kT_1 _ (List.mem_of_getElem? (i := 1) rfl)) rfl), by decide⟩, ⟨TX11, 15, rfl⟩, (allW_in (kT_9 _ (List.mem_of_getElem? (i := 17) rfl)) rfl), (allW_in (kTs_9 _ (List.mem_of_getElem? (i := 7) rfl)) rfl)⟩
def B_X11_feedOne_53 : Blk := [(53, .return_, 1)]
theorem o_X11_feedOne_53 : Chn cX11_feedOne B_X11_feedOne_53 := chn_of _ (by decide +kernel)
def B_X11_feedOne_47 : Blk := [(47, .iinc 2 (-8), 3), (50, .goto (-47), 3)]
theorem o_X11_feedOne_47 : Chn cX11_feedOne B_X11_feedOne_47 := chn_of _ (by decide +kernel)
def B_X11_feedOne_3 : Blk := (3, .iload_n 2, 1) :: (4, .ifCond .lt 49, 3) :: (7, .aload_n 0, 1) :: (8, .getfield 102, 3) :: (11, .ifCond .lt 36, 3) :: (14, .aload_n 0, 1) :: (15, .getfield 102, 3) :: (18, .sipush 2000, 3) :: (21, .if_icmp .ge 26, 3) :: (24, .aload_n 0, 1) :: (25, .getfield 9, 3) :: (28, .aload_n 0, 1) :: (29, .getfield 102, 3) :: (32, .iload_n 1, 1) :: (33, .iload_n 2, 1) :: (34, .ishr, 1) :: (35, .i2b, 1) :: (36, .bastore, 1) :: (37, .aload_n 0, 1) :: (38, .dup, 1) :: (39, .getfield 102, 3) :: (42, .iconst 1, 1) :: (43, .iadd, 1) :: (44, .putfield 102, 3) :: B_X11_feedOne_47
theorem o_X11_feedOne_3 : Chn cX11_feedOne B_X11_feedOne_3 := chn_app [(3, .iload_n 2, 1), (4, .ifCond .lt 49, 3), (7, .aload_n 0, 1), (8, .getfield 102, 3), (11, .ifCond .lt 36, 3), (14, .aload_n 0, 1), (15, .getfield 102, 3), (18, .sipush 2000, 3), (21, .if_icmp .ge 26, 3), (24, .aload_n 0, 1), (25, .getfield 9, 3), (28, .aload_n 0, 1), (29, .getfield 102, 3), (32, .iload_n 1, 1), (33, .iload_n 2, 1), (34, .ishr, 1), (35, .i2b, 1), (36, .bastore, 1), (37, .aload_n 0, 1), (38, .dup, 1), (39, .getfield 102, 3), (42, .iconst 1, 1), (43, .iadd, 1), (44, .putfield 102, 3)] o_X11_feedOne_47 (by decide +kernel)
def B_X11_feedOne_0 : Blk := (0, .bipush 24, 2) :: (2, .istore_n 2, 1) :: B_X11_feedOne_3
theorem o_X11_feedOne_0 : Chn cX11_feedOne B_X11_feedOne_0 := chn_app [(0, .bipush 24, 2), (2, .istore_n 2, 1)] o_X11_feedOne_3 (by decide +kernel)
theorem fl_11_102 : FLk RX11 102 11 12 0 false := ⟨RX11, TX11, 15, "IntegerHouse", "tapeLength", "I", rfl, by decide, rfl, Or.inl (allW_in (kT_3 _ (List.mem_of_getElem? (i := 183) rfl)) rfl), rfl, (fun _ => rfl), (fun h => absurd h (by decide)), (fun h => absurd h (by decide)), (fun h => absurd h (by decide))⟩
theorem fl_11_9 : FLk RX11 9 11 0 3 true := ⟨RX11, TX11, 15, "IntegerHouse", "tape", "[B", rfl, by decide, rfl, Or.inl (allW_in (kT_3 _ (List.mem_of_getElem? (i := 171) rfl)) rfl), rfl, (fun h => absurd h (by decide)), (fun h => absurd h (by decide)), (fun h => absurd h (by decide)), (fun h => absurd h (by decide))⟩
