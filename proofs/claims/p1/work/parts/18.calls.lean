theorem dX1_hasRoom_0 : decode cX1_hasRoom 0 = .ok (.aload_n 0, 1) := by decide +kernel
theorem dX1_hasRoom_1 : decode cX1_hasRoom 1 = .ok (.getfield 40, 3) := by decide +kernel
theorem dX1_hasRoom_4 : decode cX1_hasRoom 4 = .ok (.iload_n 1, 1) := by decide +kernel
theorem dX1_hasRoom_5 : decode cX1_hasRoom 5 = .ok (.iadd, 1) := by decide +kernel
theorem dX1_hasRoom_6 : decode cX1_hasRoom 6 = .ok (.sipush 248, 3) := by decide +kernel
theorem dX1_hasRoom_9 : decode cX1_hasRoom 9 = .ok (.iadd, 1) := by decide +kernel
theorem dX1_hasRoom_10 : decode cX1_hasRoom 10 = .ok (.iconst 1, 1) := by decide +kernel
theorem dX1_hasRoom_11 : decode cX1_hasRoom 11 = .ok (.isub, 1) := by decide +kernel
theorem dX1_hasRoom_12 : decode cX1_hasRoom 12 = .ok (.sipush 248, 3) := by decide +kernel
theorem dX1_hasRoom_15 : decode cX1_hasRoom 15 = .ok (.idiv, 1) := by decide +kernel
theorem dX1_hasRoom_16 : decode cX1_hasRoom 16 = .ok (.bipush 100, 2) := by decide +kernel
theorem dX1_hasRoom_18 : decode cX1_hasRoom 18 = .ok (.aload_n 0, 1) := by decide +kernel
theorem dX1_hasRoom_19 : decode cX1_hasRoom 19 = .ok (.getfield 43, 3) := by decide +kernel
theorem dX1_hasRoom_22 : decode cX1_hasRoom 22 = .ok (.isub, 1) := by decide +kernel
theorem dX1_hasRoom_23 : decode cX1_hasRoom 23 = .ok (.if_icmp .gt 7, 3) := by decide +kernel
theorem dX1_hasRoom_26 : decode cX1_hasRoom 26 = .ok (.iconst 1, 1) := by decide +kernel
theorem dX1_hasRoom_27 : decode cX1_hasRoom 27 = .ok (.goto 4, 3) := by decide +kernel
theorem dX1_hasRoom_31 : decode cX1_hasRoom 31 = .ok (.ireturn, 1) := by decide +kernel
theorem dX1_await_0 : decode cX1_await 0 = .ok (.aload_n 0, 1) := by decide +kernel
theorem dX1_await_1 : decode cX1_await 1 = .ok (.getfield 40, 3) := by decide +kernel
theorem dX1_await_4 : decode cX1_await 4 = .ok (.ifCond .lt 34, 3) := by decide +kernel
theorem dX1_await_7 : decode cX1_await 7 = .ok (.aload_n 0, 1) := by decide +kernel
theorem dX1_await_8 : decode cX1_await 8 = .ok (.getfield 40, 3) := by decide +kernel
theorem dX1_await_11 : decode cX1_await 11 = .ok (.sipush 24800, 3) := by decide +kernel
theorem dX1_await_14 : decode cX1_await 14 = .ok (.if_icmp .ge 24, 3) := by decide +kernel
theorem dX1_await_17 : decode cX1_await 17 = .ok (.aload_n 0, 1) := by decide +kernel
theorem dX1_await_18 : decode cX1_await 18 = .ok (.getfield 22, 3) := by decide +kernel
theorem dX1_await_21 : decode cX1_await 21 = .ok (.aload_n 0, 1) := by decide +kernel
theorem dX1_await_22 : decode cX1_await 22 = .ok (.getfield 40, 3) := by decide +kernel
theorem dX1_await_25 : decode cX1_await 25 = .ok (.iload_n 1, 1) := by decide +kernel
theorem dX1_await_26 : decode cX1_await 26 = .ok (.i2b, 1) := by decide +kernel
theorem dX1_await_27 : decode cX1_await 27 = .ok (.bastore, 1) := by decide +kernel
theorem dX1_await_28 : decode cX1_await 28 = .ok (.aload_n 0, 1) := by decide +kernel
theorem dX1_await_29 : decode cX1_await 29 = .ok (.dup, 1) := by decide +kernel
theorem dX1_await_30 : decode cX1_await 30 = .ok (.getfield 40, 3) := by decide +kernel
theorem dX1_await_33 : decode cX1_await 33 = .ok (.iconst 1, 1) := by decide +kernel
theorem dX1_await_34 : decode cX1_await 34 = .ok (.iadd, 1) := by decide +kernel
theorem dX1_await_35 : decode cX1_await 35 = .ok (.putfield 40, 3) := by decide +kernel
theorem dX1_await_38 : decode cX1_await 38 = .ok (.return_, 1) := by decide +kernel
theorem dX1_recordRead_0 : decode cX1_recordRead 0 = .ok (.aload_n 0, 1) := by decide +kernel
theorem dX1_recordRead_1 : decode cX1_recordRead 1 = .ok (.iconst 1, 1) := by decide +kernel
theorem dX1_recordRead_2 : decode cX1_recordRead 2 = .ok (.invokevirtual 50, 3) := by decide +kernel
theorem dX1_recordRead_5 : decode cX1_recordRead 5 = .ok (.aload_n 0, 1) := by decide +kernel
theorem dX1_recordRead_6 : decode cX1_recordRead 6 = .ok (.iload_n 2, 1) := by decide +kernel
theorem dX1_recordRead_7 : decode cX1_recordRead 7 = .ok (.bipush 8, 2) := by decide +kernel
theorem dX1_recordRead_9 : decode cX1_recordRead 9 = .ok (.ishr, 1) := by decide +kernel
theorem dX1_recordRead_10 : decode cX1_recordRead 10 = .ok (.invokevirtual 50, 3) := by decide +kernel
theorem dX1_recordRead_13 : decode cX1_recordRead 13 = .ok (.aload_n 0, 1) := by decide +kernel
theorem dX1_recordRead_14 : decode cX1_recordRead 14 = .ok (.iload_n 2, 1) := by decide +kernel
theorem dX1_recordRead_15 : decode cX1_recordRead 15 = .ok (.invokevirtual 50, 3) := by decide +kernel
theorem dX1_recordRead_18 : decode cX1_recordRead 18 = .ok (.iconst 0, 1) := by decide +kernel
theorem dX1_recordRead_19 : decode cX1_recordRead 19 = .ok (.istore_n 3, 1) := by decide +kernel
theorem dX1_recordRead_20 : decode cX1_recordRead 20 = .ok (.iload_n 3, 1) := by decide +kernel
theorem dX1_recordRead_21 : decode cX1_recordRead 21 = .ok (.iload_n 2, 1) := by decide +kernel
theorem dX1_recordRead_22 : decode cX1_recordRead 22 = .ok (.if_icmp .ge 22, 3) := by decide +kernel
theorem dX1_recordRead_44 : decode cX1_recordRead 44 = .ok (.return_, 1) := by decide +kernel
theorem dX2_turnOnFrom_0 : decode cX2_turnOnFrom 0 = .ok (.aload_n 0, 1) := by decide +kernel
theorem dX2_turnOnFrom_1 : decode cX2_turnOnFrom 1 = .ok (.dup, 1) := by decide +kernel
theorem dX2_turnOnFrom_2 : decode cX2_turnOnFrom 2 = .ok (.getfield 61, 3) := by decide +kernel
theorem dX2_turnOnFrom_5 : decode cX2_turnOnFrom 5 = .ok (.iconst 1, 1) := by decide +kernel
theorem dX2_turnOnFrom_6 : decode cX2_turnOnFrom 6 = .ok (.aload_n 0, 1) := by decide +kernel
theorem dX2_turnOnFrom_7 : decode cX2_turnOnFrom 7 = .ok (.getfield 55, 3) := by decide +kernel
theorem dX2_turnOnFrom_10 : decode cX2_turnOnFrom 10 = .ok (.ishl, 1) := by decide +kernel
theorem dX2_turnOnFrom_11 : decode cX2_turnOnFrom 11 = .ok (.iconst 1, 1) := by decide +kernel
theorem dX2_turnOnFrom_12 : decode cX2_turnOnFrom 12 = .ok (.iload_n 1, 1) := by decide +kernel
theorem dX2_turnOnFrom_13 : decode cX2_turnOnFrom 13 = .ok (.ishl, 1) := by decide +kernel
theorem dX2_turnOnFrom_14 : decode cX2_turnOnFrom 14 = .ok (.isub, 1) := by decide +kernel
theorem dX2_turnOnFrom_15 : decode cX2_turnOnFrom 15 = .ok (.ior, 1) := by decide +kernel
theorem dX2_turnOnFrom_16 : decode cX2_turnOnFrom 16 = .ok (.putfield 61, 3) := by decide +kernel
theorem dX2_turnOnFrom_19 : decode cX2_turnOnFrom 19 = .ok (.return_, 1) := by decide +kernel
theorem dX8_readText_0 : decode cX8_readText 0 = .ok (.aload_n 0, 1) := by decide +kernel
theorem dX8_readText_1 : decode cX8_readText 1 = .ok (.aload_n 1, 1) := by decide +kernel
theorem dX8_readText_2 : decode cX8_readText 2 = .ok (.iload_n 2, 1) := by decide +kernel
theorem dX8_readText_3 : decode cX8_readText 3 = .ok (.iload_n 3, 1) := by decide +kernel
theorem dX8_readText_4 : decode cX8_readText 4 = .ok (.invokevirtual 23, 3) := by decide +kernel
theorem dX8_readText_7 : decode cX8_readText 7 = .ok (.aload_n 0, 1) := by decide +kernel
theorem dX8_readText_8 : decode cX8_readText 8 = .ok (.getfield 15, 3) := by decide +kernel
theorem dX8_readText_11 : decode cX8_readText 11 = .ok (.getfield 27, 3) := by decide +kernel
theorem dX8_readText_14 : decode cX8_readText 14 = .ok (.istore 4, 2) := by decide +kernel
theorem dX8_readText_16 : decode cX8_readText 16 = .ok (.aload_n 0, 1) := by decide +kernel
theorem dX8_readText_17 : decode cX8_readText 17 = .ok (.getfield 15, 3) := by decide +kernel
theorem dX8_readText_20 : decode cX8_readText 20 = .ok (.getfield 33, 3) := by decide +kernel
theorem dX8_readText_23 : decode cX8_readText 23 = .ok (.istore 5, 2) := by decide +kernel
theorem dX8_readText_25 : decode cX8_readText 25 = .ok (.aload_n 0, 1) := by decide +kernel
theorem dX8_readText_26 : decode cX8_readText 26 = .ok (.getfield 15, 3) := by decide +kernel
theorem dX8_readText_29 : decode cX8_readText 29 = .ok (.getfield 36, 3) := by decide +kernel
theorem dX8_readText_32 : decode cX8_readText 32 = .ok (.istore 6, 2) := by decide +kernel
theorem dX8_readText_34 : decode cX8_readText 34 = .ok (.iconst 0, 1) := by decide +kernel
theorem dX8_readText_35 : decode cX8_readText 35 = .ok (.istore 7, 2) := by decide +kernel
theorem dX8_readText_37 : decode cX8_readText 37 = .ok (.iload 7, 2) := by decide +kernel
theorem dX8_readText_39 : decode cX8_readText 39 = .ok (.sipush 2000, 3) := by decide +kernel
theorem dX8_readText_42 : decode cX8_readText 42 = .ok (.if_icmp .ge 71, 3) := by decide +kernel
theorem dX8_readText_45 : decode cX8_readText 45 = .ok (.aload_n 0, 1) := by decide +kernel
theorem dX8_readText_46 : decode cX8_readText 46 = .ok (.getfield 39, 3) := by decide +kernel
theorem dX8_readText_49 : decode cX8_readText 49 = .ok (.bipush 21, 2) := by decide +kernel
theorem dX8_readText_51 : decode cX8_readText 51 = .ok (.if_icmp .eq 12, 3) := by decide +kernel
theorem dX8_readText_54 : decode cX8_readText 54 = .ok (.aload_n 0, 1) := by decide +kernel
theorem dX8_readText_55 : decode cX8_readText 55 = .ok (.getfield 39, 3) := by decide +kernel
theorem dX8_readText_58 : decode cX8_readText 58 = .ok (.bipush 22, 2) := by decide +kernel
theorem dX8_readText_60 : decode cX8_readText 60 = .ok (.if_icmp .ne 53, 3) := by decide +kernel
theorem dX8_readText_113 : decode cX8_readText 113 = .ok (.aload_n 0, 1) := by decide +kernel
theorem dX8_readText_114 : decode cX8_readText 114 = .ok (.invokevirtual 59, 3) := by decide +kernel
theorem dX8_readText_117 : decode cX8_readText 117 = .ok (.iload 5, 2) := by decide +kernel
theorem dX8_readText_119 : decode cX8_readText 119 = .ok (.istore 7, 2) := by decide +kernel
theorem dX8_readText_121 : decode cX8_readText 121 = .ok (.iload 7, 2) := by decide +kernel
theorem dX8_readText_123 : decode cX8_readText 123 = .ok (.aload_n 0, 1) := by decide +kernel
theorem dX8_readText_124 : decode cX8_readText 124 = .ok (.getfield 15, 3) := by decide +kernel
theorem dX8_readText_127 : decode cX8_readText 127 = .ok (.getfield 33, 3) := by decide +kernel
theorem dX8_readText_130 : decode cX8_readText 130 = .ok (.if_icmp .ge 31, 3) := by decide +kernel
theorem dX8_readText_161 : decode cX8_readText 161 = .ok (.aload_n 0, 1) := by decide +kernel
theorem dX8_readText_162 : decode cX8_readText 162 = .ok (.getfield 62, 3) := by decide +kernel
theorem dX8_readText_165 : decode cX8_readText 165 = .ok (.ifCond .eq 16, 3) := by decide +kernel
theorem dX8_readText_181 : decode cX8_readText 181 = .ok (.aload_n 0, 1) := by decide +kernel
theorem dX8_readText_182 : decode cX8_readText 182 = .ok (.getfield 62, 3) := by decide +kernel
theorem dX8_readText_185 : decode cX8_readText 185 = .ok (.ifCond .ne 7, 3) := by decide +kernel
theorem dX8_readText_188 : decode cX8_readText 188 = .ok (.iconst 1, 1) := by decide +kernel
theorem dX8_readText_189 : decode cX8_readText 189 = .ok (.goto 4, 3) := by decide +kernel
theorem dX8_readText_193 : decode cX8_readText 193 = .ok (.ireturn, 1) := by decide +kernel
theorem dX8_begin_0 : decode cX8_begin 0 = .ok (.aload_n 0, 1) := by decide +kernel
theorem dX8_begin_1 : decode cX8_begin 1 = .ok (.getfield 9, 3) := by decide +kernel
theorem dX8_begin_4 : decode cX8_begin 4 = .ok (.aload_n 1, 1) := by decide +kernel
theorem dX8_begin_5 : decode cX8_begin 5 = .ok (.iload_n 2, 1) := by decide +kernel
theorem dX8_begin_6 : decode cX8_begin 6 = .ok (.iload_n 3, 1) := by decide +kernel
theorem dX8_begin_7 : decode cX8_begin 7 = .ok (.iconst 0, 1) := by decide +kernel
theorem dX8_begin_8 : decode cX8_begin 8 = .ok (.invokevirtual 119, 3) := by decide +kernel
theorem dX8_begin_11 : decode cX8_begin 11 = .ok (.aload_n 0, 1) := by decide +kernel
theorem dX8_begin_12 : decode cX8_begin 12 = .ok (.iconst 0, 1) := by decide +kernel
theorem dX8_begin_13 : decode cX8_begin 13 = .ok (.putfield 62, 3) := by decide +kernel
theorem dX8_begin_16 : decode cX8_begin 16 = .ok (.aload_n 0, 1) := by decide +kernel
theorem dX8_begin_17 : decode cX8_begin 17 = .ok (.iconst 0, 1) := by decide +kernel
theorem dX8_begin_18 : decode cX8_begin 18 = .ok (.putfield 123, 3) := by decide +kernel
theorem dX8_begin_21 : decode cX8_begin 21 = .ok (.aload_n 0, 1) := by decide +kernel
theorem dX8_begin_22 : decode cX8_begin 22 = .ok (.iconst 0, 1) := by decide +kernel
theorem dX8_begin_23 : decode cX8_begin 23 = .ok (.putfield 101, 3) := by decide +kernel
theorem dX8_begin_26 : decode cX8_begin 26 = .ok (.aload_n 0, 1) := by decide +kernel
theorem dX8_begin_27 : decode cX8_begin 27 = .ok (.iconst (-1), 1) := by decide +kernel
theorem dX8_begin_28 : decode cX8_begin 28 = .ok (.putfield 79, 3) := by decide +kernel
theorem dX8_begin_31 : decode cX8_begin 31 = .ok (.aload_n 0, 1) := by decide +kernel
theorem dX8_begin_32 : decode cX8_begin 32 = .ok (.invokevirtual 98, 3) := by decide +kernel
theorem dX8_begin_35 : decode cX8_begin 35 = .ok (.return_, 1) := by decide +kernel
theorem dX8_next_0 : decode cX8_next 0 = .ok (.aload_n 0, 1) := by decide +kernel
theorem dX8_next_1 : decode cX8_next 1 = .ok (.aload_n 0, 1) := by decide +kernel
theorem dX8_next_2 : decode cX8_next 2 = .ok (.getfield 79, 3) := by decide +kernel
theorem dX8_next_5 : decode cX8_next 5 = .ok (.aload_n 0, 1) := by decide +kernel
theorem dX8_next_6 : decode cX8_next 6 = .ok (.getfield 9, 3) := by decide +kernel
theorem dX8_next_9 : decode cX8_next 9 = .ok (.getfield 126, 3) := by decide +kernel
theorem dX8_next_12 : decode cX8_next 12 = .ok (.if_icmp .ge 12, 3) := by decide +kernel
theorem dX8_next_15 : decode cX8_next 15 = .ok (.aload_n 0, 1) := by decide +kernel
theorem dX8_next_16 : decode cX8_next 16 = .ok (.getfield 79, 3) := by decide +kernel
theorem dX8_next_19 : decode cX8_next 19 = .ok (.iconst 1, 1) := by decide +kernel
theorem dX8_next_20 : decode cX8_next 20 = .ok (.iadd, 1) := by decide +kernel
theorem dX8_next_21 : decode cX8_next 21 = .ok (.goto 7, 3) := by decide +kernel
theorem dX8_next_28 : decode cX8_next 28 = .ok (.putfield 79, 3) := by decide +kernel
theorem dX8_next_31 : decode cX8_next 31 = .ok (.aload_n 0, 1) := by decide +kernel
theorem dX8_next_32 : decode cX8_next 32 = .ok (.getfield 79, 3) := by decide +kernel
theorem dX8_next_35 : decode cX8_next 35 = .ok (.ifCond .lt 45, 3) := by decide +kernel
theorem dX8_next_38 : decode cX8_next 38 = .ok (.aload_n 0, 1) := by decide +kernel
theorem dX8_next_39 : decode cX8_next 39 = .ok (.getfield 79, 3) := by decide +kernel
theorem dX8_next_42 : decode cX8_next 42 = .ok (.sipush 2000, 3) := by decide +kernel
theorem dX8_next_45 : decode cX8_next 45 = .ok (.if_icmp .gt 35, 3) := by decide +kernel
theorem dX8_next_48 : decode cX8_next 48 = .ok (.aload_n 0, 1) := by decide +kernel
theorem dX8_next_49 : decode cX8_next 49 = .ok (.aload_n 0, 1) := by decide +kernel
theorem dX8_next_50 : decode cX8_next 50 = .ok (.getfield 9, 3) := by decide +kernel
theorem dX8_next_53 : decode cX8_next 53 = .ok (.getfield 129, 3) := by decide +kernel
theorem dX8_next_56 : decode cX8_next 56 = .ok (.aload_n 0, 1) := by decide +kernel
theorem dX8_next_57 : decode cX8_next 57 = .ok (.getfield 79, 3) := by decide +kernel
theorem dX8_next_60 : decode cX8_next 60 = .ok (.iaload, 1) := by decide +kernel
theorem dX8_next_61 : decode cX8_next 61 = .ok (.putfield 39, 3) := by decide +kernel
theorem dX8_next_64 : decode cX8_next 64 = .ok (.aload_n 0, 1) := by decide +kernel
theorem dX8_next_65 : decode cX8_next 65 = .ok (.aload_n 0, 1) := by decide +kernel
theorem dX8_next_66 : decode cX8_next 66 = .ok (.getfield 9, 3) := by decide +kernel
theorem dX8_next_69 : decode cX8_next 69 = .ok (.getfield 133, 3) := by decide +kernel
theorem dX8_next_72 : decode cX8_next 72 = .ok (.aload_n 0, 1) := by decide +kernel
theorem dX8_next_73 : decode cX8_next 73 = .ok (.getfield 79, 3) := by decide +kernel
theorem dX8_next_76 : decode cX8_next 76 = .ok (.iaload, 1) := by decide +kernel
theorem dX8_next_77 : decode cX8_next 77 = .ok (.putfield 136, 3) := by decide +kernel
theorem dX8_next_80 : decode cX8_next 80 = .ok (.return_, 1) := by decide +kernel
theorem dX8_expectEnd_0 : decode cX8_expectEnd 0 = .ok (.aload_n 0, 1) := by decide +kernel
theorem dX8_expectEnd_1 : decode cX8_expectEnd 1 = .ok (.getfield 39, 3) := by decide +kernel
theorem dX8_expectEnd_4 : decode cX8_expectEnd 4 = .ok (.ifCond .eq 8, 3) := by decide +kernel
theorem dX8_expectEnd_12 : decode cX8_expectEnd 12 = .ok (.return_, 1) := by decide +kernel
theorem dX11_read_0 : decode cX11_read 0 = .ok (.aload_n 0, 1) := by decide +kernel
theorem dX11_read_1 : decode cX11_read 1 = .ok (.getfield 16, 3) := by decide +kernel
theorem dX11_read_4 : decode cX11_read 4 = .ok (.getfield 122, 3) := by decide +kernel
theorem dX11_read_7 : decode cX11_read 7 = .ok (.ifCond .eq 6, 3) := by decide +kernel
theorem dX11_read_13 : decode cX11_read 13 = .ok (.aload_n 0, 1) := by decide +kernel
theorem dX11_read_14 : decode cX11_read 14 = .ok (.invokevirtual 230, 3) := by decide +kernel
theorem dX11_read_17 : decode cX11_read 17 = .ok (.istore_n 1, 1) := by decide +kernel
theorem dX11_read_18 : decode cX11_read 18 = .ok (.aload_n 0, 1) := by decide +kernel
theorem dX11_read_19 : decode cX11_read 19 = .ok (.getfield 23, 3) := by decide +kernel
theorem dX11_read_22 : decode cX11_read 22 = .ok (.getfield 210, 3) := by decide +kernel
theorem dX11_read_25 : decode cX11_read 25 = .ok (.istore_n 2, 1) := by decide +kernel
theorem dX11_read_26 : decode cX11_read 26 = .ok (.aload_n 0, 1) := by decide +kernel
theorem dX11_read_27 : decode cX11_read 27 = .ok (.getfield 23, 3) := by decide +kernel
theorem dX11_read_30 : decode cX11_read 30 = .ok (.getfield 160, 3) := by decide +kernel
theorem dX11_read_33 : decode cX11_read 33 = .ok (.istore_n 3, 1) := by decide +kernel
theorem dX11_read_34 : decode cX11_read 34 = .ok (.aload_n 0, 1) := by decide +kernel
theorem dX11_read_35 : decode cX11_read 35 = .ok (.getfield 23, 3) := by decide +kernel
theorem dX11_read_38 : decode cX11_read 38 = .ok (.getfield 233, 3) := by decide +kernel
theorem dX11_read_41 : decode cX11_read 41 = .ok (.istore 4, 2) := by decide +kernel
theorem dX11_read_43 : decode cX11_read 43 = .ok (.aload_n 0, 1) := by decide +kernel
theorem dX11_read_44 : decode cX11_read 44 = .ok (.getfield 48, 3) := by decide +kernel
theorem dX11_read_47 : decode cX11_read 47 = .ok (.aload_n 0, 1) := by decide +kernel
theorem dX11_read_48 : decode cX11_read 48 = .ok (.getfield 9, 3) := by decide +kernel
theorem dX11_read_51 : decode cX11_read 51 = .ok (.iconst 0, 1) := by decide +kernel
theorem dX11_read_52 : decode cX11_read 52 = .ok (.iload_n 1, 1) := by decide +kernel
theorem dX11_read_53 : decode cX11_read 53 = .ok (.invokevirtual 166, 3) := by decide +kernel
theorem dX11_read_56 : decode cX11_read 56 = .ok (.ifCond .ne 8, 3) := by decide +kernel
theorem dX11_read_64 : decode cX11_read 64 = .ok (.aload_n 0, 1) := by decide +kernel
theorem dX11_read_65 : decode cX11_read 65 = .ok (.getfield 16, 3) := by decide +kernel
theorem dX11_read_68 : decode cX11_read 68 = .ok (.iconst 3, 1) := by decide +kernel
theorem dX11_read_69 : decode cX11_read 69 = .ok (.iload_n 1, 1) := by decide +kernel
theorem dX11_read_70 : decode cX11_read 70 = .ok (.iadd, 1) := by decide +kernel
theorem dX11_read_71 : decode cX11_read 71 = .ok (.invokevirtual 239, 3) := by decide +kernel
theorem dX11_read_74 : decode cX11_read 74 = .ok (.ifCond .ne 17, 3) := by decide +kernel
theorem dX11_read_91 : decode cX11_read 91 = .ok (.aload_n 0, 1) := by decide +kernel
theorem dX11_read_92 : decode cX11_read 92 = .ok (.getfield 23, 3) := by decide +kernel
theorem dX11_read_95 : decode cX11_read 95 = .ok (.iload_n 3, 1) := by decide +kernel
theorem dX11_read_96 : decode cX11_read 96 = .ok (.invokevirtual 170, 3) := by decide +kernel
theorem dX11_read_99 : decode cX11_read 99 = .ok (.aload_n 0, 1) := by decide +kernel
theorem dX11_read_100 : decode cX11_read 100 = .ok (.getfield 16, 3) := by decide +kernel
theorem dX11_read_103 : decode cX11_read 103 = .ok (.aload_n 0, 1) := by decide +kernel
theorem dX11_read_104 : decode cX11_read 104 = .ok (.getfield 9, 3) := by decide +kernel
theorem dX11_read_107 : decode cX11_read 107 = .ok (.iload_n 1, 1) := by decide +kernel
theorem dX11_read_108 : decode cX11_read 108 = .ok (.invokevirtual 246, 3) := by decide +kernel
theorem dX11_read_111 : decode cX11_read 111 = .ok (.aload_n 0, 1) := by decide +kernel
theorem dX11_read_112 : decode cX11_read 112 = .ok (.dup, 1) := by decide +kernel
theorem dX11_read_113 : decode cX11_read 113 = .ok (.getfield 137, 3) := by decide +kernel
theorem dX11_read_116 : decode cX11_read 116 = .ok (.iconst 1, 1) := by decide +kernel
theorem dX11_read_117 : decode cX11_read 117 = .ok (.iadd, 1) := by decide +kernel
theorem dX11_read_118 : decode cX11_read 118 = .ok (.putfield 137, 3) := by decide +kernel
theorem dX11_read_121 : decode cX11_read 121 = .ok (.aload_n 0, 1) := by decide +kernel
theorem dX11_read_122 : decode cX11_read 122 = .ok (.getfield 23, 3) := by decide +kernel
theorem dX11_read_125 : decode cX11_read 125 = .ok (.getfield 160, 3) := by decide +kernel
theorem dX11_read_128 : decode cX11_read 128 = .ok (.iload_n 3, 1) := by decide +kernel
theorem dX11_read_129 : decode cX11_read 129 = .ok (.isub, 1) := by decide +kernel
theorem dX11_read_130 : decode cX11_read 130 = .ok (.ireturn, 1) := by decide +kernel
set_option maxHeartbeats 400000000 in
set_option maxRecDepth 100000 in
theorem c_X8_next_0 (l : Launch) (E : kE) (D : va_G) (cI cJ cB cZ : ClassId) (h0 : Nat) (f0 : List Value) (h1 : Nat) (f1 : List Value) (h2 : Nat) (g0 : Nat → Int32) (h3 : Nat) (g1 : Nat → Int32) (e0 : f0[6]? = some (.int (-1))) (e1 : f0[0]? = some (.ref h1)) (e2 : f1[5]? = some (.int 0)) (e3 : f1[1]? = some (.ref h2)) (e4 : g0 0 = 0) (e5 : f0[7]? = some (.int 0)) (e6 : f1[2]? = some (.ref h3)) (e7 : g1 0 = 0) (e8 : f0[8]? = some (.int 0)) : kV l E D (kT cI cJ cB cZ) yX8_next vW_X8_next ({ frames := 0, cells := 0, slots := 0, locals := 0 }) [.ref h0] [(h0, .inr (8, f0)), (h1, .inr (3, f1)), (h2, .inl (cI, 2001, .inl g0)), (h3, .inl (cI, 2001, .inl g1))] (fun _ : Unit => [(h0, .inr (8, (((f0.set 6 (.int 0)).set 7 (.int 0)).set 8 (.int 0)))), (h1, .inr (3, f1)), (h2, .inl (cI, 2001, .inl g0)), (h3, .inl (cI, 2001, .inl g1))]) 0 0 := by
  intro sz
  refine Met.ofW (cc := cX8_next) (maxL := 1) (ret := none) (by decide) rfl ?_
  intro p e s m args below meth c s₁ B hml hv
  obtain ⟨rfl, hsz, hP, hK, hD0, hN, hX⟩ := hv
  have hx := B.exec
  have hb := B.bytes
  have hr := B.returns
  have hts := atoms_spec (ws := vW_X8_next) B.pre
  have hown : s.vm.findClass RX8 = some m.cls := findClass_of_methodNamed B.named
  have hlocks := B.notSynchronized
  have hin8 : ∀ w ∈ wsX80, w ∈ vW_X8_next := u9_X8_next_wsX80
  have hin3 : ∀ w ∈ wsX30, w ∈ vW_X8_next := u9_X8_next_wsX30
  subst hsz
  have hD := hD0.self (sz := s.heap.size)
  have hAE := k_AE hD0 hX
  generalize hAe : va_A [(h0, .inr (8, f0)), (h1, .inr (3, f1)), (h2, .inl (cI, 2001, .inl g0)), (h3, .inl (cI, 2001, .inl g1))] s.heap.size = A at hD hAE ⊢
  have hA : ∀ q : Nat, s.heap.size ≤ q → A q := fun q h => by rw [← hAe]; exact Or.inr h
  have hS : va_S A s.heap s.heap [] := va_S.rf
  have hP : va_P D vwCl [(h0, .inr (8, f0)), (h1, .inr (3, f1)), (h2, .inl (cI, 2001, .inl g0)), (h3, .inl (cI, 2001, .inl g1))] s.heap := hP
  have hl := lv_entry ([.ref h0] : List Value) (n := 1) (Nat.le_of_ble_eq_true rfl)
  rw [lg_entry_eq]
  generalize (lg_sl ([.ref h0]) ++ List.replicate (1 - (lg_sl ([.ref h0])).length) Slot.unset).toArray = ls at hl ⊢
  have hl : lv_has ls 1 [(0, .ref h0)] := hl
  refine lv_aload_n hx hb dX8_next_0 rfl (lv_at hl 0 rfl) ?_
  refine lv_aload_n hx hb dX8_next_1 rfl (lv_at hl 0 rfl) ?_
  refine k_get (D := D) (ci := 8) (v := .int (-1)) (N := 15) hx hb hts hin8 hown hK hP 0 rfl rfl (by decide) f9_8_6 (hts (.fieldLink RX8 79 "IntegerHouse$Reader" "at" "I") (o9_X8_next _ (List.mem_of_getElem? (i := 0) rfl))) e0 dX8_next_2 ?_
  refine lv_aload_n hx hb dX8_next_5 rfl (lv_at hl 0 rfl) ?_
  refine k_get (D := D) (ci := 8) (v := .ref h1) (N := 15) hx hb hts hin8 hown hK hP 0 rfl rfl (by decide) f9_8_0 (hts (.fieldLink RX8 9 "IntegerHouse$Reader" "lexer" "LIntegerHouse$Lexer;") (o9_X8_next _ (List.mem_of_getElem? (i := 1) rfl))) e1 dX8_next_6 ?_
  refine k_getN (host := "IntegerHouse") (D := D) (ci := 3) (v := .int 0) (N := 9) hx hb hts hin3 hown hK hP 1 rfl rfl (by decide) f9_3_5 (va_Nw.use rfl (hN.1 ("IntegerHouse$Reader", 126, "IntegerHouse$Lexer", "size", "I", "IntegerHouse") (List.mem_of_getElem? (i := 25) rfl))) e2 dX8_next_9 ?_
  refine lv_icmp_ge (tgt := 24) hx hb dX8_next_12 (by decide) (fun c9 => absurd c9 (by decide)) (fun _ => ?_)
  refine lv_aload_n hx hb dX8_next_15 rfl (lv_at hl 0 rfl) ?_
  refine k_get (D := D) (ci := 8) (v := .int (-1)) (N := 15) hx hb hts hin8 hown hK hP 0 rfl rfl (by decide) f9_8_6 (hts (.fieldLink RX8 79 "IntegerHouse$Reader" "at" "I") (o9_X8_next _ (List.mem_of_getElem? (i := 0) rfl))) e0 dX8_next_16 ?_
  refine lv_iconst (v := 1) hx hb dX8_next_19 (by decide) ?_
  refine lv_iadd hx hb dX8_next_20 ?_
  refine k_topi (y := 0) (by decide) ?_
  refine lv_goto (tgt := 28) hx hb dX8_next_21 (by decide) ?_
  refine k_put (D := D) (ci := 8) (v := .int 0) (ty := .int) (N := 15) hx hb hts hin8 tyX8 tyX8_ok nmX8 hown hK hP hD hS 0 rfl rfl (by decide) f9_8_6 (hts (.fieldLink RX8 79 "IntegerHouse$Reader" "at" "I") (o9_X8_next _ (List.mem_of_getElem? (i := 0) rfl))) rfl pd_2 rfl rfl (k_len e0) dX8_next_28 (fun H locs hP hD hS => ?_)
  have hP : va_P D vwCl [(h0, .inr (8, (f0.set 6 (.int 0)))), (h1, .inr (3, f1)), (h2, .inl (cI, 2001, .inl g0)), (h3, .inl (cI, 2001, .inl g1))] H := hP
  have hD : va_D A [(h0, .inr (8, (f0.set 6 (.int 0)))), (h1, .inr (3, f1)), (h2, .inl (cI, 2001, .inl g0)), (h3, .inl (cI, 2001, .inl g1))] := hD
  refine lv_aload_n hx hb dX8_next_31 rfl (lv_at hl 0 rfl) ?_
  refine k_get (D := D) (ci := 8) (v := .int 0) (N := 15) hx hb hts hin8 hown hK hP 0 rfl rfl (by decide) f9_8_6 (hts (.fieldLink RX8 79 "IntegerHouse$Reader" "at" "I") (o9_X8_next _ (List.mem_of_getElem? (i := 0) rfl))) (k_set e0) dX8_next_32 ?_
  refine lv_if_lt (tgt := 80) hx hb dX8_next_35 (by decide) (fun c9 => absurd c9 (by decide)) (fun _ => ?_)
  refine lv_aload_n hx hb dX8_next_38 rfl (lv_at hl 0 rfl) ?_
  refine k_get (D := D) (ci := 8) (v := .int 0) (N := 15) hx hb hts hin8 hown hK hP 0 rfl rfl (by decide) f9_8_6 (hts (.fieldLink RX8 79 "IntegerHouse$Reader" "at" "I") (o9_X8_next _ (List.mem_of_getElem? (i := 0) rfl))) (k_set e0) dX8_next_39 ?_
  refine lv_sipush (v := 2000) hx hb dX8_next_42 (by decide) ?_
  refine lv_icmp_gt (tgt := 80) hx hb dX8_next_45 (by decide) (fun c9 => absurd c9 (by decide)) (fun _ => ?_)
  refine lv_aload_n hx hb dX8_next_48 rfl (lv_at hl 0 rfl) ?_
  refine lv_aload_n hx hb dX8_next_49 rfl (lv_at hl 0 rfl) ?_
  refine k_get (D := D) (ci := 8) (v := .ref h1) (N := 15) hx hb hts hin8 hown hK hP 0 rfl rfl (by decide) f9_8_0 (hts (.fieldLink RX8 9 "IntegerHouse$Reader" "lexer" "LIntegerHouse$Lexer;") (o9_X8_next _ (List.mem_of_getElem? (i := 1) rfl))) (k_ne (by decide) e1) dX8_next_50 ?_
  refine k_getN (host := "IntegerHouse") (D := D) (ci := 3) (v := .ref h2) (N := 9) hx hb hts hin3 hown hK hP 1 rfl rfl (by decide) f9_3_1 (va_Nw.use rfl (hN.1 ("IntegerHouse$Reader", 129, "IntegerHouse$Lexer", "kinds", "[I", "IntegerHouse") (List.mem_of_getElem? (i := 23) rfl))) e3 dX8_next_53 ?_
  refine lv_aload_n hx hb dX8_next_56 rfl (lv_at hl 0 rfl) ?_
  refine k_get (D := D) (ci := 8) (v := .int 0) (N := 15) hx hb hts hin8 hown hK hP 0 rfl rfl (by decide) f9_8_6 (hts (.fieldLink RX8 79 "IntegerHouse$Reader" "at" "I") (o9_X8_next _ (List.mem_of_getElem? (i := 0) rfl))) (k_set e0) dX8_next_57 ?_
  refine va_iald hx hb hK hP 2 0 rfl rfl (k_in (by decide)) dX8_next_60 ?_
  refine k_topi (y := 0) e4 ?_
  refine k_put (D := D) (ci := 8) (v := .int 0) (ty := .int) (N := 15) hx hb hts hin8 tyX8 tyX8_ok nmX8 hown hK hP hD hS 0 rfl rfl (by decide) f9_8_7 (hts (.fieldLink RX8 39 "IntegerHouse$Reader" "kind" "I") (o9_X8_next _ (List.mem_of_getElem? (i := 2) rfl))) rfl pd_2 rfl rfl (k_len (k_ne (by decide) e5)) dX8_next_61 (fun H locs hP hD hS => ?_)
  have hP : va_P D vwCl [(h0, .inr (8, ((f0.set 6 (.int 0)).set 7 (.int 0)))), (h1, .inr (3, f1)), (h2, .inl (cI, 2001, .inl g0)), (h3, .inl (cI, 2001, .inl g1))] H := hP
  have hD : va_D A [(h0, .inr (8, ((f0.set 6 (.int 0)).set 7 (.int 0)))), (h1, .inr (3, f1)), (h2, .inl (cI, 2001, .inl g0)), (h3, .inl (cI, 2001, .inl g1))] := hD
  refine lv_aload_n hx hb dX8_next_64 rfl (lv_at hl 0 rfl) ?_
  refine lv_aload_n hx hb dX8_next_65 rfl (lv_at hl 0 rfl) ?_
  refine k_get (D := D) (ci := 8) (v := .ref h1) (N := 15) hx hb hts hin8 hown hK hP 0 rfl rfl (by decide) f9_8_0 (hts (.fieldLink RX8 9 "IntegerHouse$Reader" "lexer" "LIntegerHouse$Lexer;") (o9_X8_next _ (List.mem_of_getElem? (i := 1) rfl))) (k_ne (by decide) (k_ne (by decide) e1)) dX8_next_66 ?_
  refine k_getN (host := "IntegerHouse") (D := D) (ci := 3) (v := .ref h3) (N := 9) hx hb hts hin3 hown hK hP 1 rfl rfl (by decide) f9_3_2 (va_Nw.use rfl (hN.1 ("IntegerHouse$Reader", 133, "IntegerHouse$Lexer", "spots", "[I", "IntegerHouse") (List.mem_of_getElem? (i := 24) rfl))) e6 dX8_next_69 ?_
  refine lv_aload_n hx hb dX8_next_72 rfl (lv_at hl 0 rfl) ?_
  refine k_get (D := D) (ci := 8) (v := .int 0) (N := 15) hx hb hts hin8 hown hK hP 0 rfl rfl (by decide) f9_8_6 (hts (.fieldLink RX8 79 "IntegerHouse$Reader" "at" "I") (o9_X8_next _ (List.mem_of_getElem? (i := 0) rfl))) (k_ne (by decide) (k_set e0)) dX8_next_73 ?_
  refine va_iald hx hb hK hP 3 0 rfl rfl (k_in (by decide)) dX8_next_76 ?_
  refine k_topi (y := 0) e7 ?_
  refine k_put (D := D) (ci := 8) (v := .int 0) (ty := .int) (N := 15) hx hb hts hin8 tyX8 tyX8_ok nmX8 hown hK hP hD hS 0 rfl rfl (by decide) f9_8_8 (hts (.fieldLink RX8 136 "IntegerHouse$Reader" "place" "I") (o9_X8_next _ (List.mem_of_getElem? (i := 3) rfl))) rfl pd_2 rfl rfl (k_len (k_ne (by decide) (k_ne (by decide) e8))) dX8_next_77 (fun H locs hP hD hS => ?_)
  have hP : va_P D vwCl [(h0, .inr (8, (((f0.set 6 (.int 0)).set 7 (.int 0)).set 8 (.int 0)))), (h1, .inr (3, f1)), (h2, .inl (cI, 2001, .inl g0)), (h3, .inl (cI, 2001, .inl g1))] H := hP
  have hD : va_D A [(h0, .inr (8, (((f0.set 6 (.int 0)).set 7 (.int 0)).set 8 (.int 0)))), (h1, .inr (3, f1)), (h2, .inl (cI, 2001, .inl g0)), (h3, .inl (cI, 2001, .inl g1))] := hD
  exact W.vret hx hb hr (fun t ht hW => ⟨⟨(), rfl, trivial, kB_mk ht hW hP hK hD⟩, hS.F ht⟩) hS.2.2 dX8_next_80
set_option maxHeartbeats 400000000 in
set_option maxRecDepth 100000 in
theorem c_X8_begin_0 (l : Launch) (E : kE) (D : va_G) (cI cJ cB cZ : ClassId) (h0 : Nat) (h1 : Nat) (f0 : List Value) (h2 : Nat) (f1 : List Value) (h3 : Nat) (h4 : Nat) (h5 : Nat) (g0 : Nat → Int32) (g1 : Nat → Int32) (e0 : f0[0]? = some (.ref h2)) (e1 : f1[6]? = some (.ref h3)) (e2 : f1[7]? = some (.int 0)) (e3 : f1[8]? = some (.int 0)) (e4 : f1[5]? = some (.int 0)) (e5 : f1[1]? = some (.ref h4)) (e6 : f1[2]? = some (.ref h5)) (e7 : f0[3]? = some (.int 0)) (e8 : f0[4]? = some (.int 0)) (e9 : f0[5]? = some (.int 0)) (e10 : f0[6]? = some (.int 0)) (e11 : f0[7]? = some (.int 0)) (e12 : f0[8]? = some (.int 0)) : kV l E D (kT cI cJ cB cZ) yX8_begin vW_X8_begin ({ frames := 2, cells := 0, slots := 0, locals := 50 }) [.ref h0, .ref h1, .int 0, .int 0] [(h0, .inr (8, f0)), (h2, .inr (3, f1)), (h4, .inl (cI, 2001, .inl g0)), (h5, .inl (cI, 2001, .inl g1))] (fun _ : Unit => [(h0, .inr (8, (((((((f0.set 3 (.int 0)).set 4 (.int 0)).set 5 (.int 0)).set 6 (.int (-1))).set 6 (.int 0)).set 7 (.int 0)).set 8 (.int 0)))), (h2, .inr (3, ((((f1.set 6 (.ref h1)).set 7 (.int 0)).set 8 (.int 0)).set 5 (.int 0)))), (h4, .inl (cI, 2001, .inl (upd g0 0 0))), (h5, .inl (cI, 2001, .inl (upd g1 0 0)))]) 0 0 := by
  intro sz
  refine Met.ofW (cc := cX8_begin) (maxL := 4) (ret := none) (by decide) rfl ?_
  intro p e s m args below meth c s₁ B hml hv
  obtain ⟨rfl, hsz, hP, hK, hD0, hN, hX⟩ := hv
  have hx := B.exec
  have hb := B.bytes
  have hr := B.returns
  have hts := atoms_spec (ws := vW_X8_begin) B.pre
  have hown : s.vm.findClass RX8 = some m.cls := findClass_of_methodNamed B.named
  have hlocks := B.notSynchronized
  have hin8 : ∀ w ∈ wsX80, w ∈ vW_X8_begin := u9_X8_begin_wsX80
  subst hsz
  have hD := hD0.self (sz := s.heap.size)
  have hAE := k_AE hD0 hX
  generalize hAe : va_A [(h0, .inr (8, f0)), (h2, .inr (3, f1)), (h4, .inl (cI, 2001, .inl g0)), (h5, .inl (cI, 2001, .inl g1))] s.heap.size = A at hD hAE ⊢
  have hA : ∀ q : Nat, s.heap.size ≤ q → A q := fun q h => by rw [← hAe]; exact Or.inr h
  have hS : va_S A s.heap s.heap [] := va_S.rf
  have hP : va_P D vwCl [(h0, .inr (8, f0)), (h2, .inr (3, f1)), (h4, .inl (cI, 2001, .inl g0)), (h5, .inl (cI, 2001, .inl g1))] s.heap := hP
  have hl := lv_entry ([.ref h0, .ref h1, .int 0, .int 0] : List Value) (n := 4) (Nat.le_of_ble_eq_true rfl)
  rw [lg_entry_eq]
  generalize (lg_sl ([.ref h0, .ref h1, .int 0, .int 0]) ++ List.replicate (4 - (lg_sl ([.ref h0, .ref h1, .int 0, .int 0])).length) Slot.unset).toArray = ls at hl ⊢
  have hl : lv_has ls 4 [(0, .ref h0), (1, .ref h1), (2, .int 0), (3, .int 0)] := hl
  refine lv_aload_n hx hb dX8_begin_0 rfl (lv_at hl 0 rfl) ?_
  refine k_get (D := D) (ci := 8) (v := .ref h2) (N := 15) hx hb hts hin8 hown hK hP 0 rfl rfl (by decide) f9_8_0 (hts (.fieldLink RX8 9 "IntegerHouse$Reader" "lexer" "LIntegerHouse$Lexer;") (o9_X8_begin _ (List.mem_of_getElem? (i := 0) rfl))) e0 dX8_begin_1 ?_
  refine lv_aload_n hx hb dX8_begin_4 rfl (lv_at hl 1 rfl) ?_
  refine lv_iload_n hx hb dX8_begin_5 rfl (lv_at hl 2 rfl) ?_
  refine lv_iload_n hx hb dX8_begin_6 rfl (lv_at hl 3 rfl) ?_
  refine lv_iconst (v := 0) hx hb dX8_begin_7 (by decide) ?_
  refine k_cVv (As := [.ref h1, .int 0, .int 0, .int 0]) (rest := []) (wc := [(h2, .inr (3, f1)), (h4, .inl (cI, 2001, .inl g0)), (h5, .inl (cI, 2001, .inl g1))]) (wr := [(h0, .inr (8, f0))]) (w1 := (fun _ : Unit => [(h2, .inr (3, ((((f1.set 6 (.ref h1)).set 7 (.int 0)).set 8 (.int 0)).set 5 (.int 0)))), (h4, .inl (cI, 2001, .inl (upd g0 0 0))), (h5, .inl (cI, 2001, .inl (upd g1 0 0)))])) ⟨hx, hb, hml, hown, hts⟩ hN hX hAE hK hP hD hS hA [1, 2, 3] [0] (ci := 3) rfl rfl rfl rfl (by decide +kernel) (by decide +kernel) (by decide +kernel) (c_X3_scan_0 l E D cI cJ cB cZ h2 h1 f1 h3 h4 g0 h5 g1 e1 e2 e3 e4 e5 e6) (cwV 4 hts g9_X8_begin_X3_scan_119 rfl rfl rfl (by decide +kernel) ⟨Nat.le_of_ble_eq_true rfl, Nat.le_of_ble_eq_true rfl⟩) rfl hl.1 (Nat.le_of_ble_eq_true rfl) dX8_begin_8 ⟨Nat.le_of_ble_eq_true rfl, Nat.le_of_ble_eq_true rfl⟩ (fun _ H locs hP hD hS => ?_)
  have hP : va_P D vwCl [(h0, .inr (8, f0)), (h2, .inr (3, ((((f1.set 6 (.ref h1)).set 7 (.int 0)).set 8 (.int 0)).set 5 (.int 0)))), (h4, .inl (cI, 2001, .inl (upd g0 0 0))), (h5, .inl (cI, 2001, .inl (upd g1 0 0)))] H := hP
  have hD : va_D A [(h0, .inr (8, f0)), (h2, .inr (3, ((((f1.set 6 (.ref h1)).set 7 (.int 0)).set 8 (.int 0)).set 5 (.int 0)))), (h4, .inl (cI, 2001, .inl (upd g0 0 0))), (h5, .inl (cI, 2001, .inl (upd g1 0 0)))] := hD
  refine lv_aload_n hx hb dX8_begin_11 rfl (lv_at hl 0 rfl) ?_
  refine lv_iconst (v := 0) hx hb dX8_begin_12 (by decide) ?_
  refine k_put (D := D) (ci := 8) (v := .int 0) (ty := .int) (N := 15) hx hb hts hin8 tyX8 tyX8_ok nmX8 hown hK hP hD hS 0 rfl rfl (by decide) f9_8_3 (hts (.fieldLink RX8 62 "IntegerHouse$Reader" "faultKind" "I") (o9_X8_begin _ (List.mem_of_getElem? (i := 5) rfl))) rfl pd_2 rfl rfl (k_len e7) dX8_begin_13 (fun H locs hP hD hS => ?_)
  have hP : va_P D vwCl [(h0, .inr (8, (f0.set 3 (.int 0)))), (h2, .inr (3, ((((f1.set 6 (.ref h1)).set 7 (.int 0)).set 8 (.int 0)).set 5 (.int 0)))), (h4, .inl (cI, 2001, .inl (upd g0 0 0))), (h5, .inl (cI, 2001, .inl (upd g1 0 0)))] H := hP
  have hD : va_D A [(h0, .inr (8, (f0.set 3 (.int 0)))), (h2, .inr (3, ((((f1.set 6 (.ref h1)).set 7 (.int 0)).set 8 (.int 0)).set 5 (.int 0)))), (h4, .inl (cI, 2001, .inl (upd g0 0 0))), (h5, .inl (cI, 2001, .inl (upd g1 0 0)))] := hD
  refine lv_aload_n hx hb dX8_begin_16 rfl (lv_at hl 0 rfl) ?_
  refine lv_iconst (v := 0) hx hb dX8_begin_17 (by decide) ?_
  refine k_put (D := D) (ci := 8) (v := .int 0) (ty := .int) (N := 15) hx hb hts hin8 tyX8 tyX8_ok nmX8 hown hK hP hD hS 0 rfl rfl (by decide) f9_8_4 (hts (.fieldLink RX8 123 "IntegerHouse$Reader" "faultPlace" "I") (o9_X8_begin _ (List.mem_of_getElem? (i := 6) rfl))) rfl pd_2 rfl rfl (k_len (k_ne (by decide) e8)) dX8_begin_18 (fun H locs hP hD hS => ?_)
  have hP : va_P D vwCl [(h0, .inr (8, ((f0.set 3 (.int 0)).set 4 (.int 0)))), (h2, .inr (3, ((((f1.set 6 (.ref h1)).set 7 (.int 0)).set 8 (.int 0)).set 5 (.int 0)))), (h4, .inl (cI, 2001, .inl (upd g0 0 0))), (h5, .inl (cI, 2001, .inl (upd g1 0 0)))] H := hP
  have hD : va_D A [(h0, .inr (8, ((f0.set 3 (.int 0)).set 4 (.int 0)))), (h2, .inr (3, ((((f1.set 6 (.ref h1)).set 7 (.int 0)).set 8 (.int 0)).set 5 (.int 0)))), (h4, .inl (cI, 2001, .inl (upd g0 0 0))), (h5, .inl (cI, 2001, .inl (upd g1 0 0)))] := hD
  refine lv_aload_n hx hb dX8_begin_21 rfl (lv_at hl 0 rfl) ?_
  refine lv_iconst (v := 0) hx hb dX8_begin_22 (by decide) ?_
  refine k_put (D := D) (ci := 8) (v := .int 0) (ty := .boolean) (N := 15) hx hb hts hin8 tyX8 tyX8_ok nmX8 hown hK hP hD hS 0 rfl rfl (by decide) f9_8_5 (hts (.fieldLink RX8 101 "IntegerHouse$Reader" "hasFormula" "Z") (o9_X8_begin _ (List.mem_of_getElem? (i := 7) rfl))) rfl pd_18 rfl rfl (k_len (k_ne (by decide) (k_ne (by decide) e9))) dX8_begin_23 (fun H locs hP hD hS => ?_)
  have hP : va_P D vwCl [(h0, .inr (8, (((f0.set 3 (.int 0)).set 4 (.int 0)).set 5 (.int 0)))), (h2, .inr (3, ((((f1.set 6 (.ref h1)).set 7 (.int 0)).set 8 (.int 0)).set 5 (.int 0)))), (h4, .inl (cI, 2001, .inl (upd g0 0 0))), (h5, .inl (cI, 2001, .inl (upd g1 0 0)))] H := hP
  have hD : va_D A [(h0, .inr (8, (((f0.set 3 (.int 0)).set 4 (.int 0)).set 5 (.int 0)))), (h2, .inr (3, ((((f1.set 6 (.ref h1)).set 7 (.int 0)).set 8 (.int 0)).set 5 (.int 0)))), (h4, .inl (cI, 2001, .inl (upd g0 0 0))), (h5, .inl (cI, 2001, .inl (upd g1 0 0)))] := hD
  refine lv_aload_n hx hb dX8_begin_26 rfl (lv_at hl 0 rfl) ?_
  refine lv_iconst (v := (-1)) hx hb dX8_begin_27 (by decide) ?_
  refine k_put (D := D) (ci := 8) (v := .int (-1)) (ty := .int) (N := 15) hx hb hts hin8 tyX8 tyX8_ok nmX8 hown hK hP hD hS 0 rfl rfl (by decide) f9_8_6 (hts (.fieldLink RX8 79 "IntegerHouse$Reader" "at" "I") (o9_X8_begin _ (List.mem_of_getElem? (i := 8) rfl))) rfl pd_2 rfl rfl (k_len (k_ne (by decide) (k_ne (by decide) (k_ne (by decide) e10)))) dX8_begin_28 (fun H locs hP hD hS => ?_)
  have hP : va_P D vwCl [(h0, .inr (8, ((((f0.set 3 (.int 0)).set 4 (.int 0)).set 5 (.int 0)).set 6 (.int (-1))))), (h2, .inr (3, ((((f1.set 6 (.ref h1)).set 7 (.int 0)).set 8 (.int 0)).set 5 (.int 0)))), (h4, .inl (cI, 2001, .inl (upd g0 0 0))), (h5, .inl (cI, 2001, .inl (upd g1 0 0)))] H := hP
  have hD : va_D A [(h0, .inr (8, ((((f0.set 3 (.int 0)).set 4 (.int 0)).set 5 (.int 0)).set 6 (.int (-1))))), (h2, .inr (3, ((((f1.set 6 (.ref h1)).set 7 (.int 0)).set 8 (.int 0)).set 5 (.int 0)))), (h4, .inl (cI, 2001, .inl (upd g0 0 0))), (h5, .inl (cI, 2001, .inl (upd g1 0 0)))] := hD
  refine lv_aload_n hx hb dX8_begin_31 rfl (lv_at hl 0 rfl) ?_
  refine k_cVv (As := []) (rest := []) (wc := [(h0, .inr (8, ((((f0.set 3 (.int 0)).set 4 (.int 0)).set 5 (.int 0)).set 6 (.int (-1))))), (h2, .inr (3, ((((f1.set 6 (.ref h1)).set 7 (.int 0)).set 8 (.int 0)).set 5 (.int 0)))), (h4, .inl (cI, 2001, .inl (upd g0 0 0))), (h5, .inl (cI, 2001, .inl (upd g1 0 0)))]) (wr := []) (w1 := (fun _ : Unit => [(h0, .inr (8, (((((((f0.set 3 (.int 0)).set 4 (.int 0)).set 5 (.int 0)).set 6 (.int (-1))).set 6 (.int 0)).set 7 (.int 0)).set 8 (.int 0)))), (h2, .inr (3, ((((f1.set 6 (.ref h1)).set 7 (.int 0)).set 8 (.int 0)).set 5 (.int 0)))), (h4, .inl (cI, 2001, .inl (upd g0 0 0))), (h5, .inl (cI, 2001, .inl (upd g1 0 0)))])) ⟨hx, hb, hml, hown, hts⟩ hN hX hAE hK hP hD hS hA [0, 1, 2, 3] [] (ci := 8) rfl rfl rfl rfl (by decide +kernel) (by decide +kernel) (by decide +kernel) (c_X8_next_0 l E D cI cJ cB cZ h0 (((((f0.set 3 (.int 0)).set 4 (.int 0)).set 5 (.int 0)).set 6 (.int (-1)))) h2 (((((f1.set 6 (.ref h1)).set 7 (.int 0)).set 8 (.int 0)).set 5 (.int 0))) h4 ((upd g0 0 0)) h5 ((upd g1 0 0)) (k_set (k_ne (by decide) (k_ne (by decide) (k_ne (by decide) e10)))) (k_ne (by decide) (k_ne (by decide) (k_ne (by decide) (k_ne (by decide) e0)))) (k_set (k_ne (by decide) (k_ne (by decide) (k_ne (by decide) e4)))) (k_ne (by decide) (k_ne (by decide) (k_ne (by decide) (k_ne (by decide) e5)))) rfl (k_ne (by decide) (k_ne (by decide) (k_ne (by decide) (k_ne (by decide) e11)))) (k_ne (by decide) (k_ne (by decide) (k_ne (by decide) (k_ne (by decide) e6)))) rfl (k_ne (by decide) (k_ne (by decide) (k_ne (by decide) (k_ne (by decide) e12))))) (cwV 0 hts g9_X8_begin_X8_next_98 rfl rfl rfl (by decide +kernel) ⟨Nat.le_of_ble_eq_true rfl, Nat.le_of_ble_eq_true rfl⟩) rfl hl.1 (Nat.le_of_ble_eq_true rfl) dX8_begin_32 ⟨Nat.le_of_ble_eq_true rfl, Nat.le_of_ble_eq_true rfl⟩ (fun _ H locs hP hD hS => ?_)
  have hP : va_P D vwCl [(h0, .inr (8, (((((((f0.set 3 (.int 0)).set 4 (.int 0)).set 5 (.int 0)).set 6 (.int (-1))).set 6 (.int 0)).set 7 (.int 0)).set 8 (.int 0)))), (h2, .inr (3, ((((f1.set 6 (.ref h1)).set 7 (.int 0)).set 8 (.int 0)).set 5 (.int 0)))), (h4, .inl (cI, 2001, .inl (upd g0 0 0))), (h5, .inl (cI, 2001, .inl (upd g1 0 0)))] H := hP
  have hD : va_D A [(h0, .inr (8, (((((((f0.set 3 (.int 0)).set 4 (.int 0)).set 5 (.int 0)).set 6 (.int (-1))).set 6 (.int 0)).set 7 (.int 0)).set 8 (.int 0)))), (h2, .inr (3, ((((f1.set 6 (.ref h1)).set 7 (.int 0)).set 8 (.int 0)).set 5 (.int 0)))), (h4, .inl (cI, 2001, .inl (upd g0 0 0))), (h5, .inl (cI, 2001, .inl (upd g1 0 0)))] := hD
  exact W.vret hx hb hr (fun t ht hW => ⟨⟨(), rfl, trivial, kB_mk ht hW hP hK hD⟩, hS.F ht⟩) hS.2.2 dX8_begin_35
set_option maxHeartbeats 400000000 in
set_option maxRecDepth 100000 in
theorem c_X8_expectEnd_0 (l : Launch) (E : kE) (D : va_G) (cI cJ cB cZ : ClassId) (h0 : Nat) (f0 : List Value) (e0 : f0[7]? = some (.int 0)) : kV l E D (kT cI cJ cB cZ) yX8_expectEnd vW_X8_expectEnd ({ frames := 0, cells := 0, slots := 0, locals := 0 }) [.ref h0] [(h0, .inr (8, f0))] (fun _ : Unit => [(h0, .inr (8, f0))]) 0 0 := by
  intro sz
  refine Met.ofW (cc := cX8_expectEnd) (maxL := 1) (ret := none) (by decide) rfl ?_
  intro p e s m args below meth c s₁ B hml hv
  obtain ⟨rfl, hsz, hP, hK, hD0, hN, hX⟩ := hv
  have hx := B.exec
  have hb := B.bytes
  have hr := B.returns
  have hts := atoms_spec (ws := vW_X8_expectEnd) B.pre
  have hown : s.vm.findClass RX8 = some m.cls := findClass_of_methodNamed B.named
  have hlocks := B.notSynchronized
  have hin8 : ∀ w ∈ wsX80, w ∈ vW_X8_expectEnd := u9_X8_expectEnd_wsX80
  subst hsz
  have hD := hD0.self (sz := s.heap.size)
  have hAE := k_AE hD0 hX
  generalize hAe : va_A [(h0, .inr (8, f0))] s.heap.size = A at hD hAE ⊢
  have hA : ∀ q : Nat, s.heap.size ≤ q → A q := fun q h => by rw [← hAe]; exact Or.inr h
  have hS : va_S A s.heap s.heap [] := va_S.rf
  have hP : va_P D vwCl [(h0, .inr (8, f0))] s.heap := hP
  have hl := lv_entry ([.ref h0] : List Value) (n := 1) (Nat.le_of_ble_eq_true rfl)
  rw [lg_entry_eq]
  generalize (lg_sl ([.ref h0]) ++ List.replicate (1 - (lg_sl ([.ref h0])).length) Slot.unset).toArray = ls at hl ⊢
  have hl : lv_has ls 1 [(0, .ref h0)] := hl
  refine lv_aload_n hx hb dX8_expectEnd_0 rfl (lv_at hl 0 rfl) ?_
  refine k_get (D := D) (ci := 8) (v := .int 0) (N := 15) hx hb hts hin8 hown hK hP 0 rfl rfl (by decide) f9_8_7 (hts (.fieldLink RX8 39 "IntegerHouse$Reader" "kind" "I") (o9_X8_expectEnd _ (List.mem_of_getElem? (i := 0) rfl))) e0 dX8_expectEnd_1 ?_
  refine lv_if_eq (tgt := 12) hx hb dX8_expectEnd_4 (by decide) (fun _ => ?_) (fun c9 => absurd (by decide) c9)
  exact W.vret hx hb hr (fun t ht hW => ⟨⟨(), rfl, trivial, kB_mk ht hW hP hK hD⟩, hS.F ht⟩) hS.2.2 dX8_expectEnd_12
set_option maxHeartbeats 400000000 in
set_option maxRecDepth 100000 in
theorem c_X8_readText_0 (l : Launch) (E : kE) (D : va_G) (cI cJ cB cZ : ClassId) (h0 : Nat) (h1 : Nat) (f0 : List Value) (h2 : Nat) (f1 : List Value) (h3 : Nat) (h4 : Nat) (h5 : Nat) (g0 : Nat → Int32) (g1 : Nat → Int32) (h6 : Nat) (f2 : List Value) (e0 : f0[0]? = some (.ref h2)) (e1 : f1[6]? = some (.ref h3)) (e2 : f1[7]? = some (.int 0)) (e3 : f1[8]? = some (.int 0)) (e4 : f1[5]? = some (.int 0)) (e5 : f1[1]? = some (.ref h4)) (e6 : f1[2]? = some (.ref h5)) (e7 : f0[3]? = some (.int 0)) (e8 : f0[4]? = some (.int 0)) (e9 : f0[5]? = some (.int 0)) (e10 : f0[6]? = some (.int 0)) (e11 : f0[7]? = some (.int 0)) (e12 : f0[8]? = some (.int 0)) (e13 : f0[1]? = some (.ref h6)) (e14 : f2[10]? = some (.int 0)) (e15 : f2[11]? = some (.int 0)) (e16 : f2[12]? = some (.int 0)) : kI l E D (kT cI cJ cB cZ) yX8_readText vW_X8_readText ({ frames := 3, cells := 0, slots := 0, locals := 73 }) [.ref h0, .ref h1, .int 0, .int 0] [(h0, .inr (8, f0)), (h2, .inr (3, f1)), (h4, .inl (cI, 2001, .inl g0)), (h5, .inl (cI, 2001, .inl g1)), (h6, .inr (2, f2))] (1) [(h0, .inr (8, (((((((f0.set 3 (.int 0)).set 4 (.int 0)).set 5 (.int 0)).set 6 (.int (-1))).set 6 (.int 0)).set 7 (.int 0)).set 8 (.int 0)))), (h2, .inr (3, ((((f1.set 6 (.ref h1)).set 7 (.int 0)).set 8 (.int 0)).set 5 (.int 0)))), (h4, .inl (cI, 2001, .inl (upd g0 0 0))), (h5, .inl (cI, 2001, .inl (upd g1 0 0))), (h6, .inr (2, f2))] 0 0 := by
  intro sz
  refine Met.ofW (cc := cX8_readText) (maxL := 8) (ret := (some .boolean)) (by decide) rfl ?_
  intro p e s m args below meth c s₁ B hml hv
  obtain ⟨rfl, hsz, hP, hK, hD0, hN, hX⟩ := hv
  have hx := B.exec
  have hb := B.bytes
  have hr := B.returns
  have hts := atoms_spec (ws := vW_X8_readText) B.pre
  have hown : s.vm.findClass RX8 = some m.cls := findClass_of_methodNamed B.named
  have hlocks := B.notSynchronized
  have hin8 : ∀ w ∈ wsX80, w ∈ vW_X8_readText := u9_X8_readText_wsX80
  have hin2 : ∀ w ∈ wsX20, w ∈ vW_X8_readText := u9_X8_readText_wsX20
  subst hsz
  have hD := hD0.self (sz := s.heap.size)
  have hAE := k_AE hD0 hX
  generalize hAe : va_A [(h0, .inr (8, f0)), (h2, .inr (3, f1)), (h4, .inl (cI, 2001, .inl g0)), (h5, .inl (cI, 2001, .inl g1)), (h6, .inr (2, f2))] s.heap.size = A at hD hAE ⊢
  have hA : ∀ q : Nat, s.heap.size ≤ q → A q := fun q h => by rw [← hAe]; exact Or.inr h
  have hS : va_S A s.heap s.heap [] := va_S.rf
  have hP : va_P D vwCl [(h0, .inr (8, f0)), (h2, .inr (3, f1)), (h4, .inl (cI, 2001, .inl g0)), (h5, .inl (cI, 2001, .inl g1)), (h6, .inr (2, f2))] s.heap := hP
  have hl := lv_entry ([.ref h0, .ref h1, .int 0, .int 0] : List Value) (n := 8) (Nat.le_of_ble_eq_true rfl)
  rw [lg_entry_eq]
  generalize (lg_sl ([.ref h0, .ref h1, .int 0, .int 0]) ++ List.replicate (8 - (lg_sl ([.ref h0, .ref h1, .int 0, .int 0])).length) Slot.unset).toArray = ls at hl ⊢
  have hl : lv_has ls 8 [(0, .ref h0), (1, .ref h1), (2, .int 0), (3, .int 0)] := hl
  refine lv_aload_n hx hb dX8_readText_0 rfl (lv_at hl 0 rfl) ?_
  refine lv_aload_n hx hb dX8_readText_1 rfl (lv_at hl 1 rfl) ?_
  refine lv_iload_n hx hb dX8_readText_2 rfl (lv_at hl 2 rfl) ?_
  refine lv_iload_n hx hb dX8_readText_3 rfl (lv_at hl 3 rfl) ?_
  refine k_cVv (As := [.ref h1, .int 0, .int 0]) (rest := []) (wc := [(h0, .inr (8, f0)), (h2, .inr (3, f1)), (h4, .inl (cI, 2001, .inl g0)), (h5, .inl (cI, 2001, .inl g1))]) (wr := [(h6, .inr (2, f2))]) (w1 := (fun _ : Unit => [(h0, .inr (8, (((((((f0.set 3 (.int 0)).set 4 (.int 0)).set 5 (.int 0)).set 6 (.int (-1))).set 6 (.int 0)).set 7 (.int 0)).set 8 (.int 0)))), (h2, .inr (3, ((((f1.set 6 (.ref h1)).set 7 (.int 0)).set 8 (.int 0)).set 5 (.int 0)))), (h4, .inl (cI, 2001, .inl (upd g0 0 0))), (h5, .inl (cI, 2001, .inl (upd g1 0 0)))])) ⟨hx, hb, hml, hown, hts⟩ hN hX hAE hK hP hD hS hA [0, 1, 2, 3] [4] (ci := 8) rfl rfl rfl rfl (by decide +kernel) (by decide +kernel) (by decide +kernel) (c_X8_begin_0 l E D cI cJ cB cZ h0 h1 f0 h2 f1 h3 h4 h5 g0 g1 e0 e1 e2 e3 e4 e5 e6 e7 e8 e9 e10 e11 e12) (cwV 3 hts g9_X8_readText_X8_begin_23 rfl rfl rfl (by decide +kernel) ⟨Nat.le_of_ble_eq_true rfl, Nat.le_of_ble_eq_true rfl⟩) rfl hl.1 (Nat.le_of_ble_eq_true rfl) dX8_readText_4 ⟨Nat.le_of_ble_eq_true rfl, Nat.le_of_ble_eq_true rfl⟩ (fun _ H locs hP hD hS => ?_)
  have hP : va_P D vwCl [(h6, .inr (2, f2)), (h0, .inr (8, (((((((f0.set 3 (.int 0)).set 4 (.int 0)).set 5 (.int 0)).set 6 (.int (-1))).set 6 (.int 0)).set 7 (.int 0)).set 8 (.int 0)))), (h2, .inr (3, ((((f1.set 6 (.ref h1)).set 7 (.int 0)).set 8 (.int 0)).set 5 (.int 0)))), (h4, .inl (cI, 2001, .inl (upd g0 0 0))), (h5, .inl (cI, 2001, .inl (upd g1 0 0)))] H := hP
  have hD : va_D A [(h6, .inr (2, f2)), (h0, .inr (8, (((((((f0.set 3 (.int 0)).set 4 (.int 0)).set 5 (.int 0)).set 6 (.int (-1))).set 6 (.int 0)).set 7 (.int 0)).set 8 (.int 0)))), (h2, .inr (3, ((((f1.set 6 (.ref h1)).set 7 (.int 0)).set 8 (.int 0)).set 5 (.int 0)))), (h4, .inl (cI, 2001, .inl (upd g0 0 0))), (h5, .inl (cI, 2001, .inl (upd g1 0 0)))] := hD
  refine lv_aload_n hx hb dX8_readText_7 rfl (lv_at hl 0 rfl) ?_
  refine k_get (D := D) (ci := 8) (v := .ref h6) (N := 15) hx hb hts hin8 hown hK hP 1 rfl rfl (by decide) f9_8_1 (hts (.fieldLink RX8 15 "IntegerHouse$Reader" "house" "LIntegerHouse$House;") (o9_X8_readText _ (List.mem_of_getElem? (i := 4) rfl))) (k_ne (by decide) (k_ne (by decide) (k_ne (by decide) (k_ne (by decide) (k_ne (by decide) (k_ne (by decide) (k_ne (by decide) e13))))))) dX8_readText_8 ?_
  refine k_getN (host := "IntegerHouse") (D := D) (ci := 2) (v := .int 0) (N := 16) hx hb hts hin2 hown hK hP 0 rfl rfl (by decide) f9_2_10 (va_Nw.use rfl (hN.1 ("IntegerHouse$Reader", 27, "IntegerHouse$House", "variables", "I", "IntegerHouse") (List.mem_of_getElem? (i := 7) rfl))) e14 dX8_readText_11 ?_
  refine lv_istore (lv' := [(4, .int 0), (0, .ref h0), (1, .ref h1), (2, .int 0), (3, .int 0)]) hx hb dX8_readText_14 hl (by decide) rfl (fun ls hl => ?_)
  refine lv_aload_n hx hb dX8_readText_16 rfl (lv_at hl 1 rfl) ?_
  refine k_get (D := D) (ci := 8) (v := .ref h6) (N := 15) hx hb hts hin8 hown hK hP 1 rfl rfl (by decide) f9_8_1 (hts (.fieldLink RX8 15 "IntegerHouse$Reader" "house" "LIntegerHouse$House;") (o9_X8_readText _ (List.mem_of_getElem? (i := 4) rfl))) (k_ne (by decide) (k_ne (by decide) (k_ne (by decide) (k_ne (by decide) (k_ne (by decide) (k_ne (by decide) (k_ne (by decide) e13))))))) dX8_readText_17 ?_
  refine k_getN (host := "IntegerHouse") (D := D) (ci := 2) (v := .int 0) (N := 16) hx hb hts hin2 hown hK hP 0 rfl rfl (by decide) f9_2_11 (va_Nw.use rfl (hN.1 ("IntegerHouse$Reader", 33, "IntegerHouse$House", "claims", "I", "IntegerHouse") (List.mem_of_getElem? (i := 11) rfl))) e15 dX8_readText_20 ?_
  refine lv_istore (lv' := [(5, .int 0), (4, .int 0), (0, .ref h0), (1, .ref h1), (2, .int 0), (3, .int 0)]) hx hb dX8_readText_23 hl (by decide) rfl (fun ls hl => ?_)
  refine lv_aload_n hx hb dX8_readText_25 rfl (lv_at hl 2 rfl) ?_
  refine k_get (D := D) (ci := 8) (v := .ref h6) (N := 15) hx hb hts hin8 hown hK hP 1 rfl rfl (by decide) f9_8_1 (hts (.fieldLink RX8 15 "IntegerHouse$Reader" "house" "LIntegerHouse$House;") (o9_X8_readText _ (List.mem_of_getElem? (i := 4) rfl))) (k_ne (by decide) (k_ne (by decide) (k_ne (by decide) (k_ne (by decide) (k_ne (by decide) (k_ne (by decide) (k_ne (by decide) e13))))))) dX8_readText_26 ?_
  refine k_getN (host := "IntegerHouse") (D := D) (ci := 2) (v := .int 0) (N := 16) hx hb hts hin2 hown hK hP 0 rfl rfl (by decide) f9_2_12 (va_Nw.use rfl (hN.1 ("IntegerHouse$Reader", 36, "IntegerHouse$House", "poolSize", "I", "IntegerHouse") (List.mem_of_getElem? (i := 15) rfl))) e16 dX8_readText_29 ?_
  refine lv_istore (lv' := [(6, .int 0), (5, .int 0), (4, .int 0), (0, .ref h0), (1, .ref h1), (2, .int 0), (3, .int 0)]) hx hb dX8_readText_32 hl (by decide) rfl (fun ls hl => ?_)
  refine lv_iconst (v := 0) hx hb dX8_readText_34 (by decide) ?_
  refine lv_istore (lv' := [(7, .int 0), (6, .int 0), (5, .int 0), (4, .int 0), (0, .ref h0), (1, .ref h1), (2, .int 0), (3, .int 0)]) hx hb dX8_readText_35 hl (by decide) rfl (fun ls hl => ?_)
  refine lv_iload hx hb dX8_readText_37 (lv_at hl 0 rfl) ?_
  refine lv_sipush (v := 2000) hx hb dX8_readText_39 (by decide) ?_
  refine lv_icmp_ge (tgt := 113) hx hb dX8_readText_42 (by decide) (fun c9 => absurd c9 (by decide)) (fun _ => ?_)
  refine lv_aload_n hx hb dX8_readText_45 rfl (lv_at hl 4 rfl) ?_
  refine k_get (D := D) (ci := 8) (v := .int 0) (N := 15) hx hb hts hin8 hown hK hP 1 rfl rfl (by decide) f9_8_7 (hts (.fieldLink RX8 39 "IntegerHouse$Reader" "kind" "I") (o9_X8_readText _ (List.mem_of_getElem? (i := 5) rfl))) (k_ne (by decide) (k_set (k_ne (by decide) (k_ne (by decide) (k_ne (by decide) (k_ne (by decide) (k_ne (by decide) e11))))))) dX8_readText_46 ?_
  refine lv_bipush (v := 21) hx hb dX8_readText_49 (by decide) ?_
  refine lv_icmp_eq (tgt := 63) hx hb dX8_readText_51 (by decide) (fun c9 => absurd c9 (by decide)) (fun _ => ?_)
  refine lv_aload_n hx hb dX8_readText_54 rfl (lv_at hl 4 rfl) ?_
  refine k_get (D := D) (ci := 8) (v := .int 0) (N := 15) hx hb hts hin8 hown hK hP 1 rfl rfl (by decide) f9_8_7 (hts (.fieldLink RX8 39 "IntegerHouse$Reader" "kind" "I") (o9_X8_readText _ (List.mem_of_getElem? (i := 5) rfl))) (k_ne (by decide) (k_set (k_ne (by decide) (k_ne (by decide) (k_ne (by decide) (k_ne (by decide) (k_ne (by decide) e11))))))) dX8_readText_55 ?_
  refine lv_bipush (v := 22) hx hb dX8_readText_58 (by decide) ?_
  refine lv_icmp_ne (tgt := 113) hx hb dX8_readText_60 (by decide) (fun _ => ?_) (fun c9 => absurd c9 (by decide))
  refine lv_aload_n hx hb dX8_readText_113 rfl (lv_at hl 4 rfl) ?_
  refine k_cVv (As := []) (rest := []) (wc := [(h0, .inr (8, (((((((f0.set 3 (.int 0)).set 4 (.int 0)).set 5 (.int 0)).set 6 (.int (-1))).set 6 (.int 0)).set 7 (.int 0)).set 8 (.int 0))))]) (wr := [(h6, .inr (2, f2)), (h2, .inr (3, ((((f1.set 6 (.ref h1)).set 7 (.int 0)).set 8 (.int 0)).set 5 (.int 0)))), (h4, .inl (cI, 2001, .inl (upd g0 0 0))), (h5, .inl (cI, 2001, .inl (upd g1 0 0)))]) (w1 := (fun _ : Unit => [(h0, .inr (8, (((((((f0.set 3 (.int 0)).set 4 (.int 0)).set 5 (.int 0)).set 6 (.int (-1))).set 6 (.int 0)).set 7 (.int 0)).set 8 (.int 0))))])) ⟨hx, hb, hml, hown, hts⟩ hN hX hAE hK hP hD hS hA [1] [0, 2, 3, 4] (ci := 8) rfl rfl rfl rfl (by decide +kernel) (by decide +kernel) (by decide +kernel) (c_X8_expectEnd_0 l E D cI cJ cB cZ h0 ((((((((f0.set 3 (.int 0)).set 4 (.int 0)).set 5 (.int 0)).set 6 (.int (-1))).set 6 (.int 0)).set 7 (.int 0)).set 8 (.int 0))) (k_ne (by decide) (k_set (k_ne (by decide) (k_ne (by decide) (k_ne (by decide) (k_ne (by decide) (k_ne (by decide) e11)))))))) (cwV 0 hts g9_X8_readText_X8_expectEnd_59 rfl rfl rfl (by decide +kernel) ⟨Nat.le_of_ble_eq_true rfl, Nat.le_of_ble_eq_true rfl⟩) rfl hl.1 (Nat.le_of_ble_eq_true rfl) dX8_readText_114 ⟨Nat.le_of_ble_eq_true rfl, Nat.le_of_ble_eq_true rfl⟩ (fun _ H locs hP hD hS => ?_)
  have hP : va_P D vwCl [(h6, .inr (2, f2)), (h2, .inr (3, ((((f1.set 6 (.ref h1)).set 7 (.int 0)).set 8 (.int 0)).set 5 (.int 0)))), (h4, .inl (cI, 2001, .inl (upd g0 0 0))), (h5, .inl (cI, 2001, .inl (upd g1 0 0))), (h0, .inr (8, (((((((f0.set 3 (.int 0)).set 4 (.int 0)).set 5 (.int 0)).set 6 (.int (-1))).set 6 (.int 0)).set 7 (.int 0)).set 8 (.int 0))))] H := hP
  have hD : va_D A [(h6, .inr (2, f2)), (h2, .inr (3, ((((f1.set 6 (.ref h1)).set 7 (.int 0)).set 8 (.int 0)).set 5 (.int 0)))), (h4, .inl (cI, 2001, .inl (upd g0 0 0))), (h5, .inl (cI, 2001, .inl (upd g1 0 0))), (h0, .inr (8, (((((((f0.set 3 (.int 0)).set 4 (.int 0)).set 5 (.int 0)).set 6 (.int (-1))).set 6 (.int 0)).set 7 (.int 0)).set 8 (.int 0))))] := hD
  refine lv_iload hx hb dX8_readText_117 (lv_at hl 2 rfl) ?_
  refine lv_istore (lv' := [(7, .int 0), (6, .int 0), (5, .int 0), (4, .int 0), (0, .ref h0), (1, .ref h1), (2, .int 0), (3, .int 0)]) hx hb dX8_readText_119 hl (by decide) rfl (fun ls hl => ?_)
  refine lv_iload hx hb dX8_readText_121 (lv_at hl 0 rfl) ?_
  refine lv_aload_n hx hb dX8_readText_123 rfl (lv_at hl 4 rfl) ?_
  refine k_get (D := D) (ci := 8) (v := .ref h6) (N := 15) hx hb hts hin8 hown hK hP 4 rfl rfl (by decide) f9_8_1 (hts (.fieldLink RX8 15 "IntegerHouse$Reader" "house" "LIntegerHouse$House;") (o9_X8_readText _ (List.mem_of_getElem? (i := 4) rfl))) (k_ne (by decide) (k_ne (by decide) (k_ne (by decide) (k_ne (by decide) (k_ne (by decide) (k_ne (by decide) (k_ne (by decide) e13))))))) dX8_readText_124 ?_
  refine k_getN (host := "IntegerHouse") (D := D) (ci := 2) (v := .int 0) (N := 16) hx hb hts hin2 hown hK hP 0 rfl rfl (by decide) f9_2_11 (va_Nw.use rfl (hN.1 ("IntegerHouse$Reader", 33, "IntegerHouse$House", "claims", "I", "IntegerHouse") (List.mem_of_getElem? (i := 11) rfl))) e15 dX8_readText_127 ?_
  refine lv_icmp_ge (tgt := 161) hx hb dX8_readText_130 (by decide) (fun _ => ?_) (fun c9 => absurd (by decide) c9)
  refine lv_aload_n hx hb dX8_readText_161 rfl (lv_at hl 4 rfl) ?_
  refine k_get (D := D) (ci := 8) (v := .int 0) (N := 15) hx hb hts hin8 hown hK hP 4 rfl rfl (by decide) f9_8_3 (hts (.fieldLink RX8 62 "IntegerHouse$Reader" "faultKind" "I") (o9_X8_readText _ (List.mem_of_getElem? (i := 9) rfl))) (k_ne (by decide) (k_ne (by decide) (k_ne (by decide) (k_ne (by decide) (k_ne (by decide) (k_ne (by decide) (k_set e7))))))) dX8_readText_162 ?_
  refine lv_if_eq (tgt := 181) hx hb dX8_readText_165 (by decide) (fun _ => ?_) (fun c9 => absurd (by decide) c9)
  refine lv_aload_n hx hb dX8_readText_181 rfl (lv_at hl 4 rfl) ?_
  refine k_get (D := D) (ci := 8) (v := .int 0) (N := 15) hx hb hts hin8 hown hK hP 4 rfl rfl (by decide) f9_8_3 (hts (.fieldLink RX8 62 "IntegerHouse$Reader" "faultKind" "I") (o9_X8_readText _ (List.mem_of_getElem? (i := 9) rfl))) (k_ne (by decide) (k_ne (by decide) (k_ne (by decide) (k_ne (by decide) (k_ne (by decide) (k_ne (by decide) (k_set e7))))))) dX8_readText_182 ?_
  refine lv_if_ne (tgt := 192) hx hb dX8_readText_185 (by decide) (fun c9 => absurd (by decide) c9) (fun _ => ?_)
  refine lv_iconst (v := 1) hx hb dX8_readText_188 (by decide) ?_
  refine lv_goto (tgt := 193) hx hb dX8_readText_189 (by decide) ?_
  have hP := hP.sub (ws' := [(h0, .inr (8, (((((((f0.set 3 (.int 0)).set 4 (.int 0)).set 5 (.int 0)).set 6 (.int (-1))).set 6 (.int 0)).set 7 (.int 0)).set 8 (.int 0)))), (h2, .inr (3, ((((f1.set 6 (.ref h1)).set 7 (.int 0)).set 8 (.int 0)).set 5 (.int 0)))), (h4, .inl (cI, 2001, .inl (upd g0 0 0))), (h5, .inl (cI, 2001, .inl (upd g1 0 0))), (h6, .inr (2, f2))]) [4, 1, 2, 3, 0] rfl
  have hD := hD.sub (ws' := [(h0, .inr (8, (((((((f0.set 3 (.int 0)).set 4 (.int 0)).set 5 (.int 0)).set 6 (.int (-1))).set 6 (.int 0)).set 7 (.int 0)).set 8 (.int 0)))), (h2, .inr (3, ((((f1.set 6 (.ref h1)).set 7 (.int 0)).set 8 (.int 0)).set 5 (.int 0)))), (h4, .inl (cI, 2001, .inl (upd g0 0 0))), (h5, .inl (cI, 2001, .inl (upd g1 0 0))), (h6, .inr (2, f2))]) [4, 1, 2, 3, 0] (by decide +kernel) rfl
  exact W.zret (v := 1) hx hb hr rfl (fun t ht hW => ⟨⟨1, (), rfl, rfl, kB_mk ht hW hP hK hD⟩, hS.F ht⟩) hS.2.2 dX8_readText_193
set_option maxHeartbeats 400000000 in
set_option maxRecDepth 100000 in
theorem c_X1_hasRoom_0 (l : Launch) (E : kE) (D : va_G) (cI cJ cB cZ : ClassId) (h0 : Nat) (f0 : List Value) (e0 : f0[4]? = some (.int 0)) (e1 : f0[5]? = some (.int 0)) : kI l E D (kT cI cJ cB cZ) yX1_hasRoom vW_X1_hasRoom ({ frames := 0, cells := 0, slots := 0, locals := 0 }) [.ref h0, .int 3] [(h0, .inr (1, f0))] (1) [(h0, .inr (1, f0))] 0 0 := by
  intro sz
  refine Met.ofW (cc := cX1_hasRoom) (maxL := 2) (ret := (some .boolean)) (by decide) rfl ?_
  intro p e s m args below meth c s₁ B hml hv
  obtain ⟨rfl, hsz, hP, hK, hD0, hN, hX⟩ := hv
  have hx := B.exec
  have hb := B.bytes
  have hr := B.returns
  have hts := atoms_spec (ws := vW_X1_hasRoom) B.pre
  have hown : s.vm.findClass RX1 = some m.cls := findClass_of_methodNamed B.named
  have hlocks := B.notSynchronized
  have hin1 : ∀ w ∈ wsX10, w ∈ vW_X1_hasRoom := u9_X1_hasRoom_wsX10
  subst hsz
  have hD := hD0.self (sz := s.heap.size)
  have hAE := k_AE hD0 hX
  generalize hAe : va_A [(h0, .inr (1, f0))] s.heap.size = A at hD hAE ⊢
  have hA : ∀ q : Nat, s.heap.size ≤ q → A q := fun q h => by rw [← hAe]; exact Or.inr h
  have hS : va_S A s.heap s.heap [] := va_S.rf
  have hP : va_P D vwCl [(h0, .inr (1, f0))] s.heap := hP
  have hl := lv_entry ([.ref h0, .int 3] : List Value) (n := 2) (Nat.le_of_ble_eq_true rfl)
  rw [lg_entry_eq]
  generalize (lg_sl ([.ref h0, .int 3]) ++ List.replicate (2 - (lg_sl ([.ref h0, .int 3])).length) Slot.unset).toArray = ls at hl ⊢
  have hl : lv_has ls 2 [(0, .ref h0), (1, .int 3)] := hl
  refine lv_aload_n hx hb dX1_hasRoom_0 rfl (lv_at hl 0 rfl) ?_
  refine k_get (D := D) (ci := 1) (v := .int 0) (N := 9) hx hb hts hin1 hown hK hP 0 rfl rfl (by decide) f9_1_4 (hts (.fieldLink RX1 40 "IntegerHouse$Disk" "waiting" "I") (o9_X1_hasRoom _ (List.mem_of_getElem? (i := 0) rfl))) e0 dX1_hasRoom_1 ?_
  refine lv_iload_n hx hb dX1_hasRoom_4 rfl (lv_at hl 1 rfl) ?_
  refine lv_iadd hx hb dX1_hasRoom_5 ?_
  refine k_topi (y := 3) (by decide) ?_
  refine lv_sipush (v := 248) hx hb dX1_hasRoom_6 (by decide) ?_
  refine lv_iadd hx hb dX1_hasRoom_9 ?_
  refine k_topi (y := 251) (by decide) ?_
  refine lv_iconst (v := 1) hx hb dX1_hasRoom_10 (by decide) ?_
  refine lv_isub hx hb dX1_hasRoom_11 ?_
  refine k_topi (y := 250) (by decide) ?_
  refine lv_sipush (v := 248) hx hb dX1_hasRoom_12 (by decide) ?_
  refine lv_idiv hx hb dX1_hasRoom_15 (by decide) ?_
  refine k_topi (y := 1) (by decide) ?_
  refine lv_bipush (v := 100) hx hb dX1_hasRoom_16 (by decide) ?_
  refine lv_aload_n hx hb dX1_hasRoom_18 rfl (lv_at hl 0 rfl) ?_
  refine k_get (D := D) (ci := 1) (v := .int 0) (N := 9) hx hb hts hin1 hown hK hP 0 rfl rfl (by decide) f9_1_5 (hts (.fieldLink RX1 43 "IntegerHouse$Disk" "used" "I") (o9_X1_hasRoom _ (List.mem_of_getElem? (i := 1) rfl))) e1 dX1_hasRoom_19 ?_
  refine lv_isub hx hb dX1_hasRoom_22 ?_
  refine k_topi (y := 100) (by decide) ?_
  refine lv_icmp_gt (tgt := 30) hx hb dX1_hasRoom_23 (by decide) (fun c9 => absurd c9 (by decide)) (fun _ => ?_)
  refine lv_iconst (v := 1) hx hb dX1_hasRoom_26 (by decide) ?_
  refine lv_goto (tgt := 31) hx hb dX1_hasRoom_27 (by decide) ?_
  exact W.zret (v := 1) hx hb hr rfl (fun t ht hW => ⟨⟨1, (), rfl, rfl, kB_mk ht hW hP hK hD⟩, hS.F ht⟩) hS.2.2 dX1_hasRoom_31
set_option maxHeartbeats 400000000 in
set_option maxRecDepth 100000 in
theorem c_X2_turnOnFrom_0 (l : Launch) (E : kE) (D : va_G) (cI cJ cB cZ : ClassId) (h0 : Nat) (f0 : List Value) (e0 : f0[13]? = some (.int 0)) (e1 : f0[11]? = some (.int 0)) : kV l E D (kT cI cJ cB cZ) yX2_turnOnFrom vW_X2_turnOnFrom ({ frames := 0, cells := 0, slots := 0, locals := 0 }) [.ref h0, .int 0] [(h0, .inr (2, f0))] (fun _ : Unit => [(h0, .inr (2, (f0.set 13 (.int 0))))]) 0 0 := by
  intro sz
  refine Met.ofW (cc := cX2_turnOnFrom) (maxL := 2) (ret := none) (by decide) rfl ?_
  intro p e s m args below meth c s₁ B hml hv
  obtain ⟨rfl, hsz, hP, hK, hD0, hN, hX⟩ := hv
  have hx := B.exec
  have hb := B.bytes
  have hr := B.returns
  have hts := atoms_spec (ws := vW_X2_turnOnFrom) B.pre
  have hown : s.vm.findClass RX2 = some m.cls := findClass_of_methodNamed B.named
  have hlocks := B.notSynchronized
  have hin2 : ∀ w ∈ wsX20, w ∈ vW_X2_turnOnFrom := u9_X2_turnOnFrom_wsX20
  subst hsz
  have hD := hD0.self (sz := s.heap.size)
  have hAE := k_AE hD0 hX
  generalize hAe : va_A [(h0, .inr (2, f0))] s.heap.size = A at hD hAE ⊢
  have hA : ∀ q : Nat, s.heap.size ≤ q → A q := fun q h => by rw [← hAe]; exact Or.inr h
  have hS : va_S A s.heap s.heap [] := va_S.rf
  have hP : va_P D vwCl [(h0, .inr (2, f0))] s.heap := hP
  have hl := lv_entry ([.ref h0, .int 0] : List Value) (n := 2) (Nat.le_of_ble_eq_true rfl)
  rw [lg_entry_eq]
  generalize (lg_sl ([.ref h0, .int 0]) ++ List.replicate (2 - (lg_sl ([.ref h0, .int 0])).length) Slot.unset).toArray = ls at hl ⊢
  have hl : lv_has ls 2 [(0, .ref h0), (1, .int 0)] := hl
  refine lv_aload_n hx hb dX2_turnOnFrom_0 rfl (lv_at hl 0 rfl) ?_
  refine lv_dup hx hb dX2_turnOnFrom_1 rfl ?_
  refine k_get (D := D) (ci := 2) (v := .int 0) (N := 16) hx hb hts hin2 hown hK hP 0 rfl rfl (by decide) f9_2_13 (hts (.fieldLink RX2 61 "IntegerHouse$House" "on" "I") (o9_X2_turnOnFrom _ (List.mem_of_getElem? (i := 0) rfl))) e0 dX2_turnOnFrom_2 ?_
  refine lv_iconst (v := 1) hx hb dX2_turnOnFrom_5 (by decide) ?_
  refine lv_aload_n hx hb dX2_turnOnFrom_6 rfl (lv_at hl 0 rfl) ?_
  refine k_get (D := D) (ci := 2) (v := .int 0) (N := 16) hx hb hts hin2 hown hK hP 0 rfl rfl (by decide) f9_2_11 (hts (.fieldLink RX2 55 "IntegerHouse$House" "claims" "I") (o9_X2_turnOnFrom _ (List.mem_of_getElem? (i := 1) rfl))) e1 dX2_turnOnFrom_7 ?_
  refine lv_ishl hx hb dX2_turnOnFrom_10 ?_
  refine k_topi (y := 1) (by decide) ?_
  refine lv_iconst (v := 1) hx hb dX2_turnOnFrom_11 (by decide) ?_
  refine lv_iload_n hx hb dX2_turnOnFrom_12 rfl (lv_at hl 1 rfl) ?_
  refine lv_ishl hx hb dX2_turnOnFrom_13 ?_
  refine k_topi (y := 1) (by decide) ?_
  refine lv_isub hx hb dX2_turnOnFrom_14 ?_
  refine k_topi (y := 0) (by decide) ?_
  refine lv_ior hx hb dX2_turnOnFrom_15 ?_
  refine k_topi (y := 0) (by decide) ?_
  refine k_put (D := D) (ci := 2) (v := .int 0) (ty := .int) (N := 16) hx hb hts hin2 tyX2 tyX2_ok nmX2 hown hK hP hD hS 0 rfl rfl (by decide) f9_2_13 (hts (.fieldLink RX2 61 "IntegerHouse$House" "on" "I") (o9_X2_turnOnFrom _ (List.mem_of_getElem? (i := 0) rfl))) rfl pd_2 rfl rfl (k_len e0) dX2_turnOnFrom_16 (fun H locs hP hD hS => ?_)
  have hP : va_P D vwCl [(h0, .inr (2, (f0.set 13 (.int 0))))] H := hP
  have hD : va_D A [(h0, .inr (2, (f0.set 13 (.int 0))))] := hD
  exact W.vret hx hb hr (fun t ht hW => ⟨⟨(), rfl, trivial, kB_mk ht hW hP hK hD⟩, hS.F ht⟩) hS.2.2 dX2_turnOnFrom_19
set_option maxHeartbeats 400000000 in
set_option maxRecDepth 100000 in
theorem c_X1_await_0 (l : Launch) (E : kE) (D : va_G) (cI cJ cB cZ : ClassId) (h0 : Nat) (f0 : List Value) (h1 : Nat) (g0 : Nat → Int32) (e0 : f0[4]? = some (.int 0)) (e1 : f0[3]? = some (.ref h1)) : kV l E D (kT cI cJ cB cZ) yX1_await vW_X1_await ({ frames := 0, cells := 0, slots := 0, locals := 0 }) [.ref h0, .int 1] [(h0, .inr (1, f0)), (h1, .inl (cB, 24800, .inl g0))] (fun _ : Unit => [(h0, .inr (1, (f0.set 4 (.int 1)))), (h1, .inl (cB, 24800, .inl (upd g0 0 1)))]) 0 0 := by
  intro sz
  refine Met.ofW (cc := cX1_await) (maxL := 2) (ret := none) (by decide) rfl ?_
  intro p e s m args below meth c s₁ B hml hv
  obtain ⟨rfl, hsz, hP, hK, hD0, hN, hX⟩ := hv
  have hx := B.exec
  have hb := B.bytes
  have hr := B.returns
  have hts := atoms_spec (ws := vW_X1_await) B.pre
  have hown : s.vm.findClass RX1 = some m.cls := findClass_of_methodNamed B.named
  have hlocks := B.notSynchronized
  have hin1 : ∀ w ∈ wsX10, w ∈ vW_X1_await := u9_X1_await_wsX10
  subst hsz
  have hD := hD0.self (sz := s.heap.size)
  have hAE := k_AE hD0 hX
  generalize hAe : va_A [(h0, .inr (1, f0)), (h1, .inl (cB, 24800, .inl g0))] s.heap.size = A at hD hAE ⊢
  have hA : ∀ q : Nat, s.heap.size ≤ q → A q := fun q h => by rw [← hAe]; exact Or.inr h
  have hS : va_S A s.heap s.heap [] := va_S.rf
  have hP : va_P D vwCl [(h0, .inr (1, f0)), (h1, .inl (cB, 24800, .inl g0))] s.heap := hP
  have hl := lv_entry ([.ref h0, .int 1] : List Value) (n := 2) (Nat.le_of_ble_eq_true rfl)
  rw [lg_entry_eq]
  generalize (lg_sl ([.ref h0, .int 1]) ++ List.replicate (2 - (lg_sl ([.ref h0, .int 1])).length) Slot.unset).toArray = ls at hl ⊢
  have hl : lv_has ls 2 [(0, .ref h0), (1, .int 1)] := hl
  refine lv_aload_n hx hb dX1_await_0 rfl (lv_at hl 0 rfl) ?_
  refine k_get (D := D) (ci := 1) (v := .int 0) (N := 9) hx hb hts hin1 hown hK hP 0 rfl rfl (by decide) f9_1_4 (hts (.fieldLink RX1 40 "IntegerHouse$Disk" "waiting" "I") (o9_X1_await _ (List.mem_of_getElem? (i := 0) rfl))) e0 dX1_await_1 ?_
  refine lv_if_lt (tgt := 38) hx hb dX1_await_4 (by decide) (fun c9 => absurd c9 (by decide)) (fun _ => ?_)
  refine lv_aload_n hx hb dX1_await_7 rfl (lv_at hl 0 rfl) ?_
  refine k_get (D := D) (ci := 1) (v := .int 0) (N := 9) hx hb hts hin1 hown hK hP 0 rfl rfl (by decide) f9_1_4 (hts (.fieldLink RX1 40 "IntegerHouse$Disk" "waiting" "I") (o9_X1_await _ (List.mem_of_getElem? (i := 0) rfl))) e0 dX1_await_8 ?_
  refine lv_sipush (v := 24800) hx hb dX1_await_11 (by decide) ?_
  refine lv_icmp_ge (tgt := 38) hx hb dX1_await_14 (by decide) (fun c9 => absurd c9 (by decide)) (fun _ => ?_)
  refine lv_aload_n hx hb dX1_await_17 rfl (lv_at hl 0 rfl) ?_
  refine k_get (D := D) (ci := 1) (v := .ref h1) (N := 9) hx hb hts hin1 hown hK hP 0 rfl rfl (by decide) f9_1_3 (hts (.fieldLink RX1 22 "IntegerHouse$Disk" "waits" "[B") (o9_X1_await _ (List.mem_of_getElem? (i := 1) rfl))) e1 dX1_await_18 ?_
  refine lv_aload_n hx hb dX1_await_21 rfl (lv_at hl 0 rfl) ?_
  refine k_get (D := D) (ci := 1) (v := .int 0) (N := 9) hx hb hts hin1 hown hK hP 0 rfl rfl (by decide) f9_1_4 (hts (.fieldLink RX1 40 "IntegerHouse$Disk" "waiting" "I") (o9_X1_await _ (List.mem_of_getElem? (i := 0) rfl))) e0 dX1_await_22 ?_
  refine lv_iload_n hx hb dX1_await_25 rfl (lv_at hl 1 rfl) ?_
  refine lv_i2b (v := 1) hx hb dX1_await_26 (by decide) ?_
  refine va_bast hx hb hK hP hD hS 1 2 rfl rfl (k_in (by decide)) dX1_await_27 (fun H locs hP hD hS => ?_)
  have hP : va_P D vwCl [(h0, .inr (1, f0)), (h1, .inl (cB, 24800, .inl (upd g0 0 1)))] H := hP
  have hD : va_D A [(h0, .inr (1, f0)), (h1, .inl (cB, 24800, .inl (upd g0 0 1)))] := hD
  refine lv_aload_n hx hb dX1_await_28 rfl (lv_at hl 0 rfl) ?_
  refine lv_dup hx hb dX1_await_29 rfl ?_
  refine k_get (D := D) (ci := 1) (v := .int 0) (N := 9) hx hb hts hin1 hown hK hP 0 rfl rfl (by decide) f9_1_4 (hts (.fieldLink RX1 40 "IntegerHouse$Disk" "waiting" "I") (o9_X1_await _ (List.mem_of_getElem? (i := 0) rfl))) e0 dX1_await_30 ?_
  refine lv_iconst (v := 1) hx hb dX1_await_33 (by decide) ?_
  refine lv_iadd hx hb dX1_await_34 ?_
  refine k_topi (y := 1) (by decide) ?_
  refine k_put (D := D) (ci := 1) (v := .int 1) (ty := .int) (N := 9) hx hb hts hin1 tyX1 tyX1_ok nmX1 hown hK hP hD hS 0 rfl rfl (by decide) f9_1_4 (hts (.fieldLink RX1 40 "IntegerHouse$Disk" "waiting" "I") (o9_X1_await _ (List.mem_of_getElem? (i := 0) rfl))) rfl pd_2 rfl rfl (k_len e0) dX1_await_35 (fun H locs hP hD hS => ?_)
  have hP : va_P D vwCl [(h0, .inr (1, (f0.set 4 (.int 1)))), (h1, .inl (cB, 24800, .inl (upd g0 0 1)))] H := hP
  have hD : va_D A [(h0, .inr (1, (f0.set 4 (.int 1)))), (h1, .inl (cB, 24800, .inl (upd g0 0 1)))] := hD
  exact W.vret hx hb hr (fun t ht hW => ⟨⟨(), rfl, trivial, kB_mk ht hW hP hK hD⟩, hS.F ht⟩) hS.2.2 dX1_await_38
set_option maxHeartbeats 400000000 in
set_option maxRecDepth 100000 in
theorem c_X1_await_1 (l : Launch) (E : kE) (D : va_G) (cI cJ cB cZ : ClassId) (h0 : Nat) (f0 : List Value) (h1 : Nat) (g0 : Nat → Int32) (e0 : f0[4]? = some (.int 1)) (e1 : f0[3]? = some (.ref h1)) : kV l E D (kT cI cJ cB cZ) yX1_await vW_X1_await ({ frames := 0, cells := 0, slots := 0, locals := 0 }) [.ref h0, .int 0] [(h0, .inr (1, f0)), (h1, .inl (cB, 24800, .inl g0))] (fun _ : Unit => [(h0, .inr (1, (f0.set 4 (.int 2)))), (h1, .inl (cB, 24800, .inl (upd g0 1 0)))]) 0 0 := by
  intro sz
  refine Met.ofW (cc := cX1_await) (maxL := 2) (ret := none) (by decide) rfl ?_
  intro p e s m args below meth c s₁ B hml hv
  obtain ⟨rfl, hsz, hP, hK, hD0, hN, hX⟩ := hv
  have hx := B.exec
  have hb := B.bytes
  have hr := B.returns
  have hts := atoms_spec (ws := vW_X1_await) B.pre
  have hown : s.vm.findClass RX1 = some m.cls := findClass_of_methodNamed B.named
  have hlocks := B.notSynchronized
  have hin1 : ∀ w ∈ wsX10, w ∈ vW_X1_await := u9_X1_await_wsX10
  subst hsz
  have hD := hD0.self (sz := s.heap.size)
  have hAE := k_AE hD0 hX
  generalize hAe : va_A [(h0, .inr (1, f0)), (h1, .inl (cB, 24800, .inl g0))] s.heap.size = A at hD hAE ⊢
  have hA : ∀ q : Nat, s.heap.size ≤ q → A q := fun q h => by rw [← hAe]; exact Or.inr h
  have hS : va_S A s.heap s.heap [] := va_S.rf
  have hP : va_P D vwCl [(h0, .inr (1, f0)), (h1, .inl (cB, 24800, .inl g0))] s.heap := hP
  have hl := lv_entry ([.ref h0, .int 0] : List Value) (n := 2) (Nat.le_of_ble_eq_true rfl)
  rw [lg_entry_eq]
  generalize (lg_sl ([.ref h0, .int 0]) ++ List.replicate (2 - (lg_sl ([.ref h0, .int 0])).length) Slot.unset).toArray = ls at hl ⊢
  have hl : lv_has ls 2 [(0, .ref h0), (1, .int 0)] := hl
  refine lv_aload_n hx hb dX1_await_0 rfl (lv_at hl 0 rfl) ?_
  refine k_get (D := D) (ci := 1) (v := .int 1) (N := 9) hx hb hts hin1 hown hK hP 0 rfl rfl (by decide) f9_1_4 (hts (.fieldLink RX1 40 "IntegerHouse$Disk" "waiting" "I") (o9_X1_await _ (List.mem_of_getElem? (i := 0) rfl))) e0 dX1_await_1 ?_
  refine lv_if_lt (tgt := 38) hx hb dX1_await_4 (by decide) (fun c9 => absurd c9 (by decide)) (fun _ => ?_)
  refine lv_aload_n hx hb dX1_await_7 rfl (lv_at hl 0 rfl) ?_
  refine k_get (D := D) (ci := 1) (v := .int 1) (N := 9) hx hb hts hin1 hown hK hP 0 rfl rfl (by decide) f9_1_4 (hts (.fieldLink RX1 40 "IntegerHouse$Disk" "waiting" "I") (o9_X1_await _ (List.mem_of_getElem? (i := 0) rfl))) e0 dX1_await_8 ?_
  refine lv_sipush (v := 24800) hx hb dX1_await_11 (by decide) ?_
  refine lv_icmp_ge (tgt := 38) hx hb dX1_await_14 (by decide) (fun c9 => absurd c9 (by decide)) (fun _ => ?_)
  refine lv_aload_n hx hb dX1_await_17 rfl (lv_at hl 0 rfl) ?_
  refine k_get (D := D) (ci := 1) (v := .ref h1) (N := 9) hx hb hts hin1 hown hK hP 0 rfl rfl (by decide) f9_1_3 (hts (.fieldLink RX1 22 "IntegerHouse$Disk" "waits" "[B") (o9_X1_await _ (List.mem_of_getElem? (i := 1) rfl))) e1 dX1_await_18 ?_
  refine lv_aload_n hx hb dX1_await_21 rfl (lv_at hl 0 rfl) ?_
  refine k_get (D := D) (ci := 1) (v := .int 1) (N := 9) hx hb hts hin1 hown hK hP 0 rfl rfl (by decide) f9_1_4 (hts (.fieldLink RX1 40 "IntegerHouse$Disk" "waiting" "I") (o9_X1_await _ (List.mem_of_getElem? (i := 0) rfl))) e0 dX1_await_22 ?_
  refine lv_iload_n hx hb dX1_await_25 rfl (lv_at hl 1 rfl) ?_
  refine lv_i2b (v := 0) hx hb dX1_await_26 (by decide) ?_
  refine va_bast hx hb hK hP hD hS 1 2 rfl rfl (k_in (by decide)) dX1_await_27 (fun H locs hP hD hS => ?_)
  have hP : va_P D vwCl [(h0, .inr (1, f0)), (h1, .inl (cB, 24800, .inl (upd g0 1 0)))] H := hP
  have hD : va_D A [(h0, .inr (1, f0)), (h1, .inl (cB, 24800, .inl (upd g0 1 0)))] := hD
  refine lv_aload_n hx hb dX1_await_28 rfl (lv_at hl 0 rfl) ?_
  refine lv_dup hx hb dX1_await_29 rfl ?_
  refine k_get (D := D) (ci := 1) (v := .int 1) (N := 9) hx hb hts hin1 hown hK hP 0 rfl rfl (by decide) f9_1_4 (hts (.fieldLink RX1 40 "IntegerHouse$Disk" "waiting" "I") (o9_X1_await _ (List.mem_of_getElem? (i := 0) rfl))) e0 dX1_await_30 ?_
  refine lv_iconst (v := 1) hx hb dX1_await_33 (by decide) ?_
  refine lv_iadd hx hb dX1_await_34 ?_
  refine k_topi (y := 2) (by decide) ?_
  refine k_put (D := D) (ci := 1) (v := .int 2) (ty := .int) (N := 9) hx hb hts hin1 tyX1 tyX1_ok nmX1 hown hK hP hD hS 0 rfl rfl (by decide) f9_1_4 (hts (.fieldLink RX1 40 "IntegerHouse$Disk" "waiting" "I") (o9_X1_await _ (List.mem_of_getElem? (i := 0) rfl))) rfl pd_2 rfl rfl (k_len e0) dX1_await_35 (fun H locs hP hD hS => ?_)
  have hP : va_P D vwCl [(h0, .inr (1, (f0.set 4 (.int 2)))), (h1, .inl (cB, 24800, .inl (upd g0 1 0)))] H := hP
  have hD : va_D A [(h0, .inr (1, (f0.set 4 (.int 2)))), (h1, .inl (cB, 24800, .inl (upd g0 1 0)))] := hD
  exact W.vret hx hb hr (fun t ht hW => ⟨⟨(), rfl, trivial, kB_mk ht hW hP hK hD⟩, hS.F ht⟩) hS.2.2 dX1_await_38
set_option maxHeartbeats 400000000 in
set_option maxRecDepth 100000 in
theorem c_X1_await_2 (l : Launch) (E : kE) (D : va_G) (cI cJ cB cZ : ClassId) (h0 : Nat) (f0 : List Value) (h1 : Nat) (g0 : Nat → Int32) (e0 : f0[4]? = some (.int 2)) (e1 : f0[3]? = some (.ref h1)) : kV l E D (kT cI cJ cB cZ) yX1_await vW_X1_await ({ frames := 0, cells := 0, slots := 0, locals := 0 }) [.ref h0, .int 0] [(h0, .inr (1, f0)), (h1, .inl (cB, 24800, .inl g0))] (fun _ : Unit => [(h0, .inr (1, (f0.set 4 (.int 3)))), (h1, .inl (cB, 24800, .inl (upd g0 2 0)))]) 0 0 := by
  intro sz
  refine Met.ofW (cc := cX1_await) (maxL := 2) (ret := none) (by decide) rfl ?_
  intro p e s m args below meth c s₁ B hml hv
  obtain ⟨rfl, hsz, hP, hK, hD0, hN, hX⟩ := hv
  have hx := B.exec
  have hb := B.bytes
  have hr := B.returns
  have hts := atoms_spec (ws := vW_X1_await) B.pre
  have hown : s.vm.findClass RX1 = some m.cls := findClass_of_methodNamed B.named
  have hlocks := B.notSynchronized
  have hin1 : ∀ w ∈ wsX10, w ∈ vW_X1_await := u9_X1_await_wsX10
  subst hsz
  have hD := hD0.self (sz := s.heap.size)
  have hAE := k_AE hD0 hX
  generalize hAe : va_A [(h0, .inr (1, f0)), (h1, .inl (cB, 24800, .inl g0))] s.heap.size = A at hD hAE ⊢
  have hA : ∀ q : Nat, s.heap.size ≤ q → A q := fun q h => by rw [← hAe]; exact Or.inr h
  have hS : va_S A s.heap s.heap [] := va_S.rf
  have hP : va_P D vwCl [(h0, .inr (1, f0)), (h1, .inl (cB, 24800, .inl g0))] s.heap := hP
  have hl := lv_entry ([.ref h0, .int 0] : List Value) (n := 2) (Nat.le_of_ble_eq_true rfl)
  rw [lg_entry_eq]
  generalize (lg_sl ([.ref h0, .int 0]) ++ List.replicate (2 - (lg_sl ([.ref h0, .int 0])).length) Slot.unset).toArray = ls at hl ⊢
  have hl : lv_has ls 2 [(0, .ref h0), (1, .int 0)] := hl
  refine lv_aload_n hx hb dX1_await_0 rfl (lv_at hl 0 rfl) ?_
  refine k_get (D := D) (ci := 1) (v := .int 2) (N := 9) hx hb hts hin1 hown hK hP 0 rfl rfl (by decide) f9_1_4 (hts (.fieldLink RX1 40 "IntegerHouse$Disk" "waiting" "I") (o9_X1_await _ (List.mem_of_getElem? (i := 0) rfl))) e0 dX1_await_1 ?_
  refine lv_if_lt (tgt := 38) hx hb dX1_await_4 (by decide) (fun c9 => absurd c9 (by decide)) (fun _ => ?_)
  refine lv_aload_n hx hb dX1_await_7 rfl (lv_at hl 0 rfl) ?_
  refine k_get (D := D) (ci := 1) (v := .int 2) (N := 9) hx hb hts hin1 hown hK hP 0 rfl rfl (by decide) f9_1_4 (hts (.fieldLink RX1 40 "IntegerHouse$Disk" "waiting" "I") (o9_X1_await _ (List.mem_of_getElem? (i := 0) rfl))) e0 dX1_await_8 ?_
  refine lv_sipush (v := 24800) hx hb dX1_await_11 (by decide) ?_
  refine lv_icmp_ge (tgt := 38) hx hb dX1_await_14 (by decide) (fun c9 => absurd c9 (by decide)) (fun _ => ?_)
  refine lv_aload_n hx hb dX1_await_17 rfl (lv_at hl 0 rfl) ?_
  refine k_get (D := D) (ci := 1) (v := .ref h1) (N := 9) hx hb hts hin1 hown hK hP 0 rfl rfl (by decide) f9_1_3 (hts (.fieldLink RX1 22 "IntegerHouse$Disk" "waits" "[B") (o9_X1_await _ (List.mem_of_getElem? (i := 1) rfl))) e1 dX1_await_18 ?_
  refine lv_aload_n hx hb dX1_await_21 rfl (lv_at hl 0 rfl) ?_
  refine k_get (D := D) (ci := 1) (v := .int 2) (N := 9) hx hb hts hin1 hown hK hP 0 rfl rfl (by decide) f9_1_4 (hts (.fieldLink RX1 40 "IntegerHouse$Disk" "waiting" "I") (o9_X1_await _ (List.mem_of_getElem? (i := 0) rfl))) e0 dX1_await_22 ?_
  refine lv_iload_n hx hb dX1_await_25 rfl (lv_at hl 1 rfl) ?_
  refine lv_i2b (v := 0) hx hb dX1_await_26 (by decide) ?_
  refine va_bast hx hb hK hP hD hS 1 2 rfl rfl (k_in (by decide)) dX1_await_27 (fun H locs hP hD hS => ?_)
  have hP : va_P D vwCl [(h0, .inr (1, f0)), (h1, .inl (cB, 24800, .inl (upd g0 2 0)))] H := hP
  have hD : va_D A [(h0, .inr (1, f0)), (h1, .inl (cB, 24800, .inl (upd g0 2 0)))] := hD
  refine lv_aload_n hx hb dX1_await_28 rfl (lv_at hl 0 rfl) ?_
  refine lv_dup hx hb dX1_await_29 rfl ?_
  refine k_get (D := D) (ci := 1) (v := .int 2) (N := 9) hx hb hts hin1 hown hK hP 0 rfl rfl (by decide) f9_1_4 (hts (.fieldLink RX1 40 "IntegerHouse$Disk" "waiting" "I") (o9_X1_await _ (List.mem_of_getElem? (i := 0) rfl))) e0 dX1_await_30 ?_
  refine lv_iconst (v := 1) hx hb dX1_await_33 (by decide) ?_
  refine lv_iadd hx hb dX1_await_34 ?_
  refine k_topi (y := 3) (by decide) ?_
  refine k_put (D := D) (ci := 1) (v := .int 3) (ty := .int) (N := 9) hx hb hts hin1 tyX1 tyX1_ok nmX1 hown hK hP hD hS 0 rfl rfl (by decide) f9_1_4 (hts (.fieldLink RX1 40 "IntegerHouse$Disk" "waiting" "I") (o9_X1_await _ (List.mem_of_getElem? (i := 0) rfl))) rfl pd_2 rfl rfl (k_len e0) dX1_await_35 (fun H locs hP hD hS => ?_)
  have hP : va_P D vwCl [(h0, .inr (1, (f0.set 4 (.int 3)))), (h1, .inl (cB, 24800, .inl (upd g0 2 0)))] H := hP
  have hD : va_D A [(h0, .inr (1, (f0.set 4 (.int 3)))), (h1, .inl (cB, 24800, .inl (upd g0 2 0)))] := hD
  exact W.vret hx hb hr (fun t ht hW => ⟨⟨(), rfl, trivial, kB_mk ht hW hP hK hD⟩, hS.F ht⟩) hS.2.2 dX1_await_38
set_option maxHeartbeats 400000000 in
set_option maxRecDepth 100000 in
theorem c_X1_recordRead_0 (l : Launch) (E : kE) (D : va_G) (cI cJ cB cZ : ClassId) (h0 : Nat) (h1 : Nat) (f0 : List Value) (h2 : Nat) (g0 : Nat → Int32) (e0 : f0[4]? = some (.int 0)) (e1 : f0[3]? = some (.ref h2)) : kV l E D (kT cI cJ cB cZ) yX1_recordRead vW_X1_recordRead ({ frames := 1, cells := 0, slots := 0, locals := 21 }) [.ref h0, .ref h1, .int 0] [(h0, .inr (1, f0)), (h2, .inl (cB, 24800, .inl g0))] (fun _ : Unit => [(h0, .inr (1, (((f0.set 4 (.int 1)).set 4 (.int 2)).set 4 (.int 3)))), (h2, .inl (cB, 24800, .inl (upd (upd (upd g0 0 1) 1 0) 2 0)))]) 0 0 := by
  intro sz
  refine Met.ofW (cc := cX1_recordRead) (maxL := 4) (ret := none) (by decide) rfl ?_
  intro p e s m args below meth c s₁ B hml hv
  obtain ⟨rfl, hsz, hP, hK, hD0, hN, hX⟩ := hv
  have hx := B.exec
  have hb := B.bytes
  have hr := B.returns
  have hts := atoms_spec (ws := vW_X1_recordRead) B.pre
  have hown : s.vm.findClass RX1 = some m.cls := findClass_of_methodNamed B.named
  have hlocks := B.notSynchronized
  subst hsz
  have hD := hD0.self (sz := s.heap.size)
  have hAE := k_AE hD0 hX
  generalize hAe : va_A [(h0, .inr (1, f0)), (h2, .inl (cB, 24800, .inl g0))] s.heap.size = A at hD hAE ⊢
  have hA : ∀ q : Nat, s.heap.size ≤ q → A q := fun q h => by rw [← hAe]; exact Or.inr h
  have hS : va_S A s.heap s.heap [] := va_S.rf
  have hP : va_P D vwCl [(h0, .inr (1, f0)), (h2, .inl (cB, 24800, .inl g0))] s.heap := hP
  have hl := lv_entry ([.ref h0, .ref h1, .int 0] : List Value) (n := 4) (Nat.le_of_ble_eq_true rfl)
  rw [lg_entry_eq]
  generalize (lg_sl ([.ref h0, .ref h1, .int 0]) ++ List.replicate (4 - (lg_sl ([.ref h0, .ref h1, .int 0])).length) Slot.unset).toArray = ls at hl ⊢
  have hl : lv_has ls 4 [(0, .ref h0), (1, .ref h1), (2, .int 0)] := hl
  refine lv_aload_n hx hb dX1_recordRead_0 rfl (lv_at hl 0 rfl) ?_
  refine lv_iconst (v := 1) hx hb dX1_recordRead_1 (by decide) ?_
  refine k_cVv (As := [.int 1]) (rest := []) (wc := [(h0, .inr (1, f0)), (h2, .inl (cB, 24800, .inl g0))]) (wr := []) (w1 := (fun _ : Unit => [(h0, .inr (1, (f0.set 4 (.int 1)))), (h2, .inl (cB, 24800, .inl (upd g0 0 1)))])) ⟨hx, hb, hml, hown, hts⟩ hN hX hAE hK hP hD hS hA [0, 1] [] (ci := 1) rfl rfl rfl rfl (by decide +kernel) (by decide +kernel) (by decide +kernel) (c_X1_await_0 l E D cI cJ cB cZ h0 f0 h2 g0 e0 e1) (cwV 1 hts g9_X1_recordRead_X1_await_50 rfl rfl rfl (by decide +kernel) ⟨Nat.le_of_ble_eq_true rfl, Nat.le_of_ble_eq_true rfl⟩) rfl hl.1 (Nat.le_of_ble_eq_true rfl) dX1_recordRead_2 ⟨Nat.le_of_ble_eq_true rfl, Nat.le_of_ble_eq_true rfl⟩ (fun _ H locs hP hD hS => ?_)
  have hP : va_P D vwCl [(h0, .inr (1, (f0.set 4 (.int 1)))), (h2, .inl (cB, 24800, .inl (upd g0 0 1)))] H := hP
  have hD : va_D A [(h0, .inr (1, (f0.set 4 (.int 1)))), (h2, .inl (cB, 24800, .inl (upd g0 0 1)))] := hD
  refine lv_aload_n hx hb dX1_recordRead_5 rfl (lv_at hl 0 rfl) ?_
  refine lv_iload_n hx hb dX1_recordRead_6 rfl (lv_at hl 2 rfl) ?_
  refine lv_bipush (v := 8) hx hb dX1_recordRead_7 (by decide) ?_
  refine lv_ishr hx hb dX1_recordRead_9 ?_
  refine k_topi (y := 0) (by decide) ?_
  refine k_cVv (As := [.int 0]) (rest := []) (wc := [(h0, .inr (1, (f0.set 4 (.int 1)))), (h2, .inl (cB, 24800, .inl (upd g0 0 1)))]) (wr := []) (w1 := (fun _ : Unit => [(h0, .inr (1, ((f0.set 4 (.int 1)).set 4 (.int 2)))), (h2, .inl (cB, 24800, .inl (upd (upd g0 0 1) 1 0)))])) ⟨hx, hb, hml, hown, hts⟩ hN hX hAE hK hP hD hS hA [0, 1] [] (ci := 1) rfl rfl rfl rfl (by decide +kernel) (by decide +kernel) (by decide +kernel) (c_X1_await_1 l E D cI cJ cB cZ h0 ((f0.set 4 (.int 1))) h2 ((upd g0 0 1)) (k_set e0) (k_ne (by decide) e1)) (cwV 1 hts g9_X1_recordRead_X1_await_50 rfl rfl rfl (by decide +kernel) ⟨Nat.le_of_ble_eq_true rfl, Nat.le_of_ble_eq_true rfl⟩) rfl hl.1 (Nat.le_of_ble_eq_true rfl) dX1_recordRead_10 ⟨Nat.le_of_ble_eq_true rfl, Nat.le_of_ble_eq_true rfl⟩ (fun _ H locs hP hD hS => ?_)
  have hP : va_P D vwCl [(h0, .inr (1, ((f0.set 4 (.int 1)).set 4 (.int 2)))), (h2, .inl (cB, 24800, .inl (upd (upd g0 0 1) 1 0)))] H := hP
  have hD : va_D A [(h0, .inr (1, ((f0.set 4 (.int 1)).set 4 (.int 2)))), (h2, .inl (cB, 24800, .inl (upd (upd g0 0 1) 1 0)))] := hD
  refine lv_aload_n hx hb dX1_recordRead_13 rfl (lv_at hl 0 rfl) ?_
  refine lv_iload_n hx hb dX1_recordRead_14 rfl (lv_at hl 2 rfl) ?_
  refine k_cVv (As := [.int 0]) (rest := []) (wc := [(h0, .inr (1, ((f0.set 4 (.int 1)).set 4 (.int 2)))), (h2, .inl (cB, 24800, .inl (upd (upd g0 0 1) 1 0)))]) (wr := []) (w1 := (fun _ : Unit => [(h0, .inr (1, (((f0.set 4 (.int 1)).set 4 (.int 2)).set 4 (.int 3)))), (h2, .inl (cB, 24800, .inl (upd (upd (upd g0 0 1) 1 0) 2 0)))])) ⟨hx, hb, hml, hown, hts⟩ hN hX hAE hK hP hD hS hA [0, 1] [] (ci := 1) rfl rfl rfl rfl (by decide +kernel) (by decide +kernel) (by decide +kernel) (c_X1_await_2 l E D cI cJ cB cZ h0 (((f0.set 4 (.int 1)).set 4 (.int 2))) h2 ((upd (upd g0 0 1) 1 0)) (k_set (k_set e0)) (k_ne (by decide) (k_ne (by decide) e1))) (cwV 1 hts g9_X1_recordRead_X1_await_50 rfl rfl rfl (by decide +kernel) ⟨Nat.le_of_ble_eq_true rfl, Nat.le_of_ble_eq_true rfl⟩) rfl hl.1 (Nat.le_of_ble_eq_true rfl) dX1_recordRead_15 ⟨Nat.le_of_ble_eq_true rfl, Nat.le_of_ble_eq_true rfl⟩ (fun _ H locs hP hD hS => ?_)
  have hP : va_P D vwCl [(h0, .inr (1, (((f0.set 4 (.int 1)).set 4 (.int 2)).set 4 (.int 3)))), (h2, .inl (cB, 24800, .inl (upd (upd (upd g0 0 1) 1 0) 2 0)))] H := hP
  have hD : va_D A [(h0, .inr (1, (((f0.set 4 (.int 1)).set 4 (.int 2)).set 4 (.int 3)))), (h2, .inl (cB, 24800, .inl (upd (upd (upd g0 0 1) 1 0) 2 0)))] := hD
  refine lv_iconst (v := 0) hx hb dX1_recordRead_18 (by decide) ?_
  refine lv_istore_n (lv' := [(3, .int 0), (0, .ref h0), (1, .ref h1), (2, .int 0)]) hx hb dX1_recordRead_19 rfl hl (by decide) rfl (fun ls hl => ?_)
  refine lv_iload_n hx hb dX1_recordRead_20 rfl (lv_at hl 0 rfl) ?_
  refine lv_iload_n hx hb dX1_recordRead_21 rfl (lv_at hl 3 rfl) ?_
  refine lv_icmp_ge (tgt := 44) hx hb dX1_recordRead_22 (by decide) (fun _ => ?_) (fun c9 => absurd (by decide) c9)
  exact W.vret hx hb hr (fun t ht hW => ⟨⟨(), rfl, trivial, kB_mk ht hW hP hK hD⟩, hS.F ht⟩) hS.2.2 dX1_recordRead_44
set_option maxHeartbeats 400000000 in
set_option maxRecDepth 100000 in
theorem c_X11_read_0 (l : Launch) (E : kE) (D : va_G) (cI cJ cB cZ : ClassId) (h0 : Nat) (f0 : List Value) (h1 : Nat) (f1 : List Value) (h2 : Nat) (f2 : List Value) (h3 : Nat) (h4 : Nat) (f3 : List Value) (h5 : Nat) (f4 : List Value) (h6 : Nat) (h7 : Nat) (h8 : Nat) (g0 : Nat → Int32) (g1 : Nat → Int32) (h9 : Nat) (g2 : Nat → Int32) (e0 : f0[1]? = some (.ref h1)) (e1 : f1[8]? = some (.int 0)) (e2 : f0[12]? = some (.int 0)) (e3 : f0[2]? = some (.ref h2)) (e4 : f2[10]? = some (.int 0)) (e5 : f2[11]? = some (.int 0)) (e6 : f2[12]? = some (.int 0)) (e7 : f0[5]? = some (.ref h3)) (e8 : f0[0]? = some (.ref h4)) (e9 : f3[0]? = some (.ref h5)) (e10 : f4[6]? = some (.ref h6)) (e11 : f4[7]? = some (.int 0)) (e12 : f4[8]? = some (.int 0)) (e13 : f4[5]? = some (.int 0)) (e14 : f4[1]? = some (.ref h7)) (e15 : f4[2]? = some (.ref h8)) (e16 : f3[3]? = some (.int 0)) (e17 : f3[4]? = some (.int 0)) (e18 : f3[5]? = some (.int 0)) (e19 : f3[6]? = some (.int 0)) (e20 : f3[7]? = some (.int 0)) (e21 : f3[8]? = some (.int 0)) (e22 : f3[1]? = some (.ref h2)) (e23 : f1[4]? = some (.int 0)) (e24 : f1[5]? = some (.int 0)) (e25 : f2[13]? = some (.int 0)) (e26 : f1[3]? = some (.ref h9)) (e27 : f0[14]? = some (.int 0)) : kI l E D (kT cI cJ cB cZ) yX11_read vW_X11_read ({ frames := 4, cells := 0, slots := 0, locals := 100 }) [.ref h0] [(h0, .inr (11, f0)), (h1, .inr (1, f1)), (h2, .inr (2, f2)), (h3, .inr (8, f3)), (h5, .inr (3, f4)), (h7, .inl (cI, 2001, .inl g0)), (h8, .inl (cI, 2001, .inl g1)), (h9, .inl (cB, 24800, .inl g2))] (0) [(h0, .inr (11, ((f0.set 12 (.int 0)).set 14 (.int 1)))), (h1, .inr (1, (((f1.set 4 (.int 1)).set 4 (.int 2)).set 4 (.int 3)))), (h2, .inr (2, (f2.set 13 (.int 0)))), (h3, .inr (8, (((((((f3.set 3 (.int 0)).set 4 (.int 0)).set 5 (.int 0)).set 6 (.int (-1))).set 6 (.int 0)).set 7 (.int 0)).set 8 (.int 0)))), (h5, .inr (3, ((((f4.set 6 (.ref h4)).set 7 (.int 0)).set 8 (.int 0)).set 5 (.int 0)))), (h7, .inl (cI, 2001, .inl (upd g0 0 0))), (h8, .inl (cI, 2001, .inl (upd g1 0 0))), (h9, .inl (cB, 24800, .inl (upd (upd (upd g2 0 1) 1 0) 2 0)))] 0 0 := by
  intro sz
  refine Met.ofW (cc := cX11_read) (maxL := 5) (ret := (some .int)) (by decide) rfl ?_
  intro p e s m args below meth c s₁ B hml hv
  obtain ⟨rfl, hsz, hP, hK, hD0, hN, hX⟩ := hv
  have hx := B.exec
  have hb := B.bytes
  have hr := B.returns
  have hts := atoms_spec (ws := vW_X11_read) B.pre
  have hown : s.vm.findClass RX11 = some m.cls := findClass_of_methodNamed B.named
  have hlocks := B.notSynchronized
  have hin11 : ∀ w ∈ wsX110, w ∈ vW_X11_read := u9_X11_read_wsX110
  have hin1 : ∀ w ∈ wsX10, w ∈ vW_X11_read := u9_X11_read_wsX10
  have hin2 : ∀ w ∈ wsX20, w ∈ vW_X11_read := u9_X11_read_wsX20
  subst hsz
  have hD := hD0.self (sz := s.heap.size)
  have hAE := k_AE hD0 hX
  generalize hAe : va_A [(h0, .inr (11, f0)), (h1, .inr (1, f1)), (h2, .inr (2, f2)), (h3, .inr (8, f3)), (h5, .inr (3, f4)), (h7, .inl (cI, 2001, .inl g0)), (h8, .inl (cI, 2001, .inl g1)), (h9, .inl (cB, 24800, .inl g2))] s.heap.size = A at hD hAE ⊢
  have hA : ∀ q : Nat, s.heap.size ≤ q → A q := fun q h => by rw [← hAe]; exact Or.inr h
  have hS : va_S A s.heap s.heap [] := va_S.rf
  have hP : va_P D vwCl [(h0, .inr (11, f0)), (h1, .inr (1, f1)), (h2, .inr (2, f2)), (h3, .inr (8, f3)), (h5, .inr (3, f4)), (h7, .inl (cI, 2001, .inl g0)), (h8, .inl (cI, 2001, .inl g1)), (h9, .inl (cB, 24800, .inl g2))] s.heap := hP
  have hl := lv_entry ([.ref h0] : List Value) (n := 5) (Nat.le_of_ble_eq_true rfl)
  rw [lg_entry_eq]
  generalize (lg_sl ([.ref h0]) ++ List.replicate (5 - (lg_sl ([.ref h0])).length) Slot.unset).toArray = ls at hl ⊢
  have hl : lv_has ls 5 [(0, .ref h0)] := hl
  refine lv_aload_n hx hb dX11_read_0 rfl (lv_at hl 0 rfl) ?_
  refine k_get (D := D) (ci := 11) (v := .ref h1) (N := 15) hx hb hts hin11 hown hK hP 0 rfl rfl (by decide) f9_11_1 (hts (.fieldLink RX11 16 "IntegerHouse" "disk" "LIntegerHouse$Disk;") (o9_X11_read _ (List.mem_of_getElem? (i := 0) rfl))) e0 dX11_read_1 ?_
  refine k_getN (host := "IntegerHouse") (D := D) (ci := 1) (v := .int 0) (N := 9) hx hb hts hin1 hown hK hP 1 rfl rfl (by decide) f9_1_8 (va_Nw.use rfl (hN.1 ("IntegerHouse", 122, "IntegerHouse$Disk", "down", "Z", "IntegerHouse") (List.mem_of_getElem? (i := 3) rfl))) e1 dX11_read_4 ?_
  refine lv_if_eq (tgt := 13) hx hb dX11_read_7 (by decide) (fun _ => ?_) (fun c9 => absurd (by decide) c9)
  refine lv_aload_n hx hb dX11_read_13 rfl (lv_at hl 0 rfl) ?_
  refine k_cVi (As := []) (rest := []) (wc := [(h0, .inr (11, f0))]) (wr := [(h1, .inr (1, f1)), (h2, .inr (2, f2)), (h3, .inr (8, f3)), (h5, .inr (3, f4)), (h7, .inl (cI, 2001, .inl g0)), (h8, .inl (cI, 2001, .inl g1)), (h9, .inl (cB, 24800, .inl g2))]) (w1 := [(h0, .inr (11, (f0.set 12 (.int 0))))]) ⟨hx, hb, hml, hown, hts⟩ hN hX hAE hK hP hD hS hA [0] [1, 2, 3, 4, 5, 6, 7] (ci := 11) rfl rfl rfl rfl (by decide +kernel) (by decide +kernel) (by decide +kernel) (c_X11_useTape_0 l E D cI cJ cB cZ h0 f0 e2) (cwV 0 hts g9_X11_read_X11_useTape_230 rfl rfl rfl (by decide +kernel) ⟨Nat.le_of_ble_eq_true rfl, Nat.le_of_ble_eq_true rfl⟩) rfl hl.1 (Nat.le_of_ble_eq_true rfl) dX11_read_14 ⟨Nat.le_of_ble_eq_true rfl, Nat.le_of_ble_eq_true rfl⟩ (fun H locs hP hD hS => ?_)
  have hP : va_P D vwCl [(h1, .inr (1, f1)), (h2, .inr (2, f2)), (h3, .inr (8, f3)), (h5, .inr (3, f4)), (h7, .inl (cI, 2001, .inl g0)), (h8, .inl (cI, 2001, .inl g1)), (h9, .inl (cB, 24800, .inl g2)), (h0, .inr (11, (f0.set 12 (.int 0))))] H := hP
  have hD : va_D A [(h1, .inr (1, f1)), (h2, .inr (2, f2)), (h3, .inr (8, f3)), (h5, .inr (3, f4)), (h7, .inl (cI, 2001, .inl g0)), (h8, .inl (cI, 2001, .inl g1)), (h9, .inl (cB, 24800, .inl g2)), (h0, .inr (11, (f0.set 12 (.int 0))))] := hD
  refine lv_istore_n (lv' := [(1, .int 0), (0, .ref h0)]) hx hb dX11_read_17 rfl hl (by decide) rfl (fun ls hl => ?_)
  refine lv_aload_n hx hb dX11_read_18 rfl (lv_at hl 1 rfl) ?_
  refine k_get (D := D) (ci := 11) (v := .ref h2) (N := 15) hx hb hts hin11 hown hK hP 7 rfl rfl (by decide) f9_11_2 (hts (.fieldLink RX11 23 "IntegerHouse" "house" "LIntegerHouse$House;") (o9_X11_read _ (List.mem_of_getElem? (i := 5) rfl))) (k_ne (by decide) e3) dX11_read_19 ?_
  refine k_getN (host := "IntegerHouse") (D := D) (ci := 2) (v := .int 0) (N := 16) hx hb hts hin2 hown hK hP 1 rfl rfl (by decide) f9_2_10 (va_Nw.use rfl (hN.1 ("IntegerHouse", 210, "IntegerHouse$House", "variables", "I", "IntegerHouse") (List.mem_of_getElem? (i := 10) rfl))) e4 dX11_read_22 ?_
  refine lv_istore_n (lv' := [(2, .int 0), (1, .int 0), (0, .ref h0)]) hx hb dX11_read_25 rfl hl (by decide) rfl (fun ls hl => ?_)
  refine lv_aload_n hx hb dX11_read_26 rfl (lv_at hl 2 rfl) ?_
  refine k_get (D := D) (ci := 11) (v := .ref h2) (N := 15) hx hb hts hin11 hown hK hP 7 rfl rfl (by decide) f9_11_2 (hts (.fieldLink RX11 23 "IntegerHouse" "house" "LIntegerHouse$House;") (o9_X11_read _ (List.mem_of_getElem? (i := 5) rfl))) (k_ne (by decide) e3) dX11_read_27 ?_
  refine k_getN (host := "IntegerHouse") (D := D) (ci := 2) (v := .int 0) (N := 16) hx hb hts hin2 hown hK hP 1 rfl rfl (by decide) f9_2_11 (va_Nw.use rfl (hN.1 ("IntegerHouse", 160, "IntegerHouse$House", "claims", "I", "IntegerHouse") (List.mem_of_getElem? (i := 13) rfl))) e5 dX11_read_30 ?_
  refine lv_istore_n (lv' := [(3, .int 0), (2, .int 0), (1, .int 0), (0, .ref h0)]) hx hb dX11_read_33 rfl hl (by decide) rfl (fun ls hl => ?_)
  refine lv_aload_n hx hb dX11_read_34 rfl (lv_at hl 3 rfl) ?_
  refine k_get (D := D) (ci := 11) (v := .ref h2) (N := 15) hx hb hts hin11 hown hK hP 7 rfl rfl (by decide) f9_11_2 (hts (.fieldLink RX11 23 "IntegerHouse" "house" "LIntegerHouse$House;") (o9_X11_read _ (List.mem_of_getElem? (i := 5) rfl))) (k_ne (by decide) e3) dX11_read_35 ?_
  refine k_getN (host := "IntegerHouse") (D := D) (ci := 2) (v := .int 0) (N := 16) hx hb hts hin2 hown hK hP 1 rfl rfl (by decide) f9_2_12 (va_Nw.use rfl (hN.1 ("IntegerHouse", 233, "IntegerHouse$House", "poolSize", "I", "IntegerHouse") (List.mem_of_getElem? (i := 16) rfl))) e6 dX11_read_38 ?_
  refine lv_istore (lv' := [(4, .int 0), (3, .int 0), (2, .int 0), (1, .int 0), (0, .ref h0)]) hx hb dX11_read_41 hl (by decide) rfl (fun ls hl => ?_)
  refine lv_aload_n hx hb dX11_read_43 rfl (lv_at hl 4 rfl) ?_
  refine k_get (D := D) (ci := 11) (v := .ref h3) (N := 15) hx hb hts hin11 hown hK hP 7 rfl rfl (by decide) f9_11_5 (hts (.fieldLink RX11 48 "IntegerHouse" "reader" "LIntegerHouse$Reader;") (o9_X11_read _ (List.mem_of_getElem? (i := 6) rfl))) (k_ne (by decide) e7) dX11_read_44 ?_
  refine lv_aload_n hx hb dX11_read_47 rfl (lv_at hl 4 rfl) ?_
  refine k_get (D := D) (ci := 11) (v := .ref h4) (N := 15) hx hb hts hin11 hown hK hP 7 rfl rfl (by decide) f9_11_0 (hts (.fieldLink RX11 9 "IntegerHouse" "tape" "[B") (o9_X11_read _ (List.mem_of_getElem? (i := 7) rfl))) (k_ne (by decide) e8) dX11_read_48 ?_
  refine lv_iconst (v := 0) hx hb dX11_read_51 (by decide) ?_
  refine lv_iload_n hx hb dX11_read_52 rfl (lv_at hl 3 rfl) ?_
  refine k_cVi (As := [.ref h4, .int 0, .int 0]) (rest := []) (wc := [(h3, .inr (8, f3)), (h5, .inr (3, f4)), (h7, .inl (cI, 2001, .inl g0)), (h8, .inl (cI, 2001, .inl g1)), (h2, .inr (2, f2))]) (wr := [(h1, .inr (1, f1)), (h9, .inl (cB, 24800, .inl g2)), (h0, .inr (11, (f0.set 12 (.int 0))))]) (w1 := [(h3, .inr (8, (((((((f3.set 3 (.int 0)).set 4 (.int 0)).set 5 (.int 0)).set 6 (.int (-1))).set 6 (.int 0)).set 7 (.int 0)).set 8 (.int 0)))), (h5, .inr (3, ((((f4.set 6 (.ref h4)).set 7 (.int 0)).set 8 (.int 0)).set 5 (.int 0)))), (h7, .inl (cI, 2001, .inl (upd g0 0 0))), (h8, .inl (cI, 2001, .inl (upd g1 0 0))), (h2, .inr (2, f2))]) ⟨hx, hb, hml, hown, hts⟩ hN hX hAE hK hP hD hS hA [2, 3, 4, 5, 1] [0, 6, 7] (ci := 8) rfl rfl rfl rfl (by decide +kernel) (by decide +kernel) (by decide +kernel) (c_X8_readText_0 l E D cI cJ cB cZ h3 h4 f3 h5 f4 h6 h7 h8 g0 g1 h2 f2 e9 e10 e11 e12 e13 e14 e15 e16 e17 e18 e19 e20 e21 e22 e4 e5 e6) (cwV 3 hts g9_X11_read_X8_readText_166 rfl rfl rfl (by decide +kernel) ⟨Nat.le_of_ble_eq_true rfl, Nat.le_of_ble_eq_true rfl⟩) rfl hl.1 (Nat.le_of_ble_eq_true rfl) dX11_read_53 ⟨Nat.le_of_ble_eq_true rfl, Nat.le_of_ble_eq_true rfl⟩ (fun H locs hP hD hS => ?_)
  have hP : va_P D vwCl [(h1, .inr (1, f1)), (h9, .inl (cB, 24800, .inl g2)), (h0, .inr (11, (f0.set 12 (.int 0)))), (h3, .inr (8, (((((((f3.set 3 (.int 0)).set 4 (.int 0)).set 5 (.int 0)).set 6 (.int (-1))).set 6 (.int 0)).set 7 (.int 0)).set 8 (.int 0)))), (h5, .inr (3, ((((f4.set 6 (.ref h4)).set 7 (.int 0)).set 8 (.int 0)).set 5 (.int 0)))), (h7, .inl (cI, 2001, .inl (upd g0 0 0))), (h8, .inl (cI, 2001, .inl (upd g1 0 0))), (h2, .inr (2, f2))] H := hP
  have hD : va_D A [(h1, .inr (1, f1)), (h9, .inl (cB, 24800, .inl g2)), (h0, .inr (11, (f0.set 12 (.int 0)))), (h3, .inr (8, (((((((f3.set 3 (.int 0)).set 4 (.int 0)).set 5 (.int 0)).set 6 (.int (-1))).set 6 (.int 0)).set 7 (.int 0)).set 8 (.int 0)))), (h5, .inr (3, ((((f4.set 6 (.ref h4)).set 7 (.int 0)).set 8 (.int 0)).set 5 (.int 0)))), (h7, .inl (cI, 2001, .inl (upd g0 0 0))), (h8, .inl (cI, 2001, .inl (upd g1 0 0))), (h2, .inr (2, f2))] := hD
  refine lv_if_ne (tgt := 64) hx hb dX11_read_56 (by decide) (fun _ => ?_) (fun c9 => absurd c9 (by decide))
  refine lv_aload_n hx hb dX11_read_64 rfl (lv_at hl 4 rfl) ?_
  refine k_get (D := D) (ci := 11) (v := .ref h1) (N := 15) hx hb hts hin11 hown hK hP 2 rfl rfl (by decide) f9_11_1 (hts (.fieldLink RX11 16 "IntegerHouse" "disk" "LIntegerHouse$Disk;") (o9_X11_read _ (List.mem_of_getElem? (i := 0) rfl))) (k_ne (by decide) e0) dX11_read_65 ?_
  refine lv_iconst (v := 3) hx hb dX11_read_68 (by decide) ?_
  refine lv_iload_n hx hb dX11_read_69 rfl (lv_at hl 3 rfl) ?_
  refine lv_iadd hx hb dX11_read_70 ?_
  refine k_topi (y := 3) (by decide) ?_
  refine k_cVi (As := [.int 3]) (rest := []) (wc := [(h1, .inr (1, f1))]) (wr := [(h9, .inl (cB, 24800, .inl g2)), (h0, .inr (11, (f0.set 12 (.int 0)))), (h3, .inr (8, (((((((f3.set 3 (.int 0)).set 4 (.int 0)).set 5 (.int 0)).set 6 (.int (-1))).set 6 (.int 0)).set 7 (.int 0)).set 8 (.int 0)))), (h5, .inr (3, ((((f4.set 6 (.ref h4)).set 7 (.int 0)).set 8 (.int 0)).set 5 (.int 0)))), (h7, .inl (cI, 2001, .inl (upd g0 0 0))), (h8, .inl (cI, 2001, .inl (upd g1 0 0))), (h2, .inr (2, f2))]) (w1 := [(h1, .inr (1, f1))]) ⟨hx, hb, hml, hown, hts⟩ hN hX hAE hK hP hD hS hA [0] [1, 2, 3, 4, 5, 6, 7] (ci := 1) rfl rfl rfl rfl (by decide +kernel) (by decide +kernel) (by decide +kernel) (c_X1_hasRoom_0 l E D cI cJ cB cZ h1 f1 e23 e24) (cwV 1 hts g9_X11_read_X1_hasRoom_239 rfl rfl rfl (by decide +kernel) ⟨Nat.le_of_ble_eq_true rfl, Nat.le_of_ble_eq_true rfl⟩) rfl hl.1 (Nat.le_of_ble_eq_true rfl) dX11_read_71 ⟨Nat.le_of_ble_eq_true rfl, Nat.le_of_ble_eq_true rfl⟩ (fun H locs hP hD hS => ?_)
  have hP : va_P D vwCl [(h9, .inl (cB, 24800, .inl g2)), (h0, .inr (11, (f0.set 12 (.int 0)))), (h3, .inr (8, (((((((f3.set 3 (.int 0)).set 4 (.int 0)).set 5 (.int 0)).set 6 (.int (-1))).set 6 (.int 0)).set 7 (.int 0)).set 8 (.int 0)))), (h5, .inr (3, ((((f4.set 6 (.ref h4)).set 7 (.int 0)).set 8 (.int 0)).set 5 (.int 0)))), (h7, .inl (cI, 2001, .inl (upd g0 0 0))), (h8, .inl (cI, 2001, .inl (upd g1 0 0))), (h2, .inr (2, f2)), (h1, .inr (1, f1))] H := hP
  have hD : va_D A [(h9, .inl (cB, 24800, .inl g2)), (h0, .inr (11, (f0.set 12 (.int 0)))), (h3, .inr (8, (((((((f3.set 3 (.int 0)).set 4 (.int 0)).set 5 (.int 0)).set 6 (.int (-1))).set 6 (.int 0)).set 7 (.int 0)).set 8 (.int 0)))), (h5, .inr (3, ((((f4.set 6 (.ref h4)).set 7 (.int 0)).set 8 (.int 0)).set 5 (.int 0)))), (h7, .inl (cI, 2001, .inl (upd g0 0 0))), (h8, .inl (cI, 2001, .inl (upd g1 0 0))), (h2, .inr (2, f2)), (h1, .inr (1, f1))] := hD
  refine lv_if_ne (tgt := 91) hx hb dX11_read_74 (by decide) (fun _ => ?_) (fun c9 => absurd c9 (by decide))
  refine lv_aload_n hx hb dX11_read_91 rfl (lv_at hl 4 rfl) ?_
  refine k_get (D := D) (ci := 11) (v := .ref h2) (N := 15) hx hb hts hin11 hown hK hP 1 rfl rfl (by decide) f9_11_2 (hts (.fieldLink RX11 23 "IntegerHouse" "house" "LIntegerHouse$House;") (o9_X11_read _ (List.mem_of_getElem? (i := 5) rfl))) (k_ne (by decide) e3) dX11_read_92 ?_
  refine lv_iload_n hx hb dX11_read_95 rfl (lv_at hl 1 rfl) ?_
  refine k_cVv (As := [.int 0]) (rest := []) (wc := [(h2, .inr (2, f2))]) (wr := [(h9, .inl (cB, 24800, .inl g2)), (h0, .inr (11, (f0.set 12 (.int 0)))), (h3, .inr (8, (((((((f3.set 3 (.int 0)).set 4 (.int 0)).set 5 (.int 0)).set 6 (.int (-1))).set 6 (.int 0)).set 7 (.int 0)).set 8 (.int 0)))), (h5, .inr (3, ((((f4.set 6 (.ref h4)).set 7 (.int 0)).set 8 (.int 0)).set 5 (.int 0)))), (h7, .inl (cI, 2001, .inl (upd g0 0 0))), (h8, .inl (cI, 2001, .inl (upd g1 0 0))), (h1, .inr (1, f1))]) (w1 := (fun _ : Unit => [(h2, .inr (2, (f2.set 13 (.int 0))))])) ⟨hx, hb, hml, hown, hts⟩ hN hX hAE hK hP hD hS hA [6] [0, 1, 2, 3, 4, 5, 7] (ci := 2) rfl rfl rfl rfl (by decide +kernel) (by decide +kernel) (by decide +kernel) (c_X2_turnOnFrom_0 l E D cI cJ cB cZ h2 f2 e25 e5) (cwV 1 hts g9_X11_read_X2_turnOnFrom_170 rfl rfl rfl (by decide +kernel) ⟨Nat.le_of_ble_eq_true rfl, Nat.le_of_ble_eq_true rfl⟩) rfl hl.1 (Nat.le_of_ble_eq_true rfl) dX11_read_96 ⟨Nat.le_of_ble_eq_true rfl, Nat.le_of_ble_eq_true rfl⟩ (fun _ H locs hP hD hS => ?_)
  have hP : va_P D vwCl [(h9, .inl (cB, 24800, .inl g2)), (h0, .inr (11, (f0.set 12 (.int 0)))), (h3, .inr (8, (((((((f3.set 3 (.int 0)).set 4 (.int 0)).set 5 (.int 0)).set 6 (.int (-1))).set 6 (.int 0)).set 7 (.int 0)).set 8 (.int 0)))), (h5, .inr (3, ((((f4.set 6 (.ref h4)).set 7 (.int 0)).set 8 (.int 0)).set 5 (.int 0)))), (h7, .inl (cI, 2001, .inl (upd g0 0 0))), (h8, .inl (cI, 2001, .inl (upd g1 0 0))), (h1, .inr (1, f1)), (h2, .inr (2, (f2.set 13 (.int 0))))] H := hP
  have hD : va_D A [(h9, .inl (cB, 24800, .inl g2)), (h0, .inr (11, (f0.set 12 (.int 0)))), (h3, .inr (8, (((((((f3.set 3 (.int 0)).set 4 (.int 0)).set 5 (.int 0)).set 6 (.int (-1))).set 6 (.int 0)).set 7 (.int 0)).set 8 (.int 0)))), (h5, .inr (3, ((((f4.set 6 (.ref h4)).set 7 (.int 0)).set 8 (.int 0)).set 5 (.int 0)))), (h7, .inl (cI, 2001, .inl (upd g0 0 0))), (h8, .inl (cI, 2001, .inl (upd g1 0 0))), (h1, .inr (1, f1)), (h2, .inr (2, (f2.set 13 (.int 0))))] := hD
  refine lv_aload_n hx hb dX11_read_99 rfl (lv_at hl 4 rfl) ?_
  refine k_get (D := D) (ci := 11) (v := .ref h1) (N := 15) hx hb hts hin11 hown hK hP 1 rfl rfl (by decide) f9_11_1 (hts (.fieldLink RX11 16 "IntegerHouse" "disk" "LIntegerHouse$Disk;") (o9_X11_read _ (List.mem_of_getElem? (i := 0) rfl))) (k_ne (by decide) e0) dX11_read_100 ?_
  refine lv_aload_n hx hb dX11_read_103 rfl (lv_at hl 4 rfl) ?_
  refine k_get (D := D) (ci := 11) (v := .ref h4) (N := 15) hx hb hts hin11 hown hK hP 1 rfl rfl (by decide) f9_11_0 (hts (.fieldLink RX11 9 "IntegerHouse" "tape" "[B") (o9_X11_read _ (List.mem_of_getElem? (i := 7) rfl))) (k_ne (by decide) e8) dX11_read_104 ?_
  refine lv_iload_n hx hb dX11_read_107 rfl (lv_at hl 3 rfl) ?_
  refine k_cVv (As := [.ref h4, .int 0]) (rest := []) (wc := [(h1, .inr (1, f1)), (h9, .inl (cB, 24800, .inl g2))]) (wr := [(h0, .inr (11, (f0.set 12 (.int 0)))), (h3, .inr (8, (((((((f3.set 3 (.int 0)).set 4 (.int 0)).set 5 (.int 0)).set 6 (.int (-1))).set 6 (.int 0)).set 7 (.int 0)).set 8 (.int 0)))), (h5, .inr (3, ((((f4.set 6 (.ref h4)).set 7 (.int 0)).set 8 (.int 0)).set 5 (.int 0)))), (h7, .inl (cI, 2001, .inl (upd g0 0 0))), (h8, .inl (cI, 2001, .inl (upd g1 0 0))), (h2, .inr (2, (f2.set 13 (.int 0))))]) (w1 := (fun _ : Unit => [(h1, .inr (1, (((f1.set 4 (.int 1)).set 4 (.int 2)).set 4 (.int 3)))), (h9, .inl (cB, 24800, .inl (upd (upd (upd g2 0 1) 1 0) 2 0)))])) ⟨hx, hb, hml, hown, hts⟩ hN hX hAE hK hP hD hS hA [6, 0] [1, 2, 3, 4, 5, 7] (ci := 1) rfl rfl rfl rfl (by decide +kernel) (by decide +kernel) (by decide +kernel) (c_X1_recordRead_0 l E D cI cJ cB cZ h1 h4 f1 h9 g2 e23 e26) (cwV 2 hts g9_X11_read_X1_recordRead_246 rfl rfl rfl (by decide +kernel) ⟨Nat.le_of_ble_eq_true rfl, Nat.le_of_ble_eq_true rfl⟩) rfl hl.1 (Nat.le_of_ble_eq_true rfl) dX11_read_108 ⟨Nat.le_of_ble_eq_true rfl, Nat.le_of_ble_eq_true rfl⟩ (fun _ H locs hP hD hS => ?_)
  have hP : va_P D vwCl [(h0, .inr (11, (f0.set 12 (.int 0)))), (h3, .inr (8, (((((((f3.set 3 (.int 0)).set 4 (.int 0)).set 5 (.int 0)).set 6 (.int (-1))).set 6 (.int 0)).set 7 (.int 0)).set 8 (.int 0)))), (h5, .inr (3, ((((f4.set 6 (.ref h4)).set 7 (.int 0)).set 8 (.int 0)).set 5 (.int 0)))), (h7, .inl (cI, 2001, .inl (upd g0 0 0))), (h8, .inl (cI, 2001, .inl (upd g1 0 0))), (h2, .inr (2, (f2.set 13 (.int 0)))), (h1, .inr (1, (((f1.set 4 (.int 1)).set 4 (.int 2)).set 4 (.int 3)))), (h9, .inl (cB, 24800, .inl (upd (upd (upd g2 0 1) 1 0) 2 0)))] H := hP
  have hD : va_D A [(h0, .inr (11, (f0.set 12 (.int 0)))), (h3, .inr (8, (((((((f3.set 3 (.int 0)).set 4 (.int 0)).set 5 (.int 0)).set 6 (.int (-1))).set 6 (.int 0)).set 7 (.int 0)).set 8 (.int 0)))), (h5, .inr (3, ((((f4.set 6 (.ref h4)).set 7 (.int 0)).set 8 (.int 0)).set 5 (.int 0)))), (h7, .inl (cI, 2001, .inl (upd g0 0 0))), (h8, .inl (cI, 2001, .inl (upd g1 0 0))), (h2, .inr (2, (f2.set 13 (.int 0)))), (h1, .inr (1, (((f1.set 4 (.int 1)).set 4 (.int 2)).set 4 (.int 3)))), (h9, .inl (cB, 24800, .inl (upd (upd (upd g2 0 1) 1 0) 2 0)))] := hD
  refine lv_aload_n hx hb dX11_read_111 rfl (lv_at hl 4 rfl) ?_
  refine lv_dup hx hb dX11_read_112 rfl ?_
  refine k_get (D := D) (ci := 11) (v := .int 0) (N := 15) hx hb hts hin11 hown hK hP 0 rfl rfl (by decide) f9_11_14 (hts (.fieldLink RX11 137 "IntegerHouse" "acts" "I") (o9_X11_read _ (List.mem_of_getElem? (i := 23) rfl))) (k_ne (by decide) e27) dX11_read_113 ?_
  refine lv_iconst (v := 1) hx hb dX11_read_116 (by decide) ?_
  refine lv_iadd hx hb dX11_read_117 ?_
  refine k_topi (y := 1) (by decide) ?_
  refine k_put (D := D) (ci := 11) (v := .int 1) (ty := .int) (N := 15) hx hb hts hin11 tyX11 tyX11_ok nmX11 hown hK hP hD hS 0 rfl rfl (by decide) f9_11_14 (hts (.fieldLink RX11 137 "IntegerHouse" "acts" "I") (o9_X11_read _ (List.mem_of_getElem? (i := 23) rfl))) rfl pd_2 rfl rfl (k_len (k_ne (by decide) e27)) dX11_read_118 (fun H locs hP hD hS => ?_)
  have hP : va_P D vwCl [(h0, .inr (11, ((f0.set 12 (.int 0)).set 14 (.int 1)))), (h3, .inr (8, (((((((f3.set 3 (.int 0)).set 4 (.int 0)).set 5 (.int 0)).set 6 (.int (-1))).set 6 (.int 0)).set 7 (.int 0)).set 8 (.int 0)))), (h5, .inr (3, ((((f4.set 6 (.ref h4)).set 7 (.int 0)).set 8 (.int 0)).set 5 (.int 0)))), (h7, .inl (cI, 2001, .inl (upd g0 0 0))), (h8, .inl (cI, 2001, .inl (upd g1 0 0))), (h2, .inr (2, (f2.set 13 (.int 0)))), (h1, .inr (1, (((f1.set 4 (.int 1)).set 4 (.int 2)).set 4 (.int 3)))), (h9, .inl (cB, 24800, .inl (upd (upd (upd g2 0 1) 1 0) 2 0)))] H := hP
  have hD : va_D A [(h0, .inr (11, ((f0.set 12 (.int 0)).set 14 (.int 1)))), (h3, .inr (8, (((((((f3.set 3 (.int 0)).set 4 (.int 0)).set 5 (.int 0)).set 6 (.int (-1))).set 6 (.int 0)).set 7 (.int 0)).set 8 (.int 0)))), (h5, .inr (3, ((((f4.set 6 (.ref h4)).set 7 (.int 0)).set 8 (.int 0)).set 5 (.int 0)))), (h7, .inl (cI, 2001, .inl (upd g0 0 0))), (h8, .inl (cI, 2001, .inl (upd g1 0 0))), (h2, .inr (2, (f2.set 13 (.int 0)))), (h1, .inr (1, (((f1.set 4 (.int 1)).set 4 (.int 2)).set 4 (.int 3)))), (h9, .inl (cB, 24800, .inl (upd (upd (upd g2 0 1) 1 0) 2 0)))] := hD
  refine lv_aload_n hx hb dX11_read_121 rfl (lv_at hl 4 rfl) ?_
  refine k_get (D := D) (ci := 11) (v := .ref h2) (N := 15) hx hb hts hin11 hown hK hP 0 rfl rfl (by decide) f9_11_2 (hts (.fieldLink RX11 23 "IntegerHouse" "house" "LIntegerHouse$House;") (o9_X11_read _ (List.mem_of_getElem? (i := 5) rfl))) (k_ne (by decide) (k_ne (by decide) e3)) dX11_read_122 ?_
  refine k_getN (host := "IntegerHouse") (D := D) (ci := 2) (v := .int 0) (N := 16) hx hb hts hin2 hown hK hP 5 rfl rfl (by decide) f9_2_11 (va_Nw.use rfl (hN.1 ("IntegerHouse", 160, "IntegerHouse$House", "claims", "I", "IntegerHouse") (List.mem_of_getElem? (i := 13) rfl))) (k_ne (by decide) e5) dX11_read_125 ?_
  refine lv_iload_n hx hb dX11_read_128 rfl (lv_at hl 1 rfl) ?_
  refine lv_isub hx hb dX11_read_129 ?_
  refine k_topi (y := 0) (by decide) ?_
  have hP := hP.sub (ws' := [(h0, .inr (11, ((f0.set 12 (.int 0)).set 14 (.int 1)))), (h1, .inr (1, (((f1.set 4 (.int 1)).set 4 (.int 2)).set 4 (.int 3)))), (h2, .inr (2, (f2.set 13 (.int 0)))), (h3, .inr (8, (((((((f3.set 3 (.int 0)).set 4 (.int 0)).set 5 (.int 0)).set 6 (.int (-1))).set 6 (.int 0)).set 7 (.int 0)).set 8 (.int 0)))), (h5, .inr (3, ((((f4.set 6 (.ref h4)).set 7 (.int 0)).set 8 (.int 0)).set 5 (.int 0)))), (h7, .inl (cI, 2001, .inl (upd g0 0 0))), (h8, .inl (cI, 2001, .inl (upd g1 0 0))), (h9, .inl (cB, 24800, .inl (upd (upd (upd g2 0 1) 1 0) 2 0)))]) [0, 6, 5, 1, 2, 3, 4, 7] rfl
  have hD := hD.sub (ws' := [(h0, .inr (11, ((f0.set 12 (.int 0)).set 14 (.int 1)))), (h1, .inr (1, (((f1.set 4 (.int 1)).set 4 (.int 2)).set 4 (.int 3)))), (h2, .inr (2, (f2.set 13 (.int 0)))), (h3, .inr (8, (((((((f3.set 3 (.int 0)).set 4 (.int 0)).set 5 (.int 0)).set 6 (.int (-1))).set 6 (.int 0)).set 7 (.int 0)).set 8 (.int 0)))), (h5, .inr (3, ((((f4.set 6 (.ref h4)).set 7 (.int 0)).set 8 (.int 0)).set 5 (.int 0)))), (h7, .inl (cI, 2001, .inl (upd g0 0 0))), (h8, .inl (cI, 2001, .inl (upd g1 0 0))), (h9, .inl (cB, 24800, .inl (upd (upd (upd g2 0 1) 1 0) 2 0)))]) [0, 6, 5, 1, 2, 3, 4, 7] (by decide +kernel) rfl
  exact W.iret (v := 0) hx hb hr (fun t ht hW => ⟨⟨0, (), rfl, rfl, kB_mk ht hW hP hK hD⟩, hS.F ht⟩) hS.2.2 dX11_read_130
