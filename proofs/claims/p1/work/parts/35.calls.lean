theorem dX12_openTerm_0 : decode cX12_openTerm 0 = .ok (.aload_n 0, 1) := by decide +kernel
theorem dX12_openTerm_1 : decode cX12_openTerm 1 = .ok (.dup, 1) := by decide +kernel
theorem dX12_openTerm_2 : decode cX12_openTerm 2 = .ok (.getfield 642, 3) := by decide +kernel
theorem dX12_openTerm_5 : decode cX12_openTerm 5 = .ok (.iconst 1, 1) := by decide +kernel
theorem dX12_openTerm_6 : decode cX12_openTerm 6 = .ok (.iadd, 1) := by decide +kernel
theorem dX12_openTerm_7 : decode cX12_openTerm 7 = .ok (.putfield 642, 3) := by decide +kernel
theorem dX12_openTerm_10 : decode cX12_openTerm 10 = .ok (.aload_n 0, 1) := by decide +kernel
theorem dX12_openTerm_11 : decode cX12_openTerm 11 = .ok (.getfield 208, 3) := by decide +kernel
theorem dX12_openTerm_14 : decode cX12_openTerm 14 = .ok (.aload_n 0, 1) := by decide +kernel
theorem dX12_openTerm_15 : decode cX12_openTerm 15 = .ok (.getfield 642, 3) := by decide +kernel
theorem dX12_openTerm_18 : decode cX12_openTerm 18 = .ok (.iload_n 1, 1) := by decide +kernel
theorem dX12_openTerm_19 : decode cX12_openTerm 19 = .ok (.iastore, 1) := by decide +kernel
theorem dX12_openTerm_20 : decode cX12_openTerm 20 = .ok (.aload_n 0, 1) := by decide +kernel
theorem dX12_openTerm_21 : decode cX12_openTerm 21 = .ok (.getfield 211, 3) := by decide +kernel
theorem dX12_openTerm_24 : decode cX12_openTerm 24 = .ok (.aload_n 0, 1) := by decide +kernel
theorem dX12_openTerm_25 : decode cX12_openTerm 25 = .ok (.getfield 642, 3) := by decide +kernel
theorem dX12_openTerm_28 : decode cX12_openTerm 28 = .ok (.iconst (-1), 1) := by decide +kernel
theorem dX12_openTerm_29 : decode cX12_openTerm 29 = .ok (.iastore, 1) := by decide +kernel
theorem dX12_openTerm_30 : decode cX12_openTerm 30 = .ok (.aload_n 0, 1) := by decide +kernel
theorem dX12_openTerm_31 : decode cX12_openTerm 31 = .ok (.getfield 217, 3) := by decide +kernel
theorem dX12_openTerm_34 : decode cX12_openTerm 34 = .ok (.aload_n 0, 1) := by decide +kernel
theorem dX12_openTerm_35 : decode cX12_openTerm 35 = .ok (.getfield 642, 3) := by decide +kernel
theorem dX12_openTerm_38 : decode cX12_openTerm 38 = .ok (.iconst 1, 1) := by decide +kernel
theorem dX12_openTerm_39 : decode cX12_openTerm 39 = .ok (.iastore, 1) := by decide +kernel
theorem dX12_openTerm_40 : decode cX12_openTerm 40 = .ok (.aload_n 0, 1) := by decide +kernel
theorem dX12_openTerm_41 : decode cX12_openTerm 41 = .ok (.getfield 220, 3) := by decide +kernel
theorem dX12_openTerm_44 : decode cX12_openTerm 44 = .ok (.aload_n 0, 1) := by decide +kernel
theorem dX12_openTerm_45 : decode cX12_openTerm 45 = .ok (.getfield 642, 3) := by decide +kernel
theorem dX12_openTerm_48 : decode cX12_openTerm 48 = .ok (.lconst 1, 1) := by decide +kernel
theorem dX12_openTerm_49 : decode cX12_openTerm 49 = .ok (.lastore, 1) := by decide +kernel
theorem dX12_openTerm_50 : decode cX12_openTerm 50 = .ok (.aload_n 0, 1) := by decide +kernel
theorem dX12_openTerm_51 : decode cX12_openTerm 51 = .ok (.getfield 223, 3) := by decide +kernel
theorem dX12_openTerm_54 : decode cX12_openTerm 54 = .ok (.aload_n 0, 1) := by decide +kernel
theorem dX12_openTerm_55 : decode cX12_openTerm 55 = .ok (.getfield 642, 3) := by decide +kernel
theorem dX12_openTerm_58 : decode cX12_openTerm 58 = .ok (.iconst (-1), 1) := by decide +kernel
theorem dX12_openTerm_59 : decode cX12_openTerm 59 = .ok (.iastore, 1) := by decide +kernel
theorem dX12_openTerm_60 : decode cX12_openTerm 60 = .ok (.return_, 1) := by decide +kernel
theorem dX12_readTerm_0 : decode cX12_readTerm 0 = .ok (.aload_n 0, 1) := by decide +kernel
theorem dX12_readTerm_1 : decode cX12_readTerm 1 = .ok (.iconst (-1), 1) := by decide +kernel
theorem dX12_readTerm_2 : decode cX12_readTerm 2 = .ok (.putfield 639, 3) := by decide +kernel
theorem dX12_readTerm_5 : decode cX12_readTerm 5 = .ok (.aload_n 0, 1) := by decide +kernel
theorem dX12_readTerm_6 : decode cX12_readTerm 6 = .ok (.iconst (-1), 1) := by decide +kernel
theorem dX12_readTerm_7 : decode cX12_readTerm 7 = .ok (.putfield 642, 3) := by decide +kernel
theorem dX12_readTerm_10 : decode cX12_readTerm 10 = .ok (.aload_n 0, 1) := by decide +kernel
theorem dX12_readTerm_11 : decode cX12_readTerm 11 = .ok (.bipush 33, 2) := by decide +kernel
theorem dX12_readTerm_13 : decode cX12_readTerm 13 = .ok (.invokevirtual 663, 3) := by decide +kernel
theorem dX12_readTerm_16 : decode cX12_readTerm 16 = .ok (.aload_n 0, 1) := by decide +kernel
theorem dX12_readTerm_17 : decode cX12_readTerm 17 = .ok (.iconst 3, 1) := by decide +kernel
theorem dX12_readTerm_18 : decode cX12_readTerm 18 = .ok (.putfield 648, 3) := by decide +kernel
theorem dX12_readTerm_21 : decode cX12_readTerm 21 = .ok (.aload_n 0, 1) := by decide +kernel
theorem dX12_readTerm_22 : decode cX12_readTerm 22 = .ok (.getfield 562, 3) := by decide +kernel
theorem dX12_readTerm_25 : decode cX12_readTerm 25 = .ok (.ifCond .ne 19, 3) := by decide +kernel
theorem dX12_readTerm_28 : decode cX12_readTerm 28 = .ok (.aload_n 0, 1) := by decide +kernel
theorem dX12_readTerm_29 : decode cX12_readTerm 29 = .ok (.getfield 648, 3) := by decide +kernel
theorem dX12_readTerm_32 : decode cX12_readTerm 32 = .ok (.bipush 7, 2) := by decide +kernel
theorem dX12_readTerm_34 : decode cX12_readTerm 34 = .ok (.if_icmp .eq 10, 3) := by decide +kernel
theorem dX12_readTerm_37 : decode cX12_readTerm 37 = .ok (.aload_n 0, 1) := by decide +kernel
theorem dX12_readTerm_38 : decode cX12_readTerm 38 = .ok (.invokevirtual 657, 3) := by decide +kernel
theorem dX12_readTerm_41 : decode cX12_readTerm 41 = .ok (.goto (-20), 3) := by decide +kernel
theorem dX12_readTerm_44 : decode cX12_readTerm 44 = .ok (.aload_n 0, 1) := by decide +kernel
theorem dX12_readTerm_45 : decode cX12_readTerm 45 = .ok (.getfield 660, 3) := by decide +kernel
theorem dX12_readTerm_48 : decode cX12_readTerm 48 = .ok (.ireturn, 1) := by decide +kernel
theorem dX12_readInTerm_0 : decode cX12_readInTerm 0 = .ok (.aload_n 0, 1) := by decide +kernel
theorem dX12_readInTerm_1 : decode cX12_readInTerm 1 = .ok (.getfield 648, 3) := by decide +kernel
theorem dX12_readInTerm_4 : decode cX12_readInTerm 4 = .ok (.iconst 3, 1) := by decide +kernel
theorem dX12_readInTerm_5 : decode cX12_readInTerm 5 = .ok (.if_icmp .ne 47, 3) := by decide +kernel
theorem dX12_readInTerm_8 : decode cX12_readInTerm 8 = .ok (.aload_n 0, 1) := by decide +kernel
theorem dX12_readInTerm_9 : decode cX12_readInTerm 9 = .ok (.getfield 217, 3) := by decide +kernel
theorem dX12_readInTerm_12 : decode cX12_readInTerm 12 = .ok (.aload_n 0, 1) := by decide +kernel
theorem dX12_readInTerm_13 : decode cX12_readInTerm 13 = .ok (.getfield 642, 3) := by decide +kernel
theorem dX12_readInTerm_16 : decode cX12_readInTerm 16 = .ok (.aload_n 0, 1) := by decide +kernel
theorem dX12_readInTerm_17 : decode cX12_readInTerm 17 = .ok (.bipush 9, 2) := by decide +kernel
theorem dX12_readInTerm_19 : decode cX12_readInTerm 19 = .ok (.invokevirtual 672, 3) := by decide +kernel
theorem dX12_readInTerm_22 : decode cX12_readInTerm 22 = .ok (.ifCond .eq 7, 3) := by decide +kernel
theorem dX12_readInTerm_29 : decode cX12_readInTerm 29 = .ok (.iconst 1, 1) := by decide +kernel
theorem dX12_readInTerm_30 : decode cX12_readInTerm 30 = .ok (.iastore, 1) := by decide +kernel
theorem dX12_readInTerm_31 : decode cX12_readInTerm 31 = .ok (.aload_n 0, 1) := by decide +kernel
theorem dX12_readInTerm_32 : decode cX12_readInTerm 32 = .ok (.bipush 9, 2) := by decide +kernel
theorem dX12_readInTerm_34 : decode cX12_readInTerm 34 = .ok (.invokevirtual 672, 3) := by decide +kernel
theorem dX12_readInTerm_37 : decode cX12_readInTerm 37 = .ok (.ifCond .eq 7, 3) := by decide +kernel
theorem dX12_readInTerm_44 : decode cX12_readInTerm 44 = .ok (.aload_n 0, 1) := by decide +kernel
theorem dX12_readInTerm_45 : decode cX12_readInTerm 45 = .ok (.iconst 4, 1) := by decide +kernel
theorem dX12_readInTerm_46 : decode cX12_readInTerm 46 = .ok (.putfield 648, 3) := by decide +kernel
theorem dX12_readInTerm_49 : decode cX12_readInTerm 49 = .ok (.goto 171, 3) := by decide +kernel
theorem dX12_readInTerm_52 : decode cX12_readInTerm 52 = .ok (.aload_n 0, 1) := by decide +kernel
theorem dX12_readInTerm_53 : decode cX12_readInTerm 53 = .ok (.getfield 648, 3) := by decide +kernel
theorem dX12_readInTerm_56 : decode cX12_readInTerm 56 = .ok (.iconst 4, 1) := by decide +kernel
theorem dX12_readInTerm_57 : decode cX12_readInTerm 57 = .ok (.if_icmp .ne 91, 3) := by decide +kernel
theorem dX12_readInTerm_60 : decode cX12_readInTerm 60 = .ok (.aload_n 0, 1) := by decide +kernel
theorem dX12_readInTerm_61 : decode cX12_readInTerm 61 = .ok (.getfield 220, 3) := by decide +kernel
theorem dX12_readInTerm_64 : decode cX12_readInTerm 64 = .ok (.aload_n 0, 1) := by decide +kernel
theorem dX12_readInTerm_65 : decode cX12_readInTerm 65 = .ok (.getfield 642, 3) := by decide +kernel
theorem dX12_readInTerm_68 : decode cX12_readInTerm 68 = .ok (.lconst 1, 1) := by decide +kernel
theorem dX12_readInTerm_69 : decode cX12_readInTerm 69 = .ok (.lastore, 1) := by decide +kernel
theorem dX12_readInTerm_70 : decode cX12_readInTerm 70 = .ok (.aload_n 0, 1) := by decide +kernel
theorem dX12_readInTerm_71 : decode cX12_readInTerm 71 = .ok (.iconst 5, 1) := by decide +kernel
theorem dX12_readInTerm_72 : decode cX12_readInTerm 72 = .ok (.putfield 648, 3) := by decide +kernel
theorem dX12_readInTerm_75 : decode cX12_readInTerm 75 = .ok (.aload_n 0, 1) := by decide +kernel
theorem dX12_readInTerm_76 : decode cX12_readInTerm 76 = .ok (.getfield 87, 3) := by decide +kernel
theorem dX12_readInTerm_79 : decode cX12_readInTerm 79 = .ok (.aload_n 0, 1) := by decide +kernel
theorem dX12_readInTerm_80 : decode cX12_readInTerm 80 = .ok (.getfield 597, 3) := by decide +kernel
theorem dX12_readInTerm_83 : decode cX12_readInTerm 83 = .ok (.iaload, 1) := by decide +kernel
theorem dX12_readInTerm_84 : decode cX12_readInTerm 84 = .ok (.iconst 2, 1) := by decide +kernel
theorem dX12_readInTerm_85 : decode cX12_readInTerm 85 = .ok (.if_icmp .ne 135, 3) := by decide +kernel
theorem dX12_readInTerm_148 : decode cX12_readInTerm 148 = .ok (.aload_n 0, 1) := by decide +kernel
theorem dX12_readInTerm_149 : decode cX12_readInTerm 149 = .ok (.getfield 648, 3) := by decide +kernel
theorem dX12_readInTerm_152 : decode cX12_readInTerm 152 = .ok (.iconst 5, 1) := by decide +kernel
theorem dX12_readInTerm_153 : decode cX12_readInTerm 153 = .ok (.if_icmp .ne 10, 3) := by decide +kernel
theorem dX12_readInTerm_156 : decode cX12_readInTerm 156 = .ok (.aload_n 0, 1) := by decide +kernel
theorem dX12_readInTerm_157 : decode cX12_readInTerm 157 = .ok (.invokevirtual 709, 3) := by decide +kernel
theorem dX12_readInTerm_160 : decode cX12_readInTerm 160 = .ok (.goto 60, 3) := by decide +kernel
theorem dX12_readInTerm_220 : decode cX12_readInTerm 220 = .ok (.return_, 1) := by decide +kernel
theorem dX12_readAtom_0 : decode cX12_readAtom 0 = .ok (.aload_n 0, 1) := by decide +kernel
theorem dX12_readAtom_1 : decode cX12_readAtom 1 = .ok (.getfield 87, 3) := by decide +kernel
theorem dX12_readAtom_4 : decode cX12_readAtom 4 = .ok (.aload_n 0, 1) := by decide +kernel
theorem dX12_readAtom_5 : decode cX12_readAtom 5 = .ok (.getfield 597, 3) := by decide +kernel
theorem dX12_readAtom_8 : decode cX12_readAtom 8 = .ok (.iaload, 1) := by decide +kernel
theorem dX12_readAtom_9 : decode cX12_readAtom 9 = .ok (.iconst 3, 1) := by decide +kernel
theorem dX12_readAtom_10 : decode cX12_readAtom 10 = .ok (.if_icmp .ne 14, 3) := by decide +kernel
theorem dX12_readAtom_24 : decode cX12_readAtom 24 = .ok (.iconst (-1), 1) := by decide +kernel
theorem dX12_readAtom_25 : decode cX12_readAtom 25 = .ok (.istore_n 1, 1) := by decide +kernel
theorem dX12_readAtom_26 : decode cX12_readAtom 26 = .ok (.iload_n 1, 1) := by decide +kernel
theorem dX12_readAtom_27 : decode cX12_readAtom 27 = .ok (.iconst (-1), 1) := by decide +kernel
theorem dX12_readAtom_28 : decode cX12_readAtom 28 = .ok (.if_icmp .eq 28, 3) := by decide +kernel
theorem dX12_readAtom_56 : decode cX12_readAtom 56 = .ok (.aload_n 0, 1) := by decide +kernel
theorem dX12_readAtom_57 : decode cX12_readAtom 57 = .ok (.getfield 87, 3) := by decide +kernel
theorem dX12_readAtom_60 : decode cX12_readAtom 60 = .ok (.aload_n 0, 1) := by decide +kernel
theorem dX12_readAtom_61 : decode cX12_readAtom 61 = .ok (.getfield 597, 3) := by decide +kernel
theorem dX12_readAtom_64 : decode cX12_readAtom 64 = .ok (.iaload, 1) := by decide +kernel
theorem dX12_readAtom_65 : decode cX12_readAtom 65 = .ok (.iconst 3, 1) := by decide +kernel
theorem dX12_readAtom_66 : decode cX12_readAtom 66 = .ok (.if_icmp .ne 31, 3) := by decide +kernel
theorem dX12_readAtom_97 : decode cX12_readAtom 97 = .ok (.aload_n 0, 1) := by decide +kernel
theorem dX12_readAtom_98 : decode cX12_readAtom 98 = .ok (.iconst 3, 1) := by decide +kernel
theorem dX12_readAtom_99 : decode cX12_readAtom 99 = .ok (.invokevirtual 672, 3) := by decide +kernel
theorem dX12_readAtom_102 : decode cX12_readAtom 102 = .ok (.ifCond .eq 21, 3) := by decide +kernel
theorem dX12_readAtom_123 : decode cX12_readAtom 123 = .ok (.aload_n 0, 1) := by decide +kernel
theorem dX12_readAtom_124 : decode cX12_readAtom 124 = .ok (.getfield 630, 3) := by decide +kernel
theorem dX12_readAtom_127 : decode cX12_readAtom 127 = .ok (.bipush 25, 2) := by decide +kernel
theorem dX12_readAtom_129 : decode cX12_readAtom 129 = .ok (.if_icmp .eq 95, 3) := by decide +kernel
theorem dX12_readAtom_224 : decode cX12_readAtom 224 = .ok (.aload_n 0, 1) := by decide +kernel
theorem dX12_readAtom_225 : decode cX12_readAtom 225 = .ok (.invokevirtual 698, 3) := by decide +kernel
theorem dX12_readAtom_228 : decode cX12_readAtom 228 = .ok (.return_, 1) := by decide +kernel
theorem dX12_extreme_0 : decode cX12_extreme 0 = .ok (.aload_n 0, 1) := by decide +kernel
theorem dX12_extreme_1 : decode cX12_extreme 1 = .ok (.invokevirtual 871, 3) := by decide +kernel
theorem dX12_extreme_4 : decode cX12_extreme 4 = .ok (.ifCond .ne 6, 3) := by decide +kernel
theorem dX12_extreme_10 : decode cX12_extreme 10 = .ok (.aload_n 0, 1) := by decide +kernel
theorem dX12_extreme_11 : decode cX12_extreme 11 = .ok (.invokevirtual 874, 3) := by decide +kernel
theorem dX12_extreme_14 : decode cX12_extreme 14 = .ok (.aload_n 0, 1) := by decide +kernel
theorem dX12_extreme_15 : decode cX12_extreme 15 = .ok (.bipush 25, 2) := by decide +kernel
theorem dX12_extreme_17 : decode cX12_extreme 17 = .ok (.invokevirtual 842, 3) := by decide +kernel
theorem dX12_extreme_20 : decode cX12_extreme 20 = .ok (.aload_n 0, 1) := by decide +kernel
theorem dX12_extreme_21 : decode cX12_extreme 21 = .ok (.invokevirtual 1020, 3) := by decide +kernel
theorem dX12_extreme_24 : decode cX12_extreme 24 = .ok (.istore_n 2, 1) := by decide +kernel
theorem dX12_extreme_25 : decode cX12_extreme 25 = .ok (.aload_n 0, 1) := by decide +kernel
theorem dX12_extreme_26 : decode cX12_extreme 26 = .ok (.getfield 562, 3) := by decide +kernel
theorem dX12_extreme_29 : decode cX12_extreme 29 = .ok (.ifCond .ne 16, 3) := by decide +kernel
theorem dX12_extreme_45 : decode cX12_extreme 45 = .ok (.iconst 0, 1) := by decide +kernel
theorem dX12_extreme_46 : decode cX12_extreme 46 = .ok (.istore_n 3, 1) := by decide +kernel
theorem dX12_extreme_47 : decode cX12_extreme 47 = .ok (.iconst 0, 1) := by decide +kernel
theorem dX12_extreme_48 : decode cX12_extreme 48 = .ok (.istore 4, 2) := by decide +kernel
theorem dX12_extreme_50 : decode cX12_extreme 50 = .ok (.iload_n 3, 1) := by decide +kernel
theorem dX12_extreme_51 : decode cX12_extreme 51 = .ok (.ifCond .eq 28, 3) := by decide +kernel
theorem dX12_extreme_79 : decode cX12_extreme 79 = .ok (.aload_n 0, 1) := by decide +kernel
theorem dX12_extreme_80 : decode cX12_extreme 80 = .ok (.getfield 562, 3) := by decide +kernel
theorem dX12_extreme_83 : decode cX12_extreme 83 = .ok (.ifCond .ne 19, 3) := by decide +kernel
theorem dX12_extreme_102 : decode cX12_extreme 102 = .ok (.aload_n 0, 1) := by decide +kernel
theorem dX12_extreme_103 : decode cX12_extreme 103 = .ok (.getfield 562, 3) := by decide +kernel
theorem dX12_extreme_106 : decode cX12_extreme 106 = .ok (.ifCond .ne 17, 3) := by decide +kernel
theorem dX12_extreme_123 : decode cX12_extreme 123 = .ok (.aload_n 0, 1) := by decide +kernel
theorem dX12_extreme_124 : decode cX12_extreme 124 = .ok (.invokevirtual 860, 3) := by decide +kernel
theorem dX12_extreme_127 : decode cX12_extreme 127 = .ok (.ireturn, 1) := by decide +kernel
set_option maxHeartbeats 400000000 in
set_option maxRecDepth 100000 in
theorem c_X12_beginSlot_1 (l : Launch) (E : kE) (D : va_G) (cI cJ cB cZ : ClassId) (h0 : Nat) (f0 : List Value) (h1 : Nat) (g0 : Nat → Int32) (h2 : Nat) (g1 : Nat → Int32) (h3 : Nat) (g2 : Nat → Int32) (h4 : Nat) (g3 : Nat → Int32) (h5 : Nat) (g4 : Nat → Int32) (e0 : f0[66]? = some (.int 0)) (e1 : f0[67]? = some (.int 0)) (e2 : f0[40]? = some (.ref h1)) (e3 : f0[45]? = some (.ref h2)) (e4 : f0[56]? = some (.ref h3)) (e5 : f0[60]? = some (.ref h4)) (e6 : f0[65]? = some (.ref h5)) : kV l E D (kT cI cJ cB cZ) yX12_beginSlot vW_X12_beginSlot ({ frames := 0, cells := 0, slots := 0, locals := 0 }) [.ref h0, .int 25] [(h0, .inr (12, f0)), (h1, .inl (cI, 26, .inl g0)), (h2, .inl (cI, 26, .inl g1)), (h3, .inl (cI, 26, .inl g2)), (h4, .inl (cI, 26, .inl g3)), (h5, .inl (cI, 26, .inl g4))] (fun _ : Unit => [(h0, .inr (12, ((f0.set 66 (.int 25)).set 67 (.int 0)))), (h1, .inl (cI, 26, .inl (upd g0 25 0))), (h2, .inl (cI, 26, .inl (upd g1 25 0))), (h3, .inl (cI, 26, .inl (upd g2 25 0))), (h4, .inl (cI, 26, .inl (upd g3 25 0))), (h5, .inl (cI, 26, .inl (upd g4 25 0)))]) 0 0 := by
  intro sz
  refine Met.ofW (cc := cX12_beginSlot) (maxL := 2) (ret := none) (by decide) rfl ?_
  intro p e s m args below meth c s₁ B hml hv
  obtain ⟨rfl, hsz, hP, hK, hD0, hN, hX⟩ := hv
  have hx := B.exec
  have hb := B.bytes
  have hr := B.returns
  have hts := atoms_spec (ws := vW_X12_beginSlot) B.pre
  have hown : s.vm.findClass RX12 = some m.cls := findClass_of_methodNamed B.named
  have hlocks := B.notSynchronized
  have hin12 : ∀ w ∈ wsX120, w ∈ vW_X12_beginSlot := u9_X12_beginSlot_wsX120
  subst hsz
  have hD := hD0.self (sz := s.heap.size)
  have hAE := k_AE hD0 hX
  generalize hAe : va_A [(h0, .inr (12, f0)), (h1, .inl (cI, 26, .inl g0)), (h2, .inl (cI, 26, .inl g1)), (h3, .inl (cI, 26, .inl g2)), (h4, .inl (cI, 26, .inl g3)), (h5, .inl (cI, 26, .inl g4))] s.heap.size = A at hD hAE ⊢
  have hA : ∀ q : Nat, s.heap.size ≤ q → A q := fun q h => by rw [← hAe]; exact Or.inr h
  have hS : va_S A s.heap s.heap [] := va_S.rf
  have hP : va_P D vwCl [(h0, .inr (12, f0)), (h1, .inl (cI, 26, .inl g0)), (h2, .inl (cI, 26, .inl g1)), (h3, .inl (cI, 26, .inl g2)), (h4, .inl (cI, 26, .inl g3)), (h5, .inl (cI, 26, .inl g4))] s.heap := hP
  have hl := lv_entry ([.ref h0, .int 25] : List Value) (n := 2) (Nat.le_of_ble_eq_true rfl)
  rw [lg_entry_eq]
  generalize (lg_sl ([.ref h0, .int 25]) ++ List.replicate (2 - (lg_sl ([.ref h0, .int 25])).length) Slot.unset).toArray = ls at hl ⊢
  have hl : lv_has ls 2 [(0, .ref h0), (1, .int 25)] := hl
  refine lv_aload_n hx hb dX12_beginSlot_0 rfl (lv_at hl 0 rfl) ?_
  refine lv_iload_n hx hb dX12_beginSlot_1 rfl (lv_at hl 1 rfl) ?_
  refine k_put (D := D) (ci := 12) (v := .int 25) (ty := .int) (N := 195) hx hb hts hin12 tyX12 tyX12_ok nmX12 hown hK hP hD hS 0 rfl rfl (by decide) f9_12_66 (hts (.fieldLink RX12 630 "IntegerHouseModel" "slot" "I") (o9_X12_beginSlot _ (List.mem_of_getElem? (i := 0) rfl))) rfl pd_2 rfl rfl (k_len e0) dX12_beginSlot_2 (fun H locs hP hD hS => ?_)
  have hP : va_P D vwCl [(h0, .inr (12, (f0.set 66 (.int 25)))), (h1, .inl (cI, 26, .inl g0)), (h2, .inl (cI, 26, .inl g1)), (h3, .inl (cI, 26, .inl g2)), (h4, .inl (cI, 26, .inl g3)), (h5, .inl (cI, 26, .inl g4))] H := hP
  have hD : va_D A [(h0, .inr (12, (f0.set 66 (.int 25)))), (h1, .inl (cI, 26, .inl g0)), (h2, .inl (cI, 26, .inl g1)), (h3, .inl (cI, 26, .inl g2)), (h4, .inl (cI, 26, .inl g3)), (h5, .inl (cI, 26, .inl g4))] := hD
  refine lv_aload_n hx hb dX12_beginSlot_5 rfl (lv_at hl 0 rfl) ?_
  refine lv_iconst (v := 0) hx hb dX12_beginSlot_6 (by decide) ?_
  refine k_put (D := D) (ci := 12) (v := .int 0) (ty := .int) (N := 195) hx hb hts hin12 tyX12 tyX12_ok nmX12 hown hK hP hD hS 0 rfl rfl (by decide) f9_12_67 (hts (.fieldLink RX12 633 "IntegerHouseModel" "open" "I") (o9_X12_beginSlot _ (List.mem_of_getElem? (i := 1) rfl))) rfl pd_2 rfl rfl (k_len (k_ne (by decide) e1)) dX12_beginSlot_7 (fun H locs hP hD hS => ?_)
  have hP : va_P D vwCl [(h0, .inr (12, ((f0.set 66 (.int 25)).set 67 (.int 0)))), (h1, .inl (cI, 26, .inl g0)), (h2, .inl (cI, 26, .inl g1)), (h3, .inl (cI, 26, .inl g2)), (h4, .inl (cI, 26, .inl g3)), (h5, .inl (cI, 26, .inl g4))] H := hP
  have hD : va_D A [(h0, .inr (12, ((f0.set 66 (.int 25)).set 67 (.int 0)))), (h1, .inl (cI, 26, .inl g0)), (h2, .inl (cI, 26, .inl g1)), (h3, .inl (cI, 26, .inl g2)), (h4, .inl (cI, 26, .inl g3)), (h5, .inl (cI, 26, .inl g4))] := hD
  refine lv_aload_n hx hb dX12_beginSlot_10 rfl (lv_at hl 0 rfl) ?_
  refine k_get (D := D) (ci := 12) (v := .ref h1) (N := 195) hx hb hts hin12 hown hK hP 0 rfl rfl (by decide) f9_12_40 (hts (.fieldLink RX12 105 "IntegerHouseModel" "textCount" "[I") (o9_X12_beginSlot _ (List.mem_of_getElem? (i := 2) rfl))) (k_ne (by decide) (k_ne (by decide) e2)) dX12_beginSlot_11 ?_
  refine lv_iload_n hx hb dX12_beginSlot_14 rfl (lv_at hl 1 rfl) ?_
  refine lv_iconst (v := 0) hx hb dX12_beginSlot_15 (by decide) ?_
  refine va_iast hx hb hK hP hD hS 1 0 rfl rfl (k_in (by decide)) dX12_beginSlot_16 (fun H locs hP hD hS => ?_)
  have hP : va_P D vwCl [(h0, .inr (12, ((f0.set 66 (.int 25)).set 67 (.int 0)))), (h1, .inl (cI, 26, .inl (upd g0 25 0))), (h2, .inl (cI, 26, .inl g1)), (h3, .inl (cI, 26, .inl g2)), (h4, .inl (cI, 26, .inl g3)), (h5, .inl (cI, 26, .inl g4))] H := hP
  have hD : va_D A [(h0, .inr (12, ((f0.set 66 (.int 25)).set 67 (.int 0)))), (h1, .inl (cI, 26, .inl (upd g0 25 0))), (h2, .inl (cI, 26, .inl g1)), (h3, .inl (cI, 26, .inl g2)), (h4, .inl (cI, 26, .inl g3)), (h5, .inl (cI, 26, .inl g4))] := hD
  refine lv_aload_n hx hb dX12_beginSlot_17 rfl (lv_at hl 0 rfl) ?_
  refine k_get (D := D) (ci := 12) (v := .ref h2) (N := 195) hx hb hts hin12 hown hK hP 0 rfl rfl (by decide) f9_12_45 (hts (.fieldLink RX12 120 "IntegerHouseModel" "nodeCount" "[I") (o9_X12_beginSlot _ (List.mem_of_getElem? (i := 3) rfl))) (k_ne (by decide) (k_ne (by decide) e3)) dX12_beginSlot_18 ?_
  refine lv_iload_n hx hb dX12_beginSlot_21 rfl (lv_at hl 1 rfl) ?_
  refine lv_iconst (v := 0) hx hb dX12_beginSlot_22 (by decide) ?_
  refine va_iast hx hb hK hP hD hS 2 0 rfl rfl (k_in (by decide)) dX12_beginSlot_23 (fun H locs hP hD hS => ?_)
  have hP : va_P D vwCl [(h0, .inr (12, ((f0.set 66 (.int 25)).set 67 (.int 0)))), (h1, .inl (cI, 26, .inl (upd g0 25 0))), (h2, .inl (cI, 26, .inl (upd g1 25 0))), (h3, .inl (cI, 26, .inl g2)), (h4, .inl (cI, 26, .inl g3)), (h5, .inl (cI, 26, .inl g4))] H := hP
  have hD : va_D A [(h0, .inr (12, ((f0.set 66 (.int 25)).set 67 (.int 0)))), (h1, .inl (cI, 26, .inl (upd g0 25 0))), (h2, .inl (cI, 26, .inl (upd g1 25 0))), (h3, .inl (cI, 26, .inl g2)), (h4, .inl (cI, 26, .inl g3)), (h5, .inl (cI, 26, .inl g4))] := hD
  refine lv_aload_n hx hb dX12_beginSlot_24 rfl (lv_at hl 0 rfl) ?_
  refine k_get (D := D) (ci := 12) (v := .ref h3) (N := 195) hx hb hts hin12 hown hK hP 0 rfl rfl (by decide) f9_12_56 (hts (.fieldLink RX12 153 "IntegerHouseModel" "leafCount" "[I") (o9_X12_beginSlot _ (List.mem_of_getElem? (i := 4) rfl))) (k_ne (by decide) (k_ne (by decide) e4)) dX12_beginSlot_25 ?_
  refine lv_iload_n hx hb dX12_beginSlot_28 rfl (lv_at hl 1 rfl) ?_
  refine lv_iconst (v := 0) hx hb dX12_beginSlot_29 (by decide) ?_
  refine va_iast hx hb hK hP hD hS 3 0 rfl rfl (k_in (by decide)) dX12_beginSlot_30 (fun H locs hP hD hS => ?_)
  have hP : va_P D vwCl [(h0, .inr (12, ((f0.set 66 (.int 25)).set 67 (.int 0)))), (h1, .inl (cI, 26, .inl (upd g0 25 0))), (h2, .inl (cI, 26, .inl (upd g1 25 0))), (h3, .inl (cI, 26, .inl (upd g2 25 0))), (h4, .inl (cI, 26, .inl g3)), (h5, .inl (cI, 26, .inl g4))] H := hP
  have hD : va_D A [(h0, .inr (12, ((f0.set 66 (.int 25)).set 67 (.int 0)))), (h1, .inl (cI, 26, .inl (upd g0 25 0))), (h2, .inl (cI, 26, .inl (upd g1 25 0))), (h3, .inl (cI, 26, .inl (upd g2 25 0))), (h4, .inl (cI, 26, .inl g3)), (h5, .inl (cI, 26, .inl g4))] := hD
  refine lv_aload_n hx hb dX12_beginSlot_31 rfl (lv_at hl 0 rfl) ?_
  refine k_get (D := D) (ci := 12) (v := .ref h4) (N := 195) hx hb hts hin12 hown hK hP 0 rfl rfl (by decide) f9_12_60 (hts (.fieldLink RX12 165 "IntegerHouseModel" "termCount" "[I") (o9_X12_beginSlot _ (List.mem_of_getElem? (i := 5) rfl))) (k_ne (by decide) (k_ne (by decide) e5)) dX12_beginSlot_32 ?_
  refine lv_iload_n hx hb dX12_beginSlot_35 rfl (lv_at hl 1 rfl) ?_
  refine lv_iconst (v := 0) hx hb dX12_beginSlot_36 (by decide) ?_
  refine va_iast hx hb hK hP hD hS 4 0 rfl rfl (k_in (by decide)) dX12_beginSlot_37 (fun H locs hP hD hS => ?_)
  have hP : va_P D vwCl [(h0, .inr (12, ((f0.set 66 (.int 25)).set 67 (.int 0)))), (h1, .inl (cI, 26, .inl (upd g0 25 0))), (h2, .inl (cI, 26, .inl (upd g1 25 0))), (h3, .inl (cI, 26, .inl (upd g2 25 0))), (h4, .inl (cI, 26, .inl (upd g3 25 0))), (h5, .inl (cI, 26, .inl g4))] H := hP
  have hD : va_D A [(h0, .inr (12, ((f0.set 66 (.int 25)).set 67 (.int 0)))), (h1, .inl (cI, 26, .inl (upd g0 25 0))), (h2, .inl (cI, 26, .inl (upd g1 25 0))), (h3, .inl (cI, 26, .inl (upd g2 25 0))), (h4, .inl (cI, 26, .inl (upd g3 25 0))), (h5, .inl (cI, 26, .inl g4))] := hD
  refine lv_aload_n hx hb dX12_beginSlot_38 rfl (lv_at hl 0 rfl) ?_
  refine k_get (D := D) (ci := 12) (v := .ref h5) (N := 195) hx hb hts hin12 hown hK hP 0 rfl rfl (by decide) f9_12_65 (hts (.fieldLink RX12 181 "IntegerHouseModel" "partCount" "[I") (o9_X12_beginSlot _ (List.mem_of_getElem? (i := 6) rfl))) (k_ne (by decide) (k_ne (by decide) e6)) dX12_beginSlot_39 ?_
  refine lv_iload_n hx hb dX12_beginSlot_42 rfl (lv_at hl 1 rfl) ?_
  refine lv_iconst (v := 0) hx hb dX12_beginSlot_43 (by decide) ?_
  refine va_iast hx hb hK hP hD hS 5 0 rfl rfl (k_in (by decide)) dX12_beginSlot_44 (fun H locs hP hD hS => ?_)
  have hP : va_P D vwCl [(h0, .inr (12, ((f0.set 66 (.int 25)).set 67 (.int 0)))), (h1, .inl (cI, 26, .inl (upd g0 25 0))), (h2, .inl (cI, 26, .inl (upd g1 25 0))), (h3, .inl (cI, 26, .inl (upd g2 25 0))), (h4, .inl (cI, 26, .inl (upd g3 25 0))), (h5, .inl (cI, 26, .inl (upd g4 25 0)))] H := hP
  have hD : va_D A [(h0, .inr (12, ((f0.set 66 (.int 25)).set 67 (.int 0)))), (h1, .inl (cI, 26, .inl (upd g0 25 0))), (h2, .inl (cI, 26, .inl (upd g1 25 0))), (h3, .inl (cI, 26, .inl (upd g2 25 0))), (h4, .inl (cI, 26, .inl (upd g3 25 0))), (h5, .inl (cI, 26, .inl (upd g4 25 0)))] := hD
  exact W.vret hx hb hr (fun t ht hW => ⟨⟨(), rfl, trivial, kB_mk ht hW hP hK hD⟩, hS.F ht⟩) hS.2.2 dX12_beginSlot_45
set_option maxHeartbeats 400000000 in
set_option maxRecDepth 100000 in
theorem c_X12_openTerm_0 (l : Launch) (E : kE) (D : va_G) (cI cJ cB cZ : ClassId) (h0 : Nat) (f0 : List Value) (h1 : Nat) (g0 : Nat → Int32) (h2 : Nat) (g1 : Nat → Int32) (h3 : Nat) (g2 : Nat → Int32) (h4 : Nat) (g3 : Nat → Int64) (h5 : Nat) (g4 : Nat → Int32) (e0 : f0[83]? = some (.int (-1))) (e1 : f0[77]? = some (.ref h1)) (e2 : f0[78]? = some (.ref h2)) (e3 : f0[80]? = some (.ref h3)) (e4 : f0[81]? = some (.ref h4)) (e5 : f0[82]? = some (.ref h5)) : kV l E D (kT cI cJ cB cZ) yX12_openTerm vW_X12_openTerm ({ frames := 0, cells := 0, slots := 0, locals := 0 }) [.ref h0, .int 33] [(h0, .inr (12, f0)), (h1, .inl (cI, 16, .inl g0)), (h2, .inl (cI, 16, .inl g1)), (h3, .inl (cI, 16, .inl g2)), (h4, .inl (cJ, 16, .inr (.inl g3))), (h5, .inl (cI, 16, .inl g4))] (fun _ : Unit => [(h0, .inr (12, (f0.set 83 (.int 0)))), (h1, .inl (cI, 16, .inl (upd g0 0 33))), (h2, .inl (cI, 16, .inl (upd g1 0 (-1)))), (h3, .inl (cI, 16, .inl (upd g2 0 1))), (h4, .inl (cJ, 16, .inr (.inl (vp_updL g3 0 1)))), (h5, .inl (cI, 16, .inl (upd g4 0 (-1))))]) 0 0 := by
  intro sz
  refine Met.ofW (cc := cX12_openTerm) (maxL := 2) (ret := none) (by decide) rfl ?_
  intro p e s m args below meth c s₁ B hml hv
  obtain ⟨rfl, hsz, hP, hK, hD0, hN, hX⟩ := hv
  have hx := B.exec
  have hb := B.bytes
  have hr := B.returns
  have hts := atoms_spec (ws := vW_X12_openTerm) B.pre
  have hown : s.vm.findClass RX12 = some m.cls := findClass_of_methodNamed B.named
  have hlocks := B.notSynchronized
  have hin12 : ∀ w ∈ wsX120, w ∈ vW_X12_openTerm := u9_X12_openTerm_wsX120
  subst hsz
  have hD := hD0.self (sz := s.heap.size)
  have hAE := k_AE hD0 hX
  generalize hAe : va_A [(h0, .inr (12, f0)), (h1, .inl (cI, 16, .inl g0)), (h2, .inl (cI, 16, .inl g1)), (h3, .inl (cI, 16, .inl g2)), (h4, .inl (cJ, 16, .inr (.inl g3))), (h5, .inl (cI, 16, .inl g4))] s.heap.size = A at hD hAE ⊢
  have hA : ∀ q : Nat, s.heap.size ≤ q → A q := fun q h => by rw [← hAe]; exact Or.inr h
  have hS : va_S A s.heap s.heap [] := va_S.rf
  have hP : va_P D vwCl [(h0, .inr (12, f0)), (h1, .inl (cI, 16, .inl g0)), (h2, .inl (cI, 16, .inl g1)), (h3, .inl (cI, 16, .inl g2)), (h4, .inl (cJ, 16, .inr (.inl g3))), (h5, .inl (cI, 16, .inl g4))] s.heap := hP
  have hl := lv_entry ([.ref h0, .int 33] : List Value) (n := 2) (Nat.le_of_ble_eq_true rfl)
  rw [lg_entry_eq]
  generalize (lg_sl ([.ref h0, .int 33]) ++ List.replicate (2 - (lg_sl ([.ref h0, .int 33])).length) Slot.unset).toArray = ls at hl ⊢
  have hl : lv_has ls 2 [(0, .ref h0), (1, .int 33)] := hl
  refine lv_aload_n hx hb dX12_openTerm_0 rfl (lv_at hl 0 rfl) ?_
  refine lv_dup hx hb dX12_openTerm_1 rfl ?_
  refine k_get (D := D) (ci := 12) (v := .int (-1)) (N := 195) hx hb hts hin12 hown hK hP 0 rfl rfl (by decide) f9_12_83 (hts (.fieldLink RX12 642 "IntegerHouseModel" "terms" "I") (o9_X12_openTerm _ (List.mem_of_getElem? (i := 0) rfl))) e0 dX12_openTerm_2 ?_
  refine lv_iconst (v := 1) hx hb dX12_openTerm_5 (by decide) ?_
  refine lv_iadd hx hb dX12_openTerm_6 ?_
  refine k_topi (y := 0) (by decide) ?_
  refine k_put (D := D) (ci := 12) (v := .int 0) (ty := .int) (N := 195) hx hb hts hin12 tyX12 tyX12_ok nmX12 hown hK hP hD hS 0 rfl rfl (by decide) f9_12_83 (hts (.fieldLink RX12 642 "IntegerHouseModel" "terms" "I") (o9_X12_openTerm _ (List.mem_of_getElem? (i := 0) rfl))) rfl pd_2 rfl rfl (k_len e0) dX12_openTerm_7 (fun H locs hP hD hS => ?_)
  have hP : va_P D vwCl [(h0, .inr (12, (f0.set 83 (.int 0)))), (h1, .inl (cI, 16, .inl g0)), (h2, .inl (cI, 16, .inl g1)), (h3, .inl (cI, 16, .inl g2)), (h4, .inl (cJ, 16, .inr (.inl g3))), (h5, .inl (cI, 16, .inl g4))] H := hP
  have hD : va_D A [(h0, .inr (12, (f0.set 83 (.int 0)))), (h1, .inl (cI, 16, .inl g0)), (h2, .inl (cI, 16, .inl g1)), (h3, .inl (cI, 16, .inl g2)), (h4, .inl (cJ, 16, .inr (.inl g3))), (h5, .inl (cI, 16, .inl g4))] := hD
  refine lv_aload_n hx hb dX12_openTerm_10 rfl (lv_at hl 0 rfl) ?_
  refine k_get (D := D) (ci := 12) (v := .ref h1) (N := 195) hx hb hts hin12 hown hK hP 0 rfl rfl (by decide) f9_12_77 (hts (.fieldLink RX12 208 "IntegerHouseModel" "inKind" "[I") (o9_X12_openTerm _ (List.mem_of_getElem? (i := 1) rfl))) (k_ne (by decide) e1) dX12_openTerm_11 ?_
  refine lv_aload_n hx hb dX12_openTerm_14 rfl (lv_at hl 0 rfl) ?_
  refine k_get (D := D) (ci := 12) (v := .int 0) (N := 195) hx hb hts hin12 hown hK hP 0 rfl rfl (by decide) f9_12_83 (hts (.fieldLink RX12 642 "IntegerHouseModel" "terms" "I") (o9_X12_openTerm _ (List.mem_of_getElem? (i := 0) rfl))) (k_set e0) dX12_openTerm_15 ?_
  refine lv_iload_n hx hb dX12_openTerm_18 rfl (lv_at hl 1 rfl) ?_
  refine va_iast hx hb hK hP hD hS 1 0 rfl rfl (k_in (by decide)) dX12_openTerm_19 (fun H locs hP hD hS => ?_)
  have hP : va_P D vwCl [(h0, .inr (12, (f0.set 83 (.int 0)))), (h1, .inl (cI, 16, .inl (upd g0 0 33))), (h2, .inl (cI, 16, .inl g1)), (h3, .inl (cI, 16, .inl g2)), (h4, .inl (cJ, 16, .inr (.inl g3))), (h5, .inl (cI, 16, .inl g4))] H := hP
  have hD : va_D A [(h0, .inr (12, (f0.set 83 (.int 0)))), (h1, .inl (cI, 16, .inl (upd g0 0 33))), (h2, .inl (cI, 16, .inl g1)), (h3, .inl (cI, 16, .inl g2)), (h4, .inl (cJ, 16, .inr (.inl g3))), (h5, .inl (cI, 16, .inl g4))] := hD
  refine lv_aload_n hx hb dX12_openTerm_20 rfl (lv_at hl 0 rfl) ?_
  refine k_get (D := D) (ci := 12) (v := .ref h2) (N := 195) hx hb hts hin12 hown hK hP 0 rfl rfl (by decide) f9_12_78 (hts (.fieldLink RX12 211 "IntegerHouseModel" "inFirst" "[I") (o9_X12_openTerm _ (List.mem_of_getElem? (i := 2) rfl))) (k_ne (by decide) e2) dX12_openTerm_21 ?_
  refine lv_aload_n hx hb dX12_openTerm_24 rfl (lv_at hl 0 rfl) ?_
  refine k_get (D := D) (ci := 12) (v := .int 0) (N := 195) hx hb hts hin12 hown hK hP 0 rfl rfl (by decide) f9_12_83 (hts (.fieldLink RX12 642 "IntegerHouseModel" "terms" "I") (o9_X12_openTerm _ (List.mem_of_getElem? (i := 0) rfl))) (k_set e0) dX12_openTerm_25 ?_
  refine lv_iconst (v := (-1)) hx hb dX12_openTerm_28 (by decide) ?_
  refine va_iast hx hb hK hP hD hS 2 0 rfl rfl (k_in (by decide)) dX12_openTerm_29 (fun H locs hP hD hS => ?_)
  have hP : va_P D vwCl [(h0, .inr (12, (f0.set 83 (.int 0)))), (h1, .inl (cI, 16, .inl (upd g0 0 33))), (h2, .inl (cI, 16, .inl (upd g1 0 (-1)))), (h3, .inl (cI, 16, .inl g2)), (h4, .inl (cJ, 16, .inr (.inl g3))), (h5, .inl (cI, 16, .inl g4))] H := hP
  have hD : va_D A [(h0, .inr (12, (f0.set 83 (.int 0)))), (h1, .inl (cI, 16, .inl (upd g0 0 33))), (h2, .inl (cI, 16, .inl (upd g1 0 (-1)))), (h3, .inl (cI, 16, .inl g2)), (h4, .inl (cJ, 16, .inr (.inl g3))), (h5, .inl (cI, 16, .inl g4))] := hD
  refine lv_aload_n hx hb dX12_openTerm_30 rfl (lv_at hl 0 rfl) ?_
  refine k_get (D := D) (ci := 12) (v := .ref h3) (N := 195) hx hb hts hin12 hown hK hP 0 rfl rfl (by decide) f9_12_80 (hts (.fieldLink RX12 217 "IntegerHouseModel" "inSign" "[I") (o9_X12_openTerm _ (List.mem_of_getElem? (i := 3) rfl))) (k_ne (by decide) e3) dX12_openTerm_31 ?_
  refine lv_aload_n hx hb dX12_openTerm_34 rfl (lv_at hl 0 rfl) ?_
  refine k_get (D := D) (ci := 12) (v := .int 0) (N := 195) hx hb hts hin12 hown hK hP 0 rfl rfl (by decide) f9_12_83 (hts (.fieldLink RX12 642 "IntegerHouseModel" "terms" "I") (o9_X12_openTerm _ (List.mem_of_getElem? (i := 0) rfl))) (k_set e0) dX12_openTerm_35 ?_
  refine lv_iconst (v := 1) hx hb dX12_openTerm_38 (by decide) ?_
  refine va_iast hx hb hK hP hD hS 3 0 rfl rfl (k_in (by decide)) dX12_openTerm_39 (fun H locs hP hD hS => ?_)
  have hP : va_P D vwCl [(h0, .inr (12, (f0.set 83 (.int 0)))), (h1, .inl (cI, 16, .inl (upd g0 0 33))), (h2, .inl (cI, 16, .inl (upd g1 0 (-1)))), (h3, .inl (cI, 16, .inl (upd g2 0 1))), (h4, .inl (cJ, 16, .inr (.inl g3))), (h5, .inl (cI, 16, .inl g4))] H := hP
  have hD : va_D A [(h0, .inr (12, (f0.set 83 (.int 0)))), (h1, .inl (cI, 16, .inl (upd g0 0 33))), (h2, .inl (cI, 16, .inl (upd g1 0 (-1)))), (h3, .inl (cI, 16, .inl (upd g2 0 1))), (h4, .inl (cJ, 16, .inr (.inl g3))), (h5, .inl (cI, 16, .inl g4))] := hD
  refine lv_aload_n hx hb dX12_openTerm_40 rfl (lv_at hl 0 rfl) ?_
  refine k_get (D := D) (ci := 12) (v := .ref h4) (N := 195) hx hb hts hin12 hown hK hP 0 rfl rfl (by decide) f9_12_81 (hts (.fieldLink RX12 220 "IntegerHouseModel" "inTimes" "[J") (o9_X12_openTerm _ (List.mem_of_getElem? (i := 4) rfl))) (k_ne (by decide) e4) dX12_openTerm_41 ?_
  refine lv_aload_n hx hb dX12_openTerm_44 rfl (lv_at hl 0 rfl) ?_
  refine k_get (D := D) (ci := 12) (v := .int 0) (N := 195) hx hb hts hin12 hown hK hP 0 rfl rfl (by decide) f9_12_83 (hts (.fieldLink RX12 642 "IntegerHouseModel" "terms" "I") (o9_X12_openTerm _ (List.mem_of_getElem? (i := 0) rfl))) (k_set e0) dX12_openTerm_45 ?_
  refine lv_lconst (v := 1) hx hb dX12_openTerm_48 (by decide) ?_
  refine va_last hx hb hK hP hD hS 4 1 rfl rfl (k_in (by decide)) dX12_openTerm_49 (fun H locs hP hD hS => ?_)
  have hP : va_P D vwCl [(h0, .inr (12, (f0.set 83 (.int 0)))), (h1, .inl (cI, 16, .inl (upd g0 0 33))), (h2, .inl (cI, 16, .inl (upd g1 0 (-1)))), (h3, .inl (cI, 16, .inl (upd g2 0 1))), (h4, .inl (cJ, 16, .inr (.inl (vp_updL g3 0 1)))), (h5, .inl (cI, 16, .inl g4))] H := hP
  have hD : va_D A [(h0, .inr (12, (f0.set 83 (.int 0)))), (h1, .inl (cI, 16, .inl (upd g0 0 33))), (h2, .inl (cI, 16, .inl (upd g1 0 (-1)))), (h3, .inl (cI, 16, .inl (upd g2 0 1))), (h4, .inl (cJ, 16, .inr (.inl (vp_updL g3 0 1)))), (h5, .inl (cI, 16, .inl g4))] := hD
  refine lv_aload_n hx hb dX12_openTerm_50 rfl (lv_at hl 0 rfl) ?_
  refine k_get (D := D) (ci := 12) (v := .ref h5) (N := 195) hx hb hts hin12 hown hK hP 0 rfl rfl (by decide) f9_12_82 (hts (.fieldLink RX12 223 "IntegerHouseModel" "inOne" "[I") (o9_X12_openTerm _ (List.mem_of_getElem? (i := 5) rfl))) (k_ne (by decide) e5) dX12_openTerm_51 ?_
  refine lv_aload_n hx hb dX12_openTerm_54 rfl (lv_at hl 0 rfl) ?_
  refine k_get (D := D) (ci := 12) (v := .int 0) (N := 195) hx hb hts hin12 hown hK hP 0 rfl rfl (by decide) f9_12_83 (hts (.fieldLink RX12 642 "IntegerHouseModel" "terms" "I") (o9_X12_openTerm _ (List.mem_of_getElem? (i := 0) rfl))) (k_set e0) dX12_openTerm_55 ?_
  refine lv_iconst (v := (-1)) hx hb dX12_openTerm_58 (by decide) ?_
  refine va_iast hx hb hK hP hD hS 5 0 rfl rfl (k_in (by decide)) dX12_openTerm_59 (fun H locs hP hD hS => ?_)
  have hP : va_P D vwCl [(h0, .inr (12, (f0.set 83 (.int 0)))), (h1, .inl (cI, 16, .inl (upd g0 0 33))), (h2, .inl (cI, 16, .inl (upd g1 0 (-1)))), (h3, .inl (cI, 16, .inl (upd g2 0 1))), (h4, .inl (cJ, 16, .inr (.inl (vp_updL g3 0 1)))), (h5, .inl (cI, 16, .inl (upd g4 0 (-1))))] H := hP
  have hD : va_D A [(h0, .inr (12, (f0.set 83 (.int 0)))), (h1, .inl (cI, 16, .inl (upd g0 0 33))), (h2, .inl (cI, 16, .inl (upd g1 0 (-1)))), (h3, .inl (cI, 16, .inl (upd g2 0 1))), (h4, .inl (cJ, 16, .inr (.inl (vp_updL g3 0 1)))), (h5, .inl (cI, 16, .inl (upd g4 0 (-1))))] := hD
  exact W.vret hx hb hr (fun t ht hW => ⟨⟨(), rfl, trivial, kB_mk ht hW hP hK hD⟩, hS.F ht⟩) hS.2.2 dX12_openTerm_60
set_option maxHeartbeats 400000000 in
set_option maxRecDepth 100000 in
theorem c_X12_readInTerm_0 (l : Launch) (E : kE) (D : va_G) (cI cJ cB cZ : ClassId) (h0 : Nat) (f0 : List Value) (h1 : Nat) (h2 : Nat) (g0 : Nat → Int32) (g1 : Nat → Int32) (e0 : f0[84]? = some (.int 3)) (e1 : f0[80]? = some (.ref h1)) (e2 : f0[83]? = some (.int 0)) (e3 : f0[25]? = some (.ref h2)) (e4 : f0[28]? = some (.int 0)) (e5 : g0 0 = 0) : kV l E D (kT cI cJ cB cZ) yX12_readInTerm vW_X12_readInTerm ({ frames := 1, cells := 0, slots := 0, locals := 21 }) [.ref h0] [(h0, .inr (12, f0)), (h2, .inl (cI, 2001, .inl g0)), (h1, .inl (cI, 16, .inl g1))] (fun _ : Unit => [(h0, .inr (12, (f0.set 84 (.int 4)))), (h2, .inl (cI, 2001, .inl g0)), (h1, .inl (cI, 16, .inl (upd g1 0 1)))]) 0 0 := by
  intro sz
  refine Met.ofW (cc := cX12_readInTerm) (maxL := 1) (ret := none) (by decide) rfl ?_
  intro p e s m args below meth c s₁ B hml hv
  obtain ⟨rfl, hsz, hP, hK, hD0, hN, hX⟩ := hv
  have hx := B.exec
  have hb := B.bytes
  have hr := B.returns
  have hts := atoms_spec (ws := vW_X12_readInTerm) B.pre
  have hown : s.vm.findClass RX12 = some m.cls := findClass_of_methodNamed B.named
  have hlocks := B.notSynchronized
  have hin12 : ∀ w ∈ wsX120, w ∈ vW_X12_readInTerm := u9_X12_readInTerm_wsX120
  subst hsz
  have hD := hD0.self (sz := s.heap.size)
  have hAE := k_AE hD0 hX
  generalize hAe : va_A [(h0, .inr (12, f0)), (h2, .inl (cI, 2001, .inl g0)), (h1, .inl (cI, 16, .inl g1))] s.heap.size = A at hD hAE ⊢
  have hA : ∀ q : Nat, s.heap.size ≤ q → A q := fun q h => by rw [← hAe]; exact Or.inr h
  have hS : va_S A s.heap s.heap [] := va_S.rf
  have hP : va_P D vwCl [(h0, .inr (12, f0)), (h2, .inl (cI, 2001, .inl g0)), (h1, .inl (cI, 16, .inl g1))] s.heap := hP
  have hl := lv_entry ([.ref h0] : List Value) (n := 1) (Nat.le_of_ble_eq_true rfl)
  rw [lg_entry_eq]
  generalize (lg_sl ([.ref h0]) ++ List.replicate (1 - (lg_sl ([.ref h0])).length) Slot.unset).toArray = ls at hl ⊢
  have hl : lv_has ls 1 [(0, .ref h0)] := hl
  refine lv_aload_n hx hb dX12_readInTerm_0 rfl (lv_at hl 0 rfl) ?_
  refine k_get (D := D) (ci := 12) (v := .int 3) (N := 195) hx hb hts hin12 hown hK hP 0 rfl rfl (by decide) f9_12_84 (hts (.fieldLink RX12 648 "IntegerHouseModel" "state" "I") (o9_X12_readInTerm _ (List.mem_of_getElem? (i := 0) rfl))) e0 dX12_readInTerm_1 ?_
  refine lv_iconst (v := 3) hx hb dX12_readInTerm_4 (by decide) ?_
  refine lv_icmp_ne (tgt := 52) hx hb dX12_readInTerm_5 (by decide) (fun c9 => absurd (by decide) c9) (fun _ => ?_)
  refine lv_aload_n hx hb dX12_readInTerm_8 rfl (lv_at hl 0 rfl) ?_
  refine k_get (D := D) (ci := 12) (v := .ref h1) (N := 195) hx hb hts hin12 hown hK hP 0 rfl rfl (by decide) f9_12_80 (hts (.fieldLink RX12 217 "IntegerHouseModel" "inSign" "[I") (o9_X12_readInTerm _ (List.mem_of_getElem? (i := 1) rfl))) e1 dX12_readInTerm_9 ?_
  refine lv_aload_n hx hb dX12_readInTerm_12 rfl (lv_at hl 0 rfl) ?_
  refine k_get (D := D) (ci := 12) (v := .int 0) (N := 195) hx hb hts hin12 hown hK hP 0 rfl rfl (by decide) f9_12_83 (hts (.fieldLink RX12 642 "IntegerHouseModel" "terms" "I") (o9_X12_readInTerm _ (List.mem_of_getElem? (i := 2) rfl))) e2 dX12_readInTerm_13 ?_
  refine lv_aload_n hx hb dX12_readInTerm_16 rfl (lv_at hl 0 rfl) ?_
  refine lv_bipush (v := 9) hx hb dX12_readInTerm_17 (by decide) ?_
  refine k_cVi (As := [.int 9]) (rest := [.int 0, .ref h1]) (wc := [(h0, .inr (12, f0)), (h2, .inl (cI, 2001, .inl g0))]) (wr := [(h1, .inl (cI, 16, .inl g1))]) (w1 := [(h0, .inr (12, f0)), (h2, .inl (cI, 2001, .inl g0))]) ⟨hx, hb, hml, hown, hts⟩ hN hX hAE hK hP hD hS hA [0, 1] [2] (ci := 12) rfl rfl rfl rfl (by decide +kernel) (by decide +kernel) (by decide +kernel) (c_X12_isSign_1 l E D cI cJ cB cZ h0 f0 h2 g0 e3 e4 e5) (cwV 1 hts g9_X12_readInTerm_X12_isSign_672 rfl rfl rfl (by decide +kernel) ⟨Nat.le_of_ble_eq_true rfl, Nat.le_of_ble_eq_true rfl⟩) rfl hl.1 (Nat.le_of_ble_eq_true rfl) dX12_readInTerm_19 ⟨Nat.le_of_ble_eq_true rfl, Nat.le_of_ble_eq_true rfl⟩ (fun H locs hP hD hS => ?_)
  have hP : va_P D vwCl [(h1, .inl (cI, 16, .inl g1)), (h0, .inr (12, f0)), (h2, .inl (cI, 2001, .inl g0))] H := hP
  have hD : va_D A [(h1, .inl (cI, 16, .inl g1)), (h0, .inr (12, f0)), (h2, .inl (cI, 2001, .inl g0))] := hD
  refine lv_if_eq (tgt := 29) hx hb dX12_readInTerm_22 (by decide) (fun _ => ?_) (fun c9 => absurd (by decide) c9)
  refine lv_iconst (v := 1) hx hb dX12_readInTerm_29 (by decide) ?_
  refine va_iast hx hb hK hP hD hS 0 0 rfl rfl (k_in (by decide)) dX12_readInTerm_30 (fun H locs hP hD hS => ?_)
  have hP : va_P D vwCl [(h1, .inl (cI, 16, .inl (upd g1 0 1))), (h0, .inr (12, f0)), (h2, .inl (cI, 2001, .inl g0))] H := hP
  have hD : va_D A [(h1, .inl (cI, 16, .inl (upd g1 0 1))), (h0, .inr (12, f0)), (h2, .inl (cI, 2001, .inl g0))] := hD
  refine lv_aload_n hx hb dX12_readInTerm_31 rfl (lv_at hl 0 rfl) ?_
  refine lv_bipush (v := 9) hx hb dX12_readInTerm_32 (by decide) ?_
  refine k_cVi (As := [.int 9]) (rest := []) (wc := [(h0, .inr (12, f0)), (h2, .inl (cI, 2001, .inl g0))]) (wr := [(h1, .inl (cI, 16, .inl (upd g1 0 1)))]) (w1 := [(h0, .inr (12, f0)), (h2, .inl (cI, 2001, .inl g0))]) ⟨hx, hb, hml, hown, hts⟩ hN hX hAE hK hP hD hS hA [1, 2] [0] (ci := 12) rfl rfl rfl rfl (by decide +kernel) (by decide +kernel) (by decide +kernel) (c_X12_isSign_1 l E D cI cJ cB cZ h0 f0 h2 g0 e3 e4 e5) (cwV 1 hts g9_X12_readInTerm_X12_isSign_672 rfl rfl rfl (by decide +kernel) ⟨Nat.le_of_ble_eq_true rfl, Nat.le_of_ble_eq_true rfl⟩) rfl hl.1 (Nat.le_of_ble_eq_true rfl) dX12_readInTerm_34 ⟨Nat.le_of_ble_eq_true rfl, Nat.le_of_ble_eq_true rfl⟩ (fun H locs hP hD hS => ?_)
  have hP : va_P D vwCl [(h1, .inl (cI, 16, .inl (upd g1 0 1))), (h0, .inr (12, f0)), (h2, .inl (cI, 2001, .inl g0))] H := hP
  have hD : va_D A [(h1, .inl (cI, 16, .inl (upd g1 0 1))), (h0, .inr (12, f0)), (h2, .inl (cI, 2001, .inl g0))] := hD
  refine lv_if_eq (tgt := 44) hx hb dX12_readInTerm_37 (by decide) (fun _ => ?_) (fun c9 => absurd (by decide) c9)
  refine lv_aload_n hx hb dX12_readInTerm_44 rfl (lv_at hl 0 rfl) ?_
  refine lv_iconst (v := 4) hx hb dX12_readInTerm_45 (by decide) ?_
  refine k_put (D := D) (ci := 12) (v := .int 4) (ty := .int) (N := 195) hx hb hts hin12 tyX12 tyX12_ok nmX12 hown hK hP hD hS 1 rfl rfl (by decide) f9_12_84 (hts (.fieldLink RX12 648 "IntegerHouseModel" "state" "I") (o9_X12_readInTerm _ (List.mem_of_getElem? (i := 0) rfl))) rfl pd_2 rfl rfl (k_len e0) dX12_readInTerm_46 (fun H locs hP hD hS => ?_)
  have hP : va_P D vwCl [(h1, .inl (cI, 16, .inl (upd g1 0 1))), (h0, .inr (12, (f0.set 84 (.int 4)))), (h2, .inl (cI, 2001, .inl g0))] H := hP
  have hD : va_D A [(h1, .inl (cI, 16, .inl (upd g1 0 1))), (h0, .inr (12, (f0.set 84 (.int 4)))), (h2, .inl (cI, 2001, .inl g0))] := hD
  refine lv_goto (tgt := 220) hx hb dX12_readInTerm_49 (by decide) ?_
  have hP := hP.sub (ws' := [(h0, .inr (12, (f0.set 84 (.int 4)))), (h2, .inl (cI, 2001, .inl g0)), (h1, .inl (cI, 16, .inl (upd g1 0 1)))]) [1, 2, 0] rfl
  have hD := hD.sub (ws' := [(h0, .inr (12, (f0.set 84 (.int 4)))), (h2, .inl (cI, 2001, .inl g0)), (h1, .inl (cI, 16, .inl (upd g1 0 1)))]) [1, 2, 0] (by decide +kernel) rfl
  exact W.vret hx hb hr (fun t ht hW => ⟨⟨(), rfl, trivial, kB_mk ht hW hP hK hD⟩, hS.F ht⟩) hS.2.2 dX12_readInTerm_220
set_option maxHeartbeats 400000000 in
set_option maxRecDepth 100000 in
theorem c_X12_readInTerm_1 (l : Launch) (E : kE) (D : va_G) (cI cJ cB cZ : ClassId) (h0 : Nat) (f0 : List Value) (h1 : Nat) (g0 : Nat → Int64) (h2 : Nat) (g1 : Nat → Int32) (e0 : f0[84]? = some (.int 4)) (e1 : f0[81]? = some (.ref h1)) (e2 : f0[83]? = some (.int 0)) (e3 : f0[25]? = some (.ref h2)) (e4 : f0[28]? = some (.int 0)) (e5 : g1 0 = 0) : kV l E D (kT cI cJ cB cZ) yX12_readInTerm vW_X12_readInTerm ({ frames := 0, cells := 0, slots := 0, locals := 0 }) [.ref h0] [(h0, .inr (12, f0)), (h1, .inl (cJ, 16, .inr (.inl g0))), (h2, .inl (cI, 2001, .inl g1))] (fun _ : Unit => [(h0, .inr (12, (f0.set 84 (.int 5)))), (h1, .inl (cJ, 16, .inr (.inl (vp_updL g0 0 1)))), (h2, .inl (cI, 2001, .inl g1))]) 0 0 := by
  intro sz
  refine Met.ofW (cc := cX12_readInTerm) (maxL := 1) (ret := none) (by decide) rfl ?_
  intro p e s m args below meth c s₁ B hml hv
  obtain ⟨rfl, hsz, hP, hK, hD0, hN, hX⟩ := hv
  have hx := B.exec
  have hb := B.bytes
  have hr := B.returns
  have hts := atoms_spec (ws := vW_X12_readInTerm) B.pre
  have hown : s.vm.findClass RX12 = some m.cls := findClass_of_methodNamed B.named
  have hlocks := B.notSynchronized
  have hin12 : ∀ w ∈ wsX120, w ∈ vW_X12_readInTerm := u9_X12_readInTerm_wsX120
  subst hsz
  have hD := hD0.self (sz := s.heap.size)
  have hAE := k_AE hD0 hX
  generalize hAe : va_A [(h0, .inr (12, f0)), (h1, .inl (cJ, 16, .inr (.inl g0))), (h2, .inl (cI, 2001, .inl g1))] s.heap.size = A at hD hAE ⊢
  have hA : ∀ q : Nat, s.heap.size ≤ q → A q := fun q h => by rw [← hAe]; exact Or.inr h
  have hS : va_S A s.heap s.heap [] := va_S.rf
  have hP : va_P D vwCl [(h0, .inr (12, f0)), (h1, .inl (cJ, 16, .inr (.inl g0))), (h2, .inl (cI, 2001, .inl g1))] s.heap := hP
  have hl := lv_entry ([.ref h0] : List Value) (n := 1) (Nat.le_of_ble_eq_true rfl)
  rw [lg_entry_eq]
  generalize (lg_sl ([.ref h0]) ++ List.replicate (1 - (lg_sl ([.ref h0])).length) Slot.unset).toArray = ls at hl ⊢
  have hl : lv_has ls 1 [(0, .ref h0)] := hl
  refine lv_aload_n hx hb dX12_readInTerm_0 rfl (lv_at hl 0 rfl) ?_
  refine k_get (D := D) (ci := 12) (v := .int 4) (N := 195) hx hb hts hin12 hown hK hP 0 rfl rfl (by decide) f9_12_84 (hts (.fieldLink RX12 648 "IntegerHouseModel" "state" "I") (o9_X12_readInTerm _ (List.mem_of_getElem? (i := 0) rfl))) e0 dX12_readInTerm_1 ?_
  refine lv_iconst (v := 3) hx hb dX12_readInTerm_4 (by decide) ?_
  refine lv_icmp_ne (tgt := 52) hx hb dX12_readInTerm_5 (by decide) (fun _ => ?_) (fun c9 => absurd c9 (by decide))
  refine lv_aload_n hx hb dX12_readInTerm_52 rfl (lv_at hl 0 rfl) ?_
  refine k_get (D := D) (ci := 12) (v := .int 4) (N := 195) hx hb hts hin12 hown hK hP 0 rfl rfl (by decide) f9_12_84 (hts (.fieldLink RX12 648 "IntegerHouseModel" "state" "I") (o9_X12_readInTerm _ (List.mem_of_getElem? (i := 0) rfl))) e0 dX12_readInTerm_53 ?_
  refine lv_iconst (v := 4) hx hb dX12_readInTerm_56 (by decide) ?_
  refine lv_icmp_ne (tgt := 148) hx hb dX12_readInTerm_57 (by decide) (fun c9 => absurd (by decide) c9) (fun _ => ?_)
  refine lv_aload_n hx hb dX12_readInTerm_60 rfl (lv_at hl 0 rfl) ?_
  refine k_get (D := D) (ci := 12) (v := .ref h1) (N := 195) hx hb hts hin12 hown hK hP 0 rfl rfl (by decide) f9_12_81 (hts (.fieldLink RX12 220 "IntegerHouseModel" "inTimes" "[J") (o9_X12_readInTerm _ (List.mem_of_getElem? (i := 7) rfl))) e1 dX12_readInTerm_61 ?_
  refine lv_aload_n hx hb dX12_readInTerm_64 rfl (lv_at hl 0 rfl) ?_
  refine k_get (D := D) (ci := 12) (v := .int 0) (N := 195) hx hb hts hin12 hown hK hP 0 rfl rfl (by decide) f9_12_83 (hts (.fieldLink RX12 642 "IntegerHouseModel" "terms" "I") (o9_X12_readInTerm _ (List.mem_of_getElem? (i := 2) rfl))) e2 dX12_readInTerm_65 ?_
  refine lv_lconst (v := 1) hx hb dX12_readInTerm_68 (by decide) ?_
  refine va_last hx hb hK hP hD hS 1 1 rfl rfl (k_in (by decide)) dX12_readInTerm_69 (fun H locs hP hD hS => ?_)
  have hP : va_P D vwCl [(h0, .inr (12, f0)), (h1, .inl (cJ, 16, .inr (.inl (vp_updL g0 0 1)))), (h2, .inl (cI, 2001, .inl g1))] H := hP
  have hD : va_D A [(h0, .inr (12, f0)), (h1, .inl (cJ, 16, .inr (.inl (vp_updL g0 0 1)))), (h2, .inl (cI, 2001, .inl g1))] := hD
  refine lv_aload_n hx hb dX12_readInTerm_70 rfl (lv_at hl 0 rfl) ?_
  refine lv_iconst (v := 5) hx hb dX12_readInTerm_71 (by decide) ?_
  refine k_put (D := D) (ci := 12) (v := .int 5) (ty := .int) (N := 195) hx hb hts hin12 tyX12 tyX12_ok nmX12 hown hK hP hD hS 0 rfl rfl (by decide) f9_12_84 (hts (.fieldLink RX12 648 "IntegerHouseModel" "state" "I") (o9_X12_readInTerm _ (List.mem_of_getElem? (i := 0) rfl))) rfl pd_2 rfl rfl (k_len e0) dX12_readInTerm_72 (fun H locs hP hD hS => ?_)
  have hP : va_P D vwCl [(h0, .inr (12, (f0.set 84 (.int 5)))), (h1, .inl (cJ, 16, .inr (.inl (vp_updL g0 0 1)))), (h2, .inl (cI, 2001, .inl g1))] H := hP
  have hD : va_D A [(h0, .inr (12, (f0.set 84 (.int 5)))), (h1, .inl (cJ, 16, .inr (.inl (vp_updL g0 0 1)))), (h2, .inl (cI, 2001, .inl g1))] := hD
  refine lv_aload_n hx hb dX12_readInTerm_75 rfl (lv_at hl 0 rfl) ?_
  refine k_get (D := D) (ci := 12) (v := .ref h2) (N := 195) hx hb hts hin12 hown hK hP 0 rfl rfl (by decide) f9_12_25 (hts (.fieldLink RX12 87 "IntegerHouseModel" "tokenKind" "[I") (o9_X12_readInTerm _ (List.mem_of_getElem? (i := 8) rfl))) (k_ne (by decide) e3) dX12_readInTerm_76 ?_
  refine lv_aload_n hx hb dX12_readInTerm_79 rfl (lv_at hl 0 rfl) ?_
  refine k_get (D := D) (ci := 12) (v := .int 0) (N := 195) hx hb hts hin12 hown hK hP 0 rfl rfl (by decide) f9_12_28 (hts (.fieldLink RX12 597 "IntegerHouseModel" "now" "I") (o9_X12_readInTerm _ (List.mem_of_getElem? (i := 9) rfl))) (k_ne (by decide) e4) dX12_readInTerm_80 ?_
  refine va_iald hx hb hK hP 2 0 rfl rfl (k_in (by decide)) dX12_readInTerm_83 ?_
  refine k_topi (y := 0) e5 ?_
  refine lv_iconst (v := 2) hx hb dX12_readInTerm_84 (by decide) ?_
  refine lv_icmp_ne (tgt := 220) hx hb dX12_readInTerm_85 (by decide) (fun _ => ?_) (fun c9 => absurd c9 (by decide))
  exact W.vret hx hb hr (fun t ht hW => ⟨⟨(), rfl, trivial, kB_mk ht hW hP hK hD⟩, hS.F ht⟩) hS.2.2 dX12_readInTerm_220
set_option maxHeartbeats 400000000 in
set_option maxRecDepth 100000 in
theorem c_X12_readAtom_0 (l : Launch) (E : kE) (D : va_G) (cI cJ cB cZ : ClassId) (h0 : Nat) (f0 : List Value) (h1 : Nat) (g0 : Nat → Int32) (h2 : Nat) (g1 : Nat → Int32) (e0 : f0[25]? = some (.ref h1)) (e1 : f0[28]? = some (.int 0)) (e2 : g0 0 = 0) (e3 : f0[66]? = some (.int 25)) (e4 : f0[31]? = some (.int 0)) (e5 : f0[29]? = some (.int 0)) (e6 : f0[23]? = some (.ref h2)) (e7 : g1 0 = 0) (e8 : f0[30]? = some (.int 0)) : kV l E D (kT cI cJ cB cZ) yX12_readAtom vW_X12_readAtom ({ frames := 2, cells := 0, slots := 0, locals := 42 }) [.ref h0] [(h0, .inr (12, f0)), (h1, .inl (cI, 2001, .inl g0)), (h2, .inl (cI, 2001, .inl g1))] (fun _ : Unit => [(h0, .inr (12, (((f0.set 31 (.int 1)).set 29 (.int 2)).set 30 (.int 0)))), (h1, .inl (cI, 2001, .inl g0)), (h2, .inl (cI, 2001, .inl g1))]) 0 0 := by
  intro sz
  refine Met.ofW (cc := cX12_readAtom) (maxL := 3) (ret := none) (by decide) rfl ?_
  intro p e s m args below meth c s₁ B hml hv
  obtain ⟨rfl, hsz, hP, hK, hD0, hN, hX⟩ := hv
  have hx := B.exec
  have hb := B.bytes
  have hr := B.returns
  have hts := atoms_spec (ws := vW_X12_readAtom) B.pre
  have hown : s.vm.findClass RX12 = some m.cls := findClass_of_methodNamed B.named
  have hlocks := B.notSynchronized
  have hin12 : ∀ w ∈ wsX120, w ∈ vW_X12_readAtom := u9_X12_readAtom_wsX120
  subst hsz
  have hD := hD0.self (sz := s.heap.size)
  have hAE := k_AE hD0 hX
  generalize hAe : va_A [(h0, .inr (12, f0)), (h1, .inl (cI, 2001, .inl g0)), (h2, .inl (cI, 2001, .inl g1))] s.heap.size = A at hD hAE ⊢
  have hA : ∀ q : Nat, s.heap.size ≤ q → A q := fun q h => by rw [← hAe]; exact Or.inr h
  have hS : va_S A s.heap s.heap [] := va_S.rf
  have hP : va_P D vwCl [(h0, .inr (12, f0)), (h1, .inl (cI, 2001, .inl g0)), (h2, .inl (cI, 2001, .inl g1))] s.heap := hP
  have hl := lv_entry ([.ref h0] : List Value) (n := 3) (Nat.le_of_ble_eq_true rfl)
  rw [lg_entry_eq]
  generalize (lg_sl ([.ref h0]) ++ List.replicate (3 - (lg_sl ([.ref h0])).length) Slot.unset).toArray = ls at hl ⊢
  have hl : lv_has ls 3 [(0, .ref h0)] := hl
  refine lv_aload_n hx hb dX12_readAtom_0 rfl (lv_at hl 0 rfl) ?_
  refine k_get (D := D) (ci := 12) (v := .ref h1) (N := 195) hx hb hts hin12 hown hK hP 0 rfl rfl (by decide) f9_12_25 (hts (.fieldLink RX12 87 "IntegerHouseModel" "tokenKind" "[I") (o9_X12_readAtom _ (List.mem_of_getElem? (i := 0) rfl))) e0 dX12_readAtom_1 ?_
  refine lv_aload_n hx hb dX12_readAtom_4 rfl (lv_at hl 0 rfl) ?_
  refine k_get (D := D) (ci := 12) (v := .int 0) (N := 195) hx hb hts hin12 hown hK hP 0 rfl rfl (by decide) f9_12_28 (hts (.fieldLink RX12 597 "IntegerHouseModel" "now" "I") (o9_X12_readAtom _ (List.mem_of_getElem? (i := 1) rfl))) e1 dX12_readAtom_5 ?_
  refine va_iald hx hb hK hP 1 0 rfl rfl (k_in (by decide)) dX12_readAtom_8 ?_
  refine k_topi (y := 0) e2 ?_
  refine lv_iconst (v := 3) hx hb dX12_readAtom_9 (by decide) ?_
  refine lv_icmp_ne (tgt := 24) hx hb dX12_readAtom_10 (by decide) (fun _ => ?_) (fun c9 => absurd c9 (by decide))
  refine lv_iconst (v := (-1)) hx hb dX12_readAtom_24 (by decide) ?_
  refine lv_istore_n (lv' := [(1, .int (-1)), (0, .ref h0)]) hx hb dX12_readAtom_25 rfl hl (by decide) rfl (fun ls hl => ?_)
  refine lv_iload_n hx hb dX12_readAtom_26 rfl (lv_at hl 0 rfl) ?_
  refine lv_iconst (v := (-1)) hx hb dX12_readAtom_27 (by decide) ?_
  refine lv_icmp_eq (tgt := 56) hx hb dX12_readAtom_28 (by decide) (fun _ => ?_) (fun c9 => absurd (by decide) c9)
  refine lv_aload_n hx hb dX12_readAtom_56 rfl (lv_at hl 1 rfl) ?_
  refine k_get (D := D) (ci := 12) (v := .ref h1) (N := 195) hx hb hts hin12 hown hK hP 0 rfl rfl (by decide) f9_12_25 (hts (.fieldLink RX12 87 "IntegerHouseModel" "tokenKind" "[I") (o9_X12_readAtom _ (List.mem_of_getElem? (i := 0) rfl))) e0 dX12_readAtom_57 ?_
  refine lv_aload_n hx hb dX12_readAtom_60 rfl (lv_at hl 1 rfl) ?_
  refine k_get (D := D) (ci := 12) (v := .int 0) (N := 195) hx hb hts hin12 hown hK hP 0 rfl rfl (by decide) f9_12_28 (hts (.fieldLink RX12 597 "IntegerHouseModel" "now" "I") (o9_X12_readAtom _ (List.mem_of_getElem? (i := 1) rfl))) e1 dX12_readAtom_61 ?_
  refine va_iald hx hb hK hP 1 0 rfl rfl (k_in (by decide)) dX12_readAtom_64 ?_
  refine k_topi (y := 0) e2 ?_
  refine lv_iconst (v := 3) hx hb dX12_readAtom_65 (by decide) ?_
  refine lv_icmp_ne (tgt := 97) hx hb dX12_readAtom_66 (by decide) (fun _ => ?_) (fun c9 => absurd c9 (by decide))
  refine lv_aload_n hx hb dX12_readAtom_97 rfl (lv_at hl 1 rfl) ?_
  refine lv_iconst (v := 3) hx hb dX12_readAtom_98 (by decide) ?_
  refine k_cVi (As := [.int 3]) (rest := []) (wc := [(h0, .inr (12, f0)), (h1, .inl (cI, 2001, .inl g0))]) (wr := [(h2, .inl (cI, 2001, .inl g1))]) (w1 := [(h0, .inr (12, f0)), (h1, .inl (cI, 2001, .inl g0))]) ⟨hx, hb, hml, hown, hts⟩ hN hX hAE hK hP hD hS hA [0, 1] [2] (ci := 12) rfl rfl rfl rfl (by decide +kernel) (by decide +kernel) (by decide +kernel) (c_X12_isSign_2 l E D cI cJ cB cZ h0 f0 h1 g0 e0 e1 e2) (cwV 1 hts g9_X12_readAtom_X12_isSign_672 rfl rfl rfl (by decide +kernel) ⟨Nat.le_of_ble_eq_true rfl, Nat.le_of_ble_eq_true rfl⟩) rfl hl.1 (Nat.le_of_ble_eq_true rfl) dX12_readAtom_99 ⟨Nat.le_of_ble_eq_true rfl, Nat.le_of_ble_eq_true rfl⟩ (fun H locs hP hD hS => ?_)
  have hP : va_P D vwCl [(h2, .inl (cI, 2001, .inl g1)), (h0, .inr (12, f0)), (h1, .inl (cI, 2001, .inl g0))] H := hP
  have hD : va_D A [(h2, .inl (cI, 2001, .inl g1)), (h0, .inr (12, f0)), (h1, .inl (cI, 2001, .inl g0))] := hD
  refine lv_if_eq (tgt := 123) hx hb dX12_readAtom_102 (by decide) (fun _ => ?_) (fun c9 => absurd (by decide) c9)
  refine lv_aload_n hx hb dX12_readAtom_123 rfl (lv_at hl 1 rfl) ?_
  refine k_get (D := D) (ci := 12) (v := .int 25) (N := 195) hx hb hts hin12 hown hK hP 1 rfl rfl (by decide) f9_12_66 (hts (.fieldLink RX12 630 "IntegerHouseModel" "slot" "I") (o9_X12_readAtom _ (List.mem_of_getElem? (i := 6) rfl))) e3 dX12_readAtom_124 ?_
  refine lv_bipush (v := 25) hx hb dX12_readAtom_127 (by decide) ?_
  refine lv_icmp_eq (tgt := 224) hx hb dX12_readAtom_129 (by decide) (fun _ => ?_) (fun c9 => absurd (by decide) c9)
  refine lv_aload_n hx hb dX12_readAtom_224 rfl (lv_at hl 1 rfl) ?_
  refine k_cVv (As := []) (rest := []) (wc := [(h0, .inr (12, f0)), (h1, .inl (cI, 2001, .inl g0)), (h2, .inl (cI, 2001, .inl g1))]) (wr := []) (w1 := (fun _ : Unit => [(h0, .inr (12, (((f0.set 31 (.int 1)).set 29 (.int 2)).set 30 (.int 0)))), (h1, .inl (cI, 2001, .inl g0)), (h2, .inl (cI, 2001, .inl g1))])) ⟨hx, hb, hml, hown, hts⟩ hN hX hAE hK hP hD hS hA [1, 2, 0] [] (ci := 12) rfl rfl rfl rfl (by decide +kernel) (by decide +kernel) (by decide +kernel) (c_X12_cannot_0 l E D cI cJ cB cZ h0 f0 h1 g0 h2 g1 e0 e1 e2 e4 e5 e6 e7 e8) (cwV 0 hts g9_X12_readAtom_X12_cannot_698 rfl rfl rfl (by decide +kernel) ⟨Nat.le_of_ble_eq_true rfl, Nat.le_of_ble_eq_true rfl⟩) rfl hl.1 (Nat.le_of_ble_eq_true rfl) dX12_readAtom_225 ⟨Nat.le_of_ble_eq_true rfl, Nat.le_of_ble_eq_true rfl⟩ (fun _ H locs hP hD hS => ?_)
  have hP : va_P D vwCl [(h0, .inr (12, (((f0.set 31 (.int 1)).set 29 (.int 2)).set 30 (.int 0)))), (h1, .inl (cI, 2001, .inl g0)), (h2, .inl (cI, 2001, .inl g1))] H := hP
  have hD : va_D A [(h0, .inr (12, (((f0.set 31 (.int 1)).set 29 (.int 2)).set 30 (.int 0)))), (h1, .inl (cI, 2001, .inl g0)), (h2, .inl (cI, 2001, .inl g1))] := hD
  exact W.vret hx hb hr (fun t ht hW => ⟨⟨(), rfl, trivial, kB_mk ht hW hP hK hD⟩, hS.F ht⟩) hS.2.2 dX12_readAtom_228
set_option maxHeartbeats 400000000 in
set_option maxRecDepth 100000 in
theorem c_X12_readInTerm_2 (l : Launch) (E : kE) (D : va_G) (cI cJ cB cZ : ClassId) (h0 : Nat) (f0 : List Value) (h1 : Nat) (g0 : Nat → Int32) (h2 : Nat) (g1 : Nat → Int32) (e0 : f0[84]? = some (.int 5)) (e1 : f0[25]? = some (.ref h1)) (e2 : f0[28]? = some (.int 0)) (e3 : g0 0 = 0) (e4 : f0[66]? = some (.int 25)) (e5 : f0[31]? = some (.int 0)) (e6 : f0[29]? = some (.int 0)) (e7 : f0[23]? = some (.ref h2)) (e8 : g1 0 = 0) (e9 : f0[30]? = some (.int 0)) : kV l E D (kT cI cJ cB cZ) yX12_readInTerm vW_X12_readInTerm ({ frames := 3, cells := 0, slots := 0, locals := 64 }) [.ref h0] [(h0, .inr (12, f0)), (h1, .inl (cI, 2001, .inl g0)), (h2, .inl (cI, 2001, .inl g1))] (fun _ : Unit => [(h0, .inr (12, (((f0.set 31 (.int 1)).set 29 (.int 2)).set 30 (.int 0)))), (h1, .inl (cI, 2001, .inl g0)), (h2, .inl (cI, 2001, .inl g1))]) 0 0 := by
  intro sz
  refine Met.ofW (cc := cX12_readInTerm) (maxL := 1) (ret := none) (by decide) rfl ?_
  intro p e s m args below meth c s₁ B hml hv
  obtain ⟨rfl, hsz, hP, hK, hD0, hN, hX⟩ := hv
  have hx := B.exec
  have hb := B.bytes
  have hr := B.returns
  have hts := atoms_spec (ws := vW_X12_readInTerm) B.pre
  have hown : s.vm.findClass RX12 = some m.cls := findClass_of_methodNamed B.named
  have hlocks := B.notSynchronized
  have hin12 : ∀ w ∈ wsX120, w ∈ vW_X12_readInTerm := u9_X12_readInTerm_wsX120
  subst hsz
  have hD := hD0.self (sz := s.heap.size)
  have hAE := k_AE hD0 hX
  generalize hAe : va_A [(h0, .inr (12, f0)), (h1, .inl (cI, 2001, .inl g0)), (h2, .inl (cI, 2001, .inl g1))] s.heap.size = A at hD hAE ⊢
  have hA : ∀ q : Nat, s.heap.size ≤ q → A q := fun q h => by rw [← hAe]; exact Or.inr h
  have hS : va_S A s.heap s.heap [] := va_S.rf
  have hP : va_P D vwCl [(h0, .inr (12, f0)), (h1, .inl (cI, 2001, .inl g0)), (h2, .inl (cI, 2001, .inl g1))] s.heap := hP
  have hl := lv_entry ([.ref h0] : List Value) (n := 1) (Nat.le_of_ble_eq_true rfl)
  rw [lg_entry_eq]
  generalize (lg_sl ([.ref h0]) ++ List.replicate (1 - (lg_sl ([.ref h0])).length) Slot.unset).toArray = ls at hl ⊢
  have hl : lv_has ls 1 [(0, .ref h0)] := hl
  refine lv_aload_n hx hb dX12_readInTerm_0 rfl (lv_at hl 0 rfl) ?_
  refine k_get (D := D) (ci := 12) (v := .int 5) (N := 195) hx hb hts hin12 hown hK hP 0 rfl rfl (by decide) f9_12_84 (hts (.fieldLink RX12 648 "IntegerHouseModel" "state" "I") (o9_X12_readInTerm _ (List.mem_of_getElem? (i := 0) rfl))) e0 dX12_readInTerm_1 ?_
  refine lv_iconst (v := 3) hx hb dX12_readInTerm_4 (by decide) ?_
  refine lv_icmp_ne (tgt := 52) hx hb dX12_readInTerm_5 (by decide) (fun _ => ?_) (fun c9 => absurd c9 (by decide))
  refine lv_aload_n hx hb dX12_readInTerm_52 rfl (lv_at hl 0 rfl) ?_
  refine k_get (D := D) (ci := 12) (v := .int 5) (N := 195) hx hb hts hin12 hown hK hP 0 rfl rfl (by decide) f9_12_84 (hts (.fieldLink RX12 648 "IntegerHouseModel" "state" "I") (o9_X12_readInTerm _ (List.mem_of_getElem? (i := 0) rfl))) e0 dX12_readInTerm_53 ?_
  refine lv_iconst (v := 4) hx hb dX12_readInTerm_56 (by decide) ?_
  refine lv_icmp_ne (tgt := 148) hx hb dX12_readInTerm_57 (by decide) (fun _ => ?_) (fun c9 => absurd c9 (by decide))
  refine lv_aload_n hx hb dX12_readInTerm_148 rfl (lv_at hl 0 rfl) ?_
  refine k_get (D := D) (ci := 12) (v := .int 5) (N := 195) hx hb hts hin12 hown hK hP 0 rfl rfl (by decide) f9_12_84 (hts (.fieldLink RX12 648 "IntegerHouseModel" "state" "I") (o9_X12_readInTerm _ (List.mem_of_getElem? (i := 0) rfl))) e0 dX12_readInTerm_149 ?_
  refine lv_iconst (v := 5) hx hb dX12_readInTerm_152 (by decide) ?_
  refine lv_icmp_ne (tgt := 163) hx hb dX12_readInTerm_153 (by decide) (fun c9 => absurd (by decide) c9) (fun _ => ?_)
  refine lv_aload_n hx hb dX12_readInTerm_156 rfl (lv_at hl 0 rfl) ?_
  refine k_cVv (As := []) (rest := []) (wc := [(h0, .inr (12, f0)), (h1, .inl (cI, 2001, .inl g0)), (h2, .inl (cI, 2001, .inl g1))]) (wr := []) (w1 := (fun _ : Unit => [(h0, .inr (12, (((f0.set 31 (.int 1)).set 29 (.int 2)).set 30 (.int 0)))), (h1, .inl (cI, 2001, .inl g0)), (h2, .inl (cI, 2001, .inl g1))])) ⟨hx, hb, hml, hown, hts⟩ hN hX hAE hK hP hD hS hA [0, 1, 2] [] (ci := 12) rfl rfl rfl rfl (by decide +kernel) (by decide +kernel) (by decide +kernel) (c_X12_readAtom_0 l E D cI cJ cB cZ h0 f0 h1 g0 h2 g1 e1 e2 e3 e4 e5 e6 e7 e8 e9) (cwV 0 hts g9_X12_readInTerm_X12_readAtom_709 rfl rfl rfl (by decide +kernel) ⟨Nat.le_of_ble_eq_true rfl, Nat.le_of_ble_eq_true rfl⟩) rfl hl.1 (Nat.le_of_ble_eq_true rfl) dX12_readInTerm_157 ⟨Nat.le_of_ble_eq_true rfl, Nat.le_of_ble_eq_true rfl⟩ (fun _ H locs hP hD hS => ?_)
  have hP : va_P D vwCl [(h0, .inr (12, (((f0.set 31 (.int 1)).set 29 (.int 2)).set 30 (.int 0)))), (h1, .inl (cI, 2001, .inl g0)), (h2, .inl (cI, 2001, .inl g1))] H := hP
  have hD : va_D A [(h0, .inr (12, (((f0.set 31 (.int 1)).set 29 (.int 2)).set 30 (.int 0)))), (h1, .inl (cI, 2001, .inl g0)), (h2, .inl (cI, 2001, .inl g1))] := hD
  refine lv_goto (tgt := 220) hx hb dX12_readInTerm_160 (by decide) ?_
  exact W.vret hx hb hr (fun t ht hW => ⟨⟨(), rfl, trivial, kB_mk ht hW hP hK hD⟩, hS.F ht⟩) hS.2.2 dX12_readInTerm_220
set_option maxHeartbeats 400000000 in
set_option maxRecDepth 100000 in
theorem c_X12_readTerm_0 (l : Launch) (E : kE) (D : va_G) (cI cJ cB cZ : ClassId) (h0 : Nat) (f0 : List Value) (h1 : Nat) (h2 : Nat) (h3 : Nat) (h4 : Nat) (h5 : Nat) (g0 : Nat → Int32) (g1 : Nat → Int32) (g2 : Nat → Int32) (g3 : Nat → Int64) (g4 : Nat → Int32) (h6 : Nat) (g5 : Nat → Int32) (h7 : Nat) (g6 : Nat → Int32) (e0 : f0[76]? = some (.int 0)) (e1 : f0[83]? = some (.int 0)) (e2 : f0[77]? = some (.ref h1)) (e3 : f0[78]? = some (.ref h2)) (e4 : f0[80]? = some (.ref h3)) (e5 : f0[81]? = some (.ref h4)) (e6 : f0[82]? = some (.ref h5)) (e7 : f0[84]? = some (.int 0)) (e8 : f0[31]? = some (.int 0)) (e9 : f0[25]? = some (.ref h6)) (e10 : f0[28]? = some (.int 0)) (e11 : g5 0 = 0) (e12 : f0[66]? = some (.int 25)) (e13 : f0[29]? = some (.int 0)) (e14 : f0[23]? = some (.ref h7)) (e15 : g6 0 = 0) (e16 : f0[30]? = some (.int 0)) (e17 : f0[85]? = some (.int 0)) : kI l E D (kT cI cJ cB cZ) yX12_readTerm vW_X12_readTerm ({ frames := 4, cells := 0, slots := 0, locals := 84 }) [.ref h0] [(h0, .inr (12, f0)), (h1, .inl (cI, 16, .inl g0)), (h2, .inl (cI, 16, .inl g1)), (h3, .inl (cI, 16, .inl g2)), (h4, .inl (cJ, 16, .inr (.inl g3))), (h5, .inl (cI, 16, .inl g4)), (h6, .inl (cI, 2001, .inl g5)), (h7, .inl (cI, 2001, .inl g6))] (0) [(h0, .inr (12, (((((((((f0.set 76 (.int (-1))).set 83 (.int (-1))).set 83 (.int 0)).set 84 (.int 3)).set 84 (.int 4)).set 84 (.int 5)).set 31 (.int 1)).set 29 (.int 2)).set 30 (.int 0)))), (h1, .inl (cI, 16, .inl (upd g0 0 33))), (h2, .inl (cI, 16, .inl (upd g1 0 (-1)))), (h3, .inl (cI, 16, .inl (upd (upd g2 0 1) 0 1))), (h4, .inl (cJ, 16, .inr (.inl (vp_updL (vp_updL g3 0 1) 0 1)))), (h5, .inl (cI, 16, .inl (upd g4 0 (-1)))), (h6, .inl (cI, 2001, .inl g5)), (h7, .inl (cI, 2001, .inl g6))] 0 0 := by
  intro sz
  refine Met.ofW (cc := cX12_readTerm) (maxL := 1) (ret := (some .int)) (by decide) rfl ?_
  intro p e s m args below meth c s₁ B hml hv
  obtain ⟨rfl, hsz, hP, hK, hD0, hN, hX⟩ := hv
  have hx := B.exec
  have hb := B.bytes
  have hr := B.returns
  have hts := atoms_spec (ws := vW_X12_readTerm) B.pre
  have hown : s.vm.findClass RX12 = some m.cls := findClass_of_methodNamed B.named
  have hlocks := B.notSynchronized
  have hin12 : ∀ w ∈ wsX120, w ∈ vW_X12_readTerm := u9_X12_readTerm_wsX120
  subst hsz
  have hD := hD0.self (sz := s.heap.size)
  have hAE := k_AE hD0 hX
  generalize hAe : va_A [(h0, .inr (12, f0)), (h1, .inl (cI, 16, .inl g0)), (h2, .inl (cI, 16, .inl g1)), (h3, .inl (cI, 16, .inl g2)), (h4, .inl (cJ, 16, .inr (.inl g3))), (h5, .inl (cI, 16, .inl g4)), (h6, .inl (cI, 2001, .inl g5)), (h7, .inl (cI, 2001, .inl g6))] s.heap.size = A at hD hAE ⊢
  have hA : ∀ q : Nat, s.heap.size ≤ q → A q := fun q h => by rw [← hAe]; exact Or.inr h
  have hS : va_S A s.heap s.heap [] := va_S.rf
  have hP : va_P D vwCl [(h0, .inr (12, f0)), (h1, .inl (cI, 16, .inl g0)), (h2, .inl (cI, 16, .inl g1)), (h3, .inl (cI, 16, .inl g2)), (h4, .inl (cJ, 16, .inr (.inl g3))), (h5, .inl (cI, 16, .inl g4)), (h6, .inl (cI, 2001, .inl g5)), (h7, .inl (cI, 2001, .inl g6))] s.heap := hP
  have hl := lv_entry ([.ref h0] : List Value) (n := 1) (Nat.le_of_ble_eq_true rfl)
  rw [lg_entry_eq]
  generalize (lg_sl ([.ref h0]) ++ List.replicate (1 - (lg_sl ([.ref h0])).length) Slot.unset).toArray = ls at hl ⊢
  have hl : lv_has ls 1 [(0, .ref h0)] := hl
  refine lv_aload_n hx hb dX12_readTerm_0 rfl (lv_at hl 0 rfl) ?_
  refine lv_iconst (v := (-1)) hx hb dX12_readTerm_1 (by decide) ?_
  refine k_put (D := D) (ci := 12) (v := .int (-1)) (ty := .int) (N := 195) hx hb hts hin12 tyX12 tyX12_ok nmX12 hown hK hP hD hS 0 rfl rfl (by decide) f9_12_76 (hts (.fieldLink RX12 639 "IntegerHouseModel" "formulas" "I") (o9_X12_readTerm _ (List.mem_of_getElem? (i := 0) rfl))) rfl pd_2 rfl rfl (k_len e0) dX12_readTerm_2 (fun H locs hP hD hS => ?_)
  have hP : va_P D vwCl [(h0, .inr (12, (f0.set 76 (.int (-1))))), (h1, .inl (cI, 16, .inl g0)), (h2, .inl (cI, 16, .inl g1)), (h3, .inl (cI, 16, .inl g2)), (h4, .inl (cJ, 16, .inr (.inl g3))), (h5, .inl (cI, 16, .inl g4)), (h6, .inl (cI, 2001, .inl g5)), (h7, .inl (cI, 2001, .inl g6))] H := hP
  have hD : va_D A [(h0, .inr (12, (f0.set 76 (.int (-1))))), (h1, .inl (cI, 16, .inl g0)), (h2, .inl (cI, 16, .inl g1)), (h3, .inl (cI, 16, .inl g2)), (h4, .inl (cJ, 16, .inr (.inl g3))), (h5, .inl (cI, 16, .inl g4)), (h6, .inl (cI, 2001, .inl g5)), (h7, .inl (cI, 2001, .inl g6))] := hD
  refine lv_aload_n hx hb dX12_readTerm_5 rfl (lv_at hl 0 rfl) ?_
  refine lv_iconst (v := (-1)) hx hb dX12_readTerm_6 (by decide) ?_
  refine k_put (D := D) (ci := 12) (v := .int (-1)) (ty := .int) (N := 195) hx hb hts hin12 tyX12 tyX12_ok nmX12 hown hK hP hD hS 0 rfl rfl (by decide) f9_12_83 (hts (.fieldLink RX12 642 "IntegerHouseModel" "terms" "I") (o9_X12_readTerm _ (List.mem_of_getElem? (i := 1) rfl))) rfl pd_2 rfl rfl (k_len (k_ne (by decide) e1)) dX12_readTerm_7 (fun H locs hP hD hS => ?_)
  have hP : va_P D vwCl [(h0, .inr (12, ((f0.set 76 (.int (-1))).set 83 (.int (-1))))), (h1, .inl (cI, 16, .inl g0)), (h2, .inl (cI, 16, .inl g1)), (h3, .inl (cI, 16, .inl g2)), (h4, .inl (cJ, 16, .inr (.inl g3))), (h5, .inl (cI, 16, .inl g4)), (h6, .inl (cI, 2001, .inl g5)), (h7, .inl (cI, 2001, .inl g6))] H := hP
  have hD : va_D A [(h0, .inr (12, ((f0.set 76 (.int (-1))).set 83 (.int (-1))))), (h1, .inl (cI, 16, .inl g0)), (h2, .inl (cI, 16, .inl g1)), (h3, .inl (cI, 16, .inl g2)), (h4, .inl (cJ, 16, .inr (.inl g3))), (h5, .inl (cI, 16, .inl g4)), (h6, .inl (cI, 2001, .inl g5)), (h7, .inl (cI, 2001, .inl g6))] := hD
  refine lv_aload_n hx hb dX12_readTerm_10 rfl (lv_at hl 0 rfl) ?_
  refine lv_bipush (v := 33) hx hb dX12_readTerm_11 (by decide) ?_
  refine k_cVv (As := [.int 33]) (rest := []) (wc := [(h0, .inr (12, ((f0.set 76 (.int (-1))).set 83 (.int (-1))))), (h1, .inl (cI, 16, .inl g0)), (h2, .inl (cI, 16, .inl g1)), (h3, .inl (cI, 16, .inl g2)), (h4, .inl (cJ, 16, .inr (.inl g3))), (h5, .inl (cI, 16, .inl g4))]) (wr := [(h6, .inl (cI, 2001, .inl g5)), (h7, .inl (cI, 2001, .inl g6))]) (w1 := (fun _ : Unit => [(h0, .inr (12, (((f0.set 76 (.int (-1))).set 83 (.int (-1))).set 83 (.int 0)))), (h1, .inl (cI, 16, .inl (upd g0 0 33))), (h2, .inl (cI, 16, .inl (upd g1 0 (-1)))), (h3, .inl (cI, 16, .inl (upd g2 0 1))), (h4, .inl (cJ, 16, .inr (.inl (vp_updL g3 0 1)))), (h5, .inl (cI, 16, .inl (upd g4 0 (-1))))])) ⟨hx, hb, hml, hown, hts⟩ hN hX hAE hK hP hD hS hA [0, 1, 2, 3, 4, 5] [6, 7] (ci := 12) rfl rfl rfl rfl (by decide +kernel) (by decide +kernel) (by decide +kernel) (c_X12_openTerm_0 l E D cI cJ cB cZ h0 (((f0.set 76 (.int (-1))).set 83 (.int (-1)))) h1 g0 h2 g1 h3 g2 h4 g3 h5 g4 (k_set (k_ne (by decide) e1)) (k_ne (by decide) (k_ne (by decide) e2)) (k_ne (by decide) (k_ne (by decide) e3)) (k_ne (by decide) (k_ne (by decide) e4)) (k_ne (by decide) (k_ne (by decide) e5)) (k_ne (by decide) (k_ne (by decide) e6))) (cwV 1 hts g9_X12_readTerm_X12_openTerm_663 rfl rfl rfl (by decide +kernel) ⟨Nat.le_of_ble_eq_true rfl, Nat.le_of_ble_eq_true rfl⟩) rfl hl.1 (Nat.le_of_ble_eq_true rfl) dX12_readTerm_13 ⟨Nat.le_of_ble_eq_true rfl, Nat.le_of_ble_eq_true rfl⟩ (fun _ H locs hP hD hS => ?_)
  have hP : va_P D vwCl [(h6, .inl (cI, 2001, .inl g5)), (h7, .inl (cI, 2001, .inl g6)), (h0, .inr (12, (((f0.set 76 (.int (-1))).set 83 (.int (-1))).set 83 (.int 0)))), (h1, .inl (cI, 16, .inl (upd g0 0 33))), (h2, .inl (cI, 16, .inl (upd g1 0 (-1)))), (h3, .inl (cI, 16, .inl (upd g2 0 1))), (h4, .inl (cJ, 16, .inr (.inl (vp_updL g3 0 1)))), (h5, .inl (cI, 16, .inl (upd g4 0 (-1))))] H := hP
  have hD : va_D A [(h6, .inl (cI, 2001, .inl g5)), (h7, .inl (cI, 2001, .inl g6)), (h0, .inr (12, (((f0.set 76 (.int (-1))).set 83 (.int (-1))).set 83 (.int 0)))), (h1, .inl (cI, 16, .inl (upd g0 0 33))), (h2, .inl (cI, 16, .inl (upd g1 0 (-1)))), (h3, .inl (cI, 16, .inl (upd g2 0 1))), (h4, .inl (cJ, 16, .inr (.inl (vp_updL g3 0 1)))), (h5, .inl (cI, 16, .inl (upd g4 0 (-1))))] := hD
  refine lv_aload_n hx hb dX12_readTerm_16 rfl (lv_at hl 0 rfl) ?_
  refine lv_iconst (v := 3) hx hb dX12_readTerm_17 (by decide) ?_
  refine k_put (D := D) (ci := 12) (v := .int 3) (ty := .int) (N := 195) hx hb hts hin12 tyX12 tyX12_ok nmX12 hown hK hP hD hS 2 rfl rfl (by decide) f9_12_84 (hts (.fieldLink RX12 648 "IntegerHouseModel" "state" "I") (o9_X12_readTerm _ (List.mem_of_getElem? (i := 6) rfl))) rfl pd_2 rfl rfl (k_len (k_ne (by decide) (k_ne (by decide) (k_ne (by decide) e7)))) dX12_readTerm_18 (fun H locs hP hD hS => ?_)
  have hP : va_P D vwCl [(h6, .inl (cI, 2001, .inl g5)), (h7, .inl (cI, 2001, .inl g6)), (h0, .inr (12, ((((f0.set 76 (.int (-1))).set 83 (.int (-1))).set 83 (.int 0)).set 84 (.int 3)))), (h1, .inl (cI, 16, .inl (upd g0 0 33))), (h2, .inl (cI, 16, .inl (upd g1 0 (-1)))), (h3, .inl (cI, 16, .inl (upd g2 0 1))), (h4, .inl (cJ, 16, .inr (.inl (vp_updL g3 0 1)))), (h5, .inl (cI, 16, .inl (upd g4 0 (-1))))] H := hP
  have hD : va_D A [(h6, .inl (cI, 2001, .inl g5)), (h7, .inl (cI, 2001, .inl g6)), (h0, .inr (12, ((((f0.set 76 (.int (-1))).set 83 (.int (-1))).set 83 (.int 0)).set 84 (.int 3)))), (h1, .inl (cI, 16, .inl (upd g0 0 33))), (h2, .inl (cI, 16, .inl (upd g1 0 (-1)))), (h3, .inl (cI, 16, .inl (upd g2 0 1))), (h4, .inl (cJ, 16, .inr (.inl (vp_updL g3 0 1)))), (h5, .inl (cI, 16, .inl (upd g4 0 (-1))))] := hD
  refine lv_aload_n hx hb dX12_readTerm_21 rfl (lv_at hl 0 rfl) ?_
  refine k_get (D := D) (ci := 12) (v := .int 0) (N := 195) hx hb hts hin12 hown hK hP 2 rfl rfl (by decide) f9_12_31 (hts (.fieldLink RX12 562 "IntegerHouseModel" "faulty" "Z") (o9_X12_readTerm _ (List.mem_of_getElem? (i := 7) rfl))) (k_ne (by decide) (k_ne (by decide) (k_ne (by decide) (k_ne (by decide) e8)))) dX12_readTerm_22 ?_
  refine lv_if_ne (tgt := 44) hx hb dX12_readTerm_25 (by decide) (fun c9 => absurd (by decide) c9) (fun _ => ?_)
  refine lv_aload_n hx hb dX12_readTerm_28 rfl (lv_at hl 0 rfl) ?_
  refine k_get (D := D) (ci := 12) (v := .int 3) (N := 195) hx hb hts hin12 hown hK hP 2 rfl rfl (by decide) f9_12_84 (hts (.fieldLink RX12 648 "IntegerHouseModel" "state" "I") (o9_X12_readTerm _ (List.mem_of_getElem? (i := 6) rfl))) (k_set (k_ne (by decide) (k_ne (by decide) (k_ne (by decide) e7)))) dX12_readTerm_29 ?_
  refine lv_bipush (v := 7) hx hb dX12_readTerm_32 (by decide) ?_
  refine lv_icmp_eq (tgt := 44) hx hb dX12_readTerm_34 (by decide) (fun c9 => absurd c9 (by decide)) (fun _ => ?_)
  refine lv_aload_n hx hb dX12_readTerm_37 rfl (lv_at hl 0 rfl) ?_
  refine k_cVv (As := []) (rest := []) (wc := [(h0, .inr (12, ((((f0.set 76 (.int (-1))).set 83 (.int (-1))).set 83 (.int 0)).set 84 (.int 3)))), (h6, .inl (cI, 2001, .inl g5)), (h3, .inl (cI, 16, .inl (upd g2 0 1)))]) (wr := [(h7, .inl (cI, 2001, .inl g6)), (h1, .inl (cI, 16, .inl (upd g0 0 33))), (h2, .inl (cI, 16, .inl (upd g1 0 (-1)))), (h4, .inl (cJ, 16, .inr (.inl (vp_updL g3 0 1)))), (h5, .inl (cI, 16, .inl (upd g4 0 (-1))))]) (w1 := (fun _ : Unit => [(h0, .inr (12, (((((f0.set 76 (.int (-1))).set 83 (.int (-1))).set 83 (.int 0)).set 84 (.int 3)).set 84 (.int 4)))), (h6, .inl (cI, 2001, .inl g5)), (h3, .inl (cI, 16, .inl (upd (upd g2 0 1) 0 1)))])) ⟨hx, hb, hml, hown, hts⟩ hN hX hAE hK hP hD hS hA [2, 0, 5] [1, 3, 4, 6, 7] (ci := 12) rfl rfl rfl rfl (by decide +kernel) (by decide +kernel) (by decide +kernel) (c_X12_readInTerm_0 l E D cI cJ cB cZ h0 (((((f0.set 76 (.int (-1))).set 83 (.int (-1))).set 83 (.int 0)).set 84 (.int 3))) h3 h6 g5 ((upd g2 0 1)) (k_set (k_ne (by decide) (k_ne (by decide) (k_ne (by decide) e7)))) (k_ne (by decide) (k_ne (by decide) (k_ne (by decide) (k_ne (by decide) e4)))) (k_ne (by decide) (k_set (k_set (k_ne (by decide) e1)))) (k_ne (by decide) (k_ne (by decide) (k_ne (by decide) (k_ne (by decide) e9)))) (k_ne (by decide) (k_ne (by decide) (k_ne (by decide) (k_ne (by decide) e10)))) e11) (cwV 0 hts g9_X12_readTerm_X12_readInTerm_657 rfl rfl rfl (by decide +kernel) ⟨Nat.le_of_ble_eq_true rfl, Nat.le_of_ble_eq_true rfl⟩) rfl hl.1 (Nat.le_of_ble_eq_true rfl) dX12_readTerm_38 ⟨Nat.le_of_ble_eq_true rfl, Nat.le_of_ble_eq_true rfl⟩ (fun _ H locs hP hD hS => ?_)
  have hP : va_P D vwCl [(h7, .inl (cI, 2001, .inl g6)), (h1, .inl (cI, 16, .inl (upd g0 0 33))), (h2, .inl (cI, 16, .inl (upd g1 0 (-1)))), (h4, .inl (cJ, 16, .inr (.inl (vp_updL g3 0 1)))), (h5, .inl (cI, 16, .inl (upd g4 0 (-1)))), (h0, .inr (12, (((((f0.set 76 (.int (-1))).set 83 (.int (-1))).set 83 (.int 0)).set 84 (.int 3)).set 84 (.int 4)))), (h6, .inl (cI, 2001, .inl g5)), (h3, .inl (cI, 16, .inl (upd (upd g2 0 1) 0 1)))] H := hP
  have hD : va_D A [(h7, .inl (cI, 2001, .inl g6)), (h1, .inl (cI, 16, .inl (upd g0 0 33))), (h2, .inl (cI, 16, .inl (upd g1 0 (-1)))), (h4, .inl (cJ, 16, .inr (.inl (vp_updL g3 0 1)))), (h5, .inl (cI, 16, .inl (upd g4 0 (-1)))), (h0, .inr (12, (((((f0.set 76 (.int (-1))).set 83 (.int (-1))).set 83 (.int 0)).set 84 (.int 3)).set 84 (.int 4)))), (h6, .inl (cI, 2001, .inl g5)), (h3, .inl (cI, 16, .inl (upd (upd g2 0 1) 0 1)))] := hD
  refine lv_goto (tgt := 21) hx hb dX12_readTerm_41 (by decide) ?_
  refine lv_aload_n hx hb dX12_readTerm_21 rfl (lv_at hl 0 rfl) ?_
  refine k_get (D := D) (ci := 12) (v := .int 0) (N := 195) hx hb hts hin12 hown hK hP 5 rfl rfl (by decide) f9_12_31 (hts (.fieldLink RX12 562 "IntegerHouseModel" "faulty" "Z") (o9_X12_readTerm _ (List.mem_of_getElem? (i := 7) rfl))) (k_ne (by decide) (k_ne (by decide) (k_ne (by decide) (k_ne (by decide) (k_ne (by decide) e8))))) dX12_readTerm_22 ?_
  refine lv_if_ne (tgt := 44) hx hb dX12_readTerm_25 (by decide) (fun c9 => absurd (by decide) c9) (fun _ => ?_)
  refine lv_aload_n hx hb dX12_readTerm_28 rfl (lv_at hl 0 rfl) ?_
  refine k_get (D := D) (ci := 12) (v := .int 4) (N := 195) hx hb hts hin12 hown hK hP 5 rfl rfl (by decide) f9_12_84 (hts (.fieldLink RX12 648 "IntegerHouseModel" "state" "I") (o9_X12_readTerm _ (List.mem_of_getElem? (i := 6) rfl))) (k_set (k_set (k_ne (by decide) (k_ne (by decide) (k_ne (by decide) e7))))) dX12_readTerm_29 ?_
  refine lv_bipush (v := 7) hx hb dX12_readTerm_32 (by decide) ?_
  refine lv_icmp_eq (tgt := 44) hx hb dX12_readTerm_34 (by decide) (fun c9 => absurd c9 (by decide)) (fun _ => ?_)
  refine lv_aload_n hx hb dX12_readTerm_37 rfl (lv_at hl 0 rfl) ?_
  refine k_cVv (As := []) (rest := []) (wc := [(h0, .inr (12, (((((f0.set 76 (.int (-1))).set 83 (.int (-1))).set 83 (.int 0)).set 84 (.int 3)).set 84 (.int 4)))), (h4, .inl (cJ, 16, .inr (.inl (vp_updL g3 0 1)))), (h6, .inl (cI, 2001, .inl g5))]) (wr := [(h7, .inl (cI, 2001, .inl g6)), (h1, .inl (cI, 16, .inl (upd g0 0 33))), (h2, .inl (cI, 16, .inl (upd g1 0 (-1)))), (h5, .inl (cI, 16, .inl (upd g4 0 (-1)))), (h3, .inl (cI, 16, .inl (upd (upd g2 0 1) 0 1)))]) (w1 := (fun _ : Unit => [(h0, .inr (12, ((((((f0.set 76 (.int (-1))).set 83 (.int (-1))).set 83 (.int 0)).set 84 (.int 3)).set 84 (.int 4)).set 84 (.int 5)))), (h4, .inl (cJ, 16, .inr (.inl (vp_updL (vp_updL g3 0 1) 0 1)))), (h6, .inl (cI, 2001, .inl g5))])) ⟨hx, hb, hml, hown, hts⟩ hN hX hAE hK hP hD hS hA [5, 3, 6] [0, 1, 2, 4, 7] (ci := 12) rfl rfl rfl rfl (by decide +kernel) (by decide +kernel) (by decide +kernel) (c_X12_readInTerm_1 l E D cI cJ cB cZ h0 ((((((f0.set 76 (.int (-1))).set 83 (.int (-1))).set 83 (.int 0)).set 84 (.int 3)).set 84 (.int 4))) h4 ((vp_updL g3 0 1)) h6 g5 (k_set (k_set (k_ne (by decide) (k_ne (by decide) (k_ne (by decide) e7))))) (k_ne (by decide) (k_ne (by decide) (k_ne (by decide) (k_ne (by decide) (k_ne (by decide) e5))))) (k_ne (by decide) (k_ne (by decide) (k_set (k_set (k_ne (by decide) e1))))) (k_ne (by decide) (k_ne (by decide) (k_ne (by decide) (k_ne (by decide) (k_ne (by decide) e9))))) (k_ne (by decide) (k_ne (by decide) (k_ne (by decide) (k_ne (by decide) (k_ne (by decide) e10))))) e11) (cwV 0 hts g9_X12_readTerm_X12_readInTerm_657 rfl rfl rfl (by decide +kernel) ⟨Nat.le_of_ble_eq_true rfl, Nat.le_of_ble_eq_true rfl⟩) rfl hl.1 (Nat.le_of_ble_eq_true rfl) dX12_readTerm_38 ⟨Nat.le_of_ble_eq_true rfl, Nat.le_of_ble_eq_true rfl⟩ (fun _ H locs hP hD hS => ?_)
  have hP : va_P D vwCl [(h7, .inl (cI, 2001, .inl g6)), (h1, .inl (cI, 16, .inl (upd g0 0 33))), (h2, .inl (cI, 16, .inl (upd g1 0 (-1)))), (h5, .inl (cI, 16, .inl (upd g4 0 (-1)))), (h3, .inl (cI, 16, .inl (upd (upd g2 0 1) 0 1))), (h0, .inr (12, ((((((f0.set 76 (.int (-1))).set 83 (.int (-1))).set 83 (.int 0)).set 84 (.int 3)).set 84 (.int 4)).set 84 (.int 5)))), (h4, .inl (cJ, 16, .inr (.inl (vp_updL (vp_updL g3 0 1) 0 1)))), (h6, .inl (cI, 2001, .inl g5))] H := hP
  have hD : va_D A [(h7, .inl (cI, 2001, .inl g6)), (h1, .inl (cI, 16, .inl (upd g0 0 33))), (h2, .inl (cI, 16, .inl (upd g1 0 (-1)))), (h5, .inl (cI, 16, .inl (upd g4 0 (-1)))), (h3, .inl (cI, 16, .inl (upd (upd g2 0 1) 0 1))), (h0, .inr (12, ((((((f0.set 76 (.int (-1))).set 83 (.int (-1))).set 83 (.int 0)).set 84 (.int 3)).set 84 (.int 4)).set 84 (.int 5)))), (h4, .inl (cJ, 16, .inr (.inl (vp_updL (vp_updL g3 0 1) 0 1)))), (h6, .inl (cI, 2001, .inl g5))] := hD
  refine lv_goto (tgt := 21) hx hb dX12_readTerm_41 (by decide) ?_
  refine lv_aload_n hx hb dX12_readTerm_21 rfl (lv_at hl 0 rfl) ?_
  refine k_get (D := D) (ci := 12) (v := .int 0) (N := 195) hx hb hts hin12 hown hK hP 5 rfl rfl (by decide) f9_12_31 (hts (.fieldLink RX12 562 "IntegerHouseModel" "faulty" "Z") (o9_X12_readTerm _ (List.mem_of_getElem? (i := 7) rfl))) (k_ne (by decide) (k_ne (by decide) (k_ne (by decide) (k_ne (by decide) (k_ne (by decide) (k_ne (by decide) e8)))))) dX12_readTerm_22 ?_
  refine lv_if_ne (tgt := 44) hx hb dX12_readTerm_25 (by decide) (fun c9 => absurd (by decide) c9) (fun _ => ?_)
  refine lv_aload_n hx hb dX12_readTerm_28 rfl (lv_at hl 0 rfl) ?_
  refine k_get (D := D) (ci := 12) (v := .int 5) (N := 195) hx hb hts hin12 hown hK hP 5 rfl rfl (by decide) f9_12_84 (hts (.fieldLink RX12 648 "IntegerHouseModel" "state" "I") (o9_X12_readTerm _ (List.mem_of_getElem? (i := 6) rfl))) (k_set (k_set (k_set (k_ne (by decide) (k_ne (by decide) (k_ne (by decide) e7)))))) dX12_readTerm_29 ?_
  refine lv_bipush (v := 7) hx hb dX12_readTerm_32 (by decide) ?_
  refine lv_icmp_eq (tgt := 44) hx hb dX12_readTerm_34 (by decide) (fun c9 => absurd c9 (by decide)) (fun _ => ?_)
  refine lv_aload_n hx hb dX12_readTerm_37 rfl (lv_at hl 0 rfl) ?_
  refine k_cVv (As := []) (rest := []) (wc := [(h0, .inr (12, ((((((f0.set 76 (.int (-1))).set 83 (.int (-1))).set 83 (.int 0)).set 84 (.int 3)).set 84 (.int 4)).set 84 (.int 5)))), (h6, .inl (cI, 2001, .inl g5)), (h7, .inl (cI, 2001, .inl g6))]) (wr := [(h1, .inl (cI, 16, .inl (upd g0 0 33))), (h2, .inl (cI, 16, .inl (upd g1 0 (-1)))), (h5, .inl (cI, 16, .inl (upd g4 0 (-1)))), (h3, .inl (cI, 16, .inl (upd (upd g2 0 1) 0 1))), (h4, .inl (cJ, 16, .inr (.inl (vp_updL (vp_updL g3 0 1) 0 1))))]) (w1 := (fun _ : Unit => [(h0, .inr (12, (((((((((f0.set 76 (.int (-1))).set 83 (.int (-1))).set 83 (.int 0)).set 84 (.int 3)).set 84 (.int 4)).set 84 (.int 5)).set 31 (.int 1)).set 29 (.int 2)).set 30 (.int 0)))), (h6, .inl (cI, 2001, .inl g5)), (h7, .inl (cI, 2001, .inl g6))])) ⟨hx, hb, hml, hown, hts⟩ hN hX hAE hK hP hD hS hA [5, 7, 0] [1, 2, 3, 4, 6] (ci := 12) rfl rfl rfl rfl (by decide +kernel) (by decide +kernel) (by decide +kernel) (c_X12_readInTerm_2 l E D cI cJ cB cZ h0 (((((((f0.set 76 (.int (-1))).set 83 (.int (-1))).set 83 (.int 0)).set 84 (.int 3)).set 84 (.int 4)).set 84 (.int 5))) h6 g5 h7 g6 (k_set (k_set (k_set (k_ne (by decide) (k_ne (by decide) (k_ne (by decide) e7)))))) (k_ne (by decide) (k_ne (by decide) (k_ne (by decide) (k_ne (by decide) (k_ne (by decide) (k_ne (by decide) e9)))))) (k_ne (by decide) (k_ne (by decide) (k_ne (by decide) (k_ne (by decide) (k_ne (by decide) (k_ne (by decide) e10)))))) e11 (k_ne (by decide) (k_ne (by decide) (k_ne (by decide) (k_ne (by decide) (k_ne (by decide) (k_ne (by decide) e12)))))) (k_ne (by decide) (k_ne (by decide) (k_ne (by decide) (k_ne (by decide) (k_ne (by decide) (k_ne (by decide) e8)))))) (k_ne (by decide) (k_ne (by decide) (k_ne (by decide) (k_ne (by decide) (k_ne (by decide) (k_ne (by decide) e13)))))) (k_ne (by decide) (k_ne (by decide) (k_ne (by decide) (k_ne (by decide) (k_ne (by decide) (k_ne (by decide) e14)))))) e15 (k_ne (by decide) (k_ne (by decide) (k_ne (by decide) (k_ne (by decide) (k_ne (by decide) (k_ne (by decide) e16))))))) (cwV 0 hts g9_X12_readTerm_X12_readInTerm_657 rfl rfl rfl (by decide +kernel) ⟨Nat.le_of_ble_eq_true rfl, Nat.le_of_ble_eq_true rfl⟩) rfl hl.1 (Nat.le_of_ble_eq_true rfl) dX12_readTerm_38 ⟨Nat.le_of_ble_eq_true rfl, Nat.le_of_ble_eq_true rfl⟩ (fun _ H locs hP hD hS => ?_)
  have hP : va_P D vwCl [(h1, .inl (cI, 16, .inl (upd g0 0 33))), (h2, .inl (cI, 16, .inl (upd g1 0 (-1)))), (h5, .inl (cI, 16, .inl (upd g4 0 (-1)))), (h3, .inl (cI, 16, .inl (upd (upd g2 0 1) 0 1))), (h4, .inl (cJ, 16, .inr (.inl (vp_updL (vp_updL g3 0 1) 0 1)))), (h0, .inr (12, (((((((((f0.set 76 (.int (-1))).set 83 (.int (-1))).set 83 (.int 0)).set 84 (.int 3)).set 84 (.int 4)).set 84 (.int 5)).set 31 (.int 1)).set 29 (.int 2)).set 30 (.int 0)))), (h6, .inl (cI, 2001, .inl g5)), (h7, .inl (cI, 2001, .inl g6))] H := hP
  have hD : va_D A [(h1, .inl (cI, 16, .inl (upd g0 0 33))), (h2, .inl (cI, 16, .inl (upd g1 0 (-1)))), (h5, .inl (cI, 16, .inl (upd g4 0 (-1)))), (h3, .inl (cI, 16, .inl (upd (upd g2 0 1) 0 1))), (h4, .inl (cJ, 16, .inr (.inl (vp_updL (vp_updL g3 0 1) 0 1)))), (h0, .inr (12, (((((((((f0.set 76 (.int (-1))).set 83 (.int (-1))).set 83 (.int 0)).set 84 (.int 3)).set 84 (.int 4)).set 84 (.int 5)).set 31 (.int 1)).set 29 (.int 2)).set 30 (.int 0)))), (h6, .inl (cI, 2001, .inl g5)), (h7, .inl (cI, 2001, .inl g6))] := hD
  refine lv_goto (tgt := 21) hx hb dX12_readTerm_41 (by decide) ?_
  refine lv_aload_n hx hb dX12_readTerm_21 rfl (lv_at hl 0 rfl) ?_
  refine k_get (D := D) (ci := 12) (v := .int 1) (N := 195) hx hb hts hin12 hown hK hP 5 rfl rfl (by decide) f9_12_31 (hts (.fieldLink RX12 562 "IntegerHouseModel" "faulty" "Z") (o9_X12_readTerm _ (List.mem_of_getElem? (i := 7) rfl))) (k_ne (by decide) (k_ne (by decide) (k_set (k_ne (by decide) (k_ne (by decide) (k_ne (by decide) (k_ne (by decide) (k_ne (by decide) (k_ne (by decide) e8))))))))) dX12_readTerm_22 ?_
  refine lv_if_ne (tgt := 44) hx hb dX12_readTerm_25 (by decide) (fun _ => ?_) (fun c9 => absurd c9 (by decide))
  refine lv_aload_n hx hb dX12_readTerm_44 rfl (lv_at hl 0 rfl) ?_
  refine k_get (D := D) (ci := 12) (v := .int 0) (N := 195) hx hb hts hin12 hown hK hP 5 rfl rfl (by decide) f9_12_85 (hts (.fieldLink RX12 660 "IntegerHouseModel" "current" "I") (o9_X12_readTerm _ (List.mem_of_getElem? (i := 11) rfl))) (k_ne (by decide) (k_ne (by decide) (k_ne (by decide) (k_ne (by decide) (k_ne (by decide) (k_ne (by decide) (k_ne (by decide) (k_ne (by decide) (k_ne (by decide) e17))))))))) dX12_readTerm_45 ?_
  have hP := hP.sub (ws' := [(h0, .inr (12, (((((((((f0.set 76 (.int (-1))).set 83 (.int (-1))).set 83 (.int 0)).set 84 (.int 3)).set 84 (.int 4)).set 84 (.int 5)).set 31 (.int 1)).set 29 (.int 2)).set 30 (.int 0)))), (h1, .inl (cI, 16, .inl (upd g0 0 33))), (h2, .inl (cI, 16, .inl (upd g1 0 (-1)))), (h3, .inl (cI, 16, .inl (upd (upd g2 0 1) 0 1))), (h4, .inl (cJ, 16, .inr (.inl (vp_updL (vp_updL g3 0 1) 0 1)))), (h5, .inl (cI, 16, .inl (upd g4 0 (-1)))), (h6, .inl (cI, 2001, .inl g5)), (h7, .inl (cI, 2001, .inl g6))]) [5, 0, 1, 3, 4, 2, 6, 7] rfl
  have hD := hD.sub (ws' := [(h0, .inr (12, (((((((((f0.set 76 (.int (-1))).set 83 (.int (-1))).set 83 (.int 0)).set 84 (.int 3)).set 84 (.int 4)).set 84 (.int 5)).set 31 (.int 1)).set 29 (.int 2)).set 30 (.int 0)))), (h1, .inl (cI, 16, .inl (upd g0 0 33))), (h2, .inl (cI, 16, .inl (upd g1 0 (-1)))), (h3, .inl (cI, 16, .inl (upd (upd g2 0 1) 0 1))), (h4, .inl (cJ, 16, .inr (.inl (vp_updL (vp_updL g3 0 1) 0 1)))), (h5, .inl (cI, 16, .inl (upd g4 0 (-1)))), (h6, .inl (cI, 2001, .inl g5)), (h7, .inl (cI, 2001, .inl g6))]) [5, 0, 1, 3, 4, 2, 6, 7] (by decide +kernel) rfl
  exact W.iret (v := 0) hx hb hr (fun t ht hW => ⟨⟨0, (), rfl, rfl, kB_mk ht hW hP hK hD⟩, hS.F ht⟩) hS.2.2 dX12_readTerm_48
set_option maxHeartbeats 400000000 in
set_option maxRecDepth 100000 in
theorem c_X12_extreme_0 (l : Launch) (E : kE) (D : va_G) (cI cJ cB cZ : ClassId) (h0 : Nat) (f0 : List Value) (h1 : Nat) (h2 : Nat) (h3 : Nat) (h4 : Nat) (g0 : Nat → Int32) (g1 : Nat → Int32) (g2 : Nat → Int32) (g3 : Nat → Int32) (h5 : Nat) (h6 : Nat) (h7 : Nat) (h8 : Nat) (h9 : Nat) (g4 : Nat → Int32) (g5 : Nat → Int32) (g6 : Nat → Int32) (g7 : Nat → Int32) (g8 : Nat → Int32) (h10 : Nat) (h11 : Nat) (h12 : Nat) (h13 : Nat) (h14 : Nat) (g9 : Nat → Int32) (g10 : Nat → Int32) (g11 : Nat → Int32) (g12 : Nat → Int64) (g13 : Nat → Int32) (e0 : f0[0]? = some (.int 0)) (e1 : f0[5]? = some (.int 0)) (e2 : f0[2]? = some (.int 0)) (e3 : f0[12]? = some (.int 0)) (e4 : f0[32]? = some (.int 0)) (e5 : f0[36]? = some (.int 0)) (e6 : f0[33]? = some (.int 0)) (e7 : f0[37]? = some (.int 0)) (e8 : f0[27]? = some (.int 0)) (e9 : f0[31]? = some (.int 0)) (e10 : f0[28]? = some (.int 0)) (e11 : f0[23]? = some (.ref h1)) (e12 : f0[24]? = some (.ref h2)) (e13 : f0[25]? = some (.ref h3)) (e14 : f0[26]? = some (.ref h4)) (e15 : f0[66]? = some (.int 0)) (e16 : f0[67]? = some (.int 0)) (e17 : f0[40]? = some (.ref h5)) (e18 : f0[45]? = some (.ref h6)) (e19 : f0[56]? = some (.ref h7)) (e20 : f0[60]? = some (.ref h8)) (e21 : f0[65]? = some (.ref h9)) (e22 : f0[76]? = some (.int 0)) (e23 : f0[83]? = some (.int 0)) (e24 : f0[77]? = some (.ref h10)) (e25 : f0[78]? = some (.ref h11)) (e26 : f0[80]? = some (.ref h12)) (e27 : f0[81]? = some (.ref h13)) (e28 : f0[82]? = some (.ref h14)) (e29 : f0[84]? = some (.int 0)) (e30 : f0[29]? = some (.int 0)) (e31 : f0[30]? = some (.int 0)) (e32 : f0[85]? = some (.int 0)) (e33 : f0[13]? = some (.int 0)) (e34 : f0[109]? = some (.int 0)) : kI l E D (kT cI cJ cB cZ) yX12_extreme vW_X12_extreme ({ frames := 5, cells := 0, slots := 0, locals := 104 }) [.ref h0, .int 1] [(h0, .inr (12, f0)), (h1, .inl (cI, 2001, .inl g0)), (h2, .inl (cI, 2001, .inl g1)), (h3, .inl (cI, 2001, .inl g2)), (h4, .inl (cI, 2001, .inl g3)), (h5, .inl (cI, 26, .inl g4)), (h6, .inl (cI, 26, .inl g5)), (h7, .inl (cI, 26, .inl g6)), (h8, .inl (cI, 26, .inl g7)), (h9, .inl (cI, 26, .inl g8)), (h10, .inl (cI, 16, .inl g9)), (h11, .inl (cI, 16, .inl g10)), (h12, .inl (cI, 16, .inl g11)), (h13, .inl (cJ, 16, .inr (.inl g12))), (h14, .inl (cI, 16, .inl g13))] ((-1000)) [(h0, .inr (12, ((((((((((((((((((((f0.set 0 (.int 0)).set 12 (.int 0)).set 2 (.int 0)).set 36 (.int 0)).set 37 (.int 0)).set 27 (.int 0)).set 31 (.int 0)).set 28 (.int 0)).set 66 (.int 25)).set 67 (.int 0)).set 76 (.int (-1))).set 83 (.int (-1))).set 83 (.int 0)).set 84 (.int 3)).set 84 (.int 4)).set 84 (.int 5)).set 31 (.int 1)).set 29 (.int 2)).set 30 (.int 0)).set 109 (.int 2)))), (h1, .inl (cI, 2001, .inl (upd g0 0 0))), (h2, .inl (cI, 2001, .inl (upd g1 0 0))), (h3, .inl (cI, 2001, .inl (upd g2 0 0))), (h4, .inl (cI, 2001, .inl (upd g3 0 0))), (h5, .inl (cI, 26, .inl (upd g4 25 0))), (h6, .inl (cI, 26, .inl (upd g5 25 0))), (h7, .inl (cI, 26, .inl (upd g6 25 0))), (h8, .inl (cI, 26, .inl (upd g7 25 0))), (h9, .inl (cI, 26, .inl (upd g8 25 0))), (h10, .inl (cI, 16, .inl (upd g9 0 33))), (h11, .inl (cI, 16, .inl (upd g10 0 (-1)))), (h12, .inl (cI, 16, .inl (upd (upd g11 0 1) 0 1))), (h13, .inl (cJ, 16, .inr (.inl (vp_updL (vp_updL g12 0 1) 0 1)))), (h14, .inl (cI, 16, .inl (upd g13 0 (-1))))] 0 0 := by
  intro sz
  refine Met.ofW (cc := cX12_extreme) (maxL := 8) (ret := (some .int)) (by decide) rfl ?_
  intro p e s m args below meth c s₁ B hml hv
  obtain ⟨rfl, hsz, hP, hK, hD0, hN, hX⟩ := hv
  have hx := B.exec
  have hb := B.bytes
  have hr := B.returns
  have hts := atoms_spec (ws := vW_X12_extreme) B.pre
  have hown : s.vm.findClass RX12 = some m.cls := findClass_of_methodNamed B.named
  have hlocks := B.notSynchronized
  have hin12 : ∀ w ∈ wsX120, w ∈ vW_X12_extreme := u9_X12_extreme_wsX120
  subst hsz
  have hD := hD0.self (sz := s.heap.size)
  have hAE := k_AE hD0 hX
  generalize hAe : va_A [(h0, .inr (12, f0)), (h1, .inl (cI, 2001, .inl g0)), (h2, .inl (cI, 2001, .inl g1)), (h3, .inl (cI, 2001, .inl g2)), (h4, .inl (cI, 2001, .inl g3)), (h5, .inl (cI, 26, .inl g4)), (h6, .inl (cI, 26, .inl g5)), (h7, .inl (cI, 26, .inl g6)), (h8, .inl (cI, 26, .inl g7)), (h9, .inl (cI, 26, .inl g8)), (h10, .inl (cI, 16, .inl g9)), (h11, .inl (cI, 16, .inl g10)), (h12, .inl (cI, 16, .inl g11)), (h13, .inl (cJ, 16, .inr (.inl g12))), (h14, .inl (cI, 16, .inl g13))] s.heap.size = A at hD hAE ⊢
  have hA : ∀ q : Nat, s.heap.size ≤ q → A q := fun q h => by rw [← hAe]; exact Or.inr h
  have hS : va_S A s.heap s.heap [] := va_S.rf
  have hP : va_P D vwCl [(h0, .inr (12, f0)), (h1, .inl (cI, 2001, .inl g0)), (h2, .inl (cI, 2001, .inl g1)), (h3, .inl (cI, 2001, .inl g2)), (h4, .inl (cI, 2001, .inl g3)), (h5, .inl (cI, 26, .inl g4)), (h6, .inl (cI, 26, .inl g5)), (h7, .inl (cI, 26, .inl g6)), (h8, .inl (cI, 26, .inl g7)), (h9, .inl (cI, 26, .inl g8)), (h10, .inl (cI, 16, .inl g9)), (h11, .inl (cI, 16, .inl g10)), (h12, .inl (cI, 16, .inl g11)), (h13, .inl (cJ, 16, .inr (.inl g12))), (h14, .inl (cI, 16, .inl g13))] s.heap := hP
  have hl := lv_entry ([.ref h0, .int 1] : List Value) (n := 8) (Nat.le_of_ble_eq_true rfl)
  rw [lg_entry_eq]
  generalize (lg_sl ([.ref h0, .int 1]) ++ List.replicate (8 - (lg_sl ([.ref h0, .int 1])).length) Slot.unset).toArray = ls at hl ⊢
  have hl : lv_has ls 8 [(0, .ref h0), (1, .int 1)] := hl
  refine lv_aload_n hx hb dX12_extreme_0 rfl (lv_at hl 0 rfl) ?_
  refine k_cVi (As := []) (rest := []) (wc := [(h0, .inr (12, f0))]) (wr := [(h1, .inl (cI, 2001, .inl g0)), (h2, .inl (cI, 2001, .inl g1)), (h3, .inl (cI, 2001, .inl g2)), (h4, .inl (cI, 2001, .inl g3)), (h5, .inl (cI, 26, .inl g4)), (h6, .inl (cI, 26, .inl g5)), (h7, .inl (cI, 26, .inl g6)), (h8, .inl (cI, 26, .inl g7)), (h9, .inl (cI, 26, .inl g8)), (h10, .inl (cI, 16, .inl g9)), (h11, .inl (cI, 16, .inl g10)), (h12, .inl (cI, 16, .inl g11)), (h13, .inl (cJ, 16, .inr (.inl g12))), (h14, .inl (cI, 16, .inl g13))]) (w1 := [(h0, .inr (12, (f0.set 0 (.int 0))))]) ⟨hx, hb, hml, hown, hts⟩ hN hX hAE hK hP hD hS hA [0] [1, 2, 3, 4, 5, 6, 7, 8, 9, 10, 11, 12, 13, 14] (ci := 12) rfl rfl rfl rfl (by decide +kernel) (by decide +kernel) (by decide +kernel) (c_X12_asks_0 l E D cI cJ cB cZ h0 f0 e0 e1) (cwV 0 hts g9_X12_extreme_X12_asks_871 rfl rfl rfl (by decide +kernel) ⟨Nat.le_of_ble_eq_true rfl, Nat.le_of_ble_eq_true rfl⟩) rfl hl.1 (Nat.le_of_ble_eq_true rfl) dX12_extreme_1 ⟨Nat.le_of_ble_eq_true rfl, Nat.le_of_ble_eq_true rfl⟩ (fun H locs hP hD hS => ?_)
  have hP : va_P D vwCl [(h1, .inl (cI, 2001, .inl g0)), (h2, .inl (cI, 2001, .inl g1)), (h3, .inl (cI, 2001, .inl g2)), (h4, .inl (cI, 2001, .inl g3)), (h5, .inl (cI, 26, .inl g4)), (h6, .inl (cI, 26, .inl g5)), (h7, .inl (cI, 26, .inl g6)), (h8, .inl (cI, 26, .inl g7)), (h9, .inl (cI, 26, .inl g8)), (h10, .inl (cI, 16, .inl g9)), (h11, .inl (cI, 16, .inl g10)), (h12, .inl (cI, 16, .inl g11)), (h13, .inl (cJ, 16, .inr (.inl g12))), (h14, .inl (cI, 16, .inl g13)), (h0, .inr (12, (f0.set 0 (.int 0))))] H := hP
  have hD : va_D A [(h1, .inl (cI, 2001, .inl g0)), (h2, .inl (cI, 2001, .inl g1)), (h3, .inl (cI, 2001, .inl g2)), (h4, .inl (cI, 2001, .inl g3)), (h5, .inl (cI, 26, .inl g4)), (h6, .inl (cI, 26, .inl g5)), (h7, .inl (cI, 26, .inl g6)), (h8, .inl (cI, 26, .inl g7)), (h9, .inl (cI, 26, .inl g8)), (h10, .inl (cI, 16, .inl g9)), (h11, .inl (cI, 16, .inl g10)), (h12, .inl (cI, 16, .inl g11)), (h13, .inl (cJ, 16, .inr (.inl g12))), (h14, .inl (cI, 16, .inl g13)), (h0, .inr (12, (f0.set 0 (.int 0))))] := hD
  refine lv_if_ne (tgt := 10) hx hb dX12_extreme_4 (by decide) (fun _ => ?_) (fun c9 => absurd c9 (by decide))
  refine lv_aload_n hx hb dX12_extreme_10 rfl (lv_at hl 0 rfl) ?_
  refine k_cVv (As := []) (rest := []) (wc := [(h0, .inr (12, (f0.set 0 (.int 0)))), (h1, .inl (cI, 2001, .inl g0)), (h2, .inl (cI, 2001, .inl g1)), (h3, .inl (cI, 2001, .inl g2)), (h4, .inl (cI, 2001, .inl g3))]) (wr := [(h5, .inl (cI, 26, .inl g4)), (h6, .inl (cI, 26, .inl g5)), (h7, .inl (cI, 26, .inl g6)), (h8, .inl (cI, 26, .inl g7)), (h9, .inl (cI, 26, .inl g8)), (h10, .inl (cI, 16, .inl g9)), (h11, .inl (cI, 16, .inl g10)), (h12, .inl (cI, 16, .inl g11)), (h13, .inl (cJ, 16, .inr (.inl g12))), (h14, .inl (cI, 16, .inl g13))]) (w1 := (fun _ : Unit => [(h0, .inr (12, ((((((((f0.set 0 (.int 0)).set 12 (.int 0)).set 2 (.int 0)).set 36 (.int 0)).set 37 (.int 0)).set 27 (.int 0)).set 31 (.int 0)).set 28 (.int 0)))), (h1, .inl (cI, 2001, .inl (upd g0 0 0))), (h2, .inl (cI, 2001, .inl (upd g1 0 0))), (h3, .inl (cI, 2001, .inl (upd g2 0 0))), (h4, .inl (cI, 2001, .inl (upd g3 0 0)))])) ⟨hx, hb, hml, hown, hts⟩ hN hX hAE hK hP hD hS hA [14, 0, 1, 2, 3] [4, 5, 6, 7, 8, 9, 10, 11, 12, 13] (ci := 12) rfl rfl rfl rfl (by decide +kernel) (by decide +kernel) (by decide +kernel) (c_X12_begin_0 l E D cI cJ cB cZ h0 ((f0.set 0 (.int 0))) h1 h2 h3 h4 g0 g1 g2 g3 (k_ne (by decide) e2) (k_ne (by decide) e3) (k_ne (by decide) e4) (k_ne (by decide) e5) (k_ne (by decide) e6) (k_ne (by decide) e7) (k_ne (by decide) e8) (k_ne (by decide) e9) (k_ne (by decide) e10) (k_ne (by decide) e11) (k_ne (by decide) e12) (k_ne (by decide) e13) (k_ne (by decide) e14)) (cwV 0 hts g9_X12_extreme_X12_begin_874 rfl rfl rfl (by decide +kernel) ⟨Nat.le_of_ble_eq_true rfl, Nat.le_of_ble_eq_true rfl⟩) rfl hl.1 (Nat.le_of_ble_eq_true rfl) dX12_extreme_11 ⟨Nat.le_of_ble_eq_true rfl, Nat.le_of_ble_eq_true rfl⟩ (fun _ H locs hP hD hS => ?_)
  have hP : va_P D vwCl [(h5, .inl (cI, 26, .inl g4)), (h6, .inl (cI, 26, .inl g5)), (h7, .inl (cI, 26, .inl g6)), (h8, .inl (cI, 26, .inl g7)), (h9, .inl (cI, 26, .inl g8)), (h10, .inl (cI, 16, .inl g9)), (h11, .inl (cI, 16, .inl g10)), (h12, .inl (cI, 16, .inl g11)), (h13, .inl (cJ, 16, .inr (.inl g12))), (h14, .inl (cI, 16, .inl g13)), (h0, .inr (12, ((((((((f0.set 0 (.int 0)).set 12 (.int 0)).set 2 (.int 0)).set 36 (.int 0)).set 37 (.int 0)).set 27 (.int 0)).set 31 (.int 0)).set 28 (.int 0)))), (h1, .inl (cI, 2001, .inl (upd g0 0 0))), (h2, .inl (cI, 2001, .inl (upd g1 0 0))), (h3, .inl (cI, 2001, .inl (upd g2 0 0))), (h4, .inl (cI, 2001, .inl (upd g3 0 0)))] H := hP
  have hD : va_D A [(h5, .inl (cI, 26, .inl g4)), (h6, .inl (cI, 26, .inl g5)), (h7, .inl (cI, 26, .inl g6)), (h8, .inl (cI, 26, .inl g7)), (h9, .inl (cI, 26, .inl g8)), (h10, .inl (cI, 16, .inl g9)), (h11, .inl (cI, 16, .inl g10)), (h12, .inl (cI, 16, .inl g11)), (h13, .inl (cJ, 16, .inr (.inl g12))), (h14, .inl (cI, 16, .inl g13)), (h0, .inr (12, ((((((((f0.set 0 (.int 0)).set 12 (.int 0)).set 2 (.int 0)).set 36 (.int 0)).set 37 (.int 0)).set 27 (.int 0)).set 31 (.int 0)).set 28 (.int 0)))), (h1, .inl (cI, 2001, .inl (upd g0 0 0))), (h2, .inl (cI, 2001, .inl (upd g1 0 0))), (h3, .inl (cI, 2001, .inl (upd g2 0 0))), (h4, .inl (cI, 2001, .inl (upd g3 0 0)))] := hD
  refine lv_aload_n hx hb dX12_extreme_14 rfl (lv_at hl 0 rfl) ?_
  refine lv_bipush (v := 25) hx hb dX12_extreme_15 (by decide) ?_
  refine k_cVv (As := [.int 25]) (rest := []) (wc := [(h0, .inr (12, ((((((((f0.set 0 (.int 0)).set 12 (.int 0)).set 2 (.int 0)).set 36 (.int 0)).set 37 (.int 0)).set 27 (.int 0)).set 31 (.int 0)).set 28 (.int 0)))), (h5, .inl (cI, 26, .inl g4)), (h6, .inl (cI, 26, .inl g5)), (h7, .inl (cI, 26, .inl g6)), (h8, .inl (cI, 26, .inl g7)), (h9, .inl (cI, 26, .inl g8))]) (wr := [(h10, .inl (cI, 16, .inl g9)), (h11, .inl (cI, 16, .inl g10)), (h12, .inl (cI, 16, .inl g11)), (h13, .inl (cJ, 16, .inr (.inl g12))), (h14, .inl (cI, 16, .inl g13)), (h1, .inl (cI, 2001, .inl (upd g0 0 0))), (h2, .inl (cI, 2001, .inl (upd g1 0 0))), (h3, .inl (cI, 2001, .inl (upd g2 0 0))), (h4, .inl (cI, 2001, .inl (upd g3 0 0)))]) (w1 := (fun _ : Unit => [(h0, .inr (12, ((((((((((f0.set 0 (.int 0)).set 12 (.int 0)).set 2 (.int 0)).set 36 (.int 0)).set 37 (.int 0)).set 27 (.int 0)).set 31 (.int 0)).set 28 (.int 0)).set 66 (.int 25)).set 67 (.int 0)))), (h5, .inl (cI, 26, .inl (upd g4 25 0))), (h6, .inl (cI, 26, .inl (upd g5 25 0))), (h7, .inl (cI, 26, .inl (upd g6 25 0))), (h8, .inl (cI, 26, .inl (upd g7 25 0))), (h9, .inl (cI, 26, .inl (upd g8 25 0)))])) ⟨hx, hb, hml, hown, hts⟩ hN hX hAE hK hP hD hS hA [10, 0, 1, 2, 3, 4] [5, 6, 7, 8, 9, 11, 12, 13, 14] (ci := 12) rfl rfl rfl rfl (by decide +kernel) (by decide +kernel) (by decide +kernel) (c_X12_beginSlot_1 l E D cI cJ cB cZ h0 (((((((((f0.set 0 (.int 0)).set 12 (.int 0)).set 2 (.int 0)).set 36 (.int 0)).set 37 (.int 0)).set 27 (.int 0)).set 31 (.int 0)).set 28 (.int 0))) h5 g4 h6 g5 h7 g6 h8 g7 h9 g8 (k_ne (by decide) (k_ne (by decide) (k_ne (by decide) (k_ne (by decide) (k_ne (by decide) (k_ne (by decide) (k_ne (by decide) (k_ne (by decide) e15)))))))) (k_ne (by decide) (k_ne (by decide) (k_ne (by decide) (k_ne (by decide) (k_ne (by decide) (k_ne (by decide) (k_ne (by decide) (k_ne (by decide) e16)))))))) (k_ne (by decide) (k_ne (by decide) (k_ne (by decide) (k_ne (by decide) (k_ne (by decide) (k_ne (by decide) (k_ne (by decide) (k_ne (by decide) e17)))))))) (k_ne (by decide) (k_ne (by decide) (k_ne (by decide) (k_ne (by decide) (k_ne (by decide) (k_ne (by decide) (k_ne (by decide) (k_ne (by decide) e18)))))))) (k_ne (by decide) (k_ne (by decide) (k_ne (by decide) (k_ne (by decide) (k_ne (by decide) (k_ne (by decide) (k_ne (by decide) (k_ne (by decide) e19)))))))) (k_ne (by decide) (k_ne (by decide) (k_ne (by decide) (k_ne (by decide) (k_ne (by decide) (k_ne (by decide) (k_ne (by decide) (k_ne (by decide) e20)))))))) (k_ne (by decide) (k_ne (by decide) (k_ne (by decide) (k_ne (by decide) (k_ne (by decide) (k_ne (by decide) (k_ne (by decide) (k_ne (by decide) e21))))))))) (cwV 1 hts g9_X12_extreme_X12_beginSlot_842 rfl rfl rfl (by decide +kernel) ⟨Nat.le_of_ble_eq_true rfl, Nat.le_of_ble_eq_true rfl⟩) rfl hl.1 (Nat.le_of_ble_eq_true rfl) dX12_extreme_17 ⟨Nat.le_of_ble_eq_true rfl, Nat.le_of_ble_eq_true rfl⟩ (fun _ H locs hP hD hS => ?_)
  have hP : va_P D vwCl [(h10, .inl (cI, 16, .inl g9)), (h11, .inl (cI, 16, .inl g10)), (h12, .inl (cI, 16, .inl g11)), (h13, .inl (cJ, 16, .inr (.inl g12))), (h14, .inl (cI, 16, .inl g13)), (h1, .inl (cI, 2001, .inl (upd g0 0 0))), (h2, .inl (cI, 2001, .inl (upd g1 0 0))), (h3, .inl (cI, 2001, .inl (upd g2 0 0))), (h4, .inl (cI, 2001, .inl (upd g3 0 0))), (h0, .inr (12, ((((((((((f0.set 0 (.int 0)).set 12 (.int 0)).set 2 (.int 0)).set 36 (.int 0)).set 37 (.int 0)).set 27 (.int 0)).set 31 (.int 0)).set 28 (.int 0)).set 66 (.int 25)).set 67 (.int 0)))), (h5, .inl (cI, 26, .inl (upd g4 25 0))), (h6, .inl (cI, 26, .inl (upd g5 25 0))), (h7, .inl (cI, 26, .inl (upd g6 25 0))), (h8, .inl (cI, 26, .inl (upd g7 25 0))), (h9, .inl (cI, 26, .inl (upd g8 25 0)))] H := hP
  have hD : va_D A [(h10, .inl (cI, 16, .inl g9)), (h11, .inl (cI, 16, .inl g10)), (h12, .inl (cI, 16, .inl g11)), (h13, .inl (cJ, 16, .inr (.inl g12))), (h14, .inl (cI, 16, .inl g13)), (h1, .inl (cI, 2001, .inl (upd g0 0 0))), (h2, .inl (cI, 2001, .inl (upd g1 0 0))), (h3, .inl (cI, 2001, .inl (upd g2 0 0))), (h4, .inl (cI, 2001, .inl (upd g3 0 0))), (h0, .inr (12, ((((((((((f0.set 0 (.int 0)).set 12 (.int 0)).set 2 (.int 0)).set 36 (.int 0)).set 37 (.int 0)).set 27 (.int 0)).set 31 (.int 0)).set 28 (.int 0)).set 66 (.int 25)).set 67 (.int 0)))), (h5, .inl (cI, 26, .inl (upd g4 25 0))), (h6, .inl (cI, 26, .inl (upd g5 25 0))), (h7, .inl (cI, 26, .inl (upd g6 25 0))), (h8, .inl (cI, 26, .inl (upd g7 25 0))), (h9, .inl (cI, 26, .inl (upd g8 25 0)))] := hD
  refine lv_aload_n hx hb dX12_extreme_20 rfl (lv_at hl 0 rfl) ?_
  refine k_cVi (As := []) (rest := []) (wc := [(h0, .inr (12, ((((((((((f0.set 0 (.int 0)).set 12 (.int 0)).set 2 (.int 0)).set 36 (.int 0)).set 37 (.int 0)).set 27 (.int 0)).set 31 (.int 0)).set 28 (.int 0)).set 66 (.int 25)).set 67 (.int 0)))), (h10, .inl (cI, 16, .inl g9)), (h11, .inl (cI, 16, .inl g10)), (h12, .inl (cI, 16, .inl g11)), (h13, .inl (cJ, 16, .inr (.inl g12))), (h14, .inl (cI, 16, .inl g13)), (h3, .inl (cI, 2001, .inl (upd g2 0 0))), (h1, .inl (cI, 2001, .inl (upd g0 0 0)))]) (wr := [(h2, .inl (cI, 2001, .inl (upd g1 0 0))), (h4, .inl (cI, 2001, .inl (upd g3 0 0))), (h5, .inl (cI, 26, .inl (upd g4 25 0))), (h6, .inl (cI, 26, .inl (upd g5 25 0))), (h7, .inl (cI, 26, .inl (upd g6 25 0))), (h8, .inl (cI, 26, .inl (upd g7 25 0))), (h9, .inl (cI, 26, .inl (upd g8 25 0)))]) (w1 := [(h0, .inr (12, (((((((((((((((((((f0.set 0 (.int 0)).set 12 (.int 0)).set 2 (.int 0)).set 36 (.int 0)).set 37 (.int 0)).set 27 (.int 0)).set 31 (.int 0)).set 28 (.int 0)).set 66 (.int 25)).set 67 (.int 0)).set 76 (.int (-1))).set 83 (.int (-1))).set 83 (.int 0)).set 84 (.int 3)).set 84 (.int 4)).set 84 (.int 5)).set 31 (.int 1)).set 29 (.int 2)).set 30 (.int 0)))), (h10, .inl (cI, 16, .inl (upd g9 0 33))), (h11, .inl (cI, 16, .inl (upd g10 0 (-1)))), (h12, .inl (cI, 16, .inl (upd (upd g11 0 1) 0 1))), (h13, .inl (cJ, 16, .inr (.inl (vp_updL (vp_updL g12 0 1) 0 1)))), (h14, .inl (cI, 16, .inl (upd g13 0 (-1)))), (h3, .inl (cI, 2001, .inl (upd g2 0 0))), (h1, .inl (cI, 2001, .inl (upd g0 0 0)))]) ⟨hx, hb, hml, hown, hts⟩ hN hX hAE hK hP hD hS hA [9, 0, 1, 2, 3, 4, 7, 5] [6, 8, 10, 11, 12, 13, 14] (ci := 12) rfl rfl rfl rfl (by decide +kernel) (by decide +kernel) (by decide +kernel) (c_X12_readTerm_0 l E D cI cJ cB cZ h0 (((((((((((f0.set 0 (.int 0)).set 12 (.int 0)).set 2 (.int 0)).set 36 (.int 0)).set 37 (.int 0)).set 27 (.int 0)).set 31 (.int 0)).set 28 (.int 0)).set 66 (.int 25)).set 67 (.int 0))) h10 h11 h12 h13 h14 g9 g10 g11 g12 g13 h3 ((upd g2 0 0)) h1 ((upd g0 0 0)) (k_ne (by decide) (k_ne (by decide) (k_ne (by decide) (k_ne (by decide) (k_ne (by decide) (k_ne (by decide) (k_ne (by decide) (k_ne (by decide) (k_ne (by decide) (k_ne (by decide) e22)))))))))) (k_ne (by decide) (k_ne (by decide) (k_ne (by decide) (k_ne (by decide) (k_ne (by decide) (k_ne (by decide) (k_ne (by decide) (k_ne (by decide) (k_ne (by decide) (k_ne (by decide) e23)))))))))) (k_ne (by decide) (k_ne (by decide) (k_ne (by decide) (k_ne (by decide) (k_ne (by decide) (k_ne (by decide) (k_ne (by decide) (k_ne (by decide) (k_ne (by decide) (k_ne (by decide) e24)))))))))) (k_ne (by decide) (k_ne (by decide) (k_ne (by decide) (k_ne (by decide) (k_ne (by decide) (k_ne (by decide) (k_ne (by decide) (k_ne (by decide) (k_ne (by decide) (k_ne (by decide) e25)))))))))) (k_ne (by decide) (k_ne (by decide) (k_ne (by decide) (k_ne (by decide) (k_ne (by decide) (k_ne (by decide) (k_ne (by decide) (k_ne (by decide) (k_ne (by decide) (k_ne (by decide) e26)))))))))) (k_ne (by decide) (k_ne (by decide) (k_ne (by decide) (k_ne (by decide) (k_ne (by decide) (k_ne (by decide) (k_ne (by decide) (k_ne (by decide) (k_ne (by decide) (k_ne (by decide) e27)))))))))) (k_ne (by decide) (k_ne (by decide) (k_ne (by decide) (k_ne (by decide) (k_ne (by decide) (k_ne (by decide) (k_ne (by decide) (k_ne (by decide) (k_ne (by decide) (k_ne (by decide) e28)))))))))) (k_ne (by decide) (k_ne (by decide) (k_ne (by decide) (k_ne (by decide) (k_ne (by decide) (k_ne (by decide) (k_ne (by decide) (k_ne (by decide) (k_ne (by decide) (k_ne (by decide) e29)))))))))) (k_ne (by decide) (k_ne (by decide) (k_ne (by decide) (k_set (k_ne (by decide) (k_ne (by decide) (k_ne (by decide) (k_ne (by decide) (k_ne (by decide) (k_ne (by decide) e9)))))))))) (k_ne (by decide) (k_ne (by decide) (k_ne (by decide) (k_ne (by decide) (k_ne (by decide) (k_ne (by decide) (k_ne (by decide) (k_ne (by decide) (k_ne (by decide) (k_ne (by decide) e13)))))))))) (k_ne (by decide) (k_ne (by decide) (k_set (k_ne (by decide) (k_ne (by decide) (k_ne (by decide) (k_ne (by decide) (k_ne (by decide) (k_ne (by decide) (k_ne (by decide) e10)))))))))) rfl (k_ne (by decide) (k_set (k_ne (by decide) (k_ne (by decide) (k_ne (by decide) (k_ne (by decide) (k_ne (by decide) (k_ne (by decide) (k_ne (by decide) (k_ne (by decide) e15)))))))))) (k_ne (by decide) (k_ne (by decide) (k_ne (by decide) (k_ne (by decide) (k_ne (by decide) (k_ne (by decide) (k_ne (by decide) (k_ne (by decide) (k_ne (by decide) (k_ne (by decide) e30)))))))))) (k_ne (by decide) (k_ne (by decide) (k_ne (by decide) (k_ne (by decide) (k_ne (by decide) (k_ne (by decide) (k_ne (by decide) (k_ne (by decide) (k_ne (by decide) (k_ne (by decide) e11)))))))))) rfl (k_ne (by decide) (k_ne (by decide) (k_ne (by decide) (k_ne (by decide) (k_ne (by decide) (k_ne (by decide) (k_ne (by decide) (k_ne (by decide) (k_ne (by decide) (k_ne (by decide) e31)))))))))) (k_ne (by decide) (k_ne (by decide) (k_ne (by decide) (k_ne (by decide) (k_ne (by decide) (k_ne (by decide) (k_ne (by decide) (k_ne (by decide) (k_ne (by decide) (k_ne (by decide) e32))))))))))) (cwV 0 hts g9_X12_extreme_X12_readTerm_1020 rfl rfl rfl (by decide +kernel) ⟨Nat.le_of_ble_eq_true rfl, Nat.le_of_ble_eq_true rfl⟩) rfl hl.1 (Nat.le_of_ble_eq_true rfl) dX12_extreme_21 ⟨Nat.le_of_ble_eq_true rfl, Nat.le_of_ble_eq_true rfl⟩ (fun H locs hP hD hS => ?_)
  have hP : va_P D vwCl [(h2, .inl (cI, 2001, .inl (upd g1 0 0))), (h4, .inl (cI, 2001, .inl (upd g3 0 0))), (h5, .inl (cI, 26, .inl (upd g4 25 0))), (h6, .inl (cI, 26, .inl (upd g5 25 0))), (h7, .inl (cI, 26, .inl (upd g6 25 0))), (h8, .inl (cI, 26, .inl (upd g7 25 0))), (h9, .inl (cI, 26, .inl (upd g8 25 0))), (h0, .inr (12, (((((((((((((((((((f0.set 0 (.int 0)).set 12 (.int 0)).set 2 (.int 0)).set 36 (.int 0)).set 37 (.int 0)).set 27 (.int 0)).set 31 (.int 0)).set 28 (.int 0)).set 66 (.int 25)).set 67 (.int 0)).set 76 (.int (-1))).set 83 (.int (-1))).set 83 (.int 0)).set 84 (.int 3)).set 84 (.int 4)).set 84 (.int 5)).set 31 (.int 1)).set 29 (.int 2)).set 30 (.int 0)))), (h10, .inl (cI, 16, .inl (upd g9 0 33))), (h11, .inl (cI, 16, .inl (upd g10 0 (-1)))), (h12, .inl (cI, 16, .inl (upd (upd g11 0 1) 0 1))), (h13, .inl (cJ, 16, .inr (.inl (vp_updL (vp_updL g12 0 1) 0 1)))), (h14, .inl (cI, 16, .inl (upd g13 0 (-1)))), (h3, .inl (cI, 2001, .inl (upd g2 0 0))), (h1, .inl (cI, 2001, .inl (upd g0 0 0)))] H := hP
  have hD : va_D A [(h2, .inl (cI, 2001, .inl (upd g1 0 0))), (h4, .inl (cI, 2001, .inl (upd g3 0 0))), (h5, .inl (cI, 26, .inl (upd g4 25 0))), (h6, .inl (cI, 26, .inl (upd g5 25 0))), (h7, .inl (cI, 26, .inl (upd g6 25 0))), (h8, .inl (cI, 26, .inl (upd g7 25 0))), (h9, .inl (cI, 26, .inl (upd g8 25 0))), (h0, .inr (12, (((((((((((((((((((f0.set 0 (.int 0)).set 12 (.int 0)).set 2 (.int 0)).set 36 (.int 0)).set 37 (.int 0)).set 27 (.int 0)).set 31 (.int 0)).set 28 (.int 0)).set 66 (.int 25)).set 67 (.int 0)).set 76 (.int (-1))).set 83 (.int (-1))).set 83 (.int 0)).set 84 (.int 3)).set 84 (.int 4)).set 84 (.int 5)).set 31 (.int 1)).set 29 (.int 2)).set 30 (.int 0)))), (h10, .inl (cI, 16, .inl (upd g9 0 33))), (h11, .inl (cI, 16, .inl (upd g10 0 (-1)))), (h12, .inl (cI, 16, .inl (upd (upd g11 0 1) 0 1))), (h13, .inl (cJ, 16, .inr (.inl (vp_updL (vp_updL g12 0 1) 0 1)))), (h14, .inl (cI, 16, .inl (upd g13 0 (-1)))), (h3, .inl (cI, 2001, .inl (upd g2 0 0))), (h1, .inl (cI, 2001, .inl (upd g0 0 0)))] := hD
  refine lv_istore_n (lv' := [(2, .int 0), (0, .ref h0), (1, .int 1)]) hx hb dX12_extreme_24 rfl hl (by decide) rfl (fun ls hl => ?_)
  refine lv_aload_n hx hb dX12_extreme_25 rfl (lv_at hl 1 rfl) ?_
  refine k_get (D := D) (ci := 12) (v := .int 1) (N := 195) hx hb hts hin12 hown hK hP 7 rfl rfl (by decide) f9_12_31 (hts (.fieldLink RX12 562 "IntegerHouseModel" "faulty" "Z") (o9_X12_extreme _ (List.mem_of_getElem? (i := 13) rfl))) (k_ne (by decide) (k_ne (by decide) (k_set (k_ne (by decide) (k_ne (by decide) (k_ne (by decide) (k_ne (by decide) (k_ne (by decide) (k_ne (by decide) (k_ne (by decide) (k_ne (by decide) (k_ne (by decide) (k_set (k_ne (by decide) (k_ne (by decide) (k_ne (by decide) (k_ne (by decide) (k_ne (by decide) (k_ne (by decide) e9))))))))))))))))))) dX12_extreme_26 ?_
  refine lv_if_ne (tgt := 45) hx hb dX12_extreme_29 (by decide) (fun _ => ?_) (fun c9 => absurd c9 (by decide))
  refine lv_iconst (v := 0) hx hb dX12_extreme_45 (by decide) ?_
  refine lv_istore_n (lv' := [(3, .int 0), (2, .int 0), (0, .ref h0), (1, .int 1)]) hx hb dX12_extreme_46 rfl hl (by decide) rfl (fun ls hl => ?_)
  refine lv_iconst (v := 0) hx hb dX12_extreme_47 (by decide) ?_
  refine lv_istore (lv' := [(4, .int 0), (3, .int 0), (2, .int 0), (0, .ref h0), (1, .int 1)]) hx hb dX12_extreme_48 hl (by decide) rfl (fun ls hl => ?_)
  refine lv_iload_n hx hb dX12_extreme_50 rfl (lv_at hl 1 rfl) ?_
  refine lv_if_eq (tgt := 79) hx hb dX12_extreme_51 (by decide) (fun _ => ?_) (fun c9 => absurd (by decide) c9)
  refine lv_aload_n hx hb dX12_extreme_79 rfl (lv_at hl 3 rfl) ?_
  refine k_get (D := D) (ci := 12) (v := .int 1) (N := 195) hx hb hts hin12 hown hK hP 7 rfl rfl (by decide) f9_12_31 (hts (.fieldLink RX12 562 "IntegerHouseModel" "faulty" "Z") (o9_X12_extreme _ (List.mem_of_getElem? (i := 13) rfl))) (k_ne (by decide) (k_ne (by decide) (k_set (k_ne (by decide) (k_ne (by decide) (k_ne (by decide) (k_ne (by decide) (k_ne (by decide) (k_ne (by decide) (k_ne (by decide) (k_ne (by decide) (k_ne (by decide) (k_set (k_ne (by decide) (k_ne (by decide) (k_ne (by decide) (k_ne (by decide) (k_ne (by decide) (k_ne (by decide) e9))))))))))))))))))) dX12_extreme_80 ?_
  refine lv_if_ne (tgt := 102) hx hb dX12_extreme_83 (by decide) (fun _ => ?_) (fun c9 => absurd c9 (by decide))
  refine lv_aload_n hx hb dX12_extreme_102 rfl (lv_at hl 3 rfl) ?_
  refine k_get (D := D) (ci := 12) (v := .int 1) (N := 195) hx hb hts hin12 hown hK hP 7 rfl rfl (by decide) f9_12_31 (hts (.fieldLink RX12 562 "IntegerHouseModel" "faulty" "Z") (o9_X12_extreme _ (List.mem_of_getElem? (i := 13) rfl))) (k_ne (by decide) (k_ne (by decide) (k_set (k_ne (by decide) (k_ne (by decide) (k_ne (by decide) (k_ne (by decide) (k_ne (by decide) (k_ne (by decide) (k_ne (by decide) (k_ne (by decide) (k_ne (by decide) (k_set (k_ne (by decide) (k_ne (by decide) (k_ne (by decide) (k_ne (by decide) (k_ne (by decide) (k_ne (by decide) e9))))))))))))))))))) dX12_extreme_103 ?_
  refine lv_if_ne (tgt := 123) hx hb dX12_extreme_106 (by decide) (fun _ => ?_) (fun c9 => absurd c9 (by decide))
  refine lv_aload_n hx hb dX12_extreme_123 rfl (lv_at hl 3 rfl) ?_
  refine k_cVi (As := []) (rest := []) (wc := [(h0, .inr (12, (((((((((((((((((((f0.set 0 (.int 0)).set 12 (.int 0)).set 2 (.int 0)).set 36 (.int 0)).set 37 (.int 0)).set 27 (.int 0)).set 31 (.int 0)).set 28 (.int 0)).set 66 (.int 25)).set 67 (.int 0)).set 76 (.int (-1))).set 83 (.int (-1))).set 83 (.int 0)).set 84 (.int 3)).set 84 (.int 4)).set 84 (.int 5)).set 31 (.int 1)).set 29 (.int 2)).set 30 (.int 0))))]) (wr := [(h2, .inl (cI, 2001, .inl (upd g1 0 0))), (h4, .inl (cI, 2001, .inl (upd g3 0 0))), (h5, .inl (cI, 26, .inl (upd g4 25 0))), (h6, .inl (cI, 26, .inl (upd g5 25 0))), (h7, .inl (cI, 26, .inl (upd g6 25 0))), (h8, .inl (cI, 26, .inl (upd g7 25 0))), (h9, .inl (cI, 26, .inl (upd g8 25 0))), (h10, .inl (cI, 16, .inl (upd g9 0 33))), (h11, .inl (cI, 16, .inl (upd g10 0 (-1)))), (h12, .inl (cI, 16, .inl (upd (upd g11 0 1) 0 1))), (h13, .inl (cJ, 16, .inr (.inl (vp_updL (vp_updL g12 0 1) 0 1)))), (h14, .inl (cI, 16, .inl (upd g13 0 (-1)))), (h3, .inl (cI, 2001, .inl (upd g2 0 0))), (h1, .inl (cI, 2001, .inl (upd g0 0 0)))]) (w1 := [(h0, .inr (12, ((((((((((((((((((((f0.set 0 (.int 0)).set 12 (.int 0)).set 2 (.int 0)).set 36 (.int 0)).set 37 (.int 0)).set 27 (.int 0)).set 31 (.int 0)).set 28 (.int 0)).set 66 (.int 25)).set 67 (.int 0)).set 76 (.int (-1))).set 83 (.int (-1))).set 83 (.int 0)).set 84 (.int 3)).set 84 (.int 4)).set 84 (.int 5)).set 31 (.int 1)).set 29 (.int 2)).set 30 (.int 0)).set 109 (.int 2))))]) ⟨hx, hb, hml, hown, hts⟩ hN hX hAE hK hP hD hS hA [7] [0, 1, 2, 3, 4, 5, 6, 8, 9, 10, 11, 12, 13, 14] (ci := 12) rfl rfl rfl rfl (by decide +kernel) (by decide +kernel) (by decide +kernel) (c_X12_told_0 l E D cI cJ cB cZ h0 ((((((((((((((((((((f0.set 0 (.int 0)).set 12 (.int 0)).set 2 (.int 0)).set 36 (.int 0)).set 37 (.int 0)).set 27 (.int 0)).set 31 (.int 0)).set 28 (.int 0)).set 66 (.int 25)).set 67 (.int 0)).set 76 (.int (-1))).set 83 (.int (-1))).set 83 (.int 0)).set 84 (.int 3)).set 84 (.int 4)).set 84 (.int 5)).set 31 (.int 1)).set 29 (.int 2)).set 30 (.int 0))) (k_ne (by decide) (k_ne (by decide) (k_ne (by decide) (k_ne (by decide) (k_ne (by decide) (k_ne (by decide) (k_ne (by decide) (k_ne (by decide) (k_ne (by decide) (k_ne (by decide) (k_ne (by decide) (k_ne (by decide) (k_ne (by decide) (k_ne (by decide) (k_ne (by decide) (k_ne (by decide) (k_ne (by decide) (k_ne (by decide) (k_ne (by decide) e33))))))))))))))))))) (k_ne (by decide) (k_set (k_ne (by decide) (k_ne (by decide) (k_ne (by decide) (k_ne (by decide) (k_ne (by decide) (k_ne (by decide) (k_ne (by decide) (k_ne (by decide) (k_ne (by decide) (k_ne (by decide) (k_ne (by decide) (k_ne (by decide) (k_ne (by decide) (k_ne (by decide) (k_ne (by decide) (k_ne (by decide) (k_ne (by decide) e30))))))))))))))))))) (k_ne (by decide) (k_ne (by decide) (k_ne (by decide) (k_ne (by decide) (k_ne (by decide) (k_ne (by decide) (k_ne (by decide) (k_ne (by decide) (k_ne (by decide) (k_ne (by decide) (k_ne (by decide) (k_ne (by decide) (k_ne (by decide) (k_ne (by decide) (k_ne (by decide) (k_ne (by decide) (k_ne (by decide) (k_ne (by decide) (k_ne (by decide) e34))))))))))))))))))) (k_set (k_ne (by decide) (k_ne (by decide) (k_ne (by decide) (k_ne (by decide) (k_ne (by decide) (k_ne (by decide) (k_ne (by decide) (k_ne (by decide) (k_ne (by decide) (k_ne (by decide) (k_ne (by decide) (k_ne (by decide) (k_ne (by decide) (k_ne (by decide) (k_ne (by decide) (k_ne (by decide) (k_ne (by decide) (k_ne (by decide) e31)))))))))))))))))))) (cwV 0 hts g9_X12_extreme_X12_told_860 rfl rfl rfl (by decide +kernel) ⟨Nat.le_of_ble_eq_true rfl, Nat.le_of_ble_eq_true rfl⟩) rfl hl.1 (Nat.le_of_ble_eq_true rfl) dX12_extreme_124 ⟨Nat.le_of_ble_eq_true rfl, Nat.le_of_ble_eq_true rfl⟩ (fun H locs hP hD hS => ?_)
  have hP : va_P D vwCl [(h2, .inl (cI, 2001, .inl (upd g1 0 0))), (h4, .inl (cI, 2001, .inl (upd g3 0 0))), (h5, .inl (cI, 26, .inl (upd g4 25 0))), (h6, .inl (cI, 26, .inl (upd g5 25 0))), (h7, .inl (cI, 26, .inl (upd g6 25 0))), (h8, .inl (cI, 26, .inl (upd g7 25 0))), (h9, .inl (cI, 26, .inl (upd g8 25 0))), (h10, .inl (cI, 16, .inl (upd g9 0 33))), (h11, .inl (cI, 16, .inl (upd g10 0 (-1)))), (h12, .inl (cI, 16, .inl (upd (upd g11 0 1) 0 1))), (h13, .inl (cJ, 16, .inr (.inl (vp_updL (vp_updL g12 0 1) 0 1)))), (h14, .inl (cI, 16, .inl (upd g13 0 (-1)))), (h3, .inl (cI, 2001, .inl (upd g2 0 0))), (h1, .inl (cI, 2001, .inl (upd g0 0 0))), (h0, .inr (12, ((((((((((((((((((((f0.set 0 (.int 0)).set 12 (.int 0)).set 2 (.int 0)).set 36 (.int 0)).set 37 (.int 0)).set 27 (.int 0)).set 31 (.int 0)).set 28 (.int 0)).set 66 (.int 25)).set 67 (.int 0)).set 76 (.int (-1))).set 83 (.int (-1))).set 83 (.int 0)).set 84 (.int 3)).set 84 (.int 4)).set 84 (.int 5)).set 31 (.int 1)).set 29 (.int 2)).set 30 (.int 0)).set 109 (.int 2))))] H := hP
  have hD : va_D A [(h2, .inl (cI, 2001, .inl (upd g1 0 0))), (h4, .inl (cI, 2001, .inl (upd g3 0 0))), (h5, .inl (cI, 26, .inl (upd g4 25 0))), (h6, .inl (cI, 26, .inl (upd g5 25 0))), (h7, .inl (cI, 26, .inl (upd g6 25 0))), (h8, .inl (cI, 26, .inl (upd g7 25 0))), (h9, .inl (cI, 26, .inl (upd g8 25 0))), (h10, .inl (cI, 16, .inl (upd g9 0 33))), (h11, .inl (cI, 16, .inl (upd g10 0 (-1)))), (h12, .inl (cI, 16, .inl (upd (upd g11 0 1) 0 1))), (h13, .inl (cJ, 16, .inr (.inl (vp_updL (vp_updL g12 0 1) 0 1)))), (h14, .inl (cI, 16, .inl (upd g13 0 (-1)))), (h3, .inl (cI, 2001, .inl (upd g2 0 0))), (h1, .inl (cI, 2001, .inl (upd g0 0 0))), (h0, .inr (12, ((((((((((((((((((((f0.set 0 (.int 0)).set 12 (.int 0)).set 2 (.int 0)).set 36 (.int 0)).set 37 (.int 0)).set 27 (.int 0)).set 31 (.int 0)).set 28 (.int 0)).set 66 (.int 25)).set 67 (.int 0)).set 76 (.int (-1))).set 83 (.int (-1))).set 83 (.int 0)).set 84 (.int 3)).set 84 (.int 4)).set 84 (.int 5)).set 31 (.int 1)).set 29 (.int 2)).set 30 (.int 0)).set 109 (.int 2))))] := hD
  have hP := hP.sub (ws' := [(h0, .inr (12, ((((((((((((((((((((f0.set 0 (.int 0)).set 12 (.int 0)).set 2 (.int 0)).set 36 (.int 0)).set 37 (.int 0)).set 27 (.int 0)).set 31 (.int 0)).set 28 (.int 0)).set 66 (.int 25)).set 67 (.int 0)).set 76 (.int (-1))).set 83 (.int (-1))).set 83 (.int 0)).set 84 (.int 3)).set 84 (.int 4)).set 84 (.int 5)).set 31 (.int 1)).set 29 (.int 2)).set 30 (.int 0)).set 109 (.int 2)))), (h1, .inl (cI, 2001, .inl (upd g0 0 0))), (h2, .inl (cI, 2001, .inl (upd g1 0 0))), (h3, .inl (cI, 2001, .inl (upd g2 0 0))), (h4, .inl (cI, 2001, .inl (upd g3 0 0))), (h5, .inl (cI, 26, .inl (upd g4 25 0))), (h6, .inl (cI, 26, .inl (upd g5 25 0))), (h7, .inl (cI, 26, .inl (upd g6 25 0))), (h8, .inl (cI, 26, .inl (upd g7 25 0))), (h9, .inl (cI, 26, .inl (upd g8 25 0))), (h10, .inl (cI, 16, .inl (upd g9 0 33))), (h11, .inl (cI, 16, .inl (upd g10 0 (-1)))), (h12, .inl (cI, 16, .inl (upd (upd g11 0 1) 0 1))), (h13, .inl (cJ, 16, .inr (.inl (vp_updL (vp_updL g12 0 1) 0 1)))), (h14, .inl (cI, 16, .inl (upd g13 0 (-1))))]) [14, 13, 0, 12, 1, 2, 3, 4, 5, 6, 7, 8, 9, 10, 11] rfl
  have hD := hD.sub (ws' := [(h0, .inr (12, ((((((((((((((((((((f0.set 0 (.int 0)).set 12 (.int 0)).set 2 (.int 0)).set 36 (.int 0)).set 37 (.int 0)).set 27 (.int 0)).set 31 (.int 0)).set 28 (.int 0)).set 66 (.int 25)).set 67 (.int 0)).set 76 (.int (-1))).set 83 (.int (-1))).set 83 (.int 0)).set 84 (.int 3)).set 84 (.int 4)).set 84 (.int 5)).set 31 (.int 1)).set 29 (.int 2)).set 30 (.int 0)).set 109 (.int 2)))), (h1, .inl (cI, 2001, .inl (upd g0 0 0))), (h2, .inl (cI, 2001, .inl (upd g1 0 0))), (h3, .inl (cI, 2001, .inl (upd g2 0 0))), (h4, .inl (cI, 2001, .inl (upd g3 0 0))), (h5, .inl (cI, 26, .inl (upd g4 25 0))), (h6, .inl (cI, 26, .inl (upd g5 25 0))), (h7, .inl (cI, 26, .inl (upd g6 25 0))), (h8, .inl (cI, 26, .inl (upd g7 25 0))), (h9, .inl (cI, 26, .inl (upd g8 25 0))), (h10, .inl (cI, 16, .inl (upd g9 0 33))), (h11, .inl (cI, 16, .inl (upd g10 0 (-1)))), (h12, .inl (cI, 16, .inl (upd (upd g11 0 1) 0 1))), (h13, .inl (cJ, 16, .inr (.inl (vp_updL (vp_updL g12 0 1) 0 1)))), (h14, .inl (cI, 16, .inl (upd g13 0 (-1))))]) [14, 13, 0, 12, 1, 2, 3, 4, 5, 6, 7, 8, 9, 10, 11] (by decide +kernel) rfl
  exact W.iret (v := (-1000)) hx hb hr (fun t ht hW => ⟨⟨(-1000), (), rfl, rfl, kB_mk ht hW hP hK hD⟩, hS.F ht⟩) hS.2.2 dX12_extreme_127
