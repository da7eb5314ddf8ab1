theorem dX3_scan_0 : decode cX3_scan 0 = .ok (.aload_n 0, 1) := by decide +kernel
theorem dX3_scan_1 : decode cX3_scan 1 = .ok (.aload_n 1, 1) := by decide +kernel
theorem dX3_scan_2 : decode cX3_scan 2 = .ok (.putfield 28, 3) := by decide +kernel
theorem dX3_scan_5 : decode cX3_scan 5 = .ok (.aload_n 0, 1) := by decide +kernel
theorem dX3_scan_6 : decode cX3_scan 6 = .ok (.iload_n 2, 1) := by decide +kernel
theorem dX3_scan_7 : decode cX3_scan 7 = .ok (.putfield 55, 3) := by decide +kernel
theorem dX3_scan_10 : decode cX3_scan 10 = .ok (.aload_n 0, 1) := by decide +kernel
theorem dX3_scan_11 : decode cX3_scan 11 = .ok (.iload_n 2, 1) := by decide +kernel
theorem dX3_scan_12 : decode cX3_scan 12 = .ok (.iload_n 3, 1) := by decide +kernel
theorem dX3_scan_13 : decode cX3_scan 13 = .ok (.iadd, 1) := by decide +kernel
theorem dX3_scan_14 : decode cX3_scan 14 = .ok (.putfield 52, 3) := by decide +kernel
theorem dX3_scan_17 : decode cX3_scan 17 = .ok (.aload_n 0, 1) := by decide +kernel
theorem dX3_scan_18 : decode cX3_scan 18 = .ok (.iconst 0, 1) := by decide +kernel
theorem dX3_scan_19 : decode cX3_scan 19 = .ok (.putfield 48, 3) := by decide +kernel
theorem dX3_scan_22 : decode cX3_scan 22 = .ok (.aload_n 0, 1) := by decide +kernel
theorem dX3_scan_23 : decode cX3_scan 23 = .ok (.iload_n 2, 1) := by decide +kernel
theorem dX3_scan_24 : decode cX3_scan 24 = .ok (.invokevirtual 59, 3) := by decide +kernel
theorem dX3_scan_27 : decode cX3_scan 27 = .ok (.istore 5, 2) := by decide +kernel
theorem dX3_scan_29 : decode cX3_scan 29 = .ok (.iload 4, 2) := by decide +kernel
theorem dX3_scan_31 : decode cX3_scan 31 = .ok (.ifCond .eq 8, 3) := by decide +kernel
theorem dX3_scan_39 : decode cX3_scan 39 = .ok (.bipush 14, 2) := by decide +kernel
theorem dX3_scan_41 : decode cX3_scan 41 = .ok (.istore 6, 2) := by decide +kernel
theorem dX3_scan_43 : decode cX3_scan 43 = .ok (.iconst 0, 1) := by decide +kernel
theorem dX3_scan_44 : decode cX3_scan 44 = .ok (.istore 7, 2) := by decide +kernel
theorem dX3_scan_46 : decode cX3_scan 46 = .ok (.iload 7, 2) := by decide +kernel
theorem dX3_scan_48 : decode cX3_scan 48 = .ok (.sipush 2000, 3) := by decide +kernel
theorem dX3_scan_51 : decode cX3_scan 51 = .ok (.if_icmp .ge 128, 3) := by decide +kernel
theorem dX3_scan_54 : decode cX3_scan 54 = .ok (.iload 5, 2) := by decide +kernel
theorem dX3_scan_56 : decode cX3_scan 56 = .ok (.aload_n 0, 1) := by decide +kernel
theorem dX3_scan_57 : decode cX3_scan 57 = .ok (.getfield 52, 3) := by decide +kernel
theorem dX3_scan_60 : decode cX3_scan 60 = .ok (.if_icmp .ge 119, 3) := by decide +kernel
theorem dX3_scan_179 : decode cX3_scan 179 = .ok (.aload_n 0, 1) := by decide +kernel
theorem dX3_scan_180 : decode cX3_scan 180 = .ok (.getfield 15, 3) := by decide +kernel
theorem dX3_scan_183 : decode cX3_scan 183 = .ok (.aload_n 0, 1) := by decide +kernel
theorem dX3_scan_184 : decode cX3_scan 184 = .ok (.getfield 48, 3) := by decide +kernel
theorem dX3_scan_187 : decode cX3_scan 187 = .ok (.iconst 0, 1) := by decide +kernel
theorem dX3_scan_188 : decode cX3_scan 188 = .ok (.iastore, 1) := by decide +kernel
theorem dX3_scan_189 : decode cX3_scan 189 = .ok (.aload_n 0, 1) := by decide +kernel
theorem dX3_scan_190 : decode cX3_scan 190 = .ok (.getfield 19, 3) := by decide +kernel
theorem dX3_scan_193 : decode cX3_scan 193 = .ok (.aload_n 0, 1) := by decide +kernel
theorem dX3_scan_194 : decode cX3_scan 194 = .ok (.getfield 48, 3) := by decide +kernel
theorem dX3_scan_197 : decode cX3_scan 197 = .ok (.iload_n 3, 1) := by decide +kernel
theorem dX3_scan_198 : decode cX3_scan 198 = .ok (.iastore, 1) := by decide +kernel
theorem dX3_scan_199 : decode cX3_scan 199 = .ok (.return_, 1) := by decide +kernel
theorem dX3_behindBlanks_0 : decode cX3_behindBlanks 0 = .ok (.iload_n 1, 1) := by decide +kernel
theorem dX3_behindBlanks_1 : decode cX3_behindBlanks 1 = .ok (.istore_n 2, 1) := by decide +kernel
theorem dX3_behindBlanks_2 : decode cX3_behindBlanks 2 = .ok (.iload_n 2, 1) := by decide +kernel
theorem dX3_behindBlanks_3 : decode cX3_behindBlanks 3 = .ok (.aload_n 0, 1) := by decide +kernel
theorem dX3_behindBlanks_4 : decode cX3_behindBlanks 4 = .ok (.getfield 52, 3) := by decide +kernel
theorem dX3_behindBlanks_7 : decode cX3_behindBlanks 7 = .ok (.if_icmp .ge 29, 3) := by decide +kernel
theorem dX3_behindBlanks_36 : decode cX3_behindBlanks 36 = .ok (.iload_n 2, 1) := by decide +kernel
theorem dX3_behindBlanks_37 : decode cX3_behindBlanks 37 = .ok (.ireturn, 1) := by decide +kernel
theorem dX11_count_72 : decode cX11_count 72 = .ok (.aload_n 0, 1) := by decide +kernel
theorem dX11_count_73 : decode cX11_count 73 = .ok (.getfield 23, 3) := by decide +kernel
theorem dX11_count_76 : decode cX11_count 76 = .ok (.getfield 210, 3) := by decide +kernel
theorem dX11_count_79 : decode cX11_count 79 = .ok (.ireturn, 1) := by decide +kernel
theorem dX11_count_88 : decode cX11_count 88 = .ok (.aload_n 0, 1) := by decide +kernel
theorem dX11_count_89 : decode cX11_count 89 = .ok (.getfield 23, 3) := by decide +kernel
theorem dX11_count_92 : decode cX11_count 92 = .ok (.getfield 213, 3) := by decide +kernel
theorem dX11_count_95 : decode cX11_count 95 = .ok (.invokestatic 216, 3) := by decide +kernel
theorem dX11_count_98 : decode cX11_count 98 = .ok (.ireturn, 1) := by decide +kernel
theorem dX11_count_99 : decode cX11_count 99 = .ok (.aload_n 0, 1) := by decide +kernel
theorem dX11_count_100 : decode cX11_count 100 = .ok (.getfield 23, 3) := by decide +kernel
theorem dX11_count_103 : decode cX11_count 103 = .ok (.getfield 221, 3) := by decide +kernel
theorem dX11_count_106 : decode cX11_count 106 = .ok (.ireturn, 1) := by decide +kernel
theorem dX11_count_107 : decode cX11_count 107 = .ok (.aload_n 0, 1) := by decide +kernel
theorem dX11_count_108 : decode cX11_count 108 = .ok (.getfield 16, 3) := by decide +kernel
theorem dX11_count_111 : decode cX11_count 111 = .ok (.getfield 224, 3) := by decide +kernel
theorem dX11_count_114 : decode cX11_count 114 = .ok (.ireturn, 1) := by decide +kernel
theorem dX11_count_115 : decode cX11_count 115 = .ok (.aload_n 0, 1) := by decide +kernel
theorem dX11_count_116 : decode cX11_count 116 = .ok (.getfield 16, 3) := by decide +kernel
theorem dX11_count_119 : decode cX11_count 119 = .ok (.getfield 227, 3) := by decide +kernel
theorem dX11_count_122 : decode cX11_count 122 = .ok (.ireturn, 1) := by decide +kernel
theorem dX11_count_123 : decode cX11_count 123 = .ok (.aload_n 0, 1) := by decide +kernel
theorem dX11_count_124 : decode cX11_count 124 = .ok (.getfield 137, 3) := by decide +kernel
theorem dX11_count_127 : decode cX11_count 127 = .ok (.ireturn, 1) := by decide +kernel
theorem dX11_count_128 : decode cX11_count 128 = .ok (.iconst (-1), 1) := by decide +kernel
theorem dX11_count_129 : decode cX11_count 129 = .ok (.ireturn, 1) := by decide +kernel
theorem dX11_useTape_0 : decode cX11_useTape 0 = .ok (.aload_n 0, 1) := by decide +kernel
theorem dX11_useTape_1 : decode cX11_useTape 1 = .ok (.getfield 102, 3) := by decide +kernel
theorem dX11_useTape_4 : decode cX11_useTape 4 = .ok (.istore_n 1, 1) := by decide +kernel
theorem dX11_useTape_5 : decode cX11_useTape 5 = .ok (.aload_n 0, 1) := by decide +kernel
theorem dX11_useTape_6 : decode cX11_useTape 6 = .ok (.iconst 0, 1) := by decide +kernel
theorem dX11_useTape_7 : decode cX11_useTape 7 = .ok (.putfield 102, 3) := by decide +kernel
theorem dX11_useTape_10 : decode cX11_useTape 10 = .ok (.iload_n 1, 1) := by decide +kernel
theorem dX11_useTape_11 : decode cX11_useTape 11 = .ok (.ireturn, 1) := by decide +kernel
theorem dX12_count_10 : decode cX12_count 10 = .ok (.aload_n 0, 1) := by decide +kernel
theorem dX12_count_11 : decode cX12_count 11 = .ok (.getfield 485, 3) := by decide +kernel
theorem dX12_count_14 : decode cX12_count 14 = .ok (.ireturn, 1) := by decide +kernel
theorem dX12_count_108 : decode cX12_count 108 = .ok (.aload_n 0, 1) := by decide +kernel
theorem dX12_count_109 : decode cX12_count 109 = .ok (.getfield 815, 3) := by decide +kernel
theorem dX12_count_112 : decode cX12_count 112 = .ok (.ireturn, 1) := by decide +kernel
theorem dX12_count_118 : decode cX12_count 118 = .ok (.iload_n 2, 1) := by decide +kernel
theorem dX12_count_119 : decode cX12_count 119 = .ok (.ireturn, 1) := by decide +kernel
theorem dX12_count_120 : decode cX12_count 120 = .ok (.aload_n 0, 1) := by decide +kernel
theorem dX12_count_121 : decode cX12_count 121 = .ok (.getfield 821, 3) := by decide +kernel
theorem dX12_count_124 : decode cX12_count 124 = .ok (.ireturn, 1) := by decide +kernel
theorem dX12_count_125 : decode cX12_count 125 = .ok (.aload_n 0, 1) := by decide +kernel
theorem dX12_count_126 : decode cX12_count 126 = .ok (.getfield 475, 3) := by decide +kernel
theorem dX12_count_129 : decode cX12_count 129 = .ok (.ireturn, 1) := by decide +kernel
theorem dX12_count_130 : decode cX12_count 130 = .ok (.aload_n 0, 1) := by decide +kernel
theorem dX12_count_131 : decode cX12_count 131 = .ok (.getfield 478, 3) := by decide +kernel
theorem dX12_count_134 : decode cX12_count 134 = .ok (.ireturn, 1) := by decide +kernel
theorem dX12_count_135 : decode cX12_count 135 = .ok (.aload_n 0, 1) := by decide +kernel
theorem dX12_count_136 : decode cX12_count 136 = .ok (.getfield 498, 3) := by decide +kernel
theorem dX12_count_139 : decode cX12_count 139 = .ok (.ireturn, 1) := by decide +kernel
theorem dX12_count_140 : decode cX12_count 140 = .ok (.iconst (-1), 1) := by decide +kernel
theorem dX12_count_141 : decode cX12_count 141 = .ok (.ireturn, 1) := by decide +kernel
theorem dJ6_bitCount_0f7a4_0 : decode cJ6_bitCount_0f7a4 0 = .ok (.iload_n 0, 1) := by decide +kernel
theorem dJ6_bitCount_0f7a4_1 : decode cJ6_bitCount_0f7a4 1 = .ok (.iload_n 0, 1) := by decide +kernel
theorem dJ6_bitCount_0f7a4_2 : decode cJ6_bitCount_0f7a4 2 = .ok (.iconst 1, 1) := by decide +kernel
theorem dJ6_bitCount_0f7a4_3 : decode cJ6_bitCount_0f7a4 3 = .ok (.iushr, 1) := by decide +kernel
theorem dJ6_bitCount_0f7a4_4 : decode cJ6_bitCount_0f7a4 4 = .ok (.ldc_w 265, 3) := by decide +kernel
theorem dJ6_bitCount_0f7a4_7 : decode cJ6_bitCount_0f7a4 7 = .ok (.iand, 1) := by decide +kernel
theorem dJ6_bitCount_0f7a4_8 : decode cJ6_bitCount_0f7a4 8 = .ok (.isub, 1) := by decide +kernel
theorem dJ6_bitCount_0f7a4_9 : decode cJ6_bitCount_0f7a4 9 = .ok (.istore_n 0, 1) := by decide +kernel
theorem dJ6_bitCount_0f7a4_10 : decode cJ6_bitCount_0f7a4 10 = .ok (.iload_n 0, 1) := by decide +kernel
theorem dJ6_bitCount_0f7a4_11 : decode cJ6_bitCount_0f7a4 11 = .ok (.ldc_w 266, 3) := by decide +kernel
theorem dJ6_bitCount_0f7a4_14 : decode cJ6_bitCount_0f7a4 14 = .ok (.iand, 1) := by decide +kernel
theorem dJ6_bitCount_0f7a4_15 : decode cJ6_bitCount_0f7a4 15 = .ok (.iload_n 0, 1) := by decide +kernel
theorem dJ6_bitCount_0f7a4_16 : decode cJ6_bitCount_0f7a4 16 = .ok (.iconst 2, 1) := by decide +kernel
theorem dJ6_bitCount_0f7a4_17 : decode cJ6_bitCount_0f7a4 17 = .ok (.iushr, 1) := by decide +kernel
theorem dJ6_bitCount_0f7a4_18 : decode cJ6_bitCount_0f7a4 18 = .ok (.ldc_w 266, 3) := by decide +kernel
theorem dJ6_bitCount_0f7a4_21 : decode cJ6_bitCount_0f7a4 21 = .ok (.iand, 1) := by decide +kernel
theorem dJ6_bitCount_0f7a4_22 : decode cJ6_bitCount_0f7a4 22 = .ok (.iadd, 1) := by decide +kernel
theorem dJ6_bitCount_0f7a4_23 : decode cJ6_bitCount_0f7a4 23 = .ok (.istore_n 0, 1) := by decide +kernel
theorem dJ6_bitCount_0f7a4_24 : decode cJ6_bitCount_0f7a4 24 = .ok (.iload_n 0, 1) := by decide +kernel
theorem dJ6_bitCount_0f7a4_25 : decode cJ6_bitCount_0f7a4 25 = .ok (.iload_n 0, 1) := by decide +kernel
theorem dJ6_bitCount_0f7a4_26 : decode cJ6_bitCount_0f7a4 26 = .ok (.iconst 4, 1) := by decide +kernel
theorem dJ6_bitCount_0f7a4_27 : decode cJ6_bitCount_0f7a4 27 = .ok (.iushr, 1) := by decide +kernel
theorem dJ6_bitCount_0f7a4_28 : decode cJ6_bitCount_0f7a4 28 = .ok (.iadd, 1) := by decide +kernel
theorem dJ6_bitCount_0f7a4_29 : decode cJ6_bitCount_0f7a4 29 = .ok (.ldc_w 267, 3) := by decide +kernel
theorem dJ6_bitCount_0f7a4_32 : decode cJ6_bitCount_0f7a4 32 = .ok (.iand, 1) := by decide +kernel
theorem dJ6_bitCount_0f7a4_33 : decode cJ6_bitCount_0f7a4 33 = .ok (.istore_n 0, 1) := by decide +kernel
theorem dJ6_bitCount_0f7a4_34 : decode cJ6_bitCount_0f7a4 34 = .ok (.iload_n 0, 1) := by decide +kernel
theorem dJ6_bitCount_0f7a4_35 : decode cJ6_bitCount_0f7a4 35 = .ok (.iload_n 0, 1) := by decide +kernel
theorem dJ6_bitCount_0f7a4_36 : decode cJ6_bitCount_0f7a4 36 = .ok (.bipush 8, 2) := by decide +kernel
theorem dJ6_bitCount_0f7a4_38 : decode cJ6_bitCount_0f7a4 38 = .ok (.iushr, 1) := by decide +kernel
theorem dJ6_bitCount_0f7a4_39 : decode cJ6_bitCount_0f7a4 39 = .ok (.iadd, 1) := by decide +kernel
theorem dJ6_bitCount_0f7a4_40 : decode cJ6_bitCount_0f7a4 40 = .ok (.istore_n 0, 1) := by decide +kernel
theorem dJ6_bitCount_0f7a4_41 : decode cJ6_bitCount_0f7a4 41 = .ok (.iload_n 0, 1) := by decide +kernel
theorem dJ6_bitCount_0f7a4_42 : decode cJ6_bitCount_0f7a4 42 = .ok (.iload_n 0, 1) := by decide +kernel
theorem dJ6_bitCount_0f7a4_43 : decode cJ6_bitCount_0f7a4 43 = .ok (.bipush 16, 2) := by decide +kernel
theorem dJ6_bitCount_0f7a4_45 : decode cJ6_bitCount_0f7a4 45 = .ok (.iushr, 1) := by decide +kernel
theorem dJ6_bitCount_0f7a4_46 : decode cJ6_bitCount_0f7a4 46 = .ok (.iadd, 1) := by decide +kernel
theorem dJ6_bitCount_0f7a4_47 : decode cJ6_bitCount_0f7a4 47 = .ok (.istore_n 0, 1) := by decide +kernel
theorem dJ6_bitCount_0f7a4_48 : decode cJ6_bitCount_0f7a4 48 = .ok (.iload_n 0, 1) := by decide +kernel
theorem dJ6_bitCount_0f7a4_49 : decode cJ6_bitCount_0f7a4 49 = .ok (.bipush 63, 2) := by decide +kernel
theorem dJ6_bitCount_0f7a4_51 : decode cJ6_bitCount_0f7a4 51 = .ok (.iand, 1) := by decide +kernel
theorem dJ6_bitCount_0f7a4_52 : decode cJ6_bitCount_0f7a4 52 = .ok (.ireturn, 1) := by decide +kernel
set_option maxHeartbeats 400000000 in
set_option maxRecDepth 100000 in
theorem c_X12_count_1 (l : Launch) (E : kE) (D : va_G) (cI cJ cB cZ : ClassId) (h0 : Nat) (x0 : Int32) (f0 : List Value) (e0 : f0[0]? = some (.int 0)) (e1 : (x0 : Int32) = 4) (e2 : f0[2]? = some (.int 0)) : kI l E D (kT cI cJ cB cZ) yX12_count vW_X12_count ({ frames := 0, cells := 0, slots := 0, locals := 0 }) [.ref h0, .int x0] [(h0, .inr (12, f0))] (0) [(h0, .inr (12, (f0.set 0 (.int 0))))] 0 0 := by
  intro sz
  refine Met.ofW (cc := cX12_count) (maxL := 4) (ret := (some .int)) (by decide) rfl ?_
  intro p e s m args below meth c s₁ B hml hv
  obtain ⟨rfl, hsz, hP, hK, hD0, hN, hX⟩ := hv
  have hx := B.exec
  have hb := B.bytes
  have hr := B.returns
  have hts := atoms_spec (ws := vW_X12_count) B.pre
  have hown : s.vm.findClass RX12 = some m.cls := findClass_of_methodNamed B.named
  have hlocks := B.notSynchronized
  have hin12 : ∀ w ∈ wsX120, w ∈ vW_X12_count := u9_X12_count_wsX120
  subst hsz
  have hD := hD0.self (sz := s.heap.size)
  have hAE := k_AE hD0 hX
  generalize hAe : va_A [(h0, .inr (12, f0))] s.heap.size = A at hD hAE ⊢
  have hA : ∀ q : Nat, s.heap.size ≤ q → A q := fun q h => by rw [← hAe]; exact Or.inr h
  have hS : va_S A s.heap s.heap [] := va_S.rf
  have hP : va_P D vwCl [(h0, .inr (12, f0))] s.heap := hP
  have hl := lv_entry ([.ref h0, .int x0] : List Value) (n := 4) (Nat.le_of_ble_eq_true rfl)
  rw [lg_entry_eq]
  generalize (lg_sl ([.ref h0, .int x0]) ++ List.replicate (4 - (lg_sl ([.ref h0, .int x0])).length) Slot.unset).toArray = ls at hl ⊢
  have hl : lv_has ls 4 [(0, .ref h0), (1, .int x0)] := hl
  refine lv_aload_n hx hb dX12_count_0 rfl (lv_at hl 0 rfl) ?_
  refine lv_iconst (v := 0) hx hb dX12_count_1 (by decide) ?_
  refine k_put (D := D) (ci := 12) (v := .int 0) (ty := .int) (N := 195) hx hb hts hin12 tyX12 tyX12_ok nmX12 hown hK hP hD hS 0 rfl rfl (by decide) f9_12_0 (hts (.fieldLink RX12 3 "IntegerHouseModel" "thrown" "I") (o9_X12_count _ (List.mem_of_getElem? (i := 0) rfl))) rfl pd_2 rfl rfl (k_len e0) dX12_count_2 (fun H locs hP hD hS => ?_)
  have hP : va_P D vwCl [(h0, .inr (12, (f0.set 0 (.int 0))))] H := hP
  have hD : va_D A [(h0, .inr (12, (f0.set 0 (.int 0))))] := hD
  refine lv_iload_n hx hb dX12_count_5 rfl (lv_at hl 1 rfl) ?_
  refine lv_iconst (v := 4) hx hb dX12_count_6 (by decide) ?_
  refine lv_icmp_ne (tgt := 15) hx hb dX12_count_7 (by decide) (fun c9 => absurd e1 c9) (fun _ => ?_)
  refine lv_aload_n hx hb dX12_count_10 rfl (lv_at hl 0 rfl) ?_
  refine k_get (D := D) (ci := 12) (v := .int 0) (N := 195) hx hb hts hin12 hown hK hP 0 rfl rfl (by decide) f9_12_2 (hts (.fieldLink RX12 485 "IntegerHouseModel" "taped" "I") (o9_X12_count _ (List.mem_of_getElem? (i := 3) rfl))) (k_ne (by decide) e2) dX12_count_11 ?_
  exact W.iret (v := 0) hx hb hr (fun t ht hW => ⟨⟨0, (), rfl, rfl, kB_mk ht hW hP hK hD⟩, hS.F ht⟩) hS.2.2 dX12_count_14
set_option maxHeartbeats 400000000 in
set_option maxRecDepth 100000 in
theorem c_X11_count_2 (l : Launch) (E : kE) (D : va_G) (cI cJ cB cZ : ClassId) (h0 : Nat) (x0 : Int32) (f0 : List Value) (h1 : Nat) (f1 : List Value) (h2 : Nat) (f2 : List Value) (e0 : ¬ ((x0 : Int32) = 4)) (e1 : f0[1]? = some (.ref h1)) (e2 : f1[8]? = some (.int 0)) (e3 : (x0 : Int32) = 0) (e4 : f0[2]? = some (.ref h2)) (e5 : f2[10]? = some (.int 0)) : kI l E D (kT cI cJ cB cZ) yX11_count vW_X11_count ({ frames := 0, cells := 0, slots := 0, locals := 0 }) [.ref h0, .int x0] [(h0, .inr (11, f0)), (h1, .inr (1, f1)), (h2, .inr (2, f2))] (0) [(h0, .inr (11, f0)), (h1, .inr (1, f1)), (h2, .inr (2, f2))] 0 0 := by
  intro sz
  refine Met.ofW (cc := cX11_count) (maxL := 2) (ret := (some .int)) (by decide) rfl ?_
  intro p e s m args below meth c s₁ B hml hv
  obtain ⟨rfl, hsz, hP, hK, hD0, hN, hX⟩ := hv
  have hx := B.exec
  have hb := B.bytes
  have hr := B.returns
  have hts := atoms_spec (ws := vW_X11_count) B.pre
  have hown : s.vm.findClass RX11 = some m.cls := findClass_of_methodNamed B.named
  have hlocks := B.notSynchronized
  have hin11 : ∀ w ∈ wsX110, w ∈ vW_X11_count := u9_X11_count_wsX110
  have hin1 : ∀ w ∈ wsX10, w ∈ vW_X11_count := u9_X11_count_wsX10
  have hin2 : ∀ w ∈ wsX20, w ∈ vW_X11_count := u9_X11_count_wsX20
  subst hsz
  have hD := hD0.self (sz := s.heap.size)
  have hAE := k_AE hD0 hX
  generalize hAe : va_A [(h0, .inr (11, f0)), (h1, .inr (1, f1)), (h2, .inr (2, f2))] s.heap.size = A at hD hAE ⊢
  have hA : ∀ q : Nat, s.heap.size ≤ q → A q := fun q h => by rw [← hAe]; exact Or.inr h
  have hS : va_S A s.heap s.heap [] := va_S.rf
  have hP : va_P D vwCl [(h0, .inr (11, f0)), (h1, .inr (1, f1)), (h2, .inr (2, f2))] s.heap := hP
  have hl := lv_entry ([.ref h0, .int x0] : List Value) (n := 2) (Nat.le_of_ble_eq_true rfl)
  rw [lg_entry_eq]
  generalize (lg_sl ([.ref h0, .int x0]) ++ List.replicate (2 - (lg_sl ([.ref h0, .int x0])).length) Slot.unset).toArray = ls at hl ⊢
  have hl : lv_has ls 2 [(0, .ref h0), (1, .int x0)] := hl
  refine lv_iload_n hx hb dX11_count_0 rfl (lv_at hl 1 rfl) ?_
  refine lv_iconst (v := 4) hx hb dX11_count_1 (by decide) ?_
  refine lv_icmp_ne (tgt := 10) hx hb dX11_count_2 (by decide) (fun _ => ?_) (fun c9 => absurd c9 e0)
  refine lv_aload_n hx hb dX11_count_10 rfl (lv_at hl 0 rfl) ?_
  refine k_get (D := D) (ci := 11) (v := .ref h1) (N := 15) hx hb hts hin11 hown hK hP 0 rfl rfl (by decide) f9_11_1 (hts (.fieldLink RX11 16 "IntegerHouse" "disk" "LIntegerHouse$Disk;") (o9_X11_count _ (List.mem_of_getElem? (i := 0) rfl))) e1 dX11_count_11 ?_
  refine k_getN (host := "IntegerHouse") (D := D) (ci := 1) (v := .int 0) (N := 9) hx hb hts hin1 hown hK hP 1 rfl rfl (by decide) f9_1_8 (va_Nw.use rfl (hN.1 ("IntegerHouse", 122, "IntegerHouse$Disk", "down", "Z", "IntegerHouse") (List.mem_of_getElem? (i := 3) rfl))) e2 dX11_count_14 ?_
  refine lv_if_eq (tgt := 23) hx hb dX11_count_17 (by decide) (fun _ => ?_) (fun c9 => absurd (by decide) c9)
  refine lv_iload_n hx hb dX11_count_23 rfl (lv_at hl 1 rfl) ?_
  refine lv_tableIn (off := 48) (tgt := 72) hx hb dX11_count_24 (by rw [e3]; decide) (by rw [e3]; decide) (by rw [e3]; rfl) (by decide) ?_
  refine lv_aload_n hx hb dX11_count_72 rfl (lv_at hl 0 rfl) ?_
  refine k_get (D := D) (ci := 11) (v := .ref h2) (N := 15) hx hb hts hin11 hown hK hP 0 rfl rfl (by decide) f9_11_2 (hts (.fieldLink RX11 23 "IntegerHouse" "house" "LIntegerHouse$House;") (o9_X11_count _ (List.mem_of_getElem? (i := 1) rfl))) e4 dX11_count_73 ?_
  refine k_getN (host := "IntegerHouse") (D := D) (ci := 2) (v := .int 0) (N := 16) hx hb hts hin2 hown hK hP 2 rfl rfl (by decide) f9_2_10 (va_Nw.use rfl (hN.1 ("IntegerHouse", 210, "IntegerHouse$House", "variables", "I", "IntegerHouse") (List.mem_of_getElem? (i := 10) rfl))) e5 dX11_count_76 ?_
  exact W.iret (v := 0) hx hb hr (fun t ht hW => ⟨⟨0, (), rfl, rfl, kB_mk ht hW hP hK hD⟩, hS.F ht⟩) hS.2.2 dX11_count_79
set_option maxHeartbeats 400000000 in
set_option maxRecDepth 100000 in
theorem c_X12_count_2 (l : Launch) (E : kE) (D : va_G) (cI cJ cB cZ : ClassId) (h0 : Nat) (x0 : Int32) (f0 : List Value) (e0 : f0[0]? = some (.int 0)) (e1 : ¬ ((x0 : Int32) = 4)) (e2 : f0[5]? = some (.int 0)) (e3 : f0[33]? = some (.int 0)) (e4 : (x0 : Int32) = 0) (e5 : f0[32]? = some (.int 0)) : kI l E D (kT cI cJ cB cZ) yX12_count vW_X12_count ({ frames := 0, cells := 0, slots := 0, locals := 0 }) [.ref h0, .int x0] [(h0, .inr (12, f0))] (0) [(h0, .inr (12, (f0.set 0 (.int 0))))] 0 0 := by
  intro sz
  refine Met.ofW (cc := cX12_count) (maxL := 4) (ret := (some .int)) (by decide) rfl ?_
  intro p e s m args below meth c s₁ B hml hv
  obtain ⟨rfl, hsz, hP, hK, hD0, hN, hX⟩ := hv
  have hx := B.exec
  have hb := B.bytes
  have hr := B.returns
  have hts := atoms_spec (ws := vW_X12_count) B.pre
  have hown : s.vm.findClass RX12 = some m.cls := findClass_of_methodNamed B.named
  have hlocks := B.notSynchronized
  have hin12 : ∀ w ∈ wsX120, w ∈ vW_X12_count := u9_X12_count_wsX120
  subst hsz
  have hD := hD0.self (sz := s.heap.size)
  have hAE := k_AE hD0 hX
  generalize hAe : va_A [(h0, .inr (12, f0))] s.heap.size = A at hD hAE ⊢
  have hA : ∀ q : Nat, s.heap.size ≤ q → A q := fun q h => by rw [← hAe]; exact Or.inr h
  have hS : va_S A s.heap s.heap [] := va_S.rf
  have hP : va_P D vwCl [(h0, .inr (12, f0))] s.heap := hP
  have hl := lv_entry ([.ref h0, .int x0] : List Value) (n := 4) (Nat.le_of_ble_eq_true rfl)
  rw [lg_entry_eq]
  generalize (lg_sl ([.ref h0, .int x0]) ++ List.replicate (4 - (lg_sl ([.ref h0, .int x0])).length) Slot.unset).toArray = ls at hl ⊢
  have hl : lv_has ls 4 [(0, .ref h0), (1, .int x0)] := hl
  refine lv_aload_n hx hb dX12_count_0 rfl (lv_at hl 0 rfl) ?_
  refine lv_iconst (v := 0) hx hb dX12_count_1 (by decide) ?_
  refine k_put (D := D) (ci := 12) (v := .int 0) (ty := .int) (N := 195) hx hb hts hin12 tyX12 tyX12_ok nmX12 hown hK hP hD hS 0 rfl rfl (by decide) f9_12_0 (hts (.fieldLink RX12 3 "IntegerHouseModel" "thrown" "I") (o9_X12_count _ (List.mem_of_getElem? (i := 0) rfl))) rfl pd_2 rfl rfl (k_len e0) dX12_count_2 (fun H locs hP hD hS => ?_)
  have hP : va_P D vwCl [(h0, .inr (12, (f0.set 0 (.int 0))))] H := hP
  have hD : va_D A [(h0, .inr (12, (f0.set 0 (.int 0))))] := hD
  refine lv_iload_n hx hb dX12_count_5 rfl (lv_at hl 1 rfl) ?_
  refine lv_iconst (v := 4) hx hb dX12_count_6 (by decide) ?_
  refine lv_icmp_ne (tgt := 15) hx hb dX12_count_7 (by decide) (fun _ => ?_) (fun c9 => absurd c9 e1)
  refine lv_aload_n hx hb dX12_count_15 rfl (lv_at hl 0 rfl) ?_
  refine k_get (D := D) (ci := 12) (v := .int 0) (N := 195) hx hb hts hin12 hown hK hP 0 rfl rfl (by decide) f9_12_5 (hts (.fieldLink RX12 488 "IntegerHouseModel" "down" "Z") (o9_X12_count _ (List.mem_of_getElem? (i := 1) rfl))) (k_ne (by decide) e2) dX12_count_16 ?_
  refine lv_if_eq (tgt := 25) hx hb dX12_count_19 (by decide) (fun _ => ?_) (fun c9 => absurd (by decide) c9)
  refine lv_iconst (v := 0) hx hb dX12_count_25 (by decide) ?_
  refine lv_istore_n (lv' := [(2, .int 0), (0, .ref h0), (1, .int x0)]) hx hb dX12_count_26 rfl hl (by decide) rfl (fun ls hl => ?_)
  refine lv_iconst (v := 0) hx hb dX12_count_27 (by decide) ?_
  refine lv_istore_n (lv' := [(3, .int 0), (2, .int 0), (0, .ref h0), (1, .int x0)]) hx hb dX12_count_28 rfl hl (by decide) rfl (fun ls hl => ?_)
  refine lv_iload_n hx hb dX12_count_29 rfl (lv_at hl 0 rfl) ?_
  refine lv_aload_n hx hb dX12_count_30 rfl (lv_at hl 2 rfl) ?_
  refine k_get (D := D) (ci := 12) (v := .int 0) (N := 195) hx hb hts hin12 hown hK hP 0 rfl rfl (by decide) f9_12_33 (hts (.fieldLink RX12 818 "IntegerHouseModel" "claims" "I") (o9_X12_count _ (List.mem_of_getElem? (i := 2) rfl))) (k_ne (by decide) e3) dX12_count_31 ?_
  refine lv_icmp_ge (tgt := 60) hx hb dX12_count_34 (by decide) (fun _ => ?_) (fun c9 => absurd (by decide) c9)
  refine lv_iload_n hx hb dX12_count_60 rfl (lv_at hl 3 rfl) ?_
  refine lv_tableIn (off := 47) (tgt := 108) hx hb dX12_count_61 (by rw [e4]; decide) (by rw [e4]; decide) (by rw [e4]; rfl) (by decide) ?_
  refine lv_aload_n hx hb dX12_count_108 rfl (lv_at hl 2 rfl) ?_
  refine k_get (D := D) (ci := 12) (v := .int 0) (N := 195) hx hb hts hin12 hown hK hP 0 rfl rfl (by decide) f9_12_32 (hts (.fieldLink RX12 815 "IntegerHouseModel" "variables" "I") (o9_X12_count _ (List.mem_of_getElem? (i := 4) rfl))) (k_ne (by decide) e5) dX12_count_109 ?_
  exact W.iret (v := 0) hx hb hr (fun t ht hW => ⟨⟨0, (), rfl, rfl, kB_mk ht hW hP hK hD⟩, hS.F ht⟩) hS.2.2 dX12_count_112
set_option maxHeartbeats 400000000 in
set_option maxRecDepth 100000 in
theorem c_J6_bitCount_0f7a4_0 (l : Launch) (E : kE) (D : va_G) (cI cJ cB cZ : ClassId)   : kI l E D (kT cI cJ cB cZ) yJ6_bitCount_0f7a4 vW_J6_bitCount_0f7a4 ({ frames := 0, cells := 0, slots := 0, locals := 0 }) [.int 0] [] (0) [] 0 0 := by
  intro sz
  refine Met.ofW (cc := cJ6_bitCount_0f7a4) (maxL := 1) (ret := (some .int)) (by decide) rfl ?_
  intro p e s m args below meth c s₁ B hml hv
  obtain ⟨rfl, hsz, hP, hK, hD0, hN, hX⟩ := hv
  have hx := B.exec
  have hb := B.bytes
  have hr := B.returns
  have hts := atoms_spec (ws := vW_J6_bitCount_0f7a4) B.pre
  have hown : s.vm.findClass RJ6 = some m.cls := findClass_of_methodNamed B.named
  have hlocks := B.notSynchronized
  subst hsz
  have hD := hD0.self (sz := s.heap.size)
  have hAE := k_AE hD0 hX
  generalize hAe : va_A [] s.heap.size = A at hD hAE ⊢
  have hA : ∀ q : Nat, s.heap.size ≤ q → A q := fun q h => by rw [← hAe]; exact Or.inr h
  have hS : va_S A s.heap s.heap [] := va_S.rf
  have hP : va_P D vwCl [] s.heap := hP
  have hl := lv_entry ([.int 0] : List Value) (n := 1) (Nat.le_of_ble_eq_true rfl)
  rw [lg_entry_eq]
  generalize (lg_sl ([.int 0]) ++ List.replicate (1 - (lg_sl ([.int 0])).length) Slot.unset).toArray = ls at hl ⊢
  have hl : lv_has ls 1 [(0, .int 0)] := hl
  refine lv_iload_n hx hb dJ6_bitCount_0f7a4_0 rfl (lv_at hl 0 rfl) ?_
  refine lv_iload_n hx hb dJ6_bitCount_0f7a4_1 rfl (lv_at hl 0 rfl) ?_
  refine lv_iconst (v := 1) hx hb dJ6_bitCount_0f7a4_2 (by decide) ?_
  refine lv_iushr (v := 0) hx hb dJ6_bitCount_0f7a4_3 (by decide) ?_
  refine lv_ldcw (own := RJ6) (index := 265) (v := 1431655765) hx hb hown (hts (.constant RJ6 265 (1431655765)) (o9_J6_bitCount_0f7a4 _ (List.mem_of_getElem? (i := 0) rfl))) dJ6_bitCount_0f7a4_4 ?_
  refine lv_iand hx hb dJ6_bitCount_0f7a4_7 ?_
  refine k_topi (y := 0) (by decide) ?_
  refine lv_isub hx hb dJ6_bitCount_0f7a4_8 ?_
  refine k_topi (y := 0) (by decide) ?_
  refine lv_istore_n (lv' := [(0, .int 0)]) hx hb dJ6_bitCount_0f7a4_9 rfl hl (by decide) rfl (fun ls hl => ?_)
  refine lv_iload_n hx hb dJ6_bitCount_0f7a4_10 rfl (lv_at hl 0 rfl) ?_
  refine lv_ldcw (own := RJ6) (index := 266) (v := 858993459) hx hb hown (hts (.constant RJ6 266 (858993459)) (o9_J6_bitCount_0f7a4 _ (List.mem_of_getElem? (i := 1) rfl))) dJ6_bitCount_0f7a4_11 ?_
  refine lv_iand hx hb dJ6_bitCount_0f7a4_14 ?_
  refine k_topi (y := 0) (by decide) ?_
  refine lv_iload_n hx hb dJ6_bitCount_0f7a4_15 rfl (lv_at hl 0 rfl) ?_
  refine lv_iconst (v := 2) hx hb dJ6_bitCount_0f7a4_16 (by decide) ?_
  refine lv_iushr (v := 0) hx hb dJ6_bitCount_0f7a4_17 (by decide) ?_
  refine lv_ldcw (own := RJ6) (index := 266) (v := 858993459) hx hb hown (hts (.constant RJ6 266 (858993459)) (o9_J6_bitCount_0f7a4 _ (List.mem_of_getElem? (i := 1) rfl))) dJ6_bitCount_0f7a4_18 ?_
  refine lv_iand hx hb dJ6_bitCount_0f7a4_21 ?_
  refine k_topi (y := 0) (by decide) ?_
  refine lv_iadd hx hb dJ6_bitCount_0f7a4_22 ?_
  refine k_topi (y := 0) (by decide) ?_
  refine lv_istore_n (lv' := [(0, .int 0)]) hx hb dJ6_bitCount_0f7a4_23 rfl hl (by decide) rfl (fun ls hl => ?_)
  refine lv_iload_n hx hb dJ6_bitCount_0f7a4_24 rfl (lv_at hl 0 rfl) ?_
  refine lv_iload_n hx hb dJ6_bitCount_0f7a4_25 rfl (lv_at hl 0 rfl) ?_
  refine lv_iconst (v := 4) hx hb dJ6_bitCount_0f7a4_26 (by decide) ?_
  refine lv_iushr (v := 0) hx hb dJ6_bitCount_0f7a4_27 (by decide) ?_
  refine lv_iadd hx hb dJ6_bitCount_0f7a4_28 ?_
  refine k_topi (y := 0) (by decide) ?_
  refine lv_ldcw (own := RJ6) (index := 267) (v := 252645135) hx hb hown (hts (.constant RJ6 267 (252645135)) (o9_J6_bitCount_0f7a4 _ (List.mem_of_getElem? (i := 2) rfl))) dJ6_bitCount_0f7a4_29 ?_
  refine lv_iand hx hb dJ6_bitCount_0f7a4_32 ?_
  refine k_topi (y := 0) (by decide) ?_
  refine lv_istore_n (lv' := [(0, .int 0)]) hx hb dJ6_bitCount_0f7a4_33 rfl hl (by decide) rfl (fun ls hl => ?_)
  refine lv_iload_n hx hb dJ6_bitCount_0f7a4_34 rfl (lv_at hl 0 rfl) ?_
  refine lv_iload_n hx hb dJ6_bitCount_0f7a4_35 rfl (lv_at hl 0 rfl) ?_
  refine lv_bipush (v := 8) hx hb dJ6_bitCount_0f7a4_36 (by decide) ?_
  refine lv_iushr (v := 0) hx hb dJ6_bitCount_0f7a4_38 (by decide) ?_
  refine lv_iadd hx hb dJ6_bitCount_0f7a4_39 ?_
  refine k_topi (y := 0) (by decide) ?_
  refine lv_istore_n (lv' := [(0, .int 0)]) hx hb dJ6_bitCount_0f7a4_40 rfl hl (by decide) rfl (fun ls hl => ?_)
  refine lv_iload_n hx hb dJ6_bitCount_0f7a4_41 rfl (lv_at hl 0 rfl) ?_
  refine lv_iload_n hx hb dJ6_bitCount_0f7a4_42 rfl (lv_at hl 0 rfl) ?_
  refine lv_bipush (v := 16) hx hb dJ6_bitCount_0f7a4_43 (by decide) ?_
  refine lv_iushr (v := 0) hx hb dJ6_bitCount_0f7a4_45 (by decide) ?_
  refine lv_iadd hx hb dJ6_bitCount_0f7a4_46 ?_
  refine k_topi (y := 0) (by decide) ?_
  refine lv_istore_n (lv' := [(0, .int 0)]) hx hb dJ6_bitCount_0f7a4_47 rfl hl (by decide) rfl (fun ls hl => ?_)
  refine lv_iload_n hx hb dJ6_bitCount_0f7a4_48 rfl (lv_at hl 0 rfl) ?_
  refine lv_bipush (v := 63) hx hb dJ6_bitCount_0f7a4_49 (by decide) ?_
  refine lv_iand hx hb dJ6_bitCount_0f7a4_51 ?_
  refine k_topi (y := 0) (by decide) ?_
  exact W.iret (v := 0) hx hb hr (fun t ht hW => ⟨⟨0, (), rfl, rfl, kB_mk ht hW hP hK hD⟩, hS.F ht⟩) hS.2.2 dJ6_bitCount_0f7a4_52
set_option maxHeartbeats 400000000 in
set_option maxRecDepth 100000 in
theorem c_X11_count_3 (l : Launch) (E : kE) (D : va_G) (cI cJ cB cZ : ClassId) (h0 : Nat) (x0 : Int32) (f0 : List Value) (h1 : Nat) (f1 : List Value) (h2 : Nat) (f2 : List Value) (e0 : ¬ ((x0 : Int32) = 4)) (e1 : f0[1]? = some (.ref h1)) (e2 : f1[8]? = some (.int 0)) (e3 : (x0 : Int32) = 2) (e4 : f0[2]? = some (.ref h2)) (e5 : f2[13]? = some (.int 0)) : kI l E D (kT cI cJ cB cZ) yX11_count vW_X11_count ({ frames := 1, cells := 0, slots := 0, locals := 20 }) [.ref h0, .int x0] [(h0, .inr (11, f0)), (h1, .inr (1, f1)), (h2, .inr (2, f2))] (0) [(h0, .inr (11, f0)), (h1, .inr (1, f1)), (h2, .inr (2, f2))] 0 0 := by
  intro sz
  refine Met.ofW (cc := cX11_count) (maxL := 2) (ret := (some .int)) (by decide) rfl ?_
  intro p e s m args below meth c s₁ B hml hv
  obtain ⟨rfl, hsz, hP, hK, hD0, hN, hX⟩ := hv
  have hx := B.exec
  have hb := B.bytes
  have hr := B.returns
  have hts := atoms_spec (ws := vW_X11_count) B.pre
  have hown : s.vm.findClass RX11 = some m.cls := findClass_of_methodNamed B.named
  have hlocks := B.notSynchronized
  have hin11 : ∀ w ∈ wsX110, w ∈ vW_X11_count := u9_X11_count_wsX110
  have hin1 : ∀ w ∈ wsX10, w ∈ vW_X11_count := u9_X11_count_wsX10
  have hin2 : ∀ w ∈ wsX20, w ∈ vW_X11_count := u9_X11_count_wsX20
  subst hsz
  have hD := hD0.self (sz := s.heap.size)
  have hAE := k_AE hD0 hX
  generalize hAe : va_A [(h0, .inr (11, f0)), (h1, .inr (1, f1)), (h2, .inr (2, f2))] s.heap.size = A at hD hAE ⊢
  have hA : ∀ q : Nat, s.heap.size ≤ q → A q := fun q h => by rw [← hAe]; exact Or.inr h
  have hS : va_S A s.heap s.heap [] := va_S.rf
  have hP : va_P D vwCl [(h0, .inr (11, f0)), (h1, .inr (1, f1)), (h2, .inr (2, f2))] s.heap := hP
  have hl := lv_entry ([.ref h0, .int x0] : List Value) (n := 2) (Nat.le_of_ble_eq_true rfl)
  rw [lg_entry_eq]
  generalize (lg_sl ([.ref h0, .int x0]) ++ List.replicate (2 - (lg_sl ([.ref h0, .int x0])).length) Slot.unset).toArray = ls at hl ⊢
  have hl : lv_has ls 2 [(0, .ref h0), (1, .int x0)] := hl
  refine lv_iload_n hx hb dX11_count_0 rfl (lv_at hl 1 rfl) ?_
  refine lv_iconst (v := 4) hx hb dX11_count_1 (by decide) ?_
  refine lv_icmp_ne (tgt := 10) hx hb dX11_count_2 (by decide) (fun _ => ?_) (fun c9 => absurd c9 e0)
  refine lv_aload_n hx hb dX11_count_10 rfl (lv_at hl 0 rfl) ?_
  refine k_get (D := D) (ci := 11) (v := .ref h1) (N := 15) hx hb hts hin11 hown hK hP 0 rfl rfl (by decide) f9_11_1 (hts (.fieldLink RX11 16 "IntegerHouse" "disk" "LIntegerHouse$Disk;") (o9_X11_count _ (List.mem_of_getElem? (i := 0) rfl))) e1 dX11_count_11 ?_
  refine k_getN (host := "IntegerHouse") (D := D) (ci := 1) (v := .int 0) (N := 9) hx hb hts hin1 hown hK hP 1 rfl rfl (by decide) f9_1_8 (va_Nw.use rfl (hN.1 ("IntegerHouse", 122, "IntegerHouse$Disk", "down", "Z", "IntegerHouse") (List.mem_of_getElem? (i := 3) rfl))) e2 dX11_count_14 ?_
  refine lv_if_eq (tgt := 23) hx hb dX11_count_17 (by decide) (fun _ => ?_) (fun c9 => absurd (by decide) c9)
  refine lv_iload_n hx hb dX11_count_23 rfl (lv_at hl 1 rfl) ?_
  refine lv_tableIn (off := 64) (tgt := 88) hx hb dX11_count_24 (by rw [e3]; decide) (by rw [e3]; decide) (by rw [e3]; rfl) (by decide) ?_
  refine lv_aload_n hx hb dX11_count_88 rfl (lv_at hl 0 rfl) ?_
  refine k_get (D := D) (ci := 11) (v := .ref h2) (N := 15) hx hb hts hin11 hown hK hP 0 rfl rfl (by decide) f9_11_2 (hts (.fieldLink RX11 23 "IntegerHouse" "house" "LIntegerHouse$House;") (o9_X11_count _ (List.mem_of_getElem? (i := 1) rfl))) e4 dX11_count_89 ?_
  refine k_getN (host := "IntegerHouse") (D := D) (ci := 2) (v := .int 0) (N := 16) hx hb hts hin2 hown hK hP 2 rfl rfl (by decide) f9_2_13 (va_Nw.use rfl (hN.1 ("IntegerHouse", 213, "IntegerHouse$House", "on", "I", "IntegerHouse") (List.mem_of_getElem? (i := 20) rfl))) e5 dX11_count_92 ?_
  refine k_cSi (As := [.int 0]) (rest := []) (wc := []) (wr := [(h0, .inr (11, f0)), (h1, .inr (1, f1)), (h2, .inr (2, f2))]) (w1 := []) ⟨hx, hb, hml, hown, hts⟩ hN hX hAE hK hP hD hS hA [] [0, 1, 2] rfl rfl (by decide +kernel) (by decide +kernel) (by decide +kernel) (c_J6_bitCount_0f7a4_0 l E D cI cJ cB cZ  ) (va_cwS 1 hts g9_X11_count_J6_bitCount_0f7a4_216 rfl rfl rfl (by decide +kernel) ⟨Nat.le_of_ble_eq_true rfl, Nat.le_of_ble_eq_true rfl⟩) rfl hl.1 (Nat.le_of_ble_eq_true rfl) dX11_count_95 ⟨Nat.le_of_ble_eq_true rfl, Nat.le_of_ble_eq_true rfl⟩ (fun H locs hP hD hS => ?_)
  have hP : va_P D vwCl [(h0, .inr (11, f0)), (h1, .inr (1, f1)), (h2, .inr (2, f2))] H := hP
  have hD : va_D A [(h0, .inr (11, f0)), (h1, .inr (1, f1)), (h2, .inr (2, f2))] := hD
  exact W.iret (v := 0) hx hb hr (fun t ht hW => ⟨⟨0, (), rfl, rfl, kB_mk ht hW hP hK hD⟩, hS.F ht⟩) hS.2.2 dX11_count_98
set_option maxHeartbeats 400000000 in
set_option maxRecDepth 100000 in
theorem c_X12_count_3 (l : Launch) (E : kE) (D : va_G) (cI cJ cB cZ : ClassId) (h0 : Nat) (x0 : Int32) (f0 : List Value) (e0 : f0[0]? = some (.int 0)) (e1 : ¬ ((x0 : Int32) = 4)) (e2 : f0[5]? = some (.int 0)) (e3 : f0[33]? = some (.int 0)) (e4 : (x0 : Int32) = 2) : kI l E D (kT cI cJ cB cZ) yX12_count vW_X12_count ({ frames := 0, cells := 0, slots := 0, locals := 0 }) [.ref h0, .int x0] [(h0, .inr (12, f0))] (0) [(h0, .inr (12, (f0.set 0 (.int 0))))] 0 0 := by
  intro sz
  refine Met.ofW (cc := cX12_count) (maxL := 4) (ret := (some .int)) (by decide) rfl ?_
  intro p e s m args below meth c s₁ B hml hv
  obtain ⟨rfl, hsz, hP, hK, hD0, hN, hX⟩ := hv
  have hx := B.exec
  have hb := B.bytes
  have hr := B.returns
  have hts := atoms_spec (ws := vW_X12_count) B.pre
  have hown : s.vm.findClass RX12 = some m.cls := findClass_of_methodNamed B.named
  have hlocks := B.notSynchronized
  have hin12 : ∀ w ∈ wsX120, w ∈ vW_X12_count := u9_X12_count_wsX120
  subst hsz
  have hD := hD0.self (sz := s.heap.size)
  have hAE := k_AE hD0 hX
  generalize hAe : va_A [(h0, .inr (12, f0))] s.heap.size = A at hD hAE ⊢
  have hA : ∀ q : Nat, s.heap.size ≤ q → A q := fun q h => by rw [← hAe]; exact Or.inr h
  have hS : va_S A s.heap s.heap [] := va_S.rf
  have hP : va_P D vwCl [(h0, .inr (12, f0))] s.heap := hP
  have hl := lv_entry ([.ref h0, .int x0] : List Value) (n := 4) (Nat.le_of_ble_eq_true rfl)
  rw [lg_entry_eq]
  generalize (lg_sl ([.ref h0, .int x0]) ++ List.replicate (4 - (lg_sl ([.ref h0, .int x0])).length) Slot.unset).toArray = ls at hl ⊢
  have hl : lv_has ls 4 [(0, .ref h0), (1, .int x0)] := hl
  refine lv_aload_n hx hb dX12_count_0 rfl (lv_at hl 0 rfl) ?_
  refine lv_iconst (v := 0) hx hb dX12_count_1 (by decide) ?_
  refine k_put (D := D) (ci := 12) (v := .int 0) (ty := .int) (N := 195) hx hb hts hin12 tyX12 tyX12_ok nmX12 hown hK hP hD hS 0 rfl rfl (by decide) f9_12_0 (hts (.fieldLink RX12 3 "IntegerHouseModel" "thrown" "I") (o9_X12_count _ (List.mem_of_getElem? (i := 0) rfl))) rfl pd_2 rfl rfl (k_len e0) dX12_count_2 (fun H locs hP hD hS => ?_)
  have hP : va_P D vwCl [(h0, .inr (12, (f0.set 0 (.int 0))))] H := hP
  have hD : va_D A [(h0, .inr (12, (f0.set 0 (.int 0))))] := hD
  refine lv_iload_n hx hb dX12_count_5 rfl (lv_at hl 1 rfl) ?_
  refine lv_iconst (v := 4) hx hb dX12_count_6 (by decide) ?_
  refine lv_icmp_ne (tgt := 15) hx hb dX12_count_7 (by decide) (fun _ => ?_) (fun c9 => absurd c9 e1)
  refine lv_aload_n hx hb dX12_count_15 rfl (lv_at hl 0 rfl) ?_
  refine k_get (D := D) (ci := 12) (v := .int 0) (N := 195) hx hb hts hin12 hown hK hP 0 rfl rfl (by decide) f9_12_5 (hts (.fieldLink RX12 488 "IntegerHouseModel" "down" "Z") (o9_X12_count _ (List.mem_of_getElem? (i := 1) rfl))) (k_ne (by decide) e2) dX12_count_16 ?_
  refine lv_if_eq (tgt := 25) hx hb dX12_count_19 (by decide) (fun _ => ?_) (fun c9 => absurd (by decide) c9)
  refine lv_iconst (v := 0) hx hb dX12_count_25 (by decide) ?_
  refine lv_istore_n (lv' := [(2, .int 0), (0, .ref h0), (1, .int x0)]) hx hb dX12_count_26 rfl hl (by decide) rfl (fun ls hl => ?_)
  refine lv_iconst (v := 0) hx hb dX12_count_27 (by decide) ?_
  refine lv_istore_n (lv' := [(3, .int 0), (2, .int 0), (0, .ref h0), (1, .int x0)]) hx hb dX12_count_28 rfl hl (by decide) rfl (fun ls hl => ?_)
  refine lv_iload_n hx hb dX12_count_29 rfl (lv_at hl 0 rfl) ?_
  refine lv_aload_n hx hb dX12_count_30 rfl (lv_at hl 2 rfl) ?_
  refine k_get (D := D) (ci := 12) (v := .int 0) (N := 195) hx hb hts hin12 hown hK hP 0 rfl rfl (by decide) f9_12_33 (hts (.fieldLink RX12 818 "IntegerHouseModel" "claims" "I") (o9_X12_count _ (List.mem_of_getElem? (i := 2) rfl))) (k_ne (by decide) e3) dX12_count_31 ?_
  refine lv_icmp_ge (tgt := 60) hx hb dX12_count_34 (by decide) (fun _ => ?_) (fun c9 => absurd (by decide) c9)
  refine lv_iload_n hx hb dX12_count_60 rfl (lv_at hl 3 rfl) ?_
  refine lv_tableIn (off := 57) (tgt := 118) hx hb dX12_count_61 (by rw [e4]; decide) (by rw [e4]; decide) (by rw [e4]; rfl) (by decide) ?_
  refine lv_iload_n hx hb dX12_count_118 rfl (lv_at hl 1 rfl) ?_
  exact W.iret (v := 0) hx hb hr (fun t ht hW => ⟨⟨0, (), rfl, rfl, kB_mk ht hW hP hK hD⟩, hS.F ht⟩) hS.2.2 dX12_count_119
set_option maxHeartbeats 400000000 in
set_option maxRecDepth 100000 in
theorem c_X11_count_4 (l : Launch) (E : kE) (D : va_G) (cI cJ cB cZ : ClassId) (h0 : Nat) (x0 : Int32) (f0 : List Value) (h1 : Nat) (f1 : List Value) (h2 : Nat) (f2 : List Value) (e0 : ¬ ((x0 : Int32) = 4)) (e1 : f0[1]? = some (.ref h1)) (e2 : f1[8]? = some (.int 0)) (e3 : (x0 : Int32) = 3) (e4 : f0[2]? = some (.ref h2)) (e5 : f2[14]? = some (.int 0)) : kI l E D (kT cI cJ cB cZ) yX11_count vW_X11_count ({ frames := 0, cells := 0, slots := 0, locals := 0 }) [.ref h0, .int x0] [(h0, .inr (11, f0)), (h1, .inr (1, f1)), (h2, .inr (2, f2))] (0) [(h0, .inr (11, f0)), (h1, .inr (1, f1)), (h2, .inr (2, f2))] 0 0 := by
  intro sz
  refine Met.ofW (cc := cX11_count) (maxL := 2) (ret := (some .int)) (by decide) rfl ?_
  intro p e s m args below meth c s₁ B hml hv
  obtain ⟨rfl, hsz, hP, hK, hD0, hN, hX⟩ := hv
  have hx := B.exec
  have hb := B.bytes
  have hr := B.returns
  have hts := atoms_spec (ws := vW_X11_count) B.pre
  have hown : s.vm.findClass RX11 = some m.cls := findClass_of_methodNamed B.named
  have hlocks := B.notSynchronized
  have hin11 : ∀ w ∈ wsX110, w ∈ vW_X11_count := u9_X11_count_wsX110
  have hin1 : ∀ w ∈ wsX10, w ∈ vW_X11_count := u9_X11_count_wsX10
  have hin2 : ∀ w ∈ wsX20, w ∈ vW_X11_count := u9_X11_count_wsX20
  subst hsz
  have hD := hD0.self (sz := s.heap.size)
  have hAE := k_AE hD0 hX
  generalize hAe : va_A [(h0, .inr (11, f0)), (h1, .inr (1, f1)), (h2, .inr (2, f2))] s.heap.size = A at hD hAE ⊢
  have hA : ∀ q : Nat, s.heap.size ≤ q → A q := fun q h => by rw [← hAe]; exact Or.inr h
  have hS : va_S A s.heap s.heap [] := va_S.rf
  have hP : va_P D vwCl [(h0, .inr (11, f0)), (h1, .inr (1, f1)), (h2, .inr (2, f2))] s.heap := hP
  have hl := lv_entry ([.ref h0, .int x0] : List Value) (n := 2) (Nat.le_of_ble_eq_true rfl)
  rw [lg_entry_eq]
  generalize (lg_sl ([.ref h0, .int x0]) ++ List.replicate (2 - (lg_sl ([.ref h0, .int x0])).length) Slot.unset).toArray = ls at hl ⊢
  have hl : lv_has ls 2 [(0, .ref h0), (1, .int x0)] := hl
  refine lv_iload_n hx hb dX11_count_0 rfl (lv_at hl 1 rfl) ?_
  refine lv_iconst (v := 4) hx hb dX11_count_1 (by decide) ?_
  refine lv_icmp_ne (tgt := 10) hx hb dX11_count_2 (by decide) (fun _ => ?_) (fun c9 => absurd c9 e0)
  refine lv_aload_n hx hb dX11_count_10 rfl (lv_at hl 0 rfl) ?_
  refine k_get (D := D) (ci := 11) (v := .ref h1) (N := 15) hx hb hts hin11 hown hK hP 0 rfl rfl (by decide) f9_11_1 (hts (.fieldLink RX11 16 "IntegerHouse" "disk" "LIntegerHouse$Disk;") (o9_X11_count _ (List.mem_of_getElem? (i := 0) rfl))) e1 dX11_count_11 ?_
  refine k_getN (host := "IntegerHouse") (D := D) (ci := 1) (v := .int 0) (N := 9) hx hb hts hin1 hown hK hP 1 rfl rfl (by decide) f9_1_8 (va_Nw.use rfl (hN.1 ("IntegerHouse", 122, "IntegerHouse$Disk", "down", "Z", "IntegerHouse") (List.mem_of_getElem? (i := 3) rfl))) e2 dX11_count_14 ?_
  refine lv_if_eq (tgt := 23) hx hb dX11_count_17 (by decide) (fun _ => ?_) (fun c9 => absurd (by decide) c9)
  refine lv_iload_n hx hb dX11_count_23 rfl (lv_at hl 1 rfl) ?_
  refine lv_tableIn (off := 75) (tgt := 99) hx hb dX11_count_24 (by rw [e3]; decide) (by rw [e3]; decide) (by rw [e3]; rfl) (by decide) ?_
  refine lv_aload_n hx hb dX11_count_99 rfl (lv_at hl 0 rfl) ?_
  refine k_get (D := D) (ci := 11) (v := .ref h2) (N := 15) hx hb hts hin11 hown hK hP 0 rfl rfl (by decide) f9_11_2 (hts (.fieldLink RX11 23 "IntegerHouse" "house" "LIntegerHouse$House;") (o9_X11_count _ (List.mem_of_getElem? (i := 1) rfl))) e4 dX11_count_100 ?_
  refine k_getN (host := "IntegerHouse") (D := D) (ci := 2) (v := .int 0) (N := 16) hx hb hts hin2 hown hK hP 2 rfl rfl (by decide) f9_2_14 (va_Nw.use rfl (hN.1 ("IntegerHouse", 221, "IntegerHouse$House", "layers", "I", "IntegerHouse") (List.mem_of_getElem? (i := 22) rfl))) e5 dX11_count_103 ?_
  exact W.iret (v := 0) hx hb hr (fun t ht hW => ⟨⟨0, (), rfl, rfl, kB_mk ht hW hP hK hD⟩, hS.F ht⟩) hS.2.2 dX11_count_106
set_option maxHeartbeats 400000000 in
set_option maxRecDepth 100000 in
theorem c_X12_count_4 (l : Launch) (E : kE) (D : va_G) (cI cJ cB cZ : ClassId) (h0 : Nat) (x0 : Int32) (f0 : List Value) (e0 : f0[0]? = some (.int 0)) (e1 : ¬ ((x0 : Int32) = 4)) (e2 : f0[5]? = some (.int 0)) (e3 : f0[33]? = some (.int 0)) (e4 : (x0 : Int32) = 3) (e5 : f0[105]? = some (.int 0)) : kI l E D (kT cI cJ cB cZ) yX12_count vW_X12_count ({ frames := 0, cells := 0, slots := 0, locals := 0 }) [.ref h0, .int x0] [(h0, .inr (12, f0))] (0) [(h0, .inr (12, (f0.set 0 (.int 0))))] 0 0 := by
  intro sz
  refine Met.ofW (cc := cX12_count) (maxL := 4) (ret := (some .int)) (by decide) rfl ?_
  intro p e s m args below meth c s₁ B hml hv
  obtain ⟨rfl, hsz, hP, hK, hD0, hN, hX⟩ := hv
  have hx := B.exec
  have hb := B.bytes
  have hr := B.returns
  have hts := atoms_spec (ws := vW_X12_count) B.pre
  have hown : s.vm.findClass RX12 = some m.cls := findClass_of_methodNamed B.named
  have hlocks := B.notSynchronized
  have hin12 : ∀ w ∈ wsX120, w ∈ vW_X12_count := u9_X12_count_wsX120
  subst hsz
  have hD := hD0.self (sz := s.heap.size)
  have hAE := k_AE hD0 hX
  generalize hAe : va_A [(h0, .inr (12, f0))] s.heap.size = A at hD hAE ⊢
  have hA : ∀ q : Nat, s.heap.size ≤ q → A q := fun q h => by rw [← hAe]; exact Or.inr h
  have hS : va_S A s.heap s.heap [] := va_S.rf
  have hP : va_P D vwCl [(h0, .inr (12, f0))] s.heap := hP
  have hl := lv_entry ([.ref h0, .int x0] : List Value) (n := 4) (Nat.le_of_ble_eq_true rfl)
  rw [lg_entry_eq]
  generalize (lg_sl ([.ref h0, .int x0]) ++ List.replicate (4 - (lg_sl ([.ref h0, .int x0])).length) Slot.unset).toArray = ls at hl ⊢
  have hl : lv_has ls 4 [(0, .ref h0), (1, .int x0)] := hl
  refine lv_aload_n hx hb dX12_count_0 rfl (lv_at hl 0 rfl) ?_
  refine lv_iconst (v := 0) hx hb dX12_count_1 (by decide) ?_
  refine k_put (D := D) (ci := 12) (v := .int 0) (ty := .int) (N := 195) hx hb hts hin12 tyX12 tyX12_ok nmX12 hown hK hP hD hS 0 rfl rfl (by decide) f9_12_0 (hts (.fieldLink RX12 3 "IntegerHouseModel" "thrown" "I") (o9_X12_count _ (List.mem_of_getElem? (i := 0) rfl))) rfl pd_2 rfl rfl (k_len e0) dX12_count_2 (fun H locs hP hD hS => ?_)
  have hP : va_P D vwCl [(h0, .inr (12, (f0.set 0 (.int 0))))] H := hP
  have hD : va_D A [(h0, .inr (12, (f0.set 0 (.int 0))))] := hD
  refine lv_iload_n hx hb dX12_count_5 rfl (lv_at hl 1 rfl) ?_
  refine lv_iconst (v := 4) hx hb dX12_count_6 (by decide) ?_
  refine lv_icmp_ne (tgt := 15) hx hb dX12_count_7 (by decide) (fun _ => ?_) (fun c9 => absurd c9 e1)
  refine lv_aload_n hx hb dX12_count_15 rfl (lv_at hl 0 rfl) ?_
  refine k_get (D := D) (ci := 12) (v := .int 0) (N := 195) hx hb hts hin12 hown hK hP 0 rfl rfl (by decide) f9_12_5 (hts (.fieldLink RX12 488 "IntegerHouseModel" "down" "Z") (o9_X12_count _ (List.mem_of_getElem? (i := 1) rfl))) (k_ne (by decide) e2) dX12_count_16 ?_
  refine lv_if_eq (tgt := 25) hx hb dX12_count_19 (by decide) (fun _ => ?_) (fun c9 => absurd (by decide) c9)
  refine lv_iconst (v := 0) hx hb dX12_count_25 (by decide) ?_
  refine lv_istore_n (lv' := [(2, .int 0), (0, .ref h0), (1, .int x0)]) hx hb dX12_count_26 rfl hl (by decide) rfl (fun ls hl => ?_)
  refine lv_iconst (v := 0) hx hb dX12_count_27 (by decide) ?_
  refine lv_istore_n (lv' := [(3, .int 0), (2, .int 0), (0, .ref h0), (1, .int x0)]) hx hb dX12_count_28 rfl hl (by decide) rfl (fun ls hl => ?_)
  refine lv_iload_n hx hb dX12_count_29 rfl (lv_at hl 0 rfl) ?_
  refine lv_aload_n hx hb dX12_count_30 rfl (lv_at hl 2 rfl) ?_
  refine k_get (D := D) (ci := 12) (v := .int 0) (N := 195) hx hb hts hin12 hown hK hP 0 rfl rfl (by decide) f9_12_33 (hts (.fieldLink RX12 818 "IntegerHouseModel" "claims" "I") (o9_X12_count _ (List.mem_of_getElem? (i := 2) rfl))) (k_ne (by decide) e3) dX12_count_31 ?_
  refine lv_icmp_ge (tgt := 60) hx hb dX12_count_34 (by decide) (fun _ => ?_) (fun c9 => absurd (by decide) c9)
  refine lv_iload_n hx hb dX12_count_60 rfl (lv_at hl 3 rfl) ?_
  refine lv_tableIn (off := 59) (tgt := 120) hx hb dX12_count_61 (by rw [e4]; decide) (by rw [e4]; decide) (by rw [e4]; rfl) (by decide) ?_
  refine lv_aload_n hx hb dX12_count_120 rfl (lv_at hl 2 rfl) ?_
  refine k_get (D := D) (ci := 12) (v := .int 0) (N := 195) hx hb hts hin12 hown hK hP 0 rfl rfl (by decide) f9_12_105 (hts (.fieldLink RX12 821 "IntegerHouseModel" "layers" "I") (o9_X12_count _ (List.mem_of_getElem? (i := 5) rfl))) (k_ne (by decide) e5) dX12_count_121 ?_
  exact W.iret (v := 0) hx hb hr (fun t ht hW => ⟨⟨0, (), rfl, rfl, kB_mk ht hW hP hK hD⟩, hS.F ht⟩) hS.2.2 dX12_count_124
set_option maxHeartbeats 400000000 in
set_option maxRecDepth 100000 in
theorem c_X11_count_5 (l : Launch) (E : kE) (D : va_G) (cI cJ cB cZ : ClassId) (h0 : Nat) (x0 : Int32) (f0 : List Value) (h1 : Nat) (f1 : List Value) (e0 : ¬ ((x0 : Int32) = 4)) (e1 : f0[1]? = some (.ref h1)) (e2 : f1[8]? = some (.int 0)) (e3 : (x0 : Int32) = 5) (e4 : f1[4]? = some (.int 0)) : kI l E D (kT cI cJ cB cZ) yX11_count vW_X11_count ({ frames := 0, cells := 0, slots := 0, locals := 0 }) [.ref h0, .int x0] [(h0, .inr (11, f0)), (h1, .inr (1, f1))] (0) [(h0, .inr (11, f0)), (h1, .inr (1, f1))] 0 0 := by
  intro sz
  refine Met.ofW (cc := cX11_count) (maxL := 2) (ret := (some .int)) (by decide) rfl ?_
  intro p e s m args below meth c s₁ B hml hv
  obtain ⟨rfl, hsz, hP, hK, hD0, hN, hX⟩ := hv
  have hx := B.exec
  have hb := B.bytes
  have hr := B.returns
  have hts := atoms_spec (ws := vW_X11_count) B.pre
  have hown : s.vm.findClass RX11 = some m.cls := findClass_of_methodNamed B.named
  have hlocks := B.notSynchronized
  have hin11 : ∀ w ∈ wsX110, w ∈ vW_X11_count := u9_X11_count_wsX110
  have hin1 : ∀ w ∈ wsX10, w ∈ vW_X11_count := u9_X11_count_wsX10
  subst hsz
  have hD := hD0.self (sz := s.heap.size)
  have hAE := k_AE hD0 hX
  generalize hAe : va_A [(h0, .inr (11, f0)), (h1, .inr (1, f1))] s.heap.size = A at hD hAE ⊢
  have hA : ∀ q : Nat, s.heap.size ≤ q → A q := fun q h => by rw [← hAe]; exact Or.inr h
  have hS : va_S A s.heap s.heap [] := va_S.rf
  have hP : va_P D vwCl [(h0, .inr (11, f0)), (h1, .inr (1, f1))] s.heap := hP
  have hl := lv_entry ([.ref h0, .int x0] : List Value) (n := 2) (Nat.le_of_ble_eq_true rfl)
  rw [lg_entry_eq]
  generalize (lg_sl ([.ref h0, .int x0]) ++ List.replicate (2 - (lg_sl ([.ref h0, .int x0])).length) Slot.unset).toArray = ls at hl ⊢
  have hl : lv_has ls 2 [(0, .ref h0), (1, .int x0)] := hl
  refine lv_iload_n hx hb dX11_count_0 rfl (lv_at hl 1 rfl) ?_
  refine lv_iconst (v := 4) hx hb dX11_count_1 (by decide) ?_
  refine lv_icmp_ne (tgt := 10) hx hb dX11_count_2 (by decide) (fun _ => ?_) (fun c9 => absurd c9 e0)
  refine lv_aload_n hx hb dX11_count_10 rfl (lv_at hl 0 rfl) ?_
  refine k_get (D := D) (ci := 11) (v := .ref h1) (N := 15) hx hb hts hin11 hown hK hP 0 rfl rfl (by decide) f9_11_1 (hts (.fieldLink RX11 16 "IntegerHouse" "disk" "LIntegerHouse$Disk;") (o9_X11_count _ (List.mem_of_getElem? (i := 0) rfl))) e1 dX11_count_11 ?_
  refine k_getN (host := "IntegerHouse") (D := D) (ci := 1) (v := .int 0) (N := 9) hx hb hts hin1 hown hK hP 1 rfl rfl (by decide) f9_1_8 (va_Nw.use rfl (hN.1 ("IntegerHouse", 122, "IntegerHouse$Disk", "down", "Z", "IntegerHouse") (List.mem_of_getElem? (i := 3) rfl))) e2 dX11_count_14 ?_
  refine lv_if_eq (tgt := 23) hx hb dX11_count_17 (by decide) (fun _ => ?_) (fun c9 => absurd (by decide) c9)
  refine lv_iload_n hx hb dX11_count_23 rfl (lv_at hl 1 rfl) ?_
  refine lv_tableIn (off := 83) (tgt := 107) hx hb dX11_count_24 (by rw [e3]; decide) (by rw [e3]; decide) (by rw [e3]; rfl) (by decide) ?_
  refine lv_aload_n hx hb dX11_count_107 rfl (lv_at hl 0 rfl) ?_
  refine k_get (D := D) (ci := 11) (v := .ref h1) (N := 15) hx hb hts hin11 hown hK hP 0 rfl rfl (by decide) f9_11_1 (hts (.fieldLink RX11 16 "IntegerHouse" "disk" "LIntegerHouse$Disk;") (o9_X11_count _ (List.mem_of_getElem? (i := 0) rfl))) e1 dX11_count_108 ?_
  refine k_getN (host := "IntegerHouse") (D := D) (ci := 1) (v := .int 0) (N := 9) hx hb hts hin1 hown hK hP 1 rfl rfl (by decide) f9_1_4 (va_Nw.use rfl (hN.1 ("IntegerHouse", 224, "IntegerHouse$Disk", "waiting", "I", "IntegerHouse") (List.mem_of_getElem? (i := 1) rfl))) e4 dX11_count_111 ?_
  exact W.iret (v := 0) hx hb hr (fun t ht hW => ⟨⟨0, (), rfl, rfl, kB_mk ht hW hP hK hD⟩, hS.F ht⟩) hS.2.2 dX11_count_114
set_option maxHeartbeats 400000000 in
set_option maxRecDepth 100000 in
theorem c_X12_count_5 (l : Launch) (E : kE) (D : va_G) (cI cJ cB cZ : ClassId) (h0 : Nat) (x0 : Int32) (f0 : List Value) (e0 : f0[0]? = some (.int 0)) (e1 : ¬ ((x0 : Int32) = 4)) (e2 : f0[5]? = some (.int 0)) (e3 : f0[33]? = some (.int 0)) (e4 : (x0 : Int32) = 5) (e5 : f0[9]? = some (.int 0)) : kI l E D (kT cI cJ cB cZ) yX12_count vW_X12_count ({ frames := 0, cells := 0, slots := 0, locals := 0 }) [.ref h0, .int x0] [(h0, .inr (12, f0))] (0) [(h0, .inr (12, (f0.set 0 (.int 0))))] 0 0 := by
  intro sz
  refine Met.ofW (cc := cX12_count) (maxL := 4) (ret := (some .int)) (by decide) rfl ?_
  intro p e s m args below meth c s₁ B hml hv
  obtain ⟨rfl, hsz, hP, hK, hD0, hN, hX⟩ := hv
  have hx := B.exec
  have hb := B.bytes
  have hr := B.returns
  have hts := atoms_spec (ws := vW_X12_count) B.pre
  have hown : s.vm.findClass RX12 = some m.cls := findClass_of_methodNamed B.named
  have hlocks := B.notSynchronized
  have hin12 : ∀ w ∈ wsX120, w ∈ vW_X12_count := u9_X12_count_wsX120
  subst hsz
  have hD := hD0.self (sz := s.heap.size)
  have hAE := k_AE hD0 hX
  generalize hAe : va_A [(h0, .inr (12, f0))] s.heap.size = A at hD hAE ⊢
  have hA : ∀ q : Nat, s.heap.size ≤ q → A q := fun q h => by rw [← hAe]; exact Or.inr h
  have hS : va_S A s.heap s.heap [] := va_S.rf
  have hP : va_P D vwCl [(h0, .inr (12, f0))] s.heap := hP
  have hl := lv_entry ([.ref h0, .int x0] : List Value) (n := 4) (Nat.le_of_ble_eq_true rfl)
  rw [lg_entry_eq]
  generalize (lg_sl ([.ref h0, .int x0]) ++ List.replicate (4 - (lg_sl ([.ref h0, .int x0])).length) Slot.unset).toArray = ls at hl ⊢
  have hl : lv_has ls 4 [(0, .ref h0), (1, .int x0)] := hl
  refine lv_aload_n hx hb dX12_count_0 rfl (lv_at hl 0 rfl) ?_
  refine lv_iconst (v := 0) hx hb dX12_count_1 (by decide) ?_
  refine k_put (D := D) (ci := 12) (v := .int 0) (ty := .int) (N := 195) hx hb hts hin12 tyX12 tyX12_ok nmX12 hown hK hP hD hS 0 rfl rfl (by decide) f9_12_0 (hts (.fieldLink RX12 3 "IntegerHouseModel" "thrown" "I") (o9_X12_count _ (List.mem_of_getElem? (i := 0) rfl))) rfl pd_2 rfl rfl (k_len e0) dX12_count_2 (fun H locs hP hD hS => ?_)
  have hP : va_P D vwCl [(h0, .inr (12, (f0.set 0 (.int 0))))] H := hP
  have hD : va_D A [(h0, .inr (12, (f0.set 0 (.int 0))))] := hD
  refine lv_iload_n hx hb dX12_count_5 rfl (lv_at hl 1 rfl) ?_
  refine lv_iconst (v := 4) hx hb dX12_count_6 (by decide) ?_
  refine lv_icmp_ne (tgt := 15) hx hb dX12_count_7 (by decide) (fun _ => ?_) (fun c9 => absurd c9 e1)
  refine lv_aload_n hx hb dX12_count_15 rfl (lv_at hl 0 rfl) ?_
  refine k_get (D := D) (ci := 12) (v := .int 0) (N := 195) hx hb hts hin12 hown hK hP 0 rfl rfl (by decide) f9_12_5 (hts (.fieldLink RX12 488 "IntegerHouseModel" "down" "Z") (o9_X12_count _ (List.mem_of_getElem? (i := 1) rfl))) (k_ne (by decide) e2) dX12_count_16 ?_
  refine lv_if_eq (tgt := 25) hx hb dX12_count_19 (by decide) (fun _ => ?_) (fun c9 => absurd (by decide) c9)
  refine lv_iconst (v := 0) hx hb dX12_count_25 (by decide) ?_
  refine lv_istore_n (lv' := [(2, .int 0), (0, .ref h0), (1, .int x0)]) hx hb dX12_count_26 rfl hl (by decide) rfl (fun ls hl => ?_)
  refine lv_iconst (v := 0) hx hb dX12_count_27 (by decide) ?_
  refine lv_istore_n (lv' := [(3, .int 0), (2, .int 0), (0, .ref h0), (1, .int x0)]) hx hb dX12_count_28 rfl hl (by decide) rfl (fun ls hl => ?_)
  refine lv_iload_n hx hb dX12_count_29 rfl (lv_at hl 0 rfl) ?_
  refine lv_aload_n hx hb dX12_count_30 rfl (lv_at hl 2 rfl) ?_
  refine k_get (D := D) (ci := 12) (v := .int 0) (N := 195) hx hb hts hin12 hown hK hP 0 rfl rfl (by decide) f9_12_33 (hts (.fieldLink RX12 818 "IntegerHouseModel" "claims" "I") (o9_X12_count _ (List.mem_of_getElem? (i := 2) rfl))) (k_ne (by decide) e3) dX12_count_31 ?_
  refine lv_icmp_ge (tgt := 60) hx hb dX12_count_34 (by decide) (fun _ => ?_) (fun c9 => absurd (by decide) c9)
  refine lv_iload_n hx hb dX12_count_60 rfl (lv_at hl 3 rfl) ?_
  refine lv_tableIn (off := 64) (tgt := 125) hx hb dX12_count_61 (by rw [e4]; decide) (by rw [e4]; decide) (by rw [e4]; rfl) (by decide) ?_
  refine lv_aload_n hx hb dX12_count_125 rfl (lv_at hl 2 rfl) ?_
  refine k_get (D := D) (ci := 12) (v := .int 0) (N := 195) hx hb hts hin12 hown hK hP 0 rfl rfl (by decide) f9_12_9 (hts (.fieldLink RX12 475 "IntegerHouseModel" "waitBytes" "I") (o9_X12_count _ (List.mem_of_getElem? (i := 6) rfl))) (k_ne (by decide) e5) dX12_count_126 ?_
  exact W.iret (v := 0) hx hb hr (fun t ht hW => ⟨⟨0, (), rfl, rfl, kB_mk ht hW hP hK hD⟩, hS.F ht⟩) hS.2.2 dX12_count_129
set_option maxHeartbeats 400000000 in
set_option maxRecDepth 100000 in
theorem c_X11_count_6 (l : Launch) (E : kE) (D : va_G) (cI cJ cB cZ : ClassId) (h0 : Nat) (x0 : Int32) (f0 : List Value) (h1 : Nat) (f1 : List Value) (e0 : ¬ ((x0 : Int32) = 4)) (e1 : f0[1]? = some (.ref h1)) (e2 : f1[8]? = some (.int 0)) (e3 : (x0 : Int32) < 0) : kI l E D (kT cI cJ cB cZ) yX11_count vW_X11_count ({ frames := 0, cells := 0, slots := 0, locals := 0 }) [.ref h0, .int x0] [(h0, .inr (11, f0)), (h1, .inr (1, f1))] ((-1)) [(h0, .inr (11, f0)), (h1, .inr (1, f1))] 0 0 := by
  intro sz
  refine Met.ofW (cc := cX11_count) (maxL := 2) (ret := (some .int)) (by decide) rfl ?_
  intro p e s m args below meth c s₁ B hml hv
  obtain ⟨rfl, hsz, hP, hK, hD0, hN, hX⟩ := hv
  have hx := B.exec
  have hb := B.bytes
  have hr := B.returns
  have hts := atoms_spec (ws := vW_X11_count) B.pre
  have hown : s.vm.findClass RX11 = some m.cls := findClass_of_methodNamed B.named
  have hlocks := B.notSynchronized
  have hin11 : ∀ w ∈ wsX110, w ∈ vW_X11_count := u9_X11_count_wsX110
  have hin1 : ∀ w ∈ wsX10, w ∈ vW_X11_count := u9_X11_count_wsX10
  subst hsz
  have hD := hD0.self (sz := s.heap.size)
  have hAE := k_AE hD0 hX
  generalize hAe : va_A [(h0, .inr (11, f0)), (h1, .inr (1, f1))] s.heap.size = A at hD hAE ⊢
  have hA : ∀ q : Nat, s.heap.size ≤ q → A q := fun q h => by rw [← hAe]; exact Or.inr h
  have hS : va_S A s.heap s.heap [] := va_S.rf
  have hP : va_P D vwCl [(h0, .inr (11, f0)), (h1, .inr (1, f1))] s.heap := hP
  have hl := lv_entry ([.ref h0, .int x0] : List Value) (n := 2) (Nat.le_of_ble_eq_true rfl)
  rw [lg_entry_eq]
  generalize (lg_sl ([.ref h0, .int x0]) ++ List.replicate (2 - (lg_sl ([.ref h0, .int x0])).length) Slot.unset).toArray = ls at hl ⊢
  have hl : lv_has ls 2 [(0, .ref h0), (1, .int x0)] := hl
  refine lv_iload_n hx hb dX11_count_0 rfl (lv_at hl 1 rfl) ?_
  refine lv_iconst (v := 4) hx hb dX11_count_1 (by decide) ?_
  refine lv_icmp_ne (tgt := 10) hx hb dX11_count_2 (by decide) (fun _ => ?_) (fun c9 => absurd c9 e0)
  refine lv_aload_n hx hb dX11_count_10 rfl (lv_at hl 0 rfl) ?_
  refine k_get (D := D) (ci := 11) (v := .ref h1) (N := 15) hx hb hts hin11 hown hK hP 0 rfl rfl (by decide) f9_11_1 (hts (.fieldLink RX11 16 "IntegerHouse" "disk" "LIntegerHouse$Disk;") (o9_X11_count _ (List.mem_of_getElem? (i := 0) rfl))) e1 dX11_count_11 ?_
  refine k_getN (host := "IntegerHouse") (D := D) (ci := 1) (v := .int 0) (N := 9) hx hb hts hin1 hown hK hP 1 rfl rfl (by decide) f9_1_8 (va_Nw.use rfl (hN.1 ("IntegerHouse", 122, "IntegerHouse$Disk", "down", "Z", "IntegerHouse") (List.mem_of_getElem? (i := 3) rfl))) e2 dX11_count_14 ?_
  refine lv_if_eq (tgt := 23) hx hb dX11_count_17 (by decide) (fun _ => ?_) (fun c9 => absurd (by decide) c9)
  refine lv_iload_n hx hb dX11_count_23 rfl (lv_at hl 1 rfl) ?_
  refine lv_tableOut (tgt := 128) hx hb dX11_count_24 (Or.inl (k_lt e3)) (by decide) ?_
  refine lv_iconst (v := (-1)) hx hb dX11_count_128 (by decide) ?_
  exact W.iret (v := (-1)) hx hb hr (fun t ht hW => ⟨⟨(-1), (), rfl, rfl, kB_mk ht hW hP hK hD⟩, hS.F ht⟩) hS.2.2 dX11_count_129
set_option maxHeartbeats 400000000 in
set_option maxRecDepth 100000 in
theorem c_X12_count_6 (l : Launch) (E : kE) (D : va_G) (cI cJ cB cZ : ClassId) (h0 : Nat) (x0 : Int32) (f0 : List Value) (e0 : f0[0]? = some (.int 0)) (e1 : ¬ ((x0 : Int32) = 4)) (e2 : f0[5]? = some (.int 0)) (e3 : f0[33]? = some (.int 0)) (e4 : (x0 : Int32) < 0) : kI l E D (kT cI cJ cB cZ) yX12_count vW_X12_count ({ frames := 0, cells := 0, slots := 0, locals := 0 }) [.ref h0, .int x0] [(h0, .inr (12, f0))] ((-1)) [(h0, .inr (12, (f0.set 0 (.int 0))))] 0 0 := by
  intro sz
  refine Met.ofW (cc := cX12_count) (maxL := 4) (ret := (some .int)) (by decide) rfl ?_
  intro p e s m args below meth c s₁ B hml hv
  obtain ⟨rfl, hsz, hP, hK, hD0, hN, hX⟩ := hv
  have hx := B.exec
  have hb := B.bytes
  have hr := B.returns
  have hts := atoms_spec (ws := vW_X12_count) B.pre
  have hown : s.vm.findClass RX12 = some m.cls := findClass_of_methodNamed B.named
  have hlocks := B.notSynchronized
  have hin12 : ∀ w ∈ wsX120, w ∈ vW_X12_count := u9_X12_count_wsX120
  subst hsz
  have hD := hD0.self (sz := s.heap.size)
  have hAE := k_AE hD0 hX
  generalize hAe : va_A [(h0, .inr (12, f0))] s.heap.size = A at hD hAE ⊢
  have hA : ∀ q : Nat, s.heap.size ≤ q → A q := fun q h => by rw [← hAe]; exact Or.inr h
  have hS : va_S A s.heap s.heap [] := va_S.rf
  have hP : va_P D vwCl [(h0, .inr (12, f0))] s.heap := hP
  have hl := lv_entry ([.ref h0, .int x0] : List Value) (n := 4) (Nat.le_of_ble_eq_true rfl)
  rw [lg_entry_eq]
  generalize (lg_sl ([.ref h0, .int x0]) ++ List.replicate (4 - (lg_sl ([.ref h0, .int x0])).length) Slot.unset).toArray = ls at hl ⊢
  have hl : lv_has ls 4 [(0, .ref h0), (1, .int x0)] := hl
  refine lv_aload_n hx hb dX12_count_0 rfl (lv_at hl 0 rfl) ?_
  refine lv_iconst (v := 0) hx hb dX12_count_1 (by decide) ?_
  refine k_put (D := D) (ci := 12) (v := .int 0) (ty := .int) (N := 195) hx hb hts hin12 tyX12 tyX12_ok nmX12 hown hK hP hD hS 0 rfl rfl (by decide) f9_12_0 (hts (.fieldLink RX12 3 "IntegerHouseModel" "thrown" "I") (o9_X12_count _ (List.mem_of_getElem? (i := 0) rfl))) rfl pd_2 rfl rfl (k_len e0) dX12_count_2 (fun H locs hP hD hS => ?_)
  have hP : va_P D vwCl [(h0, .inr (12, (f0.set 0 (.int 0))))] H := hP
  have hD : va_D A [(h0, .inr (12, (f0.set 0 (.int 0))))] := hD
  refine lv_iload_n hx hb dX12_count_5 rfl (lv_at hl 1 rfl) ?_
  refine lv_iconst (v := 4) hx hb dX12_count_6 (by decide) ?_
  refine lv_icmp_ne (tgt := 15) hx hb dX12_count_7 (by decide) (fun _ => ?_) (fun c9 => absurd c9 e1)
  refine lv_aload_n hx hb dX12_count_15 rfl (lv_at hl 0 rfl) ?_
  refine k_get (D := D) (ci := 12) (v := .int 0) (N := 195) hx hb hts hin12 hown hK hP 0 rfl rfl (by decide) f9_12_5 (hts (.fieldLink RX12 488 "IntegerHouseModel" "down" "Z") (o9_X12_count _ (List.mem_of_getElem? (i := 1) rfl))) (k_ne (by decide) e2) dX12_count_16 ?_
  refine lv_if_eq (tgt := 25) hx hb dX12_count_19 (by decide) (fun _ => ?_) (fun c9 => absurd (by decide) c9)
  refine lv_iconst (v := 0) hx hb dX12_count_25 (by decide) ?_
  refine lv_istore_n (lv' := [(2, .int 0), (0, .ref h0), (1, .int x0)]) hx hb dX12_count_26 rfl hl (by decide) rfl (fun ls hl => ?_)
  refine lv_iconst (v := 0) hx hb dX12_count_27 (by decide) ?_
  refine lv_istore_n (lv' := [(3, .int 0), (2, .int 0), (0, .ref h0), (1, .int x0)]) hx hb dX12_count_28 rfl hl (by decide) rfl (fun ls hl => ?_)
  refine lv_iload_n hx hb dX12_count_29 rfl (lv_at hl 0 rfl) ?_
  refine lv_aload_n hx hb dX12_count_30 rfl (lv_at hl 2 rfl) ?_
  refine k_get (D := D) (ci := 12) (v := .int 0) (N := 195) hx hb hts hin12 hown hK hP 0 rfl rfl (by decide) f9_12_33 (hts (.fieldLink RX12 818 "IntegerHouseModel" "claims" "I") (o9_X12_count _ (List.mem_of_getElem? (i := 2) rfl))) (k_ne (by decide) e3) dX12_count_31 ?_
  refine lv_icmp_ge (tgt := 60) hx hb dX12_count_34 (by decide) (fun _ => ?_) (fun c9 => absurd (by decide) c9)
  refine lv_iload_n hx hb dX12_count_60 rfl (lv_at hl 3 rfl) ?_
  refine lv_tableOut (tgt := 140) hx hb dX12_count_61 (Or.inl (k_lt e4)) (by decide) ?_
  refine lv_iconst (v := (-1)) hx hb dX12_count_140 (by decide) ?_
  exact W.iret (v := (-1)) hx hb hr (fun t ht hW => ⟨⟨(-1), (), rfl, rfl, kB_mk ht hW hP hK hD⟩, hS.F ht⟩) hS.2.2 dX12_count_141
set_option maxHeartbeats 400000000 in
set_option maxRecDepth 100000 in
theorem c_X11_count_7 (l : Launch) (E : kE) (D : va_G) (cI cJ cB cZ : ClassId) (h0 : Nat) (x0 : Int32) (f0 : List Value) (h1 : Nat) (f1 : List Value) (e0 : ¬ ((x0 : Int32) = 4)) (e1 : f0[1]? = some (.ref h1)) (e2 : f1[8]? = some (.int 0)) (e3 : ¬ ((x0 : Int32) < 8)) : kI l E D (kT cI cJ cB cZ) yX11_count vW_X11_count ({ frames := 0, cells := 0, slots := 0, locals := 0 }) [.ref h0, .int x0] [(h0, .inr (11, f0)), (h1, .inr (1, f1))] ((-1)) [(h0, .inr (11, f0)), (h1, .inr (1, f1))] 0 0 := by
  intro sz
  refine Met.ofW (cc := cX11_count) (maxL := 2) (ret := (some .int)) (by decide) rfl ?_
  intro p e s m args below meth c s₁ B hml hv
  obtain ⟨rfl, hsz, hP, hK, hD0, hN, hX⟩ := hv
  have hx := B.exec
  have hb := B.bytes
  have hr := B.returns
  have hts := atoms_spec (ws := vW_X11_count) B.pre
  have hown : s.vm.findClass RX11 = some m.cls := findClass_of_methodNamed B.named
  have hlocks := B.notSynchronized
  have hin11 : ∀ w ∈ wsX110, w ∈ vW_X11_count := u9_X11_count_wsX110
  have hin1 : ∀ w ∈ wsX10, w ∈ vW_X11_count := u9_X11_count_wsX10
  subst hsz
  have hD := hD0.self (sz := s.heap.size)
  have hAE := k_AE hD0 hX
  generalize hAe : va_A [(h0, .inr (11, f0)), (h1, .inr (1, f1))] s.heap.size = A at hD hAE ⊢
  have hA : ∀ q : Nat, s.heap.size ≤ q → A q := fun q h => by rw [← hAe]; exact Or.inr h
  have hS : va_S A s.heap s.heap [] := va_S.rf
  have hP : va_P D vwCl [(h0, .inr (11, f0)), (h1, .inr (1, f1))] s.heap := hP
  have hl := lv_entry ([.ref h0, .int x0] : List Value) (n := 2) (Nat.le_of_ble_eq_true rfl)
  rw [lg_entry_eq]
  generalize (lg_sl ([.ref h0, .int x0]) ++ List.replicate (2 - (lg_sl ([.ref h0, .int x0])).length) Slot.unset).toArray = ls at hl ⊢
  have hl : lv_has ls 2 [(0, .ref h0), (1, .int x0)] := hl
  refine lv_iload_n hx hb dX11_count_0 rfl (lv_at hl 1 rfl) ?_
  refine lv_iconst (v := 4) hx hb dX11_count_1 (by decide) ?_
  refine lv_icmp_ne (tgt := 10) hx hb dX11_count_2 (by decide) (fun _ => ?_) (fun c9 => absurd c9 e0)
  refine lv_aload_n hx hb dX11_count_10 rfl (lv_at hl 0 rfl) ?_
  refine k_get (D := D) (ci := 11) (v := .ref h1) (N := 15) hx hb hts hin11 hown hK hP 0 rfl rfl (by decide) f9_11_1 (hts (.fieldLink RX11 16 "IntegerHouse" "disk" "LIntegerHouse$Disk;") (o9_X11_count _ (List.mem_of_getElem? (i := 0) rfl))) e1 dX11_count_11 ?_
  refine k_getN (host := "IntegerHouse") (D := D) (ci := 1) (v := .int 0) (N := 9) hx hb hts hin1 hown hK hP 1 rfl rfl (by decide) f9_1_8 (va_Nw.use rfl (hN.1 ("IntegerHouse", 122, "IntegerHouse$Disk", "down", "Z", "IntegerHouse") (List.mem_of_getElem? (i := 3) rfl))) e2 dX11_count_14 ?_
  refine lv_if_eq (tgt := 23) hx hb dX11_count_17 (by decide) (fun _ => ?_) (fun c9 => absurd (by decide) c9)
  refine lv_iload_n hx hb dX11_count_23 rfl (lv_at hl 1 rfl) ?_
  refine lv_tableOut (tgt := 128) hx hb dX11_count_24 (Or.inr (k_lt ((k_n3 (x := x0) (c := 7) (d := 8) (by decide)).mpr e3))) (by decide) ?_
  refine lv_iconst (v := (-1)) hx hb dX11_count_128 (by decide) ?_
  exact W.iret (v := (-1)) hx hb hr (fun t ht hW => ⟨⟨(-1), (), rfl, rfl, kB_mk ht hW hP hK hD⟩, hS.F ht⟩) hS.2.2 dX11_count_129
set_option maxHeartbeats 400000000 in
set_option maxRecDepth 100000 in
theorem c_X12_count_7 (l : Launch) (E : kE) (D : va_G) (cI cJ cB cZ : ClassId) (h0 : Nat) (x0 : Int32) (f0 : List Value) (e0 : f0[0]? = some (.int 0)) (e1 : ¬ ((x0 : Int32) = 4)) (e2 : f0[5]? = some (.int 0)) (e3 : f0[33]? = some (.int 0)) (e4 : ¬ ((x0 : Int32) < 8)) : kI l E D (kT cI cJ cB cZ) yX12_count vW_X12_count ({ frames := 0, cells := 0, slots := 0, locals := 0 }) [.ref h0, .int x0] [(h0, .inr (12, f0))] ((-1)) [(h0, .inr (12, (f0.set 0 (.int 0))))] 0 0 := by
  intro sz
  refine Met.ofW (cc := cX12_count) (maxL := 4) (ret := (some .int)) (by decide) rfl ?_
  intro p e s m args below meth c s₁ B hml hv
  obtain ⟨rfl, hsz, hP, hK, hD0, hN, hX⟩ := hv
  have hx := B.exec
  have hb := B.bytes
  have hr := B.returns
  have hts := atoms_spec (ws := vW_X12_count) B.pre
  have hown : s.vm.findClass RX12 = some m.cls := findClass_of_methodNamed B.named
  have hlocks := B.notSynchronized
  have hin12 : ∀ w ∈ wsX120, w ∈ vW_X12_count := u9_X12_count_wsX120
  subst hsz
  have hD := hD0.self (sz := s.heap.size)
  have hAE := k_AE hD0 hX
  generalize hAe : va_A [(h0, .inr (12, f0))] s.heap.size = A at hD hAE ⊢
  have hA : ∀ q : Nat, s.heap.size ≤ q → A q := fun q h => by rw [← hAe]; exact Or.inr h
  have hS : va_S A s.heap s.heap [] := va_S.rf
  have hP : va_P D vwCl [(h0, .inr (12, f0))] s.heap := hP
  have hl := lv_entry ([.ref h0, .int x0] : List Value) (n := 4) (Nat.le_of_ble_eq_true rfl)
  rw [lg_entry_eq]
  generalize (lg_sl ([.ref h0, .int x0]) ++ List.replicate (4 - (lg_sl ([.ref h0, .int x0])).length) Slot.unset).toArray = ls at hl ⊢
  have hl : lv_has ls 4 [(0, .ref h0), (1, .int x0)] := hl
  refine lv_aload_n hx hb dX12_count_0 rfl (lv_at hl 0 rfl) ?_
  refine lv_iconst (v := 0) hx hb dX12_count_1 (by decide) ?_
  refine k_put (D := D) (ci := 12) (v := .int 0) (ty := .int) (N := 195) hx hb hts hin12 tyX12 tyX12_ok nmX12 hown hK hP hD hS 0 rfl rfl (by decide) f9_12_0 (hts (.fieldLink RX12 3 "IntegerHouseModel" "thrown" "I") (o9_X12_count _ (List.mem_of_getElem? (i := 0) rfl))) rfl pd_2 rfl rfl (k_len e0) dX12_count_2 (fun H locs hP hD hS => ?_)
  have hP : va_P D vwCl [(h0, .inr (12, (f0.set 0 (.int 0))))] H := hP
  have hD : va_D A [(h0, .inr (12, (f0.set 0 (.int 0))))] := hD
  refine lv_iload_n hx hb dX12_count_5 rfl (lv_at hl 1 rfl) ?_
  refine lv_iconst (v := 4) hx hb dX12_count_6 (by decide) ?_
  refine lv_icmp_ne (tgt := 15) hx hb dX12_count_7 (by decide) (fun _ => ?_) (fun c9 => absurd c9 e1)
  refine lv_aload_n hx hb dX12_count_15 rfl (lv_at hl 0 rfl) ?_
  refine k_get (D := D) (ci := 12) (v := .int 0) (N := 195) hx hb hts hin12 hown hK hP 0 rfl rfl (by decide) f9_12_5 (hts (.fieldLink RX12 488 "IntegerHouseModel" "down" "Z") (o9_X12_count _ (List.mem_of_getElem? (i := 1) rfl))) (k_ne (by decide) e2) dX12_count_16 ?_
  refine lv_if_eq (tgt := 25) hx hb dX12_count_19 (by decide) (fun _ => ?_) (fun c9 => absurd (by decide) c9)
  refine lv_iconst (v := 0) hx hb dX12_count_25 (by decide) ?_
  refine lv_istore_n (lv' := [(2, .int 0), (0, .ref h0), (1, .int x0)]) hx hb dX12_count_26 rfl hl (by decide) rfl (fun ls hl => ?_)
  refine lv_iconst (v := 0) hx hb dX12_count_27 (by decide) ?_
  refine lv_istore_n (lv' := [(3, .int 0), (2, .int 0), (0, .ref h0), (1, .int x0)]) hx hb dX12_count_28 rfl hl (by decide) rfl (fun ls hl => ?_)
  refine lv_iload_n hx hb dX12_count_29 rfl (lv_at hl 0 rfl) ?_
  refine lv_aload_n hx hb dX12_count_30 rfl (lv_at hl 2 rfl) ?_
  refine k_get (D := D) (ci := 12) (v := .int 0) (N := 195) hx hb hts hin12 hown hK hP 0 rfl rfl (by decide) f9_12_33 (hts (.fieldLink RX12 818 "IntegerHouseModel" "claims" "I") (o9_X12_count _ (List.mem_of_getElem? (i := 2) rfl))) (k_ne (by decide) e3) dX12_count_31 ?_
  refine lv_icmp_ge (tgt := 60) hx hb dX12_count_34 (by decide) (fun _ => ?_) (fun c9 => absurd (by decide) c9)
  refine lv_iload_n hx hb dX12_count_60 rfl (lv_at hl 3 rfl) ?_
  refine lv_tableOut (tgt := 140) hx hb dX12_count_61 (Or.inr (k_lt ((k_n3 (x := x0) (c := 7) (d := 8) (by decide)).mpr e4))) (by decide) ?_
  refine lv_iconst (v := (-1)) hx hb dX12_count_140 (by decide) ?_
  exact W.iret (v := (-1)) hx hb hr (fun t ht hW => ⟨⟨(-1), (), rfl, rfl, kB_mk ht hW hP hK hD⟩, hS.F ht⟩) hS.2.2 dX12_count_141
set_option maxHeartbeats 400000000 in
set_option maxRecDepth 100000 in
theorem c_X11_count_8 (l : Launch) (E : kE) (D : va_G) (cI cJ cB cZ : ClassId) (h0 : Nat) (x0 : Int32) (f0 : List Value) (h1 : Nat) (f1 : List Value) (e0 : ¬ ((x0 : Int32) = 4)) (e1 : f0[1]? = some (.ref h1)) (e2 : f1[8]? = some (.int 0)) (e3 : (x0 : Int32) = 6) (e4 : f1[5]? = some (.int 0)) : kI l E D (kT cI cJ cB cZ) yX11_count vW_X11_count ({ frames := 0, cells := 0, slots := 0, locals := 0 }) [.ref h0, .int x0] [(h0, .inr (11, f0)), (h1, .inr (1, f1))] (0) [(h0, .inr (11, f0)), (h1, .inr (1, f1))] 0 0 := by
  intro sz
  refine Met.ofW (cc := cX11_count) (maxL := 2) (ret := (some .int)) (by decide) rfl ?_
  intro p e s m args below meth c s₁ B hml hv
  obtain ⟨rfl, hsz, hP, hK, hD0, hN, hX⟩ := hv
  have hx := B.exec
  have hb := B.bytes
  have hr := B.returns
  have hts := atoms_spec (ws := vW_X11_count) B.pre
  have hown : s.vm.findClass RX11 = some m.cls := findClass_of_methodNamed B.named
  have hlocks := B.notSynchronized
  have hin11 : ∀ w ∈ wsX110, w ∈ vW_X11_count := u9_X11_count_wsX110
  have hin1 : ∀ w ∈ wsX10, w ∈ vW_X11_count := u9_X11_count_wsX10
  subst hsz
  have hD := hD0.self (sz := s.heap.size)
  have hAE := k_AE hD0 hX
  generalize hAe : va_A [(h0, .inr (11, f0)), (h1, .inr (1, f1))] s.heap.size = A at hD hAE ⊢
  have hA : ∀ q : Nat, s.heap.size ≤ q → A q := fun q h => by rw [← hAe]; exact Or.inr h
  have hS : va_S A s.heap s.heap [] := va_S.rf
  have hP : va_P D vwCl [(h0, .inr (11, f0)), (h1, .inr (1, f1))] s.heap := hP
  have hl := lv_entry ([.ref h0, .int x0] : List Value) (n := 2) (Nat.le_of_ble_eq_true rfl)
  rw [lg_entry_eq]
  generalize (lg_sl ([.ref h0, .int x0]) ++ List.replicate (2 - (lg_sl ([.ref h0, .int x0])).length) Slot.unset).toArray = ls at hl ⊢
  have hl : lv_has ls 2 [(0, .ref h0), (1, .int x0)] := hl
  refine lv_iload_n hx hb dX11_count_0 rfl (lv_at hl 1 rfl) ?_
  refine lv_iconst (v := 4) hx hb dX11_count_1 (by decide) ?_
  refine lv_icmp_ne (tgt := 10) hx hb dX11_count_2 (by decide) (fun _ => ?_) (fun c9 => absurd c9 e0)
  refine lv_aload_n hx hb dX11_count_10 rfl (lv_at hl 0 rfl) ?_
  refine k_get (D := D) (ci := 11) (v := .ref h1) (N := 15) hx hb hts hin11 hown hK hP 0 rfl rfl (by decide) f9_11_1 (hts (.fieldLink RX11 16 "IntegerHouse" "disk" "LIntegerHouse$Disk;") (o9_X11_count _ (List.mem_of_getElem? (i := 0) rfl))) e1 dX11_count_11 ?_
  refine k_getN (host := "IntegerHouse") (D := D) (ci := 1) (v := .int 0) (N := 9) hx hb hts hin1 hown hK hP 1 rfl rfl (by decide) f9_1_8 (va_Nw.use rfl (hN.1 ("IntegerHouse", 122, "IntegerHouse$Disk", "down", "Z", "IntegerHouse") (List.mem_of_getElem? (i := 3) rfl))) e2 dX11_count_14 ?_
  refine lv_if_eq (tgt := 23) hx hb dX11_count_17 (by decide) (fun _ => ?_) (fun c9 => absurd (by decide) c9)
  refine lv_iload_n hx hb dX11_count_23 rfl (lv_at hl 1 rfl) ?_
  refine lv_tableIn (off := 91) (tgt := 115) hx hb dX11_count_24 (by rw [e3]; decide) (by rw [e3]; decide) (by rw [e3]; rfl) (by decide) ?_
  refine lv_aload_n hx hb dX11_count_115 rfl (lv_at hl 0 rfl) ?_
  refine k_get (D := D) (ci := 11) (v := .ref h1) (N := 15) hx hb hts hin11 hown hK hP 0 rfl rfl (by decide) f9_11_1 (hts (.fieldLink RX11 16 "IntegerHouse" "disk" "LIntegerHouse$Disk;") (o9_X11_count _ (List.mem_of_getElem? (i := 0) rfl))) e1 dX11_count_116 ?_
  refine k_getN (host := "IntegerHouse") (D := D) (ci := 1) (v := .int 0) (N := 9) hx hb hts hin1 hown hK hP 1 rfl rfl (by decide) f9_1_5 (va_Nw.use rfl (hN.1 ("IntegerHouse", 227, "IntegerHouse$Disk", "used", "I", "IntegerHouse") (List.mem_of_getElem? (i := 2) rfl))) e4 dX11_count_119 ?_
  exact W.iret (v := 0) hx hb hr (fun t ht hW => ⟨⟨0, (), rfl, rfl, kB_mk ht hW hP hK hD⟩, hS.F ht⟩) hS.2.2 dX11_count_122
set_option maxHeartbeats 400000000 in
set_option maxRecDepth 100000 in
theorem c_X12_count_8 (l : Launch) (E : kE) (D : va_G) (cI cJ cB cZ : ClassId) (h0 : Nat) (x0 : Int32) (f0 : List Value) (e0 : f0[0]? = some (.int 0)) (e1 : ¬ ((x0 : Int32) = 4)) (e2 : f0[5]? = some (.int 0)) (e3 : f0[33]? = some (.int 0)) (e4 : (x0 : Int32) = 6) (e5 : f0[4]? = some (.int 0)) : kI l E D (kT cI cJ cB cZ) yX12_count vW_X12_count ({ frames := 0, cells := 0, slots := 0, locals := 0 }) [.ref h0, .int x0] [(h0, .inr (12, f0))] (0) [(h0, .inr (12, (f0.set 0 (.int 0))))] 0 0 := by
  intro sz
  refine Met.ofW (cc := cX12_count) (maxL := 4) (ret := (some .int)) (by decide) rfl ?_
  intro p e s m args below meth c s₁ B hml hv
  obtain ⟨rfl, hsz, hP, hK, hD0, hN, hX⟩ := hv
  have hx := B.exec
  have hb := B.bytes
  have hr := B.returns
  have hts := atoms_spec (ws := vW_X12_count) B.pre
  have hown : s.vm.findClass RX12 = some m.cls := findClass_of_methodNamed B.named
  have hlocks := B.notSynchronized
  have hin12 : ∀ w ∈ wsX120, w ∈ vW_X12_count := u9_X12_count_wsX120
  subst hsz
  have hD := hD0.self (sz := s.heap.size)
  have hAE := k_AE hD0 hX
  generalize hAe : va_A [(h0, .inr (12, f0))] s.heap.size = A at hD hAE ⊢
  have hA : ∀ q : Nat, s.heap.size ≤ q → A q := fun q h => by rw [← hAe]; exact Or.inr h
  have hS : va_S A s.heap s.heap [] := va_S.rf
  have hP : va_P D vwCl [(h0, .inr (12, f0))] s.heap := hP
  have hl := lv_entry ([.ref h0, .int x0] : List Value) (n := 4) (Nat.le_of_ble_eq_true rfl)
  rw [lg_entry_eq]
  generalize (lg_sl ([.ref h0, .int x0]) ++ List.replicate (4 - (lg_sl ([.ref h0, .int x0])).length) Slot.unset).toArray = ls at hl ⊢
  have hl : lv_has ls 4 [(0, .ref h0), (1, .int x0)] := hl
  refine lv_aload_n hx hb dX12_count_0 rfl (lv_at hl 0 rfl) ?_
  refine lv_iconst (v := 0) hx hb dX12_count_1 (by decide) ?_
  refine k_put (D := D) (ci := 12) (v := .int 0) (ty := .int) (N := 195) hx hb hts hin12 tyX12 tyX12_ok nmX12 hown hK hP hD hS 0 rfl rfl (by decide) f9_12_0 (hts (.fieldLink RX12 3 "IntegerHouseModel" "thrown" "I") (o9_X12_count _ (List.mem_of_getElem? (i := 0) rfl))) rfl pd_2 rfl rfl (k_len e0) dX12_count_2 (fun H locs hP hD hS => ?_)
  have hP : va_P D vwCl [(h0, .inr (12, (f0.set 0 (.int 0))))] H := hP
  have hD : va_D A [(h0, .inr (12, (f0.set 0 (.int 0))))] := hD
  refine lv_iload_n hx hb dX12_count_5 rfl (lv_at hl 1 rfl) ?_
  refine lv_iconst (v := 4) hx hb dX12_count_6 (by decide) ?_
  refine lv_icmp_ne (tgt := 15) hx hb dX12_count_7 (by decide) (fun _ => ?_) (fun c9 => absurd c9 e1)
  refine lv_aload_n hx hb dX12_count_15 rfl (lv_at hl 0 rfl) ?_
  refine k_get (D := D) (ci := 12) (v := .int 0) (N := 195) hx hb hts hin12 hown hK hP 0 rfl rfl (by decide) f9_12_5 (hts (.fieldLink RX12 488 "IntegerHouseModel" "down" "Z") (o9_X12_count _ (List.mem_of_getElem? (i := 1) rfl))) (k_ne (by decide) e2) dX12_count_16 ?_
  refine lv_if_eq (tgt := 25) hx hb dX12_count_19 (by decide) (fun _ => ?_) (fun c9 => absurd (by decide) c9)
  refine lv_iconst (v := 0) hx hb dX12_count_25 (by decide) ?_
  refine lv_istore_n (lv' := [(2, .int 0), (0, .ref h0), (1, .int x0)]) hx hb dX12_count_26 rfl hl (by decide) rfl (fun ls hl => ?_)
  refine lv_iconst (v := 0) hx hb dX12_count_27 (by decide) ?_
  refine lv_istore_n (lv' := [(3, .int 0), (2, .int 0), (0, .ref h0), (1, .int x0)]) hx hb dX12_count_28 rfl hl (by decide) rfl (fun ls hl => ?_)
  refine lv_iload_n hx hb dX12_count_29 rfl (lv_at hl 0 rfl) ?_
  refine lv_aload_n hx hb dX12_count_30 rfl (lv_at hl 2 rfl) ?_
  refine k_get (D := D) (ci := 12) (v := .int 0) (N := 195) hx hb hts hin12 hown hK hP 0 rfl rfl (by decide) f9_12_33 (hts (.fieldLink RX12 818 "IntegerHouseModel" "claims" "I") (o9_X12_count _ (List.mem_of_getElem? (i := 2) rfl))) (k_ne (by decide) e3) dX12_count_31 ?_
  refine lv_icmp_ge (tgt := 60) hx hb dX12_count_34 (by decide) (fun _ => ?_) (fun c9 => absurd (by decide) c9)
  refine lv_iload_n hx hb dX12_count_60 rfl (lv_at hl 3 rfl) ?_
  refine lv_tableIn (off := 69) (tgt := 130) hx hb dX12_count_61 (by rw [e4]; decide) (by rw [e4]; decide) (by rw [e4]; rfl) (by decide) ?_
  refine lv_aload_n hx hb dX12_count_130 rfl (lv_at hl 2 rfl) ?_
  refine k_get (D := D) (ci := 12) (v := .int 0) (N := 195) hx hb hts hin12 hown hK hP 0 rfl rfl (by decide) f9_12_4 (hts (.fieldLink RX12 478 "IntegerHouseModel" "used" "I") (o9_X12_count _ (List.mem_of_getElem? (i := 7) rfl))) (k_ne (by decide) e5) dX12_count_131 ?_
  exact W.iret (v := 0) hx hb hr (fun t ht hW => ⟨⟨0, (), rfl, rfl, kB_mk ht hW hP hK hD⟩, hS.F ht⟩) hS.2.2 dX12_count_134
set_option maxHeartbeats 400000000 in
set_option maxRecDepth 100000 in
theorem c_X11_count_9 (l : Launch) (E : kE) (D : va_G) (cI cJ cB cZ : ClassId) (h0 : Nat) (x0 : Int32) (f0 : List Value) (h1 : Nat) (f1 : List Value) (e0 : ¬ ((x0 : Int32) = 4)) (e1 : f0[1]? = some (.ref h1)) (e2 : f1[8]? = some (.int 0)) (e3 : (x0 : Int32) = 7) (e4 : f0[14]? = some (.int 0)) : kI l E D (kT cI cJ cB cZ) yX11_count vW_X11_count ({ frames := 0, cells := 0, slots := 0, locals := 0 }) [.ref h0, .int x0] [(h0, .inr (11, f0)), (h1, .inr (1, f1))] (0) [(h0, .inr (11, f0)), (h1, .inr (1, f1))] 0 0 := by
  intro sz
  refine Met.ofW (cc := cX11_count) (maxL := 2) (ret := (some .int)) (by decide) rfl ?_
  intro p e s m args below meth c s₁ B hml hv
  obtain ⟨rfl, hsz, hP, hK, hD0, hN, hX⟩ := hv
  have hx := B.exec
  have hb := B.bytes
  have hr := B.returns
  have hts := atoms_spec (ws := vW_X11_count) B.pre
  have hown : s.vm.findClass RX11 = some m.cls := findClass_of_methodNamed B.named
  have hlocks := B.notSynchronized
  have hin11 : ∀ w ∈ wsX110, w ∈ vW_X11_count := u9_X11_count_wsX110
  have hin1 : ∀ w ∈ wsX10, w ∈ vW_X11_count := u9_X11_count_wsX10
  subst hsz
  have hD := hD0.self (sz := s.heap.size)
  have hAE := k_AE hD0 hX
  generalize hAe : va_A [(h0, .inr (11, f0)), (h1, .inr (1, f1))] s.heap.size = A at hD hAE ⊢
  have hA : ∀ q : Nat, s.heap.size ≤ q → A q := fun q h => by rw [← hAe]; exact Or.inr h
  have hS : va_S A s.heap s.heap [] := va_S.rf
  have hP : va_P D vwCl [(h0, .inr (11, f0)), (h1, .inr (1, f1))] s.heap := hP
  have hl := lv_entry ([.ref h0, .int x0] : List Value) (n := 2) (Nat.le_of_ble_eq_true rfl)
  rw [lg_entry_eq]
  generalize (lg_sl ([.ref h0, .int x0]) ++ List.replicate (2 - (lg_sl ([.ref h0, .int x0])).length) Slot.unset).toArray = ls at hl ⊢
  have hl : lv_has ls 2 [(0, .ref h0), (1, .int x0)] := hl
  refine lv_iload_n hx hb dX11_count_0 rfl (lv_at hl 1 rfl) ?_
  refine lv_iconst (v := 4) hx hb dX11_count_1 (by decide) ?_
  refine lv_icmp_ne (tgt := 10) hx hb dX11_count_2 (by decide) (fun _ => ?_) (fun c9 => absurd c9 e0)
  refine lv_aload_n hx hb dX11_count_10 rfl (lv_at hl 0 rfl) ?_
  refine k_get (D := D) (ci := 11) (v := .ref h1) (N := 15) hx hb hts hin11 hown hK hP 0 rfl rfl (by decide) f9_11_1 (hts (.fieldLink RX11 16 "IntegerHouse" "disk" "LIntegerHouse$Disk;") (o9_X11_count _ (List.mem_of_getElem? (i := 0) rfl))) e1 dX11_count_11 ?_
  refine k_getN (host := "IntegerHouse") (D := D) (ci := 1) (v := .int 0) (N := 9) hx hb hts hin1 hown hK hP 1 rfl rfl (by decide) f9_1_8 (va_Nw.use rfl (hN.1 ("IntegerHouse", 122, "IntegerHouse$Disk", "down", "Z", "IntegerHouse") (List.mem_of_getElem? (i := 3) rfl))) e2 dX11_count_14 ?_
  refine lv_if_eq (tgt := 23) hx hb dX11_count_17 (by decide) (fun _ => ?_) (fun c9 => absurd (by decide) c9)
  refine lv_iload_n hx hb dX11_count_23 rfl (lv_at hl 1 rfl) ?_
  refine lv_tableIn (off := 99) (tgt := 123) hx hb dX11_count_24 (by rw [e3]; decide) (by rw [e3]; decide) (by rw [e3]; rfl) (by decide) ?_
  refine lv_aload_n hx hb dX11_count_123 rfl (lv_at hl 0 rfl) ?_
  refine k_get (D := D) (ci := 11) (v := .int 0) (N := 15) hx hb hts hin11 hown hK hP 0 rfl rfl (by decide) f9_11_14 (hts (.fieldLink RX11 137 "IntegerHouse" "acts" "I") (o9_X11_count _ (List.mem_of_getElem? (i := 6) rfl))) e4 dX11_count_124 ?_
  exact W.iret (v := 0) hx hb hr (fun t ht hW => ⟨⟨0, (), rfl, rfl, kB_mk ht hW hP hK hD⟩, hS.F ht⟩) hS.2.2 dX11_count_127
set_option maxHeartbeats 400000000 in
set_option maxRecDepth 100000 in
theorem c_X12_count_9 (l : Launch) (E : kE) (D : va_G) (cI cJ cB cZ : ClassId) (h0 : Nat) (x0 : Int32) (f0 : List Value) (e0 : f0[0]? = some (.int 0)) (e1 : ¬ ((x0 : Int32) = 4)) (e2 : f0[5]? = some (.int 0)) (e3 : f0[33]? = some (.int 0)) (e4 : (x0 : Int32) = 7) (e5 : f0[16]? = some (.int 0)) : kI l E D (kT cI cJ cB cZ) yX12_count vW_X12_count ({ frames := 0, cells := 0, slots := 0, locals := 0 }) [.ref h0, .int x0] [(h0, .inr (12, f0))] (0) [(h0, .inr (12, (f0.set 0 (.int 0))))] 0 0 := by
  intro sz
  refine Met.ofW (cc := cX12_count) (maxL := 4) (ret := (some .int)) (by decide) rfl ?_
  intro p e s m args below meth c s₁ B hml hv
  obtain ⟨rfl, hsz, hP, hK, hD0, hN, hX⟩ := hv
  have hx := B.exec
  have hb := B.bytes
  have hr := B.returns
  have hts := atoms_spec (ws := vW_X12_count) B.pre
  have hown : s.vm.findClass RX12 = some m.cls := findClass_of_methodNamed B.named
  have hlocks := B.notSynchronized
  have hin12 : ∀ w ∈ wsX120, w ∈ vW_X12_count := u9_X12_count_wsX120
  subst hsz
  have hD := hD0.self (sz := s.heap.size)
  have hAE := k_AE hD0 hX
  generalize hAe : va_A [(h0, .inr (12, f0))] s.heap.size = A at hD hAE ⊢
  have hA : ∀ q : Nat, s.heap.size ≤ q → A q := fun q h => by rw [← hAe]; exact Or.inr h
  have hS : va_S A s.heap s.heap [] := va_S.rf
  have hP : va_P D vwCl [(h0, .inr (12, f0))] s.heap := hP
  have hl := lv_entry ([.ref h0, .int x0] : List Value) (n := 4) (Nat.le_of_ble_eq_true rfl)
  rw [lg_entry_eq]
  generalize (lg_sl ([.ref h0, .int x0]) ++ List.replicate (4 - (lg_sl ([.ref h0, .int x0])).length) Slot.unset).toArray = ls at hl ⊢
  have hl : lv_has ls 4 [(0, .ref h0), (1, .int x0)] := hl
  refine lv_aload_n hx hb dX12_count_0 rfl (lv_at hl 0 rfl) ?_
  refine lv_iconst (v := 0) hx hb dX12_count_1 (by decide) ?_
  refine k_put (D := D) (ci := 12) (v := .int 0) (ty := .int) (N := 195) hx hb hts hin12 tyX12 tyX12_ok nmX12 hown hK hP hD hS 0 rfl rfl (by decide) f9_12_0 (hts (.fieldLink RX12 3 "IntegerHouseModel" "thrown" "I") (o9_X12_count _ (List.mem_of_getElem? (i := 0) rfl))) rfl pd_2 rfl rfl (k_len e0) dX12_count_2 (fun H locs hP hD hS => ?_)
  have hP : va_P D vwCl [(h0, .inr (12, (f0.set 0 (.int 0))))] H := hP
  have hD : va_D A [(h0, .inr (12, (f0.set 0 (.int 0))))] := hD
  refine lv_iload_n hx hb dX12_count_5 rfl (lv_at hl 1 rfl) ?_
  refine lv_iconst (v := 4) hx hb dX12_count_6 (by decide) ?_
  refine lv_icmp_ne (tgt := 15) hx hb dX12_count_7 (by decide) (fun _ => ?_) (fun c9 => absurd c9 e1)
  refine lv_aload_n hx hb dX12_count_15 rfl (lv_at hl 0 rfl) ?_
  refine k_get (D := D) (ci := 12) (v := .int 0) (N := 195) hx hb hts hin12 hown hK hP 0 rfl rfl (by decide) f9_12_5 (hts (.fieldLink RX12 488 "IntegerHouseModel" "down" "Z") (o9_X12_count _ (List.mem_of_getElem? (i := 1) rfl))) (k_ne (by decide) e2) dX12_count_16 ?_
  refine lv_if_eq (tgt := 25) hx hb dX12_count_19 (by decide) (fun _ => ?_) (fun c9 => absurd (by decide) c9)
  refine lv_iconst (v := 0) hx hb dX12_count_25 (by decide) ?_
  refine lv_istore_n (lv' := [(2, .int 0), (0, .ref h0), (1, .int x0)]) hx hb dX12_count_26 rfl hl (by decide) rfl (fun ls hl => ?_)
  refine lv_iconst (v := 0) hx hb dX12_count_27 (by decide) ?_
  refine lv_istore_n (lv' := [(3, .int 0), (2, .int 0), (0, .ref h0), (1, .int x0)]) hx hb dX12_count_28 rfl hl (by decide) rfl (fun ls hl => ?_)
  refine lv_iload_n hx hb dX12_count_29 rfl (lv_at hl 0 rfl) ?_
  refine lv_aload_n hx hb dX12_count_30 rfl (lv_at hl 2 rfl) ?_
  refine k_get (D := D) (ci := 12) (v := .int 0) (N := 195) hx hb hts hin12 hown hK hP 0 rfl rfl (by decide) f9_12_33 (hts (.fieldLink RX12 818 "IntegerHouseModel" "claims" "I") (o9_X12_count _ (List.mem_of_getElem? (i := 2) rfl))) (k_ne (by decide) e3) dX12_count_31 ?_
  refine lv_icmp_ge (tgt := 60) hx hb dX12_count_34 (by decide) (fun _ => ?_) (fun c9 => absurd (by decide) c9)
  refine lv_iload_n hx hb dX12_count_60 rfl (lv_at hl 3 rfl) ?_
  refine lv_tableIn (off := 74) (tgt := 135) hx hb dX12_count_61 (by rw [e4]; decide) (by rw [e4]; decide) (by rw [e4]; rfl) (by decide) ?_
  refine lv_aload_n hx hb dX12_count_135 rfl (lv_at hl 2 rfl) ?_
  refine k_get (D := D) (ci := 12) (v := .int 0) (N := 195) hx hb hts hin12 hown hK hP 0 rfl rfl (by decide) f9_12_16 (hts (.fieldLink RX12 498 "IntegerHouseModel" "done" "I") (o9_X12_count _ (List.mem_of_getElem? (i := 8) rfl))) (k_ne (by decide) e5) dX12_count_136 ?_
  exact W.iret (v := 0) hx hb hr (fun t ht hW => ⟨⟨0, (), rfl, rfl, kB_mk ht hW hP hK hD⟩, hS.F ht⟩) hS.2.2 dX12_count_139
set_option maxHeartbeats 400000000 in
set_option maxRecDepth 100000 in
theorem c_X11_useTape_0 (l : Launch) (E : kE) (D : va_G) (cI cJ cB cZ : ClassId) (h0 : Nat) (f0 : List Value) (e0 : f0[12]? = some (.int 0)) : kI l E D (kT cI cJ cB cZ) yX11_useTape vW_X11_useTape ({ frames := 0, cells := 0, slots := 0, locals := 0 }) [.ref h0] [(h0, .inr (11, f0))] (0) [(h0, .inr (11, (f0.set 12 (.int 0))))] 0 0 := by
  intro sz
  refine Met.ofW (cc := cX11_useTape) (maxL := 2) (ret := (some .int)) (by decide) rfl ?_
  intro p e s m args below meth c s₁ B hml hv
  obtain ⟨rfl, hsz, hP, hK, hD0, hN, hX⟩ := hv
  have hx := B.exec
  have hb := B.bytes
  have hr := B.returns
  have hts := atoms_spec (ws := vW_X11_useTape) B.pre
  have hown : s.vm.findClass RX11 = some m.cls := findClass_of_methodNamed B.named
  have hlocks := B.notSynchronized
  have hin11 : ∀ w ∈ wsX110, w ∈ vW_X11_useTape := u9_X11_useTape_wsX110
  subst hsz
  have hD := hD0.self (sz := s.heap.size)
  have hAE := k_AE hD0 hX
  generalize hAe : va_A [(h0, .inr (11, f0))] s.heap.size = A at hD hAE ⊢
  have hA : ∀ q : Nat, s.heap.size ≤ q → A q := fun q h => by rw [← hAe]; exact Or.inr h
  have hS : va_S A s.heap s.heap [] := va_S.rf
  have hP : va_P D vwCl [(h0, .inr (11, f0))] s.heap := hP
  have hl := lv_entry ([.ref h0] : List Value) (n := 2) (Nat.le_of_ble_eq_true rfl)
  rw [lg_entry_eq]
  generalize (lg_sl ([.ref h0]) ++ List.replicate (2 - (lg_sl ([.ref h0])).length) Slot.unset).toArray = ls at hl ⊢
  have hl : lv_has ls 2 [(0, .ref h0)] := hl
  refine lv_aload_n hx hb dX11_useTape_0 rfl (lv_at hl 0 rfl) ?_
  refine k_get (D := D) (ci := 11) (v := .int 0) (N := 15) hx hb hts hin11 hown hK hP 0 rfl rfl (by decide) f9_11_12 (hts (.fieldLink RX11 102 "IntegerHouse" "tapeLength" "I") (o9_X11_useTape _ (List.mem_of_getElem? (i := 0) rfl))) e0 dX11_useTape_1 ?_
  refine lv_istore_n (lv' := [(1, .int 0), (0, .ref h0)]) hx hb dX11_useTape_4 rfl hl (by decide) rfl (fun ls hl => ?_)
  refine lv_aload_n hx hb dX11_useTape_5 rfl (lv_at hl 1 rfl) ?_
  refine lv_iconst (v := 0) hx hb dX11_useTape_6 (by decide) ?_
  refine k_put (D := D) (ci := 11) (v := .int 0) (ty := .int) (N := 15) hx hb hts hin11 tyX11 tyX11_ok nmX11 hown hK hP hD hS 0 rfl rfl (by decide) f9_11_12 (hts (.fieldLink RX11 102 "IntegerHouse" "tapeLength" "I") (o9_X11_useTape _ (List.mem_of_getElem? (i := 0) rfl))) rfl pd_2 rfl rfl (k_len e0) dX11_useTape_7 (fun H locs hP hD hS => ?_)
  have hP : va_P D vwCl [(h0, .inr (11, (f0.set 12 (.int 0))))] H := hP
  have hD : va_D A [(h0, .inr (11, (f0.set 12 (.int 0))))] := hD
  refine lv_iload_n hx hb dX11_useTape_10 rfl (lv_at hl 0 rfl) ?_
  exact W.iret (v := 0) hx hb hr (fun t ht hW => ⟨⟨0, (), rfl, rfl, kB_mk ht hW hP hK hD⟩, hS.F ht⟩) hS.2.2 dX11_useTape_11
set_option maxHeartbeats 400000000 in
set_option maxRecDepth 100000 in
theorem c_X3_behindBlanks_0 (l : Launch) (E : kE) (D : va_G) (cI cJ cB cZ : ClassId) (h0 : Nat) (f0 : List Value) (e0 : f0[8]? = some (.int 0)) : kI l E D (kT cI cJ cB cZ) yX3_behindBlanks vW_X3_behindBlanks ({ frames := 0, cells := 0, slots := 0, locals := 0 }) [.ref h0, .int 0] [(h0, .inr (3, f0))] (0) [(h0, .inr (3, f0))] 0 0 := by
  intro sz
  refine Met.ofW (cc := cX3_behindBlanks) (maxL := 3) (ret := (some .int)) (by decide) rfl ?_
  intro p e s m args below meth c s₁ B hml hv
  obtain ⟨rfl, hsz, hP, hK, hD0, hN, hX⟩ := hv
  have hx := B.exec
  have hb := B.bytes
  have hr := B.returns
  have hts := atoms_spec (ws := vW_X3_behindBlanks) B.pre
  have hown : s.vm.findClass RX3 = some m.cls := findClass_of_methodNamed B.named
  have hlocks := B.notSynchronized
  have hin3 : ∀ w ∈ wsX30, w ∈ vW_X3_behindBlanks := u9_X3_behindBlanks_wsX30
  subst hsz
  have hD := hD0.self (sz := s.heap.size)
  have hAE := k_AE hD0 hX
  generalize hAe : va_A [(h0, .inr (3, f0))] s.heap.size = A at hD hAE ⊢
  have hA : ∀ q : Nat, s.heap.size ≤ q → A q := fun q h => by rw [← hAe]; exact Or.inr h
  have hS : va_S A s.heap s.heap [] := va_S.rf
  have hP : va_P D vwCl [(h0, .inr (3, f0))] s.heap := hP
  have hl := lv_entry ([.ref h0, .int 0] : List Value) (n := 3) (Nat.le_of_ble_eq_true rfl)
  rw [lg_entry_eq]
  generalize (lg_sl ([.ref h0, .int 0]) ++ List.replicate (3 - (lg_sl ([.ref h0, .int 0])).length) Slot.unset).toArray = ls at hl ⊢
  have hl : lv_has ls 3 [(0, .ref h0), (1, .int 0)] := hl
  refine lv_iload_n hx hb dX3_behindBlanks_0 rfl (lv_at hl 1 rfl) ?_
  refine lv_istore_n (lv' := [(2, .int 0), (0, .ref h0), (1, .int 0)]) hx hb dX3_behindBlanks_1 rfl hl (by decide) rfl (fun ls hl => ?_)
  refine lv_iload_n hx hb dX3_behindBlanks_2 rfl (lv_at hl 0 rfl) ?_
  refine lv_aload_n hx hb dX3_behindBlanks_3 rfl (lv_at hl 1 rfl) ?_
  refine k_get (D := D) (ci := 3) (v := .int 0) (N := 9) hx hb hts hin3 hown hK hP 0 rfl rfl (by decide) f9_3_8 (hts (.fieldLink RX3 52 "IntegerHouse$Lexer" "stop" "I") (o9_X3_behindBlanks _ (List.mem_of_getElem? (i := 0) rfl))) e0 dX3_behindBlanks_4 ?_
  refine lv_icmp_ge (tgt := 36) hx hb dX3_behindBlanks_7 (by decide) (fun _ => ?_) (fun c9 => absurd (by decide) c9)
  refine lv_iload_n hx hb dX3_behindBlanks_36 rfl (lv_at hl 0 rfl) ?_
  exact W.iret (v := 0) hx hb hr (fun t ht hW => ⟨⟨0, (), rfl, rfl, kB_mk ht hW hP hK hD⟩, hS.F ht⟩) hS.2.2 dX3_behindBlanks_37
set_option maxHeartbeats 400000000 in
set_option maxRecDepth 100000 in
theorem c_X3_scan_0 (l : Launch) (E : kE) (D : va_G) (cI cJ cB cZ : ClassId) (h0 : Nat) (h1 : Nat) (f0 : List Value) (h2 : Nat) (h3 : Nat) (g0 : Nat → Int32) (h4 : Nat) (g1 : Nat → Int32) (e0 : f0[6]? = some (.ref h2)) (e1 : f0[7]? = some (.int 0)) (e2 : f0[8]? = some (.int 0)) (e3 : f0[5]? = some (.int 0)) (e4 : f0[1]? = some (.ref h3)) (e5 : f0[2]? = some (.ref h4)) : kV l E D (kT cI cJ cB cZ) yX3_scan vW_X3_scan ({ frames := 1, cells := 0, slots := 0, locals := 22 }) [.ref h0, .ref h1, .int 0, .int 0, .int 0] [(h0, .inr (3, f0)), (h3, .inl (cI, 2001, .inl g0)), (h4, .inl (cI, 2001, .inl g1))] (fun _ : Unit => [(h0, .inr (3, ((((f0.set 6 (.ref h1)).set 7 (.int 0)).set 8 (.int 0)).set 5 (.int 0)))), (h3, .inl (cI, 2001, .inl (upd g0 0 0))), (h4, .inl (cI, 2001, .inl (upd g1 0 0)))]) 0 0 := by
  intro sz
  refine Met.ofW (cc := cX3_scan) (maxL := 9) (ret := none) (by decide) rfl ?_
  intro p e s m args below meth c s₁ B hml hv
  obtain ⟨rfl, hsz, hP, hK, hD0, hN, hX⟩ := hv
  have hx := B.exec
  have hb := B.bytes
  have hr := B.returns
  have hts := atoms_spec (ws := vW_X3_scan) B.pre
  have hown : s.vm.findClass RX3 = some m.cls := findClass_of_methodNamed B.named
  have hlocks := B.notSynchronized
  have hin3 : ∀ w ∈ wsX30, w ∈ vW_X3_scan := u9_X3_scan_wsX30
  subst hsz
  have hD := hD0.self (sz := s.heap.size)
  have hAE := k_AE hD0 hX
  generalize hAe : va_A [(h0, .inr (3, f0)), (h3, .inl (cI, 2001, .inl g0)), (h4, .inl (cI, 2001, .inl g1))] s.heap.size = A at hD hAE ⊢
  have hA : ∀ q : Nat, s.heap.size ≤ q → A q := fun q h => by rw [← hAe]; exact Or.inr h
  have hS : va_S A s.heap s.heap [] := va_S.rf
  have hP : va_P D vwCl [(h0, .inr (3, f0)), (h3, .inl (cI, 2001, .inl g0)), (h4, .inl (cI, 2001, .inl g1))] s.heap := hP
  have hl := lv_entry ([.ref h0, .ref h1, .int 0, .int 0, .int 0] : List Value) (n := 9) (Nat.le_of_ble_eq_true rfl)
  rw [lg_entry_eq]
  generalize (lg_sl ([.ref h0, .ref h1, .int 0, .int 0, .int 0]) ++ List.replicate (9 - (lg_sl ([.ref h0, .ref h1, .int 0, .int 0, .int 0])).length) Slot.unset).toArray = ls at hl ⊢
  have hl : lv_has ls 9 [(0, .ref h0), (1, .ref h1), (2, .int 0), (3, .int 0), (4, .int 0)] := hl
  refine lv_aload_n hx hb dX3_scan_0 rfl (lv_at hl 0 rfl) ?_
  refine lv_aload_n hx hb dX3_scan_1 rfl (lv_at hl 1 rfl) ?_
  refine k_put (D := D) (ci := 3) (v := .ref h1) (ty := (.array .byte)) (N := 9) hx hb hts hin3 tyX3 tyX3_ok nmX3 hown hK hP hD hS 0 rfl rfl (by decide) f9_3_6 (hts (.fieldLink RX3 28 "IntegerHouse$Lexer" "source" "[B") (o9_X3_scan _ (List.mem_of_getElem? (i := 0) rfl))) rfl pd_0 rfl rfl (k_len e0) dX3_scan_2 (fun H locs hP hD hS => ?_)
  have hP : va_P D vwCl [(h0, .inr (3, (f0.set 6 (.ref h1)))), (h3, .inl (cI, 2001, .inl g0)), (h4, .inl (cI, 2001, .inl g1))] H := hP
  have hD : va_D A [(h0, .inr (3, (f0.set 6 (.ref h1)))), (h3, .inl (cI, 2001, .inl g0)), (h4, .inl (cI, 2001, .inl g1))] := hD
  refine lv_aload_n hx hb dX3_scan_5 rfl (lv_at hl 0 rfl) ?_
  refine lv_iload_n hx hb dX3_scan_6 rfl (lv_at hl 2 rfl) ?_
  refine k_put (D := D) (ci := 3) (v := .int 0) (ty := .int) (N := 9) hx hb hts hin3 tyX3 tyX3_ok nmX3 hown hK hP hD hS 0 rfl rfl (by decide) f9_3_7 (hts (.fieldLink RX3 55 "IntegerHouse$Lexer" "begin" "I") (o9_X3_scan _ (List.mem_of_getElem? (i := 1) rfl))) rfl pd_2 rfl rfl (k_len (k_ne (by decide) e1)) dX3_scan_7 (fun H locs hP hD hS => ?_)
  have hP : va_P D vwCl [(h0, .inr (3, ((f0.set 6 (.ref h1)).set 7 (.int 0)))), (h3, .inl (cI, 2001, .inl g0)), (h4, .inl (cI, 2001, .inl g1))] H := hP
  have hD : va_D A [(h0, .inr (3, ((f0.set 6 (.ref h1)).set 7 (.int 0)))), (h3, .inl (cI, 2001, .inl g0)), (h4, .inl (cI, 2001, .inl g1))] := hD
  refine lv_aload_n hx hb dX3_scan_10 rfl (lv_at hl 0 rfl) ?_
  refine lv_iload_n hx hb dX3_scan_11 rfl (lv_at hl 2 rfl) ?_
  refine lv_iload_n hx hb dX3_scan_12 rfl (lv_at hl 3 rfl) ?_
  refine lv_iadd hx hb dX3_scan_13 ?_
  refine k_topi (y := 0) (by decide) ?_
  refine k_put (D := D) (ci := 3) (v := .int 0) (ty := .int) (N := 9) hx hb hts hin3 tyX3 tyX3_ok nmX3 hown hK hP hD hS 0 rfl rfl (by decide) f9_3_8 (hts (.fieldLink RX3 52 "IntegerHouse$Lexer" "stop" "I") (o9_X3_scan _ (List.mem_of_getElem? (i := 2) rfl))) rfl pd_2 rfl rfl (k_len (k_ne (by decide) (k_ne (by decide) e2))) dX3_scan_14 (fun H locs hP hD hS => ?_)
  have hP : va_P D vwCl [(h0, .inr (3, (((f0.set 6 (.ref h1)).set 7 (.int 0)).set 8 (.int 0)))), (h3, .inl (cI, 2001, .inl g0)), (h4, .inl (cI, 2001, .inl g1))] H := hP
  have hD : va_D A [(h0, .inr (3, (((f0.set 6 (.ref h1)).set 7 (.int 0)).set 8 (.int 0)))), (h3, .inl (cI, 2001, .inl g0)), (h4, .inl (cI, 2001, .inl g1))] := hD
  refine lv_aload_n hx hb dX3_scan_17 rfl (lv_at hl 0 rfl) ?_
  refine lv_iconst (v := 0) hx hb dX3_scan_18 (by decide) ?_
  refine k_put (D := D) (ci := 3) (v := .int 0) (ty := .int) (N := 9) hx hb hts hin3 tyX3 tyX3_ok nmX3 hown hK hP hD hS 0 rfl rfl (by decide) f9_3_5 (hts (.fieldLink RX3 48 "IntegerHouse$Lexer" "size" "I") (o9_X3_scan _ (List.mem_of_getElem? (i := 3) rfl))) rfl pd_2 rfl rfl (k_len (k_ne (by decide) (k_ne (by decide) (k_ne (by decide) e3)))) dX3_scan_19 (fun H locs hP hD hS => ?_)
  have hP : va_P D vwCl [(h0, .inr (3, ((((f0.set 6 (.ref h1)).set 7 (.int 0)).set 8 (.int 0)).set 5 (.int 0)))), (h3, .inl (cI, 2001, .inl g0)), (h4, .inl (cI, 2001, .inl g1))] H := hP
  have hD : va_D A [(h0, .inr (3, ((((f0.set 6 (.ref h1)).set 7 (.int 0)).set 8 (.int 0)).set 5 (.int 0)))), (h3, .inl (cI, 2001, .inl g0)), (h4, .inl (cI, 2001, .inl g1))] := hD
  refine lv_aload_n hx hb dX3_scan_22 rfl (lv_at hl 0 rfl) ?_
  refine lv_iload_n hx hb dX3_scan_23 rfl (lv_at hl 2 rfl) ?_
  refine k_cVi (As := [.int 0]) (rest := []) (wc := [(h0, .inr (3, ((((f0.set 6 (.ref h1)).set 7 (.int 0)).set 8 (.int 0)).set 5 (.int 0))))]) (wr := [(h3, .inl (cI, 2001, .inl g0)), (h4, .inl (cI, 2001, .inl g1))]) (w1 := [(h0, .inr (3, ((((f0.set 6 (.ref h1)).set 7 (.int 0)).set 8 (.int 0)).set 5 (.int 0))))]) ⟨hx, hb, hml, hown, hts⟩ hN hX hAE hK hP hD hS hA [0] [1, 2] (ci := 3) rfl rfl rfl rfl (by decide +kernel) (by decide +kernel) (by decide +kernel) (c_X3_behindBlanks_0 l E D cI cJ cB cZ h0 (((((f0.set 6 (.ref h1)).set 7 (.int 0)).set 8 (.int 0)).set 5 (.int 0))) (k_ne (by decide) (k_set (k_ne (by decide) (k_ne (by decide) e2))))) (cwV 1 hts g9_X3_scan_X3_behindBlanks_59 rfl rfl rfl (by decide +kernel) ⟨Nat.le_of_ble_eq_true rfl, Nat.le_of_ble_eq_true rfl⟩) rfl hl.1 (Nat.le_of_ble_eq_true rfl) dX3_scan_24 ⟨Nat.le_of_ble_eq_true rfl, Nat.le_of_ble_eq_true rfl⟩ (fun H locs hP hD hS => ?_)
  have hP : va_P D vwCl [(h3, .inl (cI, 2001, .inl g0)), (h4, .inl (cI, 2001, .inl g1)), (h0, .inr (3, ((((f0.set 6 (.ref h1)).set 7 (.int 0)).set 8 (.int 0)).set 5 (.int 0))))] H := hP
  have hD : va_D A [(h3, .inl (cI, 2001, .inl g0)), (h4, .inl (cI, 2001, .inl g1)), (h0, .inr (3, ((((f0.set 6 (.ref h1)).set 7 (.int 0)).set 8 (.int 0)).set 5 (.int 0))))] := hD
  refine lv_istore (lv' := [(5, .int 0), (0, .ref h0), (1, .ref h1), (2, .int 0), (3, .int 0), (4, .int 0)]) hx hb dX3_scan_27 hl (by decide) rfl (fun ls hl => ?_)
  refine lv_iload hx hb dX3_scan_29 (lv_at hl 5 rfl) ?_
  refine lv_if_eq (tgt := 39) hx hb dX3_scan_31 (by decide) (fun _ => ?_) (fun c9 => absurd (by decide) c9)
  refine lv_bipush (v := 14) hx hb dX3_scan_39 (by decide) ?_
  refine lv_istore (lv' := [(6, .int 14), (5, .int 0), (0, .ref h0), (1, .ref h1), (2, .int 0), (3, .int 0), (4, .int 0)]) hx hb dX3_scan_41 hl (by decide) rfl (fun ls hl => ?_)
  refine lv_iconst (v := 0) hx hb dX3_scan_43 (by decide) ?_
  refine lv_istore (lv' := [(7, .int 0), (6, .int 14), (5, .int 0), (0, .ref h0), (1, .ref h1), (2, .int 0), (3, .int 0), (4, .int 0)]) hx hb dX3_scan_44 hl (by decide) rfl (fun ls hl => ?_)
  refine lv_iload hx hb dX3_scan_46 (lv_at hl 0 rfl) ?_
  refine lv_sipush (v := 2000) hx hb dX3_scan_48 (by decide) ?_
  refine lv_icmp_ge (tgt := 179) hx hb dX3_scan_51 (by decide) (fun c9 => absurd c9 (by decide)) (fun _ => ?_)
  refine lv_iload hx hb dX3_scan_54 (lv_at hl 2 rfl) ?_
  refine lv_aload_n hx hb dX3_scan_56 rfl (lv_at hl 3 rfl) ?_
  refine k_get (D := D) (ci := 3) (v := .int 0) (N := 9) hx hb hts hin3 hown hK hP 2 rfl rfl (by decide) f9_3_8 (hts (.fieldLink RX3 52 "IntegerHouse$Lexer" "stop" "I") (o9_X3_scan _ (List.mem_of_getElem? (i := 2) rfl))) (k_ne (by decide) (k_set (k_ne (by decide) (k_ne (by decide) e2)))) dX3_scan_57 ?_
  refine lv_icmp_ge (tgt := 179) hx hb dX3_scan_60 (by decide) (fun _ => ?_) (fun c9 => absurd (by decide) c9)
  refine lv_aload_n hx hb dX3_scan_179 rfl (lv_at hl 3 rfl) ?_
  refine k_get (D := D) (ci := 3) (v := .ref h3) (N := 9) hx hb hts hin3 hown hK hP 2 rfl rfl (by decide) f9_3_1 (hts (.fieldLink RX3 15 "IntegerHouse$Lexer" "kinds" "[I") (o9_X3_scan _ (List.mem_of_getElem? (i := 8) rfl))) (k_ne (by decide) (k_ne (by decide) (k_ne (by decide) (k_ne (by decide) e4)))) dX3_scan_180 ?_
  refine lv_aload_n hx hb dX3_scan_183 rfl (lv_at hl 3 rfl) ?_
  refine k_get (D := D) (ci := 3) (v := .int 0) (N := 9) hx hb hts hin3 hown hK hP 2 rfl rfl (by decide) f9_3_5 (hts (.fieldLink RX3 48 "IntegerHouse$Lexer" "size" "I") (o9_X3_scan _ (List.mem_of_getElem? (i := 3) rfl))) (k_set (k_ne (by decide) (k_ne (by decide) (k_ne (by decide) e3)))) dX3_scan_184 ?_
  refine lv_iconst (v := 0) hx hb dX3_scan_187 (by decide) ?_
  refine va_iast hx hb hK hP hD hS 0 0 rfl rfl (k_in (by decide)) dX3_scan_188 (fun H locs hP hD hS => ?_)
  have hP : va_P D vwCl [(h3, .inl (cI, 2001, .inl (upd g0 0 0))), (h4, .inl (cI, 2001, .inl g1)), (h0, .inr (3, ((((f0.set 6 (.ref h1)).set 7 (.int 0)).set 8 (.int 0)).set 5 (.int 0))))] H := hP
  have hD : va_D A [(h3, .inl (cI, 2001, .inl (upd g0 0 0))), (h4, .inl (cI, 2001, .inl g1)), (h0, .inr (3, ((((f0.set 6 (.ref h1)).set 7 (.int 0)).set 8 (.int 0)).set 5 (.int 0))))] := hD
  refine lv_aload_n hx hb dX3_scan_189 rfl (lv_at hl 3 rfl) ?_
  refine k_get (D := D) (ci := 3) (v := .ref h4) (N := 9) hx hb hts hin3 hown hK hP 2 rfl rfl (by decide) f9_3_2 (hts (.fieldLink RX3 19 "IntegerHouse$Lexer" "spots" "[I") (o9_X3_scan _ (List.mem_of_getElem? (i := 9) rfl))) (k_ne (by decide) (k_ne (by decide) (k_ne (by decide) (k_ne (by decide) e5)))) dX3_scan_190 ?_
  refine lv_aload_n hx hb dX3_scan_193 rfl (lv_at hl 3 rfl) ?_
  refine k_get (D := D) (ci := 3) (v := .int 0) (N := 9) hx hb hts hin3 hown hK hP 2 rfl rfl (by decide) f9_3_5 (hts (.fieldLink RX3 48 "IntegerHouse$Lexer" "size" "I") (o9_X3_scan _ (List.mem_of_getElem? (i := 3) rfl))) (k_set (k_ne (by decide) (k_ne (by decide) (k_ne (by decide) e3)))) dX3_scan_194 ?_
  refine lv_iload_n hx hb dX3_scan_197 rfl (lv_at hl 6 rfl) ?_
  refine va_iast hx hb hK hP hD hS 1 0 rfl rfl (k_in (by decide)) dX3_scan_198 (fun H locs hP hD hS => ?_)
  have hP : va_P D vwCl [(h3, .inl (cI, 2001, .inl (upd g0 0 0))), (h4, .inl (cI, 2001, .inl (upd g1 0 0))), (h0, .inr (3, ((((f0.set 6 (.ref h1)).set 7 (.int 0)).set 8 (.int 0)).set 5 (.int 0))))] H := hP
  have hD : va_D A [(h3, .inl (cI, 2001, .inl (upd g0 0 0))), (h4, .inl (cI, 2001, .inl (upd g1 0 0))), (h0, .inr (3, ((((f0.set 6 (.ref h1)).set 7 (.int 0)).set 8 (.int 0)).set 5 (.int 0))))] := hD
  have hP := hP.sub (ws' := [(h0, .inr (3, ((((f0.set 6 (.ref h1)).set 7 (.int 0)).set 8 (.int 0)).set 5 (.int 0)))), (h3, .inl (cI, 2001, .inl (upd g0 0 0))), (h4, .inl (cI, 2001, .inl (upd g1 0 0)))]) [2, 0, 1] rfl
  have hD := hD.sub (ws' := [(h0, .inr (3, ((((f0.set 6 (.ref h1)).set 7 (.int 0)).set 8 (.int 0)).set 5 (.int 0)))), (h3, .inl (cI, 2001, .inl (upd g0 0 0))), (h4, .inl (cI, 2001, .inl (upd g1 0 0)))]) [2, 0, 1] (by decide +kernel) rfl
  exact W.vret hx hb hr (fun t ht hW => ⟨⟨(), rfl, trivial, kB_mk ht hW hP hK hD⟩, hS.F ht⟩) hS.2.2 dX3_scan_199
