theorem dX0_boundDigit_0 : decode cX0_boundDigit 0 = .ok (.iconst 0, 1) := by decide +kernel
theorem dX0_boundDigit_1 : decode cX0_boundDigit 1 = .ok (.istore_n 2, 1) := by decide +kernel
theorem dX0_boundDigit_2 : decode cX0_boundDigit 2 = .ok (.lconst 1, 1) := by decide +kernel
theorem dX0_boundDigit_3 : decode cX0_boundDigit 3 = .ok (.lstore_n 3, 1) := by decide +kernel
theorem dX0_boundDigit_4 : decode cX0_boundDigit 4 = .ok (.iconst 0, 1) := by decide +kernel
theorem dX0_boundDigit_5 : decode cX0_boundDigit 5 = .ok (.istore 5, 2) := by decide +kernel
theorem dX0_boundDigit_7 : decode cX0_boundDigit 7 = .ok (.iload 5, 2) := by decide +kernel
theorem dX0_boundDigit_9 : decode cX0_boundDigit 9 = .ok (.aload_n 0, 1) := by decide +kernel
theorem dX0_boundDigit_10 : decode cX0_boundDigit 10 = .ok (.getfield 44, 3) := by decide +kernel
theorem dX0_boundDigit_13 : decode cX0_boundDigit 13 = .ok (.getfield 173, 3) := by decide +kernel
theorem dX0_boundDigit_16 : decode cX0_boundDigit 16 = .ok (.if_icmp .ge 69, 3) := by decide +kernel
theorem dX0_boundDigit_85 : decode cX0_boundDigit 85 = .ok (.iload_n 2, 1) := by decide +kernel
theorem dX0_boundDigit_86 : decode cX0_boundDigit 86 = .ok (.ifCond .eq 17, 3) := by decide +kernel
theorem dX0_boundDigit_103 : decode cX0_boundDigit 103 = .ok (.iconst 0, 1) := by decide +kernel
theorem dX0_boundDigit_104 : decode cX0_boundDigit 104 = .ok (.ireturn, 1) := by decide +kernel
theorem dX7_isLine_0 : decode cX7_isLine 0 = .ok (.iload_n 1, 1) := by decide +kernel
theorem dX7_isLine_1 : decode cX7_isLine 1 = .ok (.iconst 1, 1) := by decide +kernel
theorem dX7_isLine_2 : decode cX7_isLine 2 = .ok (.if_icmp .lt 15, 3) := by decide +kernel
theorem dX7_isLine_5 : decode cX7_isLine 5 = .ok (.iload_n 1, 1) := by decide +kernel
theorem dX7_isLine_6 : decode cX7_isLine 6 = .ok (.aload_n 0, 1) := by decide +kernel
theorem dX7_isLine_7 : decode cX7_isLine 7 = .ok (.getfield 46, 3) := by decide +kernel
theorem dX7_isLine_10 : decode cX7_isLine 10 = .ok (.if_icmp .gt 7, 3) := by decide +kernel
theorem dX7_isLine_17 : decode cX7_isLine 17 = .ok (.iconst 0, 1) := by decide +kernel
theorem dX7_isLine_18 : decode cX7_isLine 18 = .ok (.ireturn, 1) := by decide +kernel
theorem dX11_prove_0 : decode cX11_prove 0 = .ok (.aload_n 0, 1) := by decide +kernel
theorem dX11_prove_1 : decode cX11_prove 1 = .ok (.getfield 16, 3) := by decide +kernel
theorem dX11_prove_4 : decode cX11_prove 4 = .ok (.getfield 122, 3) := by decide +kernel
theorem dX11_prove_7 : decode cX11_prove 7 = .ok (.ifCond .eq 6, 3) := by decide +kernel
theorem dX11_prove_13 : decode cX11_prove 13 = .ok (.aload_n 0, 1) := by decide +kernel
theorem dX11_prove_14 : decode cX11_prove 14 = .ok (.getfield 98, 3) := by decide +kernel
theorem dX11_prove_17 : decode cX11_prove 17 = .ok (.aload_n 0, 1) := by decide +kernel
theorem dX11_prove_18 : decode cX11_prove 18 = .ok (.getfield 9, 3) := by decide +kernel
theorem dX11_prove_21 : decode cX11_prove 21 = .ok (.aload_n 0, 1) := by decide +kernel
theorem dX11_prove_22 : decode cX11_prove 22 = .ok (.invokevirtual 230, 3) := by decide +kernel
theorem dX11_prove_25 : decode cX11_prove 25 = .ok (.invokevirtual 395, 3) := by decide +kernel
theorem dX11_prove_28 : decode cX11_prove 28 = .ok (.istore_n 1, 1) := by decide +kernel
theorem dX11_prove_29 : decode cX11_prove 29 = .ok (.iload_n 1, 1) := by decide +kernel
theorem dX11_prove_30 : decode cX11_prove 30 = .ok (.iconst (-1), 1) := by decide +kernel
theorem dX11_prove_31 : decode cX11_prove 31 = .ok (.if_icmp .ne 26, 3) := by decide +kernel
theorem dX11_prove_57 : decode cX11_prove 57 = .ok (.iload_n 1, 1) := by decide +kernel
theorem dX11_prove_58 : decode cX11_prove 58 = .ok (.ireturn, 1) := by decide +kernel
theorem dX11_line_0 : decode cX11_line 0 = .ok (.aload_n 0, 1) := by decide +kernel
theorem dX11_line_1 : decode cX11_line 1 = .ok (.getfield 98, 3) := by decide +kernel
theorem dX11_line_4 : decode cX11_line 4 = .ok (.iload_n 1, 1) := by decide +kernel
theorem dX11_line_5 : decode cX11_line 5 = .ok (.invokevirtual 400, 3) := by decide +kernel
theorem dX11_line_8 : decode cX11_line 8 = .ok (.ifCond .eq 12, 3) := by decide +kernel
theorem dX11_line_20 : decode cX11_line 20 = .ok (.new 197, 3) := by decide +kernel
theorem dX11_line_23 : decode cX11_line 23 = .ok (.dup, 1) := by decide +kernel
theorem dX11_line_24 : decode cX11_line 24 = .ok (.ldc_w 403, 3) := by decide +kernel
theorem dX11_line_27 : decode cX11_line 27 = .ok (.invokespecial 201, 3) := by decide +kernel
theorem dX11_line_30 : decode cX11_line 30 = .ok (.athrow, 1) := by decide +kernel
theorem dX11_bound_0 : decode cX11_bound 0 = .ok (.aload_n 0, 1) := by decide +kernel
theorem dX11_bound_1 : decode cX11_bound 1 = .ok (.getfield 16, 3) := by decide +kernel
theorem dX11_bound_4 : decode cX11_bound 4 = .ok (.getfield 122, 3) := by decide +kernel
theorem dX11_bound_7 : decode cX11_bound 7 = .ok (.ifCond .eq 8, 3) := by decide +kernel
theorem dX11_bound_15 : decode cX11_bound 15 = .ok (.aload_n 0, 1) := by decide +kernel
theorem dX11_bound_16 : decode cX11_bound 16 = .ok (.getfield 64, 3) := by decide +kernel
theorem dX11_bound_19 : decode cX11_bound 19 = .ok (.iload_n 1, 1) := by decide +kernel
theorem dX11_bound_20 : decode cX11_bound 20 = .ok (.invokevirtual 409, 3) := by decide +kernel
theorem dX11_bound_23 : decode cX11_bound 23 = .ok (.ireturn, 1) := by decide +kernel
theorem dX11_audit_0 : decode cX11_audit 0 = .ok (.aload_n 0, 1) := by decide +kernel
theorem dX11_audit_1 : decode cX11_audit 1 = .ok (.getfield 16, 3) := by decide +kernel
theorem dX11_audit_4 : decode cX11_audit 4 = .ok (.getfield 122, 3) := by decide +kernel
theorem dX11_audit_7 : decode cX11_audit 7 = .ok (.ifCond .eq 8, 3) := by decide +kernel
theorem dX11_audit_15 : decode cX11_audit 15 = .ok (.iconst 0, 1) := by decide +kernel
theorem dX11_audit_16 : decode cX11_audit 16 = .ok (.ireturn, 1) := by decide +kernel
theorem dX12_prove_0 : decode cX12_prove 0 = .ok (.aload_n 0, 1) := by decide +kernel
theorem dX12_prove_1 : decode cX12_prove 1 = .ok (.invokevirtual 871, 3) := by decide +kernel
theorem dX12_prove_4 : decode cX12_prove 4 = .ok (.ifCond .ne 6, 3) := by decide +kernel
theorem dX12_prove_10 : decode cX12_prove 10 = .ok (.aload_n 0, 1) := by decide +kernel
theorem dX12_prove_11 : decode cX12_prove 11 = .ok (.invokevirtual 874, 3) := by decide +kernel
theorem dX12_prove_14 : decode cX12_prove 14 = .ok (.aload_n 0, 1) := by decide +kernel
theorem dX12_prove_15 : decode cX12_prove 15 = .ok (.iconst 0, 1) := by decide +kernel
theorem dX12_prove_16 : decode cX12_prove 16 = .ok (.putfield 1247, 3) := by decide +kernel
theorem dX12_prove_19 : decode cX12_prove 19 = .ok (.aload_n 0, 1) := by decide +kernel
theorem dX12_prove_20 : decode cX12_prove 20 = .ok (.iconst 0, 1) := by decide +kernel
theorem dX12_prove_21 : decode cX12_prove 21 = .ok (.putfield 1250, 3) := by decide +kernel
theorem dX12_prove_24 : decode cX12_prove 24 = .ok (.aload_n 0, 1) := by decide +kernel
theorem dX12_prove_25 : decode cX12_prove 25 = .ok (.getfield 562, 3) := by decide +kernel
theorem dX12_prove_28 : decode cX12_prove 28 = .ok (.ifCond .ne 48, 3) := by decide +kernel
theorem dX12_prove_31 : decode cX12_prove 31 = .ok (.aload_n 0, 1) := by decide +kernel
theorem dX12_prove_32 : decode cX12_prove 32 = .ok (.getfield 87, 3) := by decide +kernel
theorem dX12_prove_35 : decode cX12_prove 35 = .ok (.aload_n 0, 1) := by decide +kernel
theorem dX12_prove_36 : decode cX12_prove 36 = .ok (.getfield 597, 3) := by decide +kernel
theorem dX12_prove_39 : decode cX12_prove 39 = .ok (.iaload, 1) := by decide +kernel
theorem dX12_prove_40 : decode cX12_prove 40 = .ok (.ifCond .eq 36, 3) := by decide +kernel
theorem dX12_prove_76 : decode cX12_prove 76 = .ok (.aload_n 0, 1) := by decide +kernel
theorem dX12_prove_77 : decode cX12_prove 77 = .ok (.getfield 562, 3) := by decide +kernel
theorem dX12_prove_80 : decode cX12_prove 80 = .ok (.ifCond .eq 8, 3) := by decide +kernel
theorem dX12_prove_88 : decode cX12_prove 88 = .ok (.aload_n 0, 1) := by decide +kernel
theorem dX12_prove_89 : decode cX12_prove 89 = .ok (.getfield 1250, 3) := by decide +kernel
theorem dX12_prove_92 : decode cX12_prove 92 = .ok (.ifCond .ne 25, 3) := by decide +kernel
theorem dX12_prove_95 : decode cX12_prove 95 = .ok (.aload_n 0, 1) := by decide +kernel
theorem dX12_prove_96 : decode cX12_prove 96 = .ok (.getfield 1247, 3) := by decide +kernel
theorem dX12_prove_99 : decode cX12_prove 99 = .ok (.ifCond .le 18, 3) := by decide +kernel
theorem dX12_prove_117 : decode cX12_prove 117 = .ok (.iconst 0, 1) := by decide +kernel
theorem dX12_prove_118 : decode cX12_prove 118 = .ok (.ireturn, 1) := by decide +kernel
theorem dX12_line_0 : decode cX12_line 0 = .ok (.aload_n 0, 1) := by decide +kernel
theorem dX12_line_1 : decode cX12_line 1 = .ok (.iload_n 1, 1) := by decide +kernel
theorem dX12_line_2 : decode cX12_line 2 = .ok (.i2l, 1) := by decide +kernel
theorem dX12_line_3 : decode cX12_line 3 = .ok (.lconst 1, 1) := by decide +kernel
theorem dX12_line_4 : decode cX12_line 4 = .ok (.aload_n 0, 1) := by decide +kernel
theorem dX12_line_5 : decode cX12_line 5 = .ok (.getfield 1247, 3) := by decide +kernel
theorem dX12_line_8 : decode cX12_line 8 = .ok (.i2l, 1) := by decide +kernel
theorem dX12_line_9 : decode cX12_line 9 = .ok (.invokestatic 504, 3) := by decide +kernel
theorem dX12_line_12 : decode cX12_line 12 = .ok (.ifCond .eq 19, 3) := by decide +kernel
theorem dX12_line_31 : decode cX12_line 31 = .ok (.iconst 1, 1) := by decide +kernel
theorem dX12_line_32 : decode cX12_line 32 = .ok (.putfield 3, 3) := by decide +kernel
theorem dX12_line_35 : decode cX12_line 35 = .ok (.aload_n 0, 1) := by decide +kernel
theorem dX12_line_36 : decode cX12_line 36 = .ok (.getfield 3, 3) := by decide +kernel
theorem dX12_line_39 : decode cX12_line 39 = .ok (.ifCond .le 7, 3) := by decide +kernel
theorem dX12_line_42 : decode cX12_line 42 = .ok (.lconst 0, 1) := by decide +kernel
theorem dX12_line_43 : decode cX12_line 43 = .ok (.goto 27, 3) := by decide +kernel
theorem dX12_line_70 : decode cX12_line 70 = .ok (.lreturn, 1) := by decide +kernel
theorem dX12_bound_0 : decode cX12_bound 0 = .ok (.aload_n 0, 1) := by decide +kernel
theorem dX12_bound_1 : decode cX12_bound 1 = .ok (.invokevirtual 871, 3) := by decide +kernel
theorem dX12_bound_4 : decode cX12_bound 4 = .ok (.ifCond .ne 6, 3) := by decide +kernel
theorem dX12_bound_10 : decode cX12_bound 10 = .ok (.aload_n 0, 1) := by decide +kernel
theorem dX12_bound_11 : decode cX12_bound 11 = .ok (.invokevirtual 982, 3) := by decide +kernel
theorem dX12_bound_14 : decode cX12_bound 14 = .ok (.lconst 0, 1) := by decide +kernel
theorem dX12_bound_15 : decode cX12_bound 15 = .ok (.lstore_n 2, 1) := by decide +kernel
theorem dX12_bound_16 : decode cX12_bound 16 = .ok (.lconst 1, 1) := by decide +kernel
theorem dX12_bound_17 : decode cX12_bound 17 = .ok (.lstore 4, 2) := by decide +kernel
theorem dX12_bound_19 : decode cX12_bound 19 = .ok (.iconst 0, 1) := by decide +kernel
theorem dX12_bound_20 : decode cX12_bound 20 = .ok (.istore 6, 2) := by decide +kernel
theorem dX12_bound_22 : decode cX12_bound 22 = .ok (.iload 6, 2) := by decide +kernel
theorem dX12_bound_24 : decode cX12_bound 24 = .ok (.aload_n 0, 1) := by decide +kernel
theorem dX12_bound_25 : decode cX12_bound 25 = .ok (.getfield 928, 3) := by decide +kernel
theorem dX12_bound_28 : decode cX12_bound 28 = .ok (.if_icmp .ge 129, 3) := by decide +kernel
theorem dX12_bound_157 : decode cX12_bound 157 = .ok (.lload_n 2, 1) := by decide +kernel
theorem dX12_bound_158 : decode cX12_bound 158 = .ok (.lconst 0, 1) := by decide +kernel
theorem dX12_bound_159 : decode cX12_bound 159 = .ok (.lcmp, 1) := by decide +kernel
theorem dX12_bound_160 : decode cX12_bound 160 = .ok (.ifCond .eq 14, 3) := by decide +kernel
theorem dX12_bound_174 : decode cX12_bound 174 = .ok (.iconst 0, 1) := by decide +kernel
theorem dX12_bound_175 : decode cX12_bound 175 = .ok (.ireturn, 1) := by decide +kernel
theorem dX12_audit_0 : decode cX12_audit 0 = .ok (.aload_n 0, 1) := by decide +kernel
theorem dX12_audit_1 : decode cX12_audit 1 = .ok (.invokevirtual 871, 3) := by decide +kernel
theorem dX12_audit_4 : decode cX12_audit 4 = .ok (.ifCond .eq 7, 3) := by decide +kernel
theorem dX12_audit_7 : decode cX12_audit 7 = .ok (.iconst 0, 1) := by decide +kernel
theorem dX12_audit_8 : decode cX12_audit 8 = .ok (.goto 5, 3) := by decide +kernel
theorem dX12_audit_13 : decode cX12_audit 13 = .ok (.ireturn, 1) := by decide +kernel
theorem dL_line_0 : decode cL_line 0 = .ok (.aload_n 3, 1) := by decide +kernel
theorem dL_line_1 : decode cL_line 1 = .ok (.iconst 0, 1) := by decide +kernel
theorem dL_line_2 : decode cL_line 2 = .ok (.aload_n 0, 1) := by decide +kernel
theorem dL_line_3 : decode cL_line 3 = .ok (.iload_n 1, 1) := by decide +kernel
theorem dL_line_4 : decode cL_line 4 = .ok (.iload_n 2, 1) := by decide +kernel
theorem dL_line_5 : decode cL_line 5 = .ok (.invokevirtual 47, 3) := by decide +kernel
theorem dL_line_12 : decode cL_line 12 = .ok (.astore 4, 2) := by decide +kernel
theorem dL_line_14 : decode cL_line 14 = .ok (.iconst 1, 1) := by decide +kernel
theorem dL_line_15 : decode cL_line 15 = .ok (.ireturn, 1) := by decide +kernel
set_option maxHeartbeats 400000000 in
set_option maxRecDepth 100000 in
theorem c_X11_prove_0 (l : Launch) (E : kE) (D : va_G) (cI cJ cB cZ : ClassId) (h0 : Nat) (f0 : List Value) (h1 : Nat) (f1 : List Value) (h2 : Nat) (h3 : Nat) (f2 : List Value) (h4 : Nat) (f3 : List Value) (h5 : Nat) (h6 : Nat) (h7 : Nat) (g0 : Nat → Int32) (g1 : Nat → Int32) (e0 : f0[1]? = some (.ref h1)) (e1 : f1[8]? = some (.int 0)) (e2 : f0[11]? = some (.ref h2)) (e3 : f0[0]? = some (.ref h3)) (e4 : f0[12]? = some (.int 0)) (e5 : f2[0]? = some (.ref h4)) (e6 : f3[6]? = some (.ref h5)) (e7 : f3[7]? = some (.int 0)) (e8 : f3[8]? = some (.int 0)) (e9 : f3[5]? = some (.int 0)) (e10 : f3[1]? = some (.ref h6)) (e11 : f3[2]? = some (.ref h7)) (e12 : f2[10]? = some (.int 0)) (e13 : f2[11]? = some (.int 0)) (e14 : f2[14]? = some (.int 0)) (e15 : f2[12]? = some (.int 0)) (e16 : f2[13]? = some (.int 0)) : kI l E D (kT cI cJ cB cZ) yX11_prove vW_X11_prove ({ frames := 3, cells := 0, slots := 0, locals := 73 }) [.ref h0] [(h0, .inr (11, f0)), (h1, .inr (1, f1)), (h2, .inr (7, f2)), (h4, .inr (3, f3)), (h6, .inl (cI, 2001, .inl g0)), (h7, .inl (cI, 2001, .inl g1))] (0) [(h0, .inr (11, (f0.set 12 (.int 0)))), (h1, .inr (1, f1)), (h2, .inr (7, (((((f2.set 10 (.int 0)).set 11 (.int 0)).set 14 (.int 0)).set 12 (.int 0)).set 13 (.int 0)))), (h4, .inr (3, ((((f3.set 6 (.ref h3)).set 7 (.int 0)).set 8 (.int 0)).set 5 (.int 0)))), (h6, .inl (cI, 2001, .inl (upd g0 0 0))), (h7, .inl (cI, 2001, .inl (upd g1 0 0)))] 0 0 := by
  intro sz
  refine Met.ofW (cc := cX11_prove) (maxL := 2) (ret := (some .int)) (by decide) rfl ?_
  intro p e s m args below meth c s₁ B hml hv
  obtain ⟨rfl, hsz, hP, hK, hD0, hN, hX⟩ := hv
  have hx := B.exec
  have hb := B.bytes
  have hr := B.returns
  have hts := atoms_spec (ws := vW_X11_prove) B.pre
  have hown : s.vm.findClass RX11 = some m.cls := findClass_of_methodNamed B.named
  have hlocks := B.notSynchronized
  have hin11 : ∀ w ∈ wsX110, w ∈ vW_X11_prove := u9_X11_prove_wsX110
  have hin1 : ∀ w ∈ wsX10, w ∈ vW_X11_prove := u9_X11_prove_wsX10
  subst hsz
  have hD := hD0.self (sz := s.heap.size)
  have hAE := k_AE hD0 hX
  generalize hAe : va_A [(h0, .inr (11, f0)), (h1, .inr (1, f1)), (h2, .inr (7, f2)), (h4, .inr (3, f3)), (h6, .inl (cI, 2001, .inl g0)), (h7, .inl (cI, 2001, .inl g1))] s.heap.size = A at hD hAE ⊢
  have hA : ∀ q : Nat, s.heap.size ≤ q → A q := fun q h => by rw [← hAe]; exact Or.inr h
  have hS : va_S A s.heap s.heap [] := va_S.rf
  have hP : va_P D vwCl [(h0, .inr (11, f0)), (h1, .inr (1, f1)), (h2, .inr (7, f2)), (h4, .inr (3, f3)), (h6, .inl (cI, 2001, .inl g0)), (h7, .inl (cI, 2001, .inl g1))] s.heap := hP
  have hl := lv_entry ([.ref h0] : List Value) (n := 2) (Nat.le_of_ble_eq_true rfl)
  rw [lg_entry_eq]
  generalize (lg_sl ([.ref h0]) ++ List.replicate (2 - (lg_sl ([.ref h0])).length) Slot.unset).toArray = ls at hl ⊢
  have hl : lv_has ls 2 [(0, .ref h0)] := hl
  refine lv_aload_n hx hb dX11_prove_0 rfl (lv_at hl 0 rfl) ?_
  refine k_get (D := D) (ci := 11) (v := .ref h1) (N := 15) hx hb hts hin11 hown hK hP 0 rfl rfl (by decide) f9_11_1 (hts (.fieldLink RX11 16 "IntegerHouse" "disk" "LIntegerHouse$Disk;") (o9_X11_prove _ (List.mem_of_getElem? (i := 0) rfl))) e0 dX11_prove_1 ?_
  refine k_getN (host := "IntegerHouse") (D := D) (ci := 1) (v := .int 0) (N := 9) hx hb hts hin1 hown hK hP 1 rfl rfl (by decide) f9_1_8 (va_Nw.use rfl (hN.1 ("IntegerHouse", 122, "IntegerHouse$Disk", "down", "Z", "IntegerHouse") (List.mem_of_getElem? (i := 3) rfl))) e1 dX11_prove_4 ?_
  refine lv_if_eq (tgt := 13) hx hb dX11_prove_7 (by decide) (fun _ => ?_) (fun c9 => absurd (by decide) c9)
  refine lv_aload_n hx hb dX11_prove_13 rfl (lv_at hl 0 rfl) ?_
  refine k_get (D := D) (ci := 11) (v := .ref h2) (N := 15) hx hb hts hin11 hown hK hP 0 rfl rfl (by decide) f9_11_11 (hts (.fieldLink RX11 98 "IntegerHouse" "prover" "LIntegerHouse$Prover;") (o9_X11_prove _ (List.mem_of_getElem? (i := 1) rfl))) e2 dX11_prove_14 ?_
  refine lv_aload_n hx hb dX11_prove_17 rfl (lv_at hl 0 rfl) ?_
  refine k_get (D := D) (ci := 11) (v := .ref h3) (N := 15) hx hb hts hin11 hown hK hP 0 rfl rfl (by decide) f9_11_0 (hts (.fieldLink RX11 9 "IntegerHouse" "tape" "[B") (o9_X11_prove _ (List.mem_of_getElem? (i := 2) rfl))) e3 dX11_prove_18 ?_
  refine lv_aload_n hx hb dX11_prove_21 rfl (lv_at hl 0 rfl) ?_
  refine k_cVi (As := []) (rest := [.ref h3, .ref h2]) (wc := [(h0, .inr (11, f0))]) (wr := [(h1, .inr (1, f1)), (h2, .inr (7, f2)), (h4, .inr (3, f3)), (h6, .inl (cI, 2001, .inl g0)), (h7, .inl (cI, 2001, .inl g1))]) (w1 := [(h0, .inr (11, (f0.set 12 (.int 0))))]) ⟨hx, hb, hml, hown, hts⟩ hN hX hAE hK hP hD hS hA [0] [1, 2, 3, 4, 5] (ci := 11) rfl rfl rfl rfl (by decide +kernel) (by decide +kernel) (by decide +kernel) (c_X11_useTape_0 l E D cI cJ cB cZ h0 f0 e4) (cwV 0 hts g9_X11_prove_X11_useTape_230 rfl rfl rfl (by decide +kernel) ⟨Nat.le_of_ble_eq_true rfl, Nat.le_of_ble_eq_true rfl⟩) rfl hl.1 (Nat.le_of_ble_eq_true rfl) dX11_prove_22 ⟨Nat.le_of_ble_eq_true rfl, Nat.le_of_ble_eq_true rfl⟩ (fun H locs hP hD hS => ?_)
  have hP : va_P D vwCl [(h1, .inr (1, f1)), (h2, .inr (7, f2)), (h4, .inr (3, f3)), (h6, .inl (cI, 2001, .inl g0)), (h7, .inl (cI, 2001, .inl g1)), (h0, .inr (11, (f0.set 12 (.int 0))))] H := hP
  have hD : va_D A [(h1, .inr (1, f1)), (h2, .inr (7, f2)), (h4, .inr (3, f3)), (h6, .inl (cI, 2001, .inl g0)), (h7, .inl (cI, 2001, .inl g1)), (h0, .inr (11, (f0.set 12 (.int 0))))] := hD
  refine k_cVi (As := [.ref h3, .int 0]) (rest := []) (wc := [(h2, .inr (7, f2)), (h4, .inr (3, f3)), (h6, .inl (cI, 2001, .inl g0)), (h7, .inl (cI, 2001, .inl g1))]) (wr := [(h1, .inr (1, f1)), (h0, .inr (11, (f0.set 12 (.int 0))))]) (w1 := [(h2, .inr (7, (((((f2.set 10 (.int 0)).set 11 (.int 0)).set 14 (.int 0)).set 12 (.int 0)).set 13 (.int 0)))), (h4, .inr (3, ((((f3.set 6 (.ref h3)).set 7 (.int 0)).set 8 (.int 0)).set 5 (.int 0)))), (h6, .inl (cI, 2001, .inl (upd g0 0 0))), (h7, .inl (cI, 2001, .inl (upd g1 0 0)))]) ⟨hx, hb, hml, hown, hts⟩ hN hX hAE hK hP hD hS hA [1, 2, 3, 4] [0, 5] (ci := 7) rfl rfl rfl rfl (by decide +kernel) (by decide +kernel) (by decide +kernel) (c_X7_check_0 l E D cI cJ cB cZ h2 h3 f2 h4 f3 h5 h6 h7 g0 g1 e5 e6 e7 e8 e9 e10 e11 e12 e13 e14 e15 e16) (cwV 2 hts g9_X11_prove_X7_check_395 rfl rfl rfl (by decide +kernel) ⟨Nat.le_of_ble_eq_true rfl, Nat.le_of_ble_eq_true rfl⟩) rfl hl.1 (Nat.le_of_ble_eq_true rfl) dX11_prove_25 ⟨Nat.le_of_ble_eq_true rfl, Nat.le_of_ble_eq_true rfl⟩ (fun H locs hP hD hS => ?_)
  have hP : va_P D vwCl [(h1, .inr (1, f1)), (h0, .inr (11, (f0.set 12 (.int 0)))), (h2, .inr (7, (((((f2.set 10 (.int 0)).set 11 (.int 0)).set 14 (.int 0)).set 12 (.int 0)).set 13 (.int 0)))), (h4, .inr (3, ((((f3.set 6 (.ref h3)).set 7 (.int 0)).set 8 (.int 0)).set 5 (.int 0)))), (h6, .inl (cI, 2001, .inl (upd g0 0 0))), (h7, .inl (cI, 2001, .inl (upd g1 0 0)))] H := hP
  have hD : va_D A [(h1, .inr (1, f1)), (h0, .inr (11, (f0.set 12 (.int 0)))), (h2, .inr (7, (((((f2.set 10 (.int 0)).set 11 (.int 0)).set 14 (.int 0)).set 12 (.int 0)).set 13 (.int 0)))), (h4, .inr (3, ((((f3.set 6 (.ref h3)).set 7 (.int 0)).set 8 (.int 0)).set 5 (.int 0)))), (h6, .inl (cI, 2001, .inl (upd g0 0 0))), (h7, .inl (cI, 2001, .inl (upd g1 0 0)))] := hD
  refine lv_istore_n (lv' := [(1, .int 0), (0, .ref h0)]) hx hb dX11_prove_28 rfl hl (by decide) rfl (fun ls hl => ?_)
  refine lv_iload_n hx hb dX11_prove_29 rfl (lv_at hl 0 rfl) ?_
  refine lv_iconst (v := (-1)) hx hb dX11_prove_30 (by decide) ?_
  refine lv_icmp_ne (tgt := 57) hx hb dX11_prove_31 (by decide) (fun _ => ?_) (fun c9 => absurd c9 (by decide))
  refine lv_iload_n hx hb dX11_prove_57 rfl (lv_at hl 0 rfl) ?_
  have hP := hP.sub (ws' := [(h0, .inr (11, (f0.set 12 (.int 0)))), (h1, .inr (1, f1)), (h2, .inr (7, (((((f2.set 10 (.int 0)).set 11 (.int 0)).set 14 (.int 0)).set 12 (.int 0)).set 13 (.int 0)))), (h4, .inr (3, ((((f3.set 6 (.ref h3)).set 7 (.int 0)).set 8 (.int 0)).set 5 (.int 0)))), (h6, .inl (cI, 2001, .inl (upd g0 0 0))), (h7, .inl (cI, 2001, .inl (upd g1 0 0)))]) [1, 0, 2, 3, 4, 5] rfl
  have hD := hD.sub (ws' := [(h0, .inr (11, (f0.set 12 (.int 0)))), (h1, .inr (1, f1)), (h2, .inr (7, (((((f2.set 10 (.int 0)).set 11 (.int 0)).set 14 (.int 0)).set 12 (.int 0)).set 13 (.int 0)))), (h4, .inr (3, ((((f3.set 6 (.ref h3)).set 7 (.int 0)).set 8 (.int 0)).set 5 (.int 0)))), (h6, .inl (cI, 2001, .inl (upd g0 0 0))), (h7, .inl (cI, 2001, .inl (upd g1 0 0)))]) [1, 0, 2, 3, 4, 5] (by decide +kernel) rfl
  exact W.iret (v := 0) hx hb hr (fun t ht hW => ⟨⟨0, (), rfl, rfl, kB_mk ht hW hP hK hD⟩, hS.F ht⟩) hS.2.2 dX11_prove_58
set_option maxHeartbeats 400000000 in
set_option maxRecDepth 100000 in
theorem c_X12_prove_0 (l : Launch) (E : kE) (D : va_G) (cI cJ cB cZ : ClassId) (h0 : Nat) (f0 : List Value) (h1 : Nat) (h2 : Nat) (h3 : Nat) (h4 : Nat) (g0 : Nat → Int32) (g1 : Nat → Int32) (g2 : Nat → Int32) (g3 : Nat → Int32) (e0 : f0[0]? = some (.int 0)) (e1 : f0[5]? = some (.int 0)) (e2 : f0[2]? = some (.int 0)) (e3 : f0[12]? = some (.int 0)) (e4 : f0[32]? = some (.int 0)) (e5 : f0[36]? = some (.int 0)) (e6 : f0[33]? = some (.int 0)) (e7 : f0[37]? = some (.int 0)) (e8 : f0[27]? = some (.int 0)) (e9 : f0[31]? = some (.int 0)) (e10 : f0[28]? = some (.int 0)) (e11 : f0[23]? = some (.ref h1)) (e12 : f0[24]? = some (.ref h2)) (e13 : f0[25]? = some (.ref h3)) (e14 : f0[26]? = some (.ref h4)) (e15 : f0[187]? = some (.int 0)) (e16 : f0[192]? = some (.int 0)) : kI l E D (kT cI cJ cB cZ) yX12_prove vW_X12_prove ({ frames := 3, cells := 0, slots := 0, locals := 68 }) [.ref h0] [(h0, .inr (12, f0)), (h1, .inl (cI, 2001, .inl g0)), (h2, .inl (cI, 2001, .inl g1)), (h3, .inl (cI, 2001, .inl g2)), (h4, .inl (cI, 2001, .inl g3))] (0) [(h0, .inr (12, ((((((((((f0.set 0 (.int 0)).set 12 (.int 0)).set 2 (.int 0)).set 36 (.int 0)).set 37 (.int 0)).set 27 (.int 0)).set 31 (.int 0)).set 28 (.int 0)).set 187 (.int 0)).set 192 (.int 0)))), (h1, .inl (cI, 2001, .inl (upd g0 0 0))), (h2, .inl (cI, 2001, .inl (upd g1 0 0))), (h3, .inl (cI, 2001, .inl (upd g2 0 0))), (h4, .inl (cI, 2001, .inl (upd g3 0 0)))] 0 0 := by
  intro sz
  refine Met.ofW (cc := cX12_prove) (maxL := 2) (ret := (some .int)) (by decide) rfl ?_
  intro p e s m args below meth c s₁ B hml hv
  obtain ⟨rfl, hsz, hP, hK, hD0, hN, hX⟩ := hv
  have hx := B.exec
  have hb := B.bytes
  have hr := B.returns
  have hts := atoms_spec (ws := vW_X12_prove) B.pre
  have hown : s.vm.findClass RX12 = some m.cls := findClass_of_methodNamed B.named
  have hlocks := B.notSynchronized
  have hin12 : ∀ w ∈ wsX120, w ∈ vW_X12_prove := u9_X12_prove_wsX120
  subst hsz
  have hD := hD0.self (sz := s.heap.size)
  have hAE := k_AE hD0 hX
  generalize hAe : va_A [(h0, .inr (12, f0)), (h1, .inl (cI, 2001, .inl g0)), (h2, .inl (cI, 2001, .inl g1)), (h3, .inl (cI, 2001, .inl g2)), (h4, .inl (cI, 2001, .inl g3))] s.heap.size = A at hD hAE ⊢
  have hA : ∀ q : Nat, s.heap.size ≤ q → A q := fun q h => by rw [← hAe]; exact Or.inr h
  have hS : va_S A s.heap s.heap [] := va_S.rf
  have hP : va_P D vwCl [(h0, .inr (12, f0)), (h1, .inl (cI, 2001, .inl g0)), (h2, .inl (cI, 2001, .inl g1)), (h3, .inl (cI, 2001, .inl g2)), (h4, .inl (cI, 2001, .inl g3))] s.heap := hP
  have hl := lv_entry ([.ref h0] : List Value) (n := 2) (Nat.le_of_ble_eq_true rfl)
  rw [lg_entry_eq]
  generalize (lg_sl ([.ref h0]) ++ List.replicate (2 - (lg_sl ([.ref h0])).length) Slot.unset).toArray = ls at hl ⊢
  have hl : lv_has ls 2 [(0, .ref h0)] := hl
  refine lv_aload_n hx hb dX12_prove_0 rfl (lv_at hl 0 rfl) ?_
  refine k_cVi (As := []) (rest := []) (wc := [(h0, .inr (12, f0))]) (wr := [(h1, .inl (cI, 2001, .inl g0)), (h2, .inl (cI, 2001, .inl g1)), (h3, .inl (cI, 2001, .inl g2)), (h4, .inl (cI, 2001, .inl g3))]) (w1 := [(h0, .inr (12, (f0.set 0 (.int 0))))]) ⟨hx, hb, hml, hown, hts⟩ hN hX hAE hK hP hD hS hA [0] [1, 2, 3, 4] (ci := 12) rfl rfl rfl rfl (by decide +kernel) (by decide +kernel) (by decide +kernel) (c_X12_asks_0 l E D cI cJ cB cZ h0 f0 e0 e1) (cwV 0 hts g9_X12_prove_X12_asks_871 rfl rfl rfl (by decide +kernel) ⟨Nat.le_of_ble_eq_true rfl, Nat.le_of_ble_eq_true rfl⟩) rfl hl.1 (Nat.le_of_ble_eq_true rfl) dX12_prove_1 ⟨Nat.le_of_ble_eq_true rfl, Nat.le_of_ble_eq_true rfl⟩ (fun H locs hP hD hS => ?_)
  have hP : va_P D vwCl [(h1, .inl (cI, 2001, .inl g0)), (h2, .inl (cI, 2001, .inl g1)), (h3, .inl (cI, 2001, .inl g2)), (h4, .inl (cI, 2001, .inl g3)), (h0, .inr (12, (f0.set 0 (.int 0))))] H := hP
  have hD : va_D A [(h1, .inl (cI, 2001, .inl g0)), (h2, .inl (cI, 2001, .inl g1)), (h3, .inl (cI, 2001, .inl g2)), (h4, .inl (cI, 2001, .inl g3)), (h0, .inr (12, (f0.set 0 (.int 0))))] := hD
  refine lv_if_ne (tgt := 10) hx hb dX12_prove_4 (by decide) (fun _ => ?_) (fun c9 => absurd c9 (by decide))
  refine lv_aload_n hx hb dX12_prove_10 rfl (lv_at hl 0 rfl) ?_
  refine k_cVv (As := []) (rest := []) (wc := [(h0, .inr (12, (f0.set 0 (.int 0)))), (h1, .inl (cI, 2001, .inl g0)), (h2, .inl (cI, 2001, .inl g1)), (h3, .inl (cI, 2001, .inl g2)), (h4, .inl (cI, 2001, .inl g3))]) (wr := []) (w1 := (fun _ : Unit => [(h0, .inr (12, ((((((((f0.set 0 (.int 0)).set 12 (.int 0)).set 2 (.int 0)).set 36 (.int 0)).set 37 (.int 0)).set 27 (.int 0)).set 31 (.int 0)).set 28 (.int 0)))), (h1, .inl (cI, 2001, .inl (upd g0 0 0))), (h2, .inl (cI, 2001, .inl (upd g1 0 0))), (h3, .inl (cI, 2001, .inl (upd g2 0 0))), (h4, .inl (cI, 2001, .inl (upd g3 0 0)))])) ⟨hx, hb, hml, hown, hts⟩ hN hX hAE hK hP hD hS hA [4, 0, 1, 2, 3] [] (ci := 12) rfl rfl rfl rfl (by decide +kernel) (by decide +kernel) (by decide +kernel) (c_X12_begin_0 l E D cI cJ cB cZ h0 ((f0.set 0 (.int 0))) h1 h2 h3 h4 g0 g1 g2 g3 (k_ne (by decide) e2) (k_ne (by decide) e3) (k_ne (by decide) e4) (k_ne (by decide) e5) (k_ne (by decide) e6) (k_ne (by decide) e7) (k_ne (by decide) e8) (k_ne (by decide) e9) (k_ne (by decide) e10) (k_ne (by decide) e11) (k_ne (by decide) e12) (k_ne (by decide) e13) (k_ne (by decide) e14)) (cwV 0 hts g9_X12_prove_X12_begin_874 rfl rfl rfl (by decide +kernel) ⟨Nat.le_of_ble_eq_true rfl, Nat.le_of_ble_eq_true rfl⟩) rfl hl.1 (Nat.le_of_ble_eq_true rfl) dX12_prove_11 ⟨Nat.le_of_ble_eq_true rfl, Nat.le_of_ble_eq_true rfl⟩ (fun _ H locs hP hD hS => ?_)
  have hP : va_P D vwCl [(h0, .inr (12, ((((((((f0.set 0 (.int 0)).set 12 (.int 0)).set 2 (.int 0)).set 36 (.int 0)).set 37 (.int 0)).set 27 (.int 0)).set 31 (.int 0)).set 28 (.int 0)))), (h1, .inl (cI, 2001, .inl (upd g0 0 0))), (h2, .inl (cI, 2001, .inl (upd g1 0 0))), (h3, .inl (cI, 2001, .inl (upd g2 0 0))), (h4, .inl (cI, 2001, .inl (upd g3 0 0)))] H := hP
  have hD : va_D A [(h0, .inr (12, ((((((((f0.set 0 (.int 0)).set 12 (.int 0)).set 2 (.int 0)).set 36 (.int 0)).set 37 (.int 0)).set 27 (.int 0)).set 31 (.int 0)).set 28 (.int 0)))), (h1, .inl (cI, 2001, .inl (upd g0 0 0))), (h2, .inl (cI, 2001, .inl (upd g1 0 0))), (h3, .inl (cI, 2001, .inl (upd g2 0 0))), (h4, .inl (cI, 2001, .inl (upd g3 0 0)))] := hD
  refine lv_aload_n hx hb dX12_prove_14 rfl (lv_at hl 0 rfl) ?_
  refine lv_iconst (v := 0) hx hb dX12_prove_15 (by decide) ?_
  refine k_put (D := D) (ci := 12) (v := .int 0) (ty := .int) (N := 195) hx hb hts hin12 tyX12 tyX12_ok nmX12 hown hK hP hD hS 0 rfl rfl (by decide) f9_12_187 (hts (.fieldLink RX12 1247 "IntegerHouseModel" "lines" "I") (o9_X12_prove _ (List.mem_of_getElem? (i := 7) rfl))) rfl pd_2 rfl rfl (k_len (k_ne (by decide) (k_ne (by decide) (k_ne (by decide) (k_ne (by decide) (k_ne (by decide) (k_ne (by decide) (k_ne (by decide) (k_ne (by decide) e15))))))))) dX12_prove_16 (fun H locs hP hD hS => ?_)
  have hP : va_P D vwCl [(h0, .inr (12, (((((((((f0.set 0 (.int 0)).set 12 (.int 0)).set 2 (.int 0)).set 36 (.int 0)).set 37 (.int 0)).set 27 (.int 0)).set 31 (.int 0)).set 28 (.int 0)).set 187 (.int 0)))), (h1, .inl (cI, 2001, .inl (upd g0 0 0))), (h2, .inl (cI, 2001, .inl (upd g1 0 0))), (h3, .inl (cI, 2001, .inl (upd g2 0 0))), (h4, .inl (cI, 2001, .inl (upd g3 0 0)))] H := hP
  have hD : va_D A [(h0, .inr (12, (((((((((f0.set 0 (.int 0)).set 12 (.int 0)).set 2 (.int 0)).set 36 (.int 0)).set 37 (.int 0)).set 27 (.int 0)).set 31 (.int 0)).set 28 (.int 0)).set 187 (.int 0)))), (h1, .inl (cI, 2001, .inl (upd g0 0 0))), (h2, .inl (cI, 2001, .inl (upd g1 0 0))), (h3, .inl (cI, 2001, .inl (upd g2 0 0))), (h4, .inl (cI, 2001, .inl (upd g3 0 0)))] := hD
  refine lv_aload_n hx hb dX12_prove_19 rfl (lv_at hl 0 rfl) ?_
  refine lv_iconst (v := 0) hx hb dX12_prove_20 (by decide) ?_
  refine k_put (D := D) (ci := 12) (v := .int 0) (ty := .int) (N := 195) hx hb hts hin12 tyX12 tyX12_ok nmX12 hown hK hP hD hS 0 rfl rfl (by decide) f9_12_192 (hts (.fieldLink RX12 1250 "IntegerHouseModel" "openCases" "I") (o9_X12_prove _ (List.mem_of_getElem? (i := 8) rfl))) rfl pd_2 rfl rfl (k_len (k_ne (by decide) (k_ne (by decide) (k_ne (by decide) (k_ne (by decide) (k_ne (by decide) (k_ne (by decide) (k_ne (by decide) (k_ne (by decide) (k_ne (by decide) e16)))))))))) dX12_prove_21 (fun H locs hP hD hS => ?_)
  have hP : va_P D vwCl [(h0, .inr (12, ((((((((((f0.set 0 (.int 0)).set 12 (.int 0)).set 2 (.int 0)).set 36 (.int 0)).set 37 (.int 0)).set 27 (.int 0)).set 31 (.int 0)).set 28 (.int 0)).set 187 (.int 0)).set 192 (.int 0)))), (h1, .inl (cI, 2001, .inl (upd g0 0 0))), (h2, .inl (cI, 2001, .inl (upd g1 0 0))), (h3, .inl (cI, 2001, .inl (upd g2 0 0))), (h4, .inl (cI, 2001, .inl (upd g3 0 0)))] H := hP
  have hD : va_D A [(h0, .inr (12, ((((((((((f0.set 0 (.int 0)).set 12 (.int 0)).set 2 (.int 0)).set 36 (.int 0)).set 37 (.int 0)).set 27 (.int 0)).set 31 (.int 0)).set 28 (.int 0)).set 187 (.int 0)).set 192 (.int 0)))), (h1, .inl (cI, 2001, .inl (upd g0 0 0))), (h2, .inl (cI, 2001, .inl (upd g1 0 0))), (h3, .inl (cI, 2001, .inl (upd g2 0 0))), (h4, .inl (cI, 2001, .inl (upd g3 0 0)))] := hD
  refine lv_aload_n hx hb dX12_prove_24 rfl (lv_at hl 0 rfl) ?_
  refine k_get (D := D) (ci := 12) (v := .int 0) (N := 195) hx hb hts hin12 hown hK hP 0 rfl rfl (by decide) f9_12_31 (hts (.fieldLink RX12 562 "IntegerHouseModel" "faulty" "Z") (o9_X12_prove _ (List.mem_of_getElem? (i := 9) rfl))) (k_ne (by decide) (k_ne (by decide) (k_ne (by decide) (k_set (k_ne (by decide) (k_ne (by decide) (k_ne (by decide) (k_ne (by decide) (k_ne (by decide) (k_ne (by decide) e9)))))))))) dX12_prove_25 ?_
  refine lv_if_ne (tgt := 76) hx hb dX12_prove_28 (by decide) (fun c9 => absurd (by decide) c9) (fun _ => ?_)
  refine lv_aload_n hx hb dX12_prove_31 rfl (lv_at hl 0 rfl) ?_
  refine k_get (D := D) (ci := 12) (v := .ref h3) (N := 195) hx hb hts hin12 hown hK hP 0 rfl rfl (by decide) f9_12_25 (hts (.fieldLink RX12 87 "IntegerHouseModel" "tokenKind" "[I") (o9_X12_prove _ (List.mem_of_getElem? (i := 10) rfl))) (k_ne (by decide) (k_ne (by decide) (k_ne (by decide) (k_ne (by decide) (k_ne (by decide) (k_ne (by decide) (k_ne (by decide) (k_ne (by decide) (k_ne (by decide) (k_ne (by decide) e13)))))))))) dX12_prove_32 ?_
  refine lv_aload_n hx hb dX12_prove_35 rfl (lv_at hl 0 rfl) ?_
  refine k_get (D := D) (ci := 12) (v := .int 0) (N := 195) hx hb hts hin12 hown hK hP 0 rfl rfl (by decide) f9_12_28 (hts (.fieldLink RX12 597 "IntegerHouseModel" "now" "I") (o9_X12_prove _ (List.mem_of_getElem? (i := 11) rfl))) (k_ne (by decide) (k_ne (by decide) (k_set (k_ne (by decide) (k_ne (by decide) (k_ne (by decide) (k_ne (by decide) (k_ne (by decide) (k_ne (by decide) (k_ne (by decide) e10)))))))))) dX12_prove_36 ?_
  refine va_iald hx hb hK hP 3 0 rfl rfl (k_in (by decide)) dX12_prove_39 ?_
  refine k_topi (y := 0) rfl ?_
  refine lv_if_eq (tgt := 76) hx hb dX12_prove_40 (by decide) (fun _ => ?_) (fun c9 => absurd (by decide) c9)
  refine lv_aload_n hx hb dX12_prove_76 rfl (lv_at hl 0 rfl) ?_
  refine k_get (D := D) (ci := 12) (v := .int 0) (N := 195) hx hb hts hin12 hown hK hP 0 rfl rfl (by decide) f9_12_31 (hts (.fieldLink RX12 562 "IntegerHouseModel" "faulty" "Z") (o9_X12_prove _ (List.mem_of_getElem? (i := 9) rfl))) (k_ne (by decide) (k_ne (by decide) (k_ne (by decide) (k_set (k_ne (by decide) (k_ne (by decide) (k_ne (by decide) (k_ne (by decide) (k_ne (by decide) (k_ne (by decide) e9)))))))))) dX12_prove_77 ?_
  refine lv_if_eq (tgt := 88) hx hb dX12_prove_80 (by decide) (fun _ => ?_) (fun c9 => absurd (by decide) c9)
  refine lv_aload_n hx hb dX12_prove_88 rfl (lv_at hl 0 rfl) ?_
  refine k_get (D := D) (ci := 12) (v := .int 0) (N := 195) hx hb hts hin12 hown hK hP 0 rfl rfl (by decide) f9_12_192 (hts (.fieldLink RX12 1250 "IntegerHouseModel" "openCases" "I") (o9_X12_prove _ (List.mem_of_getElem? (i := 8) rfl))) (k_set (k_ne (by decide) (k_ne (by decide) (k_ne (by decide) (k_ne (by decide) (k_ne (by decide) (k_ne (by decide) (k_ne (by decide) (k_ne (by decide) (k_ne (by decide) e16)))))))))) dX12_prove_89 ?_
  refine lv_if_ne (tgt := 117) hx hb dX12_prove_92 (by decide) (fun c9 => absurd (by decide) c9) (fun _ => ?_)
  refine lv_aload_n hx hb dX12_prove_95 rfl (lv_at hl 0 rfl) ?_
  refine k_get (D := D) (ci := 12) (v := .int 0) (N := 195) hx hb hts hin12 hown hK hP 0 rfl rfl (by decide) f9_12_187 (hts (.fieldLink RX12 1247 "IntegerHouseModel" "lines" "I") (o9_X12_prove _ (List.mem_of_getElem? (i := 7) rfl))) (k_ne (by decide) (k_set (k_ne (by decide) (k_ne (by decide) (k_ne (by decide) (k_ne (by decide) (k_ne (by decide) (k_ne (by decide) (k_ne (by decide) (k_ne (by decide) e15)))))))))) dX12_prove_96 ?_
  refine lv_if_le (tgt := 117) hx hb dX12_prove_99 (by decide) (fun _ => ?_) (fun c9 => absurd (by decide) c9)
  refine lv_iconst (v := 0) hx hb dX12_prove_117 (by decide) ?_
  exact W.iret (v := 0) hx hb hr (fun t ht hW => ⟨⟨0, (), rfl, rfl, kB_mk ht hW hP hK hD⟩, hS.F ht⟩) hS.2.2 dX12_prove_118
set_option maxHeartbeats 400000000 in
set_option maxRecDepth 100000 in
theorem c_X7_isLine_0 (l : Launch) (E : kE) (D : va_G) (cI cJ cB cZ : ClassId) (h0 : Nat) (x0 : Int32) (f0 : List Value) (e0 : ¬ ((x0 : Int32) < 1)) (e1 : f0[10]? = some (.int 0)) : kI l E D (kT cI cJ cB cZ) yX7_isLine vW_X7_isLine ({ frames := 0, cells := 0, slots := 0, locals := 0 }) [.ref h0, .int x0] [(h0, .inr (7, f0))] (0) [(h0, .inr (7, f0))] 0 0 := by
  intro sz
  refine Met.ofW (cc := cX7_isLine) (maxL := 2) (ret := (some .boolean)) (by decide) rfl ?_
  intro p e s m args below meth c s₁ B hml hv
  obtain ⟨rfl, hsz, hP, hK, hD0, hN, hX⟩ := hv
  have hx := B.exec
  have hb := B.bytes
  have hr := B.returns
  have hts := atoms_spec (ws := vW_X7_isLine) B.pre
  have hown : s.vm.findClass RX7 = some m.cls := findClass_of_methodNamed B.named
  have hlocks := B.notSynchronized
  have hin7 : ∀ w ∈ wsX70, w ∈ vW_X7_isLine := u9_X7_isLine_wsX70
  subst hsz
  have hD := hD0.self (sz := s.heap.size)
  have hAE := k_AE hD0 hX
  generalize hAe : va_A [(h0, .inr (7, f0))] s.heap.size = A at hD hAE ⊢
  have hA : ∀ q : Nat, s.heap.size ≤ q → A q := fun q h => by rw [← hAe]; exact Or.inr h
  have hS : va_S A s.heap s.heap [] := va_S.rf
  have hP : va_P D vwCl [(h0, .inr (7, f0))] s.heap := hP
  have hl := lv_entry ([.ref h0, .int x0] : List Value) (n := 2) (Nat.le_of_ble_eq_true rfl)
  rw [lg_entry_eq]
  generalize (lg_sl ([.ref h0, .int x0]) ++ List.replicate (2 - (lg_sl ([.ref h0, .int x0])).length) Slot.unset).toArray = ls at hl ⊢
  have hl : lv_has ls 2 [(0, .ref h0), (1, .int x0)] := hl
  refine lv_iload_n hx hb dX7_isLine_0 rfl (lv_at hl 1 rfl) ?_
  refine lv_iconst (v := 1) hx hb dX7_isLine_1 (by decide) ?_
  refine lv_icmp_lt (tgt := 17) hx hb dX7_isLine_2 (by decide) (fun c9 => absurd c9 e0) (fun _ => ?_)
  refine lv_iload_n hx hb dX7_isLine_5 rfl (lv_at hl 1 rfl) ?_
  refine lv_aload_n hx hb dX7_isLine_6 rfl (lv_at hl 0 rfl) ?_
  refine k_get (D := D) (ci := 7) (v := .int 0) (N := 17) hx hb hts hin7 hown hK hP 0 rfl rfl (by decide) f9_7_10 (hts (.fieldLink RX7 46 "IntegerHouse$Prover" "size" "I") (o9_X7_isLine _ (List.mem_of_getElem? (i := 0) rfl))) e1 dX7_isLine_7 ?_
  refine lv_icmp_gt (tgt := 17) hx hb dX7_isLine_10 (by decide) (fun _ => ?_) (fun c9 => absurd ((k_n3 (x := x0) (c := 0) (d := 1) (by decide)).mpr e0) c9)
  refine lv_iconst (v := 0) hx hb dX7_isLine_17 (by decide) ?_
  exact W.zret (v := 0) hx hb hr rfl (fun t ht hW => ⟨⟨0, (), rfl, rfl, kB_mk ht hW hP hK hD⟩, hS.F ht⟩) hS.2.2 dX7_isLine_18
set_option maxHeartbeats 400000000 in
set_option maxRecDepth 100000 in
theorem c_X11_line_0 (l : Launch) (E : kE) (D : va_G) (cI cJ cB cZ : ClassId) (h0 : Nat) (x0 : Int32) (x1 : Int32) (f0 : List Value) (h1 : Nat) (f1 : List Value) (e0 : f0[11]? = some (.ref h1)) (e1 : f1[10]? = some (.int 0)) (e2 : ¬ ((x0 : Int32) < 1)) (hl9 : l.stackTraces = false) : kTJ l E D (kT cI cJ cB cZ) yX11_line vW_X11_line ({ frames := 6, cells := 1, slots := 6, locals := 82 }) [.ref h0, .int x0, .int x1] [(h0, .inr (11, f0)), (h1, .inr (7, f1))] "java/lang/IndexOutOfBoundsException" 1 6 := by
  intro sz
  refine vx_ofW (cc := cX11_line) (maxL := 3) (ret := (some .long)) (by decide) rfl ?_
  intro p e s m args below meth c s₁ B hml ht9 hv
  obtain ⟨rfl, hsz, hP, hK, hD0, hN, hX⟩ := hv
  have hx := B.exec
  have hb := B.bytes
  have hr := B.returns
  have hts := atoms_spec (ws := vW_X11_line) B.pre
  have hown : s.vm.findClass RX11 = some m.cls := findClass_of_methodNamed B.named
  have hlocks := B.notSynchronized
  have hin11 : ∀ w ∈ wsX110, w ∈ vW_X11_line := u9_X11_line_wsX110
  subst hsz
  have hD := hD0.self (sz := s.heap.size)
  have hAE := k_AE hD0 hX
  generalize hAe : va_A [(h0, .inr (11, f0)), (h1, .inr (7, f1))] s.heap.size = A at hD hAE ⊢
  have hA : ∀ q : Nat, s.heap.size ≤ q → A q := fun q h => by rw [← hAe]; exact Or.inr h
  have hS : va_S A s.heap s.heap [] := va_S.rf
  have hP : va_P D vwCl [(h0, .inr (11, f0)), (h1, .inr (7, f1))] s.heap := hP
  have hl := lv_entry ([.ref h0, .int x0, .int x1] : List Value) (n := 3) (Nat.le_of_ble_eq_true rfl)
  rw [lg_entry_eq]
  generalize (lg_sl ([.ref h0, .int x0, .int x1]) ++ List.replicate (3 - (lg_sl ([.ref h0, .int x0, .int x1])).length) Slot.unset).toArray = ls at hl ⊢
  have hl : lv_has ls 3 [(0, .ref h0), (1, .int x0), (2, .int x1)] := hl
  refine lv_aload_n hx hb dX11_line_0 rfl (lv_at hl 0 rfl) ?_
  refine k_get (D := D) (ci := 11) (v := .ref h1) (N := 15) hx hb hts hin11 hown hK hP 0 rfl rfl (by decide) f9_11_11 (hts (.fieldLink RX11 98 "IntegerHouse" "prover" "LIntegerHouse$Prover;") (o9_X11_line _ (List.mem_of_getElem? (i := 0) rfl))) e0 dX11_line_1 ?_
  refine lv_iload_n hx hb dX11_line_4 rfl (lv_at hl 1 rfl) ?_
  refine k_cVi (As := [.int x0]) (rest := []) (wc := [(h1, .inr (7, f1))]) (wr := [(h0, .inr (11, f0))]) (w1 := [(h1, .inr (7, f1))]) ⟨hx, hb, hml, hown, hts⟩ hN hX hAE hK hP hD hS hA [1] [0] (ci := 7) rfl rfl rfl rfl (by decide +kernel) (by decide +kernel) (by decide +kernel) (c_X7_isLine_0 l E D cI cJ cB cZ h1 x0 f1 e2 e1) (cwV 1 hts g9_X11_line_X7_isLine_400 rfl rfl rfl (by decide +kernel) ⟨Nat.le_of_ble_eq_true rfl, Nat.le_of_ble_eq_true rfl⟩) rfl hl.1 (Nat.le_of_ble_eq_true rfl) dX11_line_5 ⟨Nat.le_of_ble_eq_true rfl, Nat.le_of_ble_eq_true rfl⟩ (fun H locs hP hD hS => ?_)
  have hP : va_P D vwCl [(h0, .inr (11, f0)), (h1, .inr (7, f1))] H := hP
  have hD : va_D A [(h0, .inr (11, f0)), (h1, .inr (7, f1))] := hD
  refine lv_if_eq (tgt := 20) hx hb dX11_line_8 (by decide) (fun _ => ?_) (fun c9 => absurd (by decide) c9)
  obtain ⟨a9, a9r, a9o⟩ := kX.st hX hAE ("IntegerHouse", 403, "no such line or number of it") (List.mem_of_getElem? (i := 9) rfl)
  exact vx_throwSW (names := ["java/lang/RuntimeException", "java/lang/Exception"]) (A := A) hx hb hl9 hown (by decide +kernel) (by decide +kernel) (hts (.classLink RX11 197 "java/lang/IndexOutOfBoundsException") (o9_X11_line _ (List.mem_of_getElem? (i := 5) rfl))) (hts (.initialized "java/lang/IndexOutOfBoundsException") (o9_X11_line _ (List.mem_of_getElem? (i := 6) rfl))) a9r (vx_hat (L := vx_atS RX11 201 "java/lang/IndexOutOfBoundsException" ["java/lang/RuntimeException", "java/lang/Exception"]) (B := [.castable "java/lang/IndexOutOfBoundsException" "java/lang/IndexOutOfBoundsException", .declares (Bundle.initS "java/lang/RuntimeException"), .declares (Bundle.initS "java/lang/Exception"), .declares (Bundle.initS "java/lang/Throwable")]) (fun w h => hts w (x9_X11_line_0 w h)) (by decide +kernel) (vx_c (va_Nw.use rfl (kX.cast hX "java/lang/IndexOutOfBoundsException" (by decide))) (vx_c (va_Nw.use rfl (kX.decl hX "java/lang/RuntimeException" (by decide))) (vx_c (va_Nw.use rfl (kX.decl hX "java/lang/Exception" (by decide))) (vx_c (va_Nw.use rfl (kX.decl hX "java/lang/Throwable" (by decide))) vx_n))))) (by decide +kernel) (kX.us hX hAE) (kX.ss hX hAE) hS (by rw [hml]; exact hl.1) dX11_line_20 dX11_line_23 dX11_line_24 dX11_line_27 dX11_line_30 (fun x hx => (ht9 x hx).elim) (Nat.le_of_ble_eq_true rfl) (Nat.le_of_ble_eq_true rfl) (Nat.le_of_ble_eq_true rfl) (Nat.le_of_ble_eq_true rfl) hlocks (fun t h1 h2 h3 => k_tx hP hK hD hS t h1 h2 h3) hS.2.2 (Nat.le_of_ble_eq_true rfl) (Nat.le_of_ble_eq_true rfl)
set_option maxHeartbeats 400000000 in
set_option maxRecDepth 100000 in
theorem c_L_line_0 (l : Launch) (E : kE) (D : va_G) (cI cJ cB cZ : ClassId) (h0 : Nat) (x0 : Int32) (x1 : Int32) (h1 : Nat) (f0 : List Value) (h2 : Nat) (f1 : List Value) (e0 : f0[11]? = some (.ref h2)) (e1 : f1[10]? = some (.int 0)) (e2 : ¬ ((x0 : Int32) < 1)) (hl9 : l.stackTraces = false) : kI l E D (kT cI cJ cB cZ) yL_line vW_L_line ({ frames := 7, cells := 1, slots := 6, locals := 104 }) [.ref h0, .int x0, .int x1, .ref h1] [(h0, .inr (11, f0)), (h2, .inr (7, f1))] (1) [(h0, .inr (11, f0)), (h2, .inr (7, f1))] 1 6 := by
  intro sz
  refine k_metH (cc := cL_line) (maxL := 5) (ret := (some .int)) (hh := [(0, 9, 12, 25)]) (by decide) rfl ?_
  intro p e s m args below meth c s₁ B hml hv
  obtain ⟨rfl, hsz, hP, hK, hD0, hN, hX⟩ := hv
  have hx := B.exec
  have hb := B.bytes
  have hr := B.returns
  have hts := atoms_spec (ws := vW_L_line) B.pre
  have hown : s.vm.findClass RL = some m.cls := findClass_of_methodNamed B.named
  have hlocks := B.notSynchronized
  subst hsz
  have hD := hD0.self (sz := s.heap.size)
  have hAE := k_AE hD0 hX
  generalize hAe : va_A [(h0, .inr (11, f0)), (h2, .inr (7, f1))] s.heap.size = A at hD hAE ⊢
  have hA : ∀ q : Nat, s.heap.size ≤ q → A q := fun q h => by rw [← hAe]; exact Or.inr h
  have hS : va_S A s.heap s.heap [] := va_S.rf
  have hP : va_P D vwCl [(h0, .inr (11, f0)), (h2, .inr (7, f1))] s.heap := hP
  have hl := lv_entry ([.ref h0, .int x0, .int x1, .ref h1] : List Value) (n := 5) (Nat.le_of_ble_eq_true rfl)
  rw [lg_entry_eq]
  generalize (lg_sl ([.ref h0, .int x0, .int x1, .ref h1]) ++ List.replicate (5 - (lg_sl ([.ref h0, .int x0, .int x1, .ref h1])).length) Slot.unset).toArray = ls at hl ⊢
  have hl : lv_has ls 5 [(0, .ref h0), (1, .int x0), (2, .int x1), (3, .ref h1)] := hl
  refine lv_aload_n hx hb dL_line_0 rfl (lv_at hl 3 rfl) ?_
  refine lv_iconst (v := 0) hx hb dL_line_1 (by decide) ?_
  refine lv_aload_n hx hb dL_line_2 rfl (lv_at hl 0 rfl) ?_
  refine lv_iload_n hx hb dL_line_3 rfl (lv_at hl 1 rfl) ?_
  refine lv_iload_n hx hb dL_line_4 rfl (lv_at hl 2 rfl) ?_
  refine k_cTl (As := [.int x0, .int x1]) (rest := [.int 0, .ref h1]) (wc := [(h0, .inr (11, f0)), (h2, .inr (7, f1))]) (wr := []) ⟨hx, hb, hml, hown, hts⟩ hN hX hAE hK hP hD hS hA [0, 1] [] (ci := 11) rfl rfl rfl rfl (by decide +kernel) (by decide +kernel) (by decide +kernel) (c_X11_line_0 l E D cI cJ cB cZ h0 x0 x1 f0 h2 f1 e0 e1 e2 hl9) (cwV 2 hts g9_L_line_X11_line_47 rfl rfl rfl (by decide +kernel) ⟨Nat.le_of_ble_eq_true rfl, Nat.le_of_ble_eq_true rfl⟩) rfl hl.1 (Nat.le_of_ble_eq_true rfl) dL_line_5 ⟨Nat.le_of_ble_eq_true rfl, Nat.le_of_ble_eq_true rfl⟩ (fun q9 ce H locs hP hD hS hce hcv hcl => ?_)
  have hP : va_P D vwCl [(h0, .inr (11, f0)), (h2, .inr (7, f1))] H := hP
  have hD : va_D A [(h0, .inr (11, f0)), (h2, .inr (7, f1))] := hD
  refine vx_catch (own := RL) (name := "java/lang/IndexOutOfBoundsException") hown [] ⟨0, 9, 12, 25⟩ [] (vx_table (x := yL_line) B (hts _ List.mem_cons_self)) (fun z hz => absurd hz List.not_mem_nil) (by decide) (by decide) (hts (.classLink RL 25 "java/lang/IndexOutOfBoundsException") (o9_L_line _ (List.mem_of_getElem? (i := 4) rfl))) (va_Nw.use rfl (kX.cast hX "java/lang/IndexOutOfBoundsException" (by decide))) hce hcv hcl ?_
  refine W.eq (g2 := F0 m 12 ls [.ref q9]) rfl ?_
  refine W.widen (k := 1) (n := 6) (Nat.le_of_ble_eq_true rfl) (Nat.le_of_ble_eq_true rfl) ?_
  refine lv_astore (lv' := [(4, .ref q9), (0, .ref h0), (1, .int x0), (2, .int x1), (3, .ref h1)]) hx hb dL_line_12 hl (by decide) rfl (fun ls hl => ?_)
  refine lv_iconst (v := 1) hx hb dL_line_14 (by decide) ?_
  exact W.iret (v := 1) hx hb hr (fun t ht hW => ⟨⟨1, (), rfl, rfl, kB_mk ht hW hP hK hD⟩, hS.F ht⟩) hS.2.2 dL_line_15
set_option maxHeartbeats 400000000 in
set_option maxRecDepth 100000 in
theorem c_X12_in_17 (l : Launch) (E : kE) (D : va_G) (cI cJ cB cZ : ClassId) (y0 : Int64) (e0 : ¬ (((lg_cmp y0 1) : Int32) < 0)) (e1 : (0 : Int32) < (lg_cmp y0 0)) : kI l E D (kT cI cJ cB cZ) yX12_in vW_X12_in ({ frames := 0, cells := 0, slots := 0, locals := 0 }) [.long y0, .long 1, .long 0] [] (0) [] 0 0 := by
  intro sz
  refine Met.ofW (cc := cX12_in) (maxL := 6) (ret := (some .boolean)) (by decide) rfl ?_
  intro p e s m args below meth c s₁ B hml hv
  obtain ⟨rfl, hsz, hP, hK, hD0, hN, hX⟩ := hv
  have hx := B.exec
  have hb := B.bytes
  have hr := B.returns
  have hts := atoms_spec (ws := vW_X12_in) B.pre
  have hown : s.vm.findClass RX12 = some m.cls := findClass_of_methodNamed B.named
  have hlocks := B.notSynchronized
  subst hsz
  have hD := hD0.self (sz := s.heap.size)
  have hAE := k_AE hD0 hX
  generalize hAe : va_A [] s.heap.size = A at hD hAE ⊢
  have hA : ∀ q : Nat, s.heap.size ≤ q → A q := fun q h => by rw [← hAe]; exact Or.inr h
  have hS : va_S A s.heap s.heap [] := va_S.rf
  have hP : va_P D vwCl [] s.heap := hP
  have hl := lv_entry ([.long y0, .long 1, .long 0] : List Value) (n := 6) (Nat.le_of_ble_eq_true rfl)
  rw [lg_entry_eq]
  generalize (lg_sl ([.long y0, .long 1, .long 0]) ++ List.replicate (6 - (lg_sl ([.long y0, .long 1, .long 0])).length) Slot.unset).toArray = ls at hl ⊢
  have hl : lv_has ls 6 [(0, .long y0), (2, .long 1), (4, .long 0)] := hl
  refine lv_lload_n hx hb dX12_in_0 rfl (lv_at hl 0 rfl) ?_
  refine lv_lload_n hx hb dX12_in_1 rfl (lv_at hl 1 rfl) ?_
  refine W.lcmp hx hb dX12_in_2 ?_
  refine lv_if_lt (tgt := 17) hx hb dX12_in_3 (by decide) (fun c9 => absurd c9 e0) (fun _ => ?_)
  refine lv_lload_n hx hb dX12_in_6 rfl (lv_at hl 0 rfl) ?_
  refine lv_lload hx hb dX12_in_7 (lv_at hl 2 rfl) ?_
  refine W.lcmp hx hb dX12_in_9 ?_
  refine lv_if_gt (tgt := 17) hx hb dX12_in_10 (by decide) (fun _ => ?_) (fun c9 => absurd e1 c9)
  refine lv_iconst (v := 0) hx hb dX12_in_17 (by decide) ?_
  exact W.zret (v := 0) hx hb hr rfl (fun t ht hW => ⟨⟨0, (), rfl, rfl, kB_mk ht hW hP hK hD⟩, hS.F ht⟩) hS.2.2 dX12_in_18
set_option maxHeartbeats 400000000 in
set_option maxRecDepth 100000 in
theorem c_X12_line_0 (l : Launch) (E : kE) (D : va_G) (cI cJ cB cZ : ClassId) (h0 : Nat) (x0 : Int32) (x1 : Int32) (f0 : List Value) (e0 : f0[187]? = some (.int 0)) (e1 : ¬ ((x0 : Int32) < 1)) (e2 : f0[0]? = some (.int 0)) : kJ l E D (kT cI cJ cB cZ) yX12_line vW_X12_line ({ frames := 1, cells := 0, slots := 0, locals := 25 }) [.ref h0, .int x0, .int x1] [(h0, .inr (12, f0))] (0) [(h0, .inr (12, (f0.set 0 (.int 1))))] 0 0 := by
  intro sz
  refine Met.ofW (cc := cX12_line) (maxL := 3) (ret := (some .long)) (by decide) rfl ?_
  intro p e s m args below meth c s₁ B hml hv
  obtain ⟨rfl, hsz, hP, hK, hD0, hN, hX⟩ := hv
  have hx := B.exec
  have hb := B.bytes
  have hr := B.returns
  have hts := atoms_spec (ws := vW_X12_line) B.pre
  have hown : s.vm.findClass RX12 = some m.cls := findClass_of_methodNamed B.named
  have hlocks := B.notSynchronized
  have hin12 : ∀ w ∈ wsX120, w ∈ vW_X12_line := u9_X12_line_wsX120
  subst hsz
  have hD := hD0.self (sz := s.heap.size)
  have hAE := k_AE hD0 hX
  generalize hAe : va_A [(h0, .inr (12, f0))] s.heap.size = A at hD hAE ⊢
  have hA : ∀ q : Nat, s.heap.size ≤ q → A q := fun q h => by rw [← hAe]; exact Or.inr h
  have hS : va_S A s.heap s.heap [] := va_S.rf
  have hP : va_P D vwCl [(h0, .inr (12, f0))] s.heap := hP
  have hl := lv_entry ([.ref h0, .int x0, .int x1] : List Value) (n := 3) (Nat.le_of_ble_eq_true rfl)
  rw [lg_entry_eq]
  generalize (lg_sl ([.ref h0, .int x0, .int x1]) ++ List.replicate (3 - (lg_sl ([.ref h0, .int x0, .int x1])).length) Slot.unset).toArray = ls at hl ⊢
  have hl : lv_has ls 3 [(0, .ref h0), (1, .int x0), (2, .int x1)] := hl
  refine lv_aload_n hx hb dX12_line_0 rfl (lv_at hl 0 rfl) ?_
  refine lv_iload_n hx hb dX12_line_1 rfl (lv_at hl 1 rfl) ?_
  refine lv_i2l (v := (Int32.toInt64 x0)) hx hb dX12_line_2 rfl ?_
  refine lv_lconst (v := 1) hx hb dX12_line_3 (by decide) ?_
  refine lv_aload_n hx hb dX12_line_4 rfl (lv_at hl 0 rfl) ?_
  refine k_get (D := D) (ci := 12) (v := .int 0) (N := 195) hx hb hts hin12 hown hK hP 0 rfl rfl (by decide) f9_12_187 (hts (.fieldLink RX12 1247 "IntegerHouseModel" "lines" "I") (o9_X12_line _ (List.mem_of_getElem? (i := 0) rfl))) e0 dX12_line_5 ?_
  refine lv_i2l (v := 0) hx hb dX12_line_8 (by decide) ?_
  refine k_cSi (As := [.long (Int32.toInt64 x0), .long 1, .long 0]) (rest := [.ref h0]) (wc := []) (wr := [(h0, .inr (12, f0))]) (w1 := []) ⟨hx, hb, hml, hown, hts⟩ hN hX hAE hK hP hD hS hA [] [0] rfl rfl (by decide +kernel) (by decide +kernel) (by decide +kernel) (c_X12_in_17 l E D cI cJ cB cZ (Int32.toInt64 x0) (fun z9 => e1 ((k_n4 (x := x0) (c := 1) (C := 1) (by decide)).mp z9)) ((k_n5 (x := x0) (c := 0) (d := 1) (C := 0) (by decide) (by decide)).mpr e1)) (va_cwS 3 hts g9_X12_line_X12_in_504 rfl rfl rfl (by decide +kernel) ⟨Nat.le_of_ble_eq_true rfl, Nat.le_of_ble_eq_true rfl⟩) rfl hl.1 (Nat.le_of_ble_eq_true rfl) dX12_line_9 ⟨Nat.le_of_ble_eq_true rfl, Nat.le_of_ble_eq_true rfl⟩ (fun H locs hP hD hS => ?_)
  have hP : va_P D vwCl [(h0, .inr (12, f0))] H := hP
  have hD : va_D A [(h0, .inr (12, f0))] := hD
  refine lv_if_eq (tgt := 31) hx hb dX12_line_12 (by decide) (fun _ => ?_) (fun c9 => absurd (by decide) c9)
  refine lv_iconst (v := 1) hx hb dX12_line_31 (by decide) ?_
  refine k_put (D := D) (ci := 12) (v := .int 1) (ty := .int) (N := 195) hx hb hts hin12 tyX12 tyX12_ok nmX12 hown hK hP hD hS 0 rfl rfl (by decide) f9_12_0 (hts (.fieldLink RX12 3 "IntegerHouseModel" "thrown" "I") (o9_X12_line _ (List.mem_of_getElem? (i := 4) rfl))) rfl pd_2 rfl rfl (k_len e2) dX12_line_32 (fun H locs hP hD hS => ?_)
  have hP : va_P D vwCl [(h0, .inr (12, (f0.set 0 (.int 1))))] H := hP
  have hD : va_D A [(h0, .inr (12, (f0.set 0 (.int 1))))] := hD
  refine lv_aload_n hx hb dX12_line_35 rfl (lv_at hl 0 rfl) ?_
  refine k_get (D := D) (ci := 12) (v := .int 1) (N := 195) hx hb hts hin12 hown hK hP 0 rfl rfl (by decide) f9_12_0 (hts (.fieldLink RX12 3 "IntegerHouseModel" "thrown" "I") (o9_X12_line _ (List.mem_of_getElem? (i := 4) rfl))) (k_set e2) dX12_line_36 ?_
  refine lv_if_le (tgt := 46) hx hb dX12_line_39 (by decide) (fun c9 => absurd c9 (by decide)) (fun _ => ?_)
  refine lv_lconst (v := 0) hx hb dX12_line_42 (by decide) ?_
  refine lv_goto (tgt := 70) hx hb dX12_line_43 (by decide) ?_
  exact W.lret (v := 0) hx hb hr (fun t ht hW => ⟨⟨0, (), rfl, rfl, kB_mk ht hW hP hK hD⟩, hS.F ht⟩) hS.2.2 dX12_line_70
set_option maxHeartbeats 400000000 in
set_option maxRecDepth 100000 in
theorem c_X7_isLine_1 (l : Launch) (E : kE) (D : va_G) (cI cJ cB cZ : ClassId) (h0 : Nat) (x0 : Int32) (f0 : List Value) (e0 : (x0 : Int32) < 1) : kI l E D (kT cI cJ cB cZ) yX7_isLine vW_X7_isLine ({ frames := 0, cells := 0, slots := 0, locals := 0 }) [.ref h0, .int x0] [(h0, .inr (7, f0))] (0) [(h0, .inr (7, f0))] 0 0 := by
  intro sz
  refine Met.ofW (cc := cX7_isLine) (maxL := 2) (ret := (some .boolean)) (by decide) rfl ?_
  intro p e s m args below meth c s₁ B hml hv
  obtain ⟨rfl, hsz, hP, hK, hD0, hN, hX⟩ := hv
  have hx := B.exec
  have hb := B.bytes
  have hr := B.returns
  have hts := atoms_spec (ws := vW_X7_isLine) B.pre
  have hown : s.vm.findClass RX7 = some m.cls := findClass_of_methodNamed B.named
  have hlocks := B.notSynchronized
  subst hsz
  have hD := hD0.self (sz := s.heap.size)
  have hAE := k_AE hD0 hX
  generalize hAe : va_A [(h0, .inr (7, f0))] s.heap.size = A at hD hAE ⊢
  have hA : ∀ q : Nat, s.heap.size ≤ q → A q := fun q h => by rw [← hAe]; exact Or.inr h
  have hS : va_S A s.heap s.heap [] := va_S.rf
  have hP : va_P D vwCl [(h0, .inr (7, f0))] s.heap := hP
  have hl := lv_entry ([.ref h0, .int x0] : List Value) (n := 2) (Nat.le_of_ble_eq_true rfl)
  rw [lg_entry_eq]
  generalize (lg_sl ([.ref h0, .int x0]) ++ List.replicate (2 - (lg_sl ([.ref h0, .int x0])).length) Slot.unset).toArray = ls at hl ⊢
  have hl : lv_has ls 2 [(0, .ref h0), (1, .int x0)] := hl
  refine lv_iload_n hx hb dX7_isLine_0 rfl (lv_at hl 1 rfl) ?_
  refine lv_iconst (v := 1) hx hb dX7_isLine_1 (by decide) ?_
  refine lv_icmp_lt (tgt := 17) hx hb dX7_isLine_2 (by decide) (fun _ => ?_) (fun c9 => absurd e0 c9)
  refine lv_iconst (v := 0) hx hb dX7_isLine_17 (by decide) ?_
  exact W.zret (v := 0) hx hb hr rfl (fun t ht hW => ⟨⟨0, (), rfl, rfl, kB_mk ht hW hP hK hD⟩, hS.F ht⟩) hS.2.2 dX7_isLine_18
set_option maxHeartbeats 400000000 in
set_option maxRecDepth 100000 in
theorem c_X11_line_1 (l : Launch) (E : kE) (D : va_G) (cI cJ cB cZ : ClassId) (h0 : Nat) (x0 : Int32) (x1 : Int32) (f0 : List Value) (h1 : Nat) (f1 : List Value) (e0 : f0[11]? = some (.ref h1)) (e1 : (x0 : Int32) < 1) (hl9 : l.stackTraces = false) : kTJ l E D (kT cI cJ cB cZ) yX11_line vW_X11_line ({ frames := 6, cells := 1, slots := 6, locals := 82 }) [.ref h0, .int x0, .int x1] [(h0, .inr (11, f0)), (h1, .inr (7, f1))] "java/lang/IndexOutOfBoundsException" 1 6 := by
  intro sz
  refine vx_ofW (cc := cX11_line) (maxL := 3) (ret := (some .long)) (by decide) rfl ?_
  intro p e s m args below meth c s₁ B hml ht9 hv
  obtain ⟨rfl, hsz, hP, hK, hD0, hN, hX⟩ := hv
  have hx := B.exec
  have hb := B.bytes
  have hr := B.returns
  have hts := atoms_spec (ws := vW_X11_line) B.pre
  have hown : s.vm.findClass RX11 = some m.cls := findClass_of_methodNamed B.named
  have hlocks := B.notSynchronized
  have hin11 : ∀ w ∈ wsX110, w ∈ vW_X11_line := u9_X11_line_wsX110
  subst hsz
  have hD := hD0.self (sz := s.heap.size)
  have hAE := k_AE hD0 hX
  generalize hAe : va_A [(h0, .inr (11, f0)), (h1, .inr (7, f1))] s.heap.size = A at hD hAE ⊢
  have hA : ∀ q : Nat, s.heap.size ≤ q → A q := fun q h => by rw [← hAe]; exact Or.inr h
  have hS : va_S A s.heap s.heap [] := va_S.rf
  have hP : va_P D vwCl [(h0, .inr (11, f0)), (h1, .inr (7, f1))] s.heap := hP
  have hl := lv_entry ([.ref h0, .int x0, .int x1] : List Value) (n := 3) (Nat.le_of_ble_eq_true rfl)
  rw [lg_entry_eq]
  generalize (lg_sl ([.ref h0, .int x0, .int x1]) ++ List.replicate (3 - (lg_sl ([.ref h0, .int x0, .int x1])).length) Slot.unset).toArray = ls at hl ⊢
  have hl : lv_has ls 3 [(0, .ref h0), (1, .int x0), (2, .int x1)] := hl
  refine lv_aload_n hx hb dX11_line_0 rfl (lv_at hl 0 rfl) ?_
  refine k_get (D := D) (ci := 11) (v := .ref h1) (N := 15) hx hb hts hin11 hown hK hP 0 rfl rfl (by decide) f9_11_11 (hts (.fieldLink RX11 98 "IntegerHouse" "prover" "LIntegerHouse$Prover;") (o9_X11_line _ (List.mem_of_getElem? (i := 0) rfl))) e0 dX11_line_1 ?_
  refine lv_iload_n hx hb dX11_line_4 rfl (lv_at hl 1 rfl) ?_
  refine k_cVi (As := [.int x0]) (rest := []) (wc := [(h1, .inr (7, f1))]) (wr := [(h0, .inr (11, f0))]) (w1 := [(h1, .inr (7, f1))]) ⟨hx, hb, hml, hown, hts⟩ hN hX hAE hK hP hD hS hA [1] [0] (ci := 7) rfl rfl rfl rfl (by decide +kernel) (by decide +kernel) (by decide +kernel) (c_X7_isLine_1 l E D cI cJ cB cZ h1 x0 f1 e1) (cwV 1 hts g9_X11_line_X7_isLine_400 rfl rfl rfl (by decide +kernel) ⟨Nat.le_of_ble_eq_true rfl, Nat.le_of_ble_eq_true rfl⟩) rfl hl.1 (Nat.le_of_ble_eq_true rfl) dX11_line_5 ⟨Nat.le_of_ble_eq_true rfl, Nat.le_of_ble_eq_true rfl⟩ (fun H locs hP hD hS => ?_)
  have hP : va_P D vwCl [(h0, .inr (11, f0)), (h1, .inr (7, f1))] H := hP
  have hD : va_D A [(h0, .inr (11, f0)), (h1, .inr (7, f1))] := hD
  refine lv_if_eq (tgt := 20) hx hb dX11_line_8 (by decide) (fun _ => ?_) (fun c9 => absurd (by decide) c9)
  obtain ⟨a9, a9r, a9o⟩ := kX.st hX hAE ("IntegerHouse", 403, "no such line or number of it") (List.mem_of_getElem? (i := 9) rfl)
  exact vx_throwSW (names := ["java/lang/RuntimeException", "java/lang/Exception"]) (A := A) hx hb hl9 hown (by decide +kernel) (by decide +kernel) (hts (.classLink RX11 197 "java/lang/IndexOutOfBoundsException") (o9_X11_line _ (List.mem_of_getElem? (i := 5) rfl))) (hts (.initialized "java/lang/IndexOutOfBoundsException") (o9_X11_line _ (List.mem_of_getElem? (i := 6) rfl))) a9r (vx_hat (L := vx_atS RX11 201 "java/lang/IndexOutOfBoundsException" ["java/lang/RuntimeException", "java/lang/Exception"]) (B := [.castable "java/lang/IndexOutOfBoundsException" "java/lang/IndexOutOfBoundsException", .declares (Bundle.initS "java/lang/RuntimeException"), .declares (Bundle.initS "java/lang/Exception"), .declares (Bundle.initS "java/lang/Throwable")]) (fun w h => hts w (x9_X11_line_0 w h)) (by decide +kernel) (vx_c (va_Nw.use rfl (kX.cast hX "java/lang/IndexOutOfBoundsException" (by decide))) (vx_c (va_Nw.use rfl (kX.decl hX "java/lang/RuntimeException" (by decide))) (vx_c (va_Nw.use rfl (kX.decl hX "java/lang/Exception" (by decide))) (vx_c (va_Nw.use rfl (kX.decl hX "java/lang/Throwable" (by decide))) vx_n))))) (by decide +kernel) (kX.us hX hAE) (kX.ss hX hAE) hS (by rw [hml]; exact hl.1) dX11_line_20 dX11_line_23 dX11_line_24 dX11_line_27 dX11_line_30 (fun x hx => (ht9 x hx).elim) (Nat.le_of_ble_eq_true rfl) (Nat.le_of_ble_eq_true rfl) (Nat.le_of_ble_eq_true rfl) (Nat.le_of_ble_eq_true rfl) hlocks (fun t h1 h2 h3 => k_tx hP hK hD hS t h1 h2 h3) hS.2.2 (Nat.le_of_ble_eq_true rfl) (Nat.le_of_ble_eq_true rfl)
set_option maxHeartbeats 400000000 in
set_option maxRecDepth 100000 in
theorem c_L_line_1 (l : Launch) (E : kE) (D : va_G) (cI cJ cB cZ : ClassId) (h0 : Nat) (x0 : Int32) (x1 : Int32) (h1 : Nat) (f0 : List Value) (h2 : Nat) (f1 : List Value) (e0 : f0[11]? = some (.ref h2)) (e1 : (x0 : Int32) < 1) (hl9 : l.stackTraces = false) : kI l E D (kT cI cJ cB cZ) yL_line vW_L_line ({ frames := 7, cells := 1, slots := 6, locals := 104 }) [.ref h0, .int x0, .int x1, .ref h1] [(h0, .inr (11, f0)), (h2, .inr (7, f1))] (1) [(h0, .inr (11, f0)), (h2, .inr (7, f1))] 1 6 := by
  intro sz
  refine k_metH (cc := cL_line) (maxL := 5) (ret := (some .int)) (hh := [(0, 9, 12, 25)]) (by decide) rfl ?_
  intro p e s m args below meth c s₁ B hml hv
  obtain ⟨rfl, hsz, hP, hK, hD0, hN, hX⟩ := hv
  have hx := B.exec
  have hb := B.bytes
  have hr := B.returns
  have hts := atoms_spec (ws := vW_L_line) B.pre
  have hown : s.vm.findClass RL = some m.cls := findClass_of_methodNamed B.named
  have hlocks := B.notSynchronized
  subst hsz
  have hD := hD0.self (sz := s.heap.size)
  have hAE := k_AE hD0 hX
  generalize hAe : va_A [(h0, .inr (11, f0)), (h2, .inr (7, f1))] s.heap.size = A at hD hAE ⊢
  have hA : ∀ q : Nat, s.heap.size ≤ q → A q := fun q h => by rw [← hAe]; exact Or.inr h
  have hS : va_S A s.heap s.heap [] := va_S.rf
  have hP : va_P D vwCl [(h0, .inr (11, f0)), (h2, .inr (7, f1))] s.heap := hP
  have hl := lv_entry ([.ref h0, .int x0, .int x1, .ref h1] : List Value) (n := 5) (Nat.le_of_ble_eq_true rfl)
  rw [lg_entry_eq]
  generalize (lg_sl ([.ref h0, .int x0, .int x1, .ref h1]) ++ List.replicate (5 - (lg_sl ([.ref h0, .int x0, .int x1, .ref h1])).length) Slot.unset).toArray = ls at hl ⊢
  have hl : lv_has ls 5 [(0, .ref h0), (1, .int x0), (2, .int x1), (3, .ref h1)] := hl
  refine lv_aload_n hx hb dL_line_0 rfl (lv_at hl 3 rfl) ?_
  refine lv_iconst (v := 0) hx hb dL_line_1 (by decide) ?_
  refine lv_aload_n hx hb dL_line_2 rfl (lv_at hl 0 rfl) ?_
  refine lv_iload_n hx hb dL_line_3 rfl (lv_at hl 1 rfl) ?_
  refine lv_iload_n hx hb dL_line_4 rfl (lv_at hl 2 rfl) ?_
  refine k_cTl (As := [.int x0, .int x1]) (rest := [.int 0, .ref h1]) (wc := [(h0, .inr (11, f0)), (h2, .inr (7, f1))]) (wr := []) ⟨hx, hb, hml, hown, hts⟩ hN hX hAE hK hP hD hS hA [0, 1] [] (ci := 11) rfl rfl rfl rfl (by decide +kernel) (by decide +kernel) (by decide +kernel) (c_X11_line_1 l E D cI cJ cB cZ h0 x0 x1 f0 h2 f1 e0 e1 hl9) (cwV 2 hts g9_L_line_X11_line_47 rfl rfl rfl (by decide +kernel) ⟨Nat.le_of_ble_eq_true rfl, Nat.le_of_ble_eq_true rfl⟩) rfl hl.1 (Nat.le_of_ble_eq_true rfl) dL_line_5 ⟨Nat.le_of_ble_eq_true rfl, Nat.le_of_ble_eq_true rfl⟩ (fun q9 ce H locs hP hD hS hce hcv hcl => ?_)
  have hP : va_P D vwCl [(h0, .inr (11, f0)), (h2, .inr (7, f1))] H := hP
  have hD : va_D A [(h0, .inr (11, f0)), (h2, .inr (7, f1))] := hD
  refine vx_catch (own := RL) (name := "java/lang/IndexOutOfBoundsException") hown [] ⟨0, 9, 12, 25⟩ [] (vx_table (x := yL_line) B (hts _ List.mem_cons_self)) (fun z hz => absurd hz List.not_mem_nil) (by decide) (by decide) (hts (.classLink RL 25 "java/lang/IndexOutOfBoundsException") (o9_L_line _ (List.mem_of_getElem? (i := 4) rfl))) (va_Nw.use rfl (kX.cast hX "java/lang/IndexOutOfBoundsException" (by decide))) hce hcv hcl ?_
  refine W.eq (g2 := F0 m 12 ls [.ref q9]) rfl ?_
  refine W.widen (k := 1) (n := 6) (Nat.le_of_ble_eq_true rfl) (Nat.le_of_ble_eq_true rfl) ?_
  refine lv_astore (lv' := [(4, .ref q9), (0, .ref h0), (1, .int x0), (2, .int x1), (3, .ref h1)]) hx hb dL_line_12 hl (by decide) rfl (fun ls hl => ?_)
  refine lv_iconst (v := 1) hx hb dL_line_14 (by decide) ?_
  exact W.iret (v := 1) hx hb hr (fun t ht hW => ⟨⟨1, (), rfl, rfl, kB_mk ht hW hP hK hD⟩, hS.F ht⟩) hS.2.2 dL_line_15
set_option maxHeartbeats 400000000 in
set_option maxRecDepth 100000 in
theorem c_X12_in_18 (l : Launch) (E : kE) (D : va_G) (cI cJ cB cZ : ClassId) (y0 : Int64) (e0 : ((lg_cmp y0 1) : Int32) < 0) : kI l E D (kT cI cJ cB cZ) yX12_in vW_X12_in ({ frames := 0, cells := 0, slots := 0, locals := 0 }) [.long y0, .long 1, .long 0] [] (0) [] 0 0 := by
  intro sz
  refine Met.ofW (cc := cX12_in) (maxL := 6) (ret := (some .boolean)) (by decide) rfl ?_
  intro p e s m args below meth c s₁ B hml hv
  obtain ⟨rfl, hsz, hP, hK, hD0, hN, hX⟩ := hv
  have hx := B.exec
  have hb := B.bytes
  have hr := B.returns
  have hts := atoms_spec (ws := vW_X12_in) B.pre
  have hown : s.vm.findClass RX12 = some m.cls := findClass_of_methodNamed B.named
  have hlocks := B.notSynchronized
  subst hsz
  have hD := hD0.self (sz := s.heap.size)
  have hAE := k_AE hD0 hX
  generalize hAe : va_A [] s.heap.size = A at hD hAE ⊢
  have hA : ∀ q : Nat, s.heap.size ≤ q → A q := fun q h => by rw [← hAe]; exact Or.inr h
  have hS : va_S A s.heap s.heap [] := va_S.rf
  have hP : va_P D vwCl [] s.heap := hP
  have hl := lv_entry ([.long y0, .long 1, .long 0] : List Value) (n := 6) (Nat.le_of_ble_eq_true rfl)
  rw [lg_entry_eq]
  generalize (lg_sl ([.long y0, .long 1, .long 0]) ++ List.replicate (6 - (lg_sl ([.long y0, .long 1, .long 0])).length) Slot.unset).toArray = ls at hl ⊢
  have hl : lv_has ls 6 [(0, .long y0), (2, .long 1), (4, .long 0)] := hl
  refine lv_lload_n hx hb dX12_in_0 rfl (lv_at hl 0 rfl) ?_
  refine lv_lload_n hx hb dX12_in_1 rfl (lv_at hl 1 rfl) ?_
  refine W.lcmp hx hb dX12_in_2 ?_
  refine lv_if_lt (tgt := 17) hx hb dX12_in_3 (by decide) (fun _ => ?_) (fun c9 => absurd e0 c9)
  refine lv_iconst (v := 0) hx hb dX12_in_17 (by decide) ?_
  exact W.zret (v := 0) hx hb hr rfl (fun t ht hW => ⟨⟨0, (), rfl, rfl, kB_mk ht hW hP hK hD⟩, hS.F ht⟩) hS.2.2 dX12_in_18
set_option maxHeartbeats 400000000 in
set_option maxRecDepth 100000 in
theorem c_X12_line_1 (l : Launch) (E : kE) (D : va_G) (cI cJ cB cZ : ClassId) (h0 : Nat) (x0 : Int32) (x1 : Int32) (f0 : List Value) (e0 : f0[187]? = some (.int 0)) (e1 : (x0 : Int32) < 1) (e2 : f0[0]? = some (.int 0)) : kJ l E D (kT cI cJ cB cZ) yX12_line vW_X12_line ({ frames := 1, cells := 0, slots := 0, locals := 25 }) [.ref h0, .int x0, .int x1] [(h0, .inr (12, f0))] (0) [(h0, .inr (12, (f0.set 0 (.int 1))))] 0 0 := by
  intro sz
  refine Met.ofW (cc := cX12_line) (maxL := 3) (ret := (some .long)) (by decide) rfl ?_
  intro p e s m args below meth c s₁ B hml hv
  obtain ⟨rfl, hsz, hP, hK, hD0, hN, hX⟩ := hv
  have hx := B.exec
  have hb := B.bytes
  have hr := B.returns
  have hts := atoms_spec (ws := vW_X12_line) B.pre
  have hown : s.vm.findClass RX12 = some m.cls := findClass_of_methodNamed B.named
  have hlocks := B.notSynchronized
  have hin12 : ∀ w ∈ wsX120, w ∈ vW_X12_line := u9_X12_line_wsX120
  subst hsz
  have hD := hD0.self (sz := s.heap.size)
  have hAE := k_AE hD0 hX
  generalize hAe : va_A [(h0, .inr (12, f0))] s.heap.size = A at hD hAE ⊢
  have hA : ∀ q : Nat, s.heap.size ≤ q → A q := fun q h => by rw [← hAe]; exact Or.inr h
  have hS : va_S A s.heap s.heap [] := va_S.rf
  have hP : va_P D vwCl [(h0, .inr (12, f0))] s.heap := hP
  have hl := lv_entry ([.ref h0, .int x0, .int x1] : List Value) (n := 3) (Nat.le_of_ble_eq_true rfl)
  rw [lg_entry_eq]
  generalize (lg_sl ([.ref h0, .int x0, .int x1]) ++ List.replicate (3 - (lg_sl ([.ref h0, .int x0, .int x1])).length) Slot.unset).toArray = ls at hl ⊢
  have hl : lv_has ls 3 [(0, .ref h0), (1, .int x0), (2, .int x1)] := hl
  refine lv_aload_n hx hb dX12_line_0 rfl (lv_at hl 0 rfl) ?_
  refine lv_iload_n hx hb dX12_line_1 rfl (lv_at hl 1 rfl) ?_
  refine lv_i2l (v := (Int32.toInt64 x0)) hx hb dX12_line_2 rfl ?_
  refine lv_lconst (v := 1) hx hb dX12_line_3 (by decide) ?_
  refine lv_aload_n hx hb dX12_line_4 rfl (lv_at hl 0 rfl) ?_
  refine k_get (D := D) (ci := 12) (v := .int 0) (N := 195) hx hb hts hin12 hown hK hP 0 rfl rfl (by decide) f9_12_187 (hts (.fieldLink RX12 1247 "IntegerHouseModel" "lines" "I") (o9_X12_line _ (List.mem_of_getElem? (i := 0) rfl))) e0 dX12_line_5 ?_
  refine lv_i2l (v := 0) hx hb dX12_line_8 (by decide) ?_
  refine k_cSi (As := [.long (Int32.toInt64 x0), .long 1, .long 0]) (rest := [.ref h0]) (wc := []) (wr := [(h0, .inr (12, f0))]) (w1 := []) ⟨hx, hb, hml, hown, hts⟩ hN hX hAE hK hP hD hS hA [] [0] rfl rfl (by decide +kernel) (by decide +kernel) (by decide +kernel) (c_X12_in_18 l E D cI cJ cB cZ (Int32.toInt64 x0) ((k_n4 (x := x0) (c := 1) (C := 1) (by decide)).mpr e1)) (va_cwS 3 hts g9_X12_line_X12_in_504 rfl rfl rfl (by decide +kernel) ⟨Nat.le_of_ble_eq_true rfl, Nat.le_of_ble_eq_true rfl⟩) rfl hl.1 (Nat.le_of_ble_eq_true rfl) dX12_line_9 ⟨Nat.le_of_ble_eq_true rfl, Nat.le_of_ble_eq_true rfl⟩ (fun H locs hP hD hS => ?_)
  have hP : va_P D vwCl [(h0, .inr (12, f0))] H := hP
  have hD : va_D A [(h0, .inr (12, f0))] := hD
  refine lv_if_eq (tgt := 31) hx hb dX12_line_12 (by decide) (fun _ => ?_) (fun c9 => absurd (by decide) c9)
  refine lv_iconst (v := 1) hx hb dX12_line_31 (by decide) ?_
  refine k_put (D := D) (ci := 12) (v := .int 1) (ty := .int) (N := 195) hx hb hts hin12 tyX12 tyX12_ok nmX12 hown hK hP hD hS 0 rfl rfl (by decide) f9_12_0 (hts (.fieldLink RX12 3 "IntegerHouseModel" "thrown" "I") (o9_X12_line _ (List.mem_of_getElem? (i := 4) rfl))) rfl pd_2 rfl rfl (k_len e2) dX12_line_32 (fun H locs hP hD hS => ?_)
  have hP : va_P D vwCl [(h0, .inr (12, (f0.set 0 (.int 1))))] H := hP
  have hD : va_D A [(h0, .inr (12, (f0.set 0 (.int 1))))] := hD
  refine lv_aload_n hx hb dX12_line_35 rfl (lv_at hl 0 rfl) ?_
  refine k_get (D := D) (ci := 12) (v := .int 1) (N := 195) hx hb hts hin12 hown hK hP 0 rfl rfl (by decide) f9_12_0 (hts (.fieldLink RX12 3 "IntegerHouseModel" "thrown" "I") (o9_X12_line _ (List.mem_of_getElem? (i := 4) rfl))) (k_set e2) dX12_line_36 ?_
  refine lv_if_le (tgt := 46) hx hb dX12_line_39 (by decide) (fun c9 => absurd c9 (by decide)) (fun _ => ?_)
  refine lv_lconst (v := 0) hx hb dX12_line_42 (by decide) ?_
  refine lv_goto (tgt := 70) hx hb dX12_line_43 (by decide) ?_
  exact W.lret (v := 0) hx hb hr (fun t ht hW => ⟨⟨0, (), rfl, rfl, kB_mk ht hW hP hK hD⟩, hS.F ht⟩) hS.2.2 dX12_line_70
set_option maxHeartbeats 400000000 in
set_option maxRecDepth 100000 in
theorem c_X0_boundDigit_0 (l : Launch) (E : kE) (D : va_G) (cI cJ cB cZ : ClassId) (h0 : Nat) (x0 : Int32) (f0 : List Value) (h1 : Nat) (f1 : List Value) (e0 : f0[0]? = some (.ref h1)) (e1 : f1[12]? = some (.int 0)) : kI l E D (kT cI cJ cB cZ) yX0_boundDigit vW_X0_boundDigit ({ frames := 0, cells := 0, slots := 0, locals := 0 }) [.ref h0, .int x0] [(h0, .inr (0, f0)), (h1, .inr (2, f1))] (0) [(h0, .inr (0, f0)), (h1, .inr (2, f1))] 0 0 := by
  intro sz
  refine Met.ofW (cc := cX0_boundDigit) (maxL := 8) (ret := (some .int)) (by decide) rfl ?_
  intro p e s m args below meth c s₁ B hml hv
  obtain ⟨rfl, hsz, hP, hK, hD0, hN, hX⟩ := hv
  have hx := B.exec
  have hb := B.bytes
  have hr := B.returns
  have hts := atoms_spec (ws := vW_X0_boundDigit) B.pre
  have hown : s.vm.findClass RX0 = some m.cls := findClass_of_methodNamed B.named
  have hlocks := B.notSynchronized
  have hin0 : ∀ w ∈ wsX00, w ∈ vW_X0_boundDigit := u9_X0_boundDigit_wsX00
  have hin2 : ∀ w ∈ wsX20, w ∈ vW_X0_boundDigit := u9_X0_boundDigit_wsX20
  subst hsz
  have hD := hD0.self (sz := s.heap.size)
  have hAE := k_AE hD0 hX
  generalize hAe : va_A [(h0, .inr (0, f0)), (h1, .inr (2, f1))] s.heap.size = A at hD hAE ⊢
  have hA : ∀ q : Nat, s.heap.size ≤ q → A q := fun q h => by rw [← hAe]; exact Or.inr h
  have hS : va_S A s.heap s.heap [] := va_S.rf
  have hP : va_P D vwCl [(h0, .inr (0, f0)), (h1, .inr (2, f1))] s.heap := hP
  have hl := lv_entry ([.ref h0, .int x0] : List Value) (n := 8) (Nat.le_of_ble_eq_true rfl)
  rw [lg_entry_eq]
  generalize (lg_sl ([.ref h0, .int x0]) ++ List.replicate (8 - (lg_sl ([.ref h0, .int x0])).length) Slot.unset).toArray = ls at hl ⊢
  have hl : lv_has ls 8 [(0, .ref h0), (1, .int x0)] := hl
  refine lv_iconst (v := 0) hx hb dX0_boundDigit_0 (by decide) ?_
  refine lv_istore_n (lv' := [(2, .int 0), (0, .ref h0), (1, .int x0)]) hx hb dX0_boundDigit_1 rfl hl (by decide) rfl (fun ls hl => ?_)
  refine lv_lconst (v := 1) hx hb dX0_boundDigit_2 (by decide) ?_
  refine lv_lstore_n (lv' := [(3, .long 1), (2, .int 0), (0, .ref h0), (1, .int x0)]) hx hb dX0_boundDigit_3 rfl hl (by decide) rfl (fun ls hl => ?_)
  refine lv_iconst (v := 0) hx hb dX0_boundDigit_4 (by decide) ?_
  refine lv_istore (lv' := [(5, .int 0), (3, .long 1), (2, .int 0), (0, .ref h0), (1, .int x0)]) hx hb dX0_boundDigit_5 hl (by decide) rfl (fun ls hl => ?_)
  refine lv_iload hx hb dX0_boundDigit_7 (lv_at hl 0 rfl) ?_
  refine lv_aload_n hx hb dX0_boundDigit_9 rfl (lv_at hl 3 rfl) ?_
  refine k_get (D := D) (ci := 0) (v := .ref h1) (N := 19) hx hb hts hin0 hown hK hP 0 rfl rfl (by decide) f9_0_0 (hts (.fieldLink RX0 44 "IntegerHouse$Answers" "house" "LIntegerHouse$House;") (o9_X0_boundDigit _ (List.mem_of_getElem? (i := 0) rfl))) e0 dX0_boundDigit_10 ?_
  refine k_getN (host := "IntegerHouse") (D := D) (ci := 2) (v := .int 0) (N := 16) hx hb hts hin2 hown hK hP 1 rfl rfl (by decide) f9_2_12 (va_Nw.use rfl (hN.1 ("IntegerHouse$Answers", 173, "IntegerHouse$House", "poolSize", "I", "IntegerHouse") (List.mem_of_getElem? (i := 17) rfl))) e1 dX0_boundDigit_13 ?_
  refine lv_icmp_ge (tgt := 85) hx hb dX0_boundDigit_16 (by decide) (fun _ => ?_) (fun c9 => absurd (by decide) c9)
  refine lv_iload_n hx hb dX0_boundDigit_85 rfl (lv_at hl 2 rfl) ?_
  refine lv_if_eq (tgt := 103) hx hb dX0_boundDigit_86 (by decide) (fun _ => ?_) (fun c9 => absurd (by decide) c9)
  refine lv_iconst (v := 0) hx hb dX0_boundDigit_103 (by decide) ?_
  exact W.iret (v := 0) hx hb hr (fun t ht hW => ⟨⟨0, (), rfl, rfl, kB_mk ht hW hP hK hD⟩, hS.F ht⟩) hS.2.2 dX0_boundDigit_104
set_option maxHeartbeats 400000000 in
set_option maxRecDepth 100000 in
theorem c_X11_bound_0 (l : Launch) (E : kE) (D : va_G) (cI cJ cB cZ : ClassId) (h0 : Nat) (x0 : Int32) (f0 : List Value) (h1 : Nat) (f1 : List Value) (h2 : Nat) (f2 : List Value) (h3 : Nat) (f3 : List Value) (e0 : f0[1]? = some (.ref h1)) (e1 : f1[8]? = some (.int 0)) (e2 : f0[7]? = some (.ref h2)) (e3 : f2[0]? = some (.ref h3)) (e4 : f3[12]? = some (.int 0)) : kI l E D (kT cI cJ cB cZ) yX11_bound vW_X11_bound ({ frames := 1, cells := 0, slots := 0, locals := 27 }) [.ref h0, .int x0] [(h0, .inr (11, f0)), (h1, .inr (1, f1)), (h2, .inr (0, f2)), (h3, .inr (2, f3))] (0) [(h0, .inr (11, f0)), (h1, .inr (1, f1)), (h2, .inr (0, f2)), (h3, .inr (2, f3))] 0 0 := by
  intro sz
  refine Met.ofW (cc := cX11_bound) (maxL := 2) (ret := (some .int)) (by decide) rfl ?_
  intro p e s m args below meth c s₁ B hml hv
  obtain ⟨rfl, hsz, hP, hK, hD0, hN, hX⟩ := hv
  have hx := B.exec
  have hb := B.bytes
  have hr := B.returns
  have hts := atoms_spec (ws := vW_X11_bound) B.pre
  have hown : s.vm.findClass RX11 = some m.cls := findClass_of_methodNamed B.named
  have hlocks := B.notSynchronized
  have hin11 : ∀ w ∈ wsX110, w ∈ vW_X11_bound := u9_X11_bound_wsX110
  have hin1 : ∀ w ∈ wsX10, w ∈ vW_X11_bound := u9_X11_bound_wsX10
  subst hsz
  have hD := hD0.self (sz := s.heap.size)
  have hAE := k_AE hD0 hX
  generalize hAe : va_A [(h0, .inr (11, f0)), (h1, .inr (1, f1)), (h2, .inr (0, f2)), (h3, .inr (2, f3))] s.heap.size = A at hD hAE ⊢
  have hA : ∀ q : Nat, s.heap.size ≤ q → A q := fun q h => by rw [← hAe]; exact Or.inr h
  have hS : va_S A s.heap s.heap [] := va_S.rf
  have hP : va_P D vwCl [(h0, .inr (11, f0)), (h1, .inr (1, f1)), (h2, .inr (0, f2)), (h3, .inr (2, f3))] s.heap := hP
  have hl := lv_entry ([.ref h0, .int x0] : List Value) (n := 2) (Nat.le_of_ble_eq_true rfl)
  rw [lg_entry_eq]
  generalize (lg_sl ([.ref h0, .int x0]) ++ List.replicate (2 - (lg_sl ([.ref h0, .int x0])).length) Slot.unset).toArray = ls at hl ⊢
  have hl : lv_has ls 2 [(0, .ref h0), (1, .int x0)] := hl
  refine lv_aload_n hx hb dX11_bound_0 rfl (lv_at hl 0 rfl) ?_
  refine k_get (D := D) (ci := 11) (v := .ref h1) (N := 15) hx hb hts hin11 hown hK hP 0 rfl rfl (by decide) f9_11_1 (hts (.fieldLink RX11 16 "IntegerHouse" "disk" "LIntegerHouse$Disk;") (o9_X11_bound _ (List.mem_of_getElem? (i := 0) rfl))) e0 dX11_bound_1 ?_
  refine k_getN (host := "IntegerHouse") (D := D) (ci := 1) (v := .int 0) (N := 9) hx hb hts hin1 hown hK hP 1 rfl rfl (by decide) f9_1_8 (va_Nw.use rfl (hN.1 ("IntegerHouse", 122, "IntegerHouse$Disk", "down", "Z", "IntegerHouse") (List.mem_of_getElem? (i := 3) rfl))) e1 dX11_bound_4 ?_
  refine lv_if_eq (tgt := 15) hx hb dX11_bound_7 (by decide) (fun _ => ?_) (fun c9 => absurd (by decide) c9)
  refine lv_aload_n hx hb dX11_bound_15 rfl (lv_at hl 0 rfl) ?_
  refine k_get (D := D) (ci := 11) (v := .ref h2) (N := 15) hx hb hts hin11 hown hK hP 0 rfl rfl (by decide) f9_11_7 (hts (.fieldLink RX11 64 "IntegerHouse" "answers" "LIntegerHouse$Answers;") (o9_X11_bound _ (List.mem_of_getElem? (i := 1) rfl))) e2 dX11_bound_16 ?_
  refine lv_iload_n hx hb dX11_bound_19 rfl (lv_at hl 1 rfl) ?_
  refine k_cVi (As := [.int x0]) (rest := []) (wc := [(h2, .inr (0, f2)), (h3, .inr (2, f3))]) (wr := [(h0, .inr (11, f0)), (h1, .inr (1, f1))]) (w1 := [(h2, .inr (0, f2)), (h3, .inr (2, f3))]) ⟨hx, hb, hml, hown, hts⟩ hN hX hAE hK hP hD hS hA [2, 3] [0, 1] (ci := 0) rfl rfl rfl rfl (by decide +kernel) (by decide +kernel) (by decide +kernel) (c_X0_boundDigit_0 l E D cI cJ cB cZ h2 x0 f2 h3 f3 e3 e4) (cwV 1 hts g9_X11_bound_X0_boundDigit_409 rfl rfl rfl (by decide +kernel) ⟨Nat.le_of_ble_eq_true rfl, Nat.le_of_ble_eq_true rfl⟩) rfl hl.1 (Nat.le_of_ble_eq_true rfl) dX11_bound_20 ⟨Nat.le_of_ble_eq_true rfl, Nat.le_of_ble_eq_true rfl⟩ (fun H locs hP hD hS => ?_)
  have hP : va_P D vwCl [(h0, .inr (11, f0)), (h1, .inr (1, f1)), (h2, .inr (0, f2)), (h3, .inr (2, f3))] H := hP
  have hD : va_D A [(h0, .inr (11, f0)), (h1, .inr (1, f1)), (h2, .inr (0, f2)), (h3, .inr (2, f3))] := hD
  exact W.iret (v := 0) hx hb hr (fun t ht hW => ⟨⟨0, (), rfl, rfl, kB_mk ht hW hP hK hD⟩, hS.F ht⟩) hS.2.2 dX11_bound_23
set_option maxHeartbeats 400000000 in
set_option maxRecDepth 100000 in
theorem c_X12_bound_0 (l : Launch) (E : kE) (D : va_G) (cI cJ cB cZ : ClassId) (h0 : Nat) (x0 : Int32) (f0 : List Value) (h1 : Nat) (g0 : Nat → Int32) (e0 : f0[0]? = some (.int 0)) (e1 : f0[5]? = some (.int 0)) (e2 : f0[119]? = some (.int 0)) (e3 : f0[121]? = some (.ref h1)) (e4 : f0[33]? = some (.int 0)) : kI l E D (kT cI cJ cB cZ) yX12_bound vW_X12_bound ({ frames := 2, cells := 0, slots := 0, locals := 42 }) [.ref h0, .int x0] [(h0, .inr (12, f0)), (h1, .inl (cZ, 26, .inl g0))] (0) [(h0, .inr (12, ((f0.set 0 (.int 0)).set 119 (.int 0)))), (h1, .inl (cZ, 26, .inl (upd (upd (upd (upd (upd (upd (upd (upd (upd (upd (upd (upd (upd (upd (upd (upd (upd (upd (upd (upd (upd (upd (upd (upd (upd (upd g0 0 0) 1 0) 2 0) 3 0) 4 0) 5 0) 6 0) 7 0) 8 0) 9 0) 10 0) 11 0) 12 0) 13 0) 14 0) 15 0) 16 0) 17 0) 18 0) 19 0) 20 0) 21 0) 22 0) 23 0) 24 0) 25 0)))] 0 0 := by
  intro sz
  refine Met.ofW (cc := cX12_bound) (maxL := 8) (ret := (some .int)) (by decide) rfl ?_
  intro p e s m args below meth c s₁ B hml hv
  obtain ⟨rfl, hsz, hP, hK, hD0, hN, hX⟩ := hv
  have hx := B.exec
  have hb := B.bytes
  have hr := B.returns
  have hts := atoms_spec (ws := vW_X12_bound) B.pre
  have hown : s.vm.findClass RX12 = some m.cls := findClass_of_methodNamed B.named
  have hlocks := B.notSynchronized
  have hin12 : ∀ w ∈ wsX120, w ∈ vW_X12_bound := u9_X12_bound_wsX120
  subst hsz
  have hD := hD0.self (sz := s.heap.size)
  have hAE := k_AE hD0 hX
  generalize hAe : va_A [(h0, .inr (12, f0)), (h1, .inl (cZ, 26, .inl g0))] s.heap.size = A at hD hAE ⊢
  have hA : ∀ q : Nat, s.heap.size ≤ q → A q := fun q h => by rw [← hAe]; exact Or.inr h
  have hS : va_S A s.heap s.heap [] := va_S.rf
  have hP : va_P D vwCl [(h0, .inr (12, f0)), (h1, .inl (cZ, 26, .inl g0))] s.heap := hP
  have hl := lv_entry ([.ref h0, .int x0] : List Value) (n := 8) (Nat.le_of_ble_eq_true rfl)
  rw [lg_entry_eq]
  generalize (lg_sl ([.ref h0, .int x0]) ++ List.replicate (8 - (lg_sl ([.ref h0, .int x0])).length) Slot.unset).toArray = ls at hl ⊢
  have hl : lv_has ls 8 [(0, .ref h0), (1, .int x0)] := hl
  refine lv_aload_n hx hb dX12_bound_0 rfl (lv_at hl 0 rfl) ?_
  refine k_cVi (As := []) (rest := []) (wc := [(h0, .inr (12, f0))]) (wr := [(h1, .inl (cZ, 26, .inl g0))]) (w1 := [(h0, .inr (12, (f0.set 0 (.int 0))))]) ⟨hx, hb, hml, hown, hts⟩ hN hX hAE hK hP hD hS hA [0] [1] (ci := 12) rfl rfl rfl rfl (by decide +kernel) (by decide +kernel) (by decide +kernel) (c_X12_asks_0 l E D cI cJ cB cZ h0 f0 e0 e1) (cwV 0 hts g9_X12_bound_X12_asks_871 rfl rfl rfl (by decide +kernel) ⟨Nat.le_of_ble_eq_true rfl, Nat.le_of_ble_eq_true rfl⟩) rfl hl.1 (Nat.le_of_ble_eq_true rfl) dX12_bound_1 ⟨Nat.le_of_ble_eq_true rfl, Nat.le_of_ble_eq_true rfl⟩ (fun H locs hP hD hS => ?_)
  have hP : va_P D vwCl [(h1, .inl (cZ, 26, .inl g0)), (h0, .inr (12, (f0.set 0 (.int 0))))] H := hP
  have hD : va_D A [(h1, .inl (cZ, 26, .inl g0)), (h0, .inr (12, (f0.set 0 (.int 0))))] := hD
  refine lv_if_ne (tgt := 10) hx hb dX12_bound_4 (by decide) (fun _ => ?_) (fun c9 => absurd c9 (by decide))
  refine lv_aload_n hx hb dX12_bound_10 rfl (lv_at hl 0 rfl) ?_
  refine k_cVv (As := []) (rest := []) (wc := [(h0, .inr (12, (f0.set 0 (.int 0)))), (h1, .inl (cZ, 26, .inl g0))]) (wr := []) (w1 := (fun _ : Unit => [(h0, .inr (12, ((f0.set 0 (.int 0)).set 119 (.int 0)))), (h1, .inl (cZ, 26, .inl (upd (upd (upd (upd (upd (upd (upd (upd (upd (upd (upd (upd (upd (upd (upd (upd (upd (upd (upd (upd (upd (upd (upd (upd (upd (upd g0 0 0) 1 0) 2 0) 3 0) 4 0) 5 0) 6 0) 7 0) 8 0) 9 0) 10 0) 11 0) 12 0) 13 0) 14 0) 15 0) 16 0) 17 0) 18 0) 19 0) 20 0) 21 0) 22 0) 23 0) 24 0) 25 0)))])) ⟨hx, hb, hml, hown, hts⟩ hN hX hAE hK hP hD hS hA [1, 0] [] (ci := 12) rfl rfl rfl rfl (by decide +kernel) (by decide +kernel) (by decide +kernel) (c_X12_putOn_0 l E D cI cJ cB cZ h0 ((f0.set 0 (.int 0))) h1 g0 (k_ne (by decide) e2) (k_ne (by decide) e3) (k_ne (by decide) e4)) (cwV 0 hts g9_X12_bound_X12_putOn_982 rfl rfl rfl (by decide +kernel) ⟨Nat.le_of_ble_eq_true rfl, Nat.le_of_ble_eq_true rfl⟩) rfl hl.1 (Nat.le_of_ble_eq_true rfl) dX12_bound_11 ⟨Nat.le_of_ble_eq_true rfl, Nat.le_of_ble_eq_true rfl⟩ (fun _ H locs hP hD hS => ?_)
  have hP : va_P D vwCl [(h0, .inr (12, ((f0.set 0 (.int 0)).set 119 (.int 0)))), (h1, .inl (cZ, 26, .inl (upd (upd (upd (upd (upd (upd (upd (upd (upd (upd (upd (upd (upd (upd (upd (upd (upd (upd (upd (upd (upd (upd (upd (upd (upd (upd g0 0 0) 1 0) 2 0) 3 0) 4 0) 5 0) 6 0) 7 0) 8 0) 9 0) 10 0) 11 0) 12 0) 13 0) 14 0) 15 0) 16 0) 17 0) 18 0) 19 0) 20 0) 21 0) 22 0) 23 0) 24 0) 25 0)))] H := hP
  have hD : va_D A [(h0, .inr (12, ((f0.set 0 (.int 0)).set 119 (.int 0)))), (h1, .inl (cZ, 26, .inl (upd (upd (upd (upd (upd (upd (upd (upd (upd (upd (upd (upd (upd (upd (upd (upd (upd (upd (upd (upd (upd (upd (upd (upd (upd (upd g0 0 0) 1 0) 2 0) 3 0) 4 0) 5 0) 6 0) 7 0) 8 0) 9 0) 10 0) 11 0) 12 0) 13 0) 14 0) 15 0) 16 0) 17 0) 18 0) 19 0) 20 0) 21 0) 22 0) 23 0) 24 0) 25 0)))] := hD
  refine lv_lconst (v := 0) hx hb dX12_bound_14 (by decide) ?_
  refine lv_lstore_n (lv' := [(2, .long 0), (0, .ref h0), (1, .int x0)]) hx hb dX12_bound_15 rfl hl (by decide) rfl (fun ls hl => ?_)
  refine lv_lconst (v := 1) hx hb dX12_bound_16 (by decide) ?_
  refine lv_lstore (lv' := [(4, .long 1), (2, .long 0), (0, .ref h0), (1, .int x0)]) hx hb dX12_bound_17 hl (by decide) rfl (fun ls hl => ?_)
  refine lv_iconst (v := 0) hx hb dX12_bound_19 (by decide) ?_
  refine lv_istore (lv' := [(6, .int 0), (4, .long 1), (2, .long 0), (0, .ref h0), (1, .int x0)]) hx hb dX12_bound_20 hl (by decide) rfl (fun ls hl => ?_)
  refine lv_iload hx hb dX12_bound_22 (lv_at hl 0 rfl) ?_
  refine lv_aload_n hx hb dX12_bound_24 rfl (lv_at hl 3 rfl) ?_
  refine k_get (D := D) (ci := 12) (v := .int 0) (N := 195) hx hb hts hin12 hown hK hP 0 rfl rfl (by decide) f9_12_119 (hts (.fieldLink RX12 928 "IntegerHouseModel" "work" "I") (o9_X12_bound _ (List.mem_of_getElem? (i := 7) rfl))) (k_set (k_ne (by decide) e2)) dX12_bound_25 ?_
  refine lv_icmp_ge (tgt := 157) hx hb dX12_bound_28 (by decide) (fun _ => ?_) (fun c9 => absurd (by decide) c9)
  refine lv_lload_n hx hb dX12_bound_157 rfl (lv_at hl 2 rfl) ?_
  refine lv_lconst (v := 0) hx hb dX12_bound_158 (by decide) ?_
  refine W.lcmp hx hb dX12_bound_159 ?_
  refine k_topi (y := 0) (by decide) ?_
  refine lv_if_eq (tgt := 174) hx hb dX12_bound_160 (by decide) (fun _ => ?_) (fun c9 => absurd (by decide) c9)
  refine lv_iconst (v := 0) hx hb dX12_bound_174 (by decide) ?_
  exact W.iret (v := 0) hx hb hr (fun t ht hW => ⟨⟨0, (), rfl, rfl, kB_mk ht hW hP hK hD⟩, hS.F ht⟩) hS.2.2 dX12_bound_175
set_option maxHeartbeats 400000000 in
set_option maxRecDepth 100000 in
theorem c_X11_audit_0 (l : Launch) (E : kE) (D : va_G) (cI cJ cB cZ : ClassId) (h0 : Nat) (f0 : List Value) (h1 : Nat) (f1 : List Value) (e0 : f0[1]? = some (.ref h1)) (e1 : f1[8]? = some (.int 0)) : kI l E D (kT cI cJ cB cZ) yX11_audit vW_X11_audit ({ frames := 0, cells := 0, slots := 0, locals := 0 }) [.ref h0] [(h0, .inr (11, f0)), (h1, .inr (1, f1))] (0) [(h0, .inr (11, f0)), (h1, .inr (1, f1))] 0 0 := by
  intro sz
  refine Met.ofW (cc := cX11_audit) (maxL := 1) (ret := (some .int)) (by decide) rfl ?_
  intro p e s m args below meth c s₁ B hml hv
  obtain ⟨rfl, hsz, hP, hK, hD0, hN, hX⟩ := hv
  have hx := B.exec
  have hb := B.bytes
  have hr := B.returns
  have hts := atoms_spec (ws := vW_X11_audit) B.pre
  have hown : s.vm.findClass RX11 = some m.cls := findClass_of_methodNamed B.named
  have hlocks := B.notSynchronized
  have hin11 : ∀ w ∈ wsX110, w ∈ vW_X11_audit := u9_X11_audit_wsX110
  have hin1 : ∀ w ∈ wsX10, w ∈ vW_X11_audit := u9_X11_audit_wsX10
  subst hsz
  have hD := hD0.self (sz := s.heap.size)
  have hAE := k_AE hD0 hX
  generalize hAe : va_A [(h0, .inr (11, f0)), (h1, .inr (1, f1))] s.heap.size = A at hD hAE ⊢
  have hA : ∀ q : Nat, s.heap.size ≤ q → A q := fun q h => by rw [← hAe]; exact Or.inr h
  have hS : va_S A s.heap s.heap [] := va_S.rf
  have hP : va_P D vwCl [(h0, .inr (11, f0)), (h1, .inr (1, f1))] s.heap := hP
  have hl := lv_entry ([.ref h0] : List Value) (n := 1) (Nat.le_of_ble_eq_true rfl)
  rw [lg_entry_eq]
  generalize (lg_sl ([.ref h0]) ++ List.replicate (1 - (lg_sl ([.ref h0])).length) Slot.unset).toArray = ls at hl ⊢
  have hl : lv_has ls 1 [(0, .ref h0)] := hl
  refine lv_aload_n hx hb dX11_audit_0 rfl (lv_at hl 0 rfl) ?_
  refine k_get (D := D) (ci := 11) (v := .ref h1) (N := 15) hx hb hts hin11 hown hK hP 0 rfl rfl (by decide) f9_11_1 (hts (.fieldLink RX11 16 "IntegerHouse" "disk" "LIntegerHouse$Disk;") (o9_X11_audit _ (List.mem_of_getElem? (i := 0) rfl))) e0 dX11_audit_1 ?_
  refine k_getN (host := "IntegerHouse") (D := D) (ci := 1) (v := .int 0) (N := 9) hx hb hts hin1 hown hK hP 1 rfl rfl (by decide) f9_1_8 (va_Nw.use rfl (hN.1 ("IntegerHouse", 122, "IntegerHouse$Disk", "down", "Z", "IntegerHouse") (List.mem_of_getElem? (i := 3) rfl))) e1 dX11_audit_4 ?_
  refine lv_if_eq (tgt := 15) hx hb dX11_audit_7 (by decide) (fun _ => ?_) (fun c9 => absurd (by decide) c9)
  refine lv_iconst (v := 0) hx hb dX11_audit_15 (by decide) ?_
  exact W.iret (v := 0) hx hb hr (fun t ht hW => ⟨⟨0, (), rfl, rfl, kB_mk ht hW hP hK hD⟩, hS.F ht⟩) hS.2.2 dX11_audit_16
set_option maxHeartbeats 400000000 in
set_option maxRecDepth 100000 in
theorem c_X12_audit_0 (l : Launch) (E : kE) (D : va_G) (cI cJ cB cZ : ClassId) (h0 : Nat) (f0 : List Value) (e0 : f0[0]? = some (.int 0)) (e1 : f0[5]? = some (.int 0)) : kI l E D (kT cI cJ cB cZ) yX12_audit vW_X12_audit ({ frames := 1, cells := 0, slots := 0, locals := 20 }) [.ref h0] [(h0, .inr (12, f0))] (0) [(h0, .inr (12, (f0.set 0 (.int 0))))] 0 0 := by
  intro sz
  refine Met.ofW (cc := cX12_audit) (maxL := 1) (ret := (some .int)) (by decide) rfl ?_
  intro p e s m args below meth c s₁ B hml hv
  obtain ⟨rfl, hsz, hP, hK, hD0, hN, hX⟩ := hv
  have hx := B.exec
  have hb := B.bytes
  have hr := B.returns
  have hts := atoms_spec (ws := vW_X12_audit) B.pre
  have hown : s.vm.findClass RX12 = some m.cls := findClass_of_methodNamed B.named
  have hlocks := B.notSynchronized
  subst hsz
  have hD := hD0.self (sz := s.heap.size)
  have hAE := k_AE hD0 hX
  generalize hAe : va_A [(h0, .inr (12, f0))] s.heap.size = A at hD hAE ⊢
  have hA : ∀ q : Nat, s.heap.size ≤ q → A q := fun q h => by rw [← hAe]; exact Or.inr h
  have hS : va_S A s.heap s.heap [] := va_S.rf
  have hP : va_P D vwCl [(h0, .inr (12, f0))] s.heap := hP
  have hl := lv_entry ([.ref h0] : List Value) (n := 1) (Nat.le_of_ble_eq_true rfl)
  rw [lg_entry_eq]
  generalize (lg_sl ([.ref h0]) ++ List.replicate (1 - (lg_sl ([.ref h0])).length) Slot.unset).toArray = ls at hl ⊢
  have hl : lv_has ls 1 [(0, .ref h0)] := hl
  refine lv_aload_n hx hb dX12_audit_0 rfl (lv_at hl 0 rfl) ?_
  refine k_cVi (As := []) (rest := []) (wc := [(h0, .inr (12, f0))]) (wr := []) (w1 := [(h0, .inr (12, (f0.set 0 (.int 0))))]) ⟨hx, hb, hml, hown, hts⟩ hN hX hAE hK hP hD hS hA [0] [] (ci := 12) rfl rfl rfl rfl (by decide +kernel) (by decide +kernel) (by decide +kernel) (c_X12_asks_0 l E D cI cJ cB cZ h0 f0 e0 e1) (cwV 0 hts g9_X12_audit_X12_asks_871 rfl rfl rfl (by decide +kernel) ⟨Nat.le_of_ble_eq_true rfl, Nat.le_of_ble_eq_true rfl⟩) rfl hl.1 (Nat.le_of_ble_eq_true rfl) dX12_audit_1 ⟨Nat.le_of_ble_eq_true rfl, Nat.le_of_ble_eq_true rfl⟩ (fun H locs hP hD hS => ?_)
  have hP : va_P D vwCl [(h0, .inr (12, (f0.set 0 (.int 0))))] H := hP
  have hD : va_D A [(h0, .inr (12, (f0.set 0 (.int 0))))] := hD
  refine lv_if_eq (tgt := 11) hx hb dX12_audit_4 (by decide) (fun c9 => absurd c9 (by decide)) (fun _ => ?_)
  refine lv_iconst (v := 0) hx hb dX12_audit_7 (by decide) ?_
  refine lv_goto (tgt := 13) hx hb dX12_audit_8 (by decide) ?_
  exact W.iret (v := 0) hx hb hr (fun t ht hW => ⟨⟨0, (), rfl, rfl, kB_mk ht hW hP hK hD⟩, hS.F ht⟩) hS.2.2 dX12_audit_13
