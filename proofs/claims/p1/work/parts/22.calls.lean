theorem dX2_claimOf_0 : decode cX2_claimOf 0 = .ok (.iconst 0, 1) := by decide +kernel
theorem dX2_claimOf_1 : decode cX2_claimOf 1 = .ok (.istore_n 3, 1) := by decide +kernel
theorem dX2_claimOf_2 : decode cX2_claimOf 2 = .ok (.iload_n 3, 1) := by decide +kernel
theorem dX2_claimOf_3 : decode cX2_claimOf 3 = .ok (.aload_n 0, 1) := by decide +kernel
theorem dX2_claimOf_4 : decode cX2_claimOf 4 = .ok (.getfield 55, 3) := by decide +kernel
theorem dX2_claimOf_7 : decode cX2_claimOf 7 = .ok (.if_icmp .ge 28, 3) := by decide +kernel
theorem dX2_claimOf_35 : decode cX2_claimOf 35 = .ok (.iconst (-1), 1) := by decide +kernel
theorem dX2_claimOf_36 : decode cX2_claimOf 36 = .ok (.ireturn, 1) := by decide +kernel
theorem dX3_nameAt_0 : decode cX3_nameAt 0 = .ok (.iload_n 1, 1) := by decide +kernel
theorem dX3_nameAt_1 : decode cX3_nameAt 1 = .ok (.ifCond .lt 20, 3) := by decide +kernel
theorem dX3_nameAt_4 : decode cX3_nameAt 4 = .ok (.iload_n 1, 1) := by decide +kernel
theorem dX3_nameAt_5 : decode cX3_nameAt 5 = .ok (.aload_n 0, 1) := by decide +kernel
theorem dX3_nameAt_6 : decode cX3_nameAt 6 = .ok (.getfield 48, 3) := by decide +kernel
theorem dX3_nameAt_9 : decode cX3_nameAt 9 = .ok (.if_icmp .ge 12, 3) := by decide +kernel
theorem dX3_nameAt_21 : decode cX3_nameAt 21 = .ok (.lconst 0, 1) := by decide +kernel
theorem dX3_nameAt_22 : decode cX3_nameAt 22 = .ok (.lreturn, 1) := by decide +kernel
theorem dX8_readName_0 : decode cX8_readName 0 = .ok (.aload_n 0, 1) := by decide +kernel
theorem dX8_readName_1 : decode cX8_readName 1 = .ok (.aload_n 1, 1) := by decide +kernel
theorem dX8_readName_2 : decode cX8_readName 2 = .ok (.iconst 0, 1) := by decide +kernel
theorem dX8_readName_3 : decode cX8_readName 3 = .ok (.iload_n 2, 1) := by decide +kernel
theorem dX8_readName_4 : decode cX8_readName 4 = .ok (.invokevirtual 23, 3) := by decide +kernel
theorem dX8_readName_7 : decode cX8_readName 7 = .ok (.aload_n 0, 1) := by decide +kernel
theorem dX8_readName_8 : decode cX8_readName 8 = .ok (.getfield 15, 3) := by decide +kernel
theorem dX8_readName_11 : decode cX8_readName 11 = .ok (.aload_n 0, 1) := by decide +kernel
theorem dX8_readName_12 : decode cX8_readName 12 = .ok (.getfield 9, 3) := by decide +kernel
theorem dX8_readName_15 : decode cX8_readName 15 = .ok (.aload_n 0, 1) := by decide +kernel
theorem dX8_readName_16 : decode cX8_readName 16 = .ok (.getfield 79, 3) := by decide +kernel
theorem dX8_readName_19 : decode cX8_readName 19 = .ok (.invokevirtual 82, 3) := by decide +kernel
theorem dX8_readName_22 : decode cX8_readName 22 = .ok (.invokevirtual 88, 3) := by decide +kernel
theorem dX8_readName_25 : decode cX8_readName 25 = .ok (.istore_n 3, 1) := by decide +kernel
theorem dX8_readName_26 : decode cX8_readName 26 = .ok (.aload_n 0, 1) := by decide +kernel
theorem dX8_readName_27 : decode cX8_readName 27 = .ok (.getfield 39, 3) := by decide +kernel
theorem dX8_readName_30 : decode cX8_readName 30 = .ok (.iconst 1, 1) := by decide +kernel
theorem dX8_readName_31 : decode cX8_readName 31 = .ok (.if_icmp .ne 25, 3) := by decide +kernel
theorem dX8_readName_56 : decode cX8_readName 56 = .ok (.aload_n 0, 1) := by decide +kernel
theorem dX8_readName_57 : decode cX8_readName 57 = .ok (.iconst 2, 1) := by decide +kernel
theorem dX8_readName_58 : decode cX8_readName 58 = .ok (.invokevirtual 95, 3) := by decide +kernel
theorem dX8_readName_61 : decode cX8_readName 61 = .ok (.goto 20, 3) := by decide +kernel
theorem dX8_readName_81 : decode cX8_readName 81 = .ok (.aload_n 0, 1) := by decide +kernel
theorem dX8_readName_82 : decode cX8_readName 82 = .ok (.invokevirtual 59, 3) := by decide +kernel
theorem dX8_readName_85 : decode cX8_readName 85 = .ok (.aload_n 0, 1) := by decide +kernel
theorem dX8_readName_86 : decode cX8_readName 86 = .ok (.getfield 62, 3) := by decide +kernel
theorem dX8_readName_89 : decode cX8_readName 89 = .ok (.ifCond .ne 7, 3) := by decide +kernel
theorem dX8_readName_96 : decode cX8_readName 96 = .ok (.iconst (-1), 1) := by decide +kernel
theorem dX8_readName_97 : decode cX8_readName 97 = .ok (.ireturn, 1) := by decide +kernel
theorem dX8_fail_0 : decode cX8_fail 0 = .ok (.aload_n 0, 1) := by decide +kernel
theorem dX8_fail_1 : decode cX8_fail 1 = .ok (.getfield 62, 3) := by decide +kernel
theorem dX8_fail_4 : decode cX8_fail 4 = .ok (.ifCond .ne 28, 3) := by decide +kernel
theorem dX8_fail_7 : decode cX8_fail 7 = .ok (.aload_n 0, 1) := by decide +kernel
theorem dX8_fail_8 : decode cX8_fail 8 = .ok (.aload_n 0, 1) := by decide +kernel
theorem dX8_fail_9 : decode cX8_fail 9 = .ok (.getfield 39, 3) := by decide +kernel
theorem dX8_fail_12 : decode cX8_fail 12 = .ok (.iconst 3, 1) := by decide +kernel
theorem dX8_fail_13 : decode cX8_fail 13 = .ok (.if_icmp .ne 7, 3) := by decide +kernel
theorem dX8_fail_20 : decode cX8_fail 20 = .ok (.iload_n 1, 1) := by decide +kernel
theorem dX8_fail_21 : decode cX8_fail 21 = .ok (.putfield 62, 3) := by decide +kernel
theorem dX8_fail_24 : decode cX8_fail 24 = .ok (.aload_n 0, 1) := by decide +kernel
theorem dX8_fail_25 : decode cX8_fail 25 = .ok (.aload_n 0, 1) := by decide +kernel
theorem dX8_fail_26 : decode cX8_fail 26 = .ok (.getfield 136, 3) := by decide +kernel
theorem dX8_fail_29 : decode cX8_fail 29 = .ok (.putfield 123, 3) := by decide +kernel
theorem dX8_fail_32 : decode cX8_fail 32 = .ok (.aload_n 0, 1) := by decide +kernel
theorem dX8_fail_33 : decode cX8_fail 33 = .ok (.bipush 44, 2) := by decide +kernel
theorem dX8_fail_35 : decode cX8_fail 35 = .ok (.putfield 39, 3) := by decide +kernel
theorem dX8_fail_38 : decode cX8_fail 38 = .ok (.return_, 1) := by decide +kernel
theorem dX8_expectEnd_7 : decode cX8_expectEnd 7 = .ok (.aload_n 0, 1) := by decide +kernel
theorem dX8_expectEnd_8 : decode cX8_expectEnd 8 = .ok (.iconst 2, 1) := by decide +kernel
theorem dX8_expectEnd_9 : decode cX8_expectEnd 9 = .ok (.invokevirtual 95, 3) := by decide +kernel
theorem dX11_faulted_0 : decode cX11_faulted 0 = .ok (.aload_n 0, 1) := by decide +kernel
theorem dX11_faulted_1 : decode cX11_faulted 1 = .ok (.aload_n 0, 1) := by decide +kernel
theorem dX11_faulted_2 : decode cX11_faulted 2 = .ok (.getfield 48, 3) := by decide +kernel
theorem dX11_faulted_5 : decode cX11_faulted 5 = .ok (.getfield 250, 3) := by decide +kernel
theorem dX11_faulted_8 : decode cX11_faulted 8 = .ok (.putfield 253, 3) := by decide +kernel
theorem dX11_faulted_11 : decode cX11_faulted 11 = .ok (.sipush (-1000), 3) := by decide +kernel
theorem dX11_faulted_14 : decode cX11_faulted 14 = .ok (.aload_n 0, 1) := by decide +kernel
theorem dX11_faulted_15 : decode cX11_faulted 15 = .ok (.getfield 48, 3) := by decide +kernel
theorem dX11_faulted_18 : decode cX11_faulted 18 = .ok (.getfield 256, 3) := by decide +kernel
theorem dX11_faulted_21 : decode cX11_faulted 21 = .ok (.isub, 1) := by decide +kernel
theorem dX11_faulted_22 : decode cX11_faulted 22 = .ok (.ireturn, 1) := by decide +kernel
theorem dX11_pop_0 : decode cX11_pop 0 = .ok (.aload_n 0, 1) := by decide +kernel
theorem dX11_pop_1 : decode cX11_pop 1 = .ok (.getfield 16, 3) := by decide +kernel
theorem dX11_pop_4 : decode cX11_pop 4 = .ok (.getfield 122, 3) := by decide +kernel
theorem dX11_pop_7 : decode cX11_pop 7 = .ok (.ifCond .eq 6, 3) := by decide +kernel
theorem dX11_pop_13 : decode cX11_pop 13 = .ok (.aload_n 0, 1) := by decide +kernel
theorem dX11_pop_14 : decode cX11_pop 14 = .ok (.getfield 23, 3) := by decide +kernel
theorem dX11_pop_17 : decode cX11_pop 17 = .ok (.getfield 221, 3) := by decide +kernel
theorem dX11_pop_20 : decode cX11_pop 20 = .ok (.ifCond .ne 6, 3) := by decide +kernel
theorem dX11_pop_23 : decode cX11_pop 23 = .ok (.bipush (-103), 2) := by decide +kernel
theorem dX11_pop_25 : decode cX11_pop 25 = .ok (.ireturn, 1) := by decide +kernel
theorem dX11_find_0 : decode cX11_find 0 = .ok (.aload_n 0, 1) := by decide +kernel
theorem dX11_find_1 : decode cX11_find 1 = .ok (.getfield 16, 3) := by decide +kernel
theorem dX11_find_4 : decode cX11_find 4 = .ok (.getfield 122, 3) := by decide +kernel
theorem dX11_find_7 : decode cX11_find 7 = .ok (.ifCond .eq 6, 3) := by decide +kernel
theorem dX11_find_13 : decode cX11_find 13 = .ok (.aload_n 0, 1) := by decide +kernel
theorem dX11_find_14 : decode cX11_find 14 = .ok (.getfield 48, 3) := by decide +kernel
theorem dX11_find_17 : decode cX11_find 17 = .ok (.aload_n 0, 1) := by decide +kernel
theorem dX11_find_18 : decode cX11_find 18 = .ok (.getfield 9, 3) := by decide +kernel
theorem dX11_find_21 : decode cX11_find 21 = .ok (.aload_n 0, 1) := by decide +kernel
theorem dX11_find_22 : decode cX11_find 22 = .ok (.invokevirtual 230, 3) := by decide +kernel
theorem dX11_find_25 : decode cX11_find 25 = .ok (.invokevirtual 266, 3) := by decide +kernel
theorem dX11_find_28 : decode cX11_find 28 = .ok (.istore_n 1, 1) := by decide +kernel
theorem dX11_find_29 : decode cX11_find 29 = .ok (.iload_n 1, 1) := by decide +kernel
theorem dX11_find_30 : decode cX11_find 30 = .ok (.iconst (-1), 1) := by decide +kernel
theorem dX11_find_31 : decode cX11_find 31 = .ok (.if_icmp .ne 10, 3) := by decide +kernel
theorem dX11_find_34 : decode cX11_find 34 = .ok (.aload_n 0, 1) := by decide +kernel
theorem dX11_find_35 : decode cX11_find 35 = .ok (.invokevirtual 236, 3) := by decide +kernel
theorem dX11_find_38 : decode cX11_find 38 = .ok (.goto 4, 3) := by decide +kernel
theorem dX11_find_42 : decode cX11_find 42 = .ok (.ireturn, 1) := by decide +kernel
theorem dX12_act_47 : decode cX12_act 47 = .ok (.aload_n 0, 1) := by decide +kernel
theorem dX12_act_48 : decode cX12_act 48 = .ok (.invokevirtual 833, 3) := by decide +kernel
theorem dX12_act_51 : decode cX12_act 51 = .ok (.ireturn, 1) := by decide +kernel
theorem dX12_leave_0 : decode cX12_leave 0 = .ok (.aload_n 0, 1) := by decide +kernel
theorem dX12_leave_1 : decode cX12_leave 1 = .ok (.getfield 821, 3) := by decide +kernel
theorem dX12_leave_4 : decode cX12_leave 4 = .ok (.ifCond .ne 10, 3) := by decide +kernel
theorem dX12_leave_7 : decode cX12_leave 7 = .ok (.aload_n 0, 1) := by decide +kernel
theorem dX12_leave_8 : decode cX12_leave 8 = .ok (.bipush (-103), 2) := by decide +kernel
theorem dX12_leave_10 : decode cX12_leave 10 = .ok (.invokevirtual 862, 3) := by decide +kernel
theorem dX12_leave_13 : decode cX12_leave 13 = .ok (.ireturn, 1) := by decide +kernel
theorem dX12_pop_0 : decode cX12_pop 0 = .ok (.aload_n 0, 1) := by decide +kernel
theorem dX12_pop_1 : decode cX12_pop 1 = .ok (.iconst 4, 1) := by decide +kernel
theorem dX12_pop_2 : decode cX12_pop 2 = .ok (.invokevirtual 868, 3) := by decide +kernel
theorem dX12_pop_5 : decode cX12_pop 5 = .ok (.ireturn, 1) := by decide +kernel
theorem dX12_asks_0 : decode cX12_asks 0 = .ok (.aload_n 0, 1) := by decide +kernel
theorem dX12_asks_1 : decode cX12_asks 1 = .ok (.iconst 0, 1) := by decide +kernel
theorem dX12_asks_2 : decode cX12_asks 2 = .ok (.putfield 3, 3) := by decide +kernel
theorem dX12_asks_5 : decode cX12_asks 5 = .ok (.aload_n 0, 1) := by decide +kernel
theorem dX12_asks_6 : decode cX12_asks 6 = .ok (.getfield 488, 3) := by decide +kernel
theorem dX12_asks_9 : decode cX12_asks 9 = .ok (.ifCond .ne 7, 3) := by decide +kernel
theorem dX12_asks_12 : decode cX12_asks 12 = .ok (.iconst 1, 1) := by decide +kernel
theorem dX12_asks_13 : decode cX12_asks 13 = .ok (.goto 4, 3) := by decide +kernel
theorem dX12_asks_17 : decode cX12_asks 17 = .ok (.ireturn, 1) := by decide +kernel
theorem dX12_begin_0 : decode cX12_begin 0 = .ok (.aload_n 0, 1) := by decide +kernel
theorem dX12_begin_1 : decode cX12_begin 1 = .ok (.invokevirtual 491, 3) := by decide +kernel
theorem dX12_begin_4 : decode cX12_begin 4 = .ok (.aload_n 0, 1) := by decide +kernel
theorem dX12_begin_5 : decode cX12_begin 5 = .ok (.aload_n 0, 1) := by decide +kernel
theorem dX12_begin_6 : decode cX12_begin 6 = .ok (.getfield 815, 3) := by decide +kernel
theorem dX12_begin_9 : decode cX12_begin 9 = .ok (.putfield 620, 3) := by decide +kernel
theorem dX12_begin_12 : decode cX12_begin 12 = .ok (.aload_n 0, 1) := by decide +kernel
theorem dX12_begin_13 : decode cX12_begin 13 = .ok (.aload_n 0, 1) := by decide +kernel
theorem dX12_begin_14 : decode cX12_begin 14 = .ok (.getfield 818, 3) := by decide +kernel
theorem dX12_begin_17 : decode cX12_begin 17 = .ok (.putfield 627, 3) := by decide +kernel
theorem dX12_begin_20 : decode cX12_begin 20 = .ok (.aload_n 0, 1) := by decide +kernel
theorem dX12_begin_21 : decode cX12_begin 21 = .ok (.invokevirtual 848, 3) := by decide +kernel
theorem dX12_begin_24 : decode cX12_begin 24 = .ok (.return_, 1) := by decide +kernel
set_option maxHeartbeats 400000000 in
set_option maxRecDepth 100000 in
theorem c_X11_pop_0 (l : Launch) (E : kE) (D : va_G) (cI cJ cB cZ : ClassId) (h0 : Nat) (f0 : List Value) (h1 : Nat) (f1 : List Value) (h2 : Nat) (f2 : List Value) (e0 : f0[1]? = some (.ref h1)) (e1 : f1[8]? = some (.int 0)) (e2 : f0[2]? = some (.ref h2)) (e3 : f2[14]? = some (.int 0)) : kI l E D (kT cI cJ cB cZ) yX11_pop vW_X11_pop ({ frames := 0, cells := 0, slots := 0, locals := 0 }) [.ref h0] [(h0, .inr (11, f0)), (h1, .inr (1, f1)), (h2, .inr (2, f2))] ((-103)) [(h0, .inr (11, f0)), (h1, .inr (1, f1)), (h2, .inr (2, f2))] 0 0 := by
  intro sz
  refine Met.ofW (cc := cX11_pop) (maxL := 1) (ret := (some .int)) (by decide) rfl ?_
  intro p e s m args below meth c s₁ B hml hv
  obtain ⟨rfl, hsz, hP, hK, hD0, hN, hX⟩ := hv
  have hx := B.exec
  have hb := B.bytes
  have hr := B.returns
  have hts := atoms_spec (ws := vW_X11_pop) B.pre
  have hown : s.vm.findClass RX11 = some m.cls := findClass_of_methodNamed B.named
  have hlocks := B.notSynchronized
  have hin11 : ∀ w ∈ wsX110, w ∈ vW_X11_pop := u9_X11_pop_wsX110
  have hin1 : ∀ w ∈ wsX10, w ∈ vW_X11_pop := u9_X11_pop_wsX10
  have hin2 : ∀ w ∈ wsX20, w ∈ vW_X11_pop := u9_X11_pop_wsX20
  subst hsz
  have hD := hD0.self (sz := s.heap.size)
  have hAE := k_AE hD0 hX
  generalize hAe : va_A [(h0, .inr (11, f0)), (h1, .inr (1, f1)), (h2, .inr (2, f2))] s.heap.size = A at hD hAE ⊢
  have hA : ∀ q : Nat, s.heap.size ≤ q → A q := fun q h => by rw [← hAe]; exact Or.inr h
  have hS : va_S A s.heap s.heap [] := va_S.rf
  have hP : va_P D vwCl [(h0, .inr (11, f0)), (h1, .inr (1, f1)), (h2, .inr (2, f2))] s.heap := hP
  have hl := lv_entry ([.ref h0] : List Value) (n := 1) (Nat.le_of_ble_eq_true rfl)
  rw [lg_entry_eq]
  generalize (lg_sl ([.ref h0]) ++ List.replicate (1 - (lg_sl ([.ref h0])).length) Slot.unset).toArray = ls at hl ⊢
  have hl : lv_has ls 1 [(0, .ref h0)] := hl
  refine lv_aload_n hx hb dX11_pop_0 rfl (lv_at hl 0 rfl) ?_
  refine k_get (D := D) (ci := 11) (v := .ref h1) (N := 15) hx hb hts hin11 hown hK hP 0 rfl rfl (by decide) f9_11_1 (hts (.fieldLink RX11 16 "IntegerHouse" "disk" "LIntegerHouse$Disk;") (o9_X11_pop _ (List.mem_of_getElem? (i := 0) rfl))) e0 dX11_pop_1 ?_
  refine k_getN (host := "IntegerHouse") (D := D) (ci := 1) (v := .int 0) (N := 9) hx hb hts hin1 hown hK hP 1 rfl rfl (by decide) f9_1_8 (va_Nw.use rfl (hN.1 ("IntegerHouse", 122, "IntegerHouse$Disk", "down", "Z", "IntegerHouse") (List.mem_of_getElem? (i := 3) rfl))) e1 dX11_pop_4 ?_
  refine lv_if_eq (tgt := 13) hx hb dX11_pop_7 (by decide) (fun _ => ?_) (fun c9 => absurd (by decide) c9)
  refine lv_aload_n hx hb dX11_pop_13 rfl (lv_at hl 0 rfl) ?_
  refine k_get (D := D) (ci := 11) (v := .ref h2) (N := 15) hx hb hts hin11 hown hK hP 0 rfl rfl (by decide) f9_11_2 (hts (.fieldLink RX11 23 "IntegerHouse" "house" "LIntegerHouse$House;") (o9_X11_pop _ (List.mem_of_getElem? (i := 1) rfl))) e2 dX11_pop_14 ?_
  refine k_getN (host := "IntegerHouse") (D := D) (ci := 2) (v := .int 0) (N := 16) hx hb hts hin2 hown hK hP 2 rfl rfl (by decide) f9_2_14 (va_Nw.use rfl (hN.1 ("IntegerHouse", 221, "IntegerHouse$House", "layers", "I", "IntegerHouse") (List.mem_of_getElem? (i := 22) rfl))) e3 dX11_pop_17 ?_
  refine lv_if_ne (tgt := 26) hx hb dX11_pop_20 (by decide) (fun c9 => absurd (by decide) c9) (fun _ => ?_)
  refine lv_bipush (v := (-103)) hx hb dX11_pop_23 (by decide) ?_
  exact W.iret (v := (-103)) hx hb hr (fun t ht hW => ⟨⟨(-103), (), rfl, rfl, kB_mk ht hW hP hK hD⟩, hS.F ht⟩) hS.2.2 dX11_pop_25
set_option maxHeartbeats 400000000 in
set_option maxRecDepth 100000 in
theorem c_X12_no_1 (l : Launch) (E : kE) (D : va_G) (cI cJ cB cZ : ClassId) (h0 : Nat) (f0 : List Value) (e0 : f0[14]? = some (.int 0)) : kI l E D (kT cI cJ cB cZ) yX12_no vW_X12_no ({ frames := 0, cells := 0, slots := 0, locals := 0 }) [.ref h0, .int (-103)] [(h0, .inr (12, f0))] ((-103)) [(h0, .inr (12, (f0.set 14 (.int 1))))] 0 0 := by
  intro sz
  refine Met.ofW (cc := cX12_no) (maxL := 2) (ret := (some .int)) (by decide) rfl ?_
  intro p e s m args below meth c s₁ B hml hv
  obtain ⟨rfl, hsz, hP, hK, hD0, hN, hX⟩ := hv
  have hx := B.exec
  have hb := B.bytes
  have hr := B.returns
  have hts := atoms_spec (ws := vW_X12_no) B.pre
  have hown : s.vm.findClass RX12 = some m.cls := findClass_of_methodNamed B.named
  have hlocks := B.notSynchronized
  have hin12 : ∀ w ∈ wsX120, w ∈ vW_X12_no := u9_X12_no_wsX120
  subst hsz
  have hD := hD0.self (sz := s.heap.size)
  have hAE := k_AE hD0 hX
  generalize hAe : va_A [(h0, .inr (12, f0))] s.heap.size = A at hD hAE ⊢
  have hA : ∀ q : Nat, s.heap.size ≤ q → A q := fun q h => by rw [← hAe]; exact Or.inr h
  have hS : va_S A s.heap s.heap [] := va_S.rf
  have hP : va_P D vwCl [(h0, .inr (12, f0))] s.heap := hP
  have hl := lv_entry ([.ref h0, .int (-103)] : List Value) (n := 2) (Nat.le_of_ble_eq_true rfl)
  rw [lg_entry_eq]
  generalize (lg_sl ([.ref h0, .int (-103)]) ++ List.replicate (2 - (lg_sl ([.ref h0, .int (-103)])).length) Slot.unset).toArray = ls at hl ⊢
  have hl : lv_has ls 2 [(0, .ref h0), (1, .int (-103))] := hl
  refine lv_aload_n hx hb dX12_no_0 rfl (lv_at hl 0 rfl) ?_
  refine lv_iconst (v := 1) hx hb dX12_no_1 (by decide) ?_
  refine k_put (D := D) (ci := 12) (v := .int 1) (ty := .boolean) (N := 195) hx hb hts hin12 tyX12 tyX12_ok nmX12 hown hK hP hD hS 0 rfl rfl (by decide) f9_12_14 (hts (.fieldLink RX12 462 "IntegerHouseModel" "refused" "Z") (o9_X12_no _ (List.mem_of_getElem? (i := 0) rfl))) rfl pd_18 rfl rfl (k_len e0) dX12_no_2 (fun H locs hP hD hS => ?_)
  have hP : va_P D vwCl [(h0, .inr (12, (f0.set 14 (.int 1))))] H := hP
  have hD : va_D A [(h0, .inr (12, (f0.set 14 (.int 1))))] := hD
  refine lv_iload_n hx hb dX12_no_5 rfl (lv_at hl 1 rfl) ?_
  exact W.iret (v := (-103)) hx hb hr (fun t ht hW => ⟨⟨(-103), (), rfl, rfl, kB_mk ht hW hP hK hD⟩, hS.F ht⟩) hS.2.2 dX12_no_6
set_option maxHeartbeats 400000000 in
set_option maxRecDepth 100000 in
theorem c_X12_leave_0 (l : Launch) (E : kE) (D : va_G) (cI cJ cB cZ : ClassId) (h0 : Nat) (f0 : List Value) (e0 : f0[105]? = some (.int 0)) (e1 : f0[14]? = some (.int 0)) : kI l E D (kT cI cJ cB cZ) yX12_leave vW_X12_leave ({ frames := 1, cells := 0, slots := 0, locals := 21 }) [.ref h0] [(h0, .inr (12, f0))] ((-103)) [(h0, .inr (12, (f0.set 14 (.int 1))))] 0 0 := by
  intro sz
  refine Met.ofW (cc := cX12_leave) (maxL := 2) (ret := (some .int)) (by decide) rfl ?_
  intro p e s m args below meth c s₁ B hml hv
  obtain ⟨rfl, hsz, hP, hK, hD0, hN, hX⟩ := hv
  have hx := B.exec
  have hb := B.bytes
  have hr := B.returns
  have hts := atoms_spec (ws := vW_X12_leave) B.pre
  have hown : s.vm.findClass RX12 = some m.cls := findClass_of_methodNamed B.named
  have hlocks := B.notSynchronized
  have hin12 : ∀ w ∈ wsX120, w ∈ vW_X12_leave := u9_X12_leave_wsX120
  subst hsz
  have hD := hD0.self (sz := s.heap.size)
  have hAE := k_AE hD0 hX
  generalize hAe : va_A [(h0, .inr (12, f0))] s.heap.size = A at hD hAE ⊢
  have hA : ∀ q : Nat, s.heap.size ≤ q → A q := fun q h => by rw [← hAe]; exact Or.inr h
  have hS : va_S A s.heap s.heap [] := va_S.rf
  have hP : va_P D vwCl [(h0, .inr (12, f0))] s.heap := hP
  have hl := lv_entry ([.ref h0] : List Value) (n := 2) (Nat.le_of_ble_eq_true rfl)
  rw [lg_entry_eq]
  generalize (lg_sl ([.ref h0]) ++ List.replicate (2 - (lg_sl ([.ref h0])).length) Slot.unset).toArray = ls at hl ⊢
  have hl : lv_has ls 2 [(0, .ref h0)] := hl
  refine lv_aload_n hx hb dX12_leave_0 rfl (lv_at hl 0 rfl) ?_
  refine k_get (D := D) (ci := 12) (v := .int 0) (N := 195) hx hb hts hin12 hown hK hP 0 rfl rfl (by decide) f9_12_105 (hts (.fieldLink RX12 821 "IntegerHouseModel" "layers" "I") (o9_X12_leave _ (List.mem_of_getElem? (i := 0) rfl))) e0 dX12_leave_1 ?_
  refine lv_if_ne (tgt := 14) hx hb dX12_leave_4 (by decide) (fun c9 => absurd (by decide) c9) (fun _ => ?_)
  refine lv_aload_n hx hb dX12_leave_7 rfl (lv_at hl 0 rfl) ?_
  refine lv_bipush (v := (-103)) hx hb dX12_leave_8 (by decide) ?_
  refine k_cVi (As := [.int (-103)]) (rest := []) (wc := [(h0, .inr (12, f0))]) (wr := []) (w1 := [(h0, .inr (12, (f0.set 14 (.int 1))))]) ⟨hx, hb, hml, hown, hts⟩ hN hX hAE hK hP hD hS hA [0] [] (ci := 12) rfl rfl rfl rfl (by decide +kernel) (by decide +kernel) (by decide +kernel) (c_X12_no_1 l E D cI cJ cB cZ h0 f0 e1) (cwV 1 hts g9_X12_leave_X12_no_862 rfl rfl rfl (by decide +kernel) ⟨Nat.le_of_ble_eq_true rfl, Nat.le_of_ble_eq_true rfl⟩) rfl hl.1 (Nat.le_of_ble_eq_true rfl) dX12_leave_10 ⟨Nat.le_of_ble_eq_true rfl, Nat.le_of_ble_eq_true rfl⟩ (fun H locs hP hD hS => ?_)
  have hP : va_P D vwCl [(h0, .inr (12, (f0.set 14 (.int 1))))] H := hP
  have hD : va_D A [(h0, .inr (12, (f0.set 14 (.int 1))))] := hD
  exact W.iret (v := (-103)) hx hb hr (fun t ht hW => ⟨⟨(-103), (), rfl, rfl, kB_mk ht hW hP hK hD⟩, hS.F ht⟩) hS.2.2 dX12_leave_13
set_option maxHeartbeats 400000000 in
set_option maxRecDepth 100000 in
theorem c_X12_act_4 (l : Launch) (E : kE) (D : va_G) (cI cJ cB cZ : ClassId) (h0 : Nat) (f0 : List Value) (e0 : f0[15]? = some (.int 4)) (e1 : f0[105]? = some (.int 0)) (e2 : f0[14]? = some (.int 0)) : kI l E D (kT cI cJ cB cZ) yX12_act vW_X12_act ({ frames := 2, cells := 0, slots := 0, locals := 42 }) [.ref h0] [(h0, .inr (12, f0))] ((-103)) [(h0, .inr (12, (f0.set 14 (.int 1))))] 0 0 := by
  intro sz
  refine Met.ofW (cc := cX12_act) (maxL := 1) (ret := (some .int)) (by decide) rfl ?_
  intro p e s m args below meth c s₁ B hml hv
  obtain ⟨rfl, hsz, hP, hK, hD0, hN, hX⟩ := hv
  have hx := B.exec
  have hb := B.bytes
  have hr := B.returns
  have hts := atoms_spec (ws := vW_X12_act) B.pre
  have hown : s.vm.findClass RX12 = some m.cls := findClass_of_methodNamed B.named
  have hlocks := B.notSynchronized
  have hin12 : ∀ w ∈ wsX120, w ∈ vW_X12_act := u9_X12_act_wsX120
  subst hsz
  have hD := hD0.self (sz := s.heap.size)
  have hAE := k_AE hD0 hX
  generalize hAe : va_A [(h0, .inr (12, f0))] s.heap.size = A at hD hAE ⊢
  have hA : ∀ q : Nat, s.heap.size ≤ q → A q := fun q h => by rw [← hAe]; exact Or.inr h
  have hS : va_S A s.heap s.heap [] := va_S.rf
  have hP : va_P D vwCl [(h0, .inr (12, f0))] s.heap := hP
  have hl := lv_entry ([.ref h0] : List Value) (n := 1) (Nat.le_of_ble_eq_true rfl)
  rw [lg_entry_eq]
  generalize (lg_sl ([.ref h0]) ++ List.replicate (1 - (lg_sl ([.ref h0])).length) Slot.unset).toArray = ls at hl ⊢
  have hl : lv_has ls 1 [(0, .ref h0)] := hl
  refine lv_aload_n hx hb dX12_act_0 rfl (lv_at hl 0 rfl) ?_
  refine k_get (D := D) (ci := 12) (v := .int 4) (N := 195) hx hb hts hin12 hown hK hP 0 rfl rfl (by decide) f9_12_15 (hts (.fieldLink RX12 466 "IntegerHouseModel" "number" "I") (o9_X12_act _ (List.mem_of_getElem? (i := 0) rfl))) e0 dX12_act_1 ?_
  refine lv_tableOut (tgt := 47) hx hb dX12_act_4 (by decide) (by decide) ?_
  refine lv_aload_n hx hb dX12_act_47 rfl (lv_at hl 0 rfl) ?_
  refine k_cVi (As := []) (rest := []) (wc := [(h0, .inr (12, f0))]) (wr := []) (w1 := [(h0, .inr (12, (f0.set 14 (.int 1))))]) ⟨hx, hb, hml, hown, hts⟩ hN hX hAE hK hP hD hS hA [0] [] (ci := 12) rfl rfl rfl rfl (by decide +kernel) (by decide +kernel) (by decide +kernel) (c_X12_leave_0 l E D cI cJ cB cZ h0 f0 e1 e2) (cwV 0 hts g9_X12_act_X12_leave_833 rfl rfl rfl (by decide +kernel) ⟨Nat.le_of_ble_eq_true rfl, Nat.le_of_ble_eq_true rfl⟩) rfl hl.1 (Nat.le_of_ble_eq_true rfl) dX12_act_48 ⟨Nat.le_of_ble_eq_true rfl, Nat.le_of_ble_eq_true rfl⟩ (fun H locs hP hD hS => ?_)
  have hP : va_P D vwCl [(h0, .inr (12, (f0.set 14 (.int 1))))] H := hP
  have hD : va_D A [(h0, .inr (12, (f0.set 14 (.int 1))))] := hD
  exact W.iret (v := (-103)) hx hb hr (fun t ht hW => ⟨⟨(-103), (), rfl, rfl, kB_mk ht hW hP hK hD⟩, hS.F ht⟩) hS.2.2 dX12_act_51
set_option maxHeartbeats 400000000 in
set_option maxRecDepth 100000 in
theorem c_X12_call_4 (l : Launch) (E : kE) (D : va_G) (cI cJ cB cZ : ClassId) (h0 : Nat) (f0 : List Value) (e0 : f0[0]? = some (.int 0)) (e1 : f0[5]? = some (.int 0)) (e2 : f0[15]? = some (.int 0)) (e3 : f0[13]? = some (.int 0)) (e4 : f0[14]? = some (.int 0)) (e5 : f0[105]? = some (.int 0)) : kI l E D (kT cI cJ cB cZ) yX12_call vW_X12_call ({ frames := 3, cells := 0, slots := 0, locals := 62 }) [.ref h0, .int 4] [(h0, .inr (12, f0))] ((-103)) [(h0, .inr (12, (((((f0.set 0 (.int 0)).set 15 (.int 4)).set 13 (.int 0)).set 14 (.int 0)).set 14 (.int 1))))] 0 0 := by
  intro sz
  refine Met.ofW (cc := cX12_call) (maxL := 4) (ret := (some .int)) (by decide) rfl ?_
  intro p e s m args below meth c s₁ B hml hv
  obtain ⟨rfl, hsz, hP, hK, hD0, hN, hX⟩ := hv
  have hx := B.exec
  have hb := B.bytes
  have hr := B.returns
  have hts := atoms_spec (ws := vW_X12_call) B.pre
  have hown : s.vm.findClass RX12 = some m.cls := findClass_of_methodNamed B.named
  have hlocks := B.notSynchronized
  have hin12 : ∀ w ∈ wsX120, w ∈ vW_X12_call := u9_X12_call_wsX120
  subst hsz
  have hD := hD0.self (sz := s.heap.size)
  have hAE := k_AE hD0 hX
  generalize hAe : va_A [(h0, .inr (12, f0))] s.heap.size = A at hD hAE ⊢
  have hA : ∀ q : Nat, s.heap.size ≤ q → A q := fun q h => by rw [← hAe]; exact Or.inr h
  have hS : va_S A s.heap s.heap [] := va_S.rf
  have hP : va_P D vwCl [(h0, .inr (12, f0))] s.heap := hP
  have hl := lv_entry ([.ref h0, .int 4] : List Value) (n := 4) (Nat.le_of_ble_eq_true rfl)
  rw [lg_entry_eq]
  generalize (lg_sl ([.ref h0, .int 4]) ++ List.replicate (4 - (lg_sl ([.ref h0, .int 4])).length) Slot.unset).toArray = ls at hl ⊢
  have hl : lv_has ls 4 [(0, .ref h0), (1, .int 4)] := hl
  refine lv_aload_n hx hb dX12_call_0 rfl (lv_at hl 0 rfl) ?_
  refine lv_iconst (v := 0) hx hb dX12_call_1 (by decide) ?_
  refine k_put (D := D) (ci := 12) (v := .int 0) (ty := .int) (N := 195) hx hb hts hin12 tyX12 tyX12_ok nmX12 hown hK hP hD hS 0 rfl rfl (by decide) f9_12_0 (hts (.fieldLink RX12 3 "IntegerHouseModel" "thrown" "I") (o9_X12_call _ (List.mem_of_getElem? (i := 0) rfl))) rfl pd_2 rfl rfl (k_len e0) dX12_call_2 (fun H locs hP hD hS => ?_)
  have hP : va_P D vwCl [(h0, .inr (12, (f0.set 0 (.int 0))))] H := hP
  have hD : va_D A [(h0, .inr (12, (f0.set 0 (.int 0))))] := hD
  refine lv_aload_n hx hb dX12_call_5 rfl (lv_at hl 0 rfl) ?_
  refine k_get (D := D) (ci := 12) (v := .int 0) (N := 195) hx hb hts hin12 hown hK hP 0 rfl rfl (by decide) f9_12_5 (hts (.fieldLink RX12 488 "IntegerHouseModel" "down" "Z") (o9_X12_call _ (List.mem_of_getElem? (i := 1) rfl))) (k_ne (by decide) e1) dX12_call_6 ?_
  refine lv_if_eq (tgt := 15) hx hb dX12_call_9 (by decide) (fun _ => ?_) (fun c9 => absurd (by decide) c9)
  refine lv_aload_n hx hb dX12_call_15 rfl (lv_at hl 0 rfl) ?_
  refine lv_iload_n hx hb dX12_call_16 rfl (lv_at hl 1 rfl) ?_
  refine k_put (D := D) (ci := 12) (v := .int 4) (ty := .int) (N := 195) hx hb hts hin12 tyX12 tyX12_ok nmX12 hown hK hP hD hS 0 rfl rfl (by decide) f9_12_15 (hts (.fieldLink RX12 466 "IntegerHouseModel" "number" "I") (o9_X12_call _ (List.mem_of_getElem? (i := 2) rfl))) rfl pd_2 rfl rfl (k_len (k_ne (by decide) e2)) dX12_call_17 (fun H locs hP hD hS => ?_)
  have hP : va_P D vwCl [(h0, .inr (12, ((f0.set 0 (.int 0)).set 15 (.int 4))))] H := hP
  have hD : va_D A [(h0, .inr (12, ((f0.set 0 (.int 0)).set 15 (.int 4))))] := hD
  refine lv_aload_n hx hb dX12_call_20 rfl (lv_at hl 0 rfl) ?_
  refine lv_iconst (v := 0) hx hb dX12_call_21 (by decide) ?_
  refine k_put (D := D) (ci := 12) (v := .int 0) (ty := .boolean) (N := 195) hx hb hts hin12 tyX12 tyX12_ok nmX12 hown hK hP hD hS 0 rfl rfl (by decide) f9_12_13 (hts (.fieldLink RX12 472 "IntegerHouseModel" "replay" "Z") (o9_X12_call _ (List.mem_of_getElem? (i := 3) rfl))) rfl pd_18 rfl rfl (k_len (k_ne (by decide) (k_ne (by decide) e3))) dX12_call_22 (fun H locs hP hD hS => ?_)
  have hP : va_P D vwCl [(h0, .inr (12, (((f0.set 0 (.int 0)).set 15 (.int 4)).set 13 (.int 0))))] H := hP
  have hD : va_D A [(h0, .inr (12, (((f0.set 0 (.int 0)).set 15 (.int 4)).set 13 (.int 0))))] := hD
  refine lv_aload_n hx hb dX12_call_25 rfl (lv_at hl 0 rfl) ?_
  refine lv_iconst (v := 0) hx hb dX12_call_26 (by decide) ?_
  refine k_put (D := D) (ci := 12) (v := .int 0) (ty := .boolean) (N := 195) hx hb hts hin12 tyX12 tyX12_ok nmX12 hown hK hP hD hS 0 rfl rfl (by decide) f9_12_14 (hts (.fieldLink RX12 462 "IntegerHouseModel" "refused" "Z") (o9_X12_call _ (List.mem_of_getElem? (i := 4) rfl))) rfl pd_18 rfl rfl (k_len (k_ne (by decide) (k_ne (by decide) (k_ne (by decide) e4)))) dX12_call_27 (fun H locs hP hD hS => ?_)
  have hP : va_P D vwCl [(h0, .inr (12, ((((f0.set 0 (.int 0)).set 15 (.int 4)).set 13 (.int 0)).set 14 (.int 0))))] H := hP
  have hD : va_D A [(h0, .inr (12, ((((f0.set 0 (.int 0)).set 15 (.int 4)).set 13 (.int 0)).set 14 (.int 0))))] := hD
  refine lv_iload_n hx hb dX12_call_30 rfl (lv_at hl 1 rfl) ?_
  refine lv_iconst (v := 1) hx hb dX12_call_31 (by decide) ?_
  refine lv_icmp_ne (tgt := 39) hx hb dX12_call_32 (by decide) (fun _ => ?_) (fun c9 => absurd c9 (by decide))
  refine lv_aload_n hx hb dX12_call_39 rfl (lv_at hl 0 rfl) ?_
  refine k_cVi (As := []) (rest := []) (wc := [(h0, .inr (12, ((((f0.set 0 (.int 0)).set 15 (.int 4)).set 13 (.int 0)).set 14 (.int 0))))]) (wr := []) (w1 := [(h0, .inr (12, (((((f0.set 0 (.int 0)).set 15 (.int 4)).set 13 (.int 0)).set 14 (.int 0)).set 14 (.int 1))))]) ⟨hx, hb, hml, hown, hts⟩ hN hX hAE hK hP hD hS hA [0] [] (ci := 12) rfl rfl rfl rfl (by decide +kernel) (by decide +kernel) (by decide +kernel) (c_X12_act_4 l E D cI cJ cB cZ h0 (((((f0.set 0 (.int 0)).set 15 (.int 4)).set 13 (.int 0)).set 14 (.int 0))) (k_ne (by decide) (k_ne (by decide) (k_set (k_ne (by decide) e2)))) (k_ne (by decide) (k_ne (by decide) (k_ne (by decide) (k_ne (by decide) e5)))) (k_set (k_ne (by decide) (k_ne (by decide) (k_ne (by decide) e4))))) (cwV 0 hts g9_X12_call_X12_act_494 rfl rfl rfl (by decide +kernel) ⟨Nat.le_of_ble_eq_true rfl, Nat.le_of_ble_eq_true rfl⟩) rfl hl.1 (Nat.le_of_ble_eq_true rfl) dX12_call_40 ⟨Nat.le_of_ble_eq_true rfl, Nat.le_of_ble_eq_true rfl⟩ (fun H locs hP hD hS => ?_)
  have hP : va_P D vwCl [(h0, .inr (12, (((((f0.set 0 (.int 0)).set 15 (.int 4)).set 13 (.int 0)).set 14 (.int 0)).set 14 (.int 1))))] H := hP
  have hD : va_D A [(h0, .inr (12, (((((f0.set 0 (.int 0)).set 15 (.int 4)).set 13 (.int 0)).set 14 (.int 0)).set 14 (.int 1))))] := hD
  refine lv_istore_n (lv' := [(2, .int (-103)), (0, .ref h0), (1, .int 4)]) hx hb dX12_call_43 rfl hl (by decide) rfl (fun ls hl => ?_)
  refine lv_aload_n hx hb dX12_call_44 rfl (lv_at hl 1 rfl) ?_
  refine k_get (D := D) (ci := 12) (v := .int 1) (N := 195) hx hb hts hin12 hown hK hP 0 rfl rfl (by decide) f9_12_14 (hts (.fieldLink RX12 462 "IntegerHouseModel" "refused" "Z") (o9_X12_call _ (List.mem_of_getElem? (i := 4) rfl))) (k_set (k_set (k_ne (by decide) (k_ne (by decide) (k_ne (by decide) e4))))) dX12_call_45 ?_
  refine lv_if_ne (tgt := 141) hx hb dX12_call_48 (by decide) (fun _ => ?_) (fun c9 => absurd c9 (by decide))
  refine lv_iload_n hx hb dX12_call_141 rfl (lv_at hl 0 rfl) ?_
  exact W.iret (v := (-103)) hx hb hr (fun t ht hW => ⟨⟨(-103), (), rfl, rfl, kB_mk ht hW hP hK hD⟩, hS.F ht⟩) hS.2.2 dX12_call_142
set_option maxHeartbeats 400000000 in
set_option maxRecDepth 100000 in
theorem c_X12_pop_0 (l : Launch) (E : kE) (D : va_G) (cI cJ cB cZ : ClassId) (h0 : Nat) (f0 : List Value) (e0 : f0[0]? = some (.int 0)) (e1 : f0[5]? = some (.int 0)) (e2 : f0[15]? = some (.int 0)) (e3 : f0[13]? = some (.int 0)) (e4 : f0[14]? = some (.int 0)) (e5 : f0[105]? = some (.int 0)) : kI l E D (kT cI cJ cB cZ) yX12_pop vW_X12_pop ({ frames := 4, cells := 0, slots := 0, locals := 85 }) [.ref h0] [(h0, .inr (12, f0))] ((-103)) [(h0, .inr (12, (((((f0.set 0 (.int 0)).set 15 (.int 4)).set 13 (.int 0)).set 14 (.int 0)).set 14 (.int 1))))] 0 0 := by
  intro sz
  refine Met.ofW (cc := cX12_pop) (maxL := 1) (ret := (some .int)) (by decide) rfl ?_
  intro p e s m args below meth c s₁ B hml hv
  obtain ⟨rfl, hsz, hP, hK, hD0, hN, hX⟩ := hv
  have hx := B.exec
  have hb := B.bytes
  have hr := B.returns
  have hts := atoms_spec (ws := vW_X12_pop) B.pre
  have hown : s.vm.findClass RX12 = some m.cls := findClass_of_methodNamed B.named
  have hlocks := B.notSynchronized
  subst hsz
  have hD := hD0.self (sz := s.heap.size)
  have hAE := k_AE hD0 hX
  generalize hAe : va_A [(h0, .inr (12, f0))] s.heap.size = A at hD hAE ⊢
  have hA : ∀ q : Nat, s.heap.size ≤ q → A q := fun q h => by rw [← hAe]; exact Or.inr h
  have hS : va_S A s.heap s.heap [] := va_S.rf
  have hP : va_P D vwCl [(h0, .inr (12, f0))] s.heap := hP
  have hl := lv_entry ([.ref h0] : List Value) (n := 1) (Nat.le_of_ble_eq_true rfl)
  rw [lg_entry_eq]
  generalize (lg_sl ([.ref h0]) ++ List.replicate (1 - (lg_sl ([.ref h0])).length) Slot.unset).toArray = ls at hl ⊢
  have hl : lv_has ls 1 [(0, .ref h0)] := hl
  refine lv_aload_n hx hb dX12_pop_0 rfl (lv_at hl 0 rfl) ?_
  refine lv_iconst (v := 4) hx hb dX12_pop_1 (by decide) ?_
  refine k_cVi (As := [.int 4]) (rest := []) (wc := [(h0, .inr (12, f0))]) (wr := []) (w1 := [(h0, .inr (12, (((((f0.set 0 (.int 0)).set 15 (.int 4)).set 13 (.int 0)).set 14 (.int 0)).set 14 (.int 1))))]) ⟨hx, hb, hml, hown, hts⟩ hN hX hAE hK hP hD hS hA [0] [] (ci := 12) rfl rfl rfl rfl (by decide +kernel) (by decide +kernel) (by decide +kernel) (c_X12_call_4 l E D cI cJ cB cZ h0 f0 e0 e1 e2 e3 e4 e5) (cwV 1 hts g9_X12_pop_X12_call_868 rfl rfl rfl (by decide +kernel) ⟨Nat.le_of_ble_eq_true rfl, Nat.le_of_ble_eq_true rfl⟩) rfl hl.1 (Nat.le_of_ble_eq_true rfl) dX12_pop_2 ⟨Nat.le_of_ble_eq_true rfl, Nat.le_of_ble_eq_true rfl⟩ (fun H locs hP hD hS => ?_)
  have hP : va_P D vwCl [(h0, .inr (12, (((((f0.set 0 (.int 0)).set 15 (.int 4)).set 13 (.int 0)).set 14 (.int 0)).set 14 (.int 1))))] H := hP
  have hD : va_D A [(h0, .inr (12, (((((f0.set 0 (.int 0)).set 15 (.int 4)).set 13 (.int 0)).set 14 (.int 0)).set 14 (.int 1))))] := hD
  exact W.iret (v := (-103)) hx hb hr (fun t ht hW => ⟨⟨(-103), (), rfl, rfl, kB_mk ht hW hP hK hD⟩, hS.F ht⟩) hS.2.2 dX12_pop_5
set_option maxHeartbeats 400000000 in
set_option maxRecDepth 100000 in
theorem c_X3_nameAt_0 (l : Launch) (E : kE) (D : va_G) (cI cJ cB cZ : ClassId) (h0 : Nat) (f0 : List Value) (e0 : f0[5]? = some (.int 0)) : kJ l E D (kT cI cJ cB cZ) yX3_nameAt vW_X3_nameAt ({ frames := 0, cells := 0, slots := 0, locals := 0 }) [.ref h0, .int 0] [(h0, .inr (3, f0))] (0) [(h0, .inr (3, f0))] 0 0 := by
  intro sz
  refine Met.ofW (cc := cX3_nameAt) (maxL := 2) (ret := (some .long)) (by decide) rfl ?_
  intro p e s m args below meth c s₁ B hml hv
  obtain ⟨rfl, hsz, hP, hK, hD0, hN, hX⟩ := hv
  have hx := B.exec
  have hb := B.bytes
  have hr := B.returns
  have hts := atoms_spec (ws := vW_X3_nameAt) B.pre
  have hown : s.vm.findClass RX3 = some m.cls := findClass_of_methodNamed B.named
  have hlocks := B.notSynchronized
  have hin3 : ∀ w ∈ wsX30, w ∈ vW_X3_nameAt := u9_X3_nameAt_wsX30
  subst hsz
  have hD := hD0.self (sz := s.heap.size)
  have hAE := k_AE hD0 hX
  generalize hAe : va_A [(h0, .inr (3, f0))] s.heap.size = A at hD hAE ⊢
  have hA : ∀ q : Nat, s.heap.size ≤ q → A q := fun q h => by rw [← hAe]; exact Or.inr h
  have hS : va_S A s.heap s.heap [] := va_S.rf
  have hP : va_P D vwCl [(h0, .inr (3, f0))] s.heap := hP
  have hl := lv_entry ([.ref h0, .int 0] : List Value) (n := 2) (Nat.le_of_ble_eq_true rfl)
  rw [lg_entry_eq]
  generalize (lg_sl ([.ref h0, .int 0]) ++ List.replicate (2 - (lg_sl ([.ref h0, .int 0])).length) Slot.unset).toArray = ls at hl ⊢
  have hl : lv_has ls 2 [(0, .ref h0), (1, .int 0)] := hl
  refine lv_iload_n hx hb dX3_nameAt_0 rfl (lv_at hl 1 rfl) ?_
  refine lv_if_lt (tgt := 21) hx hb dX3_nameAt_1 (by decide) (fun c9 => absurd c9 (by decide)) (fun _ => ?_)
  refine lv_iload_n hx hb dX3_nameAt_4 rfl (lv_at hl 1 rfl) ?_
  refine lv_aload_n hx hb dX3_nameAt_5 rfl (lv_at hl 0 rfl) ?_
  refine k_get (D := D) (ci := 3) (v := .int 0) (N := 9) hx hb hts hin3 hown hK hP 0 rfl rfl (by decide) f9_3_5 (hts (.fieldLink RX3 48 "IntegerHouse$Lexer" "size" "I") (o9_X3_nameAt _ (List.mem_of_getElem? (i := 0) rfl))) e0 dX3_nameAt_6 ?_
  refine lv_icmp_ge (tgt := 21) hx hb dX3_nameAt_9 (by decide) (fun _ => ?_) (fun c9 => absurd (by decide) c9)
  refine lv_lconst (v := 0) hx hb dX3_nameAt_21 (by decide) ?_
  exact W.lret (v := 0) hx hb hr (fun t ht hW => ⟨⟨0, (), rfl, rfl, kB_mk ht hW hP hK hD⟩, hS.F ht⟩) hS.2.2 dX3_nameAt_22
set_option maxHeartbeats 400000000 in
set_option maxRecDepth 100000 in
theorem c_X2_claimOf_0 (l : Launch) (E : kE) (D : va_G) (cI cJ cB cZ : ClassId) (h0 : Nat) (f0 : List Value) (e0 : f0[11]? = some (.int 0)) : kI l E D (kT cI cJ cB cZ) yX2_claimOf vW_X2_claimOf ({ frames := 0, cells := 0, slots := 0, locals := 0 }) [.ref h0, .long 0] [(h0, .inr (2, f0))] ((-1)) [(h0, .inr (2, f0))] 0 0 := by
  intro sz
  refine Met.ofW (cc := cX2_claimOf) (maxL := 4) (ret := (some .int)) (by decide) rfl ?_
  intro p e s m args below meth c s₁ B hml hv
  obtain ⟨rfl, hsz, hP, hK, hD0, hN, hX⟩ := hv
  have hx := B.exec
  have hb := B.bytes
  have hr := B.returns
  have hts := atoms_spec (ws := vW_X2_claimOf) B.pre
  have hown : s.vm.findClass RX2 = some m.cls := findClass_of_methodNamed B.named
  have hlocks := B.notSynchronized
  have hin2 : ∀ w ∈ wsX20, w ∈ vW_X2_claimOf := u9_X2_claimOf_wsX20
  subst hsz
  have hD := hD0.self (sz := s.heap.size)
  have hAE := k_AE hD0 hX
  generalize hAe : va_A [(h0, .inr (2, f0))] s.heap.size = A at hD hAE ⊢
  have hA : ∀ q : Nat, s.heap.size ≤ q → A q := fun q h => by rw [← hAe]; exact Or.inr h
  have hS : va_S A s.heap s.heap [] := va_S.rf
  have hP : va_P D vwCl [(h0, .inr (2, f0))] s.heap := hP
  have hl := lv_entry ([.ref h0, .long 0] : List Value) (n := 4) (Nat.le_of_ble_eq_true rfl)
  rw [lg_entry_eq]
  generalize (lg_sl ([.ref h0, .long 0]) ++ List.replicate (4 - (lg_sl ([.ref h0, .long 0])).length) Slot.unset).toArray = ls at hl ⊢
  have hl : lv_has ls 4 [(0, .ref h0), (1, .long 0)] := hl
  refine lv_iconst (v := 0) hx hb dX2_claimOf_0 (by decide) ?_
  refine lv_istore_n (lv' := [(3, .int 0), (0, .ref h0), (1, .long 0)]) hx hb dX2_claimOf_1 rfl hl (by decide) rfl (fun ls hl => ?_)
  refine lv_iload_n hx hb dX2_claimOf_2 rfl (lv_at hl 0 rfl) ?_
  refine lv_aload_n hx hb dX2_claimOf_3 rfl (lv_at hl 1 rfl) ?_
  refine k_get (D := D) (ci := 2) (v := .int 0) (N := 16) hx hb hts hin2 hown hK hP 0 rfl rfl (by decide) f9_2_11 (hts (.fieldLink RX2 55 "IntegerHouse$House" "claims" "I") (o9_X2_claimOf _ (List.mem_of_getElem? (i := 0) rfl))) e0 dX2_claimOf_4 ?_
  refine lv_icmp_ge (tgt := 35) hx hb dX2_claimOf_7 (by decide) (fun _ => ?_) (fun c9 => absurd (by decide) c9)
  refine lv_iconst (v := (-1)) hx hb dX2_claimOf_35 (by decide) ?_
  exact W.iret (v := (-1)) hx hb hr (fun t ht hW => ⟨⟨(-1), (), rfl, rfl, kB_mk ht hW hP hK hD⟩, hS.F ht⟩) hS.2.2 dX2_claimOf_36
set_option maxHeartbeats 400000000 in
set_option maxRecDepth 100000 in
theorem c_X8_fail_0 (l : Launch) (E : kE) (D : va_G) (cI cJ cB cZ : ClassId) (h0 : Nat) (f0 : List Value) (e0 : f0[3]? = some (.int 0)) (e1 : f0[7]? = some (.int 0)) (e2 : f0[8]? = some (.int 0)) (e3 : f0[4]? = some (.int 0)) : kV l E D (kT cI cJ cB cZ) yX8_fail vW_X8_fail ({ frames := 0, cells := 0, slots := 0, locals := 0 }) [.ref h0, .int 2] [(h0, .inr (8, f0))] (fun _ : Unit => [(h0, .inr (8, (((f0.set 3 (.int 2)).set 4 (.int 0)).set 7 (.int 44))))]) 0 0 := by
  intro sz
  refine Met.ofW (cc := cX8_fail) (maxL := 2) (ret := none) (by decide) rfl ?_
  intro p e s m args below meth c s₁ B hml hv
  obtain ⟨rfl, hsz, hP, hK, hD0, hN, hX⟩ := hv
  have hx := B.exec
  have hb := B.bytes
  have hr := B.returns
  have hts := atoms_spec (ws := vW_X8_fail) B.pre
  have hown : s.vm.findClass RX8 = some m.cls := findClass_of_methodNamed B.named
  have hlocks := B.notSynchronized
  have hin8 : ∀ w ∈ wsX80, w ∈ vW_X8_fail := u9_X8_fail_wsX80
  subst hsz
  have hD := hD0.self (sz := s.heap.size)
  have hAE := k_AE hD0 hX
  generalize hAe : va_A [(h0, .inr (8, f0))] s.heap.size = A at hD hAE ⊢
  have hA : ∀ q : Nat, s.heap.size ≤ q → A q := fun q h => by rw [← hAe]; exact Or.inr h
  have hS : va_S A s.heap s.heap [] := va_S.rf
  have hP : va_P D vwCl [(h0, .inr (8, f0))] s.heap := hP
  have hl := lv_entry ([.ref h0, .int 2] : List Value) (n := 2) (Nat.le_of_ble_eq_true rfl)
  rw [lg_entry_eq]
  generalize (lg_sl ([.ref h0, .int 2]) ++ List.replicate (2 - (lg_sl ([.ref h0, .int 2])).length) Slot.unset).toArray = ls at hl ⊢
  have hl : lv_has ls 2 [(0, .ref h0), (1, .int 2)] := hl
  refine lv_aload_n hx hb dX8_fail_0 rfl (lv_at hl 0 rfl) ?_
  refine k_get (D := D) (ci := 8) (v := .int 0) (N := 15) hx hb hts hin8 hown hK hP 0 rfl rfl (by decide) f9_8_3 (hts (.fieldLink RX8 62 "IntegerHouse$Reader" "faultKind" "I") (o9_X8_fail _ (List.mem_of_getElem? (i := 0) rfl))) e0 dX8_fail_1 ?_
  refine lv_if_ne (tgt := 32) hx hb dX8_fail_4 (by decide) (fun c9 => absurd (by decide) c9) (fun _ => ?_)
  refine lv_aload_n hx hb dX8_fail_7 rfl (lv_at hl 0 rfl) ?_
  refine lv_aload_n hx hb dX8_fail_8 rfl (lv_at hl 0 rfl) ?_
  refine k_get (D := D) (ci := 8) (v := .int 0) (N := 15) hx hb hts hin8 hown hK hP 0 rfl rfl (by decide) f9_8_7 (hts (.fieldLink RX8 39 "IntegerHouse$Reader" "kind" "I") (o9_X8_fail _ (List.mem_of_getElem? (i := 1) rfl))) e1 dX8_fail_9 ?_
  refine lv_iconst (v := 3) hx hb dX8_fail_12 (by decide) ?_
  refine lv_icmp_ne (tgt := 20) hx hb dX8_fail_13 (by decide) (fun _ => ?_) (fun c9 => absurd c9 (by decide))
  refine lv_iload_n hx hb dX8_fail_20 rfl (lv_at hl 1 rfl) ?_
  refine k_put (D := D) (ci := 8) (v := .int 2) (ty := .int) (N := 15) hx hb hts hin8 tyX8 tyX8_ok nmX8 hown hK hP hD hS 0 rfl rfl (by decide) f9_8_3 (hts (.fieldLink RX8 62 "IntegerHouse$Reader" "faultKind" "I") (o9_X8_fail _ (List.mem_of_getElem? (i := 0) rfl))) rfl pd_2 rfl rfl (k_len e0) dX8_fail_21 (fun H locs hP hD hS => ?_)
  have hP : va_P D vwCl [(h0, .inr (8, (f0.set 3 (.int 2))))] H := hP
  have hD : va_D A [(h0, .inr (8, (f0.set 3 (.int 2))))] := hD
  refine lv_aload_n hx hb dX8_fail_24 rfl (lv_at hl 0 rfl) ?_
  refine lv_aload_n hx hb dX8_fail_25 rfl (lv_at hl 0 rfl) ?_
  refine k_get (D := D) (ci := 8) (v := .int 0) (N := 15) hx hb hts hin8 hown hK hP 0 rfl rfl (by decide) f9_8_8 (hts (.fieldLink RX8 136 "IntegerHouse$Reader" "place" "I") (o9_X8_fail _ (List.mem_of_getElem? (i := 2) rfl))) (k_ne (by decide) e2) dX8_fail_26 ?_
  refine k_put (D := D) (ci := 8) (v := .int 0) (ty := .int) (N := 15) hx hb hts hin8 tyX8 tyX8_ok nmX8 hown hK hP hD hS 0 rfl rfl (by decide) f9_8_4 (hts (.fieldLink RX8 123 "IntegerHouse$Reader" "faultPlace" "I") (o9_X8_fail _ (List.mem_of_getElem? (i := 3) rfl))) rfl pd_2 rfl rfl (k_len (k_ne (by decide) e3)) dX8_fail_29 (fun H locs hP hD hS => ?_)
  have hP : va_P D vwCl [(h0, .inr (8, ((f0.set 3 (.int 2)).set 4 (.int 0))))] H := hP
  have hD : va_D A [(h0, .inr (8, ((f0.set 3 (.int 2)).set 4 (.int 0))))] := hD
  refine lv_aload_n hx hb dX8_fail_32 rfl (lv_at hl 0 rfl) ?_
  refine lv_bipush (v := 44) hx hb dX8_fail_33 (by decide) ?_
  refine k_put (D := D) (ci := 8) (v := .int 44) (ty := .int) (N := 15) hx hb hts hin8 tyX8 tyX8_ok nmX8 hown hK hP hD hS 0 rfl rfl (by decide) f9_8_7 (hts (.fieldLink RX8 39 "IntegerHouse$Reader" "kind" "I") (o9_X8_fail _ (List.mem_of_getElem? (i := 1) rfl))) rfl pd_2 rfl rfl (k_len (k_ne (by decide) (k_ne (by decide) e1))) dX8_fail_35 (fun H locs hP hD hS => ?_)
  have hP : va_P D vwCl [(h0, .inr (8, (((f0.set 3 (.int 2)).set 4 (.int 0)).set 7 (.int 44))))] H := hP
  have hD : va_D A [(h0, .inr (8, (((f0.set 3 (.int 2)).set 4 (.int 0)).set 7 (.int 44))))] := hD
  exact W.vret hx hb hr (fun t ht hW => ⟨⟨(), rfl, trivial, kB_mk ht hW hP hK hD⟩, hS.F ht⟩) hS.2.2 dX8_fail_38
set_option maxHeartbeats 400000000 in
set_option maxRecDepth 100000 in
theorem c_X8_fail_1 (l : Launch) (E : kE) (D : va_G) (cI cJ cB cZ : ClassId) (h0 : Nat) (f0 : List Value) (e0 : f0[3]? = some (.int 2)) (e1 : f0[7]? = some (.int 44)) : kV l E D (kT cI cJ cB cZ) yX8_fail vW_X8_fail ({ frames := 0, cells := 0, slots := 0, locals := 0 }) [.ref h0, .int 2] [(h0, .inr (8, f0))] (fun _ : Unit => [(h0, .inr (8, (f0.set 7 (.int 44))))]) 0 0 := by
  intro sz
  refine Met.ofW (cc := cX8_fail) (maxL := 2) (ret := none) (by decide) rfl ?_
  intro p e s m args below meth c s₁ B hml hv
  obtain ⟨rfl, hsz, hP, hK, hD0, hN, hX⟩ := hv
  have hx := B.exec
  have hb := B.bytes
  have hr := B.returns
  have hts := atoms_spec (ws := vW_X8_fail) B.pre
  have hown : s.vm.findClass RX8 = some m.cls := findClass_of_methodNamed B.named
  have hlocks := B.notSynchronized
  have hin8 : ∀ w ∈ wsX80, w ∈ vW_X8_fail := u9_X8_fail_wsX80
  subst hsz
  have hD := hD0.self (sz := s.heap.size)
  have hAE := k_AE hD0 hX
  generalize hAe : va_A [(h0, .inr (8, f0))] s.heap.size = A at hD hAE ⊢
  have hA : ∀ q : Nat, s.heap.size ≤ q → A q := fun q h => by rw [← hAe]; exact Or.inr h
  have hS : va_S A s.heap s.heap [] := va_S.rf
  have hP : va_P D vwCl [(h0, .inr (8, f0))] s.heap := hP
  have hl := lv_entry ([.ref h0, .int 2] : List Value) (n := 2) (Nat.le_of_ble_eq_true rfl)
  rw [lg_entry_eq]
  generalize (lg_sl ([.ref h0, .int 2]) ++ List.replicate (2 - (lg_sl ([.ref h0, .int 2])).length) Slot.unset).toArray = ls at hl ⊢
  have hl : lv_has ls 2 [(0, .ref h0), (1, .int 2)] := hl
  refine lv_aload_n hx hb dX8_fail_0 rfl (lv_at hl 0 rfl) ?_
  refine k_get (D := D) (ci := 8) (v := .int 2) (N := 15) hx hb hts hin8 hown hK hP 0 rfl rfl (by decide) f9_8_3 (hts (.fieldLink RX8 62 "IntegerHouse$Reader" "faultKind" "I") (o9_X8_fail _ (List.mem_of_getElem? (i := 0) rfl))) e0 dX8_fail_1 ?_
  refine lv_if_ne (tgt := 32) hx hb dX8_fail_4 (by decide) (fun _ => ?_) (fun c9 => absurd c9 (by decide))
  refine lv_aload_n hx hb dX8_fail_32 rfl (lv_at hl 0 rfl) ?_
  refine lv_bipush (v := 44) hx hb dX8_fail_33 (by decide) ?_
  refine k_put (D := D) (ci := 8) (v := .int 44) (ty := .int) (N := 15) hx hb hts hin8 tyX8 tyX8_ok nmX8 hown hK hP hD hS 0 rfl rfl (by decide) f9_8_7 (hts (.fieldLink RX8 39 "IntegerHouse$Reader" "kind" "I") (o9_X8_fail _ (List.mem_of_getElem? (i := 1) rfl))) rfl pd_2 rfl rfl (k_len e1) dX8_fail_35 (fun H locs hP hD hS => ?_)
  have hP : va_P D vwCl [(h0, .inr (8, (f0.set 7 (.int 44))))] H := hP
  have hD : va_D A [(h0, .inr (8, (f0.set 7 (.int 44))))] := hD
  exact W.vret hx hb hr (fun t ht hW => ⟨⟨(), rfl, trivial, kB_mk ht hW hP hK hD⟩, hS.F ht⟩) hS.2.2 dX8_fail_38
set_option maxHeartbeats 400000000 in
set_option maxRecDepth 100000 in
theorem c_X8_expectEnd_1 (l : Launch) (E : kE) (D : va_G) (cI cJ cB cZ : ClassId) (h0 : Nat) (f0 : List Value) (e0 : f0[7]? = some (.int 44)) (e1 : f0[3]? = some (.int 2)) : kV l E D (kT cI cJ cB cZ) yX8_expectEnd vW_X8_expectEnd ({ frames := 1, cells := 0, slots := 0, locals := 21 }) [.ref h0] [(h0, .inr (8, f0))] (fun _ : Unit => [(h0, .inr (8, (f0.set 7 (.int 44))))]) 0 0 := by
  intro sz
  refine Met.ofW (cc := cX8_expectEnd) (maxL := 1) (ret := none) (by decide) rfl ?_
  intro p e s m args below meth c s₁ B hml hv
  obtain ⟨rfl, hsz, hP, hK, hD0, hN, hX⟩ := hv
  have hx := B.exec
  have hb := B.bytes
  have hr := B.returns
  have hts := atoms_spec (ws := vW_X8_expectEnd) B.pre
  have hown : s.vm.findClass RX8 = some m.cls := findClass_of_methodNamed B.named
  have hlocks := B.notSynchronized
  have hin8 : ∀ w ∈ wsX80, w ∈ vW_X8_expectEnd := u9_X8_expectEnd_wsX80
  subst hsz
  have hD := hD0.self (sz := s.heap.size)
  have hAE := k_AE hD0 hX
  generalize hAe : va_A [(h0, .inr (8, f0))] s.heap.size = A at hD hAE ⊢
  have hA : ∀ q : Nat, s.heap.size ≤ q → A q := fun q h => by rw [← hAe]; exact Or.inr h
  have hS : va_S A s.heap s.heap [] := va_S.rf
  have hP : va_P D vwCl [(h0, .inr (8, f0))] s.heap := hP
  have hl := lv_entry ([.ref h0] : List Value) (n := 1) (Nat.le_of_ble_eq_true rfl)
  rw [lg_entry_eq]
  generalize (lg_sl ([.ref h0]) ++ List.replicate (1 - (lg_sl ([.ref h0])).length) Slot.unset).toArray = ls at hl ⊢
  have hl : lv_has ls 1 [(0, .ref h0)] := hl
  refine lv_aload_n hx hb dX8_expectEnd_0 rfl (lv_at hl 0 rfl) ?_
  refine k_get (D := D) (ci := 8) (v := .int 44) (N := 15) hx hb hts hin8 hown hK hP 0 rfl rfl (by decide) f9_8_7 (hts (.fieldLink RX8 39 "IntegerHouse$Reader" "kind" "I") (o9_X8_expectEnd _ (List.mem_of_getElem? (i := 0) rfl))) e0 dX8_expectEnd_1 ?_
  refine lv_if_eq (tgt := 12) hx hb dX8_expectEnd_4 (by decide) (fun c9 => absurd c9 (by decide)) (fun _ => ?_)
  refine lv_aload_n hx hb dX8_expectEnd_7 rfl (lv_at hl 0 rfl) ?_
  refine lv_iconst (v := 2) hx hb dX8_expectEnd_8 (by decide) ?_
  refine k_cVv (As := [.int 2]) (rest := []) (wc := [(h0, .inr (8, f0))]) (wr := []) (w1 := (fun _ : Unit => [(h0, .inr (8, (f0.set 7 (.int 44))))])) ⟨hx, hb, hml, hown, hts⟩ hN hX hAE hK hP hD hS hA [0] [] (ci := 8) rfl rfl rfl rfl (by decide +kernel) (by decide +kernel) (by decide +kernel) (c_X8_fail_1 l E D cI cJ cB cZ h0 f0 e1 e0) (cwV 1 hts g9_X8_expectEnd_X8_fail_95 rfl rfl rfl (by decide +kernel) ⟨Nat.le_of_ble_eq_true rfl, Nat.le_of_ble_eq_true rfl⟩) rfl hl.1 (Nat.le_of_ble_eq_true rfl) dX8_expectEnd_9 ⟨Nat.le_of_ble_eq_true rfl, Nat.le_of_ble_eq_true rfl⟩ (fun _ H locs hP hD hS => ?_)
  have hP : va_P D vwCl [(h0, .inr (8, (f0.set 7 (.int 44))))] H := hP
  have hD : va_D A [(h0, .inr (8, (f0.set 7 (.int 44))))] := hD
  exact W.vret hx hb hr (fun t ht hW => ⟨⟨(), rfl, trivial, kB_mk ht hW hP hK hD⟩, hS.F ht⟩) hS.2.2 dX8_expectEnd_12
set_option maxHeartbeats 400000000 in
set_option maxRecDepth 100000 in
theorem c_X8_readName_0 (l : Launch) (E : kE) (D : va_G) (cI cJ cB cZ : ClassId) (h0 : Nat) (h1 : Nat) (f0 : List Value) (h2 : Nat) (f1 : List Value) (h3 : Nat) (h4 : Nat) (h5 : Nat) (g0 : Nat → Int32) (g1 : Nat → Int32) (h6 : Nat) (f2 : List Value) (e0 : f0[0]? = some (.ref h2)) (e1 : f1[6]? = some (.ref h3)) (e2 : f1[7]? = some (.int 0)) (e3 : f1[8]? = some (.int 0)) (e4 : f1[5]? = some (.int 0)) (e5 : f1[1]? = some (.ref h4)) (e6 : f1[2]? = some (.ref h5)) (e7 : f0[3]? = some (.int 0)) (e8 : f0[4]? = some (.int 0)) (e9 : f0[5]? = some (.int 0)) (e10 : f0[6]? = some (.int 0)) (e11 : f0[7]? = some (.int 0)) (e12 : f0[8]? = some (.int 0)) (e13 : f0[1]? = some (.ref h6)) (e14 : f2[11]? = some (.int 0)) : kI l E D (kT cI cJ cB cZ) yX8_readName vW_X8_readName ({ frames := 3, cells := 0, slots := 0, locals := 73 }) [.ref h0, .ref h1, .int 0] [(h0, .inr (8, f0)), (h2, .inr (3, f1)), (h4, .inl (cI, 2001, .inl g0)), (h5, .inl (cI, 2001, .inl g1)), (h6, .inr (2, f2))] ((-1)) [(h0, .inr (8, (((((((((((f0.set 3 (.int 0)).set 4 (.int 0)).set 5 (.int 0)).set 6 (.int (-1))).set 6 (.int 0)).set 7 (.int 0)).set 8 (.int 0)).set 3 (.int 2)).set 4 (.int 0)).set 7 (.int 44)).set 7 (.int 44)))), (h2, .inr (3, ((((f1.set 6 (.ref h1)).set 7 (.int 0)).set 8 (.int 0)).set 5 (.int 0)))), (h4, .inl (cI, 2001, .inl (upd g0 0 0))), (h5, .inl (cI, 2001, .inl (upd g1 0 0))), (h6, .inr (2, f2))] 0 0 := by
  intro sz
  refine Met.ofW (cc := cX8_readName) (maxL := 4) (ret := (some .int)) (by decide) rfl ?_
  intro p e s m args below meth c s₁ B hml hv
  obtain ⟨rfl, hsz, hP, hK, hD0, hN, hX⟩ := hv
  have hx := B.exec
  have hb := B.bytes
  have hr := B.returns
  have hts := atoms_spec (ws := vW_X8_readName) B.pre
  have hown : s.vm.findClass RX8 = some m.cls := findClass_of_methodNamed B.named
  have hlocks := B.notSynchronized
  have hin8 : ∀ w ∈ wsX80, w ∈ vW_X8_readName := u9_X8_readName_wsX80
  subst hsz
  have hD := hD0.self (sz := s.heap.size)
  have hAE := k_AE hD0 hX
  generalize hAe : va_A [(h0, .inr (8, f0)), (h2, .inr (3, f1)), (h4, .inl (cI, 2001, .inl g0)), (h5, .inl (cI, 2001, .inl g1)), (h6, .inr (2, f2))] s.heap.size = A at hD hAE ⊢
  have hA : ∀ q : Nat, s.heap.size ≤ q → A q := fun q h => by rw [← hAe]; exact Or.inr h
  have hS : va_S A s.heap s.heap [] := va_S.rf
  have hP : va_P D vwCl [(h0, .inr (8, f0)), (h2, .inr (3, f1)), (h4, .inl (cI, 2001, .inl g0)), (h5, .inl (cI, 2001, .inl g1)), (h6, .inr (2, f2))] s.heap := hP
  have hl := lv_entry ([.ref h0, .ref h1, .int 0] : List Value) (n := 4) (Nat.le_of_ble_eq_true rfl)
  rw [lg_entry_eq]
  generalize (lg_sl ([.ref h0, .ref h1, .int 0]) ++ List.replicate (4 - (lg_sl ([.ref h0, .ref h1, .int 0])).length) Slot.unset).toArray = ls at hl ⊢
  have hl : lv_has ls 4 [(0, .ref h0), (1, .ref h1), (2, .int 0)] := hl
  refine lv_aload_n hx hb dX8_readName_0 rfl (lv_at hl 0 rfl) ?_
  refine lv_aload_n hx hb dX8_readName_1 rfl (lv_at hl 1 rfl) ?_
  refine lv_iconst (v := 0) hx hb dX8_readName_2 (by decide) ?_
  refine lv_iload_n hx hb dX8_readName_3 rfl (lv_at hl 2 rfl) ?_
  refine k_cVv (As := [.ref h1, .int 0, .int 0]) (rest := []) (wc := [(h0, .inr (8, f0)), (h2, .inr (3, f1)), (h4, .inl (cI, 2001, .inl g0)), (h5, .inl (cI, 2001, .inl g1))]) (wr := [(h6, .inr (2, f2))]) (w1 := (fun _ : Unit => [(h0, .inr (8, (((((((f0.set 3 (.int 0)).set 4 (.int 0)).set 5 (.int 0)).set 6 (.int (-1))).set 6 (.int 0)).set 7 (.int 0)).set 8 (.int 0)))), (h2, .inr (3, ((((f1.set 6 (.ref h1)).set 7 (.int 0)).set 8 (.int 0)).set 5 (.int 0)))), (h4, .inl (cI, 2001, .inl (upd g0 0 0))), (h5, .inl (cI, 2001, .inl (upd g1 0 0)))])) ⟨hx, hb, hml, hown, hts⟩ hN hX hAE hK hP hD hS hA [0, 1, 2, 3] [4] (ci := 8) rfl rfl rfl rfl (by decide +kernel) (by decide +kernel) (by decide +kernel) (c_X8_begin_0 l E D cI cJ cB cZ h0 h1 f0 h2 f1 h3 h4 h5 g0 g1 e0 e1 e2 e3 e4 e5 e6 e7 e8 e9 e10 e11 e12) (cwV 3 hts g9_X8_readName_X8_begin_23 rfl rfl rfl (by decide +kernel) ⟨Nat.le_of_ble_eq_true rfl, Nat.le_of_ble_eq_true rfl⟩) rfl hl.1 (Nat.le_of_ble_eq_true rfl) dX8_readName_4 ⟨Nat.le_of_ble_eq_true rfl, Nat.le_of_ble_eq_true rfl⟩ (fun _ H locs hP hD hS => ?_)
  have hP : va_P D vwCl [(h6, .inr (2, f2)), (h0, .inr (8, (((((((f0.set 3 (.int 0)).set 4 (.int 0)).set 5 (.int 0)).set 6 (.int (-1))).set 6 (.int 0)).set 7 (.int 0)).set 8 (.int 0)))), (h2, .inr (3, ((((f1.set 6 (.ref h1)).set 7 (.int 0)).set 8 (.int 0)).set 5 (.int 0)))), (h4, .inl (cI, 2001, .inl (upd g0 0 0))), (h5, .inl (cI, 2001, .inl (upd g1 0 0)))] H := hP
  have hD : va_D A [(h6, .inr (2, f2)), (h0, .inr (8, (((((((f0.set 3 (.int 0)).set 4 (.int 0)).set 5 (.int 0)).set 6 (.int (-1))).set 6 (.int 0)).set 7 (.int 0)).set 8 (.int 0)))), (h2, .inr (3, ((((f1.set 6 (.ref h1)).set 7 (.int 0)).set 8 (.int 0)).set 5 (.int 0)))), (h4, .inl (cI, 2001, .inl (upd g0 0 0))), (h5, .inl (cI, 2001, .inl (upd g1 0 0)))] := hD
  refine lv_aload_n hx hb dX8_readName_7 rfl (lv_at hl 0 rfl) ?_
  refine k_get (D := D) (ci := 8) (v := .ref h6) (N := 15) hx hb hts hin8 hown hK hP 1 rfl rfl (by decide) f9_8_1 (hts (.fieldLink RX8 15 "IntegerHouse$Reader" "house" "LIntegerHouse$House;") (o9_X8_readName _ (List.mem_of_getElem? (i := 4) rfl))) (k_ne (by decide) (k_ne (by decide) (k_ne (by decide) (k_ne (by decide) (k_ne (by decide) (k_ne (by decide) (k_ne (by decide) e13))))))) dX8_readName_8 ?_
  refine lv_aload_n hx hb dX8_readName_11 rfl (lv_at hl 0 rfl) ?_
  refine k_get (D := D) (ci := 8) (v := .ref h2) (N := 15) hx hb hts hin8 hown hK hP 1 rfl rfl (by decide) f9_8_0 (hts (.fieldLink RX8 9 "IntegerHouse$Reader" "lexer" "LIntegerHouse$Lexer;") (o9_X8_readName _ (List.mem_of_getElem? (i := 5) rfl))) (k_ne (by decide) (k_ne (by decide) (k_ne (by decide) (k_ne (by decide) (k_ne (by decide) (k_ne (by decide) (k_ne (by decide) e0))))))) dX8_readName_12 ?_
  refine lv_aload_n hx hb dX8_readName_15 rfl (lv_at hl 0 rfl) ?_
  refine k_get (D := D) (ci := 8) (v := .int 0) (N := 15) hx hb hts hin8 hown hK hP 1 rfl rfl (by decide) f9_8_6 (hts (.fieldLink RX8 79 "IntegerHouse$Reader" "at" "I") (o9_X8_readName _ (List.mem_of_getElem? (i := 6) rfl))) (k_ne (by decide) (k_ne (by decide) (k_set (k_set (k_ne (by decide) (k_ne (by decide) (k_ne (by decide) e10))))))) dX8_readName_16 ?_
  refine k_cVl (As := [.int 0]) (rest := [.ref h6]) (wc := [(h2, .inr (3, ((((f1.set 6 (.ref h1)).set 7 (.int 0)).set 8 (.int 0)).set 5 (.int 0))))]) (wr := [(h6, .inr (2, f2)), (h0, .inr (8, (((((((f0.set 3 (.int 0)).set 4 (.int 0)).set 5 (.int 0)).set 6 (.int (-1))).set 6 (.int 0)).set 7 (.int 0)).set 8 (.int 0)))), (h4, .inl (cI, 2001, .inl (upd g0 0 0))), (h5, .inl (cI, 2001, .inl (upd g1 0 0)))]) (w1 := [(h2, .inr (3, ((((f1.set 6 (.ref h1)).set 7 (.int 0)).set 8 (.int 0)).set 5 (.int 0))))]) ⟨hx, hb, hml, hown, hts⟩ hN hX hAE hK hP hD hS hA [2] [0, 1, 3, 4] (ci := 3) rfl rfl rfl rfl (by decide +kernel) (by decide +kernel) (by decide +kernel) (c_X3_nameAt_0 l E D cI cJ cB cZ h2 (((((f1.set 6 (.ref h1)).set 7 (.int 0)).set 8 (.int 0)).set 5 (.int 0))) (k_set (k_ne (by decide) (k_ne (by decide) (k_ne (by decide) e4))))) (cwV 1 hts g9_X8_readName_X3_nameAt_82 rfl rfl rfl (by decide +kernel) ⟨Nat.le_of_ble_eq_true rfl, Nat.le_of_ble_eq_true rfl⟩) rfl hl.1 (Nat.le_of_ble_eq_true rfl) dX8_readName_19 ⟨Nat.le_of_ble_eq_true rfl, Nat.le_of_ble_eq_true rfl⟩ (fun H locs hP hD hS => ?_)
  have hP : va_P D vwCl [(h6, .inr (2, f2)), (h0, .inr (8, (((((((f0.set 3 (.int 0)).set 4 (.int 0)).set 5 (.int 0)).set 6 (.int (-1))).set 6 (.int 0)).set 7 (.int 0)).set 8 (.int 0)))), (h4, .inl (cI, 2001, .inl (upd g0 0 0))), (h5, .inl (cI, 2001, .inl (upd g1 0 0))), (h2, .inr (3, ((((f1.set 6 (.ref h1)).set 7 (.int 0)).set 8 (.int 0)).set 5 (.int 0))))] H := hP
  have hD : va_D A [(h6, .inr (2, f2)), (h0, .inr (8, (((((((f0.set 3 (.int 0)).set 4 (.int 0)).set 5 (.int 0)).set 6 (.int (-1))).set 6 (.int 0)).set 7 (.int 0)).set 8 (.int 0)))), (h4, .inl (cI, 2001, .inl (upd g0 0 0))), (h5, .inl (cI, 2001, .inl (upd g1 0 0))), (h2, .inr (3, ((((f1.set 6 (.ref h1)).set 7 (.int 0)).set 8 (.int 0)).set 5 (.int 0))))] := hD
  refine k_cVi (As := [.long 0]) (rest := []) (wc := [(h6, .inr (2, f2))]) (wr := [(h0, .inr (8, (((((((f0.set 3 (.int 0)).set 4 (.int 0)).set 5 (.int 0)).set 6 (.int (-1))).set 6 (.int 0)).set 7 (.int 0)).set 8 (.int 0)))), (h4, .inl (cI, 2001, .inl (upd g0 0 0))), (h5, .inl (cI, 2001, .inl (upd g1 0 0))), (h2, .inr (3, ((((f1.set 6 (.ref h1)).set 7 (.int 0)).set 8 (.int 0)).set 5 (.int 0))))]) (w1 := [(h6, .inr (2, f2))]) ⟨hx, hb, hml, hown, hts⟩ hN hX hAE hK hP hD hS hA [0] [1, 2, 3, 4] (ci := 2) rfl rfl rfl rfl (by decide +kernel) (by decide +kernel) (by decide +kernel) (c_X2_claimOf_0 l E D cI cJ cB cZ h6 f2 e14) (cwV 1 hts g9_X8_readName_X2_claimOf_88 rfl rfl rfl (by decide +kernel) ⟨Nat.le_of_ble_eq_true rfl, Nat.le_of_ble_eq_true rfl⟩) rfl hl.1 (Nat.le_of_ble_eq_true rfl) dX8_readName_22 ⟨Nat.le_of_ble_eq_true rfl, Nat.le_of_ble_eq_true rfl⟩ (fun H locs hP hD hS => ?_)
  have hP : va_P D vwCl [(h0, .inr (8, (((((((f0.set 3 (.int 0)).set 4 (.int 0)).set 5 (.int 0)).set 6 (.int (-1))).set 6 (.int 0)).set 7 (.int 0)).set 8 (.int 0)))), (h4, .inl (cI, 2001, .inl (upd g0 0 0))), (h5, .inl (cI, 2001, .inl (upd g1 0 0))), (h2, .inr (3, ((((f1.set 6 (.ref h1)).set 7 (.int 0)).set 8 (.int 0)).set 5 (.int 0)))), (h6, .inr (2, f2))] H := hP
  have hD : va_D A [(h0, .inr (8, (((((((f0.set 3 (.int 0)).set 4 (.int 0)).set 5 (.int 0)).set 6 (.int (-1))).set 6 (.int 0)).set 7 (.int 0)).set 8 (.int 0)))), (h4, .inl (cI, 2001, .inl (upd g0 0 0))), (h5, .inl (cI, 2001, .inl (upd g1 0 0))), (h2, .inr (3, ((((f1.set 6 (.ref h1)).set 7 (.int 0)).set 8 (.int 0)).set 5 (.int 0)))), (h6, .inr (2, f2))] := hD
  refine lv_istore_n (lv' := [(3, .int (-1)), (0, .ref h0), (1, .ref h1), (2, .int 0)]) hx hb dX8_readName_25 rfl hl (by decide) rfl (fun ls hl => ?_)
  refine lv_aload_n hx hb dX8_readName_26 rfl (lv_at hl 1 rfl) ?_
  refine k_get (D := D) (ci := 8) (v := .int 0) (N := 15) hx hb hts hin8 hown hK hP 0 rfl rfl (by decide) f9_8_7 (hts (.fieldLink RX8 39 "IntegerHouse$Reader" "kind" "I") (o9_X8_readName _ (List.mem_of_getElem? (i := 15) rfl))) (k_ne (by decide) (k_set (k_ne (by decide) (k_ne (by decide) (k_ne (by decide) (k_ne (by decide) (k_ne (by decide) e11))))))) dX8_readName_27 ?_
  refine lv_iconst (v := 1) hx hb dX8_readName_30 (by decide) ?_
  refine lv_icmp_ne (tgt := 56) hx hb dX8_readName_31 (by decide) (fun _ => ?_) (fun c9 => absurd c9 (by decide))
  refine lv_aload_n hx hb dX8_readName_56 rfl (lv_at hl 1 rfl) ?_
  refine lv_iconst (v := 2) hx hb dX8_readName_57 (by decide) ?_
  refine k_cVv (As := [.int 2]) (rest := []) (wc := [(h0, .inr (8, (((((((f0.set 3 (.int 0)).set 4 (.int 0)).set 5 (.int 0)).set 6 (.int (-1))).set 6 (.int 0)).set 7 (.int 0)).set 8 (.int 0))))]) (wr := [(h4, .inl (cI, 2001, .inl (upd g0 0 0))), (h5, .inl (cI, 2001, .inl (upd g1 0 0))), (h2, .inr (3, ((((f1.set 6 (.ref h1)).set 7 (.int 0)).set 8 (.int 0)).set 5 (.int 0)))), (h6, .inr (2, f2))]) (w1 := (fun _ : Unit => [(h0, .inr (8, ((((((((((f0.set 3 (.int 0)).set 4 (.int 0)).set 5 (.int 0)).set 6 (.int (-1))).set 6 (.int 0)).set 7 (.int 0)).set 8 (.int 0)).set 3 (.int 2)).set 4 (.int 0)).set 7 (.int 44))))])) ⟨hx, hb, hml, hown, hts⟩ hN hX hAE hK hP hD hS hA [0] [1, 2, 3, 4] (ci := 8) rfl rfl rfl rfl (by decide +kernel) (by decide +kernel) (by decide +kernel) (c_X8_fail_0 l E D cI cJ cB cZ h0 ((((((((f0.set 3 (.int 0)).set 4 (.int 0)).set 5 (.int 0)).set 6 (.int (-1))).set 6 (.int 0)).set 7 (.int 0)).set 8 (.int 0))) (k_ne (by decide) (k_ne (by decide) (k_ne (by decide) (k_ne (by decide) (k_ne (by decide) (k_ne (by decide) (k_set e7))))))) (k_ne (by decide) (k_set (k_ne (by decide) (k_ne (by decide) (k_ne (by decide) (k_ne (by decide) (k_ne (by decide) e11))))))) (k_set (k_ne (by decide) (k_ne (by decide) (k_ne (by decide) (k_ne (by decide) (k_ne (by decide) (k_ne (by decide) e12))))))) (k_ne (by decide) (k_ne (by decide) (k_ne (by decide) (k_ne (by decide) (k_ne (by decide) (k_set (k_ne (by decide) e8)))))))) (cwV 1 hts g9_X8_readName_X8_fail_95 rfl rfl rfl (by decide +kernel) ⟨Nat.le_of_ble_eq_true rfl, Nat.le_of_ble_eq_true rfl⟩) rfl hl.1 (Nat.le_of_ble_eq_true rfl) dX8_readName_58 ⟨Nat.le_of_ble_eq_true rfl, Nat.le_of_ble_eq_true rfl⟩ (fun _ H locs hP hD hS => ?_)
  have hP : va_P D vwCl [(h4, .inl (cI, 2001, .inl (upd g0 0 0))), (h5, .inl (cI, 2001, .inl (upd g1 0 0))), (h2, .inr (3, ((((f1.set 6 (.ref h1)).set 7 (.int 0)).set 8 (.int 0)).set 5 (.int 0)))), (h6, .inr (2, f2)), (h0, .inr (8, ((((((((((f0.set 3 (.int 0)).set 4 (.int 0)).set 5 (.int 0)).set 6 (.int (-1))).set 6 (.int 0)).set 7 (.int 0)).set 8 (.int 0)).set 3 (.int 2)).set 4 (.int 0)).set 7 (.int 44))))] H := hP
  have hD : va_D A [(h4, .inl (cI, 2001, .inl (upd g0 0 0))), (h5, .inl (cI, 2001, .inl (upd g1 0 0))), (h2, .inr (3, ((((f1.set 6 (.ref h1)).set 7 (.int 0)).set 8 (.int 0)).set 5 (.int 0)))), (h6, .inr (2, f2)), (h0, .inr (8, ((((((((((f0.set 3 (.int 0)).set 4 (.int 0)).set 5 (.int 0)).set 6 (.int (-1))).set 6 (.int 0)).set 7 (.int 0)).set 8 (.int 0)).set 3 (.int 2)).set 4 (.int 0)).set 7 (.int 44))))] := hD
  refine lv_goto (tgt := 81) hx hb dX8_readName_61 (by decide) ?_
  refine lv_aload_n hx hb dX8_readName_81 rfl (lv_at hl 1 rfl) ?_
  refine k_cVv (As := []) (rest := []) (wc := [(h0, .inr (8, ((((((((((f0.set 3 (.int 0)).set 4 (.int 0)).set 5 (.int 0)).set 6 (.int (-1))).set 6 (.int 0)).set 7 (.int 0)).set 8 (.int 0)).set 3 (.int 2)).set 4 (.int 0)).set 7 (.int 44))))]) (wr := [(h4, .inl (cI, 2001, .inl (upd g0 0 0))), (h5, .inl (cI, 2001, .inl (upd g1 0 0))), (h2, .inr (3, ((((f1.set 6 (.ref h1)).set 7 (.int 0)).set 8 (.int 0)).set 5 (.int 0)))), (h6, .inr (2, f2))]) (w1 := (fun _ : Unit => [(h0, .inr (8, (((((((((((f0.set 3 (.int 0)).set 4 (.int 0)).set 5 (.int 0)).set 6 (.int (-1))).set 6 (.int 0)).set 7 (.int 0)).set 8 (.int 0)).set 3 (.int 2)).set 4 (.int 0)).set 7 (.int 44)).set 7 (.int 44))))])) ⟨hx, hb, hml, hown, hts⟩ hN hX hAE hK hP hD hS hA [4] [0, 1, 2, 3] (ci := 8) rfl rfl rfl rfl (by decide +kernel) (by decide +kernel) (by decide +kernel) (c_X8_expectEnd_1 l E D cI cJ cB cZ h0 (((((((((((f0.set 3 (.int 0)).set 4 (.int 0)).set 5 (.int 0)).set 6 (.int (-1))).set 6 (.int 0)).set 7 (.int 0)).set 8 (.int 0)).set 3 (.int 2)).set 4 (.int 0)).set 7 (.int 44))) (k_set (k_ne (by decide) (k_ne (by decide) (k_ne (by decide) (k_set (k_ne (by decide) (k_ne (by decide) (k_ne (by decide) (k_ne (by decide) (k_ne (by decide) e11)))))))))) (k_ne (by decide) (k_ne (by decide) (k_set (k_ne (by decide) (k_ne (by decide) (k_ne (by decide) (k_ne (by decide) (k_ne (by decide) (k_ne (by decide) (k_set e7))))))))))) (cwV 0 hts g9_X8_readName_X8_expectEnd_59 rfl rfl rfl (by decide +kernel) ⟨Nat.le_of_ble_eq_true rfl, Nat.le_of_ble_eq_true rfl⟩) rfl hl.1 (Nat.le_of_ble_eq_true rfl) dX8_readName_82 ⟨Nat.le_of_ble_eq_true rfl, Nat.le_of_ble_eq_true rfl⟩ (fun _ H locs hP hD hS => ?_)
  have hP : va_P D vwCl [(h4, .inl (cI, 2001, .inl (upd g0 0 0))), (h5, .inl (cI, 2001, .inl (upd g1 0 0))), (h2, .inr (3, ((((f1.set 6 (.ref h1)).set 7 (.int 0)).set 8 (.int 0)).set 5 (.int 0)))), (h6, .inr (2, f2)), (h0, .inr (8, (((((((((((f0.set 3 (.int 0)).set 4 (.int 0)).set 5 (.int 0)).set 6 (.int (-1))).set 6 (.int 0)).set 7 (.int 0)).set 8 (.int 0)).set 3 (.int 2)).set 4 (.int 0)).set 7 (.int 44)).set 7 (.int 44))))] H := hP
  have hD : va_D A [(h4, .inl (cI, 2001, .inl (upd g0 0 0))), (h5, .inl (cI, 2001, .inl (upd g1 0 0))), (h2, .inr (3, ((((f1.set 6 (.ref h1)).set 7 (.int 0)).set 8 (.int 0)).set 5 (.int 0)))), (h6, .inr (2, f2)), (h0, .inr (8, (((((((((((f0.set 3 (.int 0)).set 4 (.int 0)).set 5 (.int 0)).set 6 (.int (-1))).set 6 (.int 0)).set 7 (.int 0)).set 8 (.int 0)).set 3 (.int 2)).set 4 (.int 0)).set 7 (.int 44)).set 7 (.int 44))))] := hD
  refine lv_aload_n hx hb dX8_readName_85 rfl (lv_at hl 1 rfl) ?_
  refine k_get (D := D) (ci := 8) (v := .int 2) (N := 15) hx hb hts hin8 hown hK hP 4 rfl rfl (by decide) f9_8_3 (hts (.fieldLink RX8 62 "IntegerHouse$Reader" "faultKind" "I") (o9_X8_readName _ (List.mem_of_getElem? (i := 22) rfl))) (k_ne (by decide) (k_ne (by decide) (k_ne (by decide) (k_set (k_ne (by decide) (k_ne (by decide) (k_ne (by decide) (k_ne (by decide) (k_ne (by decide) (k_ne (by decide) (k_set e7))))))))))) dX8_readName_86 ?_
  refine lv_if_ne (tgt := 96) hx hb dX8_readName_89 (by decide) (fun _ => ?_) (fun c9 => absurd c9 (by decide))
  refine lv_iconst (v := (-1)) hx hb dX8_readName_96 (by decide) ?_
  have hP := hP.sub (ws' := [(h0, .inr (8, (((((((((((f0.set 3 (.int 0)).set 4 (.int 0)).set 5 (.int 0)).set 6 (.int (-1))).set 6 (.int 0)).set 7 (.int 0)).set 8 (.int 0)).set 3 (.int 2)).set 4 (.int 0)).set 7 (.int 44)).set 7 (.int 44)))), (h2, .inr (3, ((((f1.set 6 (.ref h1)).set 7 (.int 0)).set 8 (.int 0)).set 5 (.int 0)))), (h4, .inl (cI, 2001, .inl (upd g0 0 0))), (h5, .inl (cI, 2001, .inl (upd g1 0 0))), (h6, .inr (2, f2))]) [4, 2, 0, 1, 3] rfl
  have hD := hD.sub (ws' := [(h0, .inr (8, (((((((((((f0.set 3 (.int 0)).set 4 (.int 0)).set 5 (.int 0)).set 6 (.int (-1))).set 6 (.int 0)).set 7 (.int 0)).set 8 (.int 0)).set 3 (.int 2)).set 4 (.int 0)).set 7 (.int 44)).set 7 (.int 44)))), (h2, .inr (3, ((((f1.set 6 (.ref h1)).set 7 (.int 0)).set 8 (.int 0)).set 5 (.int 0)))), (h4, .inl (cI, 2001, .inl (upd g0 0 0))), (h5, .inl (cI, 2001, .inl (upd g1 0 0))), (h6, .inr (2, f2))]) [4, 2, 0, 1, 3] (by decide +kernel) rfl
  exact W.iret (v := (-1)) hx hb hr (fun t ht hW => ⟨⟨(-1), (), rfl, rfl, kB_mk ht hW hP hK hD⟩, hS.F ht⟩) hS.2.2 dX8_readName_97
set_option maxHeartbeats 400000000 in
set_option maxRecDepth 100000 in
theorem c_X11_faulted_0 (l : Launch) (E : kE) (D : va_G) (cI cJ cB cZ : ClassId) (h0 : Nat) (f0 : List Value) (h1 : Nat) (f1 : List Value) (e0 : f0[5]? = some (.ref h1)) (e1 : f1[3]? = some (.int 2)) (e2 : f0[13]? = some (.int 0)) (e3 : f1[4]? = some (.int 0)) : kI l E D (kT cI cJ cB cZ) yX11_faulted vW_X11_faulted ({ frames := 0, cells := 0, slots := 0, locals := 0 }) [.ref h0] [(h0, .inr (11, f0)), (h1, .inr (8, f1))] ((-1000)) [(h0, .inr (11, (f0.set 13 (.int 2)))), (h1, .inr (8, f1))] 0 0 := by
  intro sz
  refine Met.ofW (cc := cX11_faulted) (maxL := 1) (ret := (some .int)) (by decide) rfl ?_
  intro p e s m args below meth c s₁ B hml hv
  obtain ⟨rfl, hsz, hP, hK, hD0, hN, hX⟩ := hv
  have hx := B.exec
  have hb := B.bytes
  have hr := B.returns
  have hts := atoms_spec (ws := vW_X11_faulted) B.pre
  have hown : s.vm.findClass RX11 = some m.cls := findClass_of_methodNamed B.named
  have hlocks := B.notSynchronized
  have hin11 : ∀ w ∈ wsX110, w ∈ vW_X11_faulted := u9_X11_faulted_wsX110
  have hin8 : ∀ w ∈ wsX80, w ∈ vW_X11_faulted := u9_X11_faulted_wsX80
  subst hsz
  have hD := hD0.self (sz := s.heap.size)
  have hAE := k_AE hD0 hX
  generalize hAe : va_A [(h0, .inr (11, f0)), (h1, .inr (8, f1))] s.heap.size = A at hD hAE ⊢
  have hA : ∀ q : Nat, s.heap.size ≤ q → A q := fun q h => by rw [← hAe]; exact Or.inr h
  have hS : va_S A s.heap s.heap [] := va_S.rf
  have hP : va_P D vwCl [(h0, .inr (11, f0)), (h1, .inr (8, f1))] s.heap := hP
  have hl := lv_entry ([.ref h0] : List Value) (n := 1) (Nat.le_of_ble_eq_true rfl)
  rw [lg_entry_eq]
  generalize (lg_sl ([.ref h0]) ++ List.replicate (1 - (lg_sl ([.ref h0])).length) Slot.unset).toArray = ls at hl ⊢
  have hl : lv_has ls 1 [(0, .ref h0)] := hl
  refine lv_aload_n hx hb dX11_faulted_0 rfl (lv_at hl 0 rfl) ?_
  refine lv_aload_n hx hb dX11_faulted_1 rfl (lv_at hl 0 rfl) ?_
  refine k_get (D := D) (ci := 11) (v := .ref h1) (N := 15) hx hb hts hin11 hown hK hP 0 rfl rfl (by decide) f9_11_5 (hts (.fieldLink RX11 48 "IntegerHouse" "reader" "LIntegerHouse$Reader;") (o9_X11_faulted _ (List.mem_of_getElem? (i := 0) rfl))) e0 dX11_faulted_2 ?_
  refine k_getN (host := "IntegerHouse") (D := D) (ci := 8) (v := .int 2) (N := 15) hx hb hts hin8 hown hK hP 1 rfl rfl (by decide) f9_8_3 (va_Nw.use rfl (hN.1 ("IntegerHouse", 250, "IntegerHouse$Reader", "faultKind", "I", "IntegerHouse") (List.mem_of_getElem? (i := 27) rfl))) e1 dX11_faulted_5 ?_
  refine k_put (D := D) (ci := 11) (v := .int 2) (ty := .int) (N := 15) hx hb hts hin11 tyX11 tyX11_ok nmX11 hown hK hP hD hS 0 rfl rfl (by decide) f9_11_13 (hts (.fieldLink RX11 253 "IntegerHouse" "latestFault" "I") (o9_X11_faulted _ (List.mem_of_getElem? (i := 1) rfl))) rfl pd_2 rfl rfl (k_len e2) dX11_faulted_8 (fun H locs hP hD hS => ?_)
  have hP : va_P D vwCl [(h0, .inr (11, (f0.set 13 (.int 2)))), (h1, .inr (8, f1))] H := hP
  have hD : va_D A [(h0, .inr (11, (f0.set 13 (.int 2)))), (h1, .inr (8, f1))] := hD
  refine lv_sipush (v := (-1000)) hx hb dX11_faulted_11 (by decide) ?_
  refine lv_aload_n hx hb dX11_faulted_14 rfl (lv_at hl 0 rfl) ?_
  refine k_get (D := D) (ci := 11) (v := .ref h1) (N := 15) hx hb hts hin11 hown hK hP 0 rfl rfl (by decide) f9_11_5 (hts (.fieldLink RX11 48 "IntegerHouse" "reader" "LIntegerHouse$Reader;") (o9_X11_faulted _ (List.mem_of_getElem? (i := 0) rfl))) (k_ne (by decide) e0) dX11_faulted_15 ?_
  refine k_getN (host := "IntegerHouse") (D := D) (ci := 8) (v := .int 0) (N := 15) hx hb hts hin8 hown hK hP 1 rfl rfl (by decide) f9_8_4 (va_Nw.use rfl (hN.1 ("IntegerHouse", 256, "IntegerHouse$Reader", "faultPlace", "I", "IntegerHouse") (List.mem_of_getElem? (i := 28) rfl))) e3 dX11_faulted_18 ?_
  refine lv_isub hx hb dX11_faulted_21 ?_
  refine k_topi (y := (-1000)) (by decide) ?_
  exact W.iret (v := (-1000)) hx hb hr (fun t ht hW => ⟨⟨(-1000), (), rfl, rfl, kB_mk ht hW hP hK hD⟩, hS.F ht⟩) hS.2.2 dX11_faulted_22
set_option maxHeartbeats 400000000 in
set_option maxRecDepth 100000 in
theorem c_X11_find_0 (l : Launch) (E : kE) (D : va_G) (cI cJ cB cZ : ClassId) (h0 : Nat) (f0 : List Value) (h1 : Nat) (f1 : List Value) (h2 : Nat) (h3 : Nat) (f2 : List Value) (h4 : Nat) (f3 : List Value) (h5 : Nat) (h6 : Nat) (h7 : Nat) (h8 : Nat) (f4 : List Value) (g0 : Nat → Int32) (g1 : Nat → Int32) (e0 : f0[1]? = some (.ref h1)) (e1 : f1[8]? = some (.int 0)) (e2 : f0[5]? = some (.ref h2)) (e3 : f0[0]? = some (.ref h3)) (e4 : f0[12]? = some (.int 0)) (e5 : f2[0]? = some (.ref h4)) (e6 : f3[6]? = some (.ref h5)) (e7 : f3[7]? = some (.int 0)) (e8 : f3[8]? = some (.int 0)) (e9 : f3[5]? = some (.int 0)) (e10 : f3[1]? = some (.ref h6)) (e11 : f3[2]? = some (.ref h7)) (e12 : f2[3]? = some (.int 0)) (e13 : f2[4]? = some (.int 0)) (e14 : f2[5]? = some (.int 0)) (e15 : f2[6]? = some (.int 0)) (e16 : f2[7]? = some (.int 0)) (e17 : f2[8]? = some (.int 0)) (e18 : f2[1]? = some (.ref h8)) (e19 : f4[11]? = some (.int 0)) (e20 : f0[13]? = some (.int 0)) : kI l E D (kT cI cJ cB cZ) yX11_find vW_X11_find ({ frames := 4, cells := 0, slots := 0, locals := 96 }) [.ref h0] [(h0, .inr (11, f0)), (h1, .inr (1, f1)), (h2, .inr (8, f2)), (h4, .inr (3, f3)), (h8, .inr (2, f4)), (h6, .inl (cI, 2001, .inl g0)), (h7, .inl (cI, 2001, .inl g1))] ((-1000)) [(h0, .inr (11, ((f0.set 12 (.int 0)).set 13 (.int 2)))), (h1, .inr (1, f1)), (h2, .inr (8, (((((((((((f2.set 3 (.int 0)).set 4 (.int 0)).set 5 (.int 0)).set 6 (.int (-1))).set 6 (.int 0)).set 7 (.int 0)).set 8 (.int 0)).set 3 (.int 2)).set 4 (.int 0)).set 7 (.int 44)).set 7 (.int 44)))), (h4, .inr (3, ((((f3.set 6 (.ref h3)).set 7 (.int 0)).set 8 (.int 0)).set 5 (.int 0)))), (h8, .inr (2, f4)), (h6, .inl (cI, 2001, .inl (upd g0 0 0))), (h7, .inl (cI, 2001, .inl (upd g1 0 0)))] 0 0 := by
  intro sz
  refine Met.ofW (cc := cX11_find) (maxL := 2) (ret := (some .int)) (by decide) rfl ?_
  intro p e s m args below meth c s₁ B hml hv
  obtain ⟨rfl, hsz, hP, hK, hD0, hN, hX⟩ := hv
  have hx := B.exec
  have hb := B.bytes
  have hr := B.returns
  have hts := atoms_spec (ws := vW_X11_find) B.pre
  have hown : s.vm.findClass RX11 = some m.cls := findClass_of_methodNamed B.named
  have hlocks := B.notSynchronized
  have hin11 : ∀ w ∈ wsX110, w ∈ vW_X11_find := u9_X11_find_wsX110
  have hin1 : ∀ w ∈ wsX10, w ∈ vW_X11_find := u9_X11_find_wsX10
  subst hsz
  have hD := hD0.self (sz := s.heap.size)
  have hAE := k_AE hD0 hX
  generalize hAe : va_A [(h0, .inr (11, f0)), (h1, .inr (1, f1)), (h2, .inr (8, f2)), (h4, .inr (3, f3)), (h8, .inr (2, f4)), (h6, .inl (cI, 2001, .inl g0)), (h7, .inl (cI, 2001, .inl g1))] s.heap.size = A at hD hAE ⊢
  have hA : ∀ q : Nat, s.heap.size ≤ q → A q := fun q h => by rw [← hAe]; exact Or.inr h
  have hS : va_S A s.heap s.heap [] := va_S.rf
  have hP : va_P D vwCl [(h0, .inr (11, f0)), (h1, .inr (1, f1)), (h2, .inr (8, f2)), (h4, .inr (3, f3)), (h8, .inr (2, f4)), (h6, .inl (cI, 2001, .inl g0)), (h7, .inl (cI, 2001, .inl g1))] s.heap := hP
  have hl := lv_entry ([.ref h0] : List Value) (n := 2) (Nat.le_of_ble_eq_true rfl)
  rw [lg_entry_eq]
  generalize (lg_sl ([.ref h0]) ++ List.replicate (2 - (lg_sl ([.ref h0])).length) Slot.unset).toArray = ls at hl ⊢
  have hl : lv_has ls 2 [(0, .ref h0)] := hl
  refine lv_aload_n hx hb dX11_find_0 rfl (lv_at hl 0 rfl) ?_
  refine k_get (D := D) (ci := 11) (v := .ref h1) (N := 15) hx hb hts hin11 hown hK hP 0 rfl rfl (by decide) f9_11_1 (hts (.fieldLink RX11 16 "IntegerHouse" "disk" "LIntegerHouse$Disk;") (o9_X11_find _ (List.mem_of_getElem? (i := 0) rfl))) e0 dX11_find_1 ?_
  refine k_getN (host := "IntegerHouse") (D := D) (ci := 1) (v := .int 0) (N := 9) hx hb hts hin1 hown hK hP 1 rfl rfl (by decide) f9_1_8 (va_Nw.use rfl (hN.1 ("IntegerHouse", 122, "IntegerHouse$Disk", "down", "Z", "IntegerHouse") (List.mem_of_getElem? (i := 3) rfl))) e1 dX11_find_4 ?_
  refine lv_if_eq (tgt := 13) hx hb dX11_find_7 (by decide) (fun _ => ?_) (fun c9 => absurd (by decide) c9)
  refine lv_aload_n hx hb dX11_find_13 rfl (lv_at hl 0 rfl) ?_
  refine k_get (D := D) (ci := 11) (v := .ref h2) (N := 15) hx hb hts hin11 hown hK hP 0 rfl rfl (by decide) f9_11_5 (hts (.fieldLink RX11 48 "IntegerHouse" "reader" "LIntegerHouse$Reader;") (o9_X11_find _ (List.mem_of_getElem? (i := 1) rfl))) e2 dX11_find_14 ?_
  refine lv_aload_n hx hb dX11_find_17 rfl (lv_at hl 0 rfl) ?_
  refine k_get (D := D) (ci := 11) (v := .ref h3) (N := 15) hx hb hts hin11 hown hK hP 0 rfl rfl (by decide) f9_11_0 (hts (.fieldLink RX11 9 "IntegerHouse" "tape" "[B") (o9_X11_find _ (List.mem_of_getElem? (i := 2) rfl))) e3 dX11_find_18 ?_
  refine lv_aload_n hx hb dX11_find_21 rfl (lv_at hl 0 rfl) ?_
  refine k_cVi (As := []) (rest := [.ref h3, .ref h2]) (wc := [(h0, .inr (11, f0))]) (wr := [(h1, .inr (1, f1)), (h2, .inr (8, f2)), (h4, .inr (3, f3)), (h8, .inr (2, f4)), (h6, .inl (cI, 2001, .inl g0)), (h7, .inl (cI, 2001, .inl g1))]) (w1 := [(h0, .inr (11, (f0.set 12 (.int 0))))]) ⟨hx, hb, hml, hown, hts⟩ hN hX hAE hK hP hD hS hA [0] [1, 2, 3, 4, 5, 6] (ci := 11) rfl rfl rfl rfl (by decide +kernel) (by decide +kernel) (by decide +kernel) (c_X11_useTape_0 l E D cI cJ cB cZ h0 f0 e4) (cwV 0 hts g9_X11_find_X11_useTape_230 rfl rfl rfl (by decide +kernel) ⟨Nat.le_of_ble_eq_true rfl, Nat.le_of_ble_eq_true rfl⟩) rfl hl.1 (Nat.le_of_ble_eq_true rfl) dX11_find_22 ⟨Nat.le_of_ble_eq_true rfl, Nat.le_of_ble_eq_true rfl⟩ (fun H locs hP hD hS => ?_)
  have hP : va_P D vwCl [(h1, .inr (1, f1)), (h2, .inr (8, f2)), (h4, .inr (3, f3)), (h8, .inr (2, f4)), (h6, .inl (cI, 2001, .inl g0)), (h7, .inl (cI, 2001, .inl g1)), (h0, .inr (11, (f0.set 12 (.int 0))))] H := hP
  have hD : va_D A [(h1, .inr (1, f1)), (h2, .inr (8, f2)), (h4, .inr (3, f3)), (h8, .inr (2, f4)), (h6, .inl (cI, 2001, .inl g0)), (h7, .inl (cI, 2001, .inl g1)), (h0, .inr (11, (f0.set 12 (.int 0))))] := hD
  refine k_cVi (As := [.ref h3, .int 0]) (rest := []) (wc := [(h2, .inr (8, f2)), (h4, .inr (3, f3)), (h6, .inl (cI, 2001, .inl g0)), (h7, .inl (cI, 2001, .inl g1)), (h8, .inr (2, f4))]) (wr := [(h1, .inr (1, f1)), (h0, .inr (11, (f0.set 12 (.int 0))))]) (w1 := [(h2, .inr (8, (((((((((((f2.set 3 (.int 0)).set 4 (.int 0)).set 5 (.int 0)).set 6 (.int (-1))).set 6 (.int 0)).set 7 (.int 0)).set 8 (.int 0)).set 3 (.int 2)).set 4 (.int 0)).set 7 (.int 44)).set 7 (.int 44)))), (h4, .inr (3, ((((f3.set 6 (.ref h3)).set 7 (.int 0)).set 8 (.int 0)).set 5 (.int 0)))), (h6, .inl (cI, 2001, .inl (upd g0 0 0))), (h7, .inl (cI, 2001, .inl (upd g1 0 0))), (h8, .inr (2, f4))]) ⟨hx, hb, hml, hown, hts⟩ hN hX hAE hK hP hD hS hA [1, 2, 4, 5, 3] [0, 6] (ci := 8) rfl rfl rfl rfl (by decide +kernel) (by decide +kernel) (by decide +kernel) (c_X8_readName_0 l E D cI cJ cB cZ h2 h3 f2 h4 f3 h5 h6 h7 g0 g1 h8 f4 e5 e6 e7 e8 e9 e10 e11 e12 e13 e14 e15 e16 e17 e18 e19) (cwV 2 hts g9_X11_find_X8_readName_266 rfl rfl rfl (by decide +kernel) ⟨Nat.le_of_ble_eq_true rfl, Nat.le_of_ble_eq_true rfl⟩) rfl hl.1 (Nat.le_of_ble_eq_true rfl) dX11_find_25 ⟨Nat.le_of_ble_eq_true rfl, Nat.le_of_ble_eq_true rfl⟩ (fun H locs hP hD hS => ?_)
  have hP : va_P D vwCl [(h1, .inr (1, f1)), (h0, .inr (11, (f0.set 12 (.int 0)))), (h2, .inr (8, (((((((((((f2.set 3 (.int 0)).set 4 (.int 0)).set 5 (.int 0)).set 6 (.int (-1))).set 6 (.int 0)).set 7 (.int 0)).set 8 (.int 0)).set 3 (.int 2)).set 4 (.int 0)).set 7 (.int 44)).set 7 (.int 44)))), (h4, .inr (3, ((((f3.set 6 (.ref h3)).set 7 (.int 0)).set 8 (.int 0)).set 5 (.int 0)))), (h6, .inl (cI, 2001, .inl (upd g0 0 0))), (h7, .inl (cI, 2001, .inl (upd g1 0 0))), (h8, .inr (2, f4))] H := hP
  have hD : va_D A [(h1, .inr (1, f1)), (h0, .inr (11, (f0.set 12 (.int 0)))), (h2, .inr (8, (((((((((((f2.set 3 (.int 0)).set 4 (.int 0)).set 5 (.int 0)).set 6 (.int (-1))).set 6 (.int 0)).set 7 (.int 0)).set 8 (.int 0)).set 3 (.int 2)).set 4 (.int 0)).set 7 (.int 44)).set 7 (.int 44)))), (h4, .inr (3, ((((f3.set 6 (.ref h3)).set 7 (.int 0)).set 8 (.int 0)).set 5 (.int 0)))), (h6, .inl (cI, 2001, .inl (upd g0 0 0))), (h7, .inl (cI, 2001, .inl (upd g1 0 0))), (h8, .inr (2, f4))] := hD
  refine lv_istore_n (lv' := [(1, .int (-1)), (0, .ref h0)]) hx hb dX11_find_28 rfl hl (by decide) rfl (fun ls hl => ?_)
  refine lv_iload_n hx hb dX11_find_29 rfl (lv_at hl 0 rfl) ?_
  refine lv_iconst (v := (-1)) hx hb dX11_find_30 (by decide) ?_
  refine lv_icmp_ne (tgt := 41) hx hb dX11_find_31 (by decide) (fun c9 => absurd (by decide) c9) (fun _ => ?_)
  refine lv_aload_n hx hb dX11_find_34 rfl (lv_at hl 1 rfl) ?_
  refine k_cVi (As := []) (rest := []) (wc := [(h0, .inr (11, (f0.set 12 (.int 0)))), (h2, .inr (8, (((((((((((f2.set 3 (.int 0)).set 4 (.int 0)).set 5 (.int 0)).set 6 (.int (-1))).set 6 (.int 0)).set 7 (.int 0)).set 8 (.int 0)).set 3 (.int 2)).set 4 (.int 0)).set 7 (.int 44)).set 7 (.int 44))))]) (wr := [(h1, .inr (1, f1)), (h4, .inr (3, ((((f3.set 6 (.ref h3)).set 7 (.int 0)).set 8 (.int 0)).set 5 (.int 0)))), (h6, .inl (cI, 2001, .inl (upd g0 0 0))), (h7, .inl (cI, 2001, .inl (upd g1 0 0))), (h8, .inr (2, f4))]) (w1 := [(h0, .inr (11, ((f0.set 12 (.int 0)).set 13 (.int 2)))), (h2, .inr (8, (((((((((((f2.set 3 (.int 0)).set 4 (.int 0)).set 5 (.int 0)).set 6 (.int (-1))).set 6 (.int 0)).set 7 (.int 0)).set 8 (.int 0)).set 3 (.int 2)).set 4 (.int 0)).set 7 (.int 44)).set 7 (.int 44))))]) ⟨hx, hb, hml, hown, hts⟩ hN hX hAE hK hP hD hS hA [1, 2] [0, 3, 4, 5, 6] (ci := 11) rfl rfl rfl rfl (by decide +kernel) (by decide +kernel) (by decide +kernel) (c_X11_faulted_0 l E D cI cJ cB cZ h0 ((f0.set 12 (.int 0))) h2 ((((((((((((f2.set 3 (.int 0)).set 4 (.int 0)).set 5 (.int 0)).set 6 (.int (-1))).set 6 (.int 0)).set 7 (.int 0)).set 8 (.int 0)).set 3 (.int 2)).set 4 (.int 0)).set 7 (.int 44)).set 7 (.int 44))) (k_ne (by decide) e2) (k_ne (by decide) (k_ne (by decide) (k_ne (by decide) (k_set (k_ne (by decide) (k_ne (by decide) (k_ne (by decide) (k_ne (by decide) (k_ne (by decide) (k_ne (by decide) (k_set e12))))))))))) (k_ne (by decide) e20) (k_ne (by decide) (k_ne (by decide) (k_set (k_ne (by decide) (k_ne (by decide) (k_ne (by decide) (k_ne (by decide) (k_ne (by decide) (k_ne (by decide) (k_set (k_ne (by decide) e13)))))))))))) (cwV 0 hts g9_X11_find_X11_faulted_236 rfl rfl rfl (by decide +kernel) ⟨Nat.le_of_ble_eq_true rfl, Nat.le_of_ble_eq_true rfl⟩) rfl hl.1 (Nat.le_of_ble_eq_true rfl) dX11_find_35 ⟨Nat.le_of_ble_eq_true rfl, Nat.le_of_ble_eq_true rfl⟩ (fun H locs hP hD hS => ?_)
  have hP : va_P D vwCl [(h1, .inr (1, f1)), (h4, .inr (3, ((((f3.set 6 (.ref h3)).set 7 (.int 0)).set 8 (.int 0)).set 5 (.int 0)))), (h6, .inl (cI, 2001, .inl (upd g0 0 0))), (h7, .inl (cI, 2001, .inl (upd g1 0 0))), (h8, .inr (2, f4)), (h0, .inr (11, ((f0.set 12 (.int 0)).set 13 (.int 2)))), (h2, .inr (8, (((((((((((f2.set 3 (.int 0)).set 4 (.int 0)).set 5 (.int 0)).set 6 (.int (-1))).set 6 (.int 0)).set 7 (.int 0)).set 8 (.int 0)).set 3 (.int 2)).set 4 (.int 0)).set 7 (.int 44)).set 7 (.int 44))))] H := hP
  have hD : va_D A [(h1, .inr (1, f1)), (h4, .inr (3, ((((f3.set 6 (.ref h3)).set 7 (.int 0)).set 8 (.int 0)).set 5 (.int 0)))), (h6, .inl (cI, 2001, .inl (upd g0 0 0))), (h7, .inl (cI, 2001, .inl (upd g1 0 0))), (h8, .inr (2, f4)), (h0, .inr (11, ((f0.set 12 (.int 0)).set 13 (.int 2)))), (h2, .inr (8, (((((((((((f2.set 3 (.int 0)).set 4 (.int 0)).set 5 (.int 0)).set 6 (.int (-1))).set 6 (.int 0)).set 7 (.int 0)).set 8 (.int 0)).set 3 (.int 2)).set 4 (.int 0)).set 7 (.int 44)).set 7 (.int 44))))] := hD
  refine lv_goto (tgt := 42) hx hb dX11_find_38 (by decide) ?_
  have hP := hP.sub (ws' := [(h0, .inr (11, ((f0.set 12 (.int 0)).set 13 (.int 2)))), (h1, .inr (1, f1)), (h2, .inr (8, (((((((((((f2.set 3 (.int 0)).set 4 (.int 0)).set 5 (.int 0)).set 6 (.int (-1))).set 6 (.int 0)).set 7 (.int 0)).set 8 (.int 0)).set 3 (.int 2)).set 4 (.int 0)).set 7 (.int 44)).set 7 (.int 44)))), (h4, .inr (3, ((((f3.set 6 (.ref h3)).set 7 (.int 0)).set 8 (.int 0)).set 5 (.int 0)))), (h8, .inr (2, f4)), (h6, .inl (cI, 2001, .inl (upd g0 0 0))), (h7, .inl (cI, 2001, .inl (upd g1 0 0)))]) [5, 0, 6, 1, 4, 2, 3] rfl
  have hD := hD.sub (ws' := [(h0, .inr (11, ((f0.set 12 (.int 0)).set 13 (.int 2)))), (h1, .inr (1, f1)), (h2, .inr (8, (((((((((((f2.set 3 (.int 0)).set 4 (.int 0)).set 5 (.int 0)).set 6 (.int (-1))).set 6 (.int 0)).set 7 (.int 0)).set 8 (.int 0)).set 3 (.int 2)).set 4 (.int 0)).set 7 (.int 44)).set 7 (.int 44)))), (h4, .inr (3, ((((f3.set 6 (.ref h3)).set 7 (.int 0)).set 8 (.int 0)).set 5 (.int 0)))), (h8, .inr (2, f4)), (h6, .inl (cI, 2001, .inl (upd g0 0 0))), (h7, .inl (cI, 2001, .inl (upd g1 0 0)))]) [5, 0, 6, 1, 4, 2, 3] (by decide +kernel) rfl
  exact W.iret (v := (-1000)) hx hb hr (fun t ht hW => ⟨⟨(-1000), (), rfl, rfl, kB_mk ht hW hP hK hD⟩, hS.F ht⟩) hS.2.2 dX11_find_42
set_option maxHeartbeats 400000000 in
set_option maxRecDepth 100000 in
theorem c_X12_asks_0 (l : Launch) (E : kE) (D : va_G) (cI cJ cB cZ : ClassId) (h0 : Nat) (f0 : List Value) (e0 : f0[0]? = some (.int 0)) (e1 : f0[5]? = some (.int 0)) : kI l E D (kT cI cJ cB cZ) yX12_asks vW_X12_asks ({ frames := 0, cells := 0, slots := 0, locals := 0 }) [.ref h0] [(h0, .inr (12, f0))] (1) [(h0, .inr (12, (f0.set 0 (.int 0))))] 0 0 := by
  intro sz
  refine Met.ofW (cc := cX12_asks) (maxL := 1) (ret := (some .boolean)) (by decide) rfl ?_
  intro p e s m args below meth c s₁ B hml hv
  obtain ⟨rfl, hsz, hP, hK, hD0, hN, hX⟩ := hv
  have hx := B.exec
  have hb := B.bytes
  have hr := B.returns
  have hts := atoms_spec (ws := vW_X12_asks) B.pre
  have hown : s.vm.findClass RX12 = some m.cls := findClass_of_methodNamed B.named
  have hlocks := B.notSynchronized
  have hin12 : ∀ w ∈ wsX120, w ∈ vW_X12_asks := u9_X12_asks_wsX120
  subst hsz
  have hD := hD0.self (sz := s.heap.size)
  have hAE := k_AE hD0 hX
  generalize hAe : va_A [(h0, .inr (12, f0))] s.heap.size = A at hD hAE ⊢
  have hA : ∀ q : Nat, s.heap.size ≤ q → A q := fun q h => by rw [← hAe]; exact Or.inr h
  have hS : va_S A s.heap s.heap [] := va_S.rf
  have hP : va_P D vwCl [(h0, .inr (12, f0))] s.heap := hP
  have hl := lv_entry ([.ref h0] : List Value) (n := 1) (Nat.le_of_ble_eq_true rfl)
  rw [lg_entry_eq]
  generalize (lg_sl ([.ref h0]) ++ List.replicate (1 - (lg_sl ([.ref h0])).length) Slot.unset).toArray = ls at hl ⊢
  have hl : lv_has ls 1 [(0, .ref h0)] := hl
  refine lv_aload_n hx hb dX12_asks_0 rfl (lv_at hl 0 rfl) ?_
  refine lv_iconst (v := 0) hx hb dX12_asks_1 (by decide) ?_
  refine k_put (D := D) (ci := 12) (v := .int 0) (ty := .int) (N := 195) hx hb hts hin12 tyX12 tyX12_ok nmX12 hown hK hP hD hS 0 rfl rfl (by decide) f9_12_0 (hts (.fieldLink RX12 3 "IntegerHouseModel" "thrown" "I") (o9_X12_asks _ (List.mem_of_getElem? (i := 0) rfl))) rfl pd_2 rfl rfl (k_len e0) dX12_asks_2 (fun H locs hP hD hS => ?_)
  have hP : va_P D vwCl [(h0, .inr (12, (f0.set 0 (.int 0))))] H := hP
  have hD : va_D A [(h0, .inr (12, (f0.set 0 (.int 0))))] := hD
  refine lv_aload_n hx hb dX12_asks_5 rfl (lv_at hl 0 rfl) ?_
  refine k_get (D := D) (ci := 12) (v := .int 0) (N := 195) hx hb hts hin12 hown hK hP 0 rfl rfl (by decide) f9_12_5 (hts (.fieldLink RX12 488 "IntegerHouseModel" "down" "Z") (o9_X12_asks _ (List.mem_of_getElem? (i := 1) rfl))) (k_ne (by decide) e1) dX12_asks_6 ?_
  refine lv_if_ne (tgt := 16) hx hb dX12_asks_9 (by decide) (fun c9 => absurd (by decide) c9) (fun _ => ?_)
  refine lv_iconst (v := 1) hx hb dX12_asks_12 (by decide) ?_
  refine lv_goto (tgt := 17) hx hb dX12_asks_13 (by decide) ?_
  exact W.zret (v := 1) hx hb hr rfl (fun t ht hW => ⟨⟨1, (), rfl, rfl, kB_mk ht hW hP hK hD⟩, hS.F ht⟩) hS.2.2 dX12_asks_17
set_option maxHeartbeats 400000000 in
set_option maxRecDepth 100000 in
theorem c_X12_begin_0 (l : Launch) (E : kE) (D : va_G) (cI cJ cB cZ : ClassId) (h0 : Nat) (f0 : List Value) (h1 : Nat) (h2 : Nat) (h3 : Nat) (h4 : Nat) (g0 : Nat → Int32) (g1 : Nat → Int32) (g2 : Nat → Int32) (g3 : Nat → Int32) (e0 : f0[2]? = some (.int 0)) (e1 : f0[12]? = some (.int 0)) (e2 : f0[32]? = some (.int 0)) (e3 : f0[36]? = some (.int 0)) (e4 : f0[33]? = some (.int 0)) (e5 : f0[37]? = some (.int 0)) (e6 : f0[27]? = some (.int 0)) (e7 : f0[31]? = some (.int 0)) (e8 : f0[28]? = some (.int 0)) (e9 : f0[23]? = some (.ref h1)) (e10 : f0[24]? = some (.ref h2)) (e11 : f0[25]? = some (.ref h3)) (e12 : f0[26]? = some (.ref h4)) : kV l E D (kT cI cJ cB cZ) yX12_begin vW_X12_begin ({ frames := 2, cells := 0, slots := 0, locals := 48 }) [.ref h0] [(h0, .inr (12, f0)), (h1, .inl (cI, 2001, .inl g0)), (h2, .inl (cI, 2001, .inl g1)), (h3, .inl (cI, 2001, .inl g2)), (h4, .inl (cI, 2001, .inl g3))] (fun _ : Unit => [(h0, .inr (12, (((((((f0.set 12 (.int 0)).set 2 (.int 0)).set 36 (.int 0)).set 37 (.int 0)).set 27 (.int 0)).set 31 (.int 0)).set 28 (.int 0)))), (h1, .inl (cI, 2001, .inl (upd g0 0 0))), (h2, .inl (cI, 2001, .inl (upd g1 0 0))), (h3, .inl (cI, 2001, .inl (upd g2 0 0))), (h4, .inl (cI, 2001, .inl (upd g3 0 0)))]) 0 0 := by
  intro sz
  refine Met.ofW (cc := cX12_begin) (maxL := 1) (ret := none) (by decide) rfl ?_
  intro p e s m args below meth c s₁ B hml hv
  obtain ⟨rfl, hsz, hP, hK, hD0, hN, hX⟩ := hv
  have hx := B.exec
  have hb := B.bytes
  have hr := B.returns
  have hts := atoms_spec (ws := vW_X12_begin) B.pre
  have hown : s.vm.findClass RX12 = some m.cls := findClass_of_methodNamed B.named
  have hlocks := B.notSynchronized
  have hin12 : ∀ w ∈ wsX120, w ∈ vW_X12_begin := u9_X12_begin_wsX120
  subst hsz
  have hD := hD0.self (sz := s.heap.size)
  have hAE := k_AE hD0 hX
  generalize hAe : va_A [(h0, .inr (12, f0)), (h1, .inl (cI, 2001, .inl g0)), (h2, .inl (cI, 2001, .inl g1)), (h3, .inl (cI, 2001, .inl g2)), (h4, .inl (cI, 2001, .inl g3))] s.heap.size = A at hD hAE ⊢
  have hA : ∀ q : Nat, s.heap.size ≤ q → A q := fun q h => by rw [← hAe]; exact Or.inr h
  have hS : va_S A s.heap s.heap [] := va_S.rf
  have hP : va_P D vwCl [(h0, .inr (12, f0)), (h1, .inl (cI, 2001, .inl g0)), (h2, .inl (cI, 2001, .inl g1)), (h3, .inl (cI, 2001, .inl g2)), (h4, .inl (cI, 2001, .inl g3))] s.heap := hP
  have hl := lv_entry ([.ref h0] : List Value) (n := 1) (Nat.le_of_ble_eq_true rfl)
  rw [lg_entry_eq]
  generalize (lg_sl ([.ref h0]) ++ List.replicate (1 - (lg_sl ([.ref h0])).length) Slot.unset).toArray = ls at hl ⊢
  have hl : lv_has ls 1 [(0, .ref h0)] := hl
  refine lv_aload_n hx hb dX12_begin_0 rfl (lv_at hl 0 rfl) ?_
  refine k_cVv (As := []) (rest := []) (wc := [(h0, .inr (12, f0))]) (wr := [(h1, .inl (cI, 2001, .inl g0)), (h2, .inl (cI, 2001, .inl g1)), (h3, .inl (cI, 2001, .inl g2)), (h4, .inl (cI, 2001, .inl g3))]) (w1 := (fun _ : Unit => [(h0, .inr (12, ((f0.set 12 (.int 0)).set 2 (.int 0))))])) ⟨hx, hb, hml, hown, hts⟩ hN hX hAE hK hP hD hS hA [0] [1, 2, 3, 4] (ci := 12) rfl rfl rfl rfl (by decide +kernel) (by decide +kernel) (by decide +kernel) (c_X12_takeTape_0 l E D cI cJ cB cZ h0 f0 e0 e1) (cwV 0 hts g9_X12_begin_X12_takeTape_491 rfl rfl rfl (by decide +kernel) ⟨Nat.le_of_ble_eq_true rfl, Nat.le_of_ble_eq_true rfl⟩) rfl hl.1 (Nat.le_of_ble_eq_true rfl) dX12_begin_1 ⟨Nat.le_of_ble_eq_true rfl, Nat.le_of_ble_eq_true rfl⟩ (fun _ H locs hP hD hS => ?_)
  have hP : va_P D vwCl [(h1, .inl (cI, 2001, .inl g0)), (h2, .inl (cI, 2001, .inl g1)), (h3, .inl (cI, 2001, .inl g2)), (h4, .inl (cI, 2001, .inl g3)), (h0, .inr (12, ((f0.set 12 (.int 0)).set 2 (.int 0))))] H := hP
  have hD : va_D A [(h1, .inl (cI, 2001, .inl g0)), (h2, .inl (cI, 2001, .inl g1)), (h3, .inl (cI, 2001, .inl g2)), (h4, .inl (cI, 2001, .inl g3)), (h0, .inr (12, ((f0.set 12 (.int 0)).set 2 (.int 0))))] := hD
  refine lv_aload_n hx hb dX12_begin_4 rfl (lv_at hl 0 rfl) ?_
  refine lv_aload_n hx hb dX12_begin_5 rfl (lv_at hl 0 rfl) ?_
  refine k_get (D := D) (ci := 12) (v := .int 0) (N := 195) hx hb hts hin12 hown hK hP 4 rfl rfl (by decide) f9_12_32 (hts (.fieldLink RX12 815 "IntegerHouseModel" "variables" "I") (o9_X12_begin _ (List.mem_of_getElem? (i := 4) rfl))) (k_ne (by decide) (k_ne (by decide) e2)) dX12_begin_6 ?_
  refine k_put (D := D) (ci := 12) (v := .int 0) (ty := .int) (N := 195) hx hb hts hin12 tyX12 tyX12_ok nmX12 hown hK hP hD hS 4 rfl rfl (by decide) f9_12_36 (hts (.fieldLink RX12 620 "IntegerHouseModel" "knownVariables" "I") (o9_X12_begin _ (List.mem_of_getElem? (i := 5) rfl))) rfl pd_2 rfl rfl (k_len (k_ne (by decide) (k_ne (by decide) e3))) dX12_begin_9 (fun H locs hP hD hS => ?_)
  have hP : va_P D vwCl [(h1, .inl (cI, 2001, .inl g0)), (h2, .inl (cI, 2001, .inl g1)), (h3, .inl (cI, 2001, .inl g2)), (h4, .inl (cI, 2001, .inl g3)), (h0, .inr (12, (((f0.set 12 (.int 0)).set 2 (.int 0)).set 36 (.int 0))))] H := hP
  have hD : va_D A [(h1, .inl (cI, 2001, .inl g0)), (h2, .inl (cI, 2001, .inl g1)), (h3, .inl (cI, 2001, .inl g2)), (h4, .inl (cI, 2001, .inl g3)), (h0, .inr (12, (((f0.set 12 (.int 0)).set 2 (.int 0)).set 36 (.int 0))))] := hD
  refine lv_aload_n hx hb dX12_begin_12 rfl (lv_at hl 0 rfl) ?_
  refine lv_aload_n hx hb dX12_begin_13 rfl (lv_at hl 0 rfl) ?_
  refine k_get (D := D) (ci := 12) (v := .int 0) (N := 195) hx hb hts hin12 hown hK hP 4 rfl rfl (by decide) f9_12_33 (hts (.fieldLink RX12 818 "IntegerHouseModel" "claims" "I") (o9_X12_begin _ (List.mem_of_getElem? (i := 6) rfl))) (k_ne (by decide) (k_ne (by decide) (k_ne (by decide) e4))) dX12_begin_14 ?_
  refine k_put (D := D) (ci := 12) (v := .int 0) (ty := .int) (N := 195) hx hb hts hin12 tyX12 tyX12_ok nmX12 hown hK hP hD hS 4 rfl rfl (by decide) f9_12_37 (hts (.fieldLink RX12 627 "IntegerHouseModel" "knownClaims" "I") (o9_X12_begin _ (List.mem_of_getElem? (i := 7) rfl))) rfl pd_2 rfl rfl (k_len (k_ne (by decide) (k_ne (by decide) (k_ne (by decide) e5)))) dX12_begin_17 (fun H locs hP hD hS => ?_)
  have hP : va_P D vwCl [(h1, .inl (cI, 2001, .inl g0)), (h2, .inl (cI, 2001, .inl g1)), (h3, .inl (cI, 2001, .inl g2)), (h4, .inl (cI, 2001, .inl g3)), (h0, .inr (12, ((((f0.set 12 (.int 0)).set 2 (.int 0)).set 36 (.int 0)).set 37 (.int 0))))] H := hP
  have hD : va_D A [(h1, .inl (cI, 2001, .inl g0)), (h2, .inl (cI, 2001, .inl g1)), (h3, .inl (cI, 2001, .inl g2)), (h4, .inl (cI, 2001, .inl g3)), (h0, .inr (12, ((((f0.set 12 (.int 0)).set 2 (.int 0)).set 36 (.int 0)).set 37 (.int 0))))] := hD
  refine lv_aload_n hx hb dX12_begin_20 rfl (lv_at hl 0 rfl) ?_
  refine k_cVv (As := []) (rest := []) (wc := [(h0, .inr (12, ((((f0.set 12 (.int 0)).set 2 (.int 0)).set 36 (.int 0)).set 37 (.int 0)))), (h1, .inl (cI, 2001, .inl g0)), (h2, .inl (cI, 2001, .inl g1)), (h3, .inl (cI, 2001, .inl g2)), (h4, .inl (cI, 2001, .inl g3))]) (wr := []) (w1 := (fun _ : Unit => [(h0, .inr (12, (((((((f0.set 12 (.int 0)).set 2 (.int 0)).set 36 (.int 0)).set 37 (.int 0)).set 27 (.int 0)).set 31 (.int 0)).set 28 (.int 0)))), (h1, .inl (cI, 2001, .inl (upd g0 0 0))), (h2, .inl (cI, 2001, .inl (upd g1 0 0))), (h3, .inl (cI, 2001, .inl (upd g2 0 0))), (h4, .inl (cI, 2001, .inl (upd g3 0 0)))])) ⟨hx, hb, hml, hown, hts⟩ hN hX hAE hK hP hD hS hA [4, 0, 1, 2, 3] [] (ci := 12) rfl rfl rfl rfl (by decide +kernel) (by decide +kernel) (by decide +kernel) (c_X12_scan_0 l E D cI cJ cB cZ h0 (((((f0.set 12 (.int 0)).set 2 (.int 0)).set 36 (.int 0)).set 37 (.int 0))) h1 g0 h2 g1 h3 g2 h4 g3 (k_ne (by decide) (k_ne (by decide) (k_ne (by decide) (k_ne (by decide) e6)))) (k_ne (by decide) (k_ne (by decide) (k_ne (by decide) (k_ne (by decide) e7)))) (k_ne (by decide) (k_ne (by decide) (k_ne (by decide) (k_ne (by decide) e8)))) (k_ne (by decide) (k_ne (by decide) (k_ne (by decide) (k_set e1)))) (k_ne (by decide) (k_ne (by decide) (k_ne (by decide) (k_ne (by decide) e9)))) (k_ne (by decide) (k_ne (by decide) (k_ne (by decide) (k_ne (by decide) e10)))) (k_ne (by decide) (k_ne (by decide) (k_ne (by decide) (k_ne (by decide) e11)))) (k_ne (by decide) (k_ne (by decide) (k_ne (by decide) (k_ne (by decide) e12))))) (cwV 0 hts g9_X12_begin_X12_scan_848 rfl rfl rfl (by decide +kernel) ⟨Nat.le_of_ble_eq_true rfl, Nat.le_of_ble_eq_true rfl⟩) rfl hl.1 (Nat.le_of_ble_eq_true rfl) dX12_begin_21 ⟨Nat.le_of_ble_eq_true rfl, Nat.le_of_ble_eq_true rfl⟩ (fun _ H locs hP hD hS => ?_)
  have hP : va_P D vwCl [(h0, .inr (12, (((((((f0.set 12 (.int 0)).set 2 (.int 0)).set 36 (.int 0)).set 37 (.int 0)).set 27 (.int 0)).set 31 (.int 0)).set 28 (.int 0)))), (h1, .inl (cI, 2001, .inl (upd g0 0 0))), (h2, .inl (cI, 2001, .inl (upd g1 0 0))), (h3, .inl (cI, 2001, .inl (upd g2 0 0))), (h4, .inl (cI, 2001, .inl (upd g3 0 0)))] H := hP
  have hD : va_D A [(h0, .inr (12, (((((((f0.set 12 (.int 0)).set 2 (.int 0)).set 36 (.int 0)).set 37 (.int 0)).set 27 (.int 0)).set 31 (.int 0)).set 28 (.int 0)))), (h1, .inl (cI, 2001, .inl (upd g0 0 0))), (h2, .inl (cI, 2001, .inl (upd g1 0 0))), (h3, .inl (cI, 2001, .inl (upd g2 0 0))), (h4, .inl (cI, 2001, .inl (upd g3 0 0)))] := hD
  exact W.vret hx hb hr (fun t ht hW => ⟨⟨(), rfl, trivial, kB_mk ht hW hP hK hD⟩, hS.F ht⟩) hS.2.2 dX12_begin_24
