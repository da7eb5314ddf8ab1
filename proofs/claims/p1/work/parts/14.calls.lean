theorem dX1_isByte_0 : decode cX1_isByte 0 = .ok (.iload_n 0, 1) := by decide +kernel
theorem dX1_isByte_1 : decode cX1_isByte 1 = .ok (.iconst 1, 1) := by decide +kernel
theorem dX1_isByte_2 : decode cX1_isByte 2 = .ok (.if_icmp .lt 24, 3) := by decide +kernel
theorem dX1_isByte_5 : decode cX1_isByte 5 = .ok (.iload_n 0, 1) := by decide +kernel
theorem dX1_isByte_6 : decode cX1_isByte 6 = .ok (.bipush 100, 2) := by decide +kernel
theorem dX1_isByte_8 : decode cX1_isByte 8 = .ok (.if_icmp .gt 18, 3) := by decide +kernel
theorem dX1_isByte_11 : decode cX1_isByte 11 = .ok (.iload_n 1, 1) := by decide +kernel
theorem dX1_isByte_12 : decode cX1_isByte 12 = .ok (.ifCond .lt 14, 3) := by decide +kernel
theorem dX1_isByte_15 : decode cX1_isByte 15 = .ok (.iload_n 1, 1) := by decide +kernel
theorem dX1_isByte_16 : decode cX1_isByte 16 = .ok (.sipush 256, 3) := by decide +kernel
theorem dX1_isByte_19 : decode cX1_isByte 19 = .ok (.if_icmp .ge 7, 3) := by decide +kernel
theorem dX1_isByte_22 : decode cX1_isByte 22 = .ok (.iconst 1, 1) := by decide +kernel
theorem dX1_isByte_23 : decode cX1_isByte 23 = .ok (.goto 4, 3) := by decide +kernel
theorem dX1_isByte_27 : decode cX1_isByte 27 = .ok (.ireturn, 1) := by decide +kernel
theorem dX1_byteOf_0 : decode cX1_byteOf 0 = .ok (.iload_n 1, 1) := by decide +kernel
theorem dX1_byteOf_1 : decode cX1_byteOf 1 = .ok (.iload_n 2, 1) := by decide +kernel
theorem dX1_byteOf_2 : decode cX1_byteOf 2 = .ok (.invokestatic 29, 3) := by decide +kernel
theorem dX1_byteOf_5 : decode cX1_byteOf 5 = .ok (.ifCond .eq 24, 3) := by decide +kernel
theorem dX1_byteOf_8 : decode cX1_byteOf 8 = .ok (.aload_n 0, 1) := by decide +kernel
theorem dX1_byteOf_9 : decode cX1_byteOf 9 = .ok (.getfield 11, 3) := by decide +kernel
theorem dX1_byteOf_12 : decode cX1_byteOf 12 = .ok (.iload_n 1, 1) := by decide +kernel
theorem dX1_byteOf_13 : decode cX1_byteOf 13 = .ok (.iconst 1, 1) := by decide +kernel
theorem dX1_byteOf_14 : decode cX1_byteOf 14 = .ok (.isub, 1) := by decide +kernel
theorem dX1_byteOf_15 : decode cX1_byteOf 15 = .ok (.sipush 256, 3) := by decide +kernel
theorem dX1_byteOf_18 : decode cX1_byteOf 18 = .ok (.imul, 1) := by decide +kernel
theorem dX1_byteOf_19 : decode cX1_byteOf 19 = .ok (.iload_n 2, 1) := by decide +kernel
theorem dX1_byteOf_20 : decode cX1_byteOf 20 = .ok (.iadd, 1) := by decide +kernel
theorem dX1_byteOf_21 : decode cX1_byteOf 21 = .ok (.baload, 1) := by decide +kernel
theorem dX1_byteOf_22 : decode cX1_byteOf 22 = .ok (.sipush 255, 3) := by decide +kernel
theorem dX1_byteOf_25 : decode cX1_byteOf 25 = .ok (.iand, 1) := by decide +kernel
theorem dX1_byteOf_26 : decode cX1_byteOf 26 = .ok (.goto 4, 3) := by decide +kernel
theorem dX1_byteOf_30 : decode cX1_byteOf 30 = .ok (.ireturn, 1) := by decide +kernel
theorem dX1_firstWrong_0 : decode cX1_firstWrong 0 = .ok (.iconst 1, 1) := by decide +kernel
theorem dX1_firstWrong_1 : decode cX1_firstWrong 1 = .ok (.istore_n 1, 1) := by decide +kernel
theorem dX1_firstWrong_2 : decode cX1_firstWrong 2 = .ok (.iload_n 1, 1) := by decide +kernel
theorem dX1_firstWrong_3 : decode cX1_firstWrong 3 = .ok (.aload_n 0, 1) := by decide +kernel
theorem dX1_firstWrong_4 : decode cX1_firstWrong 4 = .ok (.getfield 43, 3) := by decide +kernel
theorem dX1_firstWrong_7 : decode cX1_firstWrong 7 = .ok (.if_icmp .gt 19, 3) := by decide +kernel
theorem dX1_firstWrong_26 : decode cX1_firstWrong 26 = .ok (.iconst (-1), 1) := by decide +kernel
theorem dX1_firstWrong_27 : decode cX1_firstWrong 27 = .ok (.ireturn, 1) := by decide +kernel
theorem dX11_start_0 : decode cX11_start 0 = .ok (.aload_n 0, 1) := by decide +kernel
theorem dX11_start_1 : decode cX11_start 1 = .ok (.getfield 16, 3) := by decide +kernel
theorem dX11_start_4 : decode cX11_start 4 = .ok (.getfield 122, 3) := by decide +kernel
theorem dX11_start_7 : decode cX11_start 7 = .ok (.ifCond .ne 6, 3) := by decide +kernel
theorem dX11_start_10 : decode cX11_start 10 = .ok (.bipush (-103), 2) := by decide +kernel
theorem dX11_start_12 : decode cX11_start 12 = .ok (.ireturn, 1) := by decide +kernel
theorem dX11_verify_0 : decode cX11_verify 0 = .ok (.aload_n 0, 1) := by decide +kernel
theorem dX11_verify_1 : decode cX11_verify 1 = .ok (.getfield 16, 3) := by decide +kernel
theorem dX11_verify_4 : decode cX11_verify 4 = .ok (.getfield 122, 3) := by decide +kernel
theorem dX11_verify_7 : decode cX11_verify 7 = .ok (.ifCond .eq 8, 3) := by decide +kernel
theorem dX11_verify_15 : decode cX11_verify 15 = .ok (.aload_n 0, 1) := by decide +kernel
theorem dX11_verify_16 : decode cX11_verify 16 = .ok (.getfield 16, 3) := by decide +kernel
theorem dX11_verify_19 : decode cX11_verify 19 = .ok (.invokevirtual 191, 3) := by decide +kernel
theorem dX11_verify_22 : decode cX11_verify 22 = .ok (.ireturn, 1) := by decide +kernel
theorem dX11_octet_0 : decode cX11_octet 0 = .ok (.iload_n 1, 1) := by decide +kernel
theorem dX11_octet_1 : decode cX11_octet 1 = .ok (.iload_n 2, 1) := by decide +kernel
theorem dX11_octet_2 : decode cX11_octet 2 = .ok (.invokestatic 194, 3) := by decide +kernel
theorem dX11_octet_5 : decode cX11_octet 5 = .ok (.ifCond .ne 13, 3) := by decide +kernel
theorem dX11_octet_18 : decode cX11_octet 18 = .ok (.aload_n 0, 1) := by decide +kernel
theorem dX11_octet_19 : decode cX11_octet 19 = .ok (.getfield 16, 3) := by decide +kernel
theorem dX11_octet_22 : decode cX11_octet 22 = .ok (.iload_n 1, 1) := by decide +kernel
theorem dX11_octet_23 : decode cX11_octet 23 = .ok (.iload_n 2, 1) := by decide +kernel
theorem dX11_octet_24 : decode cX11_octet 24 = .ok (.invokevirtual 202, 3) := by decide +kernel
theorem dX11_octet_27 : decode cX11_octet 27 = .ok (.ireturn, 1) := by decide +kernel
theorem dX12_at_0 : decode cX12_at 0 = .ok (.aload_n 0, 1) := by decide +kernel
theorem dX12_at_1 : decode cX12_at 1 = .ok (.getfield 19, 3) := by decide +kernel
theorem dX12_at_4 : decode cX12_at 4 = .ok (.sipush 256, 3) := by decide +kernel
theorem dX12_at_7 : decode cX12_at 7 = .ok (.iload_n 1, 1) := by decide +kernel
theorem dX12_at_8 : decode cX12_at 8 = .ok (.imul, 1) := by decide +kernel
theorem dX12_at_9 : decode cX12_at 9 = .ok (.iload_n 2, 1) := by decide +kernel
theorem dX12_at_10 : decode cX12_at 10 = .ok (.iadd, 1) := by decide +kernel
theorem dX12_at_11 : decode cX12_at 11 = .ok (.baload, 1) := by decide +kernel
theorem dX12_at_12 : decode cX12_at 12 = .ok (.sipush 255, 3) := by decide +kernel
theorem dX12_at_15 : decode cX12_at 15 = .ok (.iand, 1) := by decide +kernel
theorem dX12_at_16 : decode cX12_at 16 = .ok (.ireturn, 1) := by decide +kernel
theorem dX12_cut_41 : decode cX12_cut 41 = .ok (.bipush (-102), 2) := by decide +kernel
theorem dX12_cut_43 : decode cX12_cut 43 = .ok (.ireturn, 1) := by decide +kernel
theorem dX12_start_0 : decode cX12_start 0 = .ok (.aload_n 0, 1) := by decide +kernel
theorem dX12_start_1 : decode cX12_start 1 = .ok (.iconst 0, 1) := by decide +kernel
theorem dX12_start_2 : decode cX12_start 2 = .ok (.putfield 3, 3) := by decide +kernel
theorem dX12_start_5 : decode cX12_start 5 = .ok (.aload_n 0, 1) := by decide +kernel
theorem dX12_start_6 : decode cX12_start 6 = .ok (.getfield 488, 3) := by decide +kernel
theorem dX12_start_9 : decode cX12_start 9 = .ok (.ifCond .ne 6, 3) := by decide +kernel
theorem dX12_start_12 : decode cX12_start 12 = .ok (.bipush (-103), 2) := by decide +kernel
theorem dX12_start_14 : decode cX12_start 14 = .ok (.ireturn, 1) := by decide +kernel
theorem dX12_verify_0 : decode cX12_verify 0 = .ok (.aload_n 0, 1) := by decide +kernel
theorem dX12_verify_1 : decode cX12_verify 1 = .ok (.iconst 0, 1) := by decide +kernel
theorem dX12_verify_2 : decode cX12_verify 2 = .ok (.putfield 3, 3) := by decide +kernel
theorem dX12_verify_5 : decode cX12_verify 5 = .ok (.aload_n 0, 1) := by decide +kernel
theorem dX12_verify_6 : decode cX12_verify 6 = .ok (.getfield 488, 3) := by decide +kernel
theorem dX12_verify_9 : decode cX12_verify 9 = .ok (.ifCond .eq 6, 3) := by decide +kernel
theorem dX12_verify_15 : decode cX12_verify 15 = .ok (.iconst 1, 1) := by decide +kernel
theorem dX12_verify_16 : decode cX12_verify 16 = .ok (.istore_n 1, 1) := by decide +kernel
theorem dX12_verify_17 : decode cX12_verify 17 = .ok (.iload_n 1, 1) := by decide +kernel
theorem dX12_verify_18 : decode cX12_verify 18 = .ok (.aload_n 0, 1) := by decide +kernel
theorem dX12_verify_19 : decode cX12_verify 19 = .ok (.getfield 478, 3) := by decide +kernel
theorem dX12_verify_22 : decode cX12_verify 22 = .ok (.if_icmp .gt 17, 3) := by decide +kernel
theorem dX12_verify_39 : decode cX12_verify 39 = .ok (.iload_n 1, 1) := by decide +kernel
theorem dX12_verify_40 : decode cX12_verify 40 = .ok (.aload_n 0, 1) := by decide +kernel
theorem dX12_verify_41 : decode cX12_verify 41 = .ok (.getfield 478, 3) := by decide +kernel
theorem dX12_verify_44 : decode cX12_verify 44 = .ok (.if_icmp .gt 7, 3) := by decide +kernel
theorem dX12_verify_51 : decode cX12_verify 51 = .ok (.iconst (-1), 1) := by decide +kernel
theorem dX12_verify_52 : decode cX12_verify 52 = .ok (.ireturn, 1) := by decide +kernel
theorem dX12_octet_0 : decode cX12_octet 0 = .ok (.aload_n 0, 1) := by decide +kernel
theorem dX12_octet_1 : decode cX12_octet 1 = .ok (.iload_n 1, 1) := by decide +kernel
theorem dX12_octet_2 : decode cX12_octet 2 = .ok (.i2l, 1) := by decide +kernel
theorem dX12_octet_3 : decode cX12_octet 3 = .ok (.lconst 1, 1) := by decide +kernel
theorem dX12_octet_4 : decode cX12_octet 4 = .ok (.ldc2_w 560, 3) := by decide +kernel
theorem dX12_octet_7 : decode cX12_octet 7 = .ok (.invokestatic 504, 3) := by decide +kernel
theorem dX12_octet_10 : decode cX12_octet 10 = .ok (.ifCond .eq 19, 3) := by decide +kernel
theorem dX12_octet_13 : decode cX12_octet 13 = .ok (.iload_n 2, 1) := by decide +kernel
theorem dX12_octet_14 : decode cX12_octet 14 = .ok (.i2l, 1) := by decide +kernel
theorem dX12_octet_15 : decode cX12_octet 15 = .ok (.lconst 0, 1) := by decide +kernel
theorem dX12_octet_16 : decode cX12_octet 16 = .ok (.ldc2_w 530, 3) := by decide +kernel
theorem dX12_octet_19 : decode cX12_octet 19 = .ok (.invokestatic 504, 3) := by decide +kernel
theorem dX12_octet_22 : decode cX12_octet 22 = .ok (.ifCond .eq 7, 3) := by decide +kernel
theorem dX12_octet_25 : decode cX12_octet 25 = .ok (.iconst 0, 1) := by decide +kernel
theorem dX12_octet_26 : decode cX12_octet 26 = .ok (.goto 4, 3) := by decide +kernel
theorem dX12_octet_30 : decode cX12_octet 30 = .ok (.putfield 3, 3) := by decide +kernel
theorem dX12_octet_33 : decode cX12_octet 33 = .ok (.aload_n 0, 1) := by decide +kernel
theorem dX12_octet_34 : decode cX12_octet 34 = .ok (.getfield 3, 3) := by decide +kernel
theorem dX12_octet_37 : decode cX12_octet 37 = .ok (.ifCond .le 7, 3) := by decide +kernel
theorem dX12_octet_44 : decode cX12_octet 44 = .ok (.aload_n 0, 1) := by decide +kernel
theorem dX12_octet_45 : decode cX12_octet 45 = .ok (.iload_n 1, 1) := by decide +kernel
theorem dX12_octet_46 : decode cX12_octet 46 = .ok (.iload_n 2, 1) := by decide +kernel
theorem dX12_octet_47 : decode cX12_octet 47 = .ok (.invokevirtual 509, 3) := by decide +kernel
theorem dX12_octet_50 : decode cX12_octet 50 = .ok (.ireturn, 1) := by decide +kernel
theorem dL_octet_0 : decode cL_octet 0 = .ok (.aload_n 3, 1) := by decide +kernel
theorem dL_octet_1 : decode cL_octet 1 = .ok (.iconst 0, 1) := by decide +kernel
theorem dL_octet_2 : decode cL_octet 2 = .ok (.aload_n 0, 1) := by decide +kernel
theorem dL_octet_3 : decode cL_octet 3 = .ok (.iload_n 1, 1) := by decide +kernel
theorem dL_octet_4 : decode cL_octet 4 = .ok (.iload_n 2, 1) := by decide +kernel
theorem dL_octet_5 : decode cL_octet 5 = .ok (.invokevirtual 21, 3) := by decide +kernel
theorem dL_octet_8 : decode cL_octet 8 = .ok (.i2l, 1) := by decide +kernel
theorem dL_octet_9 : decode cL_octet 9 = .ok (.lastore, 1) := by decide +kernel
theorem dL_octet_10 : decode cL_octet 10 = .ok (.goto 7, 3) := by decide +kernel
theorem dL_octet_17 : decode cL_octet 17 = .ok (.iconst 0, 1) := by decide +kernel
theorem dL_octet_18 : decode cL_octet 18 = .ok (.ireturn, 1) := by decide +kernel
set_option maxHeartbeats 400000000 in
set_option maxRecDepth 100000 in
theorem c_X12_in_5 (l : Launch) (E : kE) (D : va_G) (cI cJ cB cZ : ClassId) (y0 : Int64) (e0 : ((lg_cmp y0 (-1)) : Int32) < 0) : kI l E D (kT cI cJ cB cZ) yX12_in vW_X12_in ({ frames := 0, cells := 0, slots := 0, locals := 0 }) [.long y0, .long (-1), .long 2000] [] (0) [] 0 0 := by
  intro sz
  refine Met.ofW (cc := cX12_in) (maxL := 6) (ret := (some .boolean)) (by decide) rfl ?_
  intro p e s m args below meth c s₁ B hml hv
  obtain ⟨rfl, hsz, hP, hK, hD0, hN, hX⟩ := hv
  have hx := B.exec
  have hb := B.bytes
  have hr := B.returns
  have hts := atoms_spec (ws := vW_X12_in) B.pre
  have hown : s.vm.findClass RX12 = some m.cls := findClass_of_methodNamed B.named
  have hlocks := B.notSynchronized
  subst hsz
  have hD := hD0.self (sz := s.heap.size)
  have hAE := k_AE hD0 hX
  generalize hAe : va_A [] s.heap.size = A at hD hAE ⊢
  have hA : ∀ q : Nat, s.heap.size ≤ q → A q := fun q h => by rw [← hAe]; exact Or.inr h
  have hS : va_S A s.heap s.heap [] := va_S.rf
  have hP : va_P D vwCl [] s.heap := hP
  have hl := lv_entry ([.long y0, .long (-1), .long 2000] : List Value) (n := 6) (Nat.le_of_ble_eq_true rfl)
  rw [lg_entry_eq]
  generalize (lg_sl ([.long y0, .long (-1), .long 2000]) ++ List.replicate (6 - (lg_sl ([.long y0, .long (-1), .long 2000])).length) Slot.unset).toArray = ls at hl ⊢
  have hl : lv_has ls 6 [(0, .long y0), (2, .long (-1)), (4, .long 2000)] := hl
  refine lv_lload_n hx hb dX12_in_0 rfl (lv_at hl 0 rfl) ?_
  refine lv_lload_n hx hb dX12_in_1 rfl (lv_at hl 1 rfl) ?_
  refine W.lcmp hx hb dX12_in_2 ?_
  refine lv_if_lt (tgt := 17) hx hb dX12_in_3 (by decide) (fun _ => ?_) (fun c9 => absurd e0 c9)
  refine lv_iconst (v := 0) hx hb dX12_in_17 (by decide) ?_
  exact W.zret (v := 0) hx hb hr rfl (fun t ht hW => ⟨⟨0, (), rfl, rfl, kB_mk ht hW hP hK hD⟩, hS.F ht⟩) hS.2.2 dX12_in_18
set_option maxHeartbeats 400000000 in
set_option maxRecDepth 100000 in
theorem c_X12_cut_1 (l : Launch) (E : kE) (D : va_G) (cI cJ cB cZ : ClassId) (h0 : Nat) (x0 : Int32) (x1 : Int32) (f0 : List Value) (e0 : f0[0]? = some (.int 0)) (e1 : f0[5]? = some (.int 0)) (e2 : (x0 : Int32) < (-1)) : kI l E D (kT cI cJ cB cZ) yX12_cut vW_X12_cut ({ frames := 1, cells := 0, slots := 0, locals := 25 }) [.ref h0, .int x0, .int x1] [(h0, .inr (12, f0))] ((-102)) [(h0, .inr (12, (f0.set 0 (.int 0))))] 0 0 := by
  intro sz
  refine Met.ofW (cc := cX12_cut) (maxL := 3) (ret := (some .int)) (by decide) rfl ?_
  intro p e s m args below meth c s₁ B hml hv
  obtain ⟨rfl, hsz, hP, hK, hD0, hN, hX⟩ := hv
  have hx := B.exec
  have hb := B.bytes
  have hr := B.returns
  have hts := atoms_spec (ws := vW_X12_cut) B.pre
  have hown : s.vm.findClass RX12 = some m.cls := findClass_of_methodNamed B.named
  have hlocks := B.notSynchronized
  have hin12 : ∀ w ∈ wsX120, w ∈ vW_X12_cut := u9_X12_cut_wsX120
  subst hsz
  have hD := hD0.self (sz := s.heap.size)
  have hAE := k_AE hD0 hX
  generalize hAe : va_A [(h0, .inr (12, f0))] s.heap.size = A at hD hAE ⊢
  have hA : ∀ q : Nat, s.heap.size ≤ q → A q := fun q h => by rw [← hAe]; exact Or.inr h
  have hS : va_S A s.heap s.heap [] := va_S.rf
  have hP : va_P D vwCl [(h0, .inr (12, f0))] s.heap := hP
  have hl := lv_entry ([.ref h0, .int x0, .int x1] : List Value) (n := 3) (Nat.le_of_ble_eq_true rfl)
  rw [lg_entry_eq]
  generalize (lg_sl ([.ref h0, .int x0, .int x1]) ++ List.replicate (3 - (lg_sl ([.ref h0, .int x0, .int x1])).length) Slot.unset).toArray = ls at hl ⊢
  have hl : lv_has ls 3 [(0, .ref h0), (1, .int x0), (2, .int x1)] := hl
  refine lv_aload_n hx hb dX12_cut_0 rfl (lv_at hl 0 rfl) ?_
  refine lv_iconst (v := 0) hx hb dX12_cut_1 (by decide) ?_
  refine k_put (D := D) (ci := 12) (v := .int 0) (ty := .int) (N := 195) hx hb hts hin12 tyX12 tyX12_ok nmX12 hown hK hP hD hS 0 rfl rfl (by decide) f9_12_0 (hts (.fieldLink RX12 3 "IntegerHouseModel" "thrown" "I") (o9_X12_cut _ (List.mem_of_getElem? (i := 0) rfl))) rfl pd_2 rfl rfl (k_len e0) dX12_cut_2 (fun H locs hP hD hS => ?_)
  have hP : va_P D vwCl [(h0, .inr (12, (f0.set 0 (.int 0))))] H := hP
  have hD : va_D A [(h0, .inr (12, (f0.set 0 (.int 0))))] := hD
  refine lv_aload_n hx hb dX12_cut_5 rfl (lv_at hl 0 rfl) ?_
  refine k_get (D := D) (ci := 12) (v := .int 0) (N := 195) hx hb hts hin12 hown hK hP 0 rfl rfl (by decide) f9_12_5 (hts (.fieldLink RX12 488 "IntegerHouseModel" "down" "Z") (o9_X12_cut _ (List.mem_of_getElem? (i := 1) rfl))) (k_ne (by decide) e1) dX12_cut_6 ?_
  refine lv_if_eq (tgt := 15) hx hb dX12_cut_9 (by decide) (fun _ => ?_) (fun c9 => absurd (by decide) c9)
  refine lv_iload_n hx hb dX12_cut_15 rfl (lv_at hl 1 rfl) ?_
  refine lv_i2l (v := (Int32.toInt64 x0)) hx hb dX12_cut_16 rfl ?_
  refine lv_ldc2 (own := RX12) (index := 526) (v := (-1)) hx hb hown (hts (.constantLong RX12 526 (-1)) (o9_X12_cut _ (List.mem_of_getElem? (i := 2) rfl))) dX12_cut_17 ?_
  refine lv_ldc2 (own := RX12) (index := 528) (v := 2000) hx hb hown (hts (.constantLong RX12 528 (2000)) (o9_X12_cut _ (List.mem_of_getElem? (i := 3) rfl))) dX12_cut_20 ?_
  refine k_cSi (As := [.long (Int32.toInt64 x0), .long (-1), .long 2000]) (rest := []) (wc := []) (wr := [(h0, .inr (12, (f0.set 0 (.int 0))))]) (w1 := []) ⟨hx, hb, hml, hown, hts⟩ hN hX hAE hK hP hD hS hA [] [0] rfl rfl (by decide +kernel) (by decide +kernel) (by decide +kernel) (c_X12_in_5 l E D cI cJ cB cZ (Int32.toInt64 x0) ((k_n4 (x := x0) (c := (-1)) (C := (-1)) (by decide)).mpr e2)) (va_cwS 3 hts g9_X12_cut_X12_in_504 rfl rfl rfl (by decide +kernel) ⟨Nat.le_of_ble_eq_true rfl, Nat.le_of_ble_eq_true rfl⟩) rfl hl.1 (Nat.le_of_ble_eq_true rfl) dX12_cut_23 ⟨Nat.le_of_ble_eq_true rfl, Nat.le_of_ble_eq_true rfl⟩ (fun H locs hP hD hS => ?_)
  have hP : va_P D vwCl [(h0, .inr (12, (f0.set 0 (.int 0))))] H := hP
  have hD : va_D A [(h0, .inr (12, (f0.set 0 (.int 0))))] := hD
  refine lv_if_eq (tgt := 41) hx hb dX12_cut_26 (by decide) (fun _ => ?_) (fun c9 => absurd (by decide) c9)
  refine lv_bipush (v := (-102)) hx hb dX12_cut_41 (by decide) ?_
  exact W.iret (v := (-102)) hx hb hr (fun t ht hW => ⟨⟨(-102), (), rfl, rfl, kB_mk ht hW hP hK hD⟩, hS.F ht⟩) hS.2.2 dX12_cut_43
set_option maxHeartbeats 400000000 in
set_option maxRecDepth 100000 in
theorem c_X11_cut_2 (l : Launch) (E : kE) (D : va_G) (cI cJ cB cZ : ClassId) (h0 : Nat) (x0 : Int32) (x1 : Int32) (f0 : List Value) (h1 : Nat) (f1 : List Value) (e0 : f0[1]? = some (.ref h1)) (e1 : f1[8]? = some (.int 0)) (e2 : ¬ ((x0 : Int32) < (-1))) (e3 : (x0 : Int32) < 2001) (e4 : (x1 : Int32) < 0) : kI l E D (kT cI cJ cB cZ) yX11_cut vW_X11_cut ({ frames := 0, cells := 0, slots := 0, locals := 0 }) [.ref h0, .int x0, .int x1] [(h0, .inr (11, f0)), (h1, .inr (1, f1))] ((-102)) [(h0, .inr (11, f0)), (h1, .inr (1, f1))] 0 0 := by
  intro sz
  refine Met.ofW (cc := cX11_cut) (maxL := 3) (ret := (some .int)) (by decide) rfl ?_
  intro p e s m args below meth c s₁ B hml hv
  obtain ⟨rfl, hsz, hP, hK, hD0, hN, hX⟩ := hv
  have hx := B.exec
  have hb := B.bytes
  have hr := B.returns
  have hts := atoms_spec (ws := vW_X11_cut) B.pre
  have hown : s.vm.findClass RX11 = some m.cls := findClass_of_methodNamed B.named
  have hlocks := B.notSynchronized
  have hin11 : ∀ w ∈ wsX110, w ∈ vW_X11_cut := u9_X11_cut_wsX110
  have hin1 : ∀ w ∈ wsX10, w ∈ vW_X11_cut := u9_X11_cut_wsX10
  subst hsz
  have hD := hD0.self (sz := s.heap.size)
  have hAE := k_AE hD0 hX
  generalize hAe : va_A [(h0, .inr (11, f0)), (h1, .inr (1, f1))] s.heap.size = A at hD hAE ⊢
  have hA : ∀ q : Nat, s.heap.size ≤ q → A q := fun q h => by rw [← hAe]; exact Or.inr h
  have hS : va_S A s.heap s.heap [] := va_S.rf
  have hP : va_P D vwCl [(h0, .inr (11, f0)), (h1, .inr (1, f1))] s.heap := hP
  have hl := lv_entry ([.ref h0, .int x0, .int x1] : List Value) (n := 3) (Nat.le_of_ble_eq_true rfl)
  rw [lg_entry_eq]
  generalize (lg_sl ([.ref h0, .int x0, .int x1]) ++ List.replicate (3 - (lg_sl ([.ref h0, .int x0, .int x1])).length) Slot.unset).toArray = ls at hl ⊢
  have hl : lv_has ls 3 [(0, .ref h0), (1, .int x0), (2, .int x1)] := hl
  refine lv_aload_n hx hb dX11_cut_0 rfl (lv_at hl 0 rfl) ?_
  refine k_get (D := D) (ci := 11) (v := .ref h1) (N := 15) hx hb hts hin11 hown hK hP 0 rfl rfl (by decide) f9_11_1 (hts (.fieldLink RX11 16 "IntegerHouse" "disk" "LIntegerHouse$Disk;") (o9_X11_cut _ (List.mem_of_getElem? (i := 0) rfl))) e0 dX11_cut_1 ?_
  refine k_getN (host := "IntegerHouse") (D := D) (ci := 1) (v := .int 0) (N := 9) hx hb hts hin1 hown hK hP 1 rfl rfl (by decide) f9_1_8 (va_Nw.use rfl (hN.1 ("IntegerHouse", 122, "IntegerHouse$Disk", "down", "Z", "IntegerHouse") (List.mem_of_getElem? (i := 3) rfl))) e1 dX11_cut_4 ?_
  refine lv_if_eq (tgt := 13) hx hb dX11_cut_7 (by decide) (fun _ => ?_) (fun c9 => absurd (by decide) c9)
  refine lv_iload_n hx hb dX11_cut_13 rfl (lv_at hl 1 rfl) ?_
  refine lv_iconst (v := (-1)) hx hb dX11_cut_14 (by decide) ?_
  refine lv_icmp_lt (tgt := 36) hx hb dX11_cut_15 (by decide) (fun c9 => absurd c9 e2) (fun _ => ?_)
  refine lv_iload_n hx hb dX11_cut_18 rfl (lv_at hl 1 rfl) ?_
  refine lv_sipush (v := 2000) hx hb dX11_cut_19 (by decide) ?_
  refine lv_icmp_gt (tgt := 36) hx hb dX11_cut_22 (by decide) (fun c9 => absurd c9 (fun z9 => (k_n3 (x := x0) (c := 2000) (d := 2001) (by decide)).mp z9 e3)) (fun _ => ?_)
  refine lv_iload_n hx hb dX11_cut_25 rfl (lv_at hl 2 rfl) ?_
  refine lv_if_lt (tgt := 36) hx hb dX11_cut_26 (by decide) (fun _ => ?_) (fun c9 => absurd e4 c9)
  refine lv_bipush (v := (-102)) hx hb dX11_cut_36 (by decide) ?_
  exact W.iret (v := (-102)) hx hb hr (fun t ht hW => ⟨⟨(-102), (), rfl, rfl, kB_mk ht hW hP hK hD⟩, hS.F ht⟩) hS.2.2 dX11_cut_38
set_option maxHeartbeats 400000000 in
set_option maxRecDepth 100000 in
theorem c_X12_in_6 (l : Launch) (E : kE) (D : va_G) (cI cJ cB cZ : ClassId) (y0 : Int64) (e0 : ((lg_cmp y0 0) : Int32) < 0) : kI l E D (kT cI cJ cB cZ) yX12_in vW_X12_in ({ frames := 0, cells := 0, slots := 0, locals := 0 }) [.long y0, .long 0, .long 255] [] (0) [] 0 0 := by
  intro sz
  refine Met.ofW (cc := cX12_in) (maxL := 6) (ret := (some .boolean)) (by decide) rfl ?_
  intro p e s m args below meth c s₁ B hml hv
  obtain ⟨rfl, hsz, hP, hK, hD0, hN, hX⟩ := hv
  have hx := B.exec
  have hb := B.bytes
  have hr := B.returns
  have hts := atoms_spec (ws := vW_X12_in) B.pre
  have hown : s.vm.findClass RX12 = some m.cls := findClass_of_methodNamed B.named
  have hlocks := B.notSynchronized
  subst hsz
  have hD := hD0.self (sz := s.heap.size)
  have hAE := k_AE hD0 hX
  generalize hAe : va_A [] s.heap.size = A at hD hAE ⊢
  have hA : ∀ q : Nat, s.heap.size ≤ q → A q := fun q h => by rw [← hAe]; exact Or.inr h
  have hS : va_S A s.heap s.heap [] := va_S.rf
  have hP : va_P D vwCl [] s.heap := hP
  have hl := lv_entry ([.long y0, .long 0, .long 255] : List Value) (n := 6) (Nat.le_of_ble_eq_true rfl)
  rw [lg_entry_eq]
  generalize (lg_sl ([.long y0, .long 0, .long 255]) ++ List.replicate (6 - (lg_sl ([.long y0, .long 0, .long 255])).length) Slot.unset).toArray = ls at hl ⊢
  have hl : lv_has ls 6 [(0, .long y0), (2, .long 0), (4, .long 255)] := hl
  refine lv_lload_n hx hb dX12_in_0 rfl (lv_at hl 0 rfl) ?_
  refine lv_lload_n hx hb dX12_in_1 rfl (lv_at hl 1 rfl) ?_
  refine W.lcmp hx hb dX12_in_2 ?_
  refine lv_if_lt (tgt := 17) hx hb dX12_in_3 (by decide) (fun _ => ?_) (fun c9 => absurd e0 c9)
  refine lv_iconst (v := 0) hx hb dX12_in_17 (by decide) ?_
  exact W.zret (v := 0) hx hb hr rfl (fun t ht hW => ⟨⟨0, (), rfl, rfl, kB_mk ht hW hP hK hD⟩, hS.F ht⟩) hS.2.2 dX12_in_18
set_option maxHeartbeats 400000000 in
set_option maxRecDepth 100000 in
theorem c_X12_cut_2 (l : Launch) (E : kE) (D : va_G) (cI cJ cB cZ : ClassId) (h0 : Nat) (x0 : Int32) (x1 : Int32) (f0 : List Value) (e0 : f0[0]? = some (.int 0)) (e1 : f0[5]? = some (.int 0)) (e2 : ¬ ((x0 : Int32) < (-1))) (e3 : (x0 : Int32) < 2001) (e4 : (x1 : Int32) < 0) : kI l E D (kT cI cJ cB cZ) yX12_cut vW_X12_cut ({ frames := 1, cells := 0, slots := 0, locals := 25 }) [.ref h0, .int x0, .int x1] [(h0, .inr (12, f0))] ((-102)) [(h0, .inr (12, (f0.set 0 (.int 0))))] 0 0 := by
  intro sz
  refine Met.ofW (cc := cX12_cut) (maxL := 3) (ret := (some .int)) (by decide) rfl ?_
  intro p e s m args below meth c s₁ B hml hv
  obtain ⟨rfl, hsz, hP, hK, hD0, hN, hX⟩ := hv
  have hx := B.exec
  have hb := B.bytes
  have hr := B.returns
  have hts := atoms_spec (ws := vW_X12_cut) B.pre
  have hown : s.vm.findClass RX12 = some m.cls := findClass_of_methodNamed B.named
  have hlocks := B.notSynchronized
  have hin12 : ∀ w ∈ wsX120, w ∈ vW_X12_cut := u9_X12_cut_wsX120
  subst hsz
  have hD := hD0.self (sz := s.heap.size)
  have hAE := k_AE hD0 hX
  generalize hAe : va_A [(h0, .inr (12, f0))] s.heap.size = A at hD hAE ⊢
  have hA : ∀ q : Nat, s.heap.size ≤ q → A q := fun q h => by rw [← hAe]; exact Or.inr h
  have hS : va_S A s.heap s.heap [] := va_S.rf
  have hP : va_P D vwCl [(h0, .inr (12, f0))] s.heap := hP
  have hl := lv_entry ([.ref h0, .int x0, .int x1] : List Value) (n := 3) (Nat.le_of_ble_eq_true rfl)
  rw [lg_entry_eq]
  generalize (lg_sl ([.ref h0, .int x0, .int x1]) ++ List.replicate (3 - (lg_sl ([.ref h0, .int x0, .int x1])).length) Slot.unset).toArray = ls at hl ⊢
  have hl : lv_has ls 3 [(0, .ref h0), (1, .int x0), (2, .int x1)] := hl
  refine lv_aload_n hx hb dX12_cut_0 rfl (lv_at hl 0 rfl) ?_
  refine lv_iconst (v := 0) hx hb dX12_cut_1 (by decide) ?_
  refine k_put (D := D) (ci := 12) (v := .int 0) (ty := .int) (N := 195) hx hb hts hin12 tyX12 tyX12_ok nmX12 hown hK hP hD hS 0 rfl rfl (by decide) f9_12_0 (hts (.fieldLink RX12 3 "IntegerHouseModel" "thrown" "I") (o9_X12_cut _ (List.mem_of_getElem? (i := 0) rfl))) rfl pd_2 rfl rfl (k_len e0) dX12_cut_2 (fun H locs hP hD hS => ?_)
  have hP : va_P D vwCl [(h0, .inr (12, (f0.set 0 (.int 0))))] H := hP
  have hD : va_D A [(h0, .inr (12, (f0.set 0 (.int 0))))] := hD
  refine lv_aload_n hx hb dX12_cut_5 rfl (lv_at hl 0 rfl) ?_
  refine k_get (D := D) (ci := 12) (v := .int 0) (N := 195) hx hb hts hin12 hown hK hP 0 rfl rfl (by decide) f9_12_5 (hts (.fieldLink RX12 488 "IntegerHouseModel" "down" "Z") (o9_X12_cut _ (List.mem_of_getElem? (i := 1) rfl))) (k_ne (by decide) e1) dX12_cut_6 ?_
  refine lv_if_eq (tgt := 15) hx hb dX12_cut_9 (by decide) (fun _ => ?_) (fun c9 => absurd (by decide) c9)
  refine lv_iload_n hx hb dX12_cut_15 rfl (lv_at hl 1 rfl) ?_
  refine lv_i2l (v := (Int32.toInt64 x0)) hx hb dX12_cut_16 rfl ?_
  refine lv_ldc2 (own := RX12) (index := 526) (v := (-1)) hx hb hown (hts (.constantLong RX12 526 (-1)) (o9_X12_cut _ (List.mem_of_getElem? (i := 2) rfl))) dX12_cut_17 ?_
  refine lv_ldc2 (own := RX12) (index := 528) (v := 2000) hx hb hown (hts (.constantLong RX12 528 (2000)) (o9_X12_cut _ (List.mem_of_getElem? (i := 3) rfl))) dX12_cut_20 ?_
  refine k_cSi (As := [.long (Int32.toInt64 x0), .long (-1), .long 2000]) (rest := []) (wc := []) (wr := [(h0, .inr (12, (f0.set 0 (.int 0))))]) (w1 := []) ⟨hx, hb, hml, hown, hts⟩ hN hX hAE hK hP hD hS hA [] [0] rfl rfl (by decide +kernel) (by decide +kernel) (by decide +kernel) (c_X12_in_3 l E D cI cJ cB cZ (Int32.toInt64 x0) (fun z9 => e2 ((k_n4 (x := x0) (c := (-1)) (C := (-1)) (by decide)).mp z9)) (fun z9 => (k_n5 (x := x0) (c := 2000) (d := 2001) (C := 2000) (by decide) (by decide)).mp z9 e3)) (va_cwS 3 hts g9_X12_cut_X12_in_504 rfl rfl rfl (by decide +kernel) ⟨Nat.le_of_ble_eq_true rfl, Nat.le_of_ble_eq_true rfl⟩) rfl hl.1 (Nat.le_of_ble_eq_true rfl) dX12_cut_23 ⟨Nat.le_of_ble_eq_true rfl, Nat.le_of_ble_eq_true rfl⟩ (fun H locs hP hD hS => ?_)
  have hP : va_P D vwCl [(h0, .inr (12, (f0.set 0 (.int 0))))] H := hP
  have hD : va_D A [(h0, .inr (12, (f0.set 0 (.int 0))))] := hD
  refine lv_if_eq (tgt := 41) hx hb dX12_cut_26 (by decide) (fun c9 => absurd c9 (by decide)) (fun _ => ?_)
  refine lv_iload_n hx hb dX12_cut_29 rfl (lv_at hl 2 rfl) ?_
  refine lv_i2l (v := (Int32.toInt64 x1)) hx hb dX12_cut_30 rfl ?_
  refine lv_lconst (v := 0) hx hb dX12_cut_31 (by decide) ?_
  refine lv_ldc2 (own := RX12) (index := 530) (v := 255) hx hb hown (hts (.constantLong RX12 530 (255)) (o9_X12_cut _ (List.mem_of_getElem? (i := 7) rfl))) dX12_cut_32 ?_
  refine k_cSi (As := [.long (Int32.toInt64 x1), .long 0, .long 255]) (rest := []) (wc := []) (wr := [(h0, .inr (12, (f0.set 0 (.int 0))))]) (w1 := []) ⟨hx, hb, hml, hown, hts⟩ hN hX hAE hK hP hD hS hA [] [0] rfl rfl (by decide +kernel) (by decide +kernel) (by decide +kernel) (c_X12_in_6 l E D cI cJ cB cZ (Int32.toInt64 x1) ((k_n4 (x := x1) (c := 0) (C := 0) (by decide)).mpr e4)) (va_cwS 3 hts g9_X12_cut_X12_in_504 rfl rfl rfl (by decide +kernel) ⟨Nat.le_of_ble_eq_true rfl, Nat.le_of_ble_eq_true rfl⟩) rfl hl.1 (Nat.le_of_ble_eq_true rfl) dX12_cut_35 ⟨Nat.le_of_ble_eq_true rfl, Nat.le_of_ble_eq_true rfl⟩ (fun H locs hP hD hS => ?_)
  have hP : va_P D vwCl [(h0, .inr (12, (f0.set 0 (.int 0))))] H := hP
  have hD : va_D A [(h0, .inr (12, (f0.set 0 (.int 0))))] := hD
  refine lv_if_ne (tgt := 44) hx hb dX12_cut_38 (by decide) (fun c9 => absurd (by decide) c9) (fun _ => ?_)
  refine lv_bipush (v := (-102)) hx hb dX12_cut_41 (by decide) ?_
  exact W.iret (v := (-102)) hx hb hr (fun t ht hW => ⟨⟨(-102), (), rfl, rfl, kB_mk ht hW hP hK hD⟩, hS.F ht⟩) hS.2.2 dX12_cut_43
set_option maxHeartbeats 400000000 in
set_option maxRecDepth 100000 in
theorem c_X11_cut_3 (l : Launch) (E : kE) (D : va_G) (cI cJ cB cZ : ClassId) (h0 : Nat) (x0 : Int32) (x1 : Int32) (f0 : List Value) (h1 : Nat) (f1 : List Value) (e0 : f0[1]? = some (.ref h1)) (e1 : f1[8]? = some (.int 0)) (e2 : ¬ ((x0 : Int32) < (-1))) (e3 : (x0 : Int32) < 2001) (e4 : ¬ ((x1 : Int32) < 0)) (e5 : ¬ ((x1 : Int32) < 256)) : kI l E D (kT cI cJ cB cZ) yX11_cut vW_X11_cut ({ frames := 0, cells := 0, slots := 0, locals := 0 }) [.ref h0, .int x0, .int x1] [(h0, .inr (11, f0)), (h1, .inr (1, f1))] ((-102)) [(h0, .inr (11, f0)), (h1, .inr (1, f1))] 0 0 := by
  intro sz
  refine Met.ofW (cc := cX11_cut) (maxL := 3) (ret := (some .int)) (by decide) rfl ?_
  intro p e s m args below meth c s₁ B hml hv
  obtain ⟨rfl, hsz, hP, hK, hD0, hN, hX⟩ := hv
  have hx := B.exec
  have hb := B.bytes
  have hr := B.returns
  have hts := atoms_spec (ws := vW_X11_cut) B.pre
  have hown : s.vm.findClass RX11 = some m.cls := findClass_of_methodNamed B.named
  have hlocks := B.notSynchronized
  have hin11 : ∀ w ∈ wsX110, w ∈ vW_X11_cut := u9_X11_cut_wsX110
  have hin1 : ∀ w ∈ wsX10, w ∈ vW_X11_cut := u9_X11_cut_wsX10
  subst hsz
  have hD := hD0.self (sz := s.heap.size)
  have hAE := k_AE hD0 hX
  generalize hAe : va_A [(h0, .inr (11, f0)), (h1, .inr (1, f1))] s.heap.size = A at hD hAE ⊢
  have hA : ∀ q : Nat, s.heap.size ≤ q → A q := fun q h => by rw [← hAe]; exact Or.inr h
  have hS : va_S A s.heap s.heap [] := va_S.rf
  have hP : va_P D vwCl [(h0, .inr (11, f0)), (h1, .inr (1, f1))] s.heap := hP
  have hl := lv_entry ([.ref h0, .int x0, .int x1] : List Value) (n := 3) (Nat.le_of_ble_eq_true rfl)
  rw [lg_entry_eq]
  generalize (lg_sl ([.ref h0, .int x0, .int x1]) ++ List.replicate (3 - (lg_sl ([.ref h0, .int x0, .int x1])).length) Slot.unset).toArray = ls at hl ⊢
  have hl : lv_has ls 3 [(0, .ref h0), (1, .int x0), (2, .int x1)] := hl
  refine lv_aload_n hx hb dX11_cut_0 rfl (lv_at hl 0 rfl) ?_
  refine k_get (D := D) (ci := 11) (v := .ref h1) (N := 15) hx hb hts hin11 hown hK hP 0 rfl rfl (by decide) f9_11_1 (hts (.fieldLink RX11 16 "IntegerHouse" "disk" "LIntegerHouse$Disk;") (o9_X11_cut _ (List.mem_of_getElem? (i := 0) rfl))) e0 dX11_cut_1 ?_
  refine k_getN (host := "IntegerHouse") (D := D) (ci := 1) (v := .int 0) (N := 9) hx hb hts hin1 hown hK hP 1 rfl rfl (by decide) f9_1_8 (va_Nw.use rfl (hN.1 ("IntegerHouse", 122, "IntegerHouse$Disk", "down", "Z", "IntegerHouse") (List.mem_of_getElem? (i := 3) rfl))) e1 dX11_cut_4 ?_
  refine lv_if_eq (tgt := 13) hx hb dX11_cut_7 (by decide) (fun _ => ?_) (fun c9 => absurd (by decide) c9)
  refine lv_iload_n hx hb dX11_cut_13 rfl (lv_at hl 1 rfl) ?_
  refine lv_iconst (v := (-1)) hx hb dX11_cut_14 (by decide) ?_
  refine lv_icmp_lt (tgt := 36) hx hb dX11_cut_15 (by decide) (fun c9 => absurd c9 e2) (fun _ => ?_)
  refine lv_iload_n hx hb dX11_cut_18 rfl (lv_at hl 1 rfl) ?_
  refine lv_sipush (v := 2000) hx hb dX11_cut_19 (by decide) ?_
  refine lv_icmp_gt (tgt := 36) hx hb dX11_cut_22 (by decide) (fun c9 => absurd c9 (fun z9 => (k_n3 (x := x0) (c := 2000) (d := 2001) (by decide)).mp z9 e3)) (fun _ => ?_)
  refine lv_iload_n hx hb dX11_cut_25 rfl (lv_at hl 2 rfl) ?_
  refine lv_if_lt (tgt := 36) hx hb dX11_cut_26 (by decide) (fun c9 => absurd c9 e4) (fun _ => ?_)
  refine lv_iload_n hx hb dX11_cut_29 rfl (lv_at hl 2 rfl) ?_
  refine lv_sipush (v := 255) hx hb dX11_cut_30 (by decide) ?_
  refine lv_icmp_le (tgt := 39) hx hb dX11_cut_33 (by decide) (fun c9 => absurd c9 (fun z9 => e5 ((k_n1 (x := x1) (c := 255) (d := 256) (by decide)).mp z9))) (fun _ => ?_)
  refine lv_bipush (v := (-102)) hx hb dX11_cut_36 (by decide) ?_
  exact W.iret (v := (-102)) hx hb hr (fun t ht hW => ⟨⟨(-102), (), rfl, rfl, kB_mk ht hW hP hK hD⟩, hS.F ht⟩) hS.2.2 dX11_cut_38
set_option maxHeartbeats 400000000 in
set_option maxRecDepth 100000 in
theorem c_X12_in_7 (l : Launch) (E : kE) (D : va_G) (cI cJ cB cZ : ClassId) (y0 : Int64) (e0 : ¬ (((lg_cmp y0 0) : Int32) < 0)) (e1 : (0 : Int32) < (lg_cmp y0 255)) : kI l E D (kT cI cJ cB cZ) yX12_in vW_X12_in ({ frames := 0, cells := 0, slots := 0, locals := 0 }) [.long y0, .long 0, .long 255] [] (0) [] 0 0 := by
  intro sz
  refine Met.ofW (cc := cX12_in) (maxL := 6) (ret := (some .boolean)) (by decide) rfl ?_
  intro p e s m args below meth c s₁ B hml hv
  obtain ⟨rfl, hsz, hP, hK, hD0, hN, hX⟩ := hv
  have hx := B.exec
  have hb := B.bytes
  have hr := B.returns
  have hts := atoms_spec (ws := vW_X12_in) B.pre
  have hown : s.vm.findClass RX12 = some m.cls := findClass_of_methodNamed B.named
  have hlocks := B.notSynchronized
  subst hsz
  have hD := hD0.self (sz := s.heap.size)
  have hAE := k_AE hD0 hX
  generalize hAe : va_A [] s.heap.size = A at hD hAE ⊢
  have hA : ∀ q : Nat, s.heap.size ≤ q → A q := fun q h => by rw [← hAe]; exact Or.inr h
  have hS : va_S A s.heap s.heap [] := va_S.rf
  have hP : va_P D vwCl [] s.heap := hP
  have hl := lv_entry ([.long y0, .long 0, .long 255] : List Value) (n := 6) (Nat.le_of_ble_eq_true rfl)
  rw [lg_entry_eq]
  generalize (lg_sl ([.long y0, .long 0, .long 255]) ++ List.replicate (6 - (lg_sl ([.long y0, .long 0, .long 255])).length) Slot.unset).toArray = ls at hl ⊢
  have hl : lv_has ls 6 [(0, .long y0), (2, .long 0), (4, .long 255)] := hl
  refine lv_lload_n hx hb dX12_in_0 rfl (lv_at hl 0 rfl) ?_
  refine lv_lload_n hx hb dX12_in_1 rfl (lv_at hl 1 rfl) ?_
  refine W.lcmp hx hb dX12_in_2 ?_
  refine lv_if_lt (tgt := 17) hx hb dX12_in_3 (by decide) (fun c9 => absurd c9 e0) (fun _ => ?_)
  refine lv_lload_n hx hb dX12_in_6 rfl (lv_at hl 0 rfl) ?_
  refine lv_lload hx hb dX12_in_7 (lv_at hl 2 rfl) ?_
  refine W.lcmp hx hb dX12_in_9 ?_
  refine lv_if_gt (tgt := 17) hx hb dX12_in_10 (by decide) (fun _ => ?_) (fun c9 => absurd e1 c9)
  refine lv_iconst (v := 0) hx hb dX12_in_17 (by decide) ?_
  exact W.zret (v := 0) hx hb hr rfl (fun t ht hW => ⟨⟨0, (), rfl, rfl, kB_mk ht hW hP hK hD⟩, hS.F ht⟩) hS.2.2 dX12_in_18
set_option maxHeartbeats 400000000 in
set_option maxRecDepth 100000 in
theorem c_X12_cut_3 (l : Launch) (E : kE) (D : va_G) (cI cJ cB cZ : ClassId) (h0 : Nat) (x0 : Int32) (x1 : Int32) (f0 : List Value) (e0 : f0[0]? = some (.int 0)) (e1 : f0[5]? = some (.int 0)) (e2 : ¬ ((x0 : Int32) < (-1))) (e3 : (x0 : Int32) < 2001) (e4 : ¬ ((x1 : Int32) < 0)) (e5 : ¬ ((x1 : Int32) < 256)) : kI l E D (kT cI cJ cB cZ) yX12_cut vW_X12_cut ({ frames := 1, cells := 0, slots := 0, locals := 25 }) [.ref h0, .int x0, .int x1] [(h0, .inr (12, f0))] ((-102)) [(h0, .inr (12, (f0.set 0 (.int 0))))] 0 0 := by
  intro sz
  refine Met.ofW (cc := cX12_cut) (maxL := 3) (ret := (some .int)) (by decide) rfl ?_
  intro p e s m args below meth c s₁ B hml hv
  obtain ⟨rfl, hsz, hP, hK, hD0, hN, hX⟩ := hv
  have hx := B.exec
  have hb := B.bytes
  have hr := B.returns
  have hts := atoms_spec (ws := vW_X12_cut) B.pre
  have hown : s.vm.findClass RX12 = some m.cls := findClass_of_methodNamed B.named
  have hlocks := B.notSynchronized
  have hin12 : ∀ w ∈ wsX120, w ∈ vW_X12_cut := u9_X12_cut_wsX120
  subst hsz
  have hD := hD0.self (sz := s.heap.size)
  have hAE := k_AE hD0 hX
  generalize hAe : va_A [(h0, .inr (12, f0))] s.heap.size = A at hD hAE ⊢
  have hA : ∀ q : Nat, s.heap.size ≤ q → A q := fun q h => by rw [← hAe]; exact Or.inr h
  have hS : va_S A s.heap s.heap [] := va_S.rf
  have hP : va_P D vwCl [(h0, .inr (12, f0))] s.heap := hP
  have hl := lv_entry ([.ref h0, .int x0, .int x1] : List Value) (n := 3) (Nat.le_of_ble_eq_true rfl)
  rw [lg_entry_eq]
  generalize (lg_sl ([.ref h0, .int x0, .int x1]) ++ List.replicate (3 - (lg_sl ([.ref h0, .int x0, .int x1])).length) Slot.unset).toArray = ls at hl ⊢
  have hl : lv_has ls 3 [(0, .ref h0), (1, .int x0), (2, .int x1)] := hl
  refine lv_aload_n hx hb dX12_cut_0 rfl (lv_at hl 0 rfl) ?_
  refine lv_iconst (v := 0) hx hb dX12_cut_1 (by decide) ?_
  refine k_put (D := D) (ci := 12) (v := .int 0) (ty := .int) (N := 195) hx hb hts hin12 tyX12 tyX12_ok nmX12 hown hK hP hD hS 0 rfl rfl (by decide) f9_12_0 (hts (.fieldLink RX12 3 "IntegerHouseModel" "thrown" "I") (o9_X12_cut _ (List.mem_of_getElem? (i := 0) rfl))) rfl pd_2 rfl rfl (k_len e0) dX12_cut_2 (fun H locs hP hD hS => ?_)
  have hP : va_P D vwCl [(h0, .inr (12, (f0.set 0 (.int 0))))] H := hP
  have hD : va_D A [(h0, .inr (12, (f0.set 0 (.int 0))))] := hD
  refine lv_aload_n hx hb dX12_cut_5 rfl (lv_at hl 0 rfl) ?_
  refine k_get (D := D) (ci := 12) (v := .int 0) (N := 195) hx hb hts hin12 hown hK hP 0 rfl rfl (by decide) f9_12_5 (hts (.fieldLink RX12 488 "IntegerHouseModel" "down" "Z") (o9_X12_cut _ (List.mem_of_getElem? (i := 1) rfl))) (k_ne (by decide) e1) dX12_cut_6 ?_
  refine lv_if_eq (tgt := 15) hx hb dX12_cut_9 (by decide) (fun _ => ?_) (fun c9 => absurd (by decide) c9)
  refine lv_iload_n hx hb dX12_cut_15 rfl (lv_at hl 1 rfl) ?_
  refine lv_i2l (v := (Int32.toInt64 x0)) hx hb dX12_cut_16 rfl ?_
  refine lv_ldc2 (own := RX12) (index := 526) (v := (-1)) hx hb hown (hts (.constantLong RX12 526 (-1)) (o9_X12_cut _ (List.mem_of_getElem? (i := 2) rfl))) dX12_cut_17 ?_
  refine lv_ldc2 (own := RX12) (index := 528) (v := 2000) hx hb hown (hts (.constantLong RX12 528 (2000)) (o9_X12_cut _ (List.mem_of_getElem? (i := 3) rfl))) dX12_cut_20 ?_
  refine k_cSi (As := [.long (Int32.toInt64 x0), .long (-1), .long 2000]) (rest := []) (wc := []) (wr := [(h0, .inr (12, (f0.set 0 (.int 0))))]) (w1 := []) ⟨hx, hb, hml, hown, hts⟩ hN hX hAE hK hP hD hS hA [] [0] rfl rfl (by decide +kernel) (by decide +kernel) (by decide +kernel) (c_X12_in_3 l E D cI cJ cB cZ (Int32.toInt64 x0) (fun z9 => e2 ((k_n4 (x := x0) (c := (-1)) (C := (-1)) (by decide)).mp z9)) (fun z9 => (k_n5 (x := x0) (c := 2000) (d := 2001) (C := 2000) (by decide) (by decide)).mp z9 e3)) (va_cwS 3 hts g9_X12_cut_X12_in_504 rfl rfl rfl (by decide +kernel) ⟨Nat.le_of_ble_eq_true rfl, Nat.le_of_ble_eq_true rfl⟩) rfl hl.1 (Nat.le_of_ble_eq_true rfl) dX12_cut_23 ⟨Nat.le_of_ble_eq_true rfl, Nat.le_of_ble_eq_true rfl⟩ (fun H locs hP hD hS => ?_)
  have hP : va_P D vwCl [(h0, .inr (12, (f0.set 0 (.int 0))))] H := hP
  have hD : va_D A [(h0, .inr (12, (f0.set 0 (.int 0))))] := hD
  refine lv_if_eq (tgt := 41) hx hb dX12_cut_26 (by decide) (fun c9 => absurd c9 (by decide)) (fun _ => ?_)
  refine lv_iload_n hx hb dX12_cut_29 rfl (lv_at hl 2 rfl) ?_
  refine lv_i2l (v := (Int32.toInt64 x1)) hx hb dX12_cut_30 rfl ?_
  refine lv_lconst (v := 0) hx hb dX12_cut_31 (by decide) ?_
  refine lv_ldc2 (own := RX12) (index := 530) (v := 255) hx hb hown (hts (.constantLong RX12 530 (255)) (o9_X12_cut _ (List.mem_of_getElem? (i := 7) rfl))) dX12_cut_32 ?_
  refine k_cSi (As := [.long (Int32.toInt64 x1), .long 0, .long 255]) (rest := []) (wc := []) (wr := [(h0, .inr (12, (f0.set 0 (.int 0))))]) (w1 := []) ⟨hx, hb, hml, hown, hts⟩ hN hX hAE hK hP hD hS hA [] [0] rfl rfl (by decide +kernel) (by decide +kernel) (by decide +kernel) (c_X12_in_7 l E D cI cJ cB cZ (Int32.toInt64 x1) (fun z9 => e4 ((k_n4 (x := x1) (c := 0) (C := 0) (by decide)).mp z9)) ((k_n5 (x := x1) (c := 255) (d := 256) (C := 255) (by decide) (by decide)).mpr e5)) (va_cwS 3 hts g9_X12_cut_X12_in_504 rfl rfl rfl (by decide +kernel) ⟨Nat.le_of_ble_eq_true rfl, Nat.le_of_ble_eq_true rfl⟩) rfl hl.1 (Nat.le_of_ble_eq_true rfl) dX12_cut_35 ⟨Nat.le_of_ble_eq_true rfl, Nat.le_of_ble_eq_true rfl⟩ (fun H locs hP hD hS => ?_)
  have hP : va_P D vwCl [(h0, .inr (12, (f0.set 0 (.int 0))))] H := hP
  have hD : va_D A [(h0, .inr (12, (f0.set 0 (.int 0))))] := hD
  refine lv_if_ne (tgt := 44) hx hb dX12_cut_38 (by decide) (fun c9 => absurd (by decide) c9) (fun _ => ?_)
  refine lv_bipush (v := (-102)) hx hb dX12_cut_41 (by decide) ?_
  exact W.iret (v := (-102)) hx hb hr (fun t ht hW => ⟨⟨(-102), (), rfl, rfl, kB_mk ht hW hP hK hD⟩, hS.F ht⟩) hS.2.2 dX12_cut_43
set_option maxHeartbeats 400000000 in
set_option maxRecDepth 100000 in
theorem c_X11_cut_4 (l : Launch) (E : kE) (D : va_G) (cI cJ cB cZ : ClassId) (h0 : Nat) (x0 : Int32) (x1 : Int32) (f0 : List Value) (h1 : Nat) (f1 : List Value) (e0 : f0[1]? = some (.ref h1)) (e1 : f1[8]? = some (.int 0)) (e2 : ¬ ((x0 : Int32) < (-1))) (e3 : ¬ ((x0 : Int32) < 2001)) : kI l E D (kT cI cJ cB cZ) yX11_cut vW_X11_cut ({ frames := 0, cells := 0, slots := 0, locals := 0 }) [.ref h0, .int x0, .int x1] [(h0, .inr (11, f0)), (h1, .inr (1, f1))] ((-102)) [(h0, .inr (11, f0)), (h1, .inr (1, f1))] 0 0 := by
  intro sz
  refine Met.ofW (cc := cX11_cut) (maxL := 3) (ret := (some .int)) (by decide) rfl ?_
  intro p e s m args below meth c s₁ B hml hv
  obtain ⟨rfl, hsz, hP, hK, hD0, hN, hX⟩ := hv
  have hx := B.exec
  have hb := B.bytes
  have hr := B.returns
  have hts := atoms_spec (ws := vW_X11_cut) B.pre
  have hown : s.vm.findClass RX11 = some m.cls := findClass_of_methodNamed B.named
  have hlocks := B.notSynchronized
  have hin11 : ∀ w ∈ wsX110, w ∈ vW_X11_cut := u9_X11_cut_wsX110
  have hin1 : ∀ w ∈ wsX10, w ∈ vW_X11_cut := u9_X11_cut_wsX10
  subst hsz
  have hD := hD0.self (sz := s.heap.size)
  have hAE := k_AE hD0 hX
  generalize hAe : va_A [(h0, .inr (11, f0)), (h1, .inr (1, f1))] s.heap.size = A at hD hAE ⊢
  have hA : ∀ q : Nat, s.heap.size ≤ q → A q := fun q h => by rw [← hAe]; exact Or.inr h
  have hS : va_S A s.heap s.heap [] := va_S.rf
  have hP : va_P D vwCl [(h0, .inr (11, f0)), (h1, .inr (1, f1))] s.heap := hP
  have hl := lv_entry ([.ref h0, .int x0, .int x1] : List Value) (n := 3) (Nat.le_of_ble_eq_true rfl)
  rw [lg_entry_eq]
  generalize (lg_sl ([.ref h0, .int x0, .int x1]) ++ List.replicate (3 - (lg_sl ([.ref h0, .int x0, .int x1])).length) Slot.unset).toArray = ls at hl ⊢
  have hl : lv_has ls 3 [(0, .ref h0), (1, .int x0), (2, .int x1)] := hl
  refine lv_aload_n hx hb dX11_cut_0 rfl (lv_at hl 0 rfl) ?_
  refine k_get (D := D) (ci := 11) (v := .ref h1) (N := 15) hx hb hts hin11 hown hK hP 0 rfl rfl (by decide) f9_11_1 (hts (.fieldLink RX11 16 "IntegerHouse" "disk" "LIntegerHouse$Disk;") (o9_X11_cut _ (List.mem_of_getElem? (i := 0) rfl))) e0 dX11_cut_1 ?_
  refine k_getN (host := "IntegerHouse") (D := D) (ci := 1) (v := .int 0) (N := 9) hx hb hts hin1 hown hK hP 1 rfl rfl (by decide) f9_1_8 (va_Nw.use rfl (hN.1 ("IntegerHouse", 122, "IntegerHouse$Disk", "down", "Z", "IntegerHouse") (List.mem_of_getElem? (i := 3) rfl))) e1 dX11_cut_4 ?_
  refine lv_if_eq (tgt := 13) hx hb dX11_cut_7 (by decide) (fun _ => ?_) (fun c9 => absurd (by decide) c9)
  refine lv_iload_n hx hb dX11_cut_13 rfl (lv_at hl 1 rfl) ?_
  refine lv_iconst (v := (-1)) hx hb dX11_cut_14 (by decide) ?_
  refine lv_icmp_lt (tgt := 36) hx hb dX11_cut_15 (by decide) (fun c9 => absurd c9 e2) (fun _ => ?_)
  refine lv_iload_n hx hb dX11_cut_18 rfl (lv_at hl 1 rfl) ?_
  refine lv_sipush (v := 2000) hx hb dX11_cut_19 (by decide) ?_
  refine lv_icmp_gt (tgt := 36) hx hb dX11_cut_22 (by decide) (fun _ => ?_) (fun c9 => absurd ((k_n3 (x := x0) (c := 2000) (d := 2001) (by decide)).mpr e3) c9)
  refine lv_bipush (v := (-102)) hx hb dX11_cut_36 (by decide) ?_
  exact W.iret (v := (-102)) hx hb hr (fun t ht hW => ⟨⟨(-102), (), rfl, rfl, kB_mk ht hW hP hK hD⟩, hS.F ht⟩) hS.2.2 dX11_cut_38
set_option maxHeartbeats 400000000 in
set_option maxRecDepth 100000 in
theorem c_X12_in_8 (l : Launch) (E : kE) (D : va_G) (cI cJ cB cZ : ClassId) (y0 : Int64) (e0 : ¬ (((lg_cmp y0 (-1)) : Int32) < 0)) (e1 : (0 : Int32) < (lg_cmp y0 2000)) : kI l E D (kT cI cJ cB cZ) yX12_in vW_X12_in ({ frames := 0, cells := 0, slots := 0, locals := 0 }) [.long y0, .long (-1), .long 2000] [] (0) [] 0 0 := by
  intro sz
  refine Met.ofW (cc := cX12_in) (maxL := 6) (ret := (some .boolean)) (by decide) rfl ?_
  intro p e s m args below meth c s₁ B hml hv
  obtain ⟨rfl, hsz, hP, hK, hD0, hN, hX⟩ := hv
  have hx := B.exec
  have hb := B.bytes
  have hr := B.returns
  have hts := atoms_spec (ws := vW_X12_in) B.pre
  have hown : s.vm.findClass RX12 = some m.cls := findClass_of_methodNamed B.named
  have hlocks := B.notSynchronized
  subst hsz
  have hD := hD0.self (sz := s.heap.size)
  have hAE := k_AE hD0 hX
  generalize hAe : va_A [] s.heap.size = A at hD hAE ⊢
  have hA : ∀ q : Nat, s.heap.size ≤ q → A q := fun q h => by rw [← hAe]; exact Or.inr h
  have hS : va_S A s.heap s.heap [] := va_S.rf
  have hP : va_P D vwCl [] s.heap := hP
  have hl := lv_entry ([.long y0, .long (-1), .long 2000] : List Value) (n := 6) (Nat.le_of_ble_eq_true rfl)
  rw [lg_entry_eq]
  generalize (lg_sl ([.long y0, .long (-1), .long 2000]) ++ List.replicate (6 - (lg_sl ([.long y0, .long (-1), .long 2000])).length) Slot.unset).toArray = ls at hl ⊢
  have hl : lv_has ls 6 [(0, .long y0), (2, .long (-1)), (4, .long 2000)] := hl
  refine lv_lload_n hx hb dX12_in_0 rfl (lv_at hl 0 rfl) ?_
  refine lv_lload_n hx hb dX12_in_1 rfl (lv_at hl 1 rfl) ?_
  refine W.lcmp hx hb dX12_in_2 ?_
  refine lv_if_lt (tgt := 17) hx hb dX12_in_3 (by decide) (fun c9 => absurd c9 e0) (fun _ => ?_)
  refine lv_lload_n hx hb dX12_in_6 rfl (lv_at hl 0 rfl) ?_
  refine lv_lload hx hb dX12_in_7 (lv_at hl 2 rfl) ?_
  refine W.lcmp hx hb dX12_in_9 ?_
  refine lv_if_gt (tgt := 17) hx hb dX12_in_10 (by decide) (fun _ => ?_) (fun c9 => absurd e1 c9)
  refine lv_iconst (v := 0) hx hb dX12_in_17 (by decide) ?_
  exact W.zret (v := 0) hx hb hr rfl (fun t ht hW => ⟨⟨0, (), rfl, rfl, kB_mk ht hW hP hK hD⟩, hS.F ht⟩) hS.2.2 dX12_in_18
set_option maxHeartbeats 400000000 in
set_option maxRecDepth 100000 in
theorem c_X12_cut_4 (l : Launch) (E : kE) (D : va_G) (cI cJ cB cZ : ClassId) (h0 : Nat) (x0 : Int32) (x1 : Int32) (f0 : List Value) (e0 : f0[0]? = some (.int 0)) (e1 : f0[5]? = some (.int 0)) (e2 : ¬ ((x0 : Int32) < (-1))) (e3 : ¬ ((x0 : Int32) < 2001)) : kI l E D (kT cI cJ cB cZ) yX12_cut vW_X12_cut ({ frames := 1, cells := 0, slots := 0, locals := 25 }) [.ref h0, .int x0, .int x1] [(h0, .inr (12, f0))] ((-102)) [(h0, .inr (12, (f0.set 0 (.int 0))))] 0 0 := by
  intro sz
  refine Met.ofW (cc := cX12_cut) (maxL := 3) (ret := (some .int)) (by decide) rfl ?_
  intro p e s m args below meth c s₁ B hml hv
  obtain ⟨rfl, hsz, hP, hK, hD0, hN, hX⟩ := hv
  have hx := B.exec
  have hb := B.bytes
  have hr := B.returns
  have hts := atoms_spec (ws := vW_X12_cut) B.pre
  have hown : s.vm.findClass RX12 = some m.cls := findClass_of_methodNamed B.named
  have hlocks := B.notSynchronized
  have hin12 : ∀ w ∈ wsX120, w ∈ vW_X12_cut := u9_X12_cut_wsX120
  subst hsz
  have hD := hD0.self (sz := s.heap.size)
  have hAE := k_AE hD0 hX
  generalize hAe : va_A [(h0, .inr (12, f0))] s.heap.size = A at hD hAE ⊢
  have hA : ∀ q : Nat, s.heap.size ≤ q → A q := fun q h => by rw [← hAe]; exact Or.inr h
  have hS : va_S A s.heap s.heap [] := va_S.rf
  have hP : va_P D vwCl [(h0, .inr (12, f0))] s.heap := hP
  have hl := lv_entry ([.ref h0, .int x0, .int x1] : List Value) (n := 3) (Nat.le_of_ble_eq_true rfl)
  rw [lg_entry_eq]
  generalize (lg_sl ([.ref h0, .int x0, .int x1]) ++ List.replicate (3 - (lg_sl ([.ref h0, .int x0, .int x1])).length) Slot.unset).toArray = ls at hl ⊢
  have hl : lv_has ls 3 [(0, .ref h0), (1, .int x0), (2, .int x1)] := hl
  refine lv_aload_n hx hb dX12_cut_0 rfl (lv_at hl 0 rfl) ?_
  refine lv_iconst (v := 0) hx hb dX12_cut_1 (by decide) ?_
  refine k_put (D := D) (ci := 12) (v := .int 0) (ty := .int) (N := 195) hx hb hts hin12 tyX12 tyX12_ok nmX12 hown hK hP hD hS 0 rfl rfl (by decide) f9_12_0 (hts (.fieldLink RX12 3 "IntegerHouseModel" "thrown" "I") (o9_X12_cut _ (List.mem_of_getElem? (i := 0) rfl))) rfl pd_2 rfl rfl (k_len e0) dX12_cut_2 (fun H locs hP hD hS => ?_)
  have hP : va_P D vwCl [(h0, .inr (12, (f0.set 0 (.int 0))))] H := hP
  have hD : va_D A [(h0, .inr (12, (f0.set 0 (.int 0))))] := hD
  refine lv_aload_n hx hb dX12_cut_5 rfl (lv_at hl 0 rfl) ?_
  refine k_get (D := D) (ci := 12) (v := .int 0) (N := 195) hx hb hts hin12 hown hK hP 0 rfl rfl (by decide) f9_12_5 (hts (.fieldLink RX12 488 "IntegerHouseModel" "down" "Z") (o9_X12_cut _ (List.mem_of_getElem? (i := 1) rfl))) (k_ne (by decide) e1) dX12_cut_6 ?_
  refine lv_if_eq (tgt := 15) hx hb dX12_cut_9 (by decide) (fun _ => ?_) (fun c9 => absurd (by decide) c9)
  refine lv_iload_n hx hb dX12_cut_15 rfl (lv_at hl 1 rfl) ?_
  refine lv_i2l (v := (Int32.toInt64 x0)) hx hb dX12_cut_16 rfl ?_
  refine lv_ldc2 (own := RX12) (index := 526) (v := (-1)) hx hb hown (hts (.constantLong RX12 526 (-1)) (o9_X12_cut _ (List.mem_of_getElem? (i := 2) rfl))) dX12_cut_17 ?_
  refine lv_ldc2 (own := RX12) (index := 528) (v := 2000) hx hb hown (hts (.constantLong RX12 528 (2000)) (o9_X12_cut _ (List.mem_of_getElem? (i := 3) rfl))) dX12_cut_20 ?_
  refine k_cSi (As := [.long (Int32.toInt64 x0), .long (-1), .long 2000]) (rest := []) (wc := []) (wr := [(h0, .inr (12, (f0.set 0 (.int 0))))]) (w1 := []) ⟨hx, hb, hml, hown, hts⟩ hN hX hAE hK hP hD hS hA [] [0] rfl rfl (by decide +kernel) (by decide +kernel) (by decide +kernel) (c_X12_in_8 l E D cI cJ cB cZ (Int32.toInt64 x0) (fun z9 => e2 ((k_n4 (x := x0) (c := (-1)) (C := (-1)) (by decide)).mp z9)) ((k_n5 (x := x0) (c := 2000) (d := 2001) (C := 2000) (by decide) (by decide)).mpr e3)) (va_cwS 3 hts g9_X12_cut_X12_in_504 rfl rfl rfl (by decide +kernel) ⟨Nat.le_of_ble_eq_true rfl, Nat.le_of_ble_eq_true rfl⟩) rfl hl.1 (Nat.le_of_ble_eq_true rfl) dX12_cut_23 ⟨Nat.le_of_ble_eq_true rfl, Nat.le_of_ble_eq_true rfl⟩ (fun H locs hP hD hS => ?_)
  have hP : va_P D vwCl [(h0, .inr (12, (f0.set 0 (.int 0))))] H := hP
  have hD : va_D A [(h0, .inr (12, (f0.set 0 (.int 0))))] := hD
  refine lv_if_eq (tgt := 41) hx hb dX12_cut_26 (by decide) (fun _ => ?_) (fun c9 => absurd (by decide) c9)
  refine lv_bipush (v := (-102)) hx hb dX12_cut_41 (by decide) ?_
  exact W.iret (v := (-102)) hx hb hr (fun t ht hW => ⟨⟨(-102), (), rfl, rfl, kB_mk ht hW hP hK hD⟩, hS.F ht⟩) hS.2.2 dX12_cut_43
set_option maxHeartbeats 400000000 in
set_option maxRecDepth 100000 in
theorem c_X11_start_0 (l : Launch) (E : kE) (D : va_G) (cI cJ cB cZ : ClassId) (h0 : Nat) (f0 : List Value) (h1 : Nat) (f1 : List Value) (e0 : f0[1]? = some (.ref h1)) (e1 : f1[8]? = some (.int 0)) : kI l E D (kT cI cJ cB cZ) yX11_start vW_X11_start ({ frames := 0, cells := 0, slots := 0, locals := 0 }) [.ref h0] [(h0, .inr (11, f0)), (h1, .inr (1, f1))] ((-103)) [(h0, .inr (11, f0)), (h1, .inr (1, f1))] 0 0 := by
  intro sz
  refine Met.ofW (cc := cX11_start) (maxL := 7) (ret := (some .int)) (by decide) rfl ?_
  intro p e s m args below meth c s₁ B hml hv
  obtain ⟨rfl, hsz, hP, hK, hD0, hN, hX⟩ := hv
  have hx := B.exec
  have hb := B.bytes
  have hr := B.returns
  have hts := atoms_spec (ws := vW_X11_start) B.pre
  have hown : s.vm.findClass RX11 = some m.cls := findClass_of_methodNamed B.named
  have hlocks := B.notSynchronized
  have hin11 : ∀ w ∈ wsX110, w ∈ vW_X11_start := u9_X11_start_wsX110
  have hin1 : ∀ w ∈ wsX10, w ∈ vW_X11_start := u9_X11_start_wsX10
  subst hsz
  have hD := hD0.self (sz := s.heap.size)
  have hAE := k_AE hD0 hX
  generalize hAe : va_A [(h0, .inr (11, f0)), (h1, .inr (1, f1))] s.heap.size = A at hD hAE ⊢
  have hA : ∀ q : Nat, s.heap.size ≤ q → A q := fun q h => by rw [← hAe]; exact Or.inr h
  have hS : va_S A s.heap s.heap [] := va_S.rf
  have hP : va_P D vwCl [(h0, .inr (11, f0)), (h1, .inr (1, f1))] s.heap := hP
  have hl := lv_entry ([.ref h0] : List Value) (n := 7) (Nat.le_of_ble_eq_true rfl)
  rw [lg_entry_eq]
  generalize (lg_sl ([.ref h0]) ++ List.replicate (7 - (lg_sl ([.ref h0])).length) Slot.unset).toArray = ls at hl ⊢
  have hl : lv_has ls 7 [(0, .ref h0)] := hl
  refine lv_aload_n hx hb dX11_start_0 rfl (lv_at hl 0 rfl) ?_
  refine k_get (D := D) (ci := 11) (v := .ref h1) (N := 15) hx hb hts hin11 hown hK hP 0 rfl rfl (by decide) f9_11_1 (hts (.fieldLink RX11 16 "IntegerHouse" "disk" "LIntegerHouse$Disk;") (o9_X11_start _ (List.mem_of_getElem? (i := 0) rfl))) e0 dX11_start_1 ?_
  refine k_getN (host := "IntegerHouse") (D := D) (ci := 1) (v := .int 0) (N := 9) hx hb hts hin1 hown hK hP 1 rfl rfl (by decide) f9_1_8 (va_Nw.use rfl (hN.1 ("IntegerHouse", 122, "IntegerHouse$Disk", "down", "Z", "IntegerHouse") (List.mem_of_getElem? (i := 3) rfl))) e1 dX11_start_4 ?_
  refine lv_if_ne (tgt := 13) hx hb dX11_start_7 (by decide) (fun c9 => absurd (by decide) c9) (fun _ => ?_)
  refine lv_bipush (v := (-103)) hx hb dX11_start_10 (by decide) ?_
  exact W.iret (v := (-103)) hx hb hr (fun t ht hW => ⟨⟨(-103), (), rfl, rfl, kB_mk ht hW hP hK hD⟩, hS.F ht⟩) hS.2.2 dX11_start_12
set_option maxHeartbeats 400000000 in
set_option maxRecDepth 100000 in
theorem c_X12_start_0 (l : Launch) (E : kE) (D : va_G) (cI cJ cB cZ : ClassId) (h0 : Nat) (f0 : List Value) (e0 : f0[0]? = some (.int 0)) (e1 : f0[5]? = some (.int 0)) : kI l E D (kT cI cJ cB cZ) yX12_start vW_X12_start ({ frames := 0, cells := 0, slots := 0, locals := 0 }) [.ref h0] [(h0, .inr (12, f0))] ((-103)) [(h0, .inr (12, (f0.set 0 (.int 0))))] 0 0 := by
  intro sz
  refine Met.ofW (cc := cX12_start) (maxL := 3) (ret := (some .int)) (by decide) rfl ?_
  intro p e s m args below meth c s₁ B hml hv
  obtain ⟨rfl, hsz, hP, hK, hD0, hN, hX⟩ := hv
  have hx := B.exec
  have hb := B.bytes
  have hr := B.returns
  have hts := atoms_spec (ws := vW_X12_start) B.pre
  have hown : s.vm.findClass RX12 = some m.cls := findClass_of_methodNamed B.named
  have hlocks := B.notSynchronized
  have hin12 : ∀ w ∈ wsX120, w ∈ vW_X12_start := u9_X12_start_wsX120
  subst hsz
  have hD := hD0.self (sz := s.heap.size)
  have hAE := k_AE hD0 hX
  generalize hAe : va_A [(h0, .inr (12, f0))] s.heap.size = A at hD hAE ⊢
  have hA : ∀ q : Nat, s.heap.size ≤ q → A q := fun q h => by rw [← hAe]; exact Or.inr h
  have hS : va_S A s.heap s.heap [] := va_S.rf
  have hP : va_P D vwCl [(h0, .inr (12, f0))] s.heap := hP
  have hl := lv_entry ([.ref h0] : List Value) (n := 3) (Nat.le_of_ble_eq_true rfl)
  rw [lg_entry_eq]
  generalize (lg_sl ([.ref h0]) ++ List.replicate (3 - (lg_sl ([.ref h0])).length) Slot.unset).toArray = ls at hl ⊢
  have hl : lv_has ls 3 [(0, .ref h0)] := hl
  refine lv_aload_n hx hb dX12_start_0 rfl (lv_at hl 0 rfl) ?_
  refine lv_iconst (v := 0) hx hb dX12_start_1 (by decide) ?_
  refine k_put (D := D) (ci := 12) (v := .int 0) (ty := .int) (N := 195) hx hb hts hin12 tyX12 tyX12_ok nmX12 hown hK hP hD hS 0 rfl rfl (by decide) f9_12_0 (hts (.fieldLink RX12 3 "IntegerHouseModel" "thrown" "I") (o9_X12_start _ (List.mem_of_getElem? (i := 0) rfl))) rfl pd_2 rfl rfl (k_len e0) dX12_start_2 (fun H locs hP hD hS => ?_)
  have hP : va_P D vwCl [(h0, .inr (12, (f0.set 0 (.int 0))))] H := hP
  have hD : va_D A [(h0, .inr (12, (f0.set 0 (.int 0))))] := hD
  refine lv_aload_n hx hb dX12_start_5 rfl (lv_at hl 0 rfl) ?_
  refine k_get (D := D) (ci := 12) (v := .int 0) (N := 195) hx hb hts hin12 hown hK hP 0 rfl rfl (by decide) f9_12_5 (hts (.fieldLink RX12 488 "IntegerHouseModel" "down" "Z") (o9_X12_start _ (List.mem_of_getElem? (i := 1) rfl))) (k_ne (by decide) e1) dX12_start_6 ?_
  refine lv_if_ne (tgt := 15) hx hb dX12_start_9 (by decide) (fun c9 => absurd (by decide) c9) (fun _ => ?_)
  refine lv_bipush (v := (-103)) hx hb dX12_start_12 (by decide) ?_
  exact W.iret (v := (-103)) hx hb hr (fun t ht hW => ⟨⟨(-103), (), rfl, rfl, kB_mk ht hW hP hK hD⟩, hS.F ht⟩) hS.2.2 dX12_start_14
set_option maxHeartbeats 400000000 in
set_option maxRecDepth 100000 in
theorem c_X1_firstWrong_0 (l : Launch) (E : kE) (D : va_G) (cI cJ cB cZ : ClassId) (h0 : Nat) (f0 : List Value) (e0 : f0[5]? = some (.int 0)) : kI l E D (kT cI cJ cB cZ) yX1_firstWrong vW_X1_firstWrong ({ frames := 0, cells := 0, slots := 0, locals := 0 }) [.ref h0] [(h0, .inr (1, f0))] ((-1)) [(h0, .inr (1, f0))] 0 0 := by
  intro sz
  refine Met.ofW (cc := cX1_firstWrong) (maxL := 2) (ret := (some .int)) (by decide) rfl ?_
  intro p e s m args below meth c s₁ B hml hv
  obtain ⟨rfl, hsz, hP, hK, hD0, hN, hX⟩ := hv
  have hx := B.exec
  have hb := B.bytes
  have hr := B.returns
  have hts := atoms_spec (ws := vW_X1_firstWrong) B.pre
  have hown : s.vm.findClass RX1 = some m.cls := findClass_of_methodNamed B.named
  have hlocks := B.notSynchronized
  have hin1 : ∀ w ∈ wsX10, w ∈ vW_X1_firstWrong := u9_X1_firstWrong_wsX10
  subst hsz
  have hD := hD0.self (sz := s.heap.size)
  have hAE := k_AE hD0 hX
  generalize hAe : va_A [(h0, .inr (1, f0))] s.heap.size = A at hD hAE ⊢
  have hA : ∀ q : Nat, s.heap.size ≤ q → A q := fun q h => by rw [← hAe]; exact Or.inr h
  have hS : va_S A s.heap s.heap [] := va_S.rf
  have hP : va_P D vwCl [(h0, .inr (1, f0))] s.heap := hP
  have hl := lv_entry ([.ref h0] : List Value) (n := 2) (Nat.le_of_ble_eq_true rfl)
  rw [lg_entry_eq]
  generalize (lg_sl ([.ref h0]) ++ List.replicate (2 - (lg_sl ([.ref h0])).length) Slot.unset).toArray = ls at hl ⊢
  have hl : lv_has ls 2 [(0, .ref h0)] := hl
  refine lv_iconst (v := 1) hx hb dX1_firstWrong_0 (by decide) ?_
  refine lv_istore_n (lv' := [(1, .int 1), (0, .ref h0)]) hx hb dX1_firstWrong_1 rfl hl (by decide) rfl (fun ls hl => ?_)
  refine lv_iload_n hx hb dX1_firstWrong_2 rfl (lv_at hl 0 rfl) ?_
  refine lv_aload_n hx hb dX1_firstWrong_3 rfl (lv_at hl 1 rfl) ?_
  refine k_get (D := D) (ci := 1) (v := .int 0) (N := 9) hx hb hts hin1 hown hK hP 0 rfl rfl (by decide) f9_1_5 (hts (.fieldLink RX1 43 "IntegerHouse$Disk" "used" "I") (o9_X1_firstWrong _ (List.mem_of_getElem? (i := 0) rfl))) e0 dX1_firstWrong_4 ?_
  refine lv_icmp_gt (tgt := 26) hx hb dX1_firstWrong_7 (by decide) (fun _ => ?_) (fun c9 => absurd (by decide) c9)
  refine lv_iconst (v := (-1)) hx hb dX1_firstWrong_26 (by decide) ?_
  exact W.iret (v := (-1)) hx hb hr (fun t ht hW => ⟨⟨(-1), (), rfl, rfl, kB_mk ht hW hP hK hD⟩, hS.F ht⟩) hS.2.2 dX1_firstWrong_27
set_option maxHeartbeats 400000000 in
set_option maxRecDepth 100000 in
theorem c_X11_verify_0 (l : Launch) (E : kE) (D : va_G) (cI cJ cB cZ : ClassId) (h0 : Nat) (f0 : List Value) (h1 : Nat) (f1 : List Value) (e0 : f0[1]? = some (.ref h1)) (e1 : f1[8]? = some (.int 0)) (e2 : f1[5]? = some (.int 0)) : kI l E D (kT cI cJ cB cZ) yX11_verify vW_X11_verify ({ frames := 1, cells := 0, slots := 0, locals := 21 }) [.ref h0] [(h0, .inr (11, f0)), (h1, .inr (1, f1))] ((-1)) [(h0, .inr (11, f0)), (h1, .inr (1, f1))] 0 0 := by
  intro sz
  refine Met.ofW (cc := cX11_verify) (maxL := 1) (ret := (some .int)) (by decide) rfl ?_
  intro p e s m args below meth c s₁ B hml hv
  obtain ⟨rfl, hsz, hP, hK, hD0, hN, hX⟩ := hv
  have hx := B.exec
  have hb := B.bytes
  have hr := B.returns
  have hts := atoms_spec (ws := vW_X11_verify) B.pre
  have hown : s.vm.findClass RX11 = some m.cls := findClass_of_methodNamed B.named
  have hlocks := B.notSynchronized
  have hin11 : ∀ w ∈ wsX110, w ∈ vW_X11_verify := u9_X11_verify_wsX110
  have hin1 : ∀ w ∈ wsX10, w ∈ vW_X11_verify := u9_X11_verify_wsX10
  subst hsz
  have hD := hD0.self (sz := s.heap.size)
  have hAE := k_AE hD0 hX
  generalize hAe : va_A [(h0, .inr (11, f0)), (h1, .inr (1, f1))] s.heap.size = A at hD hAE ⊢
  have hA : ∀ q : Nat, s.heap.size ≤ q → A q := fun q h => by rw [← hAe]; exact Or.inr h
  have hS : va_S A s.heap s.heap [] := va_S.rf
  have hP : va_P D vwCl [(h0, .inr (11, f0)), (h1, .inr (1, f1))] s.heap := hP
  have hl := lv_entry ([.ref h0] : List Value) (n := 1) (Nat.le_of_ble_eq_true rfl)
  rw [lg_entry_eq]
  generalize (lg_sl ([.ref h0]) ++ List.replicate (1 - (lg_sl ([.ref h0])).length) Slot.unset).toArray = ls at hl ⊢
  have hl : lv_has ls 1 [(0, .ref h0)] := hl
  refine lv_aload_n hx hb dX11_verify_0 rfl (lv_at hl 0 rfl) ?_
  refine k_get (D := D) (ci := 11) (v := .ref h1) (N := 15) hx hb hts hin11 hown hK hP 0 rfl rfl (by decide) f9_11_1 (hts (.fieldLink RX11 16 "IntegerHouse" "disk" "LIntegerHouse$Disk;") (o9_X11_verify _ (List.mem_of_getElem? (i := 0) rfl))) e0 dX11_verify_1 ?_
  refine k_getN (host := "IntegerHouse") (D := D) (ci := 1) (v := .int 0) (N := 9) hx hb hts hin1 hown hK hP 1 rfl rfl (by decide) f9_1_8 (va_Nw.use rfl (hN.1 ("IntegerHouse", 122, "IntegerHouse$Disk", "down", "Z", "IntegerHouse") (List.mem_of_getElem? (i := 3) rfl))) e1 dX11_verify_4 ?_
  refine lv_if_eq (tgt := 15) hx hb dX11_verify_7 (by decide) (fun _ => ?_) (fun c9 => absurd (by decide) c9)
  refine lv_aload_n hx hb dX11_verify_15 rfl (lv_at hl 0 rfl) ?_
  refine k_get (D := D) (ci := 11) (v := .ref h1) (N := 15) hx hb hts hin11 hown hK hP 0 rfl rfl (by decide) f9_11_1 (hts (.fieldLink RX11 16 "IntegerHouse" "disk" "LIntegerHouse$Disk;") (o9_X11_verify _ (List.mem_of_getElem? (i := 0) rfl))) e0 dX11_verify_16 ?_
  refine k_cVi (As := []) (rest := []) (wc := [(h1, .inr (1, f1))]) (wr := [(h0, .inr (11, f0))]) (w1 := [(h1, .inr (1, f1))]) ⟨hx, hb, hml, hown, hts⟩ hN hX hAE hK hP hD hS hA [1] [0] (ci := 1) rfl rfl rfl rfl (by decide +kernel) (by decide +kernel) (by decide +kernel) (c_X1_firstWrong_0 l E D cI cJ cB cZ h1 f1 e2) (cwV 0 hts g9_X11_verify_X1_firstWrong_191 rfl rfl rfl (by decide +kernel) ⟨Nat.le_of_ble_eq_true rfl, Nat.le_of_ble_eq_true rfl⟩) rfl hl.1 (Nat.le_of_ble_eq_true rfl) dX11_verify_19 ⟨Nat.le_of_ble_eq_true rfl, Nat.le_of_ble_eq_true rfl⟩ (fun H locs hP hD hS => ?_)
  have hP : va_P D vwCl [(h0, .inr (11, f0)), (h1, .inr (1, f1))] H := hP
  have hD : va_D A [(h0, .inr (11, f0)), (h1, .inr (1, f1))] := hD
  exact W.iret (v := (-1)) hx hb hr (fun t ht hW => ⟨⟨(-1), (), rfl, rfl, kB_mk ht hW hP hK hD⟩, hS.F ht⟩) hS.2.2 dX11_verify_22
set_option maxHeartbeats 400000000 in
set_option maxRecDepth 100000 in
theorem c_X12_verify_0 (l : Launch) (E : kE) (D : va_G) (cI cJ cB cZ : ClassId) (h0 : Nat) (f0 : List Value) (e0 : f0[0]? = some (.int 0)) (e1 : f0[5]? = some (.int 0)) (e2 : f0[4]? = some (.int 0)) : kI l E D (kT cI cJ cB cZ) yX12_verify vW_X12_verify ({ frames := 0, cells := 0, slots := 0, locals := 0 }) [.ref h0] [(h0, .inr (12, f0))] ((-1)) [(h0, .inr (12, (f0.set 0 (.int 0))))] 0 0 := by
  intro sz
  refine Met.ofW (cc := cX12_verify) (maxL := 2) (ret := (some .int)) (by decide) rfl ?_
  intro p e s m args below meth c s₁ B hml hv
  obtain ⟨rfl, hsz, hP, hK, hD0, hN, hX⟩ := hv
  have hx := B.exec
  have hb := B.bytes
  have hr := B.returns
  have hts := atoms_spec (ws := vW_X12_verify) B.pre
  have hown : s.vm.findClass RX12 = some m.cls := findClass_of_methodNamed B.named
  have hlocks := B.notSynchronized
  have hin12 : ∀ w ∈ wsX120, w ∈ vW_X12_verify := u9_X12_verify_wsX120
  subst hsz
  have hD := hD0.self (sz := s.heap.size)
  have hAE := k_AE hD0 hX
  generalize hAe : va_A [(h0, .inr (12, f0))] s.heap.size = A at hD hAE ⊢
  have hA : ∀ q : Nat, s.heap.size ≤ q → A q := fun q h => by rw [← hAe]; exact Or.inr h
  have hS : va_S A s.heap s.heap [] := va_S.rf
  have hP : va_P D vwCl [(h0, .inr (12, f0))] s.heap := hP
  have hl := lv_entry ([.ref h0] : List Value) (n := 2) (Nat.le_of_ble_eq_true rfl)
  rw [lg_entry_eq]
  generalize (lg_sl ([.ref h0]) ++ List.replicate (2 - (lg_sl ([.ref h0])).length) Slot.unset).toArray = ls at hl ⊢
  have hl : lv_has ls 2 [(0, .ref h0)] := hl
  refine lv_aload_n hx hb dX12_verify_0 rfl (lv_at hl 0 rfl) ?_
  refine lv_iconst (v := 0) hx hb dX12_verify_1 (by decide) ?_
  refine k_put (D := D) (ci := 12) (v := .int 0) (ty := .int) (N := 195) hx hb hts hin12 tyX12 tyX12_ok nmX12 hown hK hP hD hS 0 rfl rfl (by decide) f9_12_0 (hts (.fieldLink RX12 3 "IntegerHouseModel" "thrown" "I") (o9_X12_verify _ (List.mem_of_getElem? (i := 0) rfl))) rfl pd_2 rfl rfl (k_len e0) dX12_verify_2 (fun H locs hP hD hS => ?_)
  have hP : va_P D vwCl [(h0, .inr (12, (f0.set 0 (.int 0))))] H := hP
  have hD : va_D A [(h0, .inr (12, (f0.set 0 (.int 0))))] := hD
  refine lv_aload_n hx hb dX12_verify_5 rfl (lv_at hl 0 rfl) ?_
  refine k_get (D := D) (ci := 12) (v := .int 0) (N := 195) hx hb hts hin12 hown hK hP 0 rfl rfl (by decide) f9_12_5 (hts (.fieldLink RX12 488 "IntegerHouseModel" "down" "Z") (o9_X12_verify _ (List.mem_of_getElem? (i := 1) rfl))) (k_ne (by decide) e1) dX12_verify_6 ?_
  refine lv_if_eq (tgt := 15) hx hb dX12_verify_9 (by decide) (fun _ => ?_) (fun c9 => absurd (by decide) c9)
  refine lv_iconst (v := 1) hx hb dX12_verify_15 (by decide) ?_
  refine lv_istore_n (lv' := [(1, .int 1), (0, .ref h0)]) hx hb dX12_verify_16 rfl hl (by decide) rfl (fun ls hl => ?_)
  refine lv_iload_n hx hb dX12_verify_17 rfl (lv_at hl 0 rfl) ?_
  refine lv_aload_n hx hb dX12_verify_18 rfl (lv_at hl 1 rfl) ?_
  refine k_get (D := D) (ci := 12) (v := .int 0) (N := 195) hx hb hts hin12 hown hK hP 0 rfl rfl (by decide) f9_12_4 (hts (.fieldLink RX12 478 "IntegerHouseModel" "used" "I") (o9_X12_verify _ (List.mem_of_getElem? (i := 2) rfl))) (k_ne (by decide) e2) dX12_verify_19 ?_
  refine lv_icmp_gt (tgt := 39) hx hb dX12_verify_22 (by decide) (fun _ => ?_) (fun c9 => absurd (by decide) c9)
  refine lv_iload_n hx hb dX12_verify_39 rfl (lv_at hl 0 rfl) ?_
  refine lv_aload_n hx hb dX12_verify_40 rfl (lv_at hl 1 rfl) ?_
  refine k_get (D := D) (ci := 12) (v := .int 0) (N := 195) hx hb hts hin12 hown hK hP 0 rfl rfl (by decide) f9_12_4 (hts (.fieldLink RX12 478 "IntegerHouseModel" "used" "I") (o9_X12_verify _ (List.mem_of_getElem? (i := 2) rfl))) (k_ne (by decide) e2) dX12_verify_41 ?_
  refine lv_icmp_gt (tgt := 51) hx hb dX12_verify_44 (by decide) (fun _ => ?_) (fun c9 => absurd (by decide) c9)
  refine lv_iconst (v := (-1)) hx hb dX12_verify_51 (by decide) ?_
  exact W.iret (v := (-1)) hx hb hr (fun t ht hW => ⟨⟨(-1), (), rfl, rfl, kB_mk ht hW hP hK hD⟩, hS.F ht⟩) hS.2.2 dX12_verify_52
set_option maxHeartbeats 400000000 in
set_option maxRecDepth 100000 in
theorem c_X1_isByte_0 (l : Launch) (E : kE) (D : va_G) (cI cJ cB cZ : ClassId) (x0 : Int32) (x1 : Int32) (e0 : ¬ ((x0 : Int32) < 1)) (e1 : (x0 : Int32) < 101) (e2 : ¬ ((x1 : Int32) < 0)) (e3 : (x1 : Int32) < 256) : kI l E D (kT cI cJ cB cZ) yX1_isByte vW_X1_isByte ({ frames := 0, cells := 0, slots := 0, locals := 0 }) [.int x0, .int x1] [] (1) [] 0 0 := by
  intro sz
  refine Met.ofW (cc := cX1_isByte) (maxL := 2) (ret := (some .boolean)) (by decide) rfl ?_
  intro p e s m args below meth c s₁ B hml hv
  obtain ⟨rfl, hsz, hP, hK, hD0, hN, hX⟩ := hv
  have hx := B.exec
  have hb := B.bytes
  have hr := B.returns
  have hts := atoms_spec (ws := vW_X1_isByte) B.pre
  have hown : s.vm.findClass RX1 = some m.cls := findClass_of_methodNamed B.named
  have hlocks := B.notSynchronized
  subst hsz
  have hD := hD0.self (sz := s.heap.size)
  have hAE := k_AE hD0 hX
  generalize hAe : va_A [] s.heap.size = A at hD hAE ⊢
  have hA : ∀ q : Nat, s.heap.size ≤ q → A q := fun q h => by rw [← hAe]; exact Or.inr h
  have hS : va_S A s.heap s.heap [] := va_S.rf
  have hP : va_P D vwCl [] s.heap := hP
  have hl := lv_entry ([.int x0, .int x1] : List Value) (n := 2) (Nat.le_of_ble_eq_true rfl)
  rw [lg_entry_eq]
  generalize (lg_sl ([.int x0, .int x1]) ++ List.replicate (2 - (lg_sl ([.int x0, .int x1])).length) Slot.unset).toArray = ls at hl ⊢
  have hl : lv_has ls 2 [(0, .int x0), (1, .int x1)] := hl
  refine lv_iload_n hx hb dX1_isByte_0 rfl (lv_at hl 0 rfl) ?_
  refine lv_iconst (v := 1) hx hb dX1_isByte_1 (by decide) ?_
  refine lv_icmp_lt (tgt := 26) hx hb dX1_isByte_2 (by decide) (fun c9 => absurd c9 e0) (fun _ => ?_)
  refine lv_iload_n hx hb dX1_isByte_5 rfl (lv_at hl 0 rfl) ?_
  refine lv_bipush (v := 100) hx hb dX1_isByte_6 (by decide) ?_
  refine lv_icmp_gt (tgt := 26) hx hb dX1_isByte_8 (by decide) (fun c9 => absurd c9 (fun z9 => (k_n3 (x := x0) (c := 100) (d := 101) (by decide)).mp z9 e1)) (fun _ => ?_)
  refine lv_iload_n hx hb dX1_isByte_11 rfl (lv_at hl 1 rfl) ?_
  refine lv_if_lt (tgt := 26) hx hb dX1_isByte_12 (by decide) (fun c9 => absurd c9 e2) (fun _ => ?_)
  refine lv_iload_n hx hb dX1_isByte_15 rfl (lv_at hl 1 rfl) ?_
  refine lv_sipush (v := 256) hx hb dX1_isByte_16 (by decide) ?_
  refine lv_icmp_ge (tgt := 26) hx hb dX1_isByte_19 (by decide) (fun c9 => absurd c9 (fun z9 => (k_n2 (x := x1) (c := 256)).mp z9 e3)) (fun _ => ?_)
  refine lv_iconst (v := 1) hx hb dX1_isByte_22 (by decide) ?_
  refine lv_goto (tgt := 27) hx hb dX1_isByte_23 (by decide) ?_
  exact W.zret (v := 1) hx hb hr rfl (fun t ht hW => ⟨⟨1, (), rfl, rfl, kB_mk ht hW hP hK hD⟩, hS.F ht⟩) hS.2.2 dX1_isByte_27
set_option maxHeartbeats 400000000 in
set_option maxRecDepth 100000 in
theorem c_X1_byteOf_0 (l : Launch) (E : kE) (D : va_G) (cI cJ cB cZ : ClassId) (h0 : Nat) (x0 : Int32) (x1 : Int32) (f0 : List Value) (h1 : Nat) (g0 : Nat → Int32) (e0 : ¬ ((x0 : Int32) < 1)) (e1 : (x0 : Int32) < 101) (e2 : ¬ ((x1 : Int32) < 0)) (e3 : (x1 : Int32) < 256) (e4 : f0[0]? = some (.ref h1)) (e5 : vp_in (((x0 - 1) * 256) + x1) 25600) (e6 : g0 (Int32.toNatClampNeg (((x0 - 1) * 256) + x1)) = 0) : kI l E D (kT cI cJ cB cZ) yX1_byteOf vW_X1_byteOf ({ frames := 1, cells := 0, slots := 0, locals := 21 }) [.ref h0, .int x0, .int x1] [(h0, .inr (1, f0)), (h1, .inl (cB, 25600, .inl g0))] (0) [(h0, .inr (1, f0)), (h1, .inl (cB, 25600, .inl g0))] 0 0 := by
  intro sz
  refine Met.ofW (cc := cX1_byteOf) (maxL := 3) (ret := (some .int)) (by decide) rfl ?_
  intro p e s m args below meth c s₁ B hml hv
  obtain ⟨rfl, hsz, hP, hK, hD0, hN, hX⟩ := hv
  have hx := B.exec
  have hb := B.bytes
  have hr := B.returns
  have hts := atoms_spec (ws := vW_X1_byteOf) B.pre
  have hown : s.vm.findClass RX1 = some m.cls := findClass_of_methodNamed B.named
  have hlocks := B.notSynchronized
  have hin1 : ∀ w ∈ wsX10, w ∈ vW_X1_byteOf := u9_X1_byteOf_wsX10
  subst hsz
  have hD := hD0.self (sz := s.heap.size)
  have hAE := k_AE hD0 hX
  generalize hAe : va_A [(h0, .inr (1, f0)), (h1, .inl (cB, 25600, .inl g0))] s.heap.size = A at hD hAE ⊢
  have hA : ∀ q : Nat, s.heap.size ≤ q → A q := fun q h => by rw [← hAe]; exact Or.inr h
  have hS : va_S A s.heap s.heap [] := va_S.rf
  have hP : va_P D vwCl [(h0, .inr (1, f0)), (h1, .inl (cB, 25600, .inl g0))] s.heap := hP
  have hl := lv_entry ([.ref h0, .int x0, .int x1] : List Value) (n := 3) (Nat.le_of_ble_eq_true rfl)
  rw [lg_entry_eq]
  generalize (lg_sl ([.ref h0, .int x0, .int x1]) ++ List.replicate (3 - (lg_sl ([.ref h0, .int x0, .int x1])).length) Slot.unset).toArray = ls at hl ⊢
  have hl : lv_has ls 3 [(0, .ref h0), (1, .int x0), (2, .int x1)] := hl
  refine lv_iload_n hx hb dX1_byteOf_0 rfl (lv_at hl 1 rfl) ?_
  refine lv_iload_n hx hb dX1_byteOf_1 rfl (lv_at hl 2 rfl) ?_
  refine k_cSi (As := [.int x0, .int x1]) (rest := []) (wc := []) (wr := [(h0, .inr (1, f0)), (h1, .inl (cB, 25600, .inl g0))]) (w1 := []) ⟨hx, hb, hml, hown, hts⟩ hN hX hAE hK hP hD hS hA [] [0, 1] rfl rfl (by decide +kernel) (by decide +kernel) (by decide +kernel) (c_X1_isByte_0 l E D cI cJ cB cZ x0 x1 e0 e1 e2 e3) (va_cwS 2 hts g9_X1_byteOf_X1_isByte_29 rfl rfl rfl (by decide +kernel) ⟨Nat.le_of_ble_eq_true rfl, Nat.le_of_ble_eq_true rfl⟩) rfl hl.1 (Nat.le_of_ble_eq_true rfl) dX1_byteOf_2 ⟨Nat.le_of_ble_eq_true rfl, Nat.le_of_ble_eq_true rfl⟩ (fun H locs hP hD hS => ?_)
  have hP : va_P D vwCl [(h0, .inr (1, f0)), (h1, .inl (cB, 25600, .inl g0))] H := hP
  have hD : va_D A [(h0, .inr (1, f0)), (h1, .inl (cB, 25600, .inl g0))] := hD
  refine lv_if_eq (tgt := 29) hx hb dX1_byteOf_5 (by decide) (fun c9 => absurd c9 (by decide)) (fun _ => ?_)
  refine lv_aload_n hx hb dX1_byteOf_8 rfl (lv_at hl 0 rfl) ?_
  refine k_get (D := D) (ci := 1) (v := .ref h1) (N := 9) hx hb hts hin1 hown hK hP 0 rfl rfl (by decide) f9_1_0 (hts (.fieldLink RX1 11 "IntegerHouse$Disk" "blocks" "[B") (o9_X1_byteOf _ (List.mem_of_getElem? (i := 3) rfl))) e4 dX1_byteOf_9 ?_
  refine lv_iload_n hx hb dX1_byteOf_12 rfl (lv_at hl 1 rfl) ?_
  refine lv_iconst (v := 1) hx hb dX1_byteOf_13 (by decide) ?_
  refine lv_isub hx hb dX1_byteOf_14 ?_
  refine lv_sipush (v := 256) hx hb dX1_byteOf_15 (by decide) ?_
  refine lv_imul hx hb dX1_byteOf_18 ?_
  refine lv_iload_n hx hb dX1_byteOf_19 rfl (lv_at hl 2 rfl) ?_
  refine lv_iadd hx hb dX1_byteOf_20 ?_
  refine va_bald hx hb hK hP 1 2 rfl rfl e5 dX1_byteOf_21 ?_
  refine k_topi (y := 0) e6 ?_
  refine lv_sipush (v := 255) hx hb dX1_byteOf_22 (by decide) ?_
  refine lv_iand hx hb dX1_byteOf_25 ?_
  refine k_topi (y := 0) (by decide) ?_
  refine lv_goto (tgt := 30) hx hb dX1_byteOf_26 (by decide) ?_
  exact W.iret (v := 0) hx hb hr (fun t ht hW => ⟨⟨0, (), rfl, rfl, kB_mk ht hW hP hK hD⟩, hS.F ht⟩) hS.2.2 dX1_byteOf_30
set_option maxHeartbeats 400000000 in
set_option maxRecDepth 100000 in
theorem c_X11_octet_0 (l : Launch) (E : kE) (D : va_G) (cI cJ cB cZ : ClassId) (h0 : Nat) (x0 : Int32) (x1 : Int32) (f0 : List Value) (h1 : Nat) (f1 : List Value) (h2 : Nat) (g0 : Nat → Int32) (e0 : ¬ ((x0 : Int32) < 1)) (e1 : (x0 : Int32) < 101) (e2 : ¬ ((x1 : Int32) < 0)) (e3 : (x1 : Int32) < 256) (e4 : f0[1]? = some (.ref h1)) (e5 : f1[0]? = some (.ref h2)) (e6 : g0 (Int32.toNatClampNeg (((x0 - 1) * 256) + x1)) = 0) (e7 : vp_in (((x0 - 1) * 256) + x1) 25600) : kI l E D (kT cI cJ cB cZ) yX11_octet vW_X11_octet ({ frames := 2, cells := 0, slots := 0, locals := 43 }) [.ref h0, .int x0, .int x1] [(h0, .inr (11, f0)), (h1, .inr (1, f1)), (h2, .inl (cB, 25600, .inl g0))] (0) [(h0, .inr (11, f0)), (h1, .inr (1, f1)), (h2, .inl (cB, 25600, .inl g0))] 0 0 := by
  intro sz
  refine Met.ofW (cc := cX11_octet) (maxL := 3) (ret := (some .int)) (by decide) rfl ?_
  intro p e s m args below meth c s₁ B hml hv
  obtain ⟨rfl, hsz, hP, hK, hD0, hN, hX⟩ := hv
  have hx := B.exec
  have hb := B.bytes
  have hr := B.returns
  have hts := atoms_spec (ws := vW_X11_octet) B.pre
  have hown : s.vm.findClass RX11 = some m.cls := findClass_of_methodNamed B.named
  have hlocks := B.notSynchronized
  have hin11 : ∀ w ∈ wsX110, w ∈ vW_X11_octet := u9_X11_octet_wsX110
  subst hsz
  have hD := hD0.self (sz := s.heap.size)
  have hAE := k_AE hD0 hX
  generalize hAe : va_A [(h0, .inr (11, f0)), (h1, .inr (1, f1)), (h2, .inl (cB, 25600, .inl g0))] s.heap.size = A at hD hAE ⊢
  have hA : ∀ q : Nat, s.heap.size ≤ q → A q := fun q h => by rw [← hAe]; exact Or.inr h
  have hS : va_S A s.heap s.heap [] := va_S.rf
  have hP : va_P D vwCl [(h0, .inr (11, f0)), (h1, .inr (1, f1)), (h2, .inl (cB, 25600, .inl g0))] s.heap := hP
  have hl := lv_entry ([.ref h0, .int x0, .int x1] : List Value) (n := 3) (Nat.le_of_ble_eq_true rfl)
  rw [lg_entry_eq]
  generalize (lg_sl ([.ref h0, .int x0, .int x1]) ++ List.replicate (3 - (lg_sl ([.ref h0, .int x0, .int x1])).length) Slot.unset).toArray = ls at hl ⊢
  have hl : lv_has ls 3 [(0, .ref h0), (1, .int x0), (2, .int x1)] := hl
  refine lv_iload_n hx hb dX11_octet_0 rfl (lv_at hl 1 rfl) ?_
  refine lv_iload_n hx hb dX11_octet_1 rfl (lv_at hl 2 rfl) ?_
  refine k_cSi (As := [.int x0, .int x1]) (rest := []) (wc := []) (wr := [(h0, .inr (11, f0)), (h1, .inr (1, f1)), (h2, .inl (cB, 25600, .inl g0))]) (w1 := []) ⟨hx, hb, hml, hown, hts⟩ hN hX hAE hK hP hD hS hA [] [0, 1, 2] rfl rfl (by decide +kernel) (by decide +kernel) (by decide +kernel) (c_X1_isByte_0 l E D cI cJ cB cZ x0 x1 e0 e1 e2 e3) (va_cwS 2 hts g9_X11_octet_X1_isByte_194 rfl rfl rfl (by decide +kernel) ⟨Nat.le_of_ble_eq_true rfl, Nat.le_of_ble_eq_true rfl⟩) rfl hl.1 (Nat.le_of_ble_eq_true rfl) dX11_octet_2 ⟨Nat.le_of_ble_eq_true rfl, Nat.le_of_ble_eq_true rfl⟩ (fun H locs hP hD hS => ?_)
  have hP : va_P D vwCl [(h0, .inr (11, f0)), (h1, .inr (1, f1)), (h2, .inl (cB, 25600, .inl g0))] H := hP
  have hD : va_D A [(h0, .inr (11, f0)), (h1, .inr (1, f1)), (h2, .inl (cB, 25600, .inl g0))] := hD
  refine lv_if_ne (tgt := 18) hx hb dX11_octet_5 (by decide) (fun _ => ?_) (fun c9 => absurd c9 (by decide))
  refine lv_aload_n hx hb dX11_octet_18 rfl (lv_at hl 0 rfl) ?_
  refine k_get (D := D) (ci := 11) (v := .ref h1) (N := 15) hx hb hts hin11 hown hK hP 0 rfl rfl (by decide) f9_11_1 (hts (.fieldLink RX11 16 "IntegerHouse" "disk" "LIntegerHouse$Disk;") (o9_X11_octet _ (List.mem_of_getElem? (i := 3) rfl))) e4 dX11_octet_19 ?_
  refine lv_iload_n hx hb dX11_octet_22 rfl (lv_at hl 1 rfl) ?_
  refine lv_iload_n hx hb dX11_octet_23 rfl (lv_at hl 2 rfl) ?_
  refine k_cVi (As := [.int x0, .int x1]) (rest := []) (wc := [(h1, .inr (1, f1)), (h2, .inl (cB, 25600, .inl g0))]) (wr := [(h0, .inr (11, f0))]) (w1 := [(h1, .inr (1, f1)), (h2, .inl (cB, 25600, .inl g0))]) ⟨hx, hb, hml, hown, hts⟩ hN hX hAE hK hP hD hS hA [1, 2] [0] (ci := 1) rfl rfl rfl rfl (by decide +kernel) (by decide +kernel) (by decide +kernel) (c_X1_byteOf_0 l E D cI cJ cB cZ h1 x0 x1 f1 h2 g0 e0 e1 e2 e3 e5 e7 e6) (cwV 2 hts g9_X11_octet_X1_byteOf_202 rfl rfl rfl (by decide +kernel) ⟨Nat.le_of_ble_eq_true rfl, Nat.le_of_ble_eq_true rfl⟩) rfl hl.1 (Nat.le_of_ble_eq_true rfl) dX11_octet_24 ⟨Nat.le_of_ble_eq_true rfl, Nat.le_of_ble_eq_true rfl⟩ (fun H locs hP hD hS => ?_)
  have hP : va_P D vwCl [(h0, .inr (11, f0)), (h1, .inr (1, f1)), (h2, .inl (cB, 25600, .inl g0))] H := hP
  have hD : va_D A [(h0, .inr (11, f0)), (h1, .inr (1, f1)), (h2, .inl (cB, 25600, .inl g0))] := hD
  exact W.iret (v := 0) hx hb hr (fun t ht hW => ⟨⟨0, (), rfl, rfl, kB_mk ht hW hP hK hD⟩, hS.F ht⟩) hS.2.2 dX11_octet_27
set_option maxHeartbeats 400000000 in
set_option maxRecDepth 100000 in
theorem c_L_octet_0 (l : Launch) (E : kE) (D : va_G) (cI cJ cB cZ : ClassId) (h0 : Nat) (x0 : Int32) (x1 : Int32) (h1 : Nat) (f0 : List Value) (h2 : Nat) (f1 : List Value) (h3 : Nat) (g0 : Nat → Int32) (g1 : Nat → Int64) (e0 : f0[1]? = some (.ref h2)) (e1 : f1[0]? = some (.ref h3)) (e2 : g0 (Int32.toNatClampNeg (((x0 - 1) * 256) + x1)) = 0) (e3 : ¬ ((x0 : Int32) < 1)) (e4 : (x0 : Int32) < 101) (e5 : ¬ ((x1 : Int32) < 0)) (e6 : (x1 : Int32) < 256) (e7 : vp_in (((x0 - 1) * 256) + x1) 25600) : kI l E D (kT cI cJ cB cZ) yL_octet vW_L_octet ({ frames := 3, cells := 0, slots := 0, locals := 65 }) [.ref h0, .int x0, .int x1, .ref h1] [(h0, .inr (11, f0)), (h2, .inr (1, f1)), (h3, .inl (cB, 25600, .inl g0)), (h1, .inl (cJ, 1, .inr (.inl g1)))] (0) [(h0, .inr (11, f0)), (h2, .inr (1, f1)), (h3, .inl (cB, 25600, .inl g0)), (h1, .inl (cJ, 1, .inr (.inl (vp_updL g1 0 0))))] 0 0 := by
  intro sz
  refine k_metH (cc := cL_octet) (maxL := 5) (ret := (some .int)) (hh := [(0, 10, 13, 25)]) (by decide) rfl ?_
  intro p e s m args below meth c s₁ B hml hv
  obtain ⟨rfl, hsz, hP, hK, hD0, hN, hX⟩ := hv
  have hx := B.exec
  have hb := B.bytes
  have hr := B.returns
  have hts := atoms_spec (ws := vW_L_octet) B.pre
  have hown : s.vm.findClass RL = some m.cls := findClass_of_methodNamed B.named
  have hlocks := B.notSynchronized
  subst hsz
  have hD := hD0.self (sz := s.heap.size)
  have hAE := k_AE hD0 hX
  generalize hAe : va_A [(h0, .inr (11, f0)), (h2, .inr (1, f1)), (h3, .inl (cB, 25600, .inl g0)), (h1, .inl (cJ, 1, .inr (.inl g1)))] s.heap.size = A at hD hAE ⊢
  have hA : ∀ q : Nat, s.heap.size ≤ q → A q := fun q h => by rw [← hAe]; exact Or.inr h
  have hS : va_S A s.heap s.heap [] := va_S.rf
  have hP : va_P D vwCl [(h0, .inr (11, f0)), (h2, .inr (1, f1)), (h3, .inl (cB, 25600, .inl g0)), (h1, .inl (cJ, 1, .inr (.inl g1)))] s.heap := hP
  have hl := lv_entry ([.ref h0, .int x0, .int x1, .ref h1] : List Value) (n := 5) (Nat.le_of_ble_eq_true rfl)
  rw [lg_entry_eq]
  generalize (lg_sl ([.ref h0, .int x0, .int x1, .ref h1]) ++ List.replicate (5 - (lg_sl ([.ref h0, .int x0, .int x1, .ref h1])).length) Slot.unset).toArray = ls at hl ⊢
  have hl : lv_has ls 5 [(0, .ref h0), (1, .int x0), (2, .int x1), (3, .ref h1)] := hl
  refine lv_aload_n hx hb dL_octet_0 rfl (lv_at hl 3 rfl) ?_
  refine lv_iconst (v := 0) hx hb dL_octet_1 (by decide) ?_
  refine lv_aload_n hx hb dL_octet_2 rfl (lv_at hl 0 rfl) ?_
  refine lv_iload_n hx hb dL_octet_3 rfl (lv_at hl 1 rfl) ?_
  refine lv_iload_n hx hb dL_octet_4 rfl (lv_at hl 2 rfl) ?_
  refine k_cVi (As := [.int x0, .int x1]) (rest := [.int 0, .ref h1]) (wc := [(h0, .inr (11, f0)), (h2, .inr (1, f1)), (h3, .inl (cB, 25600, .inl g0))]) (wr := [(h1, .inl (cJ, 1, .inr (.inl g1)))]) (w1 := [(h0, .inr (11, f0)), (h2, .inr (1, f1)), (h3, .inl (cB, 25600, .inl g0))]) ⟨hx, hb, hml, hown, hts⟩ hN hX hAE hK hP hD hS hA [0, 1, 2] [3] (ci := 11) rfl rfl rfl rfl (by decide +kernel) (by decide +kernel) (by decide +kernel) (c_X11_octet_0 l E D cI cJ cB cZ h0 x0 x1 f0 h2 f1 h3 g0 e3 e4 e5 e6 e0 e1 e2 e7) (cwV 2 hts g9_L_octet_X11_octet_21 rfl rfl rfl (by decide +kernel) ⟨Nat.le_of_ble_eq_true rfl, Nat.le_of_ble_eq_true rfl⟩) rfl hl.1 (Nat.le_of_ble_eq_true rfl) dL_octet_5 ⟨Nat.le_of_ble_eq_true rfl, Nat.le_of_ble_eq_true rfl⟩ (fun H locs hP hD hS => ?_)
  have hP : va_P D vwCl [(h1, .inl (cJ, 1, .inr (.inl g1))), (h0, .inr (11, f0)), (h2, .inr (1, f1)), (h3, .inl (cB, 25600, .inl g0))] H := hP
  have hD : va_D A [(h1, .inl (cJ, 1, .inr (.inl g1))), (h0, .inr (11, f0)), (h2, .inr (1, f1)), (h3, .inl (cB, 25600, .inl g0))] := hD
  refine lv_i2l (v := 0) hx hb dL_octet_8 (by decide) ?_
  refine va_last hx hb hK hP hD hS 0 1 rfl rfl (k_in (by decide)) dL_octet_9 (fun H locs hP hD hS => ?_)
  have hP : va_P D vwCl [(h1, .inl (cJ, 1, .inr (.inl (vp_updL g1 0 0)))), (h0, .inr (11, f0)), (h2, .inr (1, f1)), (h3, .inl (cB, 25600, .inl g0))] H := hP
  have hD : va_D A [(h1, .inl (cJ, 1, .inr (.inl (vp_updL g1 0 0)))), (h0, .inr (11, f0)), (h2, .inr (1, f1)), (h3, .inl (cB, 25600, .inl g0))] := hD
  refine lv_goto (tgt := 17) hx hb dL_octet_10 (by decide) ?_
  refine lv_iconst (v := 0) hx hb dL_octet_17 (by decide) ?_
  have hP := hP.sub (ws' := [(h0, .inr (11, f0)), (h2, .inr (1, f1)), (h3, .inl (cB, 25600, .inl g0)), (h1, .inl (cJ, 1, .inr (.inl (vp_updL g1 0 0))))]) [1, 2, 3, 0] rfl
  have hD := hD.sub (ws' := [(h0, .inr (11, f0)), (h2, .inr (1, f1)), (h3, .inl (cB, 25600, .inl g0)), (h1, .inl (cJ, 1, .inr (.inl (vp_updL g1 0 0))))]) [1, 2, 3, 0] (by decide +kernel) rfl
  exact W.iret (v := 0) hx hb hr (fun t ht hW => ⟨⟨0, (), rfl, rfl, kB_mk ht hW hP hK hD⟩, hS.F ht⟩) hS.2.2 dL_octet_18
set_option maxHeartbeats 400000000 in
set_option maxRecDepth 100000 in
theorem c_X12_in_9 (l : Launch) (E : kE) (D : va_G) (cI cJ cB cZ : ClassId) (y0 : Int64) (e0 : ¬ (((lg_cmp y0 1) : Int32) < 0)) (e1 : ¬ ((0 : Int32) < (lg_cmp y0 100))) : kI l E D (kT cI cJ cB cZ) yX12_in vW_X12_in ({ frames := 0, cells := 0, slots := 0, locals := 0 }) [.long y0, .long 1, .long 100] [] (1) [] 0 0 := by
  intro sz
  refine Met.ofW (cc := cX12_in) (maxL := 6) (ret := (some .boolean)) (by decide) rfl ?_
  intro p e s m args below meth c s₁ B hml hv
  obtain ⟨rfl, hsz, hP, hK, hD0, hN, hX⟩ := hv
  have hx := B.exec
  have hb := B.bytes
  have hr := B.returns
  have hts := atoms_spec (ws := vW_X12_in) B.pre
  have hown : s.vm.findClass RX12 = some m.cls := findClass_of_methodNamed B.named
  have hlocks := B.notSynchronized
  subst hsz
  have hD := hD0.self (sz := s.heap.size)
  have hAE := k_AE hD0 hX
  generalize hAe : va_A [] s.heap.size = A at hD hAE ⊢
  have hA : ∀ q : Nat, s.heap.size ≤ q → A q := fun q h => by rw [← hAe]; exact Or.inr h
  have hS : va_S A s.heap s.heap [] := va_S.rf
  have hP : va_P D vwCl [] s.heap := hP
  have hl := lv_entry ([.long y0, .long 1, .long 100] : List Value) (n := 6) (Nat.le_of_ble_eq_true rfl)
  rw [lg_entry_eq]
  generalize (lg_sl ([.long y0, .long 1, .long 100]) ++ List.replicate (6 - (lg_sl ([.long y0, .long 1, .long 100])).length) Slot.unset).toArray = ls at hl ⊢
  have hl : lv_has ls 6 [(0, .long y0), (2, .long 1), (4, .long 100)] := hl
  refine lv_lload_n hx hb dX12_in_0 rfl (lv_at hl 0 rfl) ?_
  refine lv_lload_n hx hb dX12_in_1 rfl (lv_at hl 1 rfl) ?_
  refine W.lcmp hx hb dX12_in_2 ?_
  refine lv_if_lt (tgt := 17) hx hb dX12_in_3 (by decide) (fun c9 => absurd c9 e0) (fun _ => ?_)
  refine lv_lload_n hx hb dX12_in_6 rfl (lv_at hl 0 rfl) ?_
  refine lv_lload hx hb dX12_in_7 (lv_at hl 2 rfl) ?_
  refine W.lcmp hx hb dX12_in_9 ?_
  refine lv_if_gt (tgt := 17) hx hb dX12_in_10 (by decide) (fun c9 => absurd c9 e1) (fun _ => ?_)
  refine lv_iconst (v := 1) hx hb dX12_in_13 (by decide) ?_
  refine lv_goto (tgt := 18) hx hb dX12_in_14 (by decide) ?_
  exact W.zret (v := 1) hx hb hr rfl (fun t ht hW => ⟨⟨1, (), rfl, rfl, kB_mk ht hW hP hK hD⟩, hS.F ht⟩) hS.2.2 dX12_in_18
set_option maxHeartbeats 400000000 in
set_option maxRecDepth 100000 in
theorem c_X12_at_0 (l : Launch) (E : kE) (D : va_G) (cI cJ cB cZ : ClassId) (h0 : Nat) (x0 : Int32) (x1 : Int32) (f0 : List Value) (h1 : Nat) (g0 : Nat → Int32) (e0 : f0[3]? = some (.ref h1)) (e1 : vp_in ((256 * x0) + x1) 25856) (e2 : g0 (Int32.toNatClampNeg ((256 * x0) + x1)) = 0) : kI l E D (kT cI cJ cB cZ) yX12_at vW_X12_at ({ frames := 0, cells := 0, slots := 0, locals := 0 }) [.ref h0, .int x0, .int x1] [(h0, .inr (12, f0)), (h1, .inl (cB, 25856, .inl g0))] (0) [(h0, .inr (12, f0)), (h1, .inl (cB, 25856, .inl g0))] 0 0 := by
  intro sz
  refine Met.ofW (cc := cX12_at) (maxL := 3) (ret := (some .int)) (by decide) rfl ?_
  intro p e s m args below meth c s₁ B hml hv
  obtain ⟨rfl, hsz, hP, hK, hD0, hN, hX⟩ := hv
  have hx := B.exec
  have hb := B.bytes
  have hr := B.returns
  have hts := atoms_spec (ws := vW_X12_at) B.pre
  have hown : s.vm.findClass RX12 = some m.cls := findClass_of_methodNamed B.named
  have hlocks := B.notSynchronized
  have hin12 : ∀ w ∈ wsX120, w ∈ vW_X12_at := u9_X12_at_wsX120
  subst hsz
  have hD := hD0.self (sz := s.heap.size)
  have hAE := k_AE hD0 hX
  generalize hAe : va_A [(h0, .inr (12, f0)), (h1, .inl (cB, 25856, .inl g0))] s.heap.size = A at hD hAE ⊢
  have hA : ∀ q : Nat, s.heap.size ≤ q → A q := fun q h => by rw [← hAe]; exact Or.inr h
  have hS : va_S A s.heap s.heap [] := va_S.rf
  have hP : va_P D vwCl [(h0, .inr (12, f0)), (h1, .inl (cB, 25856, .inl g0))] s.heap := hP
  have hl := lv_entry ([.ref h0, .int x0, .int x1] : List Value) (n := 3) (Nat.le_of_ble_eq_true rfl)
  rw [lg_entry_eq]
  generalize (lg_sl ([.ref h0, .int x0, .int x1]) ++ List.replicate (3 - (lg_sl ([.ref h0, .int x0, .int x1])).length) Slot.unset).toArray = ls at hl ⊢
  have hl : lv_has ls 3 [(0, .ref h0), (1, .int x0), (2, .int x1)] := hl
  refine lv_aload_n hx hb dX12_at_0 rfl (lv_at hl 0 rfl) ?_
  refine k_get (D := D) (ci := 12) (v := .ref h1) (N := 195) hx hb hts hin12 hown hK hP 0 rfl rfl (by decide) f9_12_3 (hts (.fieldLink RX12 19 "IntegerHouseModel" "disk" "[B") (o9_X12_at _ (List.mem_of_getElem? (i := 0) rfl))) e0 dX12_at_1 ?_
  refine lv_sipush (v := 256) hx hb dX12_at_4 (by decide) ?_
  refine lv_iload_n hx hb dX12_at_7 rfl (lv_at hl 1 rfl) ?_
  refine lv_imul hx hb dX12_at_8 ?_
  refine lv_iload_n hx hb dX12_at_9 rfl (lv_at hl 2 rfl) ?_
  refine lv_iadd hx hb dX12_at_10 ?_
  refine va_bald hx hb hK hP 1 2 rfl rfl e1 dX12_at_11 ?_
  refine k_topi (y := 0) e2 ?_
  refine lv_sipush (v := 255) hx hb dX12_at_12 (by decide) ?_
  refine lv_iand hx hb dX12_at_15 ?_
  refine k_topi (y := 0) (by decide) ?_
  exact W.iret (v := 0) hx hb hr (fun t ht hW => ⟨⟨0, (), rfl, rfl, kB_mk ht hW hP hK hD⟩, hS.F ht⟩) hS.2.2 dX12_at_16
set_option maxHeartbeats 400000000 in
set_option maxRecDepth 100000 in
theorem c_X12_octet_0 (l : Launch) (E : kE) (D : va_G) (cI cJ cB cZ : ClassId) (h0 : Nat) (x0 : Int32) (x1 : Int32) (f0 : List Value) (h1 : Nat) (g0 : Nat → Int32) (e0 : ¬ ((x0 : Int32) < 1)) (e1 : (x0 : Int32) < 101) (e2 : ¬ ((x1 : Int32) < 0)) (e3 : (x1 : Int32) < 256) (e4 : f0[0]? = some (.int 0)) (e5 : f0[3]? = some (.ref h1)) (e6 : g0 (Int32.toNatClampNeg ((256 * x0) + x1)) = 0) (e7 : vp_in ((256 * x0) + x1) 25856) : kI l E D (kT cI cJ cB cZ) yX12_octet vW_X12_octet ({ frames := 1, cells := 0, slots := 0, locals := 25 }) [.ref h0, .int x0, .int x1] [(h0, .inr (12, f0)), (h1, .inl (cB, 25856, .inl g0))] (0) [(h0, .inr (12, (f0.set 0 (.int 0)))), (h1, .inl (cB, 25856, .inl g0))] 0 0 := by
  intro sz
  refine Met.ofW (cc := cX12_octet) (maxL := 3) (ret := (some .int)) (by decide) rfl ?_
  intro p e s m args below meth c s₁ B hml hv
  obtain ⟨rfl, hsz, hP, hK, hD0, hN, hX⟩ := hv
  have hx := B.exec
  have hb := B.bytes
  have hr := B.returns
  have hts := atoms_spec (ws := vW_X12_octet) B.pre
  have hown : s.vm.findClass RX12 = some m.cls := findClass_of_methodNamed B.named
  have hlocks := B.notSynchronized
  have hin12 : ∀ w ∈ wsX120, w ∈ vW_X12_octet := u9_X12_octet_wsX120
  subst hsz
  have hD := hD0.self (sz := s.heap.size)
  have hAE := k_AE hD0 hX
  generalize hAe : va_A [(h0, .inr (12, f0)), (h1, .inl (cB, 25856, .inl g0))] s.heap.size = A at hD hAE ⊢
  have hA : ∀ q : Nat, s.heap.size ≤ q → A q := fun q h => by rw [← hAe]; exact Or.inr h
  have hS : va_S A s.heap s.heap [] := va_S.rf
  have hP : va_P D vwCl [(h0, .inr (12, f0)), (h1, .inl (cB, 25856, .inl g0))] s.heap := hP
  have hl := lv_entry ([.ref h0, .int x0, .int x1] : List Value) (n := 3) (Nat.le_of_ble_eq_true rfl)
  rw [lg_entry_eq]
  generalize (lg_sl ([.ref h0, .int x0, .int x1]) ++ List.replicate (3 - (lg_sl ([.ref h0, .int x0, .int x1])).length) Slot.unset).toArray = ls at hl ⊢
  have hl : lv_has ls 3 [(0, .ref h0), (1, .int x0), (2, .int x1)] := hl
  refine lv_aload_n hx hb dX12_octet_0 rfl (lv_at hl 0 rfl) ?_
  refine lv_iload_n hx hb dX12_octet_1 rfl (lv_at hl 1 rfl) ?_
  refine lv_i2l (v := (Int32.toInt64 x0)) hx hb dX12_octet_2 rfl ?_
  refine lv_lconst (v := 1) hx hb dX12_octet_3 (by decide) ?_
  refine lv_ldc2 (own := RX12) (index := 560) (v := 100) hx hb hown (hts (.constantLong RX12 560 (100)) (o9_X12_octet _ (List.mem_of_getElem? (i := 0) rfl))) dX12_octet_4 ?_
  refine k_cSi (As := [.long (Int32.toInt64 x0), .long 1, .long 100]) (rest := [.ref h0]) (wc := []) (wr := [(h0, .inr (12, f0)), (h1, .inl (cB, 25856, .inl g0))]) (w1 := []) ⟨hx, hb, hml, hown, hts⟩ hN hX hAE hK hP hD hS hA [] [0, 1] rfl rfl (by decide +kernel) (by decide +kernel) (by decide +kernel) (c_X12_in_9 l E D cI cJ cB cZ (Int32.toInt64 x0) (fun z9 => e0 ((k_n4 (x := x0) (c := 1) (C := 1) (by decide)).mp z9)) (fun z9 => (k_n5 (x := x0) (c := 100) (d := 101) (C := 100) (by decide) (by decide)).mp z9 e1)) (va_cwS 3 hts g9_X12_octet_X12_in_504 rfl rfl rfl (by decide +kernel) ⟨Nat.le_of_ble_eq_true rfl, Nat.le_of_ble_eq_true rfl⟩) rfl hl.1 (Nat.le_of_ble_eq_true rfl) dX12_octet_7 ⟨Nat.le_of_ble_eq_true rfl, Nat.le_of_ble_eq_true rfl⟩ (fun H locs hP hD hS => ?_)
  have hP : va_P D vwCl [(h0, .inr (12, f0)), (h1, .inl (cB, 25856, .inl g0))] H := hP
  have hD : va_D A [(h0, .inr (12, f0)), (h1, .inl (cB, 25856, .inl g0))] := hD
  refine lv_if_eq (tgt := 29) hx hb dX12_octet_10 (by decide) (fun c9 => absurd c9 (by decide)) (fun _ => ?_)
  refine lv_iload_n hx hb dX12_octet_13 rfl (lv_at hl 2 rfl) ?_
  refine lv_i2l (v := (Int32.toInt64 x1)) hx hb dX12_octet_14 rfl ?_
  refine lv_lconst (v := 0) hx hb dX12_octet_15 (by decide) ?_
  refine lv_ldc2 (own := RX12) (index := 530) (v := 255) hx hb hown (hts (.constantLong RX12 530 (255)) (o9_X12_octet _ (List.mem_of_getElem? (i := 4) rfl))) dX12_octet_16 ?_
  refine k_cSi (As := [.long (Int32.toInt64 x1), .long 0, .long 255]) (rest := [.ref h0]) (wc := []) (wr := [(h0, .inr (12, f0)), (h1, .inl (cB, 25856, .inl g0))]) (w1 := []) ⟨hx, hb, hml, hown, hts⟩ hN hX hAE hK hP hD hS hA [] [0, 1] rfl rfl (by decide +kernel) (by decide +kernel) (by decide +kernel) (c_X12_in_4 l E D cI cJ cB cZ (Int32.toInt64 x1) (fun z9 => e2 ((k_n4 (x := x1) (c := 0) (C := 0) (by decide)).mp z9)) (fun z9 => (k_n5 (x := x1) (c := 255) (d := 256) (C := 255) (by decide) (by decide)).mp z9 e3)) (va_cwS 3 hts g9_X12_octet_X12_in_504 rfl rfl rfl (by decide +kernel) ⟨Nat.le_of_ble_eq_true rfl, Nat.le_of_ble_eq_true rfl⟩) rfl hl.1 (Nat.le_of_ble_eq_true rfl) dX12_octet_19 ⟨Nat.le_of_ble_eq_true rfl, Nat.le_of_ble_eq_true rfl⟩ (fun H locs hP hD hS => ?_)
  have hP : va_P D vwCl [(h0, .inr (12, f0)), (h1, .inl (cB, 25856, .inl g0))] H := hP
  have hD : va_D A [(h0, .inr (12, f0)), (h1, .inl (cB, 25856, .inl g0))] := hD
  refine lv_if_eq (tgt := 29) hx hb dX12_octet_22 (by decide) (fun c9 => absurd c9 (by decide)) (fun _ => ?_)
  refine lv_iconst (v := 0) hx hb dX12_octet_25 (by decide) ?_
  refine lv_goto (tgt := 30) hx hb dX12_octet_26 (by decide) ?_
  refine k_put (D := D) (ci := 12) (v := .int 0) (ty := .int) (N := 195) hx hb hts hin12 tyX12 tyX12_ok nmX12 hown hK hP hD hS 0 rfl rfl (by decide) f9_12_0 (hts (.fieldLink RX12 3 "IntegerHouseModel" "thrown" "I") (o9_X12_octet _ (List.mem_of_getElem? (i := 5) rfl))) rfl pd_2 rfl rfl (k_len e4) dX12_octet_30 (fun H locs hP hD hS => ?_)
  have hP : va_P D vwCl [(h0, .inr (12, (f0.set 0 (.int 0)))), (h1, .inl (cB, 25856, .inl g0))] H := hP
  have hD : va_D A [(h0, .inr (12, (f0.set 0 (.int 0)))), (h1, .inl (cB, 25856, .inl g0))] := hD
  refine lv_aload_n hx hb dX12_octet_33 rfl (lv_at hl 0 rfl) ?_
  refine k_get (D := D) (ci := 12) (v := .int 0) (N := 195) hx hb hts hin12 hown hK hP 0 rfl rfl (by decide) f9_12_0 (hts (.fieldLink RX12 3 "IntegerHouseModel" "thrown" "I") (o9_X12_octet _ (List.mem_of_getElem? (i := 5) rfl))) (k_set e4) dX12_octet_34 ?_
  refine lv_if_le (tgt := 44) hx hb dX12_octet_37 (by decide) (fun _ => ?_) (fun c9 => absurd (by decide) c9)
  refine lv_aload_n hx hb dX12_octet_44 rfl (lv_at hl 0 rfl) ?_
  refine lv_iload_n hx hb dX12_octet_45 rfl (lv_at hl 1 rfl) ?_
  refine lv_iload_n hx hb dX12_octet_46 rfl (lv_at hl 2 rfl) ?_
  refine k_cVi (As := [.int x0, .int x1]) (rest := []) (wc := [(h0, .inr (12, (f0.set 0 (.int 0)))), (h1, .inl (cB, 25856, .inl g0))]) (wr := []) (w1 := [(h0, .inr (12, (f0.set 0 (.int 0)))), (h1, .inl (cB, 25856, .inl g0))]) ⟨hx, hb, hml, hown, hts⟩ hN hX hAE hK hP hD hS hA [0, 1] [] (ci := 12) rfl rfl rfl rfl (by decide +kernel) (by decide +kernel) (by decide +kernel) (c_X12_at_0 l E D cI cJ cB cZ h0 x0 x1 ((f0.set 0 (.int 0))) h1 g0 (k_ne (by decide) e5) e7 e6) (cwV 2 hts g9_X12_octet_X12_at_509 rfl rfl rfl (by decide +kernel) ⟨Nat.le_of_ble_eq_true rfl, Nat.le_of_ble_eq_true rfl⟩) rfl hl.1 (Nat.le_of_ble_eq_true rfl) dX12_octet_47 ⟨Nat.le_of_ble_eq_true rfl, Nat.le_of_ble_eq_true rfl⟩ (fun H locs hP hD hS => ?_)
  have hP : va_P D vwCl [(h0, .inr (12, (f0.set 0 (.int 0)))), (h1, .inl (cB, 25856, .inl g0))] H := hP
  have hD : va_D A [(h0, .inr (12, (f0.set 0 (.int 0)))), (h1, .inl (cB, 25856, .inl g0))] := hD
  exact W.iret (v := 0) hx hb hr (fun t ht hW => ⟨⟨0, (), rfl, rfl, kB_mk ht hW hP hK hD⟩, hS.F ht⟩) hS.2.2 dX12_octet_50
