theorem dX12_tries_0 : decode cX12_tries 0 = .ok (.aload_n 0, 1) := by decide +kernel
theorem dX12_tries_1 : decode cX12_tries 1 = .ok (.invokevirtual 934, 3) := by decide +kernel
theorem dX12_tries_4 : decode cX12_tries 4 = .ok (.iconst 0, 1) := by decide +kernel
theorem dX12_tries_5 : decode cX12_tries 5 = .ok (.istore_n 1, 1) := by decide +kernel
theorem dX12_tries_6 : decode cX12_tries 6 = .ok (.iload_n 1, 1) := by decide +kernel
theorem dX12_tries_7 : decode cX12_tries 7 = .ok (.aload_n 0, 1) := by decide +kernel
theorem dX12_tries_8 : decode cX12_tries 8 = .ok (.getfield 818, 3) := by decide +kernel
theorem dX12_tries_11 : decode cX12_tries 11 = .ok (.if_icmp .ge 32, 3) := by decide +kernel
theorem dX12_tries_43 : decode cX12_tries 43 = .ok (.aload_n 0, 1) := by decide +kernel
theorem dX12_tries_44 : decode cX12_tries 44 = .ok (.invokevirtual 985, 3) := by decide +kernel
theorem dX12_tries_47 : decode cX12_tries 47 = .ok (.ifCond .ne 6, 3) := by decide +kernel
theorem dX12_tries_53 : decode cX12_tries 53 = .ok (.aload_n 0, 1) := by decide +kernel
theorem dX12_tries_54 : decode cX12_tries 54 = .ok (.iconst 0, 1) := by decide +kernel
theorem dX12_tries_55 : decode cX12_tries 55 = .ok (.iconst 0, 1) := by decide +kernel
theorem dX12_tries_56 : decode cX12_tries 56 = .ok (.iconst (-1), 1) := by decide +kernel
theorem dX12_tries_57 : decode cX12_tries 57 = .ok (.invokevirtual 988, 3) := by decide +kernel
theorem dX12_tries_60 : decode cX12_tries 60 = .ok (.aload_n 0, 1) := by decide +kernel
theorem dX12_tries_61 : decode cX12_tries 61 = .ok (.invokevirtual 976, 3) := by decide +kernel
theorem dX12_tries_64 : decode cX12_tries 64 = .ok (.aload_n 0, 1) := by decide +kernel
theorem dX12_tries_65 : decode cX12_tries 65 = .ok (.getfield 349, 3) := by decide +kernel
theorem dX12_tries_68 : decode cX12_tries 68 = .ok (.iconst 0, 1) := by decide +kernel
theorem dX12_tries_69 : decode cX12_tries 69 = .ok (.iaload, 1) := by decide +kernel
theorem dX12_tries_70 : decode cX12_tries 70 = .ok (.iconst (-1), 1) := by decide +kernel
theorem dX12_tries_71 : decode cX12_tries 71 = .ok (.if_icmp .ne 7, 3) := by decide +kernel
theorem dX12_tries_78 : decode cX12_tries 78 = .ok (.iconst 1, 1) := by decide +kernel
theorem dX12_tries_79 : decode cX12_tries 79 = .ok (.ireturn, 1) := by decide +kernel
theorem dX12_leaveNoneOut_0 : decode cX12_leaveNoneOut 0 = .ok (.iconst 0, 1) := by decide +kernel
theorem dX12_leaveNoneOut_1 : decode cX12_leaveNoneOut 1 = .ok (.istore_n 1, 1) := by decide +kernel
theorem dX12_leaveNoneOut_2 : decode cX12_leaveNoneOut 2 = .ok (.iload_n 1, 1) := by decide +kernel
theorem dX12_leaveNoneOut_3 : decode cX12_leaveNoneOut 3 = .ok (.bipush 24, 2) := by decide +kernel
theorem dX12_leaveNoneOut_5 : decode cX12_leaveNoneOut 5 = .ok (.if_icmp .ge 16, 3) := by decide +kernel
theorem dX12_leaveNoneOut_8 : decode cX12_leaveNoneOut 8 = .ok (.aload_n 0, 1) := by decide +kernel
theorem dX12_leaveNoneOut_9 : decode cX12_leaveNoneOut 9 = .ok (.getfield 340, 3) := by decide +kernel
theorem dX12_leaveNoneOut_12 : decode cX12_leaveNoneOut 12 = .ok (.iload_n 1, 1) := by decide +kernel
theorem dX12_leaveNoneOut_13 : decode cX12_leaveNoneOut 13 = .ok (.iconst 0, 1) := by decide +kernel
theorem dX12_leaveNoneOut_14 : decode cX12_leaveNoneOut 14 = .ok (.bastore, 1) := by decide +kernel
theorem dX12_leaveNoneOut_15 : decode cX12_leaveNoneOut 15 = .ok (.iinc 1 1, 3) := by decide +kernel
theorem dX12_leaveNoneOut_18 : decode cX12_leaveNoneOut 18 = .ok (.goto (-16), 3) := by decide +kernel
theorem dX12_leaveNoneOut_21 : decode cX12_leaveNoneOut 21 = .ok (.return_, 1) := by decide +kernel
theorem dX12_core_0 : decode cX12_core 0 = .ok (.aload_n 0, 1) := by decide +kernel
theorem dX12_core_1 : decode cX12_core 1 = .ok (.invokevirtual 871, 3) := by decide +kernel
theorem dX12_core_4 : decode cX12_core 4 = .ok (.ifCond .ne 6, 3) := by decide +kernel
theorem dX12_core_10 : decode cX12_core 10 = .ok (.aload_n 0, 1) := by decide +kernel
theorem dX12_core_11 : decode cX12_core 11 = .ok (.invokevirtual 1044, 3) := by decide +kernel
theorem dX12_core_14 : decode cX12_core 14 = .ok (.aload_n 0, 1) := by decide +kernel
theorem dX12_core_15 : decode cX12_core 15 = .ok (.invokevirtual 1047, 3) := by decide +kernel
theorem dX12_core_18 : decode cX12_core 18 = .ok (.istore_n 1, 1) := by decide +kernel
theorem dX12_core_19 : decode cX12_core 19 = .ok (.iload_n 1, 1) := by decide +kernel
theorem dX12_core_20 : decode cX12_core 20 = .ok (.bipush (-107), 2) := by decide +kernel
theorem dX12_core_22 : decode cX12_core 22 = .ok (.if_icmp .ne 6, 3) := by decide +kernel
theorem dX12_core_28 : decode cX12_core 28 = .ok (.aload_n 0, 1) := by decide +kernel
theorem dX12_core_29 : decode cX12_core 29 = .ok (.iconst 0, 1) := by decide +kernel
theorem dX12_core_30 : decode cX12_core 30 = .ok (.putfield 1050, 3) := by decide +kernel
theorem dX12_core_33 : decode cX12_core 33 = .ok (.iload_n 1, 1) := by decide +kernel
theorem dX12_core_34 : decode cX12_core 34 = .ok (.iconst 1, 1) := by decide +kernel
theorem dX12_core_35 : decode cX12_core 35 = .ok (.if_icmp .ne 5, 3) := by decide +kernel
theorem dX12_core_38 : decode cX12_core 38 = .ok (.iconst 0, 1) := by decide +kernel
theorem dX12_core_39 : decode cX12_core 39 = .ok (.ireturn, 1) := by decide +kernel
set_option maxHeartbeats 400000000 in
set_option maxRecDepth 100000 in
theorem c_X12_leaveNoneOut_0 (l : Launch) (E : kE) (D : va_G) (cI cJ cB cZ : ClassId) (h0 : Nat) (f0 : List Value) (h1 : Nat) (g0 : Nat → Int32) (e0 : f0[134]? = some (.ref h1)) : kV l E D (kT cI cJ cB cZ) yX12_leaveNoneOut vW_X12_leaveNoneOut ({ frames := 0, cells := 0, slots := 0, locals := 0 }) [.ref h0] [(h0, .inr (12, f0)), (h1, .inl (cZ, 24, .inl g0))] (fun _ : Unit => [(h0, .inr (12, f0)), (h1, .inl (cZ, 24, .inl (upd (upd (upd (upd (upd (upd (upd (upd (upd (upd (upd (upd (upd (upd (upd (upd (upd (upd (upd (upd (upd (upd (upd (upd g0 0 0) 1 0) 2 0) 3 0) 4 0) 5 0) 6 0) 7 0) 8 0) 9 0) 10 0) 11 0) 12 0) 13 0) 14 0) 15 0) 16 0) 17 0) 18 0) 19 0) 20 0) 21 0) 22 0) 23 0)))]) 0 0 := by
  intro sz
  refine Met.ofW (cc := cX12_leaveNoneOut) (maxL := 2) (ret := none) (by decide) rfl ?_
  intro p e s m args below meth c s₁ B hml hv
  obtain ⟨rfl, hsz, hP, hK, hD0, hN, hX⟩ := hv
  have hx := B.exec
  have hb := B.bytes
  have hr := B.returns
  have hts := atoms_spec (ws := vW_X12_leaveNoneOut) B.pre
  have hown : s.vm.findClass RX12 = some m.cls := findClass_of_methodNamed B.named
  have hlocks := B.notSynchronized
  have hin12 : ∀ w ∈ wsX120, w ∈ vW_X12_leaveNoneOut := u9_X12_leaveNoneOut_wsX120
  subst hsz
  have hD := hD0.self (sz := s.heap.size)
  have hAE := k_AE hD0 hX
  generalize hAe : va_A [(h0, .inr (12, f0)), (h1, .inl (cZ, 24, .inl g0))] s.heap.size = A at hD hAE ⊢
  have hA : ∀ q : Nat, s.heap.size ≤ q → A q := fun q h => by rw [← hAe]; exact Or.inr h
  have hS : va_S A s.heap s.heap [] := va_S.rf
  have hP : va_P D vwCl [(h0, .inr (12, f0)), (h1, .inl (cZ, 24, .inl g0))] s.heap := hP
  have hl := lv_entry ([.ref h0] : List Value) (n := 2) (Nat.le_of_ble_eq_true rfl)
  rw [lg_entry_eq]
  generalize (lg_sl ([.ref h0]) ++ List.replicate (2 - (lg_sl ([.ref h0])).length) Slot.unset).toArray = ls at hl ⊢
  have hl : lv_has ls 2 [(0, .ref h0)] := hl
  refine lv_iconst (v := 0) hx hb dX12_leaveNoneOut_0 (by decide) ?_
  refine lv_istore_n (lv' := [(1, .int 0), (0, .ref h0)]) hx hb dX12_leaveNoneOut_1 rfl hl (by decide) rfl (fun ls hl => ?_)
  refine lv_iload_n hx hb dX12_leaveNoneOut_2 rfl (lv_at hl 0 rfl) ?_
  refine lv_bipush (v := 24) hx hb dX12_leaveNoneOut_3 (by decide) ?_
  refine lv_icmp_ge (tgt := 21) hx hb dX12_leaveNoneOut_5 (by decide) (fun c9 => absurd c9 (by decide)) (fun _ => ?_)
  refine lv_aload_n hx hb dX12_leaveNoneOut_8 rfl (lv_at hl 1 rfl) ?_
  refine k_get (D := D) (ci := 12) (v := .ref h1) (N := 195) hx hb hts hin12 hown hK hP 0 rfl rfl (by decide) f9_12_134 (hts (.fieldLink RX12 340 "IntegerHouseModel" "isOut" "[Z") (o9_X12_leaveNoneOut _ (List.mem_of_getElem? (i := 0) rfl))) e0 dX12_leaveNoneOut_9 ?_
  refine lv_iload_n hx hb dX12_leaveNoneOut_12 rfl (lv_at hl 0 rfl) ?_
  refine lv_iconst (v := 0) hx hb dX12_leaveNoneOut_13 (by decide) ?_
  refine va_zast hx hb hK hP hD hS 1 3 rfl rfl (k_in (by decide)) dX12_leaveNoneOut_14 (fun H locs hP hD hS => ?_)
  have hP : va_P D vwCl [(h0, .inr (12, f0)), (h1, .inl (cZ, 24, .inl (upd g0 0 0)))] H := hP
  have hD : va_D A [(h0, .inr (12, f0)), (h1, .inl (cZ, 24, .inl (upd g0 0 0)))] := hD
  refine lv_iinc (v := 1) (lv' := [(1, .int 1), (0, .ref h0)]) hx hb dX12_leaveNoneOut_15 hl (k := 0) rfl (by decide) (by decide) rfl (fun ls hl => ?_)
  refine lv_goto (tgt := 2) hx hb dX12_leaveNoneOut_18 (by decide) ?_
  refine lv_iload_n hx hb dX12_leaveNoneOut_2 rfl (lv_at hl 0 rfl) ?_
  refine lv_bipush (v := 24) hx hb dX12_leaveNoneOut_3 (by decide) ?_
  refine lv_icmp_ge (tgt := 21) hx hb dX12_leaveNoneOut_5 (by decide) (fun c9 => absurd c9 (by decide)) (fun _ => ?_)
  refine lv_aload_n hx hb dX12_leaveNoneOut_8 rfl (lv_at hl 1 rfl) ?_
  refine k_get (D := D) (ci := 12) (v := .ref h1) (N := 195) hx hb hts hin12 hown hK hP 0 rfl rfl (by decide) f9_12_134 (hts (.fieldLink RX12 340 "IntegerHouseModel" "isOut" "[Z") (o9_X12_leaveNoneOut _ (List.mem_of_getElem? (i := 0) rfl))) e0 dX12_leaveNoneOut_9 ?_
  refine lv_iload_n hx hb dX12_leaveNoneOut_12 rfl (lv_at hl 0 rfl) ?_
  refine lv_iconst (v := 0) hx hb dX12_leaveNoneOut_13 (by decide) ?_
  refine va_zast hx hb hK hP hD hS 1 3 rfl rfl (k_in (by decide)) dX12_leaveNoneOut_14 (fun H locs hP hD hS => ?_)
  have hP : va_P D vwCl [(h0, .inr (12, f0)), (h1, .inl (cZ, 24, .inl (upd (upd g0 0 0) 1 0)))] H := hP
  have hD : va_D A [(h0, .inr (12, f0)), (h1, .inl (cZ, 24, .inl (upd (upd g0 0 0) 1 0)))] := hD
  refine lv_iinc (v := 2) (lv' := [(1, .int 2), (0, .ref h0)]) hx hb dX12_leaveNoneOut_15 hl (k := 0) rfl (by decide) (by decide) rfl (fun ls hl => ?_)
  refine lv_goto (tgt := 2) hx hb dX12_leaveNoneOut_18 (by decide) ?_
  refine lv_iload_n hx hb dX12_leaveNoneOut_2 rfl (lv_at hl 0 rfl) ?_
  refine lv_bipush (v := 24) hx hb dX12_leaveNoneOut_3 (by decide) ?_
  refine lv_icmp_ge (tgt := 21) hx hb dX12_leaveNoneOut_5 (by decide) (fun c9 => absurd c9 (by decide)) (fun _ => ?_)
  refine lv_aload_n hx hb dX12_leaveNoneOut_8 rfl (lv_at hl 1 rfl) ?_
  refine k_get (D := D) (ci := 12) (v := .ref h1) (N := 195) hx hb hts hin12 hown hK hP 0 rfl rfl (by decide) f9_12_134 (hts (.fieldLink RX12 340 "IntegerHouseModel" "isOut" "[Z") (o9_X12_leaveNoneOut _ (List.mem_of_getElem? (i := 0) rfl))) e0 dX12_leaveNoneOut_9 ?_
  refine lv_iload_n hx hb dX12_leaveNoneOut_12 rfl (lv_at hl 0 rfl) ?_
  refine lv_iconst (v := 0) hx hb dX12_leaveNoneOut_13 (by decide) ?_
  refine va_zast hx hb hK hP hD hS 1 3 rfl rfl (k_in (by decide)) dX12_leaveNoneOut_14 (fun H locs hP hD hS => ?_)
  have hP : va_P D vwCl [(h0, .inr (12, f0)), (h1, .inl (cZ, 24, .inl (upd (upd (upd g0 0 0) 1 0) 2 0)))] H := hP
  have hD : va_D A [(h0, .inr (12, f0)), (h1, .inl (cZ, 24, .inl (upd (upd (upd g0 0 0) 1 0) 2 0)))] := hD
  refine lv_iinc (v := 3) (lv' := [(1, .int 3), (0, .ref h0)]) hx hb dX12_leaveNoneOut_15 hl (k := 0) rfl (by decide) (by decide) rfl (fun ls hl => ?_)
  refine lv_goto (tgt := 2) hx hb dX12_leaveNoneOut_18 (by decide) ?_
  refine lv_iload_n hx hb dX12_leaveNoneOut_2 rfl (lv_at hl 0 rfl) ?_
  refine lv_bipush (v := 24) hx hb dX12_leaveNoneOut_3 (by decide) ?_
  refine lv_icmp_ge (tgt := 21) hx hb dX12_leaveNoneOut_5 (by decide) (fun c9 => absurd c9 (by decide)) (fun _ => ?_)
  refine lv_aload_n hx hb dX12_leaveNoneOut_8 rfl (lv_at hl 1 rfl) ?_
  refine k_get (D := D) (ci := 12) (v := .ref h1) (N := 195) hx hb hts hin12 hown hK hP 0 rfl rfl (by decide) f9_12_134 (hts (.fieldLink RX12 340 "IntegerHouseModel" "isOut" "[Z") (o9_X12_leaveNoneOut _ (List.mem_of_getElem? (i := 0) rfl))) e0 dX12_leaveNoneOut_9 ?_
  refine lv_iload_n hx hb dX12_leaveNoneOut_12 rfl (lv_at hl 0 rfl) ?_
  refine lv_iconst (v := 0) hx hb dX12_leaveNoneOut_13 (by decide) ?_
  refine va_zast hx hb hK hP hD hS 1 3 rfl rfl (k_in (by decide)) dX12_leaveNoneOut_14 (fun H locs hP hD hS => ?_)
  have hP : va_P D vwCl [(h0, .inr (12, f0)), (h1, .inl (cZ, 24, .inl (upd (upd (upd (upd g0 0 0) 1 0) 2 0) 3 0)))] H := hP
  have hD : va_D A [(h0, .inr (12, f0)), (h1, .inl (cZ, 24, .inl (upd (upd (upd (upd g0 0 0) 1 0) 2 0) 3 0)))] := hD
  refine lv_iinc (v := 4) (lv' := [(1, .int 4), (0, .ref h0)]) hx hb dX12_leaveNoneOut_15 hl (k := 0) rfl (by decide) (by decide) rfl (fun ls hl => ?_)
  refine lv_goto (tgt := 2) hx hb dX12_leaveNoneOut_18 (by decide) ?_
  refine lv_iload_n hx hb dX12_leaveNoneOut_2 rfl (lv_at hl 0 rfl) ?_
  refine lv_bipush (v := 24) hx hb dX12_leaveNoneOut_3 (by decide) ?_
  refine lv_icmp_ge (tgt := 21) hx hb dX12_leaveNoneOut_5 (by decide) (fun c9 => absurd c9 (by decide)) (fun _ => ?_)
  refine lv_aload_n hx hb dX12_leaveNoneOut_8 rfl (lv_at hl 1 rfl) ?_
  refine k_get (D := D) (ci := 12) (v := .ref h1) (N := 195) hx hb hts hin12 hown hK hP 0 rfl rfl (by decide) f9_12_134 (hts (.fieldLink RX12 340 "IntegerHouseModel" "isOut" "[Z") (o9_X12_leaveNoneOut _ (List.mem_of_getElem? (i := 0) rfl))) e0 dX12_leaveNoneOut_9 ?_
  refine lv_iload_n hx hb dX12_leaveNoneOut_12 rfl (lv_at hl 0 rfl) ?_
  refine lv_iconst (v := 0) hx hb dX12_leaveNoneOut_13 (by decide) ?_
  refine va_zast hx hb hK hP hD hS 1 3 rfl rfl (k_in (by decide)) dX12_leaveNoneOut_14 (fun H locs hP hD hS => ?_)
  have hP : va_P D vwCl [(h0, .inr (12, f0)), (h1, .inl (cZ, 24, .inl (upd (upd (upd (upd (upd g0 0 0) 1 0) 2 0) 3 0) 4 0)))] H := hP
  have hD : va_D A [(h0, .inr (12, f0)), (h1, .inl (cZ, 24, .inl (upd (upd (upd (upd (upd g0 0 0) 1 0) 2 0) 3 0) 4 0)))] := hD
  refine lv_iinc (v := 5) (lv' := [(1, .int 5), (0, .ref h0)]) hx hb dX12_leaveNoneOut_15 hl (k := 0) rfl (by decide) (by decide) rfl (fun ls hl => ?_)
  refine lv_goto (tgt := 2) hx hb dX12_leaveNoneOut_18 (by decide) ?_
  refine lv_iload_n hx hb dX12_leaveNoneOut_2 rfl (lv_at hl 0 rfl) ?_
  refine lv_bipush (v := 24) hx hb dX12_leaveNoneOut_3 (by decide) ?_
  refine lv_icmp_ge (tgt := 21) hx hb dX12_leaveNoneOut_5 (by decide) (fun c9 => absurd c9 (by decide)) (fun _ => ?_)
  refine lv_aload_n hx hb dX12_leaveNoneOut_8 rfl (lv_at hl 1 rfl) ?_
  refine k_get (D := D) (ci := 12) (v := .ref h1) (N := 195) hx hb hts hin12 hown hK hP 0 rfl rfl (by decide) f9_12_134 (hts (.fieldLink RX12 340 "IntegerHouseModel" "isOut" "[Z") (o9_X12_leaveNoneOut _ (List.mem_of_getElem? (i := 0) rfl))) e0 dX12_leaveNoneOut_9 ?_
  refine lv_iload_n hx hb dX12_leaveNoneOut_12 rfl (lv_at hl 0 rfl) ?_
  refine lv_iconst (v := 0) hx hb dX12_leaveNoneOut_13 (by decide) ?_
  refine va_zast hx hb hK hP hD hS 1 3 rfl rfl (k_in (by decide)) dX12_leaveNoneOut_14 (fun H locs hP hD hS => ?_)
  have hP : va_P D vwCl [(h0, .inr (12, f0)), (h1, .inl (cZ, 24, .inl (upd (upd (upd (upd (upd (upd g0 0 0) 1 0) 2 0) 3 0) 4 0) 5 0)))] H := hP
  have hD : va_D A [(h0, .inr (12, f0)), (h1, .inl (cZ, 24, .inl (upd (upd (upd (upd (upd (upd g0 0 0) 1 0) 2 0) 3 0) 4 0) 5 0)))] := hD
  refine lv_iinc (v := 6) (lv' := [(1, .int 6), (0, .ref h0)]) hx hb dX12_leaveNoneOut_15 hl (k := 0) rfl (by decide) (by decide) rfl (fun ls hl => ?_)
  refine lv_goto (tgt := 2) hx hb dX12_leaveNoneOut_18 (by decide) ?_
  refine lv_iload_n hx hb dX12_leaveNoneOut_2 rfl (lv_at hl 0 rfl) ?_
  refine lv_bipush (v := 24) hx hb dX12_leaveNoneOut_3 (by decide) ?_
  refine lv_icmp_ge (tgt := 21) hx hb dX12_leaveNoneOut_5 (by decide) (fun c9 => absurd c9 (by decide)) (fun _ => ?_)
  refine lv_aload_n hx hb dX12_leaveNoneOut_8 rfl (lv_at hl 1 rfl) ?_
  refine k_get (D := D) (ci := 12) (v := .ref h1) (N := 195) hx hb hts hin12 hown hK hP 0 rfl rfl (by decide) f9_12_134 (hts (.fieldLink RX12 340 "IntegerHouseModel" "isOut" "[Z") (o9_X12_leaveNoneOut _ (List.mem_of_getElem? (i := 0) rfl))) e0 dX12_leaveNoneOut_9 ?_
  refine lv_iload_n hx hb dX12_leaveNoneOut_12 rfl (lv_at hl 0 rfl) ?_
  refine lv_iconst (v := 0) hx hb dX12_leaveNoneOut_13 (by decide) ?_
  refine va_zast hx hb hK hP hD hS 1 3 rfl rfl (k_in (by decide)) dX12_leaveNoneOut_14 (fun H locs hP hD hS => ?_)
  have hP : va_P D vwCl [(h0, .inr (12, f0)), (h1, .inl (cZ, 24, .inl (upd (upd (upd (upd (upd (upd (upd g0 0 0) 1 0) 2 0) 3 0) 4 0) 5 0) 6 0)))] H := hP
  have hD : va_D A [(h0, .inr (12, f0)), (h1, .inl (cZ, 24, .inl (upd (upd (upd (upd (upd (upd (upd g0 0 0) 1 0) 2 0) 3 0) 4 0) 5 0) 6 0)))] := hD
  refine lv_iinc (v := 7) (lv' := [(1, .int 7), (0, .ref h0)]) hx hb dX12_leaveNoneOut_15 hl (k := 0) rfl (by decide) (by decide) rfl (fun ls hl => ?_)
  refine lv_goto (tgt := 2) hx hb dX12_leaveNoneOut_18 (by decide) ?_
  refine lv_iload_n hx hb dX12_leaveNoneOut_2 rfl (lv_at hl 0 rfl) ?_
  refine lv_bipush (v := 24) hx hb dX12_leaveNoneOut_3 (by decide) ?_
  refine lv_icmp_ge (tgt := 21) hx hb dX12_leaveNoneOut_5 (by decide) (fun c9 => absurd c9 (by decide)) (fun _ => ?_)
  refine lv_aload_n hx hb dX12_leaveNoneOut_8 rfl (lv_at hl 1 rfl) ?_
  refine k_get (D := D) (ci := 12) (v := .ref h1) (N := 195) hx hb hts hin12 hown hK hP 0 rfl rfl (by decide) f9_12_134 (hts (.fieldLink RX12 340 "IntegerHouseModel" "isOut" "[Z") (o9_X12_leaveNoneOut _ (List.mem_of_getElem? (i := 0) rfl))) e0 dX12_leaveNoneOut_9 ?_
  refine lv_iload_n hx hb dX12_leaveNoneOut_12 rfl (lv_at hl 0 rfl) ?_
  refine lv_iconst (v := 0) hx hb dX12_leaveNoneOut_13 (by decide) ?_
  refine va_zast hx hb hK hP hD hS 1 3 rfl rfl (k_in (by decide)) dX12_leaveNoneOut_14 (fun H locs hP hD hS => ?_)
  have hP : va_P D vwCl [(h0, .inr (12, f0)), (h1, .inl (cZ, 24, .inl (upd (upd (upd (upd (upd (upd (upd (upd g0 0 0) 1 0) 2 0) 3 0) 4 0) 5 0) 6 0) 7 0)))] H := hP
  have hD : va_D A [(h0, .inr (12, f0)), (h1, .inl (cZ, 24, .inl (upd (upd (upd (upd (upd (upd (upd (upd g0 0 0) 1 0) 2 0) 3 0) 4 0) 5 0) 6 0) 7 0)))] := hD
  refine lv_iinc (v := 8) (lv' := [(1, .int 8), (0, .ref h0)]) hx hb dX12_leaveNoneOut_15 hl (k := 0) rfl (by decide) (by decide) rfl (fun ls hl => ?_)
  refine lv_goto (tgt := 2) hx hb dX12_leaveNoneOut_18 (by decide) ?_
  refine lv_iload_n hx hb dX12_leaveNoneOut_2 rfl (lv_at hl 0 rfl) ?_
  refine lv_bipush (v := 24) hx hb dX12_leaveNoneOut_3 (by decide) ?_
  refine lv_icmp_ge (tgt := 21) hx hb dX12_leaveNoneOut_5 (by decide) (fun c9 => absurd c9 (by decide)) (fun _ => ?_)
  refine lv_aload_n hx hb dX12_leaveNoneOut_8 rfl (lv_at hl 1 rfl) ?_
  refine k_get (D := D) (ci := 12) (v := .ref h1) (N := 195) hx hb hts hin12 hown hK hP 0 rfl rfl (by decide) f9_12_134 (hts (.fieldLink RX12 340 "IntegerHouseModel" "isOut" "[Z") (o9_X12_leaveNoneOut _ (List.mem_of_getElem? (i := 0) rfl))) e0 dX12_leaveNoneOut_9 ?_
  refine lv_iload_n hx hb dX12_leaveNoneOut_12 rfl (lv_at hl 0 rfl) ?_
  refine lv_iconst (v := 0) hx hb dX12_leaveNoneOut_13 (by decide) ?_
  refine va_zast hx hb hK hP hD hS 1 3 rfl rfl (k_in (by decide)) dX12_leaveNoneOut_14 (fun H locs hP hD hS => ?_)
  have hP : va_P D vwCl [(h0, .inr (12, f0)), (h1, .inl (cZ, 24, .inl (upd (upd (upd (upd (upd (upd (upd (upd (upd g0 0 0) 1 0) 2 0) 3 0) 4 0) 5 0) 6 0) 7 0) 8 0)))] H := hP
  have hD : va_D A [(h0, .inr (12, f0)), (h1, .inl (cZ, 24, .inl (upd (upd (upd (upd (upd (upd (upd (upd (upd g0 0 0) 1 0) 2 0) 3 0) 4 0) 5 0) 6 0) 7 0) 8 0)))] := hD
  refine lv_iinc (v := 9) (lv' := [(1, .int 9), (0, .ref h0)]) hx hb dX12_leaveNoneOut_15 hl (k := 0) rfl (by decide) (by decide) rfl (fun ls hl => ?_)
  refine lv_goto (tgt := 2) hx hb dX12_leaveNoneOut_18 (by decide) ?_
  refine lv_iload_n hx hb dX12_leaveNoneOut_2 rfl (lv_at hl 0 rfl) ?_
  refine lv_bipush (v := 24) hx hb dX12_leaveNoneOut_3 (by decide) ?_
  refine lv_icmp_ge (tgt := 21) hx hb dX12_leaveNoneOut_5 (by decide) (fun c9 => absurd c9 (by decide)) (fun _ => ?_)
  refine lv_aload_n hx hb dX12_leaveNoneOut_8 rfl (lv_at hl 1 rfl) ?_
  refine k_get (D := D) (ci := 12) (v := .ref h1) (N := 195) hx hb hts hin12 hown hK hP 0 rfl rfl (by decide) f9_12_134 (hts (.fieldLink RX12 340 "IntegerHouseModel" "isOut" "[Z") (o9_X12_leaveNoneOut _ (List.mem_of_getElem? (i := 0) rfl))) e0 dX12_leaveNoneOut_9 ?_
  refine lv_iload_n hx hb dX12_leaveNoneOut_12 rfl (lv_at hl 0 rfl) ?_
  refine lv_iconst (v := 0) hx hb dX12_leaveNoneOut_13 (by decide) ?_
  refine va_zast hx hb hK hP hD hS 1 3 rfl rfl (k_in (by decide)) dX12_leaveNoneOut_14 (fun H locs hP hD hS => ?_)
  have hP : va_P D vwCl [(h0, .inr (12, f0)), (h1, .inl (cZ, 24, .inl (upd (upd (upd (upd (upd (upd (upd (upd (upd (upd g0 0 0) 1 0) 2 0) 3 0) 4 0) 5 0) 6 0) 7 0) 8 0) 9 0)))] H := hP
  have hD : va_D A [(h0, .inr (12, f0)), (h1, .inl (cZ, 24, .inl (upd (upd (upd (upd (upd (upd (upd (upd (upd (upd g0 0 0) 1 0) 2 0) 3 0) 4 0) 5 0) 6 0) 7 0) 8 0) 9 0)))] := hD
  refine lv_iinc (v := 10) (lv' := [(1, .int 10), (0, .ref h0)]) hx hb dX12_leaveNoneOut_15 hl (k := 0) rfl (by decide) (by decide) rfl (fun ls hl => ?_)
  refine lv_goto (tgt := 2) hx hb dX12_leaveNoneOut_18 (by decide) ?_
  refine lv_iload_n hx hb dX12_leaveNoneOut_2 rfl (lv_at hl 0 rfl) ?_
  refine lv_bipush (v := 24) hx hb dX12_leaveNoneOut_3 (by decide) ?_
  refine lv_icmp_ge (tgt := 21) hx hb dX12_leaveNoneOut_5 (by decide) (fun c9 => absurd c9 (by decide)) (fun _ => ?_)
  refine lv_aload_n hx hb dX12_leaveNoneOut_8 rfl (lv_at hl 1 rfl) ?_
  refine k_get (D := D) (ci := 12) (v := .ref h1) (N := 195) hx hb hts hin12 hown hK hP 0 rfl rfl (by decide) f9_12_134 (hts (.fieldLink RX12 340 "IntegerHouseModel" "isOut" "[Z") (o9_X12_leaveNoneOut _ (List.mem_of_getElem? (i := 0) rfl))) e0 dX12_leaveNoneOut_9 ?_
  refine lv_iload_n hx hb dX12_leaveNoneOut_12 rfl (lv_at hl 0 rfl) ?_
  refine lv_iconst (v := 0) hx hb dX12_leaveNoneOut_13 (by decide) ?_
  refine va_zast hx hb hK hP hD hS 1 3 rfl rfl (k_in (by decide)) dX12_leaveNoneOut_14 (fun H locs hP hD hS => ?_)
  have hP : va_P D vwCl [(h0, .inr (12, f0)), (h1, .inl (cZ, 24, .inl (upd (upd (upd (upd (upd (upd (upd (upd (upd (upd (upd g0 0 0) 1 0) 2 0) 3 0) 4 0) 5 0) 6 0) 7 0) 8 0) 9 0) 10 0)))] H := hP
  have hD : va_D A [(h0, .inr (12, f0)), (h1, .inl (cZ, 24, .inl (upd (upd (upd (upd (upd (upd (upd (upd (upd (upd (upd g0 0 0) 1 0) 2 0) 3 0) 4 0) 5 0) 6 0) 7 0) 8 0) 9 0) 10 0)))] := hD
  refine lv_iinc (v := 11) (lv' := [(1, .int 11), (0, .ref h0)]) hx hb dX12_leaveNoneOut_15 hl (k := 0) rfl (by decide) (by decide) rfl (fun ls hl => ?_)
  refine lv_goto (tgt := 2) hx hb dX12_leaveNoneOut_18 (by decide) ?_
  refine lv_iload_n hx hb dX12_leaveNoneOut_2 rfl (lv_at hl 0 rfl) ?_
  refine lv_bipush (v := 24) hx hb dX12_leaveNoneOut_3 (by decide) ?_
  refine lv_icmp_ge (tgt := 21) hx hb dX12_leaveNoneOut_5 (by decide) (fun c9 => absurd c9 (by decide)) (fun _ => ?_)
  refine lv_aload_n hx hb dX12_leaveNoneOut_8 rfl (lv_at hl 1 rfl) ?_
  refine k_get (D := D) (ci := 12) (v := .ref h1) (N := 195) hx hb hts hin12 hown hK hP 0 rfl rfl (by decide) f9_12_134 (hts (.fieldLink RX12 340 "IntegerHouseModel" "isOut" "[Z") (o9_X12_leaveNoneOut _ (List.mem_of_getElem? (i := 0) rfl))) e0 dX12_leaveNoneOut_9 ?_
  refine lv_iload_n hx hb dX12_leaveNoneOut_12 rfl (lv_at hl 0 rfl) ?_
  refine lv_iconst (v := 0) hx hb dX12_leaveNoneOut_13 (by decide) ?_
  refine va_zast hx hb hK hP hD hS 1 3 rfl rfl (k_in (by decide)) dX12_leaveNoneOut_14 (fun H locs hP hD hS => ?_)
  have hP : va_P D vwCl [(h0, .inr (12, f0)), (h1, .inl (cZ, 24, .inl (upd (upd (upd (upd (upd (upd (upd (upd (upd (upd (upd (upd g0 0 0) 1 0) 2 0) 3 0) 4 0) 5 0) 6 0) 7 0) 8 0) 9 0) 10 0) 11 0)))] H := hP
  have hD : va_D A [(h0, .inr (12, f0)), (h1, .inl (cZ, 24, .inl (upd (upd (upd (upd (upd (upd (upd (upd (upd (upd (upd (upd g0 0 0) 1 0) 2 0) 3 0) 4 0) 5 0) 6 0) 7 0) 8 0) 9 0) 10 0) 11 0)))] := hD
  refine lv_iinc (v := 12) (lv' := [(1, .int 12), (0, .ref h0)]) hx hb dX12_leaveNoneOut_15 hl (k := 0) rfl (by decide) (by decide) rfl (fun ls hl => ?_)
  refine lv_goto (tgt := 2) hx hb dX12_leaveNoneOut_18 (by decide) ?_
  refine lv_iload_n hx hb dX12_leaveNoneOut_2 rfl (lv_at hl 0 rfl) ?_
  refine lv_bipush (v := 24) hx hb dX12_leaveNoneOut_3 (by decide) ?_
  refine lv_icmp_ge (tgt := 21) hx hb dX12_leaveNoneOut_5 (by decide) (fun c9 => absurd c9 (by decide)) (fun _ => ?_)
  refine lv_aload_n hx hb dX12_leaveNoneOut_8 rfl (lv_at hl 1 rfl) ?_
  refine k_get (D := D) (ci := 12) (v := .ref h1) (N := 195) hx hb hts hin12 hown hK hP 0 rfl rfl (by decide) f9_12_134 (hts (.fieldLink RX12 340 "IntegerHouseModel" "isOut" "[Z") (o9_X12_leaveNoneOut _ (List.mem_of_getElem? (i := 0) rfl))) e0 dX12_leaveNoneOut_9 ?_
  refine lv_iload_n hx hb dX12_leaveNoneOut_12 rfl (lv_at hl 0 rfl) ?_
  refine lv_iconst (v := 0) hx hb dX12_leaveNoneOut_13 (by decide) ?_
  refine va_zast hx hb hK hP hD hS 1 3 rfl rfl (k_in (by decide)) dX12_leaveNoneOut_14 (fun H locs hP hD hS => ?_)
  have hP : va_P D vwCl [(h0, .inr (12, f0)), (h1, .inl (cZ, 24, .inl (upd (upd (upd (upd (upd (upd (upd (upd (upd (upd (upd (upd (upd g0 0 0) 1 0) 2 0) 3 0) 4 0) 5 0) 6 0) 7 0) 8 0) 9 0) 10 0) 11 0) 12 0)))] H := hP
  have hD : va_D A [(h0, .inr (12, f0)), (h1, .inl (cZ, 24, .inl (upd (upd (upd (upd (upd (upd (upd (upd (upd (upd (upd (upd (upd g0 0 0) 1 0) 2 0) 3 0) 4 0) 5 0) 6 0) 7 0) 8 0) 9 0) 10 0) 11 0) 12 0)))] := hD
  refine lv_iinc (v := 13) (lv' := [(1, .int 13), (0, .ref h0)]) hx hb dX12_leaveNoneOut_15 hl (k := 0) rfl (by decide) (by decide) rfl (fun ls hl => ?_)
  refine lv_goto (tgt := 2) hx hb dX12_leaveNoneOut_18 (by decide) ?_
  refine lv_iload_n hx hb dX12_leaveNoneOut_2 rfl (lv_at hl 0 rfl) ?_
  refine lv_bipush (v := 24) hx hb dX12_leaveNoneOut_3 (by decide) ?_
  refine lv_icmp_ge (tgt := 21) hx hb dX12_leaveNoneOut_5 (by decide) (fun c9 => absurd c9 (by decide)) (fun _ => ?_)
  refine lv_aload_n hx hb dX12_leaveNoneOut_8 rfl (lv_at hl 1 rfl) ?_
  refine k_get (D := D) (ci := 12) (v := .ref h1) (N := 195) hx hb hts hin12 hown hK hP 0 rfl rfl (by decide) f9_12_134 (hts (.fieldLink RX12 340 "IntegerHouseModel" "isOut" "[Z") (o9_X12_leaveNoneOut _ (List.mem_of_getElem? (i := 0) rfl))) e0 dX12_leaveNoneOut_9 ?_
  refine lv_iload_n hx hb dX12_leaveNoneOut_12 rfl (lv_at hl 0 rfl) ?_
  refine lv_iconst (v := 0) hx hb dX12_leaveNoneOut_13 (by decide) ?_
  refine va_zast hx hb hK hP hD hS 1 3 rfl rfl (k_in (by decide)) dX12_leaveNoneOut_14 (fun H locs hP hD hS => ?_)
  have hP : va_P D vwCl [(h0, .inr (12, f0)), (h1, .inl (cZ, 24, .inl (upd (upd (upd (upd (upd (upd (upd (upd (upd (upd (upd (upd (upd (upd g0 0 0) 1 0) 2 0) 3 0) 4 0) 5 0) 6 0) 7 0) 8 0) 9 0) 10 0) 11 0) 12 0) 13 0)))] H := hP
  have hD : va_D A [(h0, .inr (12, f0)), (h1, .inl (cZ, 24, .inl (upd (upd (upd (upd (upd (upd (upd (upd (upd (upd (upd (upd (upd (upd g0 0 0) 1 0) 2 0) 3 0) 4 0) 5 0) 6 0) 7 0) 8 0) 9 0) 10 0) 11 0) 12 0) 13 0)))] := hD
  refine lv_iinc (v := 14) (lv' := [(1, .int 14), (0, .ref h0)]) hx hb dX12_leaveNoneOut_15 hl (k := 0) rfl (by decide) (by decide) rfl (fun ls hl => ?_)
  refine lv_goto (tgt := 2) hx hb dX12_leaveNoneOut_18 (by decide) ?_
  refine lv_iload_n hx hb dX12_leaveNoneOut_2 rfl (lv_at hl 0 rfl) ?_
  refine lv_bipush (v := 24) hx hb dX12_leaveNoneOut_3 (by decide) ?_
  refine lv_icmp_ge (tgt := 21) hx hb dX12_leaveNoneOut_5 (by decide) (fun c9 => absurd c9 (by decide)) (fun _ => ?_)
  refine lv_aload_n hx hb dX12_leaveNoneOut_8 rfl (lv_at hl 1 rfl) ?_
  refine k_get (D := D) (ci := 12) (v := .ref h1) (N := 195) hx hb hts hin12 hown hK hP 0 rfl rfl (by decide) f9_12_134 (hts (.fieldLink RX12 340 "IntegerHouseModel" "isOut" "[Z") (o9_X12_leaveNoneOut _ (List.mem_of_getElem? (i := 0) rfl))) e0 dX12_leaveNoneOut_9 ?_
  refine lv_iload_n hx hb dX12_leaveNoneOut_12 rfl (lv_at hl 0 rfl) ?_
  refine lv_iconst (v := 0) hx hb dX12_leaveNoneOut_13 (by decide) ?_
  refine va_zast hx hb hK hP hD hS 1 3 rfl rfl (k_in (by decide)) dX12_leaveNoneOut_14 (fun H locs hP hD hS => ?_)
  have hP : va_P D vwCl [(h0, .inr (12, f0)), (h1, .inl (cZ, 24, .inl (upd (upd (upd (upd (upd (upd (upd (upd (upd (upd (upd (upd (upd (upd (upd g0 0 0) 1 0) 2 0) 3 0) 4 0) 5 0) 6 0) 7 0) 8 0) 9 0) 10 0) 11 0) 12 0) 13 0) 14 0)))] H := hP
  have hD : va_D A [(h0, .inr (12, f0)), (h1, .inl (cZ, 24, .inl (upd (upd (upd (upd (upd (upd (upd (upd (upd (upd (upd (upd (upd (upd (upd g0 0 0) 1 0) 2 0) 3 0) 4 0) 5 0) 6 0) 7 0) 8 0) 9 0) 10 0) 11 0) 12 0) 13 0) 14 0)))] := hD
  refine lv_iinc (v := 15) (lv' := [(1, .int 15), (0, .ref h0)]) hx hb dX12_leaveNoneOut_15 hl (k := 0) rfl (by decide) (by decide) rfl (fun ls hl => ?_)
  refine lv_goto (tgt := 2) hx hb dX12_leaveNoneOut_18 (by decide) ?_
  refine lv_iload_n hx hb dX12_leaveNoneOut_2 rfl (lv_at hl 0 rfl) ?_
  refine lv_bipush (v := 24) hx hb dX12_leaveNoneOut_3 (by decide) ?_
  refine lv_icmp_ge (tgt := 21) hx hb dX12_leaveNoneOut_5 (by decide) (fun c9 => absurd c9 (by decide)) (fun _ => ?_)
  refine lv_aload_n hx hb dX12_leaveNoneOut_8 rfl (lv_at hl 1 rfl) ?_
  refine k_get (D := D) (ci := 12) (v := .ref h1) (N := 195) hx hb hts hin12 hown hK hP 0 rfl rfl (by decide) f9_12_134 (hts (.fieldLink RX12 340 "IntegerHouseModel" "isOut" "[Z") (o9_X12_leaveNoneOut _ (List.mem_of_getElem? (i := 0) rfl))) e0 dX12_leaveNoneOut_9 ?_
  refine lv_iload_n hx hb dX12_leaveNoneOut_12 rfl (lv_at hl 0 rfl) ?_
  refine lv_iconst (v := 0) hx hb dX12_leaveNoneOut_13 (by decide) ?_
  refine va_zast hx hb hK hP hD hS 1 3 rfl rfl (k_in (by decide)) dX12_leaveNoneOut_14 (fun H locs hP hD hS => ?_)
  have hP : va_P D vwCl [(h0, .inr (12, f0)), (h1, .inl (cZ, 24, .inl (upd (upd (upd (upd (upd (upd (upd (upd (upd (upd (upd (upd (upd (upd (upd (upd g0 0 0) 1 0) 2 0) 3 0) 4 0) 5 0) 6 0) 7 0) 8 0) 9 0) 10 0) 11 0) 12 0) 13 0) 14 0) 15 0)))] H := hP
  have hD : va_D A [(h0, .inr (12, f0)), (h1, .inl (cZ, 24, .inl (upd (upd (upd (upd (upd (upd (upd (upd (upd (upd (upd (upd (upd (upd (upd (upd g0 0 0) 1 0) 2 0) 3 0) 4 0) 5 0) 6 0) 7 0) 8 0) 9 0) 10 0) 11 0) 12 0) 13 0) 14 0) 15 0)))] := hD
  refine lv_iinc (v := 16) (lv' := [(1, .int 16), (0, .ref h0)]) hx hb dX12_leaveNoneOut_15 hl (k := 0) rfl (by decide) (by decide) rfl (fun ls hl => ?_)
  refine lv_goto (tgt := 2) hx hb dX12_leaveNoneOut_18 (by decide) ?_
  refine lv_iload_n hx hb dX12_leaveNoneOut_2 rfl (lv_at hl 0 rfl) ?_
  refine lv_bipush (v := 24) hx hb dX12_leaveNoneOut_3 (by decide) ?_
  refine lv_icmp_ge (tgt := 21) hx hb dX12_leaveNoneOut_5 (by decide) (fun c9 => absurd c9 (by decide)) (fun _ => ?_)
  refine lv_aload_n hx hb dX12_leaveNoneOut_8 rfl (lv_at hl 1 rfl) ?_
  refine k_get (D := D) (ci := 12) (v := .ref h1) (N := 195) hx hb hts hin12 hown hK hP 0 rfl rfl (by decide) f9_12_134 (hts (.fieldLink RX12 340 "IntegerHouseModel" "isOut" "[Z") (o9_X12_leaveNoneOut _ (List.mem_of_getElem? (i := 0) rfl))) e0 dX12_leaveNoneOut_9 ?_
  refine lv_iload_n hx hb dX12_leaveNoneOut_12 rfl (lv_at hl 0 rfl) ?_
  refine lv_iconst (v := 0) hx hb dX12_leaveNoneOut_13 (by decide) ?_
  refine va_zast hx hb hK hP hD hS 1 3 rfl rfl (k_in (by decide)) dX12_leaveNoneOut_14 (fun H locs hP hD hS => ?_)
  have hP : va_P D vwCl [(h0, .inr (12, f0)), (h1, .inl (cZ, 24, .inl (upd (upd (upd (upd (upd (upd (upd (upd (upd (upd (upd (upd (upd (upd (upd (upd (upd g0 0 0) 1 0) 2 0) 3 0) 4 0) 5 0) 6 0) 7 0) 8 0) 9 0) 10 0) 11 0) 12 0) 13 0) 14 0) 15 0) 16 0)))] H := hP
  have hD : va_D A [(h0, .inr (12, f0)), (h1, .inl (cZ, 24, .inl (upd (upd (upd (upd (upd (upd (upd (upd (upd (upd (upd (upd (upd (upd (upd (upd (upd g0 0 0) 1 0) 2 0) 3 0) 4 0) 5 0) 6 0) 7 0) 8 0) 9 0) 10 0) 11 0) 12 0) 13 0) 14 0) 15 0) 16 0)))] := hD
  refine lv_iinc (v := 17) (lv' := [(1, .int 17), (0, .ref h0)]) hx hb dX12_leaveNoneOut_15 hl (k := 0) rfl (by decide) (by decide) rfl (fun ls hl => ?_)
  refine lv_goto (tgt := 2) hx hb dX12_leaveNoneOut_18 (by decide) ?_
  refine lv_iload_n hx hb dX12_leaveNoneOut_2 rfl (lv_at hl 0 rfl) ?_
  refine lv_bipush (v := 24) hx hb dX12_leaveNoneOut_3 (by decide) ?_
  refine lv_icmp_ge (tgt := 21) hx hb dX12_leaveNoneOut_5 (by decide) (fun c9 => absurd c9 (by decide)) (fun _ => ?_)
  refine lv_aload_n hx hb dX12_leaveNoneOut_8 rfl (lv_at hl 1 rfl) ?_
  refine k_get (D := D) (ci := 12) (v := .ref h1) (N := 195) hx hb hts hin12 hown hK hP 0 rfl rfl (by decide) f9_12_134 (hts (.fieldLink RX12 340 "IntegerHouseModel" "isOut" "[Z") (o9_X12_leaveNoneOut _ (List.mem_of_getElem? (i := 0) rfl))) e0 dX12_leaveNoneOut_9 ?_
  refine lv_iload_n hx hb dX12_leaveNoneOut_12 rfl (lv_at hl 0 rfl) ?_
  refine lv_iconst (v := 0) hx hb dX12_leaveNoneOut_13 (by decide) ?_
  refine va_zast hx hb hK hP hD hS 1 3 rfl rfl (k_in (by decide)) dX12_leaveNoneOut_14 (fun H locs hP hD hS => ?_)
  have hP : va_P D vwCl [(h0, .inr (12, f0)), (h1, .inl (cZ, 24, .inl (upd (upd (upd (upd (upd (upd (upd (upd (upd (upd (upd (upd (upd (upd (upd (upd (upd (upd g0 0 0) 1 0) 2 0) 3 0) 4 0) 5 0) 6 0) 7 0) 8 0) 9 0) 10 0) 11 0) 12 0) 13 0) 14 0) 15 0) 16 0) 17 0)))] H := hP
  have hD : va_D A [(h0, .inr (12, f0)), (h1, .inl (cZ, 24, .inl (upd (upd (upd (upd (upd (upd (upd (upd (upd (upd (upd (upd (upd (upd (upd (upd (upd (upd g0 0 0) 1 0) 2 0) 3 0) 4 0) 5 0) 6 0) 7 0) 8 0) 9 0) 10 0) 11 0) 12 0) 13 0) 14 0) 15 0) 16 0) 17 0)))] := hD
  refine lv_iinc (v := 18) (lv' := [(1, .int 18), (0, .ref h0)]) hx hb dX12_leaveNoneOut_15 hl (k := 0) rfl (by decide) (by decide) rfl (fun ls hl => ?_)
  refine lv_goto (tgt := 2) hx hb dX12_leaveNoneOut_18 (by decide) ?_
  refine lv_iload_n hx hb dX12_leaveNoneOut_2 rfl (lv_at hl 0 rfl) ?_
  refine lv_bipush (v := 24) hx hb dX12_leaveNoneOut_3 (by decide) ?_
  refine lv_icmp_ge (tgt := 21) hx hb dX12_leaveNoneOut_5 (by decide) (fun c9 => absurd c9 (by decide)) (fun _ => ?_)
  refine lv_aload_n hx hb dX12_leaveNoneOut_8 rfl (lv_at hl 1 rfl) ?_
  refine k_get (D := D) (ci := 12) (v := .ref h1) (N := 195) hx hb hts hin12 hown hK hP 0 rfl rfl (by decide) f9_12_134 (hts (.fieldLink RX12 340 "IntegerHouseModel" "isOut" "[Z") (o9_X12_leaveNoneOut _ (List.mem_of_getElem? (i := 0) rfl))) e0 dX12_leaveNoneOut_9 ?_
  refine lv_iload_n hx hb dX12_leaveNoneOut_12 rfl (lv_at hl 0 rfl) ?_
  refine lv_iconst (v := 0) hx hb dX12_leaveNoneOut_13 (by decide) ?_
  refine va_zast hx hb hK hP hD hS 1 3 rfl rfl (k_in (by decide)) dX12_leaveNoneOut_14 (fun H locs hP hD hS => ?_)
  have hP : va_P D vwCl [(h0, .inr (12, f0)), (h1, .inl (cZ, 24, .inl (upd (upd (upd (upd (upd (upd (upd (upd (upd (upd (upd (upd (upd (upd (upd (upd (upd (upd (upd g0 0 0) 1 0) 2 0) 3 0) 4 0) 5 0) 6 0) 7 0) 8 0) 9 0) 10 0) 11 0) 12 0) 13 0) 14 0) 15 0) 16 0) 17 0) 18 0)))] H := hP
  have hD : va_D A [(h0, .inr (12, f0)), (h1, .inl (cZ, 24, .inl (upd (upd (upd (upd (upd (upd (upd (upd (upd (upd (upd (upd (upd (upd (upd (upd (upd (upd (upd g0 0 0) 1 0) 2 0) 3 0) 4 0) 5 0) 6 0) 7 0) 8 0) 9 0) 10 0) 11 0) 12 0) 13 0) 14 0) 15 0) 16 0) 17 0) 18 0)))] := hD
  refine lv_iinc (v := 19) (lv' := [(1, .int 19), (0, .ref h0)]) hx hb dX12_leaveNoneOut_15 hl (k := 0) rfl (by decide) (by decide) rfl (fun ls hl => ?_)
  refine lv_goto (tgt := 2) hx hb dX12_leaveNoneOut_18 (by decide) ?_
  refine lv_iload_n hx hb dX12_leaveNoneOut_2 rfl (lv_at hl 0 rfl) ?_
  refine lv_bipush (v := 24) hx hb dX12_leaveNoneOut_3 (by decide) ?_
  refine lv_icmp_ge (tgt := 21) hx hb dX12_leaveNoneOut_5 (by decide) (fun c9 => absurd c9 (by decide)) (fun _ => ?_)
  refine lv_aload_n hx hb dX12_leaveNoneOut_8 rfl (lv_at hl 1 rfl) ?_
  refine k_get (D := D) (ci := 12) (v := .ref h1) (N := 195) hx hb hts hin12 hown hK hP 0 rfl rfl (by decide) f9_12_134 (hts (.fieldLink RX12 340 "IntegerHouseModel" "isOut" "[Z") (o9_X12_leaveNoneOut _ (List.mem_of_getElem? (i := 0) rfl))) e0 dX12_leaveNoneOut_9 ?_
  refine lv_iload_n hx hb dX12_leaveNoneOut_12 rfl (lv_at hl 0 rfl) ?_
  refine lv_iconst (v := 0) hx hb dX12_leaveNoneOut_13 (by decide) ?_
  refine va_zast hx hb hK hP hD hS 1 3 rfl rfl (k_in (by decide)) dX12_leaveNoneOut_14 (fun H locs hP hD hS => ?_)
  have hP : va_P D vwCl [(h0, .inr (12, f0)), (h1, .inl (cZ, 24, .inl (upd (upd (upd (upd (upd (upd (upd (upd (upd (upd (upd (upd (upd (upd (upd (upd (upd (upd (upd (upd g0 0 0) 1 0) 2 0) 3 0) 4 0) 5 0) 6 0) 7 0) 8 0) 9 0) 10 0) 11 0) 12 0) 13 0) 14 0) 15 0) 16 0) 17 0) 18 0) 19 0)))] H := hP
  have hD : va_D A [(h0, .inr (12, f0)), (h1, .inl (cZ, 24, .inl (upd (upd (upd (upd (upd (upd (upd (upd (upd (upd (upd (upd (upd (upd (upd (upd (upd (upd (upd (upd g0 0 0) 1 0) 2 0) 3 0) 4 0) 5 0) 6 0) 7 0) 8 0) 9 0) 10 0) 11 0) 12 0) 13 0) 14 0) 15 0) 16 0) 17 0) 18 0) 19 0)))] := hD
  refine lv_iinc (v := 20) (lv' := [(1, .int 20), (0, .ref h0)]) hx hb dX12_leaveNoneOut_15 hl (k := 0) rfl (by decide) (by decide) rfl (fun ls hl => ?_)
  refine lv_goto (tgt := 2) hx hb dX12_leaveNoneOut_18 (by decide) ?_
  refine lv_iload_n hx hb dX12_leaveNoneOut_2 rfl (lv_at hl 0 rfl) ?_
  refine lv_bipush (v := 24) hx hb dX12_leaveNoneOut_3 (by decide) ?_
  refine lv_icmp_ge (tgt := 21) hx hb dX12_leaveNoneOut_5 (by decide) (fun c9 => absurd c9 (by decide)) (fun _ => ?_)
  refine lv_aload_n hx hb dX12_leaveNoneOut_8 rfl (lv_at hl 1 rfl) ?_
  refine k_get (D := D) (ci := 12) (v := .ref h1) (N := 195) hx hb hts hin12 hown hK hP 0 rfl rfl (by decide) f9_12_134 (hts (.fieldLink RX12 340 "IntegerHouseModel" "isOut" "[Z") (o9_X12_leaveNoneOut _ (List.mem_of_getElem? (i := 0) rfl))) e0 dX12_leaveNoneOut_9 ?_
  refine lv_iload_n hx hb dX12_leaveNoneOut_12 rfl (lv_at hl 0 rfl) ?_
  refine lv_iconst (v := 0) hx hb dX12_leaveNoneOut_13 (by decide) ?_
  refine va_zast hx hb hK hP hD hS 1 3 rfl rfl (k_in (by decide)) dX12_leaveNoneOut_14 (fun H locs hP hD hS => ?_)
  have hP : va_P D vwCl [(h0, .inr (12, f0)), (h1, .inl (cZ, 24, .inl (upd (upd (upd (upd (upd (upd (upd (upd (upd (upd (upd (upd (upd (upd (upd (upd (upd (upd (upd (upd (upd g0 0 0) 1 0) 2 0) 3 0) 4 0) 5 0) 6 0) 7 0) 8 0) 9 0) 10 0) 11 0) 12 0) 13 0) 14 0) 15 0) 16 0) 17 0) 18 0) 19 0) 20 0)))] H := hP
  have hD : va_D A [(h0, .inr (12, f0)), (h1, .inl (cZ, 24, .inl (upd (upd (upd (upd (upd (upd (upd (upd (upd (upd (upd (upd (upd (upd (upd (upd (upd (upd (upd (upd (upd g0 0 0) 1 0) 2 0) 3 0) 4 0) 5 0) 6 0) 7 0) 8 0) 9 0) 10 0) 11 0) 12 0) 13 0) 14 0) 15 0) 16 0) 17 0) 18 0) 19 0) 20 0)))] := hD
  refine lv_iinc (v := 21) (lv' := [(1, .int 21), (0, .ref h0)]) hx hb dX12_leaveNoneOut_15 hl (k := 0) rfl (by decide) (by decide) rfl (fun ls hl => ?_)
  refine lv_goto (tgt := 2) hx hb dX12_leaveNoneOut_18 (by decide) ?_
  refine lv_iload_n hx hb dX12_leaveNoneOut_2 rfl (lv_at hl 0 rfl) ?_
  refine lv_bipush (v := 24) hx hb dX12_leaveNoneOut_3 (by decide) ?_
  refine lv_icmp_ge (tgt := 21) hx hb dX12_leaveNoneOut_5 (by decide) (fun c9 => absurd c9 (by decide)) (fun _ => ?_)
  refine lv_aload_n hx hb dX12_leaveNoneOut_8 rfl (lv_at hl 1 rfl) ?_
  refine k_get (D := D) (ci := 12) (v := .ref h1) (N := 195) hx hb hts hin12 hown hK hP 0 rfl rfl (by decide) f9_12_134 (hts (.fieldLink RX12 340 "IntegerHouseModel" "isOut" "[Z") (o9_X12_leaveNoneOut _ (List.mem_of_getElem? (i := 0) rfl))) e0 dX12_leaveNoneOut_9 ?_
  refine lv_iload_n hx hb dX12_leaveNoneOut_12 rfl (lv_at hl 0 rfl) ?_
  refine lv_iconst (v := 0) hx hb dX12_leaveNoneOut_13 (by decide) ?_
  refine va_zast hx hb hK hP hD hS 1 3 rfl rfl (k_in (by decide)) dX12_leaveNoneOut_14 (fun H locs hP hD hS => ?_)
  have hP : va_P D vwCl [(h0, .inr (12, f0)), (h1, .inl (cZ, 24, .inl (upd (upd (upd (upd (upd (upd (upd (upd (upd (upd (upd (upd (upd (upd (upd (upd (upd (upd (upd (upd (upd (upd g0 0 0) 1 0) 2 0) 3 0) 4 0) 5 0) 6 0) 7 0) 8 0) 9 0) 10 0) 11 0) 12 0) 13 0) 14 0) 15 0) 16 0) 17 0) 18 0) 19 0) 20 0) 21 0)))] H := hP
  have hD : va_D A [(h0, .inr (12, f0)), (h1, .inl (cZ, 24, .inl (upd (upd (upd (upd (upd (upd (upd (upd (upd (upd (upd (upd (upd (upd (upd (upd (upd (upd (upd (upd (upd (upd g0 0 0) 1 0) 2 0) 3 0) 4 0) 5 0) 6 0) 7 0) 8 0) 9 0) 10 0) 11 0) 12 0) 13 0) 14 0) 15 0) 16 0) 17 0) 18 0) 19 0) 20 0) 21 0)))] := hD
  refine lv_iinc (v := 22) (lv' := [(1, .int 22), (0, .ref h0)]) hx hb dX12_leaveNoneOut_15 hl (k := 0) rfl (by decide) (by decide) rfl (fun ls hl => ?_)
  refine lv_goto (tgt := 2) hx hb dX12_leaveNoneOut_18 (by decide) ?_
  refine lv_iload_n hx hb dX12_leaveNoneOut_2 rfl (lv_at hl 0 rfl) ?_
  refine lv_bipush (v := 24) hx hb dX12_leaveNoneOut_3 (by decide) ?_
  refine lv_icmp_ge (tgt := 21) hx hb dX12_leaveNoneOut_5 (by decide) (fun c9 => absurd c9 (by decide)) (fun _ => ?_)
  refine lv_aload_n hx hb dX12_leaveNoneOut_8 rfl (lv_at hl 1 rfl) ?_
  refine k_get (D := D) (ci := 12) (v := .ref h1) (N := 195) hx hb hts hin12 hown hK hP 0 rfl rfl (by decide) f9_12_134 (hts (.fieldLink RX12 340 "IntegerHouseModel" "isOut" "[Z") (o9_X12_leaveNoneOut _ (List.mem_of_getElem? (i := 0) rfl))) e0 dX12_leaveNoneOut_9 ?_
  refine lv_iload_n hx hb dX12_leaveNoneOut_12 rfl (lv_at hl 0 rfl) ?_
  refine lv_iconst (v := 0) hx hb dX12_leaveNoneOut_13 (by decide) ?_
  refine va_zast hx hb hK hP hD hS 1 3 rfl rfl (k_in (by decide)) dX12_leaveNoneOut_14 (fun H locs hP hD hS => ?_)
  have hP : va_P D vwCl [(h0, .inr (12, f0)), (h1, .inl (cZ, 24, .inl (upd (upd (upd (upd (upd (upd (upd (upd (upd (upd (upd (upd (upd (upd (upd (upd (upd (upd (upd (upd (upd (upd (upd g0 0 0) 1 0) 2 0) 3 0) 4 0) 5 0) 6 0) 7 0) 8 0) 9 0) 10 0) 11 0) 12 0) 13 0) 14 0) 15 0) 16 0) 17 0) 18 0) 19 0) 20 0) 21 0) 22 0)))] H := hP
  have hD : va_D A [(h0, .inr (12, f0)), (h1, .inl (cZ, 24, .inl (upd (upd (upd (upd (upd (upd (upd (upd (upd (upd (upd (upd (upd (upd (upd (upd (upd (upd (upd (upd (upd (upd (upd g0 0 0) 1 0) 2 0) 3 0) 4 0) 5 0) 6 0) 7 0) 8 0) 9 0) 10 0) 11 0) 12 0) 13 0) 14 0) 15 0) 16 0) 17 0) 18 0) 19 0) 20 0) 21 0) 22 0)))] := hD
  refine lv_iinc (v := 23) (lv' := [(1, .int 23), (0, .ref h0)]) hx hb dX12_leaveNoneOut_15 hl (k := 0) rfl (by decide) (by decide) rfl (fun ls hl => ?_)
  refine lv_goto (tgt := 2) hx hb dX12_leaveNoneOut_18 (by decide) ?_
  refine lv_iload_n hx hb dX12_leaveNoneOut_2 rfl (lv_at hl 0 rfl) ?_
  refine lv_bipush (v := 24) hx hb dX12_leaveNoneOut_3 (by decide) ?_
  refine lv_icmp_ge (tgt := 21) hx hb dX12_leaveNoneOut_5 (by decide) (fun c9 => absurd c9 (by decide)) (fun _ => ?_)
  refine lv_aload_n hx hb dX12_leaveNoneOut_8 rfl (lv_at hl 1 rfl) ?_
  refine k_get (D := D) (ci := 12) (v := .ref h1) (N := 195) hx hb hts hin12 hown hK hP 0 rfl rfl (by decide) f9_12_134 (hts (.fieldLink RX12 340 "IntegerHouseModel" "isOut" "[Z") (o9_X12_leaveNoneOut _ (List.mem_of_getElem? (i := 0) rfl))) e0 dX12_leaveNoneOut_9 ?_
  refine lv_iload_n hx hb dX12_leaveNoneOut_12 rfl (lv_at hl 0 rfl) ?_
  refine lv_iconst (v := 0) hx hb dX12_leaveNoneOut_13 (by decide) ?_
  refine va_zast hx hb hK hP hD hS 1 3 rfl rfl (k_in (by decide)) dX12_leaveNoneOut_14 (fun H locs hP hD hS => ?_)
  have hP : va_P D vwCl [(h0, .inr (12, f0)), (h1, .inl (cZ, 24, .inl (upd (upd (upd (upd (upd (upd (upd (upd (upd (upd (upd (upd (upd (upd (upd (upd (upd (upd (upd (upd (upd (upd (upd (upd g0 0 0) 1 0) 2 0) 3 0) 4 0) 5 0) 6 0) 7 0) 8 0) 9 0) 10 0) 11 0) 12 0) 13 0) 14 0) 15 0) 16 0) 17 0) 18 0) 19 0) 20 0) 21 0) 22 0) 23 0)))] H := hP
  have hD : va_D A [(h0, .inr (12, f0)), (h1, .inl (cZ, 24, .inl (upd (upd (upd (upd (upd (upd (upd (upd (upd (upd (upd (upd (upd (upd (upd (upd (upd (upd (upd (upd (upd (upd (upd (upd g0 0 0) 1 0) 2 0) 3 0) 4 0) 5 0) 6 0) 7 0) 8 0) 9 0) 10 0) 11 0) 12 0) 13 0) 14 0) 15 0) 16 0) 17 0) 18 0) 19 0) 20 0) 21 0) 22 0) 23 0)))] := hD
  refine lv_iinc (v := 24) (lv' := [(1, .int 24), (0, .ref h0)]) hx hb dX12_leaveNoneOut_15 hl (k := 0) rfl (by decide) (by decide) rfl (fun ls hl => ?_)
  refine lv_goto (tgt := 2) hx hb dX12_leaveNoneOut_18 (by decide) ?_
  refine lv_iload_n hx hb dX12_leaveNoneOut_2 rfl (lv_at hl 0 rfl) ?_
  refine lv_bipush (v := 24) hx hb dX12_leaveNoneOut_3 (by decide) ?_
  refine lv_icmp_ge (tgt := 21) hx hb dX12_leaveNoneOut_5 (by decide) (fun _ => ?_) (fun c9 => absurd (by decide) c9)
  exact W.vret hx hb hr (fun t ht hW => ⟨⟨(), rfl, trivial, kB_mk ht hW hP hK hD⟩, hS.F ht⟩) hS.2.2 dX12_leaveNoneOut_21
set_option maxHeartbeats 400000000 in
set_option maxRecDepth 100000 in
theorem c_X12_tries_0 (l : Launch) (E : kE) (D : va_G) (cI cJ cB cZ : ClassId) (h0 : Nat) (f0 : List Value) (h1 : Nat) (g0 : Nat → Int32) (h2 : Nat) (h3 : Nat) (h4 : Nat) (g1 : Nat → Int32) (g2 : Nat → Int32) (g3 : Nat → Int32) (h5 : Nat) (h6 : Nat) (h7 : Nat) (h8 : Nat) (g4 : Nat → Int32) (g5 : Nat → Int32) (g6 : Nat → Int32) (g7 : Nat → Int32) (h9 : Nat) (g8 : Nat → Int32) (e0 : f0[119]? = some (.int 0)) (e1 : f0[121]? = some (.ref h1)) (e2 : f0[33]? = some (.int 0)) (e3 : f0[32]? = some (.int 0)) (e4 : f0[131]? = some (.int 0)) (e5 : f0[127]? = some (.ref h2)) (e6 : f0[129]? = some (.int 0)) (e7 : f0[128]? = some (.ref h3)) (e8 : f0[126]? = some (.ref h4)) (e9 : f0[136]? = some (.ref h5)) (e10 : f0[132]? = some (.ref h6)) (e11 : f0[133]? = some (.ref h7)) (e12 : f0[135]? = some (.ref h8)) (e13 : f0[137]? = some (.ref h9)) : kI l E D (kT cI cJ cB cZ) yX12_tries vW_X12_tries ({ frames := 2, cells := 0, slots := 0, locals := 51 }) [.ref h0] [(h0, .inr (12, f0)), (h1, .inl (cZ, 26, .inl g0)), (h2, .inl (cI, 32768, .inl g1)), (h3, .inl (cI, 3000, .inl g2)), (h4, .inl (cI, 48000, .inl g3)), (h5, .inl (cI, 4096, .inl g4)), (h6, .inl (cI, 3000, .inl g5)), (h7, .inl (cI, 3000, .inl g6)), (h8, .inl (cI, 4096, .inl g7)), (h9, .inl (cI, 3000, .inl g8))] (1) [(h0, .inr (12, ((((f0.set 119 (.int 0)).set 131 (.int 1)).set 129 (.int 0)).set 129 (.int 1)))), (h1, .inl (cZ, 26, .inl (upd (upd (upd (upd (upd (upd (upd (upd (upd (upd (upd (upd (upd (upd (upd (upd (upd (upd (upd (upd (upd (upd (upd (upd (upd (upd g0 0 0) 1 0) 2 0) 3 0) 4 0) 5 0) 6 0) 7 0) 8 0) 9 0) 10 0) 11 0) 12 0) 13 0) 14 0) 15 0) 16 0) 17 0) 18 0) 19 0) 20 0) 21 0) 22 0) 23 0) 24 0) 25 0))), (h2, .inl (cI, 32768, .inl (upd (k_fill (-1) 32768 g1) 17 0))), (h3, .inl (cI, 3000, .inl (upd g2 0 (-1)))), (h4, .inl (cI, 48000, .inl (upd g3 0 0))), (h5, .inl (cI, 4096, .inl (upd (k_fill (-1) 4096 g4) 0 1))), (h6, .inl (cI, 3000, .inl (upd (upd g5 0 0) 0 1))), (h7, .inl (cI, 3000, .inl (upd (upd g6 0 0) 0 0))), (h8, .inl (cI, 4096, .inl (upd g7 0 0))), (h9, .inl (cI, 3000, .inl (upd g8 0 0)))] 0 0 := by
  intro sz
  refine Met.ofW (cc := cX12_tries) (maxL := 2) (ret := (some .int)) (by decide) rfl ?_
  intro p e s m args below meth c s₁ B hml hv
  obtain ⟨rfl, hsz, hP, hK, hD0, hN, hX⟩ := hv
  have hx := B.exec
  have hb := B.bytes
  have hr := B.returns
  have hts := atoms_spec (ws := vW_X12_tries) B.pre
  have hown : s.vm.findClass RX12 = some m.cls := findClass_of_methodNamed B.named
  have hlocks := B.notSynchronized
  have hin12 : ∀ w ∈ wsX120, w ∈ vW_X12_tries := u9_X12_tries_wsX120
  subst hsz
  have hD := hD0.self (sz := s.heap.size)
  have hAE := k_AE hD0 hX
  generalize hAe : va_A [(h0, .inr (12, f0)), (h1, .inl (cZ, 26, .inl g0)), (h2, .inl (cI, 32768, .inl g1)), (h3, .inl (cI, 3000, .inl g2)), (h4, .inl (cI, 48000, .inl g3)), (h5, .inl (cI, 4096, .inl g4)), (h6, .inl (cI, 3000, .inl g5)), (h7, .inl (cI, 3000, .inl g6)), (h8, .inl (cI, 4096, .inl g7)), (h9, .inl (cI, 3000, .inl g8))] s.heap.size = A at hD hAE ⊢
  have hA : ∀ q : Nat, s.heap.size ≤ q → A q := fun q h => by rw [← hAe]; exact Or.inr h
  have hS : va_S A s.heap s.heap [] := va_S.rf
  have hP : va_P D vwCl [(h0, .inr (12, f0)), (h1, .inl (cZ, 26, .inl g0)), (h2, .inl (cI, 32768, .inl g1)), (h3, .inl (cI, 3000, .inl g2)), (h4, .inl (cI, 48000, .inl g3)), (h5, .inl (cI, 4096, .inl g4)), (h6, .inl (cI, 3000, .inl g5)), (h7, .inl (cI, 3000, .inl g6)), (h8, .inl (cI, 4096, .inl g7)), (h9, .inl (cI, 3000, .inl g8))] s.heap := hP
  have hl := lv_entry ([.ref h0] : List Value) (n := 2) (Nat.le_of_ble_eq_true rfl)
  rw [lg_entry_eq]
  generalize (lg_sl ([.ref h0]) ++ List.replicate (2 - (lg_sl ([.ref h0])).length) Slot.unset).toArray = ls at hl ⊢
  have hl : lv_has ls 2 [(0, .ref h0)] := hl
  refine lv_aload_n hx hb dX12_tries_0 rfl (lv_at hl 0 rfl) ?_
  refine k_cVv (As := []) (rest := []) (wc := [(h0, .inr (12, f0)), (h1, .inl (cZ, 26, .inl g0))]) (wr := [(h2, .inl (cI, 32768, .inl g1)), (h3, .inl (cI, 3000, .inl g2)), (h4, .inl (cI, 48000, .inl g3)), (h5, .inl (cI, 4096, .inl g4)), (h6, .inl (cI, 3000, .inl g5)), (h7, .inl (cI, 3000, .inl g6)), (h8, .inl (cI, 4096, .inl g7)), (h9, .inl (cI, 3000, .inl g8))]) (w1 := (fun _ : Unit => [(h0, .inr (12, (f0.set 119 (.int 0)))), (h1, .inl (cZ, 26, .inl (upd (upd (upd (upd (upd (upd (upd (upd (upd (upd (upd (upd (upd (upd (upd (upd (upd (upd (upd (upd (upd (upd (upd (upd (upd (upd g0 0 0) 1 0) 2 0) 3 0) 4 0) 5 0) 6 0) 7 0) 8 0) 9 0) 10 0) 11 0) 12 0) 13 0) 14 0) 15 0) 16 0) 17 0) 18 0) 19 0) 20 0) 21 0) 22 0) 23 0) 24 0) 25 0)))])) ⟨hx, hb, hml, hown, hts⟩ hN hX hAE hK hP hD hS hA [0, 1] [2, 3, 4, 5, 6, 7, 8, 9] (ci := 12) rfl rfl rfl rfl (by decide +kernel) (by decide +kernel) (by decide +kernel) (c_X12_idle_0 l E D cI cJ cB cZ h0 f0 h1 g0 e0 e1) (cwV 0 hts g9_X12_tries_X12_idle_934 rfl rfl rfl (by decide +kernel) ⟨Nat.le_of_ble_eq_true rfl, Nat.le_of_ble_eq_true rfl⟩) rfl hl.1 (Nat.le_of_ble_eq_true rfl) dX12_tries_1 ⟨Nat.le_of_ble_eq_true rfl, Nat.le_of_ble_eq_true rfl⟩ (fun _ H locs hP hD hS => ?_)
  have hP : va_P D vwCl [(h2, .inl (cI, 32768, .inl g1)), (h3, .inl (cI, 3000, .inl g2)), (h4, .inl (cI, 48000, .inl g3)), (h5, .inl (cI, 4096, .inl g4)), (h6, .inl (cI, 3000, .inl g5)), (h7, .inl (cI, 3000, .inl g6)), (h8, .inl (cI, 4096, .inl g7)), (h9, .inl (cI, 3000, .inl g8)), (h0, .inr (12, (f0.set 119 (.int 0)))), (h1, .inl (cZ, 26, .inl (upd (upd (upd (upd (upd (upd (upd (upd (upd (upd (upd (upd (upd (upd (upd (upd (upd (upd (upd (upd (upd (upd (upd (upd (upd (upd g0 0 0) 1 0) 2 0) 3 0) 4 0) 5 0) 6 0) 7 0) 8 0) 9 0) 10 0) 11 0) 12 0) 13 0) 14 0) 15 0) 16 0) 17 0) 18 0) 19 0) 20 0) 21 0) 22 0) 23 0) 24 0) 25 0)))] H := hP
  have hD : va_D A [(h2, .inl (cI, 32768, .inl g1)), (h3, .inl (cI, 3000, .inl g2)), (h4, .inl (cI, 48000, .inl g3)), (h5, .inl (cI, 4096, .inl g4)), (h6, .inl (cI, 3000, .inl g5)), (h7, .inl (cI, 3000, .inl g6)), (h8, .inl (cI, 4096, .inl g7)), (h9, .inl (cI, 3000, .inl g8)), (h0, .inr (12, (f0.set 119 (.int 0)))), (h1, .inl (cZ, 26, .inl (upd (upd (upd (upd (upd (upd (upd (upd (upd (upd (upd (upd (upd (upd (upd (upd (upd (upd (upd (upd (upd (upd (upd (upd (upd (upd g0 0 0) 1 0) 2 0) 3 0) 4 0) 5 0) 6 0) 7 0) 8 0) 9 0) 10 0) 11 0) 12 0) 13 0) 14 0) 15 0) 16 0) 17 0) 18 0) 19 0) 20 0) 21 0) 22 0) 23 0) 24 0) 25 0)))] := hD
  refine lv_iconst (v := 0) hx hb dX12_tries_4 (by decide) ?_
  refine lv_istore_n (lv' := [(1, .int 0), (0, .ref h0)]) hx hb dX12_tries_5 rfl hl (by decide) rfl (fun ls hl => ?_)
  refine lv_iload_n hx hb dX12_tries_6 rfl (lv_at hl 0 rfl) ?_
  refine lv_aload_n hx hb dX12_tries_7 rfl (lv_at hl 1 rfl) ?_
  refine k_get (D := D) (ci := 12) (v := .int 0) (N := 195) hx hb hts hin12 hown hK hP 8 rfl rfl (by decide) f9_12_33 (hts (.fieldLink RX12 818 "IntegerHouseModel" "claims" "I") (o9_X12_tries _ (List.mem_of_getElem? (i := 4) rfl))) (k_ne (by decide) e2) dX12_tries_8 ?_
  refine lv_icmp_ge (tgt := 43) hx hb dX12_tries_11 (by decide) (fun _ => ?_) (fun c9 => absurd (by decide) c9)
  refine lv_aload_n hx hb dX12_tries_43 rfl (lv_at hl 1 rfl) ?_
  refine k_cVi (As := []) (rest := []) (wc := [(h0, .inr (12, (f0.set 119 (.int 0)))), (h1, .inl (cZ, 26, .inl (upd (upd (upd (upd (upd (upd (upd (upd (upd (upd (upd (upd (upd (upd (upd (upd (upd (upd (upd (upd (upd (upd (upd (upd (upd (upd g0 0 0) 1 0) 2 0) 3 0) 4 0) 5 0) 6 0) 7 0) 8 0) 9 0) 10 0) 11 0) 12 0) 13 0) 14 0) 15 0) 16 0) 17 0) 18 0) 19 0) 20 0) 21 0) 22 0) 23 0) 24 0) 25 0))), (h2, .inl (cI, 32768, .inl g1)), (h3, .inl (cI, 3000, .inl g2)), (h4, .inl (cI, 48000, .inl g3))]) (wr := [(h5, .inl (cI, 4096, .inl g4)), (h6, .inl (cI, 3000, .inl g5)), (h7, .inl (cI, 3000, .inl g6)), (h8, .inl (cI, 4096, .inl g7)), (h9, .inl (cI, 3000, .inl g8))]) (w1 := [(h0, .inr (12, ((((f0.set 119 (.int 0)).set 131 (.int 1)).set 129 (.int 0)).set 129 (.int 1)))), (h1, .inl (cZ, 26, .inl (upd (upd (upd (upd (upd (upd (upd (upd (upd (upd (upd (upd (upd (upd (upd (upd (upd (upd (upd (upd (upd (upd (upd (upd (upd (upd g0 0 0) 1 0) 2 0) 3 0) 4 0) 5 0) 6 0) 7 0) 8 0) 9 0) 10 0) 11 0) 12 0) 13 0) 14 0) 15 0) 16 0) 17 0) 18 0) 19 0) 20 0) 21 0) 22 0) 23 0) 24 0) 25 0))), (h2, .inl (cI, 32768, .inl (upd (k_fill (-1) 32768 g1) 17 0))), (h3, .inl (cI, 3000, .inl (upd g2 0 (-1)))), (h4, .inl (cI, 48000, .inl (upd g3 0 0)))]) ⟨hx, hb, hml, hown, hts⟩ hN hX hAE hK hP hD hS hA [8, 9, 0, 1, 2] [3, 4, 5, 6, 7] (ci := 12) rfl rfl rfl rfl (by decide +kernel) (by decide +kernel) (by decide +kernel) (c_X12_explore_0 l E D cI cJ cB cZ h0 ((f0.set 119 (.int 0))) h1 ((upd (upd (upd (upd (upd (upd (upd (upd (upd (upd (upd (upd (upd (upd (upd (upd (upd (upd (upd (upd (upd (upd (upd (upd (upd (upd g0 0 0) 1 0) 2 0) 3 0) 4 0) 5 0) 6 0) 7 0) 8 0) 9 0) 10 0) 11 0) 12 0) 13 0) 14 0) 15 0) 16 0) 17 0) 18 0) 19 0) 20 0) 21 0) 22 0) 23 0) 24 0) 25 0)) h2 g1 h3 g2 h4 g3 (k_set e0) (k_ne (by decide) e1) rfl rfl rfl rfl rfl rfl rfl rfl rfl rfl rfl rfl rfl rfl rfl rfl rfl rfl rfl rfl rfl rfl rfl rfl rfl (k_ne (by decide) e3) (k_ne (by decide) e4) (k_ne (by decide) e5) (k_ne (by decide) e6) (k_ne (by decide) e7) (k_ne (by decide) e8)) (cwV 0 hts g9_X12_tries_X12_explore_985 rfl rfl rfl (by decide +kernel) ⟨Nat.le_of_ble_eq_true rfl, Nat.le_of_ble_eq_true rfl⟩) rfl hl.1 (Nat.le_of_ble_eq_true rfl) dX12_tries_44 ⟨Nat.le_of_ble_eq_true rfl, Nat.le_of_ble_eq_true rfl⟩ (fun H locs hP hD hS => ?_)
  have hP : va_P D vwCl [(h5, .inl (cI, 4096, .inl g4)), (h6, .inl (cI, 3000, .inl g5)), (h7, .inl (cI, 3000, .inl g6)), (h8, .inl (cI, 4096, .inl g7)), (h9, .inl (cI, 3000, .inl g8)), (h0, .inr (12, ((((f0.set 119 (.int 0)).set 131 (.int 1)).set 129 (.int 0)).set 129 (.int 1)))), (h1, .inl (cZ, 26, .inl (upd (upd (upd (upd (upd (upd (upd (upd (upd (upd (upd (upd (upd (upd (upd (upd (upd (upd (upd (upd (upd (upd (upd (upd (upd (upd g0 0 0) 1 0) 2 0) 3 0) 4 0) 5 0) 6 0) 7 0) 8 0) 9 0) 10 0) 11 0) 12 0) 13 0) 14 0) 15 0) 16 0) 17 0) 18 0) 19 0) 20 0) 21 0) 22 0) 23 0) 24 0) 25 0))), (h2, .inl (cI, 32768, .inl (upd (k_fill (-1) 32768 g1) 17 0))), (h3, .inl (cI, 3000, .inl (upd g2 0 (-1)))), (h4, .inl (cI, 48000, .inl (upd g3 0 0)))] H := hP
  have hD : va_D A [(h5, .inl (cI, 4096, .inl g4)), (h6, .inl (cI, 3000, .inl g5)), (h7, .inl (cI, 3000, .inl g6)), (h8, .inl (cI, 4096, .inl g7)), (h9, .inl (cI, 3000, .inl g8)), (h0, .inr (12, ((((f0.set 119 (.int 0)).set 131 (.int 1)).set 129 (.int 0)).set 129 (.int 1)))), (h1, .inl (cZ, 26, .inl (upd (upd (upd (upd (upd (upd (upd (upd (upd (upd (upd (upd (upd (upd (upd (upd (upd (upd (upd (upd (upd (upd (upd (upd (upd (upd g0 0 0) 1 0) 2 0) 3 0) 4 0) 5 0) 6 0) 7 0) 8 0) 9 0) 10 0) 11 0) 12 0) 13 0) 14 0) 15 0) 16 0) 17 0) 18 0) 19 0) 20 0) 21 0) 22 0) 23 0) 24 0) 25 0))), (h2, .inl (cI, 32768, .inl (upd (k_fill (-1) 32768 g1) 17 0))), (h3, .inl (cI, 3000, .inl (upd g2 0 (-1)))), (h4, .inl (cI, 48000, .inl (upd g3 0 0)))] := hD
  refine lv_if_ne (tgt := 53) hx hb dX12_tries_47 (by decide) (fun _ => ?_) (fun c9 => absurd c9 (by decide))
  refine lv_aload_n hx hb dX12_tries_53 rfl (lv_at hl 1 rfl) ?_
  refine lv_iconst (v := 0) hx hb dX12_tries_54 (by decide) ?_
  refine lv_iconst (v := 0) hx hb dX12_tries_55 (by decide) ?_
  refine lv_iconst (v := (-1)) hx hb dX12_tries_56 (by decide) ?_
  refine k_cVv (As := [.int 0, .int 0, .int (-1)]) (rest := []) (wc := [(h0, .inr (12, ((((f0.set 119 (.int 0)).set 131 (.int 1)).set 129 (.int 0)).set 129 (.int 1)))), (h5, .inl (cI, 4096, .inl g4)), (h6, .inl (cI, 3000, .inl g5)), (h7, .inl (cI, 3000, .inl g6)), (h1, .inl (cZ, 26, .inl (upd (upd (upd (upd (upd (upd (upd (upd (upd (upd (upd (upd (upd (upd (upd (upd (upd (upd (upd (upd (upd (upd (upd (upd (upd (upd g0 0 0) 1 0) 2 0) 3 0) 4 0) 5 0) 6 0) 7 0) 8 0) 9 0) 10 0) 11 0) 12 0) 13 0) 14 0) 15 0) 16 0) 17 0) 18 0) 19 0) 20 0) 21 0) 22 0) 23 0) 24 0) 25 0))), (h8, .inl (cI, 4096, .inl g7))]) (wr := [(h9, .inl (cI, 3000, .inl g8)), (h2, .inl (cI, 32768, .inl (upd (k_fill (-1) 32768 g1) 17 0))), (h3, .inl (cI, 3000, .inl (upd g2 0 (-1)))), (h4, .inl (cI, 48000, .inl (upd g3 0 0)))]) (w1 := (fun _ : Unit => [(h0, .inr (12, ((((f0.set 119 (.int 0)).set 131 (.int 1)).set 129 (.int 0)).set 129 (.int 1)))), (h5, .inl (cI, 4096, .inl (upd (k_fill (-1) 4096 g4) 0 1))), (h6, .inl (cI, 3000, .inl (upd (upd g5 0 0) 0 1))), (h7, .inl (cI, 3000, .inl (upd (upd g6 0 0) 0 0))), (h1, .inl (cZ, 26, .inl (upd (upd (upd (upd (upd (upd (upd (upd (upd (upd (upd (upd (upd (upd (upd (upd (upd (upd (upd (upd (upd (upd (upd (upd (upd (upd g0 0 0) 1 0) 2 0) 3 0) 4 0) 5 0) 6 0) 7 0) 8 0) 9 0) 10 0) 11 0) 12 0) 13 0) 14 0) 15 0) 16 0) 17 0) 18 0) 19 0) 20 0) 21 0) 22 0) 23 0) 24 0) 25 0))), (h8, .inl (cI, 4096, .inl (upd g7 0 0)))])) ⟨hx, hb, hml, hown, hts⟩ hN hX hAE hK hP hD hS hA [5, 0, 1, 2, 6, 3] [4, 7, 8, 9] (ci := 12) rfl rfl rfl rfl (by decide +kernel) (by decide +kernel) (by decide +kernel) (c_X12_judge_0 l E D cI cJ cB cZ h0 (((((f0.set 119 (.int 0)).set 131 (.int 1)).set 129 (.int 0)).set 129 (.int 1))) h5 g4 h6 g5 h7 g6 h1 ((upd (upd (upd (upd (upd (upd (upd (upd (upd (upd (upd (upd (upd (upd (upd (upd (upd (upd (upd (upd (upd (upd (upd (upd (upd (upd g0 0 0) 1 0) 2 0) 3 0) 4 0) 5 0) 6 0) 7 0) 8 0) 9 0) 10 0) 11 0) 12 0) 13 0) 14 0) 15 0) 16 0) 17 0) 18 0) 19 0) 20 0) 21 0) 22 0) 23 0) 24 0) 25 0)) h8 g7 (k_ne (by decide) (k_ne (by decide) (k_ne (by decide) (k_ne (by decide) e9)))) (k_set (k_set (k_ne (by decide) (k_ne (by decide) e6)))) (k_ne (by decide) (k_ne (by decide) (k_ne (by decide) (k_ne (by decide) e10)))) (k_ne (by decide) (k_ne (by decide) (k_ne (by decide) (k_ne (by decide) e11)))) (k_ne (by decide) (k_ne (by decide) (k_set (k_ne (by decide) e4)))) (k_ne (by decide) (k_ne (by decide) (k_ne (by decide) (k_set e0)))) (k_ne (by decide) (k_ne (by decide) (k_ne (by decide) (k_ne (by decide) e1)))) rfl rfl rfl rfl rfl rfl rfl rfl rfl rfl rfl rfl rfl rfl rfl rfl rfl rfl rfl rfl rfl rfl rfl rfl rfl (k_ne (by decide) (k_ne (by decide) (k_ne (by decide) (k_ne (by decide) e12)))) (k_ne (by decide) (k_ne (by decide) (k_ne (by decide) (k_ne (by decide) e2))))) (cwV 3 hts g9_X12_tries_X12_judge_988 rfl rfl rfl (by decide +kernel) ⟨Nat.le_of_ble_eq_true rfl, Nat.le_of_ble_eq_true rfl⟩) rfl hl.1 (Nat.le_of_ble_eq_true rfl) dX12_tries_57 ⟨Nat.le_of_ble_eq_true rfl, Nat.le_of_ble_eq_true rfl⟩ (fun _ H locs hP hD hS => ?_)
  have hP : va_P D vwCl [(h9, .inl (cI, 3000, .inl g8)), (h2, .inl (cI, 32768, .inl (upd (k_fill (-1) 32768 g1) 17 0))), (h3, .inl (cI, 3000, .inl (upd g2 0 (-1)))), (h4, .inl (cI, 48000, .inl (upd g3 0 0))), (h0, .inr (12, ((((f0.set 119 (.int 0)).set 131 (.int 1)).set 129 (.int 0)).set 129 (.int 1)))), (h5, .inl (cI, 4096, .inl (upd (k_fill (-1) 4096 g4) 0 1))), (h6, .inl (cI, 3000, .inl (upd (upd g5 0 0) 0 1))), (h7, .inl (cI, 3000, .inl (upd (upd g6 0 0) 0 0))), (h1, .inl (cZ, 26, .inl (upd (upd (upd (upd (upd (upd (upd (upd (upd (upd (upd (upd (upd (upd (upd (upd (upd (upd (upd (upd (upd (upd (upd (upd (upd (upd g0 0 0) 1 0) 2 0) 3 0) 4 0) 5 0) 6 0) 7 0) 8 0) 9 0) 10 0) 11 0) 12 0) 13 0) 14 0) 15 0) 16 0) 17 0) 18 0) 19 0) 20 0) 21 0) 22 0) 23 0) 24 0) 25 0))), (h8, .inl (cI, 4096, .inl (upd g7 0 0)))] H := hP
  have hD : va_D A [(h9, .inl (cI, 3000, .inl g8)), (h2, .inl (cI, 32768, .inl (upd (k_fill (-1) 32768 g1) 17 0))), (h3, .inl (cI, 3000, .inl (upd g2 0 (-1)))), (h4, .inl (cI, 48000, .inl (upd g3 0 0))), (h0, .inr (12, ((((f0.set 119 (.int 0)).set 131 (.int 1)).set 129 (.int 0)).set 129 (.int 1)))), (h5, .inl (cI, 4096, .inl (upd (k_fill (-1) 4096 g4) 0 1))), (h6, .inl (cI, 3000, .inl (upd (upd g5 0 0) 0 1))), (h7, .inl (cI, 3000, .inl (upd (upd g6 0 0) 0 0))), (h1, .inl (cZ, 26, .inl (upd (upd (upd (upd (upd (upd (upd (upd (upd (upd (upd (upd (upd (upd (upd (upd (upd (upd (upd (upd (upd (upd (upd (upd (upd (upd g0 0 0) 1 0) 2 0) 3 0) 4 0) 5 0) 6 0) 7 0) 8 0) 9 0) 10 0) 11 0) 12 0) 13 0) 14 0) 15 0) 16 0) 17 0) 18 0) 19 0) 20 0) 21 0) 22 0) 23 0) 24 0) 25 0))), (h8, .inl (cI, 4096, .inl (upd g7 0 0)))] := hD
  refine lv_aload_n hx hb dX12_tries_60 rfl (lv_at hl 1 rfl) ?_
  refine k_cVv (As := []) (rest := []) (wc := [(h0, .inr (12, ((((f0.set 119 (.int 0)).set 131 (.int 1)).set 129 (.int 0)).set 129 (.int 1)))), (h6, .inl (cI, 3000, .inl (upd (upd g5 0 0) 0 1))), (h9, .inl (cI, 3000, .inl g8))]) (wr := [(h2, .inl (cI, 32768, .inl (upd (k_fill (-1) 32768 g1) 17 0))), (h3, .inl (cI, 3000, .inl (upd g2 0 (-1)))), (h4, .inl (cI, 48000, .inl (upd g3 0 0))), (h5, .inl (cI, 4096, .inl (upd (k_fill (-1) 4096 g4) 0 1))), (h7, .inl (cI, 3000, .inl (upd (upd g6 0 0) 0 0))), (h1, .inl (cZ, 26, .inl (upd (upd (upd (upd (upd (upd (upd (upd (upd (upd (upd (upd (upd (upd (upd (upd (upd (upd (upd (upd (upd (upd (upd (upd (upd (upd g0 0 0) 1 0) 2 0) 3 0) 4 0) 5 0) 6 0) 7 0) 8 0) 9 0) 10 0) 11 0) 12 0) 13 0) 14 0) 15 0) 16 0) 17 0) 18 0) 19 0) 20 0) 21 0) 22 0) 23 0) 24 0) 25 0))), (h8, .inl (cI, 4096, .inl (upd g7 0 0)))]) (w1 := (fun _ : Unit => [(h0, .inr (12, ((((f0.set 119 (.int 0)).set 131 (.int 1)).set 129 (.int 0)).set 129 (.int 1)))), (h6, .inl (cI, 3000, .inl (upd (upd g5 0 0) 0 1))), (h9, .inl (cI, 3000, .inl (upd g8 0 0)))])) ⟨hx, hb, hml, hown, hts⟩ hN hX hAE hK hP hD hS hA [4, 6, 0] [1, 2, 3, 5, 7, 8, 9] (ci := 12) rfl rfl rfl rfl (by decide +kernel) (by decide +kernel) (by decide +kernel) (c_X12_measure_0 l E D cI cJ cB cZ h0 (((((f0.set 119 (.int 0)).set 131 (.int 1)).set 129 (.int 0)).set 129 (.int 1))) h9 h6 ((upd (upd g5 0 0) 0 1)) g8 (k_set (k_set (k_ne (by decide) (k_ne (by decide) e6)))) (k_ne (by decide) (k_ne (by decide) (k_ne (by decide) (k_ne (by decide) e13)))) (k_ne (by decide) (k_ne (by decide) (k_ne (by decide) (k_ne (by decide) e10)))) rfl (k_ne (by decide) (k_ne (by decide) (k_set (k_ne (by decide) e4))))) (cwV 0 hts g9_X12_tries_X12_measure_976 rfl rfl rfl (by decide +kernel) ⟨Nat.le_of_ble_eq_true rfl, Nat.le_of_ble_eq_true rfl⟩) rfl hl.1 (Nat.le_of_ble_eq_true rfl) dX12_tries_61 ⟨Nat.le_of_ble_eq_true rfl, Nat.le_of_ble_eq_true rfl⟩ (fun _ H locs hP hD hS => ?_)
  have hP : va_P D vwCl [(h2, .inl (cI, 32768, .inl (upd (k_fill (-1) 32768 g1) 17 0))), (h3, .inl (cI, 3000, .inl (upd g2 0 (-1)))), (h4, .inl (cI, 48000, .inl (upd g3 0 0))), (h5, .inl (cI, 4096, .inl (upd (k_fill (-1) 4096 g4) 0 1))), (h7, .inl (cI, 3000, .inl (upd (upd g6 0 0) 0 0))), (h1, .inl (cZ, 26, .inl (upd (upd (upd (upd (upd (upd (upd (upd (upd (upd (upd (upd (upd (upd (upd (upd (upd (upd (upd (upd (upd (upd (upd (upd (upd (upd g0 0 0) 1 0) 2 0) 3 0) 4 0) 5 0) 6 0) 7 0) 8 0) 9 0) 10 0) 11 0) 12 0) 13 0) 14 0) 15 0) 16 0) 17 0) 18 0) 19 0) 20 0) 21 0) 22 0) 23 0) 24 0) 25 0))), (h8, .inl (cI, 4096, .inl (upd g7 0 0))), (h0, .inr (12, ((((f0.set 119 (.int 0)).set 131 (.int 1)).set 129 (.int 0)).set 129 (.int 1)))), (h6, .inl (cI, 3000, .inl (upd (upd g5 0 0) 0 1))), (h9, .inl (cI, 3000, .inl (upd g8 0 0)))] H := hP
  have hD : va_D A [(h2, .inl (cI, 32768, .inl (upd (k_fill (-1) 32768 g1) 17 0))), (h3, .inl (cI, 3000, .inl (upd g2 0 (-1)))), (h4, .inl (cI, 48000, .inl (upd g3 0 0))), (h5, .inl (cI, 4096, .inl (upd (k_fill (-1) 4096 g4) 0 1))), (h7, .inl (cI, 3000, .inl (upd (upd g6 0 0) 0 0))), (h1, .inl (cZ, 26, .inl (upd (upd (upd (upd (upd (upd (upd (upd (upd (upd (upd (upd (upd (upd (upd (upd (upd (upd (upd (upd (upd (upd (upd (upd (upd (upd g0 0 0) 1 0) 2 0) 3 0) 4 0) 5 0) 6 0) 7 0) 8 0) 9 0) 10 0) 11 0) 12 0) 13 0) 14 0) 15 0) 16 0) 17 0) 18 0) 19 0) 20 0) 21 0) 22 0) 23 0) 24 0) 25 0))), (h8, .inl (cI, 4096, .inl (upd g7 0 0))), (h0, .inr (12, ((((f0.set 119 (.int 0)).set 131 (.int 1)).set 129 (.int 0)).set 129 (.int 1)))), (h6, .inl (cI, 3000, .inl (upd (upd g5 0 0) 0 1))), (h9, .inl (cI, 3000, .inl (upd g8 0 0)))] := hD
  refine lv_aload_n hx hb dX12_tries_64 rfl (lv_at hl 1 rfl) ?_
  refine k_get (D := D) (ci := 12) (v := .ref h9) (N := 195) hx hb hts hin12 hown hK hP 7 rfl rfl (by decide) f9_12_137 (hts (.fieldLink RX12 349 "IntegerHouseModel" "far" "[I") (o9_X12_tries _ (List.mem_of_getElem? (i := 14) rfl))) (k_ne (by decide) (k_ne (by decide) (k_ne (by decide) (k_ne (by decide) e13)))) dX12_tries_65 ?_
  refine lv_iconst (v := 0) hx hb dX12_tries_68 (by decide) ?_
  refine va_iald hx hb hK hP 9 0 rfl rfl (k_in (by decide)) dX12_tries_69 ?_
  refine k_topi (y := 0) rfl ?_
  refine lv_iconst (v := (-1)) hx hb dX12_tries_70 (by decide) ?_
  refine lv_icmp_ne (tgt := 78) hx hb dX12_tries_71 (by decide) (fun _ => ?_) (fun c9 => absurd c9 (by decide))
  refine lv_iconst (v := 1) hx hb dX12_tries_78 (by decide) ?_
  have hP := hP.sub (ws' := [(h0, .inr (12, ((((f0.set 119 (.int 0)).set 131 (.int 1)).set 129 (.int 0)).set 129 (.int 1)))), (h1, .inl (cZ, 26, .inl (upd (upd (upd (upd (upd (upd (upd (upd (upd (upd (upd (upd (upd (upd (upd (upd (upd (upd (upd (upd (upd (upd (upd (upd (upd (upd g0 0 0) 1 0) 2 0) 3 0) 4 0) 5 0) 6 0) 7 0) 8 0) 9 0) 10 0) 11 0) 12 0) 13 0) 14 0) 15 0) 16 0) 17 0) 18 0) 19 0) 20 0) 21 0) 22 0) 23 0) 24 0) 25 0))), (h2, .inl (cI, 32768, .inl (upd (k_fill (-1) 32768 g1) 17 0))), (h3, .inl (cI, 3000, .inl (upd g2 0 (-1)))), (h4, .inl (cI, 48000, .inl (upd g3 0 0))), (h5, .inl (cI, 4096, .inl (upd (k_fill (-1) 4096 g4) 0 1))), (h6, .inl (cI, 3000, .inl (upd (upd g5 0 0) 0 1))), (h7, .inl (cI, 3000, .inl (upd (upd g6 0 0) 0 0))), (h8, .inl (cI, 4096, .inl (upd g7 0 0))), (h9, .inl (cI, 3000, .inl (upd g8 0 0)))]) [7, 5, 0, 1, 2, 3, 8, 4, 6, 9] rfl
  have hD := hD.sub (ws' := [(h0, .inr (12, ((((f0.set 119 (.int 0)).set 131 (.int 1)).set 129 (.int 0)).set 129 (.int 1)))), (h1, .inl (cZ, 26, .inl (upd (upd (upd (upd (upd (upd (upd (upd (upd (upd (upd (upd (upd (upd (upd (upd (upd (upd (upd (upd (upd (upd (upd (upd (upd (upd g0 0 0) 1 0) 2 0) 3 0) 4 0) 5 0) 6 0) 7 0) 8 0) 9 0) 10 0) 11 0) 12 0) 13 0) 14 0) 15 0) 16 0) 17 0) 18 0) 19 0) 20 0) 21 0) 22 0) 23 0) 24 0) 25 0))), (h2, .inl (cI, 32768, .inl (upd (k_fill (-1) 32768 g1) 17 0))), (h3, .inl (cI, 3000, .inl (upd g2 0 (-1)))), (h4, .inl (cI, 48000, .inl (upd g3 0 0))), (h5, .inl (cI, 4096, .inl (upd (k_fill (-1) 4096 g4) 0 1))), (h6, .inl (cI, 3000, .inl (upd (upd g5 0 0) 0 1))), (h7, .inl (cI, 3000, .inl (upd (upd g6 0 0) 0 0))), (h8, .inl (cI, 4096, .inl (upd g7 0 0))), (h9, .inl (cI, 3000, .inl (upd g8 0 0)))]) [7, 5, 0, 1, 2, 3, 8, 4, 6, 9] (by decide +kernel) rfl
  exact W.iret (v := 1) hx hb hr (fun t ht hW => ⟨⟨1, (), rfl, rfl, kB_mk ht hW hP hK hD⟩, hS.F ht⟩) hS.2.2 dX12_tries_79
set_option maxHeartbeats 400000000 in
set_option maxRecDepth 100000 in
theorem c_X12_core_0 (l : Launch) (E : kE) (D : va_G) (cI cJ cB cZ : ClassId) (h0 : Nat) (f0 : List Value) (h1 : Nat) (g0 : Nat → Int32) (h2 : Nat) (h3 : Nat) (h4 : Nat) (h5 : Nat) (h6 : Nat) (h7 : Nat) (h8 : Nat) (h9 : Nat) (h10 : Nat) (g1 : Nat → Int32) (g2 : Nat → Int32) (g3 : Nat → Int32) (g4 : Nat → Int32) (g5 : Nat → Int32) (g6 : Nat → Int32) (g7 : Nat → Int32) (g8 : Nat → Int32) (g9 : Nat → Int32) (e0 : f0[0]? = some (.int 0)) (e1 : f0[5]? = some (.int 0)) (e2 : f0[134]? = some (.ref h1)) (e3 : f0[119]? = some (.int 0)) (e4 : f0[121]? = some (.ref h2)) (e5 : f0[33]? = some (.int 0)) (e6 : f0[32]? = some (.int 0)) (e7 : f0[131]? = some (.int 0)) (e8 : f0[127]? = some (.ref h3)) (e9 : f0[129]? = some (.int 0)) (e10 : f0[128]? = some (.ref h4)) (e11 : f0[126]? = some (.ref h5)) (e12 : f0[136]? = some (.ref h6)) (e13 : f0[132]? = some (.ref h7)) (e14 : f0[133]? = some (.ref h8)) (e15 : f0[135]? = some (.ref h9)) (e16 : f0[137]? = some (.ref h10)) (e17 : f0[149]? = some (.int 0)) : kI l E D (kT cI cJ cB cZ) yX12_core vW_X12_core ({ frames := 3, cells := 0, slots := 0, locals := 72 }) [.ref h0] [(h0, .inr (12, f0)), (h1, .inl (cZ, 24, .inl g0)), (h2, .inl (cZ, 26, .inl g1)), (h3, .inl (cI, 32768, .inl g2)), (h4, .inl (cI, 3000, .inl g3)), (h5, .inl (cI, 48000, .inl g4)), (h6, .inl (cI, 4096, .inl g5)), (h7, .inl (cI, 3000, .inl g6)), (h8, .inl (cI, 3000, .inl g7)), (h9, .inl (cI, 4096, .inl g8)), (h10, .inl (cI, 3000, .inl g9))] (0) [(h0, .inr (12, ((((((f0.set 0 (.int 0)).set 119 (.int 0)).set 131 (.int 1)).set 129 (.int 0)).set 129 (.int 1)).set 149 (.int 0)))), (h1, .inl (cZ, 24, .inl (upd (upd (upd (upd (upd (upd (upd (upd (upd (upd (upd (upd (upd (upd (upd (upd (upd (upd (upd (upd (upd (upd (upd (upd g0 0 0) 1 0) 2 0) 3 0) 4 0) 5 0) 6 0) 7 0) 8 0) 9 0) 10 0) 11 0) 12 0) 13 0) 14 0) 15 0) 16 0) 17 0) 18 0) 19 0) 20 0) 21 0) 22 0) 23 0))), (h2, .inl (cZ, 26, .inl (upd (upd (upd (upd (upd (upd (upd (upd (upd (upd (upd (upd (upd (upd (upd (upd (upd (upd (upd (upd (upd (upd (upd (upd (upd (upd g1 0 0) 1 0) 2 0) 3 0) 4 0) 5 0) 6 0) 7 0) 8 0) 9 0) 10 0) 11 0) 12 0) 13 0) 14 0) 15 0) 16 0) 17 0) 18 0) 19 0) 20 0) 21 0) 22 0) 23 0) 24 0) 25 0))), (h3, .inl (cI, 32768, .inl (upd (k_fill (-1) 32768 g2) 17 0))), (h4, .inl (cI, 3000, .inl (upd g3 0 (-1)))), (h5, .inl (cI, 48000, .inl (upd g4 0 0))), (h6, .inl (cI, 4096, .inl (upd (k_fill (-1) 4096 g5) 0 1))), (h7, .inl (cI, 3000, .inl (upd (upd g6 0 0) 0 1))), (h8, .inl (cI, 3000, .inl (upd (upd g7 0 0) 0 0))), (h9, .inl (cI, 4096, .inl (upd g8 0 0))), (h10, .inl (cI, 3000, .inl (upd g9 0 0)))] 0 0 := by
  intro sz
  refine Met.ofW (cc := cX12_core) (maxL := 3) (ret := (some .int)) (by decide) rfl ?_
  intro p e s m args below meth c s₁ B hml hv
  obtain ⟨rfl, hsz, hP, hK, hD0, hN, hX⟩ := hv
  have hx := B.exec
  have hb := B.bytes
  have hr := B.returns
  have hts := atoms_spec (ws := vW_X12_core) B.pre
  have hown : s.vm.findClass RX12 = some m.cls := findClass_of_methodNamed B.named
  have hlocks := B.notSynchronized
  have hin12 : ∀ w ∈ wsX120, w ∈ vW_X12_core := u9_X12_core_wsX120
  subst hsz
  have hD := hD0.self (sz := s.heap.size)
  have hAE := k_AE hD0 hX
  generalize hAe : va_A [(h0, .inr (12, f0)), (h1, .inl (cZ, 24, .inl g0)), (h2, .inl (cZ, 26, .inl g1)), (h3, .inl (cI, 32768, .inl g2)), (h4, .inl (cI, 3000, .inl g3)), (h5, .inl (cI, 48000, .inl g4)), (h6, .inl (cI, 4096, .inl g5)), (h7, .inl (cI, 3000, .inl g6)), (h8, .inl (cI, 3000, .inl g7)), (h9, .inl (cI, 4096, .inl g8)), (h10, .inl (cI, 3000, .inl g9))] s.heap.size = A at hD hAE ⊢
  have hA : ∀ q : Nat, s.heap.size ≤ q → A q := fun q h => by rw [← hAe]; exact Or.inr h
  have hS : va_S A s.heap s.heap [] := va_S.rf
  have hP : va_P D vwCl [(h0, .inr (12, f0)), (h1, .inl (cZ, 24, .inl g0)), (h2, .inl (cZ, 26, .inl g1)), (h3, .inl (cI, 32768, .inl g2)), (h4, .inl (cI, 3000, .inl g3)), (h5, .inl (cI, 48000, .inl g4)), (h6, .inl (cI, 4096, .inl g5)), (h7, .inl (cI, 3000, .inl g6)), (h8, .inl (cI, 3000, .inl g7)), (h9, .inl (cI, 4096, .inl g8)), (h10, .inl (cI, 3000, .inl g9))] s.heap := hP
  have hl := lv_entry ([.ref h0] : List Value) (n := 3) (Nat.le_of_ble_eq_true rfl)
  rw [lg_entry_eq]
  generalize (lg_sl ([.ref h0]) ++ List.replicate (3 - (lg_sl ([.ref h0])).length) Slot.unset).toArray = ls at hl ⊢
  have hl : lv_has ls 3 [(0, .ref h0)] := hl
  refine lv_aload_n hx hb dX12_core_0 rfl (lv_at hl 0 rfl) ?_
  refine k_cVi (As := []) (rest := []) (wc := [(h0, .inr (12, f0))]) (wr := [(h1, .inl (cZ, 24, .inl g0)), (h2, .inl (cZ, 26, .inl g1)), (h3, .inl (cI, 32768, .inl g2)), (h4, .inl (cI, 3000, .inl g3)), (h5, .inl (cI, 48000, .inl g4)), (h6, .inl (cI, 4096, .inl g5)), (h7, .inl (cI, 3000, .inl g6)), (h8, .inl (cI, 3000, .inl g7)), (h9, .inl (cI, 4096, .inl g8)), (h10, .inl (cI, 3000, .inl g9))]) (w1 := [(h0, .inr (12, (f0.set 0 (.int 0))))]) ⟨hx, hb, hml, hown, hts⟩ hN hX hAE hK hP hD hS hA [0] [1, 2, 3, 4, 5, 6, 7, 8, 9, 10] (ci := 12) rfl rfl rfl rfl (by decide +kernel) (by decide +kernel) (by decide +kernel) (c_X12_asks_0 l E D cI cJ cB cZ h0 f0 e0 e1) (cwV 0 hts g9_X12_core_X12_asks_871 rfl rfl rfl (by decide +kernel) ⟨Nat.le_of_ble_eq_true rfl, Nat.le_of_ble_eq_true rfl⟩) rfl hl.1 (Nat.le_of_ble_eq_true rfl) dX12_core_1 ⟨Nat.le_of_ble_eq_true rfl, Nat.le_of_ble_eq_true rfl⟩ (fun H locs hP hD hS => ?_)
  have hP : va_P D vwCl [(h1, .inl (cZ, 24, .inl g0)), (h2, .inl (cZ, 26, .inl g1)), (h3, .inl (cI, 32768, .inl g2)), (h4, .inl (cI, 3000, .inl g3)), (h5, .inl (cI, 48000, .inl g4)), (h6, .inl (cI, 4096, .inl g5)), (h7, .inl (cI, 3000, .inl g6)), (h8, .inl (cI, 3000, .inl g7)), (h9, .inl (cI, 4096, .inl g8)), (h10, .inl (cI, 3000, .inl g9)), (h0, .inr (12, (f0.set 0 (.int 0))))] H := hP
  have hD : va_D A [(h1, .inl (cZ, 24, .inl g0)), (h2, .inl (cZ, 26, .inl g1)), (h3, .inl (cI, 32768, .inl g2)), (h4, .inl (cI, 3000, .inl g3)), (h5, .inl (cI, 48000, .inl g4)), (h6, .inl (cI, 4096, .inl g5)), (h7, .inl (cI, 3000, .inl g6)), (h8, .inl (cI, 3000, .inl g7)), (h9, .inl (cI, 4096, .inl g8)), (h10, .inl (cI, 3000, .inl g9)), (h0, .inr (12, (f0.set 0 (.int 0))))] := hD
  refine lv_if_ne (tgt := 10) hx hb dX12_core_4 (by decide) (fun _ => ?_) (fun c9 => absurd c9 (by decide))
  refine lv_aload_n hx hb dX12_core_10 rfl (lv_at hl 0 rfl) ?_
  refine k_cVv (As := []) (rest := []) (wc := [(h0, .inr (12, (f0.set 0 (.int 0)))), (h1, .inl (cZ, 24, .inl g0))]) (wr := [(h2, .inl (cZ, 26, .inl g1)), (h3, .inl (cI, 32768, .inl g2)), (h4, .inl (cI, 3000, .inl g3)), (h5, .inl (cI, 48000, .inl g4)), (h6, .inl (cI, 4096, .inl g5)), (h7, .inl (cI, 3000, .inl g6)), (h8, .inl (cI, 3000, .inl g7)), (h9, .inl (cI, 4096, .inl g8)), (h10, .inl (cI, 3000, .inl g9))]) (w1 := (fun _ : Unit => [(h0, .inr (12, (f0.set 0 (.int 0)))), (h1, .inl (cZ, 24, .inl (upd (upd (upd (upd (upd (upd (upd (upd (upd (upd (upd (upd (upd (upd (upd (upd (upd (upd (upd (upd (upd (upd (upd (upd g0 0 0) 1 0) 2 0) 3 0) 4 0) 5 0) 6 0) 7 0) 8 0) 9 0) 10 0) 11 0) 12 0) 13 0) 14 0) 15 0) 16 0) 17 0) 18 0) 19 0) 20 0) 21 0) 22 0) 23 0)))])) ⟨hx, hb, hml, hown, hts⟩ hN hX hAE hK hP hD hS hA [10, 0] [1, 2, 3, 4, 5, 6, 7, 8, 9] (ci := 12) rfl rfl rfl rfl (by decide +kernel) (by decide +kernel) (by decide +kernel) (c_X12_leaveNoneOut_0 l E D cI cJ cB cZ h0 ((f0.set 0 (.int 0))) h1 g0 (k_ne (by decide) e2)) (cwV 0 hts g9_X12_core_X12_leaveNoneOut_1044 rfl rfl rfl (by decide +kernel) ⟨Nat.le_of_ble_eq_true rfl, Nat.le_of_ble_eq_true rfl⟩) rfl hl.1 (Nat.le_of_ble_eq_true rfl) dX12_core_11 ⟨Nat.le_of_ble_eq_true rfl, Nat.le_of_ble_eq_true rfl⟩ (fun _ H locs hP hD hS => ?_)
  have hP : va_P D vwCl [(h2, .inl (cZ, 26, .inl g1)), (h3, .inl (cI, 32768, .inl g2)), (h4, .inl (cI, 3000, .inl g3)), (h5, .inl (cI, 48000, .inl g4)), (h6, .inl (cI, 4096, .inl g5)), (h7, .inl (cI, 3000, .inl g6)), (h8, .inl (cI, 3000, .inl g7)), (h9, .inl (cI, 4096, .inl g8)), (h10, .inl (cI, 3000, .inl g9)), (h0, .inr (12, (f0.set 0 (.int 0)))), (h1, .inl (cZ, 24, .inl (upd (upd (upd (upd (upd (upd (upd (upd (upd (upd (upd (upd (upd (upd (upd (upd (upd (upd (upd (upd (upd (upd (upd (upd g0 0 0) 1 0) 2 0) 3 0) 4 0) 5 0) 6 0) 7 0) 8 0) 9 0) 10 0) 11 0) 12 0) 13 0) 14 0) 15 0) 16 0) 17 0) 18 0) 19 0) 20 0) 21 0) 22 0) 23 0)))] H := hP
  have hD : va_D A [(h2, .inl (cZ, 26, .inl g1)), (h3, .inl (cI, 32768, .inl g2)), (h4, .inl (cI, 3000, .inl g3)), (h5, .inl (cI, 48000, .inl g4)), (h6, .inl (cI, 4096, .inl g5)), (h7, .inl (cI, 3000, .inl g6)), (h8, .inl (cI, 3000, .inl g7)), (h9, .inl (cI, 4096, .inl g8)), (h10, .inl (cI, 3000, .inl g9)), (h0, .inr (12, (f0.set 0 (.int 0)))), (h1, .inl (cZ, 24, .inl (upd (upd (upd (upd (upd (upd (upd (upd (upd (upd (upd (upd (upd (upd (upd (upd (upd (upd (upd (upd (upd (upd (upd (upd g0 0 0) 1 0) 2 0) 3 0) 4 0) 5 0) 6 0) 7 0) 8 0) 9 0) 10 0) 11 0) 12 0) 13 0) 14 0) 15 0) 16 0) 17 0) 18 0) 19 0) 20 0) 21 0) 22 0) 23 0)))] := hD
  refine lv_aload_n hx hb dX12_core_14 rfl (lv_at hl 0 rfl) ?_
  refine k_cVi (As := []) (rest := []) (wc := [(h0, .inr (12, (f0.set 0 (.int 0)))), (h2, .inl (cZ, 26, .inl g1)), (h3, .inl (cI, 32768, .inl g2)), (h4, .inl (cI, 3000, .inl g3)), (h5, .inl (cI, 48000, .inl g4)), (h6, .inl (cI, 4096, .inl g5)), (h7, .inl (cI, 3000, .inl g6)), (h8, .inl (cI, 3000, .inl g7)), (h9, .inl (cI, 4096, .inl g8)), (h10, .inl (cI, 3000, .inl g9))]) (wr := [(h1, .inl (cZ, 24, .inl (upd (upd (upd (upd (upd (upd (upd (upd (upd (upd (upd (upd (upd (upd (upd (upd (upd (upd (upd (upd (upd (upd (upd (upd g0 0 0) 1 0) 2 0) 3 0) 4 0) 5 0) 6 0) 7 0) 8 0) 9 0) 10 0) 11 0) 12 0) 13 0) 14 0) 15 0) 16 0) 17 0) 18 0) 19 0) 20 0) 21 0) 22 0) 23 0)))]) (w1 := [(h0, .inr (12, (((((f0.set 0 (.int 0)).set 119 (.int 0)).set 131 (.int 1)).set 129 (.int 0)).set 129 (.int 1)))), (h2, .inl (cZ, 26, .inl (upd (upd (upd (upd (upd (upd (upd (upd (upd (upd (upd (upd (upd (upd (upd (upd (upd (upd (upd (upd (upd (upd (upd (upd (upd (upd g1 0 0) 1 0) 2 0) 3 0) 4 0) 5 0) 6 0) 7 0) 8 0) 9 0) 10 0) 11 0) 12 0) 13 0) 14 0) 15 0) 16 0) 17 0) 18 0) 19 0) 20 0) 21 0) 22 0) 23 0) 24 0) 25 0))), (h3, .inl (cI, 32768, .inl (upd (k_fill (-1) 32768 g2) 17 0))), (h4, .inl (cI, 3000, .inl (upd g3 0 (-1)))), (h5, .inl (cI, 48000, .inl (upd g4 0 0))), (h6, .inl (cI, 4096, .inl (upd (k_fill (-1) 4096 g5) 0 1))), (h7, .inl (cI, 3000, .inl (upd (upd g6 0 0) 0 1))), (h8, .inl (cI, 3000, .inl (upd (upd g7 0 0) 0 0))), (h9, .inl (cI, 4096, .inl (upd g8 0 0))), (h10, .inl (cI, 3000, .inl (upd g9 0 0)))]) ⟨hx, hb, hml, hown, hts⟩ hN hX hAE hK hP hD hS hA [9, 0, 1, 2, 3, 4, 5, 6, 7, 8] [10] (ci := 12) rfl rfl rfl rfl (by decide +kernel) (by decide +kernel) (by decide +kernel) (c_X12_tries_0 l E D cI cJ cB cZ h0 ((f0.set 0 (.int 0))) h2 g1 h3 h4 h5 g2 g3 g4 h6 h7 h8 h9 g5 g6 g7 g8 h10 g9 (k_ne (by decide) e3) (k_ne (by decide) e4) (k_ne (by decide) e5) (k_ne (by decide) e6) (k_ne (by decide) e7) (k_ne (by decide) e8) (k_ne (by decide) e9) (k_ne (by decide) e10) (k_ne (by decide) e11) (k_ne (by decide) e12) (k_ne (by decide) e13) (k_ne (by decide) e14) (k_ne (by decide) e15) (k_ne (by decide) e16)) (cwV 0 hts g9_X12_core_X12_tries_1047 rfl rfl rfl (by decide +kernel) ⟨Nat.le_of_ble_eq_true rfl, Nat.le_of_ble_eq_true rfl⟩) rfl hl.1 (Nat.le_of_ble_eq_true rfl) dX12_core_15 ⟨Nat.le_of_ble_eq_true rfl, Nat.le_of_ble_eq_true rfl⟩ (fun H locs hP hD hS => ?_)
  have hP : va_P D vwCl [(h1, .inl (cZ, 24, .inl (upd (upd (upd (upd (upd (upd (upd (upd (upd (upd (upd (upd (upd (upd (upd (upd (upd (upd (upd (upd (upd (upd (upd (upd g0 0 0) 1 0) 2 0) 3 0) 4 0) 5 0) 6 0) 7 0) 8 0) 9 0) 10 0) 11 0) 12 0) 13 0) 14 0) 15 0) 16 0) 17 0) 18 0) 19 0) 20 0) 21 0) 22 0) 23 0))), (h0, .inr (12, (((((f0.set 0 (.int 0)).set 119 (.int 0)).set 131 (.int 1)).set 129 (.int 0)).set 129 (.int 1)))), (h2, .inl (cZ, 26, .inl (upd (upd (upd (upd (upd (upd (upd (upd (upd (upd (upd (upd (upd (upd (upd (upd (upd (upd (upd (upd (upd (upd (upd (upd (upd (upd g1 0 0) 1 0) 2 0) 3 0) 4 0) 5 0) 6 0) 7 0) 8 0) 9 0) 10 0) 11 0) 12 0) 13 0) 14 0) 15 0) 16 0) 17 0) 18 0) 19 0) 20 0) 21 0) 22 0) 23 0) 24 0) 25 0))), (h3, .inl (cI, 32768, .inl (upd (k_fill (-1) 32768 g2) 17 0))), (h4, .inl (cI, 3000, .inl (upd g3 0 (-1)))), (h5, .inl (cI, 48000, .inl (upd g4 0 0))), (h6, .inl (cI, 4096, .inl (upd (k_fill (-1) 4096 g5) 0 1))), (h7, .inl (cI, 3000, .inl (upd (upd g6 0 0) 0 1))), (h8, .inl (cI, 3000, .inl (upd (upd g7 0 0) 0 0))), (h9, .inl (cI, 4096, .inl (upd g8 0 0))), (h10, .inl (cI, 3000, .inl (upd g9 0 0)))] H := hP
  have hD : va_D A [(h1, .inl (cZ, 24, .inl (upd (upd (upd (upd (upd (upd (upd (upd (upd (upd (upd (upd (upd (upd (upd (upd (upd (upd (upd (upd (upd (upd (upd (upd g0 0 0) 1 0) 2 0) 3 0) 4 0) 5 0) 6 0) 7 0) 8 0) 9 0) 10 0) 11 0) 12 0) 13 0) 14 0) 15 0) 16 0) 17 0) 18 0) 19 0) 20 0) 21 0) 22 0) 23 0))), (h0, .inr (12, (((((f0.set 0 (.int 0)).set 119 (.int 0)).set 131 (.int 1)).set 129 (.int 0)).set 129 (.int 1)))), (h2, .inl (cZ, 26, .inl (upd (upd (upd (upd (upd (upd (upd (upd (upd (upd (upd (upd (upd (upd (upd (upd (upd (upd (upd (upd (upd (upd (upd (upd (upd (upd g1 0 0) 1 0) 2 0) 3 0) 4 0) 5 0) 6 0) 7 0) 8 0) 9 0) 10 0) 11 0) 12 0) 13 0) 14 0) 15 0) 16 0) 17 0) 18 0) 19 0) 20 0) 21 0) 22 0) 23 0) 24 0) 25 0))), (h3, .inl (cI, 32768, .inl (upd (k_fill (-1) 32768 g2) 17 0))), (h4, .inl (cI, 3000, .inl (upd g3 0 (-1)))), (h5, .inl (cI, 48000, .inl (upd g4 0 0))), (h6, .inl (cI, 4096, .inl (upd (k_fill (-1) 4096 g5) 0 1))), (h7, .inl (cI, 3000, .inl (upd (upd g6 0 0) 0 1))), (h8, .inl (cI, 3000, .inl (upd (upd g7 0 0) 0 0))), (h9, .inl (cI, 4096, .inl (upd g8 0 0))), (h10, .inl (cI, 3000, .inl (upd g9 0 0)))] := hD
  refine lv_istore_n (lv' := [(1, .int 1), (0, .ref h0)]) hx hb dX12_core_18 rfl hl (by decide) rfl (fun ls hl => ?_)
  refine lv_iload_n hx hb dX12_core_19 rfl (lv_at hl 0 rfl) ?_
  refine lv_bipush (v := (-107)) hx hb dX12_core_20 (by decide) ?_
  refine lv_icmp_ne (tgt := 28) hx hb dX12_core_22 (by decide) (fun _ => ?_) (fun c9 => absurd c9 (by decide))
  refine lv_aload_n hx hb dX12_core_28 rfl (lv_at hl 1 rfl) ?_
  refine lv_iconst (v := 0) hx hb dX12_core_29 (by decide) ?_
  refine k_put (D := D) (ci := 12) (v := .int 0) (ty := .int) (N := 195) hx hb hts hin12 tyX12 tyX12_ok nmX12 hown hK hP hD hS 1 rfl rfl (by decide) f9_12_149 (hts (.fieldLink RX12 1050 "IntegerHouseModel" "coreSize" "I") (o9_X12_core _ (List.mem_of_getElem? (i := 10) rfl))) rfl pd_2 rfl rfl (k_len (k_ne (by decide) (k_ne (by decide) (k_ne (by decide) (k_ne (by decide) (k_ne (by decide) e17)))))) dX12_core_30 (fun H locs hP hD hS => ?_)
  have hP : va_P D vwCl [(h1, .inl (cZ, 24, .inl (upd (upd (upd (upd (upd (upd (upd (upd (upd (upd (upd (upd (upd (upd (upd (upd (upd (upd (upd (upd (upd (upd (upd (upd g0 0 0) 1 0) 2 0) 3 0) 4 0) 5 0) 6 0) 7 0) 8 0) 9 0) 10 0) 11 0) 12 0) 13 0) 14 0) 15 0) 16 0) 17 0) 18 0) 19 0) 20 0) 21 0) 22 0) 23 0))), (h0, .inr (12, ((((((f0.set 0 (.int 0)).set 119 (.int 0)).set 131 (.int 1)).set 129 (.int 0)).set 129 (.int 1)).set 149 (.int 0)))), (h2, .inl (cZ, 26, .inl (upd (upd (upd (upd (upd (upd (upd (upd (upd (upd (upd (upd (upd (upd (upd (upd (upd (upd (upd (upd (upd (upd (upd (upd (upd (upd g1 0 0) 1 0) 2 0) 3 0) 4 0) 5 0) 6 0) 7 0) 8 0) 9 0) 10 0) 11 0) 12 0) 13 0) 14 0) 15 0) 16 0) 17 0) 18 0) 19 0) 20 0) 21 0) 22 0) 23 0) 24 0) 25 0))), (h3, .inl (cI, 32768, .inl (upd (k_fill (-1) 32768 g2) 17 0))), (h4, .inl (cI, 3000, .inl (upd g3 0 (-1)))), (h5, .inl (cI, 48000, .inl (upd g4 0 0))), (h6, .inl (cI, 4096, .inl (upd (k_fill (-1) 4096 g5) 0 1))), (h7, .inl (cI, 3000, .inl (upd (upd g6 0 0) 0 1))), (h8, .inl (cI, 3000, .inl (upd (upd g7 0 0) 0 0))), (h9, .inl (cI, 4096, .inl (upd g8 0 0))), (h10, .inl (cI, 3000, .inl (upd g9 0 0)))] H := hP
  have hD : va_D A [(h1, .inl (cZ, 24, .inl (upd (upd (upd (upd (upd (upd (upd (upd (upd (upd (upd (upd (upd (upd (upd (upd (upd (upd (upd (upd (upd (upd (upd (upd g0 0 0) 1 0) 2 0) 3 0) 4 0) 5 0) 6 0) 7 0) 8 0) 9 0) 10 0) 11 0) 12 0) 13 0) 14 0) 15 0) 16 0) 17 0) 18 0) 19 0) 20 0) 21 0) 22 0) 23 0))), (h0, .inr (12, ((((((f0.set 0 (.int 0)).set 119 (.int 0)).set 131 (.int 1)).set 129 (.int 0)).set 129 (.int 1)).set 149 (.int 0)))), (h2, .inl (cZ, 26, .inl (upd (upd (upd (upd (upd (upd (upd (upd (upd (upd (upd (upd (upd (upd (upd (upd (upd (upd (upd (upd (upd (upd (upd (upd (upd (upd g1 0 0) 1 0) 2 0) 3 0) 4 0) 5 0) 6 0) 7 0) 8 0) 9 0) 10 0) 11 0) 12 0) 13 0) 14 0) 15 0) 16 0) 17 0) 18 0) 19 0) 20 0) 21 0) 22 0) 23 0) 24 0) 25 0))), (h3, .inl (cI, 32768, .inl (upd (k_fill (-1) 32768 g2) 17 0))), (h4, .inl (cI, 3000, .inl (upd g3 0 (-1)))), (h5, .inl (cI, 48000, .inl (upd g4 0 0))), (h6, .inl (cI, 4096, .inl (upd (k_fill (-1) 4096 g5) 0 1))), (h7, .inl (cI, 3000, .inl (upd (upd g6 0 0) 0 1))), (h8, .inl (cI, 3000, .inl (upd (upd g7 0 0) 0 0))), (h9, .inl (cI, 4096, .inl (upd g8 0 0))), (h10, .inl (cI, 3000, .inl (upd g9 0 0)))] := hD
  refine lv_iload_n hx hb dX12_core_33 rfl (lv_at hl 0 rfl) ?_
  refine lv_iconst (v := 1) hx hb dX12_core_34 (by decide) ?_
  refine lv_icmp_ne (tgt := 40) hx hb dX12_core_35 (by decide) (fun c9 => absurd (by decide) c9) (fun _ => ?_)
  refine lv_iconst (v := 0) hx hb dX12_core_38 (by decide) ?_
  have hP := hP.sub (ws' := [(h0, .inr (12, ((((((f0.set 0 (.int 0)).set 119 (.int 0)).set 131 (.int 1)).set 129 (.int 0)).set 129 (.int 1)).set 149 (.int 0)))), (h1, .inl (cZ, 24, .inl (upd (upd (upd (upd (upd (upd (upd (upd (upd (upd (upd (upd (upd (upd (upd (upd (upd (upd (upd (upd (upd (upd (upd (upd g0 0 0) 1 0) 2 0) 3 0) 4 0) 5 0) 6 0) 7 0) 8 0) 9 0) 10 0) 11 0) 12 0) 13 0) 14 0) 15 0) 16 0) 17 0) 18 0) 19 0) 20 0) 21 0) 22 0) 23 0))), (h2, .inl (cZ, 26, .inl (upd (upd (upd (upd (upd (upd (upd (upd (upd (upd (upd (upd (upd (upd (upd (upd (upd (upd (upd (upd (upd (upd (upd (upd (upd (upd g1 0 0) 1 0) 2 0) 3 0) 4 0) 5 0) 6 0) 7 0) 8 0) 9 0) 10 0) 11 0) 12 0) 13 0) 14 0) 15 0) 16 0) 17 0) 18 0) 19 0) 20 0) 21 0) 22 0) 23 0) 24 0) 25 0))), (h3, .inl (cI, 32768, .inl (upd (k_fill (-1) 32768 g2) 17 0))), (h4, .inl (cI, 3000, .inl (upd g3 0 (-1)))), (h5, .inl (cI, 48000, .inl (upd g4 0 0))), (h6, .inl (cI, 4096, .inl (upd (k_fill (-1) 4096 g5) 0 1))), (h7, .inl (cI, 3000, .inl (upd (upd g6 0 0) 0 1))), (h8, .inl (cI, 3000, .inl (upd (upd g7 0 0) 0 0))), (h9, .inl (cI, 4096, .inl (upd g8 0 0))), (h10, .inl (cI, 3000, .inl (upd g9 0 0)))]) [1, 0, 2, 3, 4, 5, 6, 7, 8, 9, 10] rfl
  have hD := hD.sub (ws' := [(h0, .inr (12, ((((((f0.set 0 (.int 0)).set 119 (.int 0)).set 131 (.int 1)).set 129 (.int 0)).set 129 (.int 1)).set 149 (.int 0)))), (h1, .inl (cZ, 24, .inl (upd (upd (upd (upd (upd (upd (upd (upd (upd (upd (upd (upd (upd (upd (upd (upd (upd (upd (upd (upd (upd (upd (upd (upd g0 0 0) 1 0) 2 0) 3 0) 4 0) 5 0) 6 0) 7 0) 8 0) 9 0) 10 0) 11 0) 12 0) 13 0) 14 0) 15 0) 16 0) 17 0) 18 0) 19 0) 20 0) 21 0) 22 0) 23 0))), (h2, .inl (cZ, 26, .inl (upd (upd (upd (upd (upd (upd (upd (upd (upd (upd (upd (upd (upd (upd (upd (upd (upd (upd (upd (upd (upd (upd (upd (upd (upd (upd g1 0 0) 1 0) 2 0) 3 0) 4 0) 5 0) 6 0) 7 0) 8 0) 9 0) 10 0) 11 0) 12 0) 13 0) 14 0) 15 0) 16 0) 17 0) 18 0) 19 0) 20 0) 21 0) 22 0) 23 0) 24 0) 25 0))), (h3, .inl (cI, 32768, .inl (upd (k_fill (-1) 32768 g2) 17 0))), (h4, .inl (cI, 3000, .inl (upd g3 0 (-1)))), (h5, .inl (cI, 48000, .inl (upd g4 0 0))), (h6, .inl (cI, 4096, .inl (upd (k_fill (-1) 4096 g5) 0 1))), (h7, .inl (cI, 3000, .inl (upd (upd g6 0 0) 0 1))), (h8, .inl (cI, 3000, .inl (upd (upd g7 0 0) 0 0))), (h9, .inl (cI, 4096, .inl (upd g8 0 0))), (h10, .inl (cI, 3000, .inl (upd g9 0 0)))]) [1, 0, 2, 3, 4, 5, 6, 7, 8, 9, 10] (by decide +kernel) rfl
  exact W.iret (v := 0) hx hb hr (fun t ht hW => ⟨⟨0, (), rfl, rfl, kB_mk ht hW hP hK hD⟩, hS.F ht⟩) hS.2.2 dX12_core_39
