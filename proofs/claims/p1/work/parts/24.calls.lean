theorem dX2_shownByte_0 : decode cX2_shownByte 0 = .ok (.iload_n 1, 1) := by decide +kernel
theorem dX2_shownByte_1 : decode cX2_shownByte 1 = .ok (.ifCond .lt 31, 3) := by decide +kernel
theorem dX2_shownByte_4 : decode cX2_shownByte 4 = .ok (.iload_n 1, 1) := by decide +kernel
theorem dX2_shownByte_5 : decode cX2_shownByte 5 = .ok (.aload_n 0, 1) := by decide +kernel
theorem dX2_shownByte_6 : decode cX2_shownByte 6 = .ok (.getfield 71, 3) := by decide +kernel
theorem dX2_shownByte_9 : decode cX2_shownByte 9 = .ok (.if_icmp .ge 23, 3) := by decide +kernel
theorem dX2_shownByte_32 : decode cX2_shownByte 32 = .ok (.iconst (-1), 1) := by decide +kernel
theorem dX2_shownByte_33 : decode cX2_shownByte 33 = .ok (.ireturn, 1) := by decide +kernel
theorem dX6_gather_0 : decode cX6_gather 0 = .ok (.aload_n 0, 1) := by decide +kernel
theorem dX6_gather_1 : decode cX6_gather 1 = .ok (.iconst 0, 1) := by decide +kernel
theorem dX6_gather_2 : decode cX6_gather 2 = .ok (.putfield 76, 3) := by decide +kernel
theorem dX6_gather_5 : decode cX6_gather 5 = .ok (.aload_n 0, 1) := by decide +kernel
theorem dX6_gather_6 : decode cX6_gather 6 = .ok (.iload_n 1, 1) := by decide +kernel
theorem dX6_gather_7 : decode cX6_gather 7 = .ok (.putfield 90, 3) := by decide +kernel
theorem dX6_gather_10 : decode cX6_gather 10 = .ok (.aload_n 0, 1) := by decide +kernel
theorem dX6_gather_11 : decode cX6_gather 11 = .ok (.iconst 1, 1) := by decide +kernel
theorem dX6_gather_12 : decode cX6_gather 12 = .ok (.iconst 0, 1) := by decide +kernel
theorem dX6_gather_13 : decode cX6_gather 13 = .ok (.iconst 4, 1) := by decide +kernel
theorem dX6_gather_14 : decode cX6_gather 14 = .ok (.aload_n 0, 1) := by decide +kernel
theorem dX6_gather_15 : decode cX6_gather 15 = .ok (.getfield 44, 3) := by decide +kernel
theorem dX6_gather_18 : decode cX6_gather 18 = .ok (.getfield 93, 3) := by decide +kernel
theorem dX6_gather_21 : decode cX6_gather 21 = .ok (.invokestatic 96, 3) := by decide +kernel
theorem dX6_gather_24 : decode cX6_gather 24 = .ok (.invokestatic 101, 3) := by decide +kernel
theorem dX6_gather_27 : decode cX6_gather 27 = .ok (.ishl, 1) := by decide +kernel
theorem dX6_gather_28 : decode cX6_gather 28 = .ok (.putfield 56, 3) := by decide +kernel
theorem dX6_gather_31 : decode cX6_gather 31 = .ok (.iconst 0, 1) := by decide +kernel
theorem dX6_gather_32 : decode cX6_gather 32 = .ok (.istore_n 2, 1) := by decide +kernel
theorem dX6_gather_33 : decode cX6_gather 33 = .ok (.iload_n 2, 1) := by decide +kernel
theorem dX6_gather_34 : decode cX6_gather 34 = .ok (.bipush 24, 2) := by decide +kernel
theorem dX6_gather_36 : decode cX6_gather 36 = .ok (.if_icmp .gt 66, 3) := by decide +kernel
theorem dX6_gather_39 : decode cX6_gather 39 = .ok (.iload_n 1, 1) := by decide +kernel
theorem dX6_gather_40 : decode cX6_gather 40 = .ok (.iload_n 2, 1) := by decide +kernel
theorem dX6_gather_41 : decode cX6_gather 41 = .ok (.iushr, 1) := by decide +kernel
theorem dX6_gather_42 : decode cX6_gather 42 = .ok (.iconst 1, 1) := by decide +kernel
theorem dX6_gather_43 : decode cX6_gather 43 = .ok (.iand, 1) := by decide +kernel
theorem dX6_gather_44 : decode cX6_gather 44 = .ok (.iconst 1, 1) := by decide +kernel
theorem dX6_gather_45 : decode cX6_gather 45 = .ok (.if_icmp .ne 15, 3) := by decide +kernel
theorem dX6_gather_60 : decode cX6_gather 60 = .ok (.iconst 0, 1) := by decide +kernel
theorem dX6_gather_61 : decode cX6_gather 61 = .ok (.istore_n 3, 1) := by decide +kernel
theorem dX6_gather_62 : decode cX6_gather 62 = .ok (.iconst 0, 1) := by decide +kernel
theorem dX6_gather_63 : decode cX6_gather 63 = .ok (.istore 4, 2) := by decide +kernel
theorem dX6_gather_65 : decode cX6_gather 65 = .ok (.iload 4, 2) := by decide +kernel
theorem dX6_gather_67 : decode cX6_gather 67 = .ok (.iload_n 3, 1) := by decide +kernel
theorem dX6_gather_68 : decode cX6_gather 68 = .ok (.if_icmp .ge 28, 3) := by decide +kernel
theorem dX6_gather_96 : decode cX6_gather 96 = .ok (.iinc 2 1, 3) := by decide +kernel
theorem dX6_gather_99 : decode cX6_gather 99 = .ok (.goto (-66), 3) := by decide +kernel
theorem dX6_gather_102 : decode cX6_gather 102 = .ok (.bipush 24, 2) := by decide +kernel
theorem dX6_gather_104 : decode cX6_gather 104 = .ok (.istore_n 2, 1) := by decide +kernel
theorem dX6_gather_105 : decode cX6_gather 105 = .ok (.iload_n 2, 1) := by decide +kernel
theorem dX6_gather_106 : decode cX6_gather 106 = .ok (.ifCond .lt 44, 3) := by decide +kernel
theorem dX6_gather_109 : decode cX6_gather 109 = .ok (.aload_n 0, 1) := by decide +kernel
theorem dX6_gather_110 : decode cX6_gather 110 = .ok (.dup, 1) := by decide +kernel
theorem dX6_gather_111 : decode cX6_gather 111 = .ok (.getfield 90, 3) := by decide +kernel
theorem dX6_gather_114 : decode cX6_gather 114 = .ok (.aload_n 0, 1) := by decide +kernel
theorem dX6_gather_115 : decode cX6_gather 115 = .ok (.getfield 90, 3) := by decide +kernel
theorem dX6_gather_118 : decode cX6_gather 118 = .ok (.iload_n 2, 1) := by decide +kernel
theorem dX6_gather_119 : decode cX6_gather 119 = .ok (.iushr, 1) := by decide +kernel
theorem dX6_gather_120 : decode cX6_gather 120 = .ok (.iconst 1, 1) := by decide +kernel
theorem dX6_gather_121 : decode cX6_gather 121 = .ok (.iand, 1) := by decide +kernel
theorem dX6_gather_122 : decode cX6_gather 122 = .ok (.iconst 1, 1) := by decide +kernel
theorem dX6_gather_123 : decode cX6_gather 123 = .ok (.if_icmp .ne 16, 3) := by decide +kernel
theorem dX6_gather_139 : decode cX6_gather 139 = .ok (.iconst 0, 1) := by decide +kernel
theorem dX6_gather_140 : decode cX6_gather 140 = .ok (.ior, 1) := by decide +kernel
theorem dX6_gather_141 : decode cX6_gather 141 = .ok (.putfield 90, 3) := by decide +kernel
theorem dX6_gather_144 : decode cX6_gather 144 = .ok (.iinc 2 (-1), 3) := by decide +kernel
theorem dX6_gather_147 : decode cX6_gather 147 = .ok (.goto (-42), 3) := by decide +kernel
theorem dX6_gather_150 : decode cX6_gather 150 = .ok (.iconst 1, 1) := by decide +kernel
theorem dX6_gather_151 : decode cX6_gather 151 = .ok (.ireturn, 1) := by decide +kernel
theorem dX11_printed_0 : decode cX11_printed 0 = .ok (.aload_n 0, 1) := by decide +kernel
theorem dX11_printed_1 : decode cX11_printed 1 = .ok (.getfield 23, 3) := by decide +kernel
theorem dX11_printed_4 : decode cX11_printed 4 = .ok (.iload_n 1, 1) := by decide +kernel
theorem dX11_printed_5 : decode cX11_printed 5 = .ok (.invokevirtual 283, 3) := by decide +kernel
theorem dX11_printed_8 : decode cX11_printed 8 = .ok (.ireturn, 1) := by decide +kernel
theorem dX11_holds_0 : decode cX11_holds 0 = .ok (.aload_n 0, 1) := by decide +kernel
theorem dX11_holds_1 : decode cX11_holds 1 = .ok (.getfield 16, 3) := by decide +kernel
theorem dX11_holds_4 : decode cX11_holds 4 = .ok (.getfield 122, 3) := by decide +kernel
theorem dX11_holds_7 : decode cX11_holds 7 = .ok (.ifCond .eq 6, 3) := by decide +kernel
theorem dX11_holds_13 : decode cX11_holds 13 = .ok (.aload_n 0, 1) := by decide +kernel
theorem dX11_holds_14 : decode cX11_holds 14 = .ok (.getfield 23, 3) := by decide +kernel
theorem dX11_holds_17 : decode cX11_holds 17 = .ok (.iload_n 1, 1) := by decide +kernel
theorem dX11_holds_18 : decode cX11_holds 18 = .ok (.invokevirtual 176, 3) := by decide +kernel
theorem dX11_holds_21 : decode cX11_holds 21 = .ok (.ifCond .ne 6, 3) := by decide +kernel
theorem dX11_holds_24 : decode cX11_holds 24 = .ok (.bipush (-101), 2) := by decide +kernel
theorem dX11_holds_26 : decode cX11_holds 26 = .ok (.ireturn, 1) := by decide +kernel
theorem dX12_printed_0 : decode cX12_printed 0 = .ok (.aload_n 0, 1) := by decide +kernel
theorem dX12_printed_1 : decode cX12_printed 1 = .ok (.iconst 0, 1) := by decide +kernel
theorem dX12_printed_2 : decode cX12_printed 2 = .ok (.putfield 3, 3) := by decide +kernel
theorem dX12_printed_5 : decode cX12_printed 5 = .ok (.iload_n 1, 1) := by decide +kernel
theorem dX12_printed_6 : decode cX12_printed 6 = .ok (.i2l, 1) := by decide +kernel
theorem dX12_printed_7 : decode cX12_printed 7 = .ok (.lconst 0, 1) := by decide +kernel
theorem dX12_printed_8 : decode cX12_printed 8 = .ok (.aload_n 0, 1) := by decide +kernel
theorem dX12_printed_9 : decode cX12_printed 9 = .ok (.getfield 882, 3) := by decide +kernel
theorem dX12_printed_12 : decode cX12_printed 12 = .ok (.iconst 1, 1) := by decide +kernel
theorem dX12_printed_13 : decode cX12_printed 13 = .ok (.isub, 1) := by decide +kernel
theorem dX12_printed_14 : decode cX12_printed 14 = .ok (.i2l, 1) := by decide +kernel
theorem dX12_printed_15 : decode cX12_printed 15 = .ok (.invokestatic 504, 3) := by decide +kernel
theorem dX12_printed_18 : decode cX12_printed 18 = .ok (.ifCond .eq 16, 3) := by decide +kernel
theorem dX12_printed_34 : decode cX12_printed 34 = .ok (.iconst (-1), 1) := by decide +kernel
theorem dX12_printed_35 : decode cX12_printed 35 = .ok (.ireturn, 1) := by decide +kernel
theorem dX12_holds_0 : decode cX12_holds 0 = .ok (.aload_n 0, 1) := by decide +kernel
theorem dX12_holds_1 : decode cX12_holds 1 = .ok (.invokevirtual 871, 3) := by decide +kernel
theorem dX12_holds_4 : decode cX12_holds 4 = .ok (.ifCond .ne 6, 3) := by decide +kernel
theorem dX12_holds_10 : decode cX12_holds 10 = .ok (.aload_n 0, 1) := by decide +kernel
theorem dX12_holds_11 : decode cX12_holds 11 = .ok (.iload_n 1, 1) := by decide +kernel
theorem dX12_holds_12 : decode cX12_holds 12 = .ok (.invokevirtual 877, 3) := by decide +kernel
theorem dX12_holds_15 : decode cX12_holds 15 = .ok (.ifCond .ne 6, 3) := by decide +kernel
theorem dX12_holds_18 : decode cX12_holds 18 = .ok (.bipush (-101), 2) := by decide +kernel
theorem dX12_holds_20 : decode cX12_holds 20 = .ok (.ireturn, 1) := by decide +kernel
set_option maxHeartbeats 400000000 in
set_option maxRecDepth 100000 in
theorem c_X12_print_1 (l : Launch) (E : kE) (D : va_G) (cI cJ cB cZ : ClassId) (h0 : Nat) (x0 : Int32) (f0 : List Value) (e0 : f0[0]? = some (.int 0)) (e1 : f0[5]? = some (.int 0)) (e2 : f0[33]? = some (.int 0)) (e3 : (x0 : Int32) < 0) : kI l E D (kT cI cJ cB cZ) yX12_print vW_X12_print ({ frames := 2, cells := 0, slots := 0, locals := 46 }) [.ref h0, .int x0] [(h0, .inr (12, f0))] ((-101)) [(h0, .inr (12, (f0.set 0 (.int 0))))] 0 0 := by
  intro sz
  refine Met.ofW (cc := cX12_print) (maxL := 3) (ret := (some .int)) (by decide) rfl ?_
  intro p e s m args below meth c s₁ B hml hv
  obtain ⟨rfl, hsz, hP, hK, hD0, hN, hX⟩ := hv
  have hx := B.exec
  have hb := B.bytes
  have hr := B.returns
  have hts := atoms_spec (ws := vW_X12_print) B.pre
  have hown : s.vm.findClass RX12 = some m.cls := findClass_of_methodNamed B.named
  have hlocks := B.notSynchronized
  subst hsz
  have hD := hD0.self (sz := s.heap.size)
  have hAE := k_AE hD0 hX
  generalize hAe : va_A [(h0, .inr (12, f0))] s.heap.size = A at hD hAE ⊢
  have hA : ∀ q : Nat, s.heap.size ≤ q → A q := fun q h => by rw [← hAe]; exact Or.inr h
  have hS : va_S A s.heap s.heap [] := va_S.rf
  have hP : va_P D vwCl [(h0, .inr (12, f0))] s.heap := hP
  have hl := lv_entry ([.ref h0, .int x0] : List Value) (n := 3) (Nat.le_of_ble_eq_true rfl)
  rw [lg_entry_eq]
  generalize (lg_sl ([.ref h0, .int x0]) ++ List.replicate (3 - (lg_sl ([.ref h0, .int x0])).length) Slot.unset).toArray = ls at hl ⊢
  have hl : lv_has ls 3 [(0, .ref h0), (1, .int x0)] := hl
  refine lv_aload_n hx hb dX12_print_0 rfl (lv_at hl 0 rfl) ?_
  refine k_cVi (As := []) (rest := []) (wc := [(h0, .inr (12, f0))]) (wr := []) (w1 := [(h0, .inr (12, (f0.set 0 (.int 0))))]) ⟨hx, hb, hml, hown, hts⟩ hN hX hAE hK hP hD hS hA [0] [] (ci := 12) rfl rfl rfl rfl (by decide +kernel) (by decide +kernel) (by decide +kernel) (c_X12_asks_0 l E D cI cJ cB cZ h0 f0 e0 e1) (cwV 0 hts g9_X12_print_X12_asks_871 rfl rfl rfl (by decide +kernel) ⟨Nat.le_of_ble_eq_true rfl, Nat.le_of_ble_eq_true rfl⟩) rfl hl.1 (Nat.le_of_ble_eq_true rfl) dX12_print_1 ⟨Nat.le_of_ble_eq_true rfl, Nat.le_of_ble_eq_true rfl⟩ (fun H locs hP hD hS => ?_)
  have hP : va_P D vwCl [(h0, .inr (12, (f0.set 0 (.int 0))))] H := hP
  have hD : va_D A [(h0, .inr (12, (f0.set 0 (.int 0))))] := hD
  refine lv_if_ne (tgt := 10) hx hb dX12_print_4 (by decide) (fun _ => ?_) (fun c9 => absurd c9 (by decide))
  refine lv_aload_n hx hb dX12_print_10 rfl (lv_at hl 0 rfl) ?_
  refine lv_iload_n hx hb dX12_print_11 rfl (lv_at hl 1 rfl) ?_
  refine k_cVi (As := [.int x0]) (rest := []) (wc := [(h0, .inr (12, (f0.set 0 (.int 0))))]) (wr := []) (w1 := [(h0, .inr (12, (f0.set 0 (.int 0))))]) ⟨hx, hb, hml, hown, hts⟩ hN hX hAE hK hP hD hS hA [0] [] (ci := 12) rfl rfl rfl rfl (by decide +kernel) (by decide +kernel) (by decide +kernel) (c_X12_isClaim_1 l E D cI cJ cB cZ h0 x0 ((f0.set 0 (.int 0))) (k_ne (by decide) e2) e3) (cwV 1 hts g9_X12_print_X12_isClaim_877 rfl rfl rfl (by decide +kernel) ⟨Nat.le_of_ble_eq_true rfl, Nat.le_of_ble_eq_true rfl⟩) rfl hl.1 (Nat.le_of_ble_eq_true rfl) dX12_print_12 ⟨Nat.le_of_ble_eq_true rfl, Nat.le_of_ble_eq_true rfl⟩ (fun H locs hP hD hS => ?_)
  have hP : va_P D vwCl [(h0, .inr (12, (f0.set 0 (.int 0))))] H := hP
  have hD : va_D A [(h0, .inr (12, (f0.set 0 (.int 0))))] := hD
  refine lv_if_ne (tgt := 21) hx hb dX12_print_15 (by decide) (fun c9 => absurd (by decide) c9) (fun _ => ?_)
  refine lv_bipush (v := (-101)) hx hb dX12_print_18 (by decide) ?_
  exact W.iret (v := (-101)) hx hb hr (fun t ht hW => ⟨⟨(-101), (), rfl, rfl, kB_mk ht hW hP hK hD⟩, hS.F ht⟩) hS.2.2 dX12_print_20
set_option maxHeartbeats 400000000 in
set_option maxRecDepth 100000 in
theorem c_X2_shownByte_0 (l : Launch) (E : kE) (D : va_G) (cI cJ cB cZ : ClassId) (h0 : Nat) (x0 : Int32) (f0 : List Value) (e0 : ¬ ((x0 : Int32) < 0)) (e1 : f0[15]? = some (.int 0)) : kI l E D (kT cI cJ cB cZ) yX2_shownByte vW_X2_shownByte ({ frames := 0, cells := 0, slots := 0, locals := 0 }) [.ref h0, .int x0] [(h0, .inr (2, f0))] ((-1)) [(h0, .inr (2, f0))] 0 0 := by
  intro sz
  refine Met.ofW (cc := cX2_shownByte) (maxL := 2) (ret := (some .int)) (by decide) rfl ?_
  intro p e s m args below meth c s₁ B hml hv
  obtain ⟨rfl, hsz, hP, hK, hD0, hN, hX⟩ := hv
  have hx := B.exec
  have hb := B.bytes
  have hr := B.returns
  have hts := atoms_spec (ws := vW_X2_shownByte) B.pre
  have hown : s.vm.findClass RX2 = some m.cls := findClass_of_methodNamed B.named
  have hlocks := B.notSynchronized
  have hin2 : ∀ w ∈ wsX20, w ∈ vW_X2_shownByte := u9_X2_shownByte_wsX20
  subst hsz
  have hD := hD0.self (sz := s.heap.size)
  have hAE := k_AE hD0 hX
  generalize hAe : va_A [(h0, .inr (2, f0))] s.heap.size = A at hD hAE ⊢
  have hA : ∀ q : Nat, s.heap.size ≤ q → A q := fun q h => by rw [← hAe]; exact Or.inr h
  have hS : va_S A s.heap s.heap [] := va_S.rf
  have hP : va_P D vwCl [(h0, .inr (2, f0))] s.heap := hP
  have hl := lv_entry ([.ref h0, .int x0] : List Value) (n := 2) (Nat.le_of_ble_eq_true rfl)
  rw [lg_entry_eq]
  generalize (lg_sl ([.ref h0, .int x0]) ++ List.replicate (2 - (lg_sl ([.ref h0, .int x0])).length) Slot.unset).toArray = ls at hl ⊢
  have hl : lv_has ls 2 [(0, .ref h0), (1, .int x0)] := hl
  refine lv_iload_n hx hb dX2_shownByte_0 rfl (lv_at hl 1 rfl) ?_
  refine lv_if_lt (tgt := 32) hx hb dX2_shownByte_1 (by decide) (fun c9 => absurd c9 e0) (fun _ => ?_)
  refine lv_iload_n hx hb dX2_shownByte_4 rfl (lv_at hl 1 rfl) ?_
  refine lv_aload_n hx hb dX2_shownByte_5 rfl (lv_at hl 0 rfl) ?_
  refine k_get (D := D) (ci := 2) (v := .int 0) (N := 16) hx hb hts hin2 hown hK hP 0 rfl rfl (by decide) f9_2_15 (hts (.fieldLink RX2 71 "IntegerHouse$House" "shownSize" "I") (o9_X2_shownByte _ (List.mem_of_getElem? (i := 0) rfl))) e1 dX2_shownByte_6 ?_
  refine lv_icmp_ge (tgt := 32) hx hb dX2_shownByte_9 (by decide) (fun _ => ?_) (fun c9 => absurd ((k_n2 (x := x0) (c := 0)).mpr e0) c9)
  refine lv_iconst (v := (-1)) hx hb dX2_shownByte_32 (by decide) ?_
  exact W.iret (v := (-1)) hx hb hr (fun t ht hW => ⟨⟨(-1), (), rfl, rfl, kB_mk ht hW hP hK hD⟩, hS.F ht⟩) hS.2.2 dX2_shownByte_33
set_option maxHeartbeats 400000000 in
set_option maxRecDepth 100000 in
theorem c_X11_printed_0 (l : Launch) (E : kE) (D : va_G) (cI cJ cB cZ : ClassId) (h0 : Nat) (x0 : Int32) (f0 : List Value) (h1 : Nat) (f1 : List Value) (e0 : f0[2]? = some (.ref h1)) (e1 : f1[15]? = some (.int 0)) (e2 : ¬ ((x0 : Int32) < 0)) : kI l E D (kT cI cJ cB cZ) yX11_printed vW_X11_printed ({ frames := 1, cells := 0, slots := 0, locals := 21 }) [.ref h0, .int x0] [(h0, .inr (11, f0)), (h1, .inr (2, f1))] ((-1)) [(h0, .inr (11, f0)), (h1, .inr (2, f1))] 0 0 := by
  intro sz
  refine Met.ofW (cc := cX11_printed) (maxL := 2) (ret := (some .int)) (by decide) rfl ?_
  intro p e s m args below meth c s₁ B hml hv
  obtain ⟨rfl, hsz, hP, hK, hD0, hN, hX⟩ := hv
  have hx := B.exec
  have hb := B.bytes
  have hr := B.returns
  have hts := atoms_spec (ws := vW_X11_printed) B.pre
  have hown : s.vm.findClass RX11 = some m.cls := findClass_of_methodNamed B.named
  have hlocks := B.notSynchronized
  have hin11 : ∀ w ∈ wsX110, w ∈ vW_X11_printed := u9_X11_printed_wsX110
  subst hsz
  have hD := hD0.self (sz := s.heap.size)
  have hAE := k_AE hD0 hX
  generalize hAe : va_A [(h0, .inr (11, f0)), (h1, .inr (2, f1))] s.heap.size = A at hD hAE ⊢
  have hA : ∀ q : Nat, s.heap.size ≤ q → A q := fun q h => by rw [← hAe]; exact Or.inr h
  have hS : va_S A s.heap s.heap [] := va_S.rf
  have hP : va_P D vwCl [(h0, .inr (11, f0)), (h1, .inr (2, f1))] s.heap := hP
  have hl := lv_entry ([.ref h0, .int x0] : List Value) (n := 2) (Nat.le_of_ble_eq_true rfl)
  rw [lg_entry_eq]
  generalize (lg_sl ([.ref h0, .int x0]) ++ List.replicate (2 - (lg_sl ([.ref h0, .int x0])).length) Slot.unset).toArray = ls at hl ⊢
  have hl : lv_has ls 2 [(0, .ref h0), (1, .int x0)] := hl
  refine lv_aload_n hx hb dX11_printed_0 rfl (lv_at hl 0 rfl) ?_
  refine k_get (D := D) (ci := 11) (v := .ref h1) (N := 15) hx hb hts hin11 hown hK hP 0 rfl rfl (by decide) f9_11_2 (hts (.fieldLink RX11 23 "IntegerHouse" "house" "LIntegerHouse$House;") (o9_X11_printed _ (List.mem_of_getElem? (i := 0) rfl))) e0 dX11_printed_1 ?_
  refine lv_iload_n hx hb dX11_printed_4 rfl (lv_at hl 1 rfl) ?_
  refine k_cVi (As := [.int x0]) (rest := []) (wc := [(h1, .inr (2, f1))]) (wr := [(h0, .inr (11, f0))]) (w1 := [(h1, .inr (2, f1))]) ⟨hx, hb, hml, hown, hts⟩ hN hX hAE hK hP hD hS hA [1] [0] (ci := 2) rfl rfl rfl rfl (by decide +kernel) (by decide +kernel) (by decide +kernel) (c_X2_shownByte_0 l E D cI cJ cB cZ h1 x0 f1 e2 e1) (cwV 1 hts g9_X11_printed_X2_shownByte_283 rfl rfl rfl (by decide +kernel) ⟨Nat.le_of_ble_eq_true rfl, Nat.le_of_ble_eq_true rfl⟩) rfl hl.1 (Nat.le_of_ble_eq_true rfl) dX11_printed_5 ⟨Nat.le_of_ble_eq_true rfl, Nat.le_of_ble_eq_true rfl⟩ (fun H locs hP hD hS => ?_)
  have hP : va_P D vwCl [(h0, .inr (11, f0)), (h1, .inr (2, f1))] H := hP
  have hD : va_D A [(h0, .inr (11, f0)), (h1, .inr (2, f1))] := hD
  exact W.iret (v := (-1)) hx hb hr (fun t ht hW => ⟨⟨(-1), (), rfl, rfl, kB_mk ht hW hP hK hD⟩, hS.F ht⟩) hS.2.2 dX11_printed_8
set_option maxHeartbeats 400000000 in
set_option maxRecDepth 100000 in
theorem c_X12_printed_0 (l : Launch) (E : kE) (D : va_G) (cI cJ cB cZ : ClassId) (h0 : Nat) (x0 : Int32) (f0 : List Value) (e0 : f0[0]? = some (.int 0)) (e1 : f0[112]? = some (.int 0)) (e2 : ¬ ((x0 : Int32) < 0)) : kI l E D (kT cI cJ cB cZ) yX12_printed vW_X12_printed ({ frames := 1, cells := 0, slots := 0, locals := 25 }) [.ref h0, .int x0] [(h0, .inr (12, f0))] ((-1)) [(h0, .inr (12, (f0.set 0 (.int 0))))] 0 0 := by
  intro sz
  refine Met.ofW (cc := cX12_printed) (maxL := 2) (ret := (some .int)) (by decide) rfl ?_
  intro p e s m args below meth c s₁ B hml hv
  obtain ⟨rfl, hsz, hP, hK, hD0, hN, hX⟩ := hv
  have hx := B.exec
  have hb := B.bytes
  have hr := B.returns
  have hts := atoms_spec (ws := vW_X12_printed) B.pre
  have hown : s.vm.findClass RX12 = some m.cls := findClass_of_methodNamed B.named
  have hlocks := B.notSynchronized
  have hin12 : ∀ w ∈ wsX120, w ∈ vW_X12_printed := u9_X12_printed_wsX120
  subst hsz
  have hD := hD0.self (sz := s.heap.size)
  have hAE := k_AE hD0 hX
  generalize hAe : va_A [(h0, .inr (12, f0))] s.heap.size = A at hD hAE ⊢
  have hA : ∀ q : Nat, s.heap.size ≤ q → A q := fun q h => by rw [← hAe]; exact Or.inr h
  have hS : va_S A s.heap s.heap [] := va_S.rf
  have hP : va_P D vwCl [(h0, .inr (12, f0))] s.heap := hP
  have hl := lv_entry ([.ref h0, .int x0] : List Value) (n := 2) (Nat.le_of_ble_eq_true rfl)
  rw [lg_entry_eq]
  generalize (lg_sl ([.ref h0, .int x0]) ++ List.replicate (2 - (lg_sl ([.ref h0, .int x0])).length) Slot.unset).toArray = ls at hl ⊢
  have hl : lv_has ls 2 [(0, .ref h0), (1, .int x0)] := hl
  refine lv_aload_n hx hb dX12_printed_0 rfl (lv_at hl 0 rfl) ?_
  refine lv_iconst (v := 0) hx hb dX12_printed_1 (by decide) ?_
  refine k_put (D := D) (ci := 12) (v := .int 0) (ty := .int) (N := 195) hx hb hts hin12 tyX12 tyX12_ok nmX12 hown hK hP hD hS 0 rfl rfl (by decide) f9_12_0 (hts (.fieldLink RX12 3 "IntegerHouseModel" "thrown" "I") (o9_X12_printed _ (List.mem_of_getElem? (i := 0) rfl))) rfl pd_2 rfl rfl (k_len e0) dX12_printed_2 (fun H locs hP hD hS => ?_)
  have hP : va_P D vwCl [(h0, .inr (12, (f0.set 0 (.int 0))))] H := hP
  have hD : va_D A [(h0, .inr (12, (f0.set 0 (.int 0))))] := hD
  refine lv_iload_n hx hb dX12_printed_5 rfl (lv_at hl 1 rfl) ?_
  refine lv_i2l (v := (Int32.toInt64 x0)) hx hb dX12_printed_6 rfl ?_
  refine lv_lconst (v := 0) hx hb dX12_printed_7 (by decide) ?_
  refine lv_aload_n hx hb dX12_printed_8 rfl (lv_at hl 0 rfl) ?_
  refine k_get (D := D) (ci := 12) (v := .int 0) (N := 195) hx hb hts hin12 hown hK hP 0 rfl rfl (by decide) f9_12_112 (hts (.fieldLink RX12 882 "IntegerHouseModel" "printSize" "I") (o9_X12_printed _ (List.mem_of_getElem? (i := 1) rfl))) (k_ne (by decide) e1) dX12_printed_9 ?_
  refine lv_iconst (v := 1) hx hb dX12_printed_12 (by decide) ?_
  refine lv_isub hx hb dX12_printed_13 ?_
  refine k_topi (y := (-1)) (by decide) ?_
  refine lv_i2l (v := (-1)) hx hb dX12_printed_14 (by decide) ?_
  refine k_cSi (As := [.long (Int32.toInt64 x0), .long 0, .long (-1)]) (rest := []) (wc := []) (wr := [(h0, .inr (12, (f0.set 0 (.int 0))))]) (w1 := []) ⟨hx, hb, hml, hown, hts⟩ hN hX hAE hK hP hD hS hA [] [0] rfl rfl (by decide +kernel) (by decide +kernel) (by decide +kernel) (c_X12_in_12 l E D cI cJ cB cZ (Int32.toInt64 x0) (fun z9 => e2 ((k_n4 (x := x0) (c := 0) (C := 0) (by decide)).mp z9)) ((k_n5 (x := x0) (c := (-1)) (d := 0) (C := (-1)) (by decide) (by decide)).mpr e2)) (va_cwS 3 hts g9_X12_printed_X12_in_504 rfl rfl rfl (by decide +kernel) ⟨Nat.le_of_ble_eq_true rfl, Nat.le_of_ble_eq_true rfl⟩) rfl hl.1 (Nat.le_of_ble_eq_true rfl) dX12_printed_15 ⟨Nat.le_of_ble_eq_true rfl, Nat.le_of_ble_eq_true rfl⟩ (fun H locs hP hD hS => ?_)
  have hP : va_P D vwCl [(h0, .inr (12, (f0.set 0 (.int 0))))] H := hP
  have hD : va_D A [(h0, .inr (12, (f0.set 0 (.int 0))))] := hD
  refine lv_if_eq (tgt := 34) hx hb dX12_printed_18 (by decide) (fun _ => ?_) (fun c9 => absurd (by decide) c9)
  refine lv_iconst (v := (-1)) hx hb dX12_printed_34 (by decide) ?_
  exact W.iret (v := (-1)) hx hb hr (fun t ht hW => ⟨⟨(-1), (), rfl, rfl, kB_mk ht hW hP hK hD⟩, hS.F ht⟩) hS.2.2 dX12_printed_35
set_option maxHeartbeats 400000000 in
set_option maxRecDepth 100000 in
theorem c_X2_shownByte_1 (l : Launch) (E : kE) (D : va_G) (cI cJ cB cZ : ClassId) (h0 : Nat) (x0 : Int32) (f0 : List Value) (e0 : (x0 : Int32) < 0) : kI l E D (kT cI cJ cB cZ) yX2_shownByte vW_X2_shownByte ({ frames := 0, cells := 0, slots := 0, locals := 0 }) [.ref h0, .int x0] [(h0, .inr (2, f0))] ((-1)) [(h0, .inr (2, f0))] 0 0 := by
  intro sz
  refine Met.ofW (cc := cX2_shownByte) (maxL := 2) (ret := (some .int)) (by decide) rfl ?_
  intro p e s m args below meth c s₁ B hml hv
  obtain ⟨rfl, hsz, hP, hK, hD0, hN, hX⟩ := hv
  have hx := B.exec
  have hb := B.bytes
  have hr := B.returns
  have hts := atoms_spec (ws := vW_X2_shownByte) B.pre
  have hown : s.vm.findClass RX2 = some m.cls := findClass_of_methodNamed B.named
  have hlocks := B.notSynchronized
  subst hsz
  have hD := hD0.self (sz := s.heap.size)
  have hAE := k_AE hD0 hX
  generalize hAe : va_A [(h0, .inr (2, f0))] s.heap.size = A at hD hAE ⊢
  have hA : ∀ q : Nat, s.heap.size ≤ q → A q := fun q h => by rw [← hAe]; exact Or.inr h
  have hS : va_S A s.heap s.heap [] := va_S.rf
  have hP : va_P D vwCl [(h0, .inr (2, f0))] s.heap := hP
  have hl := lv_entry ([.ref h0, .int x0] : List Value) (n := 2) (Nat.le_of_ble_eq_true rfl)
  rw [lg_entry_eq]
  generalize (lg_sl ([.ref h0, .int x0]) ++ List.replicate (2 - (lg_sl ([.ref h0, .int x0])).length) Slot.unset).toArray = ls at hl ⊢
  have hl : lv_has ls 2 [(0, .ref h0), (1, .int x0)] := hl
  refine lv_iload_n hx hb dX2_shownByte_0 rfl (lv_at hl 1 rfl) ?_
  refine lv_if_lt (tgt := 32) hx hb dX2_shownByte_1 (by decide) (fun _ => ?_) (fun c9 => absurd e0 c9)
  refine lv_iconst (v := (-1)) hx hb dX2_shownByte_32 (by decide) ?_
  exact W.iret (v := (-1)) hx hb hr (fun t ht hW => ⟨⟨(-1), (), rfl, rfl, kB_mk ht hW hP hK hD⟩, hS.F ht⟩) hS.2.2 dX2_shownByte_33
set_option maxHeartbeats 400000000 in
set_option maxRecDepth 100000 in
theorem c_X11_printed_1 (l : Launch) (E : kE) (D : va_G) (cI cJ cB cZ : ClassId) (h0 : Nat) (x0 : Int32) (f0 : List Value) (h1 : Nat) (f1 : List Value) (e0 : f0[2]? = some (.ref h1)) (e1 : (x0 : Int32) < 0) : kI l E D (kT cI cJ cB cZ) yX11_printed vW_X11_printed ({ frames := 1, cells := 0, slots := 0, locals := 21 }) [.ref h0, .int x0] [(h0, .inr (11, f0)), (h1, .inr (2, f1))] ((-1)) [(h0, .inr (11, f0)), (h1, .inr (2, f1))] 0 0 := by
  intro sz
  refine Met.ofW (cc := cX11_printed) (maxL := 2) (ret := (some .int)) (by decide) rfl ?_
  intro p e s m args below meth c s₁ B hml hv
  obtain ⟨rfl, hsz, hP, hK, hD0, hN, hX⟩ := hv
  have hx := B.exec
  have hb := B.bytes
  have hr := B.returns
  have hts := atoms_spec (ws := vW_X11_printed) B.pre
  have hown : s.vm.findClass RX11 = some m.cls := findClass_of_methodNamed B.named
  have hlocks := B.notSynchronized
  have hin11 : ∀ w ∈ wsX110, w ∈ vW_X11_printed := u9_X11_printed_wsX110
  subst hsz
  have hD := hD0.self (sz := s.heap.size)
  have hAE := k_AE hD0 hX
  generalize hAe : va_A [(h0, .inr (11, f0)), (h1, .inr (2, f1))] s.heap.size = A at hD hAE ⊢
  have hA : ∀ q : Nat, s.heap.size ≤ q → A q := fun q h => by rw [← hAe]; exact Or.inr h
  have hS : va_S A s.heap s.heap [] := va_S.rf
  have hP : va_P D vwCl [(h0, .inr (11, f0)), (h1, .inr (2, f1))] s.heap := hP
  have hl := lv_entry ([.ref h0, .int x0] : List Value) (n := 2) (Nat.le_of_ble_eq_true rfl)
  rw [lg_entry_eq]
  generalize (lg_sl ([.ref h0, .int x0]) ++ List.replicate (2 - (lg_sl ([.ref h0, .int x0])).length) Slot.unset).toArray = ls at hl ⊢
  have hl : lv_has ls 2 [(0, .ref h0), (1, .int x0)] := hl
  refine lv_aload_n hx hb dX11_printed_0 rfl (lv_at hl 0 rfl) ?_
  refine k_get (D := D) (ci := 11) (v := .ref h1) (N := 15) hx hb hts hin11 hown hK hP 0 rfl rfl (by decide) f9_11_2 (hts (.fieldLink RX11 23 "IntegerHouse" "house" "LIntegerHouse$House;") (o9_X11_printed _ (List.mem_of_getElem? (i := 0) rfl))) e0 dX11_printed_1 ?_
  refine lv_iload_n hx hb dX11_printed_4 rfl (lv_at hl 1 rfl) ?_
  refine k_cVi (As := [.int x0]) (rest := []) (wc := [(h1, .inr (2, f1))]) (wr := [(h0, .inr (11, f0))]) (w1 := [(h1, .inr (2, f1))]) ⟨hx, hb, hml, hown, hts⟩ hN hX hAE hK hP hD hS hA [1] [0] (ci := 2) rfl rfl rfl rfl (by decide +kernel) (by decide +kernel) (by decide +kernel) (c_X2_shownByte_1 l E D cI cJ cB cZ h1 x0 f1 e1) (cwV 1 hts g9_X11_printed_X2_shownByte_283 rfl rfl rfl (by decide +kernel) ⟨Nat.le_of_ble_eq_true rfl, Nat.le_of_ble_eq_true rfl⟩) rfl hl.1 (Nat.le_of_ble_eq_true rfl) dX11_printed_5 ⟨Nat.le_of_ble_eq_true rfl, Nat.le_of_ble_eq_true rfl⟩ (fun H locs hP hD hS => ?_)
  have hP : va_P D vwCl [(h0, .inr (11, f0)), (h1, .inr (2, f1))] H := hP
  have hD : va_D A [(h0, .inr (11, f0)), (h1, .inr (2, f1))] := hD
  exact W.iret (v := (-1)) hx hb hr (fun t ht hW => ⟨⟨(-1), (), rfl, rfl, kB_mk ht hW hP hK hD⟩, hS.F ht⟩) hS.2.2 dX11_printed_8
set_option maxHeartbeats 400000000 in
set_option maxRecDepth 100000 in
theorem c_X12_printed_1 (l : Launch) (E : kE) (D : va_G) (cI cJ cB cZ : ClassId) (h0 : Nat) (x0 : Int32) (f0 : List Value) (e0 : f0[0]? = some (.int 0)) (e1 : f0[112]? = some (.int 0)) (e2 : (x0 : Int32) < 0) : kI l E D (kT cI cJ cB cZ) yX12_printed vW_X12_printed ({ frames := 1, cells := 0, slots := 0, locals := 25 }) [.ref h0, .int x0] [(h0, .inr (12, f0))] ((-1)) [(h0, .inr (12, (f0.set 0 (.int 0))))] 0 0 := by
  intro sz
  refine Met.ofW (cc := cX12_printed) (maxL := 2) (ret := (some .int)) (by decide) rfl ?_
  intro p e s m args below meth c s₁ B hml hv
  obtain ⟨rfl, hsz, hP, hK, hD0, hN, hX⟩ := hv
  have hx := B.exec
  have hb := B.bytes
  have hr := B.returns
  have hts := atoms_spec (ws := vW_X12_printed) B.pre
  have hown : s.vm.findClass RX12 = some m.cls := findClass_of_methodNamed B.named
  have hlocks := B.notSynchronized
  have hin12 : ∀ w ∈ wsX120, w ∈ vW_X12_printed := u9_X12_printed_wsX120
  subst hsz
  have hD := hD0.self (sz := s.heap.size)
  have hAE := k_AE hD0 hX
  generalize hAe : va_A [(h0, .inr (12, f0))] s.heap.size = A at hD hAE ⊢
  have hA : ∀ q : Nat, s.heap.size ≤ q → A q := fun q h => by rw [← hAe]; exact Or.inr h
  have hS : va_S A s.heap s.heap [] := va_S.rf
  have hP : va_P D vwCl [(h0, .inr (12, f0))] s.heap := hP
  have hl := lv_entry ([.ref h0, .int x0] : List Value) (n := 2) (Nat.le_of_ble_eq_true rfl)
  rw [lg_entry_eq]
  generalize (lg_sl ([.ref h0, .int x0]) ++ List.replicate (2 - (lg_sl ([.ref h0, .int x0])).length) Slot.unset).toArray = ls at hl ⊢
  have hl : lv_has ls 2 [(0, .ref h0), (1, .int x0)] := hl
  refine lv_aload_n hx hb dX12_printed_0 rfl (lv_at hl 0 rfl) ?_
  refine lv_iconst (v := 0) hx hb dX12_printed_1 (by decide) ?_
  refine k_put (D := D) (ci := 12) (v := .int 0) (ty := .int) (N := 195) hx hb hts hin12 tyX12 tyX12_ok nmX12 hown hK hP hD hS 0 rfl rfl (by decide) f9_12_0 (hts (.fieldLink RX12 3 "IntegerHouseModel" "thrown" "I") (o9_X12_printed _ (List.mem_of_getElem? (i := 0) rfl))) rfl pd_2 rfl rfl (k_len e0) dX12_printed_2 (fun H locs hP hD hS => ?_)
  have hP : va_P D vwCl [(h0, .inr (12, (f0.set 0 (.int 0))))] H := hP
  have hD : va_D A [(h0, .inr (12, (f0.set 0 (.int 0))))] := hD
  refine lv_iload_n hx hb dX12_printed_5 rfl (lv_at hl 1 rfl) ?_
  refine lv_i2l (v := (Int32.toInt64 x0)) hx hb dX12_printed_6 rfl ?_
  refine lv_lconst (v := 0) hx hb dX12_printed_7 (by decide) ?_
  refine lv_aload_n hx hb dX12_printed_8 rfl (lv_at hl 0 rfl) ?_
  refine k_get (D := D) (ci := 12) (v := .int 0) (N := 195) hx hb hts hin12 hown hK hP 0 rfl rfl (by decide) f9_12_112 (hts (.fieldLink RX12 882 "IntegerHouseModel" "printSize" "I") (o9_X12_printed _ (List.mem_of_getElem? (i := 1) rfl))) (k_ne (by decide) e1) dX12_printed_9 ?_
  refine lv_iconst (v := 1) hx hb dX12_printed_12 (by decide) ?_
  refine lv_isub hx hb dX12_printed_13 ?_
  refine k_topi (y := (-1)) (by decide) ?_
  refine lv_i2l (v := (-1)) hx hb dX12_printed_14 (by decide) ?_
  refine k_cSi (As := [.long (Int32.toInt64 x0), .long 0, .long (-1)]) (rest := []) (wc := []) (wr := [(h0, .inr (12, (f0.set 0 (.int 0))))]) (w1 := []) ⟨hx, hb, hml, hown, hts⟩ hN hX hAE hK hP hD hS hA [] [0] rfl rfl (by decide +kernel) (by decide +kernel) (by decide +kernel) (c_X12_in_13 l E D cI cJ cB cZ (Int32.toInt64 x0) ((k_n4 (x := x0) (c := 0) (C := 0) (by decide)).mpr e2)) (va_cwS 3 hts g9_X12_printed_X12_in_504 rfl rfl rfl (by decide +kernel) ⟨Nat.le_of_ble_eq_true rfl, Nat.le_of_ble_eq_true rfl⟩) rfl hl.1 (Nat.le_of_ble_eq_true rfl) dX12_printed_15 ⟨Nat.le_of_ble_eq_true rfl, Nat.le_of_ble_eq_true rfl⟩ (fun H locs hP hD hS => ?_)
  have hP : va_P D vwCl [(h0, .inr (12, (f0.set 0 (.int 0))))] H := hP
  have hD : va_D A [(h0, .inr (12, (f0.set 0 (.int 0))))] := hD
  refine lv_if_eq (tgt := 34) hx hb dX12_printed_18 (by decide) (fun _ => ?_) (fun c9 => absurd (by decide) c9)
  refine lv_iconst (v := (-1)) hx hb dX12_printed_34 (by decide) ?_
  exact W.iret (v := (-1)) hx hb hr (fun t ht hW => ⟨⟨(-1), (), rfl, rfl, kB_mk ht hW hP hK hD⟩, hS.F ht⟩) hS.2.2 dX12_printed_35
set_option maxHeartbeats 400000000 in
set_option maxRecDepth 100000 in
theorem c_X11_holds_0 (l : Launch) (E : kE) (D : va_G) (cI cJ cB cZ : ClassId) (h0 : Nat) (x0 : Int32) (y1 : Int64) (y2 : Int64) (y3 : Int64) (y4 : Int64) (f0 : List Value) (h1 : Nat) (f1 : List Value) (h2 : Nat) (f2 : List Value) (e0 : f0[1]? = some (.ref h1)) (e1 : f1[8]? = some (.int 0)) (e2 : f0[2]? = some (.ref h2)) (e3 : ¬ ((x0 : Int32) < 0)) (e4 : f2[11]? = some (.int 0)) : kI l E D (kT cI cJ cB cZ) yX11_holds vW_X11_holds ({ frames := 1, cells := 0, slots := 0, locals := 21 }) [.ref h0, .int x0, .long y1, .long y2, .long y3, .long y4] [(h0, .inr (11, f0)), (h1, .inr (1, f1)), (h2, .inr (2, f2))] ((-101)) [(h0, .inr (11, f0)), (h1, .inr (1, f1)), (h2, .inr (2, f2))] 0 0 := by
  intro sz
  refine Met.ofW (cc := cX11_holds) (maxL := 10) (ret := (some .int)) (by decide) rfl ?_
  intro p e s m args below meth c s₁ B hml hv
  obtain ⟨rfl, hsz, hP, hK, hD0, hN, hX⟩ := hv
  have hx := B.exec
  have hb := B.bytes
  have hr := B.returns
  have hts := atoms_spec (ws := vW_X11_holds) B.pre
  have hown : s.vm.findClass RX11 = some m.cls := findClass_of_methodNamed B.named
  have hlocks := B.notSynchronized
  have hin11 : ∀ w ∈ wsX110, w ∈ vW_X11_holds := u9_X11_holds_wsX110
  have hin1 : ∀ w ∈ wsX10, w ∈ vW_X11_holds := u9_X11_holds_wsX10
  subst hsz
  have hD := hD0.self (sz := s.heap.size)
  have hAE := k_AE hD0 hX
  generalize hAe : va_A [(h0, .inr (11, f0)), (h1, .inr (1, f1)), (h2, .inr (2, f2))] s.heap.size = A at hD hAE ⊢
  have hA : ∀ q : Nat, s.heap.size ≤ q → A q := fun q h => by rw [← hAe]; exact Or.inr h
  have hS : va_S A s.heap s.heap [] := va_S.rf
  have hP : va_P D vwCl [(h0, .inr (11, f0)), (h1, .inr (1, f1)), (h2, .inr (2, f2))] s.heap := hP
  have hl := lv_entry ([.ref h0, .int x0, .long y1, .long y2, .long y3, .long y4] : List Value) (n := 10) (Nat.le_of_ble_eq_true rfl)
  rw [lg_entry_eq]
  generalize (lg_sl ([.ref h0, .int x0, .long y1, .long y2, .long y3, .long y4]) ++ List.replicate (10 - (lg_sl ([.ref h0, .int x0, .long y1, .long y2, .long y3, .long y4])).length) Slot.unset).toArray = ls at hl ⊢
  have hl : lv_has ls 10 [(0, .ref h0), (1, .int x0), (2, .long y1), (4, .long y2), (6, .long y3), (8, .long y4)] := hl
  refine lv_aload_n hx hb dX11_holds_0 rfl (lv_at hl 0 rfl) ?_
  refine k_get (D := D) (ci := 11) (v := .ref h1) (N := 15) hx hb hts hin11 hown hK hP 0 rfl rfl (by decide) f9_11_1 (hts (.fieldLink RX11 16 "IntegerHouse" "disk" "LIntegerHouse$Disk;") (o9_X11_holds _ (List.mem_of_getElem? (i := 0) rfl))) e0 dX11_holds_1 ?_
  refine k_getN (host := "IntegerHouse") (D := D) (ci := 1) (v := .int 0) (N := 9) hx hb hts hin1 hown hK hP 1 rfl rfl (by decide) f9_1_8 (va_Nw.use rfl (hN.1 ("IntegerHouse", 122, "IntegerHouse$Disk", "down", "Z", "IntegerHouse") (List.mem_of_getElem? (i := 3) rfl))) e1 dX11_holds_4 ?_
  refine lv_if_eq (tgt := 13) hx hb dX11_holds_7 (by decide) (fun _ => ?_) (fun c9 => absurd (by decide) c9)
  refine lv_aload_n hx hb dX11_holds_13 rfl (lv_at hl 0 rfl) ?_
  refine k_get (D := D) (ci := 11) (v := .ref h2) (N := 15) hx hb hts hin11 hown hK hP 0 rfl rfl (by decide) f9_11_2 (hts (.fieldLink RX11 23 "IntegerHouse" "house" "LIntegerHouse$House;") (o9_X11_holds _ (List.mem_of_getElem? (i := 1) rfl))) e2 dX11_holds_14 ?_
  refine lv_iload_n hx hb dX11_holds_17 rfl (lv_at hl 1 rfl) ?_
  refine k_cVi (As := [.int x0]) (rest := []) (wc := [(h2, .inr (2, f2))]) (wr := [(h0, .inr (11, f0)), (h1, .inr (1, f1))]) (w1 := [(h2, .inr (2, f2))]) ⟨hx, hb, hml, hown, hts⟩ hN hX hAE hK hP hD hS hA [2] [0, 1] (ci := 2) rfl rfl rfl rfl (by decide +kernel) (by decide +kernel) (by decide +kernel) (c_X2_isClaim_0 l E D cI cJ cB cZ h2 x0 f2 e3 e4) (cwV 1 hts g9_X11_holds_X2_isClaim_176 rfl rfl rfl (by decide +kernel) ⟨Nat.le_of_ble_eq_true rfl, Nat.le_of_ble_eq_true rfl⟩) rfl hl.1 (Nat.le_of_ble_eq_true rfl) dX11_holds_18 ⟨Nat.le_of_ble_eq_true rfl, Nat.le_of_ble_eq_true rfl⟩ (fun H locs hP hD hS => ?_)
  have hP : va_P D vwCl [(h0, .inr (11, f0)), (h1, .inr (1, f1)), (h2, .inr (2, f2))] H := hP
  have hD : va_D A [(h0, .inr (11, f0)), (h1, .inr (1, f1)), (h2, .inr (2, f2))] := hD
  refine lv_if_ne (tgt := 27) hx hb dX11_holds_21 (by decide) (fun c9 => absurd (by decide) c9) (fun _ => ?_)
  refine lv_bipush (v := (-101)) hx hb dX11_holds_24 (by decide) ?_
  exact W.iret (v := (-101)) hx hb hr (fun t ht hW => ⟨⟨(-101), (), rfl, rfl, kB_mk ht hW hP hK hD⟩, hS.F ht⟩) hS.2.2 dX11_holds_26
set_option maxHeartbeats 400000000 in
set_option maxRecDepth 100000 in
theorem c_X12_holds_0 (l : Launch) (E : kE) (D : va_G) (cI cJ cB cZ : ClassId) (h0 : Nat) (x0 : Int32) (y1 : Int64) (y2 : Int64) (y3 : Int64) (y4 : Int64) (f0 : List Value) (e0 : f0[0]? = some (.int 0)) (e1 : f0[5]? = some (.int 0)) (e2 : f0[33]? = some (.int 0)) (e3 : ¬ ((x0 : Int32) < 0)) : kI l E D (kT cI cJ cB cZ) yX12_holds vW_X12_holds ({ frames := 2, cells := 0, slots := 0, locals := 46 }) [.ref h0, .int x0, .long y1, .long y2, .long y3, .long y4] [(h0, .inr (12, f0))] ((-101)) [(h0, .inr (12, (f0.set 0 (.int 0))))] 0 0 := by
  intro sz
  refine Met.ofW (cc := cX12_holds) (maxL := 18) (ret := (some .int)) (by decide) rfl ?_
  intro p e s m args below meth c s₁ B hml hv
  obtain ⟨rfl, hsz, hP, hK, hD0, hN, hX⟩ := hv
  have hx := B.exec
  have hb := B.bytes
  have hr := B.returns
  have hts := atoms_spec (ws := vW_X12_holds) B.pre
  have hown : s.vm.findClass RX12 = some m.cls := findClass_of_methodNamed B.named
  have hlocks := B.notSynchronized
  subst hsz
  have hD := hD0.self (sz := s.heap.size)
  have hAE := k_AE hD0 hX
  generalize hAe : va_A [(h0, .inr (12, f0))] s.heap.size = A at hD hAE ⊢
  have hA : ∀ q : Nat, s.heap.size ≤ q → A q := fun q h => by rw [← hAe]; exact Or.inr h
  have hS : va_S A s.heap s.heap [] := va_S.rf
  have hP : va_P D vwCl [(h0, .inr (12, f0))] s.heap := hP
  have hl := lv_entry ([.ref h0, .int x0, .long y1, .long y2, .long y3, .long y4] : List Value) (n := 18) (Nat.le_of_ble_eq_true rfl)
  rw [lg_entry_eq]
  generalize (lg_sl ([.ref h0, .int x0, .long y1, .long y2, .long y3, .long y4]) ++ List.replicate (18 - (lg_sl ([.ref h0, .int x0, .long y1, .long y2, .long y3, .long y4])).length) Slot.unset).toArray = ls at hl ⊢
  have hl : lv_has ls 18 [(0, .ref h0), (1, .int x0), (2, .long y1), (4, .long y2), (6, .long y3), (8, .long y4)] := hl
  refine lv_aload_n hx hb dX12_holds_0 rfl (lv_at hl 0 rfl) ?_
  refine k_cVi (As := []) (rest := []) (wc := [(h0, .inr (12, f0))]) (wr := []) (w1 := [(h0, .inr (12, (f0.set 0 (.int 0))))]) ⟨hx, hb, hml, hown, hts⟩ hN hX hAE hK hP hD hS hA [0] [] (ci := 12) rfl rfl rfl rfl (by decide +kernel) (by decide +kernel) (by decide +kernel) (c_X12_asks_0 l E D cI cJ cB cZ h0 f0 e0 e1) (cwV 0 hts g9_X12_holds_X12_asks_871 rfl rfl rfl (by decide +kernel) ⟨Nat.le_of_ble_eq_true rfl, Nat.le_of_ble_eq_true rfl⟩) rfl hl.1 (Nat.le_of_ble_eq_true rfl) dX12_holds_1 ⟨Nat.le_of_ble_eq_true rfl, Nat.le_of_ble_eq_true rfl⟩ (fun H locs hP hD hS => ?_)
  have hP : va_P D vwCl [(h0, .inr (12, (f0.set 0 (.int 0))))] H := hP
  have hD : va_D A [(h0, .inr (12, (f0.set 0 (.int 0))))] := hD
  refine lv_if_ne (tgt := 10) hx hb dX12_holds_4 (by decide) (fun _ => ?_) (fun c9 => absurd c9 (by decide))
  refine lv_aload_n hx hb dX12_holds_10 rfl (lv_at hl 0 rfl) ?_
  refine lv_iload_n hx hb dX12_holds_11 rfl (lv_at hl 1 rfl) ?_
  refine k_cVi (As := [.int x0]) (rest := []) (wc := [(h0, .inr (12, (f0.set 0 (.int 0))))]) (wr := []) (w1 := [(h0, .inr (12, (f0.set 0 (.int 0))))]) ⟨hx, hb, hml, hown, hts⟩ hN hX hAE hK hP hD hS hA [0] [] (ci := 12) rfl rfl rfl rfl (by decide +kernel) (by decide +kernel) (by decide +kernel) (c_X12_isClaim_0 l E D cI cJ cB cZ h0 x0 ((f0.set 0 (.int 0))) (k_ne (by decide) e2) e3) (cwV 1 hts g9_X12_holds_X12_isClaim_877 rfl rfl rfl (by decide +kernel) ⟨Nat.le_of_ble_eq_true rfl, Nat.le_of_ble_eq_true rfl⟩) rfl hl.1 (Nat.le_of_ble_eq_true rfl) dX12_holds_12 ⟨Nat.le_of_ble_eq_true rfl, Nat.le_of_ble_eq_true rfl⟩ (fun H locs hP hD hS => ?_)
  have hP : va_P D vwCl [(h0, .inr (12, (f0.set 0 (.int 0))))] H := hP
  have hD : va_D A [(h0, .inr (12, (f0.set 0 (.int 0))))] := hD
  refine lv_if_ne (tgt := 21) hx hb dX12_holds_15 (by decide) (fun c9 => absurd (by decide) c9) (fun _ => ?_)
  refine lv_bipush (v := (-101)) hx hb dX12_holds_18 (by decide) ?_
  exact W.iret (v := (-101)) hx hb hr (fun t ht hW => ⟨⟨(-101), (), rfl, rfl, kB_mk ht hW hP hK hD⟩, hS.F ht⟩) hS.2.2 dX12_holds_20
set_option maxHeartbeats 400000000 in
set_option maxRecDepth 100000 in
theorem c_X11_holds_1 (l : Launch) (E : kE) (D : va_G) (cI cJ cB cZ : ClassId) (h0 : Nat) (x0 : Int32) (y1 : Int64) (y2 : Int64) (y3 : Int64) (y4 : Int64) (f0 : List Value) (h1 : Nat) (f1 : List Value) (h2 : Nat) (f2 : List Value) (e0 : f0[1]? = some (.ref h1)) (e1 : f1[8]? = some (.int 0)) (e2 : f0[2]? = some (.ref h2)) (e3 : (x0 : Int32) < 0) : kI l E D (kT cI cJ cB cZ) yX11_holds vW_X11_holds ({ frames := 1, cells := 0, slots := 0, locals := 21 }) [.ref h0, .int x0, .long y1, .long y2, .long y3, .long y4] [(h0, .inr (11, f0)), (h1, .inr (1, f1)), (h2, .inr (2, f2))] ((-101)) [(h0, .inr (11, f0)), (h1, .inr (1, f1)), (h2, .inr (2, f2))] 0 0 := by
  intro sz
  refine Met.ofW (cc := cX11_holds) (maxL := 10) (ret := (some .int)) (by decide) rfl ?_
  intro p e s m args below meth c s₁ B hml hv
  obtain ⟨rfl, hsz, hP, hK, hD0, hN, hX⟩ := hv
  have hx := B.exec
  have hb := B.bytes
  have hr := B.returns
  have hts := atoms_spec (ws := vW_X11_holds) B.pre
  have hown : s.vm.findClass RX11 = some m.cls := findClass_of_methodNamed B.named
  have hlocks := B.notSynchronized
  have hin11 : ∀ w ∈ wsX110, w ∈ vW_X11_holds := u9_X11_holds_wsX110
  have hin1 : ∀ w ∈ wsX10, w ∈ vW_X11_holds := u9_X11_holds_wsX10
  subst hsz
  have hD := hD0.self (sz := s.heap.size)
  have hAE := k_AE hD0 hX
  generalize hAe : va_A [(h0, .inr (11, f0)), (h1, .inr (1, f1)), (h2, .inr (2, f2))] s.heap.size = A at hD hAE ⊢
  have hA : ∀ q : Nat, s.heap.size ≤ q → A q := fun q h => by rw [← hAe]; exact Or.inr h
  have hS : va_S A s.heap s.heap [] := va_S.rf
  have hP : va_P D vwCl [(h0, .inr (11, f0)), (h1, .inr (1, f1)), (h2, .inr (2, f2))] s.heap := hP
  have hl := lv_entry ([.ref h0, .int x0, .long y1, .long y2, .long y3, .long y4] : List Value) (n := 10) (Nat.le_of_ble_eq_true rfl)
  rw [lg_entry_eq]
  generalize (lg_sl ([.ref h0, .int x0, .long y1, .long y2, .long y3, .long y4]) ++ List.replicate (10 - (lg_sl ([.ref h0, .int x0, .long y1, .long y2, .long y3, .long y4])).length) Slot.unset).toArray = ls at hl ⊢
  have hl : lv_has ls 10 [(0, .ref h0), (1, .int x0), (2, .long y1), (4, .long y2), (6, .long y3), (8, .long y4)] := hl
  refine lv_aload_n hx hb dX11_holds_0 rfl (lv_at hl 0 rfl) ?_
  refine k_get (D := D) (ci := 11) (v := .ref h1) (N := 15) hx hb hts hin11 hown hK hP 0 rfl rfl (by decide) f9_11_1 (hts (.fieldLink RX11 16 "IntegerHouse" "disk" "LIntegerHouse$Disk;") (o9_X11_holds _ (List.mem_of_getElem? (i := 0) rfl))) e0 dX11_holds_1 ?_
  refine k_getN (host := "IntegerHouse") (D := D) (ci := 1) (v := .int 0) (N := 9) hx hb hts hin1 hown hK hP 1 rfl rfl (by decide) f9_1_8 (va_Nw.use rfl (hN.1 ("IntegerHouse", 122, "IntegerHouse$Disk", "down", "Z", "IntegerHouse") (List.mem_of_getElem? (i := 3) rfl))) e1 dX11_holds_4 ?_
  refine lv_if_eq (tgt := 13) hx hb dX11_holds_7 (by decide) (fun _ => ?_) (fun c9 => absurd (by decide) c9)
  refine lv_aload_n hx hb dX11_holds_13 rfl (lv_at hl 0 rfl) ?_
  refine k_get (D := D) (ci := 11) (v := .ref h2) (N := 15) hx hb hts hin11 hown hK hP 0 rfl rfl (by decide) f9_11_2 (hts (.fieldLink RX11 23 "IntegerHouse" "house" "LIntegerHouse$House;") (o9_X11_holds _ (List.mem_of_getElem? (i := 1) rfl))) e2 dX11_holds_14 ?_
  refine lv_iload_n hx hb dX11_holds_17 rfl (lv_at hl 1 rfl) ?_
  refine k_cVi (As := [.int x0]) (rest := []) (wc := [(h2, .inr (2, f2))]) (wr := [(h0, .inr (11, f0)), (h1, .inr (1, f1))]) (w1 := [(h2, .inr (2, f2))]) ⟨hx, hb, hml, hown, hts⟩ hN hX hAE hK hP hD hS hA [2] [0, 1] (ci := 2) rfl rfl rfl rfl (by decide +kernel) (by decide +kernel) (by decide +kernel) (c_X2_isClaim_1 l E D cI cJ cB cZ h2 x0 f2 e3) (cwV 1 hts g9_X11_holds_X2_isClaim_176 rfl rfl rfl (by decide +kernel) ⟨Nat.le_of_ble_eq_true rfl, Nat.le_of_ble_eq_true rfl⟩) rfl hl.1 (Nat.le_of_ble_eq_true rfl) dX11_holds_18 ⟨Nat.le_of_ble_eq_true rfl, Nat.le_of_ble_eq_true rfl⟩ (fun H locs hP hD hS => ?_)
  have hP : va_P D vwCl [(h0, .inr (11, f0)), (h1, .inr (1, f1)), (h2, .inr (2, f2))] H := hP
  have hD : va_D A [(h0, .inr (11, f0)), (h1, .inr (1, f1)), (h2, .inr (2, f2))] := hD
  refine lv_if_ne (tgt := 27) hx hb dX11_holds_21 (by decide) (fun c9 => absurd (by decide) c9) (fun _ => ?_)
  refine lv_bipush (v := (-101)) hx hb dX11_holds_24 (by decide) ?_
  exact W.iret (v := (-101)) hx hb hr (fun t ht hW => ⟨⟨(-101), (), rfl, rfl, kB_mk ht hW hP hK hD⟩, hS.F ht⟩) hS.2.2 dX11_holds_26
set_option maxHeartbeats 400000000 in
set_option maxRecDepth 100000 in
theorem c_X12_holds_1 (l : Launch) (E : kE) (D : va_G) (cI cJ cB cZ : ClassId) (h0 : Nat) (x0 : Int32) (y1 : Int64) (y2 : Int64) (y3 : Int64) (y4 : Int64) (f0 : List Value) (e0 : f0[0]? = some (.int 0)) (e1 : f0[5]? = some (.int 0)) (e2 : f0[33]? = some (.int 0)) (e3 : (x0 : Int32) < 0) : kI l E D (kT cI cJ cB cZ) yX12_holds vW_X12_holds ({ frames := 2, cells := 0, slots := 0, locals := 46 }) [.ref h0, .int x0, .long y1, .long y2, .long y3, .long y4] [(h0, .inr (12, f0))] ((-101)) [(h0, .inr (12, (f0.set 0 (.int 0))))] 0 0 := by
  intro sz
  refine Met.ofW (cc := cX12_holds) (maxL := 18) (ret := (some .int)) (by decide) rfl ?_
  intro p e s m args below meth c s₁ B hml hv
  obtain ⟨rfl, hsz, hP, hK, hD0, hN, hX⟩ := hv
  have hx := B.exec
  have hb := B.bytes
  have hr := B.returns
  have hts := atoms_spec (ws := vW_X12_holds) B.pre
  have hown : s.vm.findClass RX12 = some m.cls := findClass_of_methodNamed B.named
  have hlocks := B.notSynchronized
  subst hsz
  have hD := hD0.self (sz := s.heap.size)
  have hAE := k_AE hD0 hX
  generalize hAe : va_A [(h0, .inr (12, f0))] s.heap.size = A at hD hAE ⊢
  have hA : ∀ q : Nat, s.heap.size ≤ q → A q := fun q h => by rw [← hAe]; exact Or.inr h
  have hS : va_S A s.heap s.heap [] := va_S.rf
  have hP : va_P D vwCl [(h0, .inr (12, f0))] s.heap := hP
  have hl := lv_entry ([.ref h0, .int x0, .long y1, .long y2, .long y3, .long y4] : List Value) (n := 18) (Nat.le_of_ble_eq_true rfl)
  rw [lg_entry_eq]
  generalize (lg_sl ([.ref h0, .int x0, .long y1, .long y2, .long y3, .long y4]) ++ List.replicate (18 - (lg_sl ([.ref h0, .int x0, .long y1, .long y2, .long y3, .long y4])).length) Slot.unset).toArray = ls at hl ⊢
  have hl : lv_has ls 18 [(0, .ref h0), (1, .int x0), (2, .long y1), (4, .long y2), (6, .long y3), (8, .long y4)] := hl
  refine lv_aload_n hx hb dX12_holds_0 rfl (lv_at hl 0 rfl) ?_
  refine k_cVi (As := []) (rest := []) (wc := [(h0, .inr (12, f0))]) (wr := []) (w1 := [(h0, .inr (12, (f0.set 0 (.int 0))))]) ⟨hx, hb, hml, hown, hts⟩ hN hX hAE hK hP hD hS hA [0] [] (ci := 12) rfl rfl rfl rfl (by decide +kernel) (by decide +kernel) (by decide +kernel) (c_X12_asks_0 l E D cI cJ cB cZ h0 f0 e0 e1) (cwV 0 hts g9_X12_holds_X12_asks_871 rfl rfl rfl (by decide +kernel) ⟨Nat.le_of_ble_eq_true rfl, Nat.le_of_ble_eq_true rfl⟩) rfl hl.1 (Nat.le_of_ble_eq_true rfl) dX12_holds_1 ⟨Nat.le_of_ble_eq_true rfl, Nat.le_of_ble_eq_true rfl⟩ (fun H locs hP hD hS => ?_)
  have hP : va_P D vwCl [(h0, .inr (12, (f0.set 0 (.int 0))))] H := hP
  have hD : va_D A [(h0, .inr (12, (f0.set 0 (.int 0))))] := hD
  refine lv_if_ne (tgt := 10) hx hb dX12_holds_4 (by decide) (fun _ => ?_) (fun c9 => absurd c9 (by decide))
  refine lv_aload_n hx hb dX12_holds_10 rfl (lv_at hl 0 rfl) ?_
  refine lv_iload_n hx hb dX12_holds_11 rfl (lv_at hl 1 rfl) ?_
  refine k_cVi (As := [.int x0]) (rest := []) (wc := [(h0, .inr (12, (f0.set 0 (.int 0))))]) (wr := []) (w1 := [(h0, .inr (12, (f0.set 0 (.int 0))))]) ⟨hx, hb, hml, hown, hts⟩ hN hX hAE hK hP hD hS hA [0] [] (ci := 12) rfl rfl rfl rfl (by decide +kernel) (by decide +kernel) (by decide +kernel) (c_X12_isClaim_1 l E D cI cJ cB cZ h0 x0 ((f0.set 0 (.int 0))) (k_ne (by decide) e2) e3) (cwV 1 hts g9_X12_holds_X12_isClaim_877 rfl rfl rfl (by decide +kernel) ⟨Nat.le_of_ble_eq_true rfl, Nat.le_of_ble_eq_true rfl⟩) rfl hl.1 (Nat.le_of_ble_eq_true rfl) dX12_holds_12 ⟨Nat.le_of_ble_eq_true rfl, Nat.le_of_ble_eq_true rfl⟩ (fun H locs hP hD hS => ?_)
  have hP : va_P D vwCl [(h0, .inr (12, (f0.set 0 (.int 0))))] H := hP
  have hD : va_D A [(h0, .inr (12, (f0.set 0 (.int 0))))] := hD
  refine lv_if_ne (tgt := 21) hx hb dX12_holds_15 (by decide) (fun c9 => absurd (by decide) c9) (fun _ => ?_)
  refine lv_bipush (v := (-101)) hx hb dX12_holds_18 (by decide) ?_
  exact W.iret (v := (-101)) hx hb hr (fun t ht hW => ⟨⟨(-101), (), rfl, rfl, kB_mk ht hW hP hK hD⟩, hS.F ht⟩) hS.2.2 dX12_holds_20
set_option maxHeartbeats 400000000 in
set_option maxRecDepth 100000 in
theorem c_X6_gather_0 (l : Launch) (E : kE) (D : va_G) (cI cJ cB cZ : ClassId) (h0 : Nat) (f0 : List Value) (h1 : Nat) (f1 : List Value) (e0 : f0[10]? = some (.int 0)) (e1 : f0[11]? = some (.int 0)) (e2 : f0[0]? = some (.ref h1)) (e3 : f1[10]? = some (.int 0)) (e4 : f0[12]? = some (.int 0)) : kI l E D (kT cI cJ cB cZ) yX6_gather vW_X6_gather ({ frames := 1, cells := 0, slots := 0, locals := 21 }) [.ref h0, .int 0] [(h0, .inr (6, f0)), (h1, .inr (2, f1))] (1) [(h0, .inr (6, ((((((((((((((((((((((((((((f0.set 10 (.int 0)).set 11 (.int 0)).set 12 (.int 1)).set 11 (.int 0)).set 11 (.int 0)).set 11 (.int 0)).set 11 (.int 0)).set 11 (.int 0)).set 11 (.int 0)).set 11 (.int 0)).set 11 (.int 0)).set 11 (.int 0)).set 11 (.int 0)).set 11 (.int 0)).set 11 (.int 0)).set 11 (.int 0)).set 11 (.int 0)).set 11 (.int 0)).set 11 (.int 0)).set 11 (.int 0)).set 11 (.int 0)).set 11 (.int 0)).set 11 (.int 0)).set 11 (.int 0)).set 11 (.int 0)).set 11 (.int 0)).set 11 (.int 0)).set 11 (.int 0)))), (h1, .inr (2, f1))] 0 0 := by
  intro sz
  refine Met.ofW (cc := cX6_gather) (maxL := 5) (ret := (some .boolean)) (by decide) rfl ?_
  intro p e s m args below meth c s₁ B hml hv
  obtain ⟨rfl, hsz, hP, hK, hD0, hN, hX⟩ := hv
  have hx := B.exec
  have hb := B.bytes
  have hr := B.returns
  have hts := atoms_spec (ws := vW_X6_gather) B.pre
  have hown : s.vm.findClass RX6 = some m.cls := findClass_of_methodNamed B.named
  have hlocks := B.notSynchronized
  have hin6 : ∀ w ∈ wsX60, w ∈ vW_X6_gather := u9_X6_gather_wsX60
  have hin2 : ∀ w ∈ wsX20, w ∈ vW_X6_gather := u9_X6_gather_wsX20
  subst hsz
  have hD := hD0.self (sz := s.heap.size)
  have hAE := k_AE hD0 hX
  generalize hAe : va_A [(h0, .inr (6, f0)), (h1, .inr (2, f1))] s.heap.size = A at hD hAE ⊢
  have hA : ∀ q : Nat, s.heap.size ≤ q → A q := fun q h => by rw [← hAe]; exact Or.inr h
  have hS : va_S A s.heap s.heap [] := va_S.rf
  have hP : va_P D vwCl [(h0, .inr (6, f0)), (h1, .inr (2, f1))] s.heap := hP
  have hl := lv_entry ([.ref h0, .int 0] : List Value) (n := 5) (Nat.le_of_ble_eq_true rfl)
  rw [lg_entry_eq]
  generalize (lg_sl ([.ref h0, .int 0]) ++ List.replicate (5 - (lg_sl ([.ref h0, .int 0])).length) Slot.unset).toArray = ls at hl ⊢
  have hl : lv_has ls 5 [(0, .ref h0), (1, .int 0)] := hl
  refine lv_aload_n hx hb dX6_gather_0 rfl (lv_at hl 0 rfl) ?_
  refine lv_iconst (v := 0) hx hb dX6_gather_1 (by decide) ?_
  refine k_put (D := D) (ci := 6) (v := .int 0) (ty := .int) (N := 14) hx hb hts hin6 tyX6 tyX6_ok nmX6 hown hK hP hD hS 0 rfl rfl (by decide) f9_6_10 (hts (.fieldLink RX6 76 "IntegerHouse$Places" "atoms" "I") (o9_X6_gather _ (List.mem_of_getElem? (i := 0) rfl))) rfl pd_2 rfl rfl (k_len e0) dX6_gather_2 (fun H locs hP hD hS => ?_)
  have hP : va_P D vwCl [(h0, .inr (6, (f0.set 10 (.int 0)))), (h1, .inr (2, f1))] H := hP
  have hD : va_D A [(h0, .inr (6, (f0.set 10 (.int 0)))), (h1, .inr (2, f1))] := hD
  refine lv_aload_n hx hb dX6_gather_5 rfl (lv_at hl 0 rfl) ?_
  refine lv_iload_n hx hb dX6_gather_6 rfl (lv_at hl 1 rfl) ?_
  refine k_put (D := D) (ci := 6) (v := .int 0) (ty := .int) (N := 14) hx hb hts hin6 tyX6 tyX6_ok nmX6 hown hK hP hD hS 0 rfl rfl (by decide) f9_6_11 (hts (.fieldLink RX6 90 "IntegerHouse$Places" "needed" "I") (o9_X6_gather _ (List.mem_of_getElem? (i := 1) rfl))) rfl pd_2 rfl rfl (k_len (k_ne (by decide) e1)) dX6_gather_7 (fun H locs hP hD hS => ?_)
  have hP : va_P D vwCl [(h0, .inr (6, ((f0.set 10 (.int 0)).set 11 (.int 0)))), (h1, .inr (2, f1))] H := hP
  have hD : va_D A [(h0, .inr (6, ((f0.set 10 (.int 0)).set 11 (.int 0)))), (h1, .inr (2, f1))] := hD
  refine lv_aload_n hx hb dX6_gather_10 rfl (lv_at hl 0 rfl) ?_
  refine lv_iconst (v := 1) hx hb dX6_gather_11 (by decide) ?_
  refine lv_iconst (v := 0) hx hb dX6_gather_12 (by decide) ?_
  refine lv_iconst (v := 4) hx hb dX6_gather_13 (by decide) ?_
  refine lv_aload_n hx hb dX6_gather_14 rfl (lv_at hl 0 rfl) ?_
  refine k_get (D := D) (ci := 6) (v := .ref h1) (N := 14) hx hb hts hin6 hown hK hP 0 rfl rfl (by decide) f9_6_0 (hts (.fieldLink RX6 44 "IntegerHouse$Places" "house" "LIntegerHouse$House;") (o9_X6_gather _ (List.mem_of_getElem? (i := 2) rfl))) (k_ne (by decide) (k_ne (by decide) e2)) dX6_gather_15 ?_
  refine k_getN (host := "IntegerHouse") (D := D) (ci := 2) (v := .int 0) (N := 16) hx hb hts hin2 hown hK hP 1 rfl rfl (by decide) f9_2_10 (va_Nw.use rfl (hN.1 ("IntegerHouse$Places", 93, "IntegerHouse$House", "variables", "I", "IntegerHouse") (List.mem_of_getElem? (i := 9) rfl))) e3 dX6_gather_18 ?_
  refine va_mmin hx hb (by rw [hml]; exact hl.1.symm) hown (hts (.methodLink RX6 96 Lib.Math.min.name) (o9_X6_gather _ (List.mem_of_getElem? (i := 3) rfl))) (hts (.static Lib.Math.min.name) (o9_X6_gather _ (List.mem_of_getElem? (i := 4) rfl))) (hts (.initialized "java/lang/Math") (o9_X6_gather _ (List.mem_of_getElem? (i := 5) rfl))) (hts (.code Lib.Math.min.name Lib.Math.min.code 2 (some .int)) (o9_X6_gather _ (List.mem_of_getElem? (i := 6) rfl))) (Nat.le_of_ble_eq_true rfl) (Nat.le_of_ble_eq_true rfl) (Nat.le_of_ble_eq_true rfl) (Nat.le_of_ble_eq_true rfl) dX6_gather_21 ?_
  refine k_topi (y := 0) (by decide) ?_
  refine va_mmax hx hb (by rw [hml]; exact hl.1.symm) hown (hts (.methodLink RX6 101 Lib.Math.max.name) (o9_X6_gather _ (List.mem_of_getElem? (i := 7) rfl))) (hts (.static Lib.Math.max.name) (o9_X6_gather _ (List.mem_of_getElem? (i := 8) rfl))) (hts (.initialized "java/lang/Math") (o9_X6_gather _ (List.mem_of_getElem? (i := 5) rfl))) (hts (.code Lib.Math.max.name Lib.Math.max.code 2 (some .int)) (o9_X6_gather _ (List.mem_of_getElem? (i := 9) rfl))) (Nat.le_of_ble_eq_true rfl) (Nat.le_of_ble_eq_true rfl) (Nat.le_of_ble_eq_true rfl) (Nat.le_of_ble_eq_true rfl) dX6_gather_24 ?_
  refine k_topi (y := 0) (by decide) ?_
  refine lv_ishl hx hb dX6_gather_27 ?_
  refine k_topi (y := 1) (by decide) ?_
  refine k_put (D := D) (ci := 6) (v := .int 1) (ty := .int) (N := 14) hx hb hts hin6 tyX6 tyX6_ok nmX6 hown hK hP hD hS 0 rfl rfl (by decide) f9_6_12 (hts (.fieldLink RX6 56 "IntegerHouse$Places" "letters" "I") (o9_X6_gather _ (List.mem_of_getElem? (i := 10) rfl))) rfl pd_2 rfl rfl (k_len (k_ne (by decide) (k_ne (by decide) e4))) dX6_gather_28 (fun H locs hP hD hS => ?_)
  have hP : va_P D vwCl [(h0, .inr (6, (((f0.set 10 (.int 0)).set 11 (.int 0)).set 12 (.int 1)))), (h1, .inr (2, f1))] H := hP
  have hD : va_D A [(h0, .inr (6, (((f0.set 10 (.int 0)).set 11 (.int 0)).set 12 (.int 1)))), (h1, .inr (2, f1))] := hD
  refine lv_iconst (v := 0) hx hb dX6_gather_31 (by decide) ?_
  refine lv_istore_n (lv' := [(2, .int 0), (0, .ref h0), (1, .int 0)]) hx hb dX6_gather_32 rfl hl (by decide) rfl (fun ls hl => ?_)
  refine lv_iload_n hx hb dX6_gather_33 rfl (lv_at hl 0 rfl) ?_
  refine lv_bipush (v := 24) hx hb dX6_gather_34 (by decide) ?_
  refine lv_icmp_gt (tgt := 102) hx hb dX6_gather_36 (by decide) (fun c9 => absurd c9 (by decide)) (fun _ => ?_)
  refine lv_iload_n hx hb dX6_gather_39 rfl (lv_at hl 2 rfl) ?_
  refine lv_iload_n hx hb dX6_gather_40 rfl (lv_at hl 0 rfl) ?_
  refine lv_iushr (v := 0) hx hb dX6_gather_41 (by decide) ?_
  refine lv_iconst (v := 1) hx hb dX6_gather_42 (by decide) ?_
  refine lv_iand hx hb dX6_gather_43 ?_
  refine k_topi (y := 0) (by decide) ?_
  refine lv_iconst (v := 1) hx hb dX6_gather_44 (by decide) ?_
  refine lv_icmp_ne (tgt := 60) hx hb dX6_gather_45 (by decide) (fun _ => ?_) (fun c9 => absurd c9 (by decide))
  refine lv_iconst (v := 0) hx hb dX6_gather_60 (by decide) ?_
  refine lv_istore_n (lv' := [(3, .int 0), (2, .int 0), (0, .ref h0), (1, .int 0)]) hx hb dX6_gather_61 rfl hl (by decide) rfl (fun ls hl => ?_)
  refine lv_iconst (v := 0) hx hb dX6_gather_62 (by decide) ?_
  refine lv_istore (lv' := [(4, .int 0), (3, .int 0), (2, .int 0), (0, .ref h0), (1, .int 0)]) hx hb dX6_gather_63 hl (by decide) rfl (fun ls hl => ?_)
  refine lv_iload hx hb dX6_gather_65 (lv_at hl 0 rfl) ?_
  refine lv_iload_n hx hb dX6_gather_67 rfl (lv_at hl 1 rfl) ?_
  refine lv_icmp_ge (tgt := 96) hx hb dX6_gather_68 (by decide) (fun _ => ?_) (fun c9 => absurd (by decide) c9)
  refine lv_iinc (v := 1) (lv' := [(2, .int 1), (4, .int 0), (3, .int 0), (0, .ref h0), (1, .int 0)]) hx hb dX6_gather_96 hl (k := 2) rfl (by decide) (by decide) rfl (fun ls hl => ?_)
  refine lv_goto (tgt := 33) hx hb dX6_gather_99 (by decide) ?_
  refine lv_iload_n hx hb dX6_gather_33 rfl (lv_at hl 0 rfl) ?_
  refine lv_bipush (v := 24) hx hb dX6_gather_34 (by decide) ?_
  refine lv_icmp_gt (tgt := 102) hx hb dX6_gather_36 (by decide) (fun c9 => absurd c9 (by decide)) (fun _ => ?_)
  refine lv_iload_n hx hb dX6_gather_39 rfl (lv_at hl 4 rfl) ?_
  refine lv_iload_n hx hb dX6_gather_40 rfl (lv_at hl 0 rfl) ?_
  refine lv_iushr (v := 0) hx hb dX6_gather_41 (by decide) ?_
  refine lv_iconst (v := 1) hx hb dX6_gather_42 (by decide) ?_
  refine lv_iand hx hb dX6_gather_43 ?_
  refine k_topi (y := 0) (by decide) ?_
  refine lv_iconst (v := 1) hx hb dX6_gather_44 (by decide) ?_
  refine lv_icmp_ne (tgt := 60) hx hb dX6_gather_45 (by decide) (fun _ => ?_) (fun c9 => absurd c9 (by decide))
  refine lv_iconst (v := 0) hx hb dX6_gather_60 (by decide) ?_
  refine lv_istore_n (lv' := [(3, .int 0), (2, .int 1), (4, .int 0), (0, .ref h0), (1, .int 0)]) hx hb dX6_gather_61 rfl hl (by decide) rfl (fun ls hl => ?_)
  refine lv_iconst (v := 0) hx hb dX6_gather_62 (by decide) ?_
  refine lv_istore (lv' := [(4, .int 0), (3, .int 0), (2, .int 1), (0, .ref h0), (1, .int 0)]) hx hb dX6_gather_63 hl (by decide) rfl (fun ls hl => ?_)
  refine lv_iload hx hb dX6_gather_65 (lv_at hl 0 rfl) ?_
  refine lv_iload_n hx hb dX6_gather_67 rfl (lv_at hl 1 rfl) ?_
  refine lv_icmp_ge (tgt := 96) hx hb dX6_gather_68 (by decide) (fun _ => ?_) (fun c9 => absurd (by decide) c9)
  refine lv_iinc (v := 2) (lv' := [(2, .int 2), (4, .int 0), (3, .int 0), (0, .ref h0), (1, .int 0)]) hx hb dX6_gather_96 hl (k := 2) rfl (by decide) (by decide) rfl (fun ls hl => ?_)
  refine lv_goto (tgt := 33) hx hb dX6_gather_99 (by decide) ?_
  refine lv_iload_n hx hb dX6_gather_33 rfl (lv_at hl 0 rfl) ?_
  refine lv_bipush (v := 24) hx hb dX6_gather_34 (by decide) ?_
  refine lv_icmp_gt (tgt := 102) hx hb dX6_gather_36 (by decide) (fun c9 => absurd c9 (by decide)) (fun _ => ?_)
  refine lv_iload_n hx hb dX6_gather_39 rfl (lv_at hl 4 rfl) ?_
  refine lv_iload_n hx hb dX6_gather_40 rfl (lv_at hl 0 rfl) ?_
  refine lv_iushr (v := 0) hx hb dX6_gather_41 (by decide) ?_
  refine lv_iconst (v := 1) hx hb dX6_gather_42 (by decide) ?_
  refine lv_iand hx hb dX6_gather_43 ?_
  refine k_topi (y := 0) (by decide) ?_
  refine lv_iconst (v := 1) hx hb dX6_gather_44 (by decide) ?_
  refine lv_icmp_ne (tgt := 60) hx hb dX6_gather_45 (by decide) (fun _ => ?_) (fun c9 => absurd c9 (by decide))
  refine lv_iconst (v := 0) hx hb dX6_gather_60 (by decide) ?_
  refine lv_istore_n (lv' := [(3, .int 0), (2, .int 2), (4, .int 0), (0, .ref h0), (1, .int 0)]) hx hb dX6_gather_61 rfl hl (by decide) rfl (fun ls hl => ?_)
  refine lv_iconst (v := 0) hx hb dX6_gather_62 (by decide) ?_
  refine lv_istore (lv' := [(4, .int 0), (3, .int 0), (2, .int 2), (0, .ref h0), (1, .int 0)]) hx hb dX6_gather_63 hl (by decide) rfl (fun ls hl => ?_)
  refine lv_iload hx hb dX6_gather_65 (lv_at hl 0 rfl) ?_
  refine lv_iload_n hx hb dX6_gather_67 rfl (lv_at hl 1 rfl) ?_
  refine lv_icmp_ge (tgt := 96) hx hb dX6_gather_68 (by decide) (fun _ => ?_) (fun c9 => absurd (by decide) c9)
  refine lv_iinc (v := 3) (lv' := [(2, .int 3), (4, .int 0), (3, .int 0), (0, .ref h0), (1, .int 0)]) hx hb dX6_gather_96 hl (k := 2) rfl (by decide) (by decide) rfl (fun ls hl => ?_)
  refine lv_goto (tgt := 33) hx hb dX6_gather_99 (by decide) ?_
  refine lv_iload_n hx hb dX6_gather_33 rfl (lv_at hl 0 rfl) ?_
  refine lv_bipush (v := 24) hx hb dX6_gather_34 (by decide) ?_
  refine lv_icmp_gt (tgt := 102) hx hb dX6_gather_36 (by decide) (fun c9 => absurd c9 (by decide)) (fun _ => ?_)
  refine lv_iload_n hx hb dX6_gather_39 rfl (lv_at hl 4 rfl) ?_
  refine lv_iload_n hx hb dX6_gather_40 rfl (lv_at hl 0 rfl) ?_
  refine lv_iushr (v := 0) hx hb dX6_gather_41 (by decide) ?_
  refine lv_iconst (v := 1) hx hb dX6_gather_42 (by decide) ?_
  refine lv_iand hx hb dX6_gather_43 ?_
  refine k_topi (y := 0) (by decide) ?_
  refine lv_iconst (v := 1) hx hb dX6_gather_44 (by decide) ?_
  refine lv_icmp_ne (tgt := 60) hx hb dX6_gather_45 (by decide) (fun _ => ?_) (fun c9 => absurd c9 (by decide))
  refine lv_iconst (v := 0) hx hb dX6_gather_60 (by decide) ?_
  refine lv_istore_n (lv' := [(3, .int 0), (2, .int 3), (4, .int 0), (0, .ref h0), (1, .int 0)]) hx hb dX6_gather_61 rfl hl (by decide) rfl (fun ls hl => ?_)
  refine lv_iconst (v := 0) hx hb dX6_gather_62 (by decide) ?_
  refine lv_istore (lv' := [(4, .int 0), (3, .int 0), (2, .int 3), (0, .ref h0), (1, .int 0)]) hx hb dX6_gather_63 hl (by decide) rfl (fun ls hl => ?_)
  refine lv_iload hx hb dX6_gather_65 (lv_at hl 0 rfl) ?_
  refine lv_iload_n hx hb dX6_gather_67 rfl (lv_at hl 1 rfl) ?_
  refine lv_icmp_ge (tgt := 96) hx hb dX6_gather_68 (by decide) (fun _ => ?_) (fun c9 => absurd (by decide) c9)
  refine lv_iinc (v := 4) (lv' := [(2, .int 4), (4, .int 0), (3, .int 0), (0, .ref h0), (1, .int 0)]) hx hb dX6_gather_96 hl (k := 2) rfl (by decide) (by decide) rfl (fun ls hl => ?_)
  refine lv_goto (tgt := 33) hx hb dX6_gather_99 (by decide) ?_
  refine lv_iload_n hx hb dX6_gather_33 rfl (lv_at hl 0 rfl) ?_
  refine lv_bipush (v := 24) hx hb dX6_gather_34 (by decide) ?_
  refine lv_icmp_gt (tgt := 102) hx hb dX6_gather_36 (by decide) (fun c9 => absurd c9 (by decide)) (fun _ => ?_)
  refine lv_iload_n hx hb dX6_gather_39 rfl (lv_at hl 4 rfl) ?_
  refine lv_iload_n hx hb dX6_gather_40 rfl (lv_at hl 0 rfl) ?_
  refine lv_iushr (v := 0) hx hb dX6_gather_41 (by decide) ?_
  refine lv_iconst (v := 1) hx hb dX6_gather_42 (by decide) ?_
  refine lv_iand hx hb dX6_gather_43 ?_
  refine k_topi (y := 0) (by decide) ?_
  refine lv_iconst (v := 1) hx hb dX6_gather_44 (by decide) ?_
  refine lv_icmp_ne (tgt := 60) hx hb dX6_gather_45 (by decide) (fun _ => ?_) (fun c9 => absurd c9 (by decide))
  refine lv_iconst (v := 0) hx hb dX6_gather_60 (by decide) ?_
  refine lv_istore_n (lv' := [(3, .int 0), (2, .int 4), (4, .int 0), (0, .ref h0), (1, .int 0)]) hx hb dX6_gather_61 rfl hl (by decide) rfl (fun ls hl => ?_)
  refine lv_iconst (v := 0) hx hb dX6_gather_62 (by decide) ?_
  refine lv_istore (lv' := [(4, .int 0), (3, .int 0), (2, .int 4), (0, .ref h0), (1, .int 0)]) hx hb dX6_gather_63 hl (by decide) rfl (fun ls hl => ?_)
  refine lv_iload hx hb dX6_gather_65 (lv_at hl 0 rfl) ?_
  refine lv_iload_n hx hb dX6_gather_67 rfl (lv_at hl 1 rfl) ?_
  refine lv_icmp_ge (tgt := 96) hx hb dX6_gather_68 (by decide) (fun _ => ?_) (fun c9 => absurd (by decide) c9)
  refine lv_iinc (v := 5) (lv' := [(2, .int 5), (4, .int 0), (3, .int 0), (0, .ref h0), (1, .int 0)]) hx hb dX6_gather_96 hl (k := 2) rfl (by decide) (by decide) rfl (fun ls hl => ?_)
  refine lv_goto (tgt := 33) hx hb dX6_gather_99 (by decide) ?_
  refine lv_iload_n hx hb dX6_gather_33 rfl (lv_at hl 0 rfl) ?_
  refine lv_bipush (v := 24) hx hb dX6_gather_34 (by decide) ?_
  refine lv_icmp_gt (tgt := 102) hx hb dX6_gather_36 (by decide) (fun c9 => absurd c9 (by decide)) (fun _ => ?_)
  refine lv_iload_n hx hb dX6_gather_39 rfl (lv_at hl 4 rfl) ?_
  refine lv_iload_n hx hb dX6_gather_40 rfl (lv_at hl 0 rfl) ?_
  refine lv_iushr (v := 0) hx hb dX6_gather_41 (by decide) ?_
  refine lv_iconst (v := 1) hx hb dX6_gather_42 (by decide) ?_
  refine lv_iand hx hb dX6_gather_43 ?_
  refine k_topi (y := 0) (by decide) ?_
  refine lv_iconst (v := 1) hx hb dX6_gather_44 (by decide) ?_
  refine lv_icmp_ne (tgt := 60) hx hb dX6_gather_45 (by decide) (fun _ => ?_) (fun c9 => absurd c9 (by decide))
  refine lv_iconst (v := 0) hx hb dX6_gather_60 (by decide) ?_
  refine lv_istore_n (lv' := [(3, .int 0), (2, .int 5), (4, .int 0), (0, .ref h0), (1, .int 0)]) hx hb dX6_gather_61 rfl hl (by decide) rfl (fun ls hl => ?_)
  refine lv_iconst (v := 0) hx hb dX6_gather_62 (by decide) ?_
  refine lv_istore (lv' := [(4, .int 0), (3, .int 0), (2, .int 5), (0, .ref h0), (1, .int 0)]) hx hb dX6_gather_63 hl (by decide) rfl (fun ls hl => ?_)
  refine lv_iload hx hb dX6_gather_65 (lv_at hl 0 rfl) ?_
  refine lv_iload_n hx hb dX6_gather_67 rfl (lv_at hl 1 rfl) ?_
  refine lv_icmp_ge (tgt := 96) hx hb dX6_gather_68 (by decide) (fun _ => ?_) (fun c9 => absurd (by decide) c9)
  refine lv_iinc (v := 6) (lv' := [(2, .int 6), (4, .int 0), (3, .int 0), (0, .ref h0), (1, .int 0)]) hx hb dX6_gather_96 hl (k := 2) rfl (by decide) (by decide) rfl (fun ls hl => ?_)
  refine lv_goto (tgt := 33) hx hb dX6_gather_99 (by decide) ?_
  refine lv_iload_n hx hb dX6_gather_33 rfl (lv_at hl 0 rfl) ?_
  refine lv_bipush (v := 24) hx hb dX6_gather_34 (by decide) ?_
  refine lv_icmp_gt (tgt := 102) hx hb dX6_gather_36 (by decide) (fun c9 => absurd c9 (by decide)) (fun _ => ?_)
  refine lv_iload_n hx hb dX6_gather_39 rfl (lv_at hl 4 rfl) ?_
  refine lv_iload_n hx hb dX6_gather_40 rfl (lv_at hl 0 rfl) ?_
  refine lv_iushr (v := 0) hx hb dX6_gather_41 (by decide) ?_
  refine lv_iconst (v := 1) hx hb dX6_gather_42 (by decide) ?_
  refine lv_iand hx hb dX6_gather_43 ?_
  refine k_topi (y := 0) (by decide) ?_
  refine lv_iconst (v := 1) hx hb dX6_gather_44 (by decide) ?_
  refine lv_icmp_ne (tgt := 60) hx hb dX6_gather_45 (by decide) (fun _ => ?_) (fun c9 => absurd c9 (by decide))
  refine lv_iconst (v := 0) hx hb dX6_gather_60 (by decide) ?_
  refine lv_istore_n (lv' := [(3, .int 0), (2, .int 6), (4, .int 0), (0, .ref h0), (1, .int 0)]) hx hb dX6_gather_61 rfl hl (by decide) rfl (fun ls hl => ?_)
  refine lv_iconst (v := 0) hx hb dX6_gather_62 (by decide) ?_
  refine lv_istore (lv' := [(4, .int 0), (3, .int 0), (2, .int 6), (0, .ref h0), (1, .int 0)]) hx hb dX6_gather_63 hl (by decide) rfl (fun ls hl => ?_)
  refine lv_iload hx hb dX6_gather_65 (lv_at hl 0 rfl) ?_
  refine lv_iload_n hx hb dX6_gather_67 rfl (lv_at hl 1 rfl) ?_
  refine lv_icmp_ge (tgt := 96) hx hb dX6_gather_68 (by decide) (fun _ => ?_) (fun c9 => absurd (by decide) c9)
  refine lv_iinc (v := 7) (lv' := [(2, .int 7), (4, .int 0), (3, .int 0), (0, .ref h0), (1, .int 0)]) hx hb dX6_gather_96 hl (k := 2) rfl (by decide) (by decide) rfl (fun ls hl => ?_)
  refine lv_goto (tgt := 33) hx hb dX6_gather_99 (by decide) ?_
  refine lv_iload_n hx hb dX6_gather_33 rfl (lv_at hl 0 rfl) ?_
  refine lv_bipush (v := 24) hx hb dX6_gather_34 (by decide) ?_
  refine lv_icmp_gt (tgt := 102) hx hb dX6_gather_36 (by decide) (fun c9 => absurd c9 (by decide)) (fun _ => ?_)
  refine lv_iload_n hx hb dX6_gather_39 rfl (lv_at hl 4 rfl) ?_
  refine lv_iload_n hx hb dX6_gather_40 rfl (lv_at hl 0 rfl) ?_
  refine lv_iushr (v := 0) hx hb dX6_gather_41 (by decide) ?_
  refine lv_iconst (v := 1) hx hb dX6_gather_42 (by decide) ?_
  refine lv_iand hx hb dX6_gather_43 ?_
  refine k_topi (y := 0) (by decide) ?_
  refine lv_iconst (v := 1) hx hb dX6_gather_44 (by decide) ?_
  refine lv_icmp_ne (tgt := 60) hx hb dX6_gather_45 (by decide) (fun _ => ?_) (fun c9 => absurd c9 (by decide))
  refine lv_iconst (v := 0) hx hb dX6_gather_60 (by decide) ?_
  refine lv_istore_n (lv' := [(3, .int 0), (2, .int 7), (4, .int 0), (0, .ref h0), (1, .int 0)]) hx hb dX6_gather_61 rfl hl (by decide) rfl (fun ls hl => ?_)
  refine lv_iconst (v := 0) hx hb dX6_gather_62 (by decide) ?_
  refine lv_istore (lv' := [(4, .int 0), (3, .int 0), (2, .int 7), (0, .ref h0), (1, .int 0)]) hx hb dX6_gather_63 hl (by decide) rfl (fun ls hl => ?_)
  refine lv_iload hx hb dX6_gather_65 (lv_at hl 0 rfl) ?_
  refine lv_iload_n hx hb dX6_gather_67 rfl (lv_at hl 1 rfl) ?_
  refine lv_icmp_ge (tgt := 96) hx hb dX6_gather_68 (by decide) (fun _ => ?_) (fun c9 => absurd (by decide) c9)
  refine lv_iinc (v := 8) (lv' := [(2, .int 8), (4, .int 0), (3, .int 0), (0, .ref h0), (1, .int 0)]) hx hb dX6_gather_96 hl (k := 2) rfl (by decide) (by decide) rfl (fun ls hl => ?_)
  refine lv_goto (tgt := 33) hx hb dX6_gather_99 (by decide) ?_
  refine lv_iload_n hx hb dX6_gather_33 rfl (lv_at hl 0 rfl) ?_
  refine lv_bipush (v := 24) hx hb dX6_gather_34 (by decide) ?_
  refine lv_icmp_gt (tgt := 102) hx hb dX6_gather_36 (by decide) (fun c9 => absurd c9 (by decide)) (fun _ => ?_)
  refine lv_iload_n hx hb dX6_gather_39 rfl (lv_at hl 4 rfl) ?_
  refine lv_iload_n hx hb dX6_gather_40 rfl (lv_at hl 0 rfl) ?_
  refine lv_iushr (v := 0) hx hb dX6_gather_41 (by decide) ?_
  refine lv_iconst (v := 1) hx hb dX6_gather_42 (by decide) ?_
  refine lv_iand hx hb dX6_gather_43 ?_
  refine k_topi (y := 0) (by decide) ?_
  refine lv_iconst (v := 1) hx hb dX6_gather_44 (by decide) ?_
  refine lv_icmp_ne (tgt := 60) hx hb dX6_gather_45 (by decide) (fun _ => ?_) (fun c9 => absurd c9 (by decide))
  refine lv_iconst (v := 0) hx hb dX6_gather_60 (by decide) ?_
  refine lv_istore_n (lv' := [(3, .int 0), (2, .int 8), (4, .int 0), (0, .ref h0), (1, .int 0)]) hx hb dX6_gather_61 rfl hl (by decide) rfl (fun ls hl => ?_)
  refine lv_iconst (v := 0) hx hb dX6_gather_62 (by decide) ?_
  refine lv_istore (lv' := [(4, .int 0), (3, .int 0), (2, .int 8), (0, .ref h0), (1, .int 0)]) hx hb dX6_gather_63 hl (by decide) rfl (fun ls hl => ?_)
  refine lv_iload hx hb dX6_gather_65 (lv_at hl 0 rfl) ?_
  refine lv_iload_n hx hb dX6_gather_67 rfl (lv_at hl 1 rfl) ?_
  refine lv_icmp_ge (tgt := 96) hx hb dX6_gather_68 (by decide) (fun _ => ?_) (fun c9 => absurd (by decide) c9)
  refine lv_iinc (v := 9) (lv' := [(2, .int 9), (4, .int 0), (3, .int 0), (0, .ref h0), (1, .int 0)]) hx hb dX6_gather_96 hl (k := 2) rfl (by decide) (by decide) rfl (fun ls hl => ?_)
  refine lv_goto (tgt := 33) hx hb dX6_gather_99 (by decide) ?_
  refine lv_iload_n hx hb dX6_gather_33 rfl (lv_at hl 0 rfl) ?_
  refine lv_bipush (v := 24) hx hb dX6_gather_34 (by decide) ?_
  refine lv_icmp_gt (tgt := 102) hx hb dX6_gather_36 (by decide) (fun c9 => absurd c9 (by decide)) (fun _ => ?_)
  refine lv_iload_n hx hb dX6_gather_39 rfl (lv_at hl 4 rfl) ?_
  refine lv_iload_n hx hb dX6_gather_40 rfl (lv_at hl 0 rfl) ?_
  refine lv_iushr (v := 0) hx hb dX6_gather_41 (by decide) ?_
  refine lv_iconst (v := 1) hx hb dX6_gather_42 (by decide) ?_
  refine lv_iand hx hb dX6_gather_43 ?_
  refine k_topi (y := 0) (by decide) ?_
  refine lv_iconst (v := 1) hx hb dX6_gather_44 (by decide) ?_
  refine lv_icmp_ne (tgt := 60) hx hb dX6_gather_45 (by decide) (fun _ => ?_) (fun c9 => absurd c9 (by decide))
  refine lv_iconst (v := 0) hx hb dX6_gather_60 (by decide) ?_
  refine lv_istore_n (lv' := [(3, .int 0), (2, .int 9), (4, .int 0), (0, .ref h0), (1, .int 0)]) hx hb dX6_gather_61 rfl hl (by decide) rfl (fun ls hl => ?_)
  refine lv_iconst (v := 0) hx hb dX6_gather_62 (by decide) ?_
  refine lv_istore (lv' := [(4, .int 0), (3, .int 0), (2, .int 9), (0, .ref h0), (1, .int 0)]) hx hb dX6_gather_63 hl (by decide) rfl (fun ls hl => ?_)
  refine lv_iload hx hb dX6_gather_65 (lv_at hl 0 rfl) ?_
  refine lv_iload_n hx hb dX6_gather_67 rfl (lv_at hl 1 rfl) ?_
  refine lv_icmp_ge (tgt := 96) hx hb dX6_gather_68 (by decide) (fun _ => ?_) (fun c9 => absurd (by decide) c9)
  refine lv_iinc (v := 10) (lv' := [(2, .int 10), (4, .int 0), (3, .int 0), (0, .ref h0), (1, .int 0)]) hx hb dX6_gather_96 hl (k := 2) rfl (by decide) (by decide) rfl (fun ls hl => ?_)
  refine lv_goto (tgt := 33) hx hb dX6_gather_99 (by decide) ?_
  refine lv_iload_n hx hb dX6_gather_33 rfl (lv_at hl 0 rfl) ?_
  refine lv_bipush (v := 24) hx hb dX6_gather_34 (by decide) ?_
  refine lv_icmp_gt (tgt := 102) hx hb dX6_gather_36 (by decide) (fun c9 => absurd c9 (by decide)) (fun _ => ?_)
  refine lv_iload_n hx hb dX6_gather_39 rfl (lv_at hl 4 rfl) ?_
  refine lv_iload_n hx hb dX6_gather_40 rfl (lv_at hl 0 rfl) ?_
  refine lv_iushr (v := 0) hx hb dX6_gather_41 (by decide) ?_
  refine lv_iconst (v := 1) hx hb dX6_gather_42 (by decide) ?_
  refine lv_iand hx hb dX6_gather_43 ?_
  refine k_topi (y := 0) (by decide) ?_
  refine lv_iconst (v := 1) hx hb dX6_gather_44 (by decide) ?_
  refine lv_icmp_ne (tgt := 60) hx hb dX6_gather_45 (by decide) (fun _ => ?_) (fun c9 => absurd c9 (by decide))
  refine lv_iconst (v := 0) hx hb dX6_gather_60 (by decide) ?_
  refine lv_istore_n (lv' := [(3, .int 0), (2, .int 10), (4, .int 0), (0, .ref h0), (1, .int 0)]) hx hb dX6_gather_61 rfl hl (by decide) rfl (fun ls hl => ?_)
  refine lv_iconst (v := 0) hx hb dX6_gather_62 (by decide) ?_
  refine lv_istore (lv' := [(4, .int 0), (3, .int 0), (2, .int 10), (0, .ref h0), (1, .int 0)]) hx hb dX6_gather_63 hl (by decide) rfl (fun ls hl => ?_)
  refine lv_iload hx hb dX6_gather_65 (lv_at hl 0 rfl) ?_
  refine lv_iload_n hx hb dX6_gather_67 rfl (lv_at hl 1 rfl) ?_
  refine lv_icmp_ge (tgt := 96) hx hb dX6_gather_68 (by decide) (fun _ => ?_) (fun c9 => absurd (by decide) c9)
  refine lv_iinc (v := 11) (lv' := [(2, .int 11), (4, .int 0), (3, .int 0), (0, .ref h0), (1, .int 0)]) hx hb dX6_gather_96 hl (k := 2) rfl (by decide) (by decide) rfl (fun ls hl => ?_)
  refine lv_goto (tgt := 33) hx hb dX6_gather_99 (by decide) ?_
  refine lv_iload_n hx hb dX6_gather_33 rfl (lv_at hl 0 rfl) ?_
  refine lv_bipush (v := 24) hx hb dX6_gather_34 (by decide) ?_
  refine lv_icmp_gt (tgt := 102) hx hb dX6_gather_36 (by decide) (fun c9 => absurd c9 (by decide)) (fun _ => ?_)
  refine lv_iload_n hx hb dX6_gather_39 rfl (lv_at hl 4 rfl) ?_
  refine lv_iload_n hx hb dX6_gather_40 rfl (lv_at hl 0 rfl) ?_
  refine lv_iushr (v := 0) hx hb dX6_gather_41 (by decide) ?_
  refine lv_iconst (v := 1) hx hb dX6_gather_42 (by decide) ?_
  refine lv_iand hx hb dX6_gather_43 ?_
  refine k_topi (y := 0) (by decide) ?_
  refine lv_iconst (v := 1) hx hb dX6_gather_44 (by decide) ?_
  refine lv_icmp_ne (tgt := 60) hx hb dX6_gather_45 (by decide) (fun _ => ?_) (fun c9 => absurd c9 (by decide))
  refine lv_iconst (v := 0) hx hb dX6_gather_60 (by decide) ?_
  refine lv_istore_n (lv' := [(3, .int 0), (2, .int 11), (4, .int 0), (0, .ref h0), (1, .int 0)]) hx hb dX6_gather_61 rfl hl (by decide) rfl (fun ls hl => ?_)
  refine lv_iconst (v := 0) hx hb dX6_gather_62 (by decide) ?_
  refine lv_istore (lv' := [(4, .int 0), (3, .int 0), (2, .int 11), (0, .ref h0), (1, .int 0)]) hx hb dX6_gather_63 hl (by decide) rfl (fun ls hl => ?_)
  refine lv_iload hx hb dX6_gather_65 (lv_at hl 0 rfl) ?_
  refine lv_iload_n hx hb dX6_gather_67 rfl (lv_at hl 1 rfl) ?_
  refine lv_icmp_ge (tgt := 96) hx hb dX6_gather_68 (by decide) (fun _ => ?_) (fun c9 => absurd (by decide) c9)
  refine lv_iinc (v := 12) (lv' := [(2, .int 12), (4, .int 0), (3, .int 0), (0, .ref h0), (1, .int 0)]) hx hb dX6_gather_96 hl (k := 2) rfl (by decide) (by decide) rfl (fun ls hl => ?_)
  refine lv_goto (tgt := 33) hx hb dX6_gather_99 (by decide) ?_
  refine lv_iload_n hx hb dX6_gather_33 rfl (lv_at hl 0 rfl) ?_
  refine lv_bipush (v := 24) hx hb dX6_gather_34 (by decide) ?_
  refine lv_icmp_gt (tgt := 102) hx hb dX6_gather_36 (by decide) (fun c9 => absurd c9 (by decide)) (fun _ => ?_)
  refine lv_iload_n hx hb dX6_gather_39 rfl (lv_at hl 4 rfl) ?_
  refine lv_iload_n hx hb dX6_gather_40 rfl (lv_at hl 0 rfl) ?_
  refine lv_iushr (v := 0) hx hb dX6_gather_41 (by decide) ?_
  refine lv_iconst (v := 1) hx hb dX6_gather_42 (by decide) ?_
  refine lv_iand hx hb dX6_gather_43 ?_
  refine k_topi (y := 0) (by decide) ?_
  refine lv_iconst (v := 1) hx hb dX6_gather_44 (by decide) ?_
  refine lv_icmp_ne (tgt := 60) hx hb dX6_gather_45 (by decide) (fun _ => ?_) (fun c9 => absurd c9 (by decide))
  refine lv_iconst (v := 0) hx hb dX6_gather_60 (by decide) ?_
  refine lv_istore_n (lv' := [(3, .int 0), (2, .int 12), (4, .int 0), (0, .ref h0), (1, .int 0)]) hx hb dX6_gather_61 rfl hl (by decide) rfl (fun ls hl => ?_)
  refine lv_iconst (v := 0) hx hb dX6_gather_62 (by decide) ?_
  refine lv_istore (lv' := [(4, .int 0), (3, .int 0), (2, .int 12), (0, .ref h0), (1, .int 0)]) hx hb dX6_gather_63 hl (by decide) rfl (fun ls hl => ?_)
  refine lv_iload hx hb dX6_gather_65 (lv_at hl 0 rfl) ?_
  refine lv_iload_n hx hb dX6_gather_67 rfl (lv_at hl 1 rfl) ?_
  refine lv_icmp_ge (tgt := 96) hx hb dX6_gather_68 (by decide) (fun _ => ?_) (fun c9 => absurd (by decide) c9)
  refine lv_iinc (v := 13) (lv' := [(2, .int 13), (4, .int 0), (3, .int 0), (0, .ref h0), (1, .int 0)]) hx hb dX6_gather_96 hl (k := 2) rfl (by decide) (by decide) rfl (fun ls hl => ?_)
  refine lv_goto (tgt := 33) hx hb dX6_gather_99 (by decide) ?_
  refine lv_iload_n hx hb dX6_gather_33 rfl (lv_at hl 0 rfl) ?_
  refine lv_bipush (v := 24) hx hb dX6_gather_34 (by decide) ?_
  refine lv_icmp_gt (tgt := 102) hx hb dX6_gather_36 (by decide) (fun c9 => absurd c9 (by decide)) (fun _ => ?_)
  refine lv_iload_n hx hb dX6_gather_39 rfl (lv_at hl 4 rfl) ?_
  refine lv_iload_n hx hb dX6_gather_40 rfl (lv_at hl 0 rfl) ?_
  refine lv_iushr (v := 0) hx hb dX6_gather_41 (by decide) ?_
  refine lv_iconst (v := 1) hx hb dX6_gather_42 (by decide) ?_
  refine lv_iand hx hb dX6_gather_43 ?_
  refine k_topi (y := 0) (by decide) ?_
  refine lv_iconst (v := 1) hx hb dX6_gather_44 (by decide) ?_
  refine lv_icmp_ne (tgt := 60) hx hb dX6_gather_45 (by decide) (fun _ => ?_) (fun c9 => absurd c9 (by decide))
  refine lv_iconst (v := 0) hx hb dX6_gather_60 (by decide) ?_
  refine lv_istore_n (lv' := [(3, .int 0), (2, .int 13), (4, .int 0), (0, .ref h0), (1, .int 0)]) hx hb dX6_gather_61 rfl hl (by decide) rfl (fun ls hl => ?_)
  refine lv_iconst (v := 0) hx hb dX6_gather_62 (by decide) ?_
  refine lv_istore (lv' := [(4, .int 0), (3, .int 0), (2, .int 13), (0, .ref h0), (1, .int 0)]) hx hb dX6_gather_63 hl (by decide) rfl (fun ls hl => ?_)
  refine lv_iload hx hb dX6_gather_65 (lv_at hl 0 rfl) ?_
  refine lv_iload_n hx hb dX6_gather_67 rfl (lv_at hl 1 rfl) ?_
  refine lv_icmp_ge (tgt := 96) hx hb dX6_gather_68 (by decide) (fun _ => ?_) (fun c9 => absurd (by decide) c9)
  refine lv_iinc (v := 14) (lv' := [(2, .int 14), (4, .int 0), (3, .int 0), (0, .ref h0), (1, .int 0)]) hx hb dX6_gather_96 hl (k := 2) rfl (by decide) (by decide) rfl (fun ls hl => ?_)
  refine lv_goto (tgt := 33) hx hb dX6_gather_99 (by decide) ?_
  refine lv_iload_n hx hb dX6_gather_33 rfl (lv_at hl 0 rfl) ?_
  refine lv_bipush (v := 24) hx hb dX6_gather_34 (by decide) ?_
  refine lv_icmp_gt (tgt := 102) hx hb dX6_gather_36 (by decide) (fun c9 => absurd c9 (by decide)) (fun _ => ?_)
  refine lv_iload_n hx hb dX6_gather_39 rfl (lv_at hl 4 rfl) ?_
  refine lv_iload_n hx hb dX6_gather_40 rfl (lv_at hl 0 rfl) ?_
  refine lv_iushr (v := 0) hx hb dX6_gather_41 (by decide) ?_
  refine lv_iconst (v := 1) hx hb dX6_gather_42 (by decide) ?_
  refine lv_iand hx hb dX6_gather_43 ?_
  refine k_topi (y := 0) (by decide) ?_
  refine lv_iconst (v := 1) hx hb dX6_gather_44 (by decide) ?_
  refine lv_icmp_ne (tgt := 60) hx hb dX6_gather_45 (by decide) (fun _ => ?_) (fun c9 => absurd c9 (by decide))
  refine lv_iconst (v := 0) hx hb dX6_gather_60 (by decide) ?_
  refine lv_istore_n (lv' := [(3, .int 0), (2, .int 14), (4, .int 0), (0, .ref h0), (1, .int 0)]) hx hb dX6_gather_61 rfl hl (by decide) rfl (fun ls hl => ?_)
  refine lv_iconst (v := 0) hx hb dX6_gather_62 (by decide) ?_
  refine lv_istore (lv' := [(4, .int 0), (3, .int 0), (2, .int 14), (0, .ref h0), (1, .int 0)]) hx hb dX6_gather_63 hl (by decide) rfl (fun ls hl => ?_)
  refine lv_iload hx hb dX6_gather_65 (lv_at hl 0 rfl) ?_
  refine lv_iload_n hx hb dX6_gather_67 rfl (lv_at hl 1 rfl) ?_
  refine lv_icmp_ge (tgt := 96) hx hb dX6_gather_68 (by decide) (fun _ => ?_) (fun c9 => absurd (by decide) c9)
  refine lv_iinc (v := 15) (lv' := [(2, .int 15), (4, .int 0), (3, .int 0), (0, .ref h0), (1, .int 0)]) hx hb dX6_gather_96 hl (k := 2) rfl (by decide) (by decide) rfl (fun ls hl => ?_)
  refine lv_goto (tgt := 33) hx hb dX6_gather_99 (by decide) ?_
  refine lv_iload_n hx hb dX6_gather_33 rfl (lv_at hl 0 rfl) ?_
  refine lv_bipush (v := 24) hx hb dX6_gather_34 (by decide) ?_
  refine lv_icmp_gt (tgt := 102) hx hb dX6_gather_36 (by decide) (fun c9 => absurd c9 (by decide)) (fun _ => ?_)
  refine lv_iload_n hx hb dX6_gather_39 rfl (lv_at hl 4 rfl) ?_
  refine lv_iload_n hx hb dX6_gather_40 rfl (lv_at hl 0 rfl) ?_
  refine lv_iushr (v := 0) hx hb dX6_gather_41 (by decide) ?_
  refine lv_iconst (v := 1) hx hb dX6_gather_42 (by decide) ?_
  refine lv_iand hx hb dX6_gather_43 ?_
  refine k_topi (y := 0) (by decide) ?_
  refine lv_iconst (v := 1) hx hb dX6_gather_44 (by decide) ?_
  refine lv_icmp_ne (tgt := 60) hx hb dX6_gather_45 (by decide) (fun _ => ?_) (fun c9 => absurd c9 (by decide))
  refine lv_iconst (v := 0) hx hb dX6_gather_60 (by decide) ?_
  refine lv_istore_n (lv' := [(3, .int 0), (2, .int 15), (4, .int 0), (0, .ref h0), (1, .int 0)]) hx hb dX6_gather_61 rfl hl (by decide) rfl (fun ls hl => ?_)
  refine lv_iconst (v := 0) hx hb dX6_gather_62 (by decide) ?_
  refine lv_istore (lv' := [(4, .int 0), (3, .int 0), (2, .int 15), (0, .ref h0), (1, .int 0)]) hx hb dX6_gather_63 hl (by decide) rfl (fun ls hl => ?_)
  refine lv_iload hx hb dX6_gather_65 (lv_at hl 0 rfl) ?_
  refine lv_iload_n hx hb dX6_gather_67 rfl (lv_at hl 1 rfl) ?_
  refine lv_icmp_ge (tgt := 96) hx hb dX6_gather_68 (by decide) (fun _ => ?_) (fun c9 => absurd (by decide) c9)
  refine lv_iinc (v := 16) (lv' := [(2, .int 16), (4, .int 0), (3, .int 0), (0, .ref h0), (1, .int 0)]) hx hb dX6_gather_96 hl (k := 2) rfl (by decide) (by decide) rfl (fun ls hl => ?_)
  refine lv_goto (tgt := 33) hx hb dX6_gather_99 (by decide) ?_
  refine lv_iload_n hx hb dX6_gather_33 rfl (lv_at hl 0 rfl) ?_
  refine lv_bipush (v := 24) hx hb dX6_gather_34 (by decide) ?_
  refine lv_icmp_gt (tgt := 102) hx hb dX6_gather_36 (by decide) (fun c9 => absurd c9 (by decide)) (fun _ => ?_)
  refine lv_iload_n hx hb dX6_gather_39 rfl (lv_at hl 4 rfl) ?_
  refine lv_iload_n hx hb dX6_gather_40 rfl (lv_at hl 0 rfl) ?_
  refine lv_iushr (v := 0) hx hb dX6_gather_41 (by decide) ?_
  refine lv_iconst (v := 1) hx hb dX6_gather_42 (by decide) ?_
  refine lv_iand hx hb dX6_gather_43 ?_
  refine k_topi (y := 0) (by decide) ?_
  refine lv_iconst (v := 1) hx hb dX6_gather_44 (by decide) ?_
  refine lv_icmp_ne (tgt := 60) hx hb dX6_gather_45 (by decide) (fun _ => ?_) (fun c9 => absurd c9 (by decide))
  refine lv_iconst (v := 0) hx hb dX6_gather_60 (by decide) ?_
  refine lv_istore_n (lv' := [(3, .int 0), (2, .int 16), (4, .int 0), (0, .ref h0), (1, .int 0)]) hx hb dX6_gather_61 rfl hl (by decide) rfl (fun ls hl => ?_)
  refine lv_iconst (v := 0) hx hb dX6_gather_62 (by decide) ?_
  refine lv_istore (lv' := [(4, .int 0), (3, .int 0), (2, .int 16), (0, .ref h0), (1, .int 0)]) hx hb dX6_gather_63 hl (by decide) rfl (fun ls hl => ?_)
  refine lv_iload hx hb dX6_gather_65 (lv_at hl 0 rfl) ?_
  refine lv_iload_n hx hb dX6_gather_67 rfl (lv_at hl 1 rfl) ?_
  refine lv_icmp_ge (tgt := 96) hx hb dX6_gather_68 (by decide) (fun _ => ?_) (fun c9 => absurd (by decide) c9)
  refine lv_iinc (v := 17) (lv' := [(2, .int 17), (4, .int 0), (3, .int 0), (0, .ref h0), (1, .int 0)]) hx hb dX6_gather_96 hl (k := 2) rfl (by decide) (by decide) rfl (fun ls hl => ?_)
  refine lv_goto (tgt := 33) hx hb dX6_gather_99 (by decide) ?_
  refine lv_iload_n hx hb dX6_gather_33 rfl (lv_at hl 0 rfl) ?_
  refine lv_bipush (v := 24) hx hb dX6_gather_34 (by decide) ?_
  refine lv_icmp_gt (tgt := 102) hx hb dX6_gather_36 (by decide) (fun c9 => absurd c9 (by decide)) (fun _ => ?_)
  refine lv_iload_n hx hb dX6_gather_39 rfl (lv_at hl 4 rfl) ?_
  refine lv_iload_n hx hb dX6_gather_40 rfl (lv_at hl 0 rfl) ?_
  refine lv_iushr (v := 0) hx hb dX6_gather_41 (by decide) ?_
  refine lv_iconst (v := 1) hx hb dX6_gather_42 (by decide) ?_
  refine lv_iand hx hb dX6_gather_43 ?_
  refine k_topi (y := 0) (by decide) ?_
  refine lv_iconst (v := 1) hx hb dX6_gather_44 (by decide) ?_
  refine lv_icmp_ne (tgt := 60) hx hb dX6_gather_45 (by decide) (fun _ => ?_) (fun c9 => absurd c9 (by decide))
  refine lv_iconst (v := 0) hx hb dX6_gather_60 (by decide) ?_
  refine lv_istore_n (lv' := [(3, .int 0), (2, .int 17), (4, .int 0), (0, .ref h0), (1, .int 0)]) hx hb dX6_gather_61 rfl hl (by decide) rfl (fun ls hl => ?_)
  refine lv_iconst (v := 0) hx hb dX6_gather_62 (by decide) ?_
  refine lv_istore (lv' := [(4, .int 0), (3, .int 0), (2, .int 17), (0, .ref h0), (1, .int 0)]) hx hb dX6_gather_63 hl (by decide) rfl (fun ls hl => ?_)
  refine lv_iload hx hb dX6_gather_65 (lv_at hl 0 rfl) ?_
  refine lv_iload_n hx hb dX6_gather_67 rfl (lv_at hl 1 rfl) ?_
  refine lv_icmp_ge (tgt := 96) hx hb dX6_gather_68 (by decide) (fun _ => ?_) (fun c9 => absurd (by decide) c9)
  refine lv_iinc (v := 18) (lv' := [(2, .int 18), (4, .int 0), (3, .int 0), (0, .ref h0), (1, .int 0)]) hx hb dX6_gather_96 hl (k := 2) rfl (by decide) (by decide) rfl (fun ls hl => ?_)
  refine lv_goto (tgt := 33) hx hb dX6_gather_99 (by decide) ?_
  refine lv_iload_n hx hb dX6_gather_33 rfl (lv_at hl 0 rfl) ?_
  refine lv_bipush (v := 24) hx hb dX6_gather_34 (by decide) ?_
  refine lv_icmp_gt (tgt := 102) hx hb dX6_gather_36 (by decide) (fun c9 => absurd c9 (by decide)) (fun _ => ?_)
  refine lv_iload_n hx hb dX6_gather_39 rfl (lv_at hl 4 rfl) ?_
  refine lv_iload_n hx hb dX6_gather_40 rfl (lv_at hl 0 rfl) ?_
  refine lv_iushr (v := 0) hx hb dX6_gather_41 (by decide) ?_
  refine lv_iconst (v := 1) hx hb dX6_gather_42 (by decide) ?_
  refine lv_iand hx hb dX6_gather_43 ?_
  refine k_topi (y := 0) (by decide) ?_
  refine lv_iconst (v := 1) hx hb dX6_gather_44 (by decide) ?_
  refine lv_icmp_ne (tgt := 60) hx hb dX6_gather_45 (by decide) (fun _ => ?_) (fun c9 => absurd c9 (by decide))
  refine lv_iconst (v := 0) hx hb dX6_gather_60 (by decide) ?_
  refine lv_istore_n (lv' := [(3, .int 0), (2, .int 18), (4, .int 0), (0, .ref h0), (1, .int 0)]) hx hb dX6_gather_61 rfl hl (by decide) rfl (fun ls hl => ?_)
  refine lv_iconst (v := 0) hx hb dX6_gather_62 (by decide) ?_
  refine lv_istore (lv' := [(4, .int 0), (3, .int 0), (2, .int 18), (0, .ref h0), (1, .int 0)]) hx hb dX6_gather_63 hl (by decide) rfl (fun ls hl => ?_)
  refine lv_iload hx hb dX6_gather_65 (lv_at hl 0 rfl) ?_
  refine lv_iload_n hx hb dX6_gather_67 rfl (lv_at hl 1 rfl) ?_
  refine lv_icmp_ge (tgt := 96) hx hb dX6_gather_68 (by decide) (fun _ => ?_) (fun c9 => absurd (by decide) c9)
  refine lv_iinc (v := 19) (lv' := [(2, .int 19), (4, .int 0), (3, .int 0), (0, .ref h0), (1, .int 0)]) hx hb dX6_gather_96 hl (k := 2) rfl (by decide) (by decide) rfl (fun ls hl => ?_)
  refine lv_goto (tgt := 33) hx hb dX6_gather_99 (by decide) ?_
  refine lv_iload_n hx hb dX6_gather_33 rfl (lv_at hl 0 rfl) ?_
  refine lv_bipush (v := 24) hx hb dX6_gather_34 (by decide) ?_
  refine lv_icmp_gt (tgt := 102) hx hb dX6_gather_36 (by decide) (fun c9 => absurd c9 (by decide)) (fun _ => ?_)
  refine lv_iload_n hx hb dX6_gather_39 rfl (lv_at hl 4 rfl) ?_
  refine lv_iload_n hx hb dX6_gather_40 rfl (lv_at hl 0 rfl) ?_
  refine lv_iushr (v := 0) hx hb dX6_gather_41 (by decide) ?_
  refine lv_iconst (v := 1) hx hb dX6_gather_42 (by decide) ?_
  refine lv_iand hx hb dX6_gather_43 ?_
  refine k_topi (y := 0) (by decide) ?_
  refine lv_iconst (v := 1) hx hb dX6_gather_44 (by decide) ?_
  refine lv_icmp_ne (tgt := 60) hx hb dX6_gather_45 (by decide) (fun _ => ?_) (fun c9 => absurd c9 (by decide))
  refine lv_iconst (v := 0) hx hb dX6_gather_60 (by decide) ?_
  refine lv_istore_n (lv' := [(3, .int 0), (2, .int 19), (4, .int 0), (0, .ref h0), (1, .int 0)]) hx hb dX6_gather_61 rfl hl (by decide) rfl (fun ls hl => ?_)
  refine lv_iconst (v := 0) hx hb dX6_gather_62 (by decide) ?_
  refine lv_istore (lv' := [(4, .int 0), (3, .int 0), (2, .int 19), (0, .ref h0), (1, .int 0)]) hx hb dX6_gather_63 hl (by decide) rfl (fun ls hl => ?_)
  refine lv_iload hx hb dX6_gather_65 (lv_at hl 0 rfl) ?_
  refine lv_iload_n hx hb dX6_gather_67 rfl (lv_at hl 1 rfl) ?_
  refine lv_icmp_ge (tgt := 96) hx hb dX6_gather_68 (by decide) (fun _ => ?_) (fun c9 => absurd (by decide) c9)
  refine lv_iinc (v := 20) (lv' := [(2, .int 20), (4, .int 0), (3, .int 0), (0, .ref h0), (1, .int 0)]) hx hb dX6_gather_96 hl (k := 2) rfl (by decide) (by decide) rfl (fun ls hl => ?_)
  refine lv_goto (tgt := 33) hx hb dX6_gather_99 (by decide) ?_
  refine lv_iload_n hx hb dX6_gather_33 rfl (lv_at hl 0 rfl) ?_
  refine lv_bipush (v := 24) hx hb dX6_gather_34 (by decide) ?_
  refine lv_icmp_gt (tgt := 102) hx hb dX6_gather_36 (by decide) (fun c9 => absurd c9 (by decide)) (fun _ => ?_)
  refine lv_iload_n hx hb dX6_gather_39 rfl (lv_at hl 4 rfl) ?_
  refine lv_iload_n hx hb dX6_gather_40 rfl (lv_at hl 0 rfl) ?_
  refine lv_iushr (v := 0) hx hb dX6_gather_41 (by decide) ?_
  refine lv_iconst (v := 1) hx hb dX6_gather_42 (by decide) ?_
  refine lv_iand hx hb dX6_gather_43 ?_
  refine k_topi (y := 0) (by decide) ?_
  refine lv_iconst (v := 1) hx hb dX6_gather_44 (by decide) ?_
  refine lv_icmp_ne (tgt := 60) hx hb dX6_gather_45 (by decide) (fun _ => ?_) (fun c9 => absurd c9 (by decide))
  refine lv_iconst (v := 0) hx hb dX6_gather_60 (by decide) ?_
  refine lv_istore_n (lv' := [(3, .int 0), (2, .int 20), (4, .int 0), (0, .ref h0), (1, .int 0)]) hx hb dX6_gather_61 rfl hl (by decide) rfl (fun ls hl => ?_)
  refine lv_iconst (v := 0) hx hb dX6_gather_62 (by decide) ?_
  refine lv_istore (lv' := [(4, .int 0), (3, .int 0), (2, .int 20), (0, .ref h0), (1, .int 0)]) hx hb dX6_gather_63 hl (by decide) rfl (fun ls hl => ?_)
  refine lv_iload hx hb dX6_gather_65 (lv_at hl 0 rfl) ?_
  refine lv_iload_n hx hb dX6_gather_67 rfl (lv_at hl 1 rfl) ?_
  refine lv_icmp_ge (tgt := 96) hx hb dX6_gather_68 (by decide) (fun _ => ?_) (fun c9 => absurd (by decide) c9)
  refine lv_iinc (v := 21) (lv' := [(2, .int 21), (4, .int 0), (3, .int 0), (0, .ref h0), (1, .int 0)]) hx hb dX6_gather_96 hl (k := 2) rfl (by decide) (by decide) rfl (fun ls hl => ?_)
  refine lv_goto (tgt := 33) hx hb dX6_gather_99 (by decide) ?_
  refine lv_iload_n hx hb dX6_gather_33 rfl (lv_at hl 0 rfl) ?_
  refine lv_bipush (v := 24) hx hb dX6_gather_34 (by decide) ?_
  refine lv_icmp_gt (tgt := 102) hx hb dX6_gather_36 (by decide) (fun c9 => absurd c9 (by decide)) (fun _ => ?_)
  refine lv_iload_n hx hb dX6_gather_39 rfl (lv_at hl 4 rfl) ?_
  refine lv_iload_n hx hb dX6_gather_40 rfl (lv_at hl 0 rfl) ?_
  refine lv_iushr (v := 0) hx hb dX6_gather_41 (by decide) ?_
  refine lv_iconst (v := 1) hx hb dX6_gather_42 (by decide) ?_
  refine lv_iand hx hb dX6_gather_43 ?_
  refine k_topi (y := 0) (by decide) ?_
  refine lv_iconst (v := 1) hx hb dX6_gather_44 (by decide) ?_
  refine lv_icmp_ne (tgt := 60) hx hb dX6_gather_45 (by decide) (fun _ => ?_) (fun c9 => absurd c9 (by decide))
  refine lv_iconst (v := 0) hx hb dX6_gather_60 (by decide) ?_
  refine lv_istore_n (lv' := [(3, .int 0), (2, .int 21), (4, .int 0), (0, .ref h0), (1, .int 0)]) hx hb dX6_gather_61 rfl hl (by decide) rfl (fun ls hl => ?_)
  refine lv_iconst (v := 0) hx hb dX6_gather_62 (by decide) ?_
  refine lv_istore (lv' := [(4, .int 0), (3, .int 0), (2, .int 21), (0, .ref h0), (1, .int 0)]) hx hb dX6_gather_63 hl (by decide) rfl (fun ls hl => ?_)
  refine lv_iload hx hb dX6_gather_65 (lv_at hl 0 rfl) ?_
  refine lv_iload_n hx hb dX6_gather_67 rfl (lv_at hl 1 rfl) ?_
  refine lv_icmp_ge (tgt := 96) hx hb dX6_gather_68 (by decide) (fun _ => ?_) (fun c9 => absurd (by decide) c9)
  refine lv_iinc (v := 22) (lv' := [(2, .int 22), (4, .int 0), (3, .int 0), (0, .ref h0), (1, .int 0)]) hx hb dX6_gather_96 hl (k := 2) rfl (by decide) (by decide) rfl (fun ls hl => ?_)
  refine lv_goto (tgt := 33) hx hb dX6_gather_99 (by decide) ?_
  refine lv_iload_n hx hb dX6_gather_33 rfl (lv_at hl 0 rfl) ?_
  refine lv_bipush (v := 24) hx hb dX6_gather_34 (by decide) ?_
  refine lv_icmp_gt (tgt := 102) hx hb dX6_gather_36 (by decide) (fun c9 => absurd c9 (by decide)) (fun _ => ?_)
  refine lv_iload_n hx hb dX6_gather_39 rfl (lv_at hl 4 rfl) ?_
  refine lv_iload_n hx hb dX6_gather_40 rfl (lv_at hl 0 rfl) ?_
  refine lv_iushr (v := 0) hx hb dX6_gather_41 (by decide) ?_
  refine lv_iconst (v := 1) hx hb dX6_gather_42 (by decide) ?_
  refine lv_iand hx hb dX6_gather_43 ?_
  refine k_topi (y := 0) (by decide) ?_
  refine lv_iconst (v := 1) hx hb dX6_gather_44 (by decide) ?_
  refine lv_icmp_ne (tgt := 60) hx hb dX6_gather_45 (by decide) (fun _ => ?_) (fun c9 => absurd c9 (by decide))
  refine lv_iconst (v := 0) hx hb dX6_gather_60 (by decide) ?_
  refine lv_istore_n (lv' := [(3, .int 0), (2, .int 22), (4, .int 0), (0, .ref h0), (1, .int 0)]) hx hb dX6_gather_61 rfl hl (by decide) rfl (fun ls hl => ?_)
  refine lv_iconst (v := 0) hx hb dX6_gather_62 (by decide) ?_
  refine lv_istore (lv' := [(4, .int 0), (3, .int 0), (2, .int 22), (0, .ref h0), (1, .int 0)]) hx hb dX6_gather_63 hl (by decide) rfl (fun ls hl => ?_)
  refine lv_iload hx hb dX6_gather_65 (lv_at hl 0 rfl) ?_
  refine lv_iload_n hx hb dX6_gather_67 rfl (lv_at hl 1 rfl) ?_
  refine lv_icmp_ge (tgt := 96) hx hb dX6_gather_68 (by decide) (fun _ => ?_) (fun c9 => absurd (by decide) c9)
  refine lv_iinc (v := 23) (lv' := [(2, .int 23), (4, .int 0), (3, .int 0), (0, .ref h0), (1, .int 0)]) hx hb dX6_gather_96 hl (k := 2) rfl (by decide) (by decide) rfl (fun ls hl => ?_)
  refine lv_goto (tgt := 33) hx hb dX6_gather_99 (by decide) ?_
  refine lv_iload_n hx hb dX6_gather_33 rfl (lv_at hl 0 rfl) ?_
  refine lv_bipush (v := 24) hx hb dX6_gather_34 (by decide) ?_
  refine lv_icmp_gt (tgt := 102) hx hb dX6_gather_36 (by decide) (fun c9 => absurd c9 (by decide)) (fun _ => ?_)
  refine lv_iload_n hx hb dX6_gather_39 rfl (lv_at hl 4 rfl) ?_
  refine lv_iload_n hx hb dX6_gather_40 rfl (lv_at hl 0 rfl) ?_
  refine lv_iushr (v := 0) hx hb dX6_gather_41 (by decide) ?_
  refine lv_iconst (v := 1) hx hb dX6_gather_42 (by decide) ?_
  refine lv_iand hx hb dX6_gather_43 ?_
  refine k_topi (y := 0) (by decide) ?_
  refine lv_iconst (v := 1) hx hb dX6_gather_44 (by decide) ?_
  refine lv_icmp_ne (tgt := 60) hx hb dX6_gather_45 (by decide) (fun _ => ?_) (fun c9 => absurd c9 (by decide))
  refine lv_iconst (v := 0) hx hb dX6_gather_60 (by decide) ?_
  refine lv_istore_n (lv' := [(3, .int 0), (2, .int 23), (4, .int 0), (0, .ref h0), (1, .int 0)]) hx hb dX6_gather_61 rfl hl (by decide) rfl (fun ls hl => ?_)
  refine lv_iconst (v := 0) hx hb dX6_gather_62 (by decide) ?_
  refine lv_istore (lv' := [(4, .int 0), (3, .int 0), (2, .int 23), (0, .ref h0), (1, .int 0)]) hx hb dX6_gather_63 hl (by decide) rfl (fun ls hl => ?_)
  refine lv_iload hx hb dX6_gather_65 (lv_at hl 0 rfl) ?_
  refine lv_iload_n hx hb dX6_gather_67 rfl (lv_at hl 1 rfl) ?_
  refine lv_icmp_ge (tgt := 96) hx hb dX6_gather_68 (by decide) (fun _ => ?_) (fun c9 => absurd (by decide) c9)
  refine lv_iinc (v := 24) (lv' := [(2, .int 24), (4, .int 0), (3, .int 0), (0, .ref h0), (1, .int 0)]) hx hb dX6_gather_96 hl (k := 2) rfl (by decide) (by decide) rfl (fun ls hl => ?_)
  refine lv_goto (tgt := 33) hx hb dX6_gather_99 (by decide) ?_
  refine lv_iload_n hx hb dX6_gather_33 rfl (lv_at hl 0 rfl) ?_
  refine lv_bipush (v := 24) hx hb dX6_gather_34 (by decide) ?_
  refine lv_icmp_gt (tgt := 102) hx hb dX6_gather_36 (by decide) (fun c9 => absurd c9 (by decide)) (fun _ => ?_)
  refine lv_iload_n hx hb dX6_gather_39 rfl (lv_at hl 4 rfl) ?_
  refine lv_iload_n hx hb dX6_gather_40 rfl (lv_at hl 0 rfl) ?_
  refine lv_iushr (v := 0) hx hb dX6_gather_41 (by decide) ?_
  refine lv_iconst (v := 1) hx hb dX6_gather_42 (by decide) ?_
  refine lv_iand hx hb dX6_gather_43 ?_
  refine k_topi (y := 0) (by decide) ?_
  refine lv_iconst (v := 1) hx hb dX6_gather_44 (by decide) ?_
  refine lv_icmp_ne (tgt := 60) hx hb dX6_gather_45 (by decide) (fun _ => ?_) (fun c9 => absurd c9 (by decide))
  refine lv_iconst (v := 0) hx hb dX6_gather_60 (by decide) ?_
  refine lv_istore_n (lv' := [(3, .int 0), (2, .int 24), (4, .int 0), (0, .ref h0), (1, .int 0)]) hx hb dX6_gather_61 rfl hl (by decide) rfl (fun ls hl => ?_)
  refine lv_iconst (v := 0) hx hb dX6_gather_62 (by decide) ?_
  refine lv_istore (lv' := [(4, .int 0), (3, .int 0), (2, .int 24), (0, .ref h0), (1, .int 0)]) hx hb dX6_gather_63 hl (by decide) rfl (fun ls hl => ?_)
  refine lv_iload hx hb dX6_gather_65 (lv_at hl 0 rfl) ?_
  refine lv_iload_n hx hb dX6_gather_67 rfl (lv_at hl 1 rfl) ?_
  refine lv_icmp_ge (tgt := 96) hx hb dX6_gather_68 (by decide) (fun _ => ?_) (fun c9 => absurd (by decide) c9)
  refine lv_iinc (v := 25) (lv' := [(2, .int 25), (4, .int 0), (3, .int 0), (0, .ref h0), (1, .int 0)]) hx hb dX6_gather_96 hl (k := 2) rfl (by decide) (by decide) rfl (fun ls hl => ?_)
  refine lv_goto (tgt := 33) hx hb dX6_gather_99 (by decide) ?_
  refine lv_iload_n hx hb dX6_gather_33 rfl (lv_at hl 0 rfl) ?_
  refine lv_bipush (v := 24) hx hb dX6_gather_34 (by decide) ?_
  refine lv_icmp_gt (tgt := 102) hx hb dX6_gather_36 (by decide) (fun _ => ?_) (fun c9 => absurd (by decide) c9)
  refine lv_bipush (v := 24) hx hb dX6_gather_102 (by decide) ?_
  refine lv_istore_n (lv' := [(2, .int 24), (4, .int 0), (3, .int 0), (0, .ref h0), (1, .int 0)]) hx hb dX6_gather_104 rfl hl (by decide) rfl (fun ls hl => ?_)
  refine lv_iload_n hx hb dX6_gather_105 rfl (lv_at hl 0 rfl) ?_
  refine lv_if_lt (tgt := 150) hx hb dX6_gather_106 (by decide) (fun c9 => absurd c9 (by decide)) (fun _ => ?_)
  refine lv_aload_n hx hb dX6_gather_109 rfl (lv_at hl 3 rfl) ?_
  refine lv_dup hx hb dX6_gather_110 rfl ?_
  refine k_get (D := D) (ci := 6) (v := .int 0) (N := 14) hx hb hts hin6 hown hK hP 0 rfl rfl (by decide) f9_6_11 (hts (.fieldLink RX6 90 "IntegerHouse$Places" "needed" "I") (o9_X6_gather _ (List.mem_of_getElem? (i := 1) rfl))) (k_ne (by decide) (k_set (k_ne (by decide) e1))) dX6_gather_111 ?_
  refine lv_aload_n hx hb dX6_gather_114 rfl (lv_at hl 3 rfl) ?_
  refine k_get (D := D) (ci := 6) (v := .int 0) (N := 14) hx hb hts hin6 hown hK hP 0 rfl rfl (by decide) f9_6_11 (hts (.fieldLink RX6 90 "IntegerHouse$Places" "needed" "I") (o9_X6_gather _ (List.mem_of_getElem? (i := 1) rfl))) (k_ne (by decide) (k_set (k_ne (by decide) e1))) dX6_gather_115 ?_
  refine lv_iload_n hx hb dX6_gather_118 rfl (lv_at hl 0 rfl) ?_
  refine lv_iushr (v := 0) hx hb dX6_gather_119 (by decide) ?_
  refine lv_iconst (v := 1) hx hb dX6_gather_120 (by decide) ?_
  refine lv_iand hx hb dX6_gather_121 ?_
  refine k_topi (y := 0) (by decide) ?_
  refine lv_iconst (v := 1) hx hb dX6_gather_122 (by decide) ?_
  refine lv_icmp_ne (tgt := 139) hx hb dX6_gather_123 (by decide) (fun _ => ?_) (fun c9 => absurd c9 (by decide))
  refine lv_iconst (v := 0) hx hb dX6_gather_139 (by decide) ?_
  refine lv_ior hx hb dX6_gather_140 ?_
  refine k_topi (y := 0) (by decide) ?_
  refine k_put (D := D) (ci := 6) (v := .int 0) (ty := .int) (N := 14) hx hb hts hin6 tyX6 tyX6_ok nmX6 hown hK hP hD hS 0 rfl rfl (by decide) f9_6_11 (hts (.fieldLink RX6 90 "IntegerHouse$Places" "needed" "I") (o9_X6_gather _ (List.mem_of_getElem? (i := 1) rfl))) rfl pd_2 rfl rfl (k_len (k_ne (by decide) (k_set (k_ne (by decide) e1)))) dX6_gather_141 (fun H locs hP hD hS => ?_)
  have hP : va_P D vwCl [(h0, .inr (6, ((((f0.set 10 (.int 0)).set 11 (.int 0)).set 12 (.int 1)).set 11 (.int 0)))), (h1, .inr (2, f1))] H := hP
  have hD : va_D A [(h0, .inr (6, ((((f0.set 10 (.int 0)).set 11 (.int 0)).set 12 (.int 1)).set 11 (.int 0)))), (h1, .inr (2, f1))] := hD
  refine lv_iinc (v := 23) (lv' := [(2, .int 23), (4, .int 0), (3, .int 0), (0, .ref h0), (1, .int 0)]) hx hb dX6_gather_144 hl (k := 0) rfl (by decide) (by decide) rfl (fun ls hl => ?_)
  refine lv_goto (tgt := 105) hx hb dX6_gather_147 (by decide) ?_
  refine lv_iload_n hx hb dX6_gather_105 rfl (lv_at hl 0 rfl) ?_
  refine lv_if_lt (tgt := 150) hx hb dX6_gather_106 (by decide) (fun c9 => absurd c9 (by decide)) (fun _ => ?_)
  refine lv_aload_n hx hb dX6_gather_109 rfl (lv_at hl 3 rfl) ?_
  refine lv_dup hx hb dX6_gather_110 rfl ?_
  refine k_get (D := D) (ci := 6) (v := .int 0) (N := 14) hx hb hts hin6 hown hK hP 0 rfl rfl (by decide) f9_6_11 (hts (.fieldLink RX6 90 "IntegerHouse$Places" "needed" "I") (o9_X6_gather _ (List.mem_of_getElem? (i := 1) rfl))) (k_set (k_ne (by decide) (k_set (k_ne (by decide) e1)))) dX6_gather_111 ?_
  refine lv_aload_n hx hb dX6_gather_114 rfl (lv_at hl 3 rfl) ?_
  refine k_get (D := D) (ci := 6) (v := .int 0) (N := 14) hx hb hts hin6 hown hK hP 0 rfl rfl (by decide) f9_6_11 (hts (.fieldLink RX6 90 "IntegerHouse$Places" "needed" "I") (o9_X6_gather _ (List.mem_of_getElem? (i := 1) rfl))) (k_set (k_ne (by decide) (k_set (k_ne (by decide) e1)))) dX6_gather_115 ?_
  refine lv_iload_n hx hb dX6_gather_118 rfl (lv_at hl 0 rfl) ?_
  refine lv_iushr (v := 0) hx hb dX6_gather_119 (by decide) ?_
  refine lv_iconst (v := 1) hx hb dX6_gather_120 (by decide) ?_
  refine lv_iand hx hb dX6_gather_121 ?_
  refine k_topi (y := 0) (by decide) ?_
  refine lv_iconst (v := 1) hx hb dX6_gather_122 (by decide) ?_
  refine lv_icmp_ne (tgt := 139) hx hb dX6_gather_123 (by decide) (fun _ => ?_) (fun c9 => absurd c9 (by decide))
  refine lv_iconst (v := 0) hx hb dX6_gather_139 (by decide) ?_
  refine lv_ior hx hb dX6_gather_140 ?_
  refine k_topi (y := 0) (by decide) ?_
  refine k_put (D := D) (ci := 6) (v := .int 0) (ty := .int) (N := 14) hx hb hts hin6 tyX6 tyX6_ok nmX6 hown hK hP hD hS 0 rfl rfl (by decide) f9_6_11 (hts (.fieldLink RX6 90 "IntegerHouse$Places" "needed" "I") (o9_X6_gather _ (List.mem_of_getElem? (i := 1) rfl))) rfl pd_2 rfl rfl (k_len (k_set (k_ne (by decide) (k_set (k_ne (by decide) e1))))) dX6_gather_141 (fun H locs hP hD hS => ?_)
  have hP : va_P D vwCl [(h0, .inr (6, (((((f0.set 10 (.int 0)).set 11 (.int 0)).set 12 (.int 1)).set 11 (.int 0)).set 11 (.int 0)))), (h1, .inr (2, f1))] H := hP
  have hD : va_D A [(h0, .inr (6, (((((f0.set 10 (.int 0)).set 11 (.int 0)).set 12 (.int 1)).set 11 (.int 0)).set 11 (.int 0)))), (h1, .inr (2, f1))] := hD
  refine lv_iinc (v := 22) (lv' := [(2, .int 22), (4, .int 0), (3, .int 0), (0, .ref h0), (1, .int 0)]) hx hb dX6_gather_144 hl (k := 0) rfl (by decide) (by decide) rfl (fun ls hl => ?_)
  refine lv_goto (tgt := 105) hx hb dX6_gather_147 (by decide) ?_
  refine lv_iload_n hx hb dX6_gather_105 rfl (lv_at hl 0 rfl) ?_
  refine lv_if_lt (tgt := 150) hx hb dX6_gather_106 (by decide) (fun c9 => absurd c9 (by decide)) (fun _ => ?_)
  refine lv_aload_n hx hb dX6_gather_109 rfl (lv_at hl 3 rfl) ?_
  refine lv_dup hx hb dX6_gather_110 rfl ?_
  refine k_get (D := D) (ci := 6) (v := .int 0) (N := 14) hx hb hts hin6 hown hK hP 0 rfl rfl (by decide) f9_6_11 (hts (.fieldLink RX6 90 "IntegerHouse$Places" "needed" "I") (o9_X6_gather _ (List.mem_of_getElem? (i := 1) rfl))) (k_set (k_set (k_ne (by decide) (k_set (k_ne (by decide) e1))))) dX6_gather_111 ?_
  refine lv_aload_n hx hb dX6_gather_114 rfl (lv_at hl 3 rfl) ?_
  refine k_get (D := D) (ci := 6) (v := .int 0) (N := 14) hx hb hts hin6 hown hK hP 0 rfl rfl (by decide) f9_6_11 (hts (.fieldLink RX6 90 "IntegerHouse$Places" "needed" "I") (o9_X6_gather _ (List.mem_of_getElem? (i := 1) rfl))) (k_set (k_set (k_ne (by decide) (k_set (k_ne (by decide) e1))))) dX6_gather_115 ?_
  refine lv_iload_n hx hb dX6_gather_118 rfl (lv_at hl 0 rfl) ?_
  refine lv_iushr (v := 0) hx hb dX6_gather_119 (by decide) ?_
  refine lv_iconst (v := 1) hx hb dX6_gather_120 (by decide) ?_
  refine lv_iand hx hb dX6_gather_121 ?_
  refine k_topi (y := 0) (by decide) ?_
  refine lv_iconst (v := 1) hx hb dX6_gather_122 (by decide) ?_
  refine lv_icmp_ne (tgt := 139) hx hb dX6_gather_123 (by decide) (fun _ => ?_) (fun c9 => absurd c9 (by decide))
  refine lv_iconst (v := 0) hx hb dX6_gather_139 (by decide) ?_
  refine lv_ior hx hb dX6_gather_140 ?_
  refine k_topi (y := 0) (by decide) ?_
  refine k_put (D := D) (ci := 6) (v := .int 0) (ty := .int) (N := 14) hx hb hts hin6 tyX6 tyX6_ok nmX6 hown hK hP hD hS 0 rfl rfl (by decide) f9_6_11 (hts (.fieldLink RX6 90 "IntegerHouse$Places" "needed" "I") (o9_X6_gather _ (List.mem_of_getElem? (i := 1) rfl))) rfl pd_2 rfl rfl (k_len (k_set (k_set (k_ne (by decide) (k_set (k_ne (by decide) e1)))))) dX6_gather_141 (fun H locs hP hD hS => ?_)
  have hP : va_P D vwCl [(h0, .inr (6, ((((((f0.set 10 (.int 0)).set 11 (.int 0)).set 12 (.int 1)).set 11 (.int 0)).set 11 (.int 0)).set 11 (.int 0)))), (h1, .inr (2, f1))] H := hP
  have hD : va_D A [(h0, .inr (6, ((((((f0.set 10 (.int 0)).set 11 (.int 0)).set 12 (.int 1)).set 11 (.int 0)).set 11 (.int 0)).set 11 (.int 0)))), (h1, .inr (2, f1))] := hD
  refine lv_iinc (v := 21) (lv' := [(2, .int 21), (4, .int 0), (3, .int 0), (0, .ref h0), (1, .int 0)]) hx hb dX6_gather_144 hl (k := 0) rfl (by decide) (by decide) rfl (fun ls hl => ?_)
  refine lv_goto (tgt := 105) hx hb dX6_gather_147 (by decide) ?_
  refine lv_iload_n hx hb dX6_gather_105 rfl (lv_at hl 0 rfl) ?_
  refine lv_if_lt (tgt := 150) hx hb dX6_gather_106 (by decide) (fun c9 => absurd c9 (by decide)) (fun _ => ?_)
  refine lv_aload_n hx hb dX6_gather_109 rfl (lv_at hl 3 rfl) ?_
  refine lv_dup hx hb dX6_gather_110 rfl ?_
  refine k_get (D := D) (ci := 6) (v := .int 0) (N := 14) hx hb hts hin6 hown hK hP 0 rfl rfl (by decide) f9_6_11 (hts (.fieldLink RX6 90 "IntegerHouse$Places" "needed" "I") (o9_X6_gather _ (List.mem_of_getElem? (i := 1) rfl))) (k_set (k_set (k_set (k_ne (by decide) (k_set (k_ne (by decide) e1)))))) dX6_gather_111 ?_
  refine lv_aload_n hx hb dX6_gather_114 rfl (lv_at hl 3 rfl) ?_
  refine k_get (D := D) (ci := 6) (v := .int 0) (N := 14) hx hb hts hin6 hown hK hP 0 rfl rfl (by decide) f9_6_11 (hts (.fieldLink RX6 90 "IntegerHouse$Places" "needed" "I") (o9_X6_gather _ (List.mem_of_getElem? (i := 1) rfl))) (k_set (k_set (k_set (k_ne (by decide) (k_set (k_ne (by decide) e1)))))) dX6_gather_115 ?_
  refine lv_iload_n hx hb dX6_gather_118 rfl (lv_at hl 0 rfl) ?_
  refine lv_iushr (v := 0) hx hb dX6_gather_119 (by decide) ?_
  refine lv_iconst (v := 1) hx hb dX6_gather_120 (by decide) ?_
  refine lv_iand hx hb dX6_gather_121 ?_
  refine k_topi (y := 0) (by decide) ?_
  refine lv_iconst (v := 1) hx hb dX6_gather_122 (by decide) ?_
  refine lv_icmp_ne (tgt := 139) hx hb dX6_gather_123 (by decide) (fun _ => ?_) (fun c9 => absurd c9 (by decide))
  refine lv_iconst (v := 0) hx hb dX6_gather_139 (by decide) ?_
  refine lv_ior hx hb dX6_gather_140 ?_
  refine k_topi (y := 0) (by decide) ?_
  refine k_put (D := D) (ci := 6) (v := .int 0) (ty := .int) (N := 14) hx hb hts hin6 tyX6 tyX6_ok nmX6 hown hK hP hD hS 0 rfl rfl (by decide) f9_6_11 (hts (.fieldLink RX6 90 "IntegerHouse$Places" "needed" "I") (o9_X6_gather _ (List.mem_of_getElem? (i := 1) rfl))) rfl pd_2 rfl rfl (k_len (k_set (k_set (k_set (k_ne (by decide) (k_set (k_ne (by decide) e1))))))) dX6_gather_141 (fun H locs hP hD hS => ?_)
  have hP : va_P D vwCl [(h0, .inr (6, (((((((f0.set 10 (.int 0)).set 11 (.int 0)).set 12 (.int 1)).set 11 (.int 0)).set 11 (.int 0)).set 11 (.int 0)).set 11 (.int 0)))), (h1, .inr (2, f1))] H := hP
  have hD : va_D A [(h0, .inr (6, (((((((f0.set 10 (.int 0)).set 11 (.int 0)).set 12 (.int 1)).set 11 (.int 0)).set 11 (.int 0)).set 11 (.int 0)).set 11 (.int 0)))), (h1, .inr (2, f1))] := hD
  refine lv_iinc (v := 20) (lv' := [(2, .int 20), (4, .int 0), (3, .int 0), (0, .ref h0), (1, .int 0)]) hx hb dX6_gather_144 hl (k := 0) rfl (by decide) (by decide) rfl (fun ls hl => ?_)
  refine lv_goto (tgt := 105) hx hb dX6_gather_147 (by decide) ?_
  refine lv_iload_n hx hb dX6_gather_105 rfl (lv_at hl 0 rfl) ?_
  refine lv_if_lt (tgt := 150) hx hb dX6_gather_106 (by decide) (fun c9 => absurd c9 (by decide)) (fun _ => ?_)
  refine lv_aload_n hx hb dX6_gather_109 rfl (lv_at hl 3 rfl) ?_
  refine lv_dup hx hb dX6_gather_110 rfl ?_
  refine k_get (D := D) (ci := 6) (v := .int 0) (N := 14) hx hb hts hin6 hown hK hP 0 rfl rfl (by decide) f9_6_11 (hts (.fieldLink RX6 90 "IntegerHouse$Places" "needed" "I") (o9_X6_gather _ (List.mem_of_getElem? (i := 1) rfl))) (k_set (k_set (k_set (k_set (k_ne (by decide) (k_set (k_ne (by decide) e1))))))) dX6_gather_111 ?_
  refine lv_aload_n hx hb dX6_gather_114 rfl (lv_at hl 3 rfl) ?_
  refine k_get (D := D) (ci := 6) (v := .int 0) (N := 14) hx hb hts hin6 hown hK hP 0 rfl rfl (by decide) f9_6_11 (hts (.fieldLink RX6 90 "IntegerHouse$Places" "needed" "I") (o9_X6_gather _ (List.mem_of_getElem? (i := 1) rfl))) (k_set (k_set (k_set (k_set (k_ne (by decide) (k_set (k_ne (by decide) e1))))))) dX6_gather_115 ?_
  refine lv_iload_n hx hb dX6_gather_118 rfl (lv_at hl 0 rfl) ?_
  refine lv_iushr (v := 0) hx hb dX6_gather_119 (by decide) ?_
  refine lv_iconst (v := 1) hx hb dX6_gather_120 (by decide) ?_
  refine lv_iand hx hb dX6_gather_121 ?_
  refine k_topi (y := 0) (by decide) ?_
  refine lv_iconst (v := 1) hx hb dX6_gather_122 (by decide) ?_
  refine lv_icmp_ne (tgt := 139) hx hb dX6_gather_123 (by decide) (fun _ => ?_) (fun c9 => absurd c9 (by decide))
  refine lv_iconst (v := 0) hx hb dX6_gather_139 (by decide) ?_
  refine lv_ior hx hb dX6_gather_140 ?_
  refine k_topi (y := 0) (by decide) ?_
  refine k_put (D := D) (ci := 6) (v := .int 0) (ty := .int) (N := 14) hx hb hts hin6 tyX6 tyX6_ok nmX6 hown hK hP hD hS 0 rfl rfl (by decide) f9_6_11 (hts (.fieldLink RX6 90 "IntegerHouse$Places" "needed" "I") (o9_X6_gather _ (List.mem_of_getElem? (i := 1) rfl))) rfl pd_2 rfl rfl (k_len (k_set (k_set (k_set (k_set (k_ne (by decide) (k_set (k_ne (by decide) e1)))))))) dX6_gather_141 (fun H locs hP hD hS => ?_)
  have hP : va_P D vwCl [(h0, .inr (6, ((((((((f0.set 10 (.int 0)).set 11 (.int 0)).set 12 (.int 1)).set 11 (.int 0)).set 11 (.int 0)).set 11 (.int 0)).set 11 (.int 0)).set 11 (.int 0)))), (h1, .inr (2, f1))] H := hP
  have hD : va_D A [(h0, .inr (6, ((((((((f0.set 10 (.int 0)).set 11 (.int 0)).set 12 (.int 1)).set 11 (.int 0)).set 11 (.int 0)).set 11 (.int 0)).set 11 (.int 0)).set 11 (.int 0)))), (h1, .inr (2, f1))] := hD
  refine lv_iinc (v := 19) (lv' := [(2, .int 19), (4, .int 0), (3, .int 0), (0, .ref h0), (1, .int 0)]) hx hb dX6_gather_144 hl (k := 0) rfl (by decide) (by decide) rfl (fun ls hl => ?_)
  refine lv_goto (tgt := 105) hx hb dX6_gather_147 (by decide) ?_
  refine lv_iload_n hx hb dX6_gather_105 rfl (lv_at hl 0 rfl) ?_
  refine lv_if_lt (tgt := 150) hx hb dX6_gather_106 (by decide) (fun c9 => absurd c9 (by decide)) (fun _ => ?_)
  refine lv_aload_n hx hb dX6_gather_109 rfl (lv_at hl 3 rfl) ?_
  refine lv_dup hx hb dX6_gather_110 rfl ?_
  refine k_get (D := D) (ci := 6) (v := .int 0) (N := 14) hx hb hts hin6 hown hK hP 0 rfl rfl (by decide) f9_6_11 (hts (.fieldLink RX6 90 "IntegerHouse$Places" "needed" "I") (o9_X6_gather _ (List.mem_of_getElem? (i := 1) rfl))) (k_set (k_set (k_set (k_set (k_set (k_ne (by decide) (k_set (k_ne (by decide) e1)))))))) dX6_gather_111 ?_
  refine lv_aload_n hx hb dX6_gather_114 rfl (lv_at hl 3 rfl) ?_
  refine k_get (D := D) (ci := 6) (v := .int 0) (N := 14) hx hb hts hin6 hown hK hP 0 rfl rfl (by decide) f9_6_11 (hts (.fieldLink RX6 90 "IntegerHouse$Places" "needed" "I") (o9_X6_gather _ (List.mem_of_getElem? (i := 1) rfl))) (k_set (k_set (k_set (k_set (k_set (k_ne (by decide) (k_set (k_ne (by decide) e1)))))))) dX6_gather_115 ?_
  refine lv_iload_n hx hb dX6_gather_118 rfl (lv_at hl 0 rfl) ?_
  refine lv_iushr (v := 0) hx hb dX6_gather_119 (by decide) ?_
  refine lv_iconst (v := 1) hx hb dX6_gather_120 (by decide) ?_
  refine lv_iand hx hb dX6_gather_121 ?_
  refine k_topi (y := 0) (by decide) ?_
  refine lv_iconst (v := 1) hx hb dX6_gather_122 (by decide) ?_
  refine lv_icmp_ne (tgt := 139) hx hb dX6_gather_123 (by decide) (fun _ => ?_) (fun c9 => absurd c9 (by decide))
  refine lv_iconst (v := 0) hx hb dX6_gather_139 (by decide) ?_
  refine lv_ior hx hb dX6_gather_140 ?_
  refine k_topi (y := 0) (by decide) ?_
  refine k_put (D := D) (ci := 6) (v := .int 0) (ty := .int) (N := 14) hx hb hts hin6 tyX6 tyX6_ok nmX6 hown hK hP hD hS 0 rfl rfl (by decide) f9_6_11 (hts (.fieldLink RX6 90 "IntegerHouse$Places" "needed" "I") (o9_X6_gather _ (List.mem_of_getElem? (i := 1) rfl))) rfl pd_2 rfl rfl (k_len (k_set (k_set (k_set (k_set (k_set (k_ne (by decide) (k_set (k_ne (by decide) e1))))))))) dX6_gather_141 (fun H locs hP hD hS => ?_)
  have hP : va_P D vwCl [(h0, .inr (6, (((((((((f0.set 10 (.int 0)).set 11 (.int 0)).set 12 (.int 1)).set 11 (.int 0)).set 11 (.int 0)).set 11 (.int 0)).set 11 (.int 0)).set 11 (.int 0)).set 11 (.int 0)))), (h1, .inr (2, f1))] H := hP
  have hD : va_D A [(h0, .inr (6, (((((((((f0.set 10 (.int 0)).set 11 (.int 0)).set 12 (.int 1)).set 11 (.int 0)).set 11 (.int 0)).set 11 (.int 0)).set 11 (.int 0)).set 11 (.int 0)).set 11 (.int 0)))), (h1, .inr (2, f1))] := hD
  refine lv_iinc (v := 18) (lv' := [(2, .int 18), (4, .int 0), (3, .int 0), (0, .ref h0), (1, .int 0)]) hx hb dX6_gather_144 hl (k := 0) rfl (by decide) (by decide) rfl (fun ls hl => ?_)
  refine lv_goto (tgt := 105) hx hb dX6_gather_147 (by decide) ?_
  refine lv_iload_n hx hb dX6_gather_105 rfl (lv_at hl 0 rfl) ?_
  refine lv_if_lt (tgt := 150) hx hb dX6_gather_106 (by decide) (fun c9 => absurd c9 (by decide)) (fun _ => ?_)
  refine lv_aload_n hx hb dX6_gather_109 rfl (lv_at hl 3 rfl) ?_
  refine lv_dup hx hb dX6_gather_110 rfl ?_
  refine k_get (D := D) (ci := 6) (v := .int 0) (N := 14) hx hb hts hin6 hown hK hP 0 rfl rfl (by decide) f9_6_11 (hts (.fieldLink RX6 90 "IntegerHouse$Places" "needed" "I") (o9_X6_gather _ (List.mem_of_getElem? (i := 1) rfl))) (k_set (k_set (k_set (k_set (k_set (k_set (k_ne (by decide) (k_set (k_ne (by decide) e1))))))))) dX6_gather_111 ?_
  refine lv_aload_n hx hb dX6_gather_114 rfl (lv_at hl 3 rfl) ?_
  refine k_get (D := D) (ci := 6) (v := .int 0) (N := 14) hx hb hts hin6 hown hK hP 0 rfl rfl (by decide) f9_6_11 (hts (.fieldLink RX6 90 "IntegerHouse$Places" "needed" "I") (o9_X6_gather _ (List.mem_of_getElem? (i := 1) rfl))) (k_set (k_set (k_set (k_set (k_set (k_set (k_ne (by decide) (k_set (k_ne (by decide) e1))))))))) dX6_gather_115 ?_
  refine lv_iload_n hx hb dX6_gather_118 rfl (lv_at hl 0 rfl) ?_
  refine lv_iushr (v := 0) hx hb dX6_gather_119 (by decide) ?_
  refine lv_iconst (v := 1) hx hb dX6_gather_120 (by decide) ?_
  refine lv_iand hx hb dX6_gather_121 ?_
  refine k_topi (y := 0) (by decide) ?_
  refine lv_iconst (v := 1) hx hb dX6_gather_122 (by decide) ?_
  refine lv_icmp_ne (tgt := 139) hx hb dX6_gather_123 (by decide) (fun _ => ?_) (fun c9 => absurd c9 (by decide))
  refine lv_iconst (v := 0) hx hb dX6_gather_139 (by decide) ?_
  refine lv_ior hx hb dX6_gather_140 ?_
  refine k_topi (y := 0) (by decide) ?_
  refine k_put (D := D) (ci := 6) (v := .int 0) (ty := .int) (N := 14) hx hb hts hin6 tyX6 tyX6_ok nmX6 hown hK hP hD hS 0 rfl rfl (by decide) f9_6_11 (hts (.fieldLink RX6 90 "IntegerHouse$Places" "needed" "I") (o9_X6_gather _ (List.mem_of_getElem? (i := 1) rfl))) rfl pd_2 rfl rfl (k_len (k_set (k_set (k_set (k_set (k_set (k_set (k_ne (by decide) (k_set (k_ne (by decide) e1)))))))))) dX6_gather_141 (fun H locs hP hD hS => ?_)
  have hP : va_P D vwCl [(h0, .inr (6, ((((((((((f0.set 10 (.int 0)).set 11 (.int 0)).set 12 (.int 1)).set 11 (.int 0)).set 11 (.int 0)).set 11 (.int 0)).set 11 (.int 0)).set 11 (.int 0)).set 11 (.int 0)).set 11 (.int 0)))), (h1, .inr (2, f1))] H := hP
  have hD : va_D A [(h0, .inr (6, ((((((((((f0.set 10 (.int 0)).set 11 (.int 0)).set 12 (.int 1)).set 11 (.int 0)).set 11 (.int 0)).set 11 (.int 0)).set 11 (.int 0)).set 11 (.int 0)).set 11 (.int 0)).set 11 (.int 0)))), (h1, .inr (2, f1))] := hD
  refine lv_iinc (v := 17) (lv' := [(2, .int 17), (4, .int 0), (3, .int 0), (0, .ref h0), (1, .int 0)]) hx hb dX6_gather_144 hl (k := 0) rfl (by decide) (by decide) rfl (fun ls hl => ?_)
  refine lv_goto (tgt := 105) hx hb dX6_gather_147 (by decide) ?_
  refine lv_iload_n hx hb dX6_gather_105 rfl (lv_at hl 0 rfl) ?_
  refine lv_if_lt (tgt := 150) hx hb dX6_gather_106 (by decide) (fun c9 => absurd c9 (by decide)) (fun _ => ?_)
  refine lv_aload_n hx hb dX6_gather_109 rfl (lv_at hl 3 rfl) ?_
  refine lv_dup hx hb dX6_gather_110 rfl ?_
  refine k_get (D := D) (ci := 6) (v := .int 0) (N := 14) hx hb hts hin6 hown hK hP 0 rfl rfl (by decide) f9_6_11 (hts (.fieldLink RX6 90 "IntegerHouse$Places" "needed" "I") (o9_X6_gather _ (List.mem_of_getElem? (i := 1) rfl))) (k_set (k_set (k_set (k_set (k_set (k_set (k_set (k_ne (by decide) (k_set (k_ne (by decide) e1)))))))))) dX6_gather_111 ?_
  refine lv_aload_n hx hb dX6_gather_114 rfl (lv_at hl 3 rfl) ?_
  refine k_get (D := D) (ci := 6) (v := .int 0) (N := 14) hx hb hts hin6 hown hK hP 0 rfl rfl (by decide) f9_6_11 (hts (.fieldLink RX6 90 "IntegerHouse$Places" "needed" "I") (o9_X6_gather _ (List.mem_of_getElem? (i := 1) rfl))) (k_set (k_set (k_set (k_set (k_set (k_set (k_set (k_ne (by decide) (k_set (k_ne (by decide) e1)))))))))) dX6_gather_115 ?_
  refine lv_iload_n hx hb dX6_gather_118 rfl (lv_at hl 0 rfl) ?_
  refine lv_iushr (v := 0) hx hb dX6_gather_119 (by decide) ?_
  refine lv_iconst (v := 1) hx hb dX6_gather_120 (by decide) ?_
  refine lv_iand hx hb dX6_gather_121 ?_
  refine k_topi (y := 0) (by decide) ?_
  refine lv_iconst (v := 1) hx hb dX6_gather_122 (by decide) ?_
  refine lv_icmp_ne (tgt := 139) hx hb dX6_gather_123 (by decide) (fun _ => ?_) (fun c9 => absurd c9 (by decide))
  refine lv_iconst (v := 0) hx hb dX6_gather_139 (by decide) ?_
  refine lv_ior hx hb dX6_gather_140 ?_
  refine k_topi (y := 0) (by decide) ?_
  refine k_put (D := D) (ci := 6) (v := .int 0) (ty := .int) (N := 14) hx hb hts hin6 tyX6 tyX6_ok nmX6 hown hK hP hD hS 0 rfl rfl (by decide) f9_6_11 (hts (.fieldLink RX6 90 "IntegerHouse$Places" "needed" "I") (o9_X6_gather _ (List.mem_of_getElem? (i := 1) rfl))) rfl pd_2 rfl rfl (k_len (k_set (k_set (k_set (k_set (k_set (k_set (k_set (k_ne (by decide) (k_set (k_ne (by decide) e1))))))))))) dX6_gather_141 (fun H locs hP hD hS => ?_)
  have hP : va_P D vwCl [(h0, .inr (6, (((((((((((f0.set 10 (.int 0)).set 11 (.int 0)).set 12 (.int 1)).set 11 (.int 0)).set 11 (.int 0)).set 11 (.int 0)).set 11 (.int 0)).set 11 (.int 0)).set 11 (.int 0)).set 11 (.int 0)).set 11 (.int 0)))), (h1, .inr (2, f1))] H := hP
  have hD : va_D A [(h0, .inr (6, (((((((((((f0.set 10 (.int 0)).set 11 (.int 0)).set 12 (.int 1)).set 11 (.int 0)).set 11 (.int 0)).set 11 (.int 0)).set 11 (.int 0)).set 11 (.int 0)).set 11 (.int 0)).set 11 (.int 0)).set 11 (.int 0)))), (h1, .inr (2, f1))] := hD
  refine lv_iinc (v := 16) (lv' := [(2, .int 16), (4, .int 0), (3, .int 0), (0, .ref h0), (1, .int 0)]) hx hb dX6_gather_144 hl (k := 0) rfl (by decide) (by decide) rfl (fun ls hl => ?_)
  refine lv_goto (tgt := 105) hx hb dX6_gather_147 (by decide) ?_
  refine lv_iload_n hx hb dX6_gather_105 rfl (lv_at hl 0 rfl) ?_
  refine lv_if_lt (tgt := 150) hx hb dX6_gather_106 (by decide) (fun c9 => absurd c9 (by decide)) (fun _ => ?_)
  refine lv_aload_n hx hb dX6_gather_109 rfl (lv_at hl 3 rfl) ?_
  refine lv_dup hx hb dX6_gather_110 rfl ?_
  refine k_get (D := D) (ci := 6) (v := .int 0) (N := 14) hx hb hts hin6 hown hK hP 0 rfl rfl (by decide) f9_6_11 (hts (.fieldLink RX6 90 "IntegerHouse$Places" "needed" "I") (o9_X6_gather _ (List.mem_of_getElem? (i := 1) rfl))) (k_set (k_set (k_set (k_set (k_set (k_set (k_set (k_set (k_ne (by decide) (k_set (k_ne (by decide) e1))))))))))) dX6_gather_111 ?_
  refine lv_aload_n hx hb dX6_gather_114 rfl (lv_at hl 3 rfl) ?_
  refine k_get (D := D) (ci := 6) (v := .int 0) (N := 14) hx hb hts hin6 hown hK hP 0 rfl rfl (by decide) f9_6_11 (hts (.fieldLink RX6 90 "IntegerHouse$Places" "needed" "I") (o9_X6_gather _ (List.mem_of_getElem? (i := 1) rfl))) (k_set (k_set (k_set (k_set (k_set (k_set (k_set (k_set (k_ne (by decide) (k_set (k_ne (by decide) e1))))))))))) dX6_gather_115 ?_
  refine lv_iload_n hx hb dX6_gather_118 rfl (lv_at hl 0 rfl) ?_
  refine lv_iushr (v := 0) hx hb dX6_gather_119 (by decide) ?_
  refine lv_iconst (v := 1) hx hb dX6_gather_120 (by decide) ?_
  refine lv_iand hx hb dX6_gather_121 ?_
  refine k_topi (y := 0) (by decide) ?_
  refine lv_iconst (v := 1) hx hb dX6_gather_122 (by decide) ?_
  refine lv_icmp_ne (tgt := 139) hx hb dX6_gather_123 (by decide) (fun _ => ?_) (fun c9 => absurd c9 (by decide))
  refine lv_iconst (v := 0) hx hb dX6_gather_139 (by decide) ?_
  refine lv_ior hx hb dX6_gather_140 ?_
  refine k_topi (y := 0) (by decide) ?_
  refine k_put (D := D) (ci := 6) (v := .int 0) (ty := .int) (N := 14) hx hb hts hin6 tyX6 tyX6_ok nmX6 hown hK hP hD hS 0 rfl rfl (by decide) f9_6_11 (hts (.fieldLink RX6 90 "IntegerHouse$Places" "needed" "I") (o9_X6_gather _ (List.mem_of_getElem? (i := 1) rfl))) rfl pd_2 rfl rfl (k_len (k_set (k_set (k_set (k_set (k_set (k_set (k_set (k_set (k_ne (by decide) (k_set (k_ne (by decide) e1)))))))))))) dX6_gather_141 (fun H locs hP hD hS => ?_)
  have hP : va_P D vwCl [(h0, .inr (6, ((((((((((((f0.set 10 (.int 0)).set 11 (.int 0)).set 12 (.int 1)).set 11 (.int 0)).set 11 (.int 0)).set 11 (.int 0)).set 11 (.int 0)).set 11 (.int 0)).set 11 (.int 0)).set 11 (.int 0)).set 11 (.int 0)).set 11 (.int 0)))), (h1, .inr (2, f1))] H := hP
  have hD : va_D A [(h0, .inr (6, ((((((((((((f0.set 10 (.int 0)).set 11 (.int 0)).set 12 (.int 1)).set 11 (.int 0)).set 11 (.int 0)).set 11 (.int 0)).set 11 (.int 0)).set 11 (.int 0)).set 11 (.int 0)).set 11 (.int 0)).set 11 (.int 0)).set 11 (.int 0)))), (h1, .inr (2, f1))] := hD
  refine lv_iinc (v := 15) (lv' := [(2, .int 15), (4, .int 0), (3, .int 0), (0, .ref h0), (1, .int 0)]) hx hb dX6_gather_144 hl (k := 0) rfl (by decide) (by decide) rfl (fun ls hl => ?_)
  refine lv_goto (tgt := 105) hx hb dX6_gather_147 (by decide) ?_
  refine lv_iload_n hx hb dX6_gather_105 rfl (lv_at hl 0 rfl) ?_
  refine lv_if_lt (tgt := 150) hx hb dX6_gather_106 (by decide) (fun c9 => absurd c9 (by decide)) (fun _ => ?_)
  refine lv_aload_n hx hb dX6_gather_109 rfl (lv_at hl 3 rfl) ?_
  refine lv_dup hx hb dX6_gather_110 rfl ?_
  refine k_get (D := D) (ci := 6) (v := .int 0) (N := 14) hx hb hts hin6 hown hK hP 0 rfl rfl (by decide) f9_6_11 (hts (.fieldLink RX6 90 "IntegerHouse$Places" "needed" "I") (o9_X6_gather _ (List.mem_of_getElem? (i := 1) rfl))) (k_set (k_set (k_set (k_set (k_set (k_set (k_set (k_set (k_set (k_ne (by decide) (k_set (k_ne (by decide) e1)))))))))))) dX6_gather_111 ?_
  refine lv_aload_n hx hb dX6_gather_114 rfl (lv_at hl 3 rfl) ?_
  refine k_get (D := D) (ci := 6) (v := .int 0) (N := 14) hx hb hts hin6 hown hK hP 0 rfl rfl (by decide) f9_6_11 (hts (.fieldLink RX6 90 "IntegerHouse$Places" "needed" "I") (o9_X6_gather _ (List.mem_of_getElem? (i := 1) rfl))) (k_set (k_set (k_set (k_set (k_set (k_set (k_set (k_set (k_set (k_ne (by decide) (k_set (k_ne (by decide) e1)))))))))))) dX6_gather_115 ?_
  refine lv_iload_n hx hb dX6_gather_118 rfl (lv_at hl 0 rfl) ?_
  refine lv_iushr (v := 0) hx hb dX6_gather_119 (by decide) ?_
  refine lv_iconst (v := 1) hx hb dX6_gather_120 (by decide) ?_
  refine lv_iand hx hb dX6_gather_121 ?_
  refine k_topi (y := 0) (by decide) ?_
  refine lv_iconst (v := 1) hx hb dX6_gather_122 (by decide) ?_
  refine lv_icmp_ne (tgt := 139) hx hb dX6_gather_123 (by decide) (fun _ => ?_) (fun c9 => absurd c9 (by decide))
  refine lv_iconst (v := 0) hx hb dX6_gather_139 (by decide) ?_
  refine lv_ior hx hb dX6_gather_140 ?_
  refine k_topi (y := 0) (by decide) ?_
  refine k_put (D := D) (ci := 6) (v := .int 0) (ty := .int) (N := 14) hx hb hts hin6 tyX6 tyX6_ok nmX6 hown hK hP hD hS 0 rfl rfl (by decide) f9_6_11 (hts (.fieldLink RX6 90 "IntegerHouse$Places" "needed" "I") (o9_X6_gather _ (List.mem_of_getElem? (i := 1) rfl))) rfl pd_2 rfl rfl (k_len (k_set (k_set (k_set (k_set (k_set (k_set (k_set (k_set (k_set (k_ne (by decide) (k_set (k_ne (by decide) e1))))))))))))) dX6_gather_141 (fun H locs hP hD hS => ?_)
  have hP : va_P D vwCl [(h0, .inr (6, (((((((((((((f0.set 10 (.int 0)).set 11 (.int 0)).set 12 (.int 1)).set 11 (.int 0)).set 11 (.int 0)).set 11 (.int 0)).set 11 (.int 0)).set 11 (.int 0)).set 11 (.int 0)).set 11 (.int 0)).set 11 (.int 0)).set 11 (.int 0)).set 11 (.int 0)))), (h1, .inr (2, f1))] H := hP
  have hD : va_D A [(h0, .inr (6, (((((((((((((f0.set 10 (.int 0)).set 11 (.int 0)).set 12 (.int 1)).set 11 (.int 0)).set 11 (.int 0)).set 11 (.int 0)).set 11 (.int 0)).set 11 (.int 0)).set 11 (.int 0)).set 11 (.int 0)).set 11 (.int 0)).set 11 (.int 0)).set 11 (.int 0)))), (h1, .inr (2, f1))] := hD
  refine lv_iinc (v := 14) (lv' := [(2, .int 14), (4, .int 0), (3, .int 0), (0, .ref h0), (1, .int 0)]) hx hb dX6_gather_144 hl (k := 0) rfl (by decide) (by decide) rfl (fun ls hl => ?_)
  refine lv_goto (tgt := 105) hx hb dX6_gather_147 (by decide) ?_
  refine lv_iload_n hx hb dX6_gather_105 rfl (lv_at hl 0 rfl) ?_
  refine lv_if_lt (tgt := 150) hx hb dX6_gather_106 (by decide) (fun c9 => absurd c9 (by decide)) (fun _ => ?_)
  refine lv_aload_n hx hb dX6_gather_109 rfl (lv_at hl 3 rfl) ?_
  refine lv_dup hx hb dX6_gather_110 rfl ?_
  refine k_get (D := D) (ci := 6) (v := .int 0) (N := 14) hx hb hts hin6 hown hK hP 0 rfl rfl (by decide) f9_6_11 (hts (.fieldLink RX6 90 "IntegerHouse$Places" "needed" "I") (o9_X6_gather _ (List.mem_of_getElem? (i := 1) rfl))) (k_set (k_set (k_set (k_set (k_set (k_set (k_set (k_set (k_set (k_set (k_ne (by decide) (k_set (k_ne (by decide) e1))))))))))))) dX6_gather_111 ?_
  refine lv_aload_n hx hb dX6_gather_114 rfl (lv_at hl 3 rfl) ?_
  refine k_get (D := D) (ci := 6) (v := .int 0) (N := 14) hx hb hts hin6 hown hK hP 0 rfl rfl (by decide) f9_6_11 (hts (.fieldLink RX6 90 "IntegerHouse$Places" "needed" "I") (o9_X6_gather _ (List.mem_of_getElem? (i := 1) rfl))) (k_set (k_set (k_set (k_set (k_set (k_set (k_set (k_set (k_set (k_set (k_ne (by decide) (k_set (k_ne (by decide) e1))))))))))))) dX6_gather_115 ?_
  refine lv_iload_n hx hb dX6_gather_118 rfl (lv_at hl 0 rfl) ?_
  refine lv_iushr (v := 0) hx hb dX6_gather_119 (by decide) ?_
  refine lv_iconst (v := 1) hx hb dX6_gather_120 (by decide) ?_
  refine lv_iand hx hb dX6_gather_121 ?_
  refine k_topi (y := 0) (by decide) ?_
  refine lv_iconst (v := 1) hx hb dX6_gather_122 (by decide) ?_
  refine lv_icmp_ne (tgt := 139) hx hb dX6_gather_123 (by decide) (fun _ => ?_) (fun c9 => absurd c9 (by decide))
  refine lv_iconst (v := 0) hx hb dX6_gather_139 (by decide) ?_
  refine lv_ior hx hb dX6_gather_140 ?_
  refine k_topi (y := 0) (by decide) ?_
  refine k_put (D := D) (ci := 6) (v := .int 0) (ty := .int) (N := 14) hx hb hts hin6 tyX6 tyX6_ok nmX6 hown hK hP hD hS 0 rfl rfl (by decide) f9_6_11 (hts (.fieldLink RX6 90 "IntegerHouse$Places" "needed" "I") (o9_X6_gather _ (List.mem_of_getElem? (i := 1) rfl))) rfl pd_2 rfl rfl (k_len (k_set (k_set (k_set (k_set (k_set (k_set (k_set (k_set (k_set (k_set (k_ne (by decide) (k_set (k_ne (by decide) e1)))))))))))))) dX6_gather_141 (fun H locs hP hD hS => ?_)
  have hP : va_P D vwCl [(h0, .inr (6, ((((((((((((((f0.set 10 (.int 0)).set 11 (.int 0)).set 12 (.int 1)).set 11 (.int 0)).set 11 (.int 0)).set 11 (.int 0)).set 11 (.int 0)).set 11 (.int 0)).set 11 (.int 0)).set 11 (.int 0)).set 11 (.int 0)).set 11 (.int 0)).set 11 (.int 0)).set 11 (.int 0)))), (h1, .inr (2, f1))] H := hP
  have hD : va_D A [(h0, .inr (6, ((((((((((((((f0.set 10 (.int 0)).set 11 (.int 0)).set 12 (.int 1)).set 11 (.int 0)).set 11 (.int 0)).set 11 (.int 0)).set 11 (.int 0)).set 11 (.int 0)).set 11 (.int 0)).set 11 (.int 0)).set 11 (.int 0)).set 11 (.int 0)).set 11 (.int 0)).set 11 (.int 0)))), (h1, .inr (2, f1))] := hD
  refine lv_iinc (v := 13) (lv' := [(2, .int 13), (4, .int 0), (3, .int 0), (0, .ref h0), (1, .int 0)]) hx hb dX6_gather_144 hl (k := 0) rfl (by decide) (by decide) rfl (fun ls hl => ?_)
  refine lv_goto (tgt := 105) hx hb dX6_gather_147 (by decide) ?_
  refine lv_iload_n hx hb dX6_gather_105 rfl (lv_at hl 0 rfl) ?_
  refine lv_if_lt (tgt := 150) hx hb dX6_gather_106 (by decide) (fun c9 => absurd c9 (by decide)) (fun _ => ?_)
  refine lv_aload_n hx hb dX6_gather_109 rfl (lv_at hl 3 rfl) ?_
  refine lv_dup hx hb dX6_gather_110 rfl ?_
  refine k_get (D := D) (ci := 6) (v := .int 0) (N := 14) hx hb hts hin6 hown hK hP 0 rfl rfl (by decide) f9_6_11 (hts (.fieldLink RX6 90 "IntegerHouse$Places" "needed" "I") (o9_X6_gather _ (List.mem_of_getElem? (i := 1) rfl))) (k_set (k_set (k_set (k_set (k_set (k_set (k_set (k_set (k_set (k_set (k_set (k_ne (by decide) (k_set (k_ne (by decide) e1)))))))))))))) dX6_gather_111 ?_
  refine lv_aload_n hx hb dX6_gather_114 rfl (lv_at hl 3 rfl) ?_
  refine k_get (D := D) (ci := 6) (v := .int 0) (N := 14) hx hb hts hin6 hown hK hP 0 rfl rfl (by decide) f9_6_11 (hts (.fieldLink RX6 90 "IntegerHouse$Places" "needed" "I") (o9_X6_gather _ (List.mem_of_getElem? (i := 1) rfl))) (k_set (k_set (k_set (k_set (k_set (k_set (k_set (k_set (k_set (k_set (k_set (k_ne (by decide) (k_set (k_ne (by decide) e1)))))))))))))) dX6_gather_115 ?_
  refine lv_iload_n hx hb dX6_gather_118 rfl (lv_at hl 0 rfl) ?_
  refine lv_iushr (v := 0) hx hb dX6_gather_119 (by decide) ?_
  refine lv_iconst (v := 1) hx hb dX6_gather_120 (by decide) ?_
  refine lv_iand hx hb dX6_gather_121 ?_
  refine k_topi (y := 0) (by decide) ?_
  refine lv_iconst (v := 1) hx hb dX6_gather_122 (by decide) ?_
  refine lv_icmp_ne (tgt := 139) hx hb dX6_gather_123 (by decide) (fun _ => ?_) (fun c9 => absurd c9 (by decide))
  refine lv_iconst (v := 0) hx hb dX6_gather_139 (by decide) ?_
  refine lv_ior hx hb dX6_gather_140 ?_
  refine k_topi (y := 0) (by decide) ?_
  refine k_put (D := D) (ci := 6) (v := .int 0) (ty := .int) (N := 14) hx hb hts hin6 tyX6 tyX6_ok nmX6 hown hK hP hD hS 0 rfl rfl (by decide) f9_6_11 (hts (.fieldLink RX6 90 "IntegerHouse$Places" "needed" "I") (o9_X6_gather _ (List.mem_of_getElem? (i := 1) rfl))) rfl pd_2 rfl rfl (k_len (k_set (k_set (k_set (k_set (k_set (k_set (k_set (k_set (k_set (k_set (k_set (k_ne (by decide) (k_set (k_ne (by decide) e1))))))))))))))) dX6_gather_141 (fun H locs hP hD hS => ?_)
  have hP : va_P D vwCl [(h0, .inr (6, (((((((((((((((f0.set 10 (.int 0)).set 11 (.int 0)).set 12 (.int 1)).set 11 (.int 0)).set 11 (.int 0)).set 11 (.int 0)).set 11 (.int 0)).set 11 (.int 0)).set 11 (.int 0)).set 11 (.int 0)).set 11 (.int 0)).set 11 (.int 0)).set 11 (.int 0)).set 11 (.int 0)).set 11 (.int 0)))), (h1, .inr (2, f1))] H := hP
  have hD : va_D A [(h0, .inr (6, (((((((((((((((f0.set 10 (.int 0)).set 11 (.int 0)).set 12 (.int 1)).set 11 (.int 0)).set 11 (.int 0)).set 11 (.int 0)).set 11 (.int 0)).set 11 (.int 0)).set 11 (.int 0)).set 11 (.int 0)).set 11 (.int 0)).set 11 (.int 0)).set 11 (.int 0)).set 11 (.int 0)).set 11 (.int 0)))), (h1, .inr (2, f1))] := hD
  refine lv_iinc (v := 12) (lv' := [(2, .int 12), (4, .int 0), (3, .int 0), (0, .ref h0), (1, .int 0)]) hx hb dX6_gather_144 hl (k := 0) rfl (by decide) (by decide) rfl (fun ls hl => ?_)
  refine lv_goto (tgt := 105) hx hb dX6_gather_147 (by decide) ?_
  refine lv_iload_n hx hb dX6_gather_105 rfl (lv_at hl 0 rfl) ?_
  refine lv_if_lt (tgt := 150) hx hb dX6_gather_106 (by decide) (fun c9 => absurd c9 (by decide)) (fun _ => ?_)
  refine lv_aload_n hx hb dX6_gather_109 rfl (lv_at hl 3 rfl) ?_
  refine lv_dup hx hb dX6_gather_110 rfl ?_
  refine k_get (D := D) (ci := 6) (v := .int 0) (N := 14) hx hb hts hin6 hown hK hP 0 rfl rfl (by decide) f9_6_11 (hts (.fieldLink RX6 90 "IntegerHouse$Places" "needed" "I") (o9_X6_gather _ (List.mem_of_getElem? (i := 1) rfl))) (k_set (k_set (k_set (k_set (k_set (k_set (k_set (k_set (k_set (k_set (k_set (k_set (k_ne (by decide) (k_set (k_ne (by decide) e1))))))))))))))) dX6_gather_111 ?_
  refine lv_aload_n hx hb dX6_gather_114 rfl (lv_at hl 3 rfl) ?_
  refine k_get (D := D) (ci := 6) (v := .int 0) (N := 14) hx hb hts hin6 hown hK hP 0 rfl rfl (by decide) f9_6_11 (hts (.fieldLink RX6 90 "IntegerHouse$Places" "needed" "I") (o9_X6_gather _ (List.mem_of_getElem? (i := 1) rfl))) (k_set (k_set (k_set (k_set (k_set (k_set (k_set (k_set (k_set (k_set (k_set (k_set (k_ne (by decide) (k_set (k_ne (by decide) e1))))))))))))))) dX6_gather_115 ?_
  refine lv_iload_n hx hb dX6_gather_118 rfl (lv_at hl 0 rfl) ?_
  refine lv_iushr (v := 0) hx hb dX6_gather_119 (by decide) ?_
  refine lv_iconst (v := 1) hx hb dX6_gather_120 (by decide) ?_
  refine lv_iand hx hb dX6_gather_121 ?_
  refine k_topi (y := 0) (by decide) ?_
  refine lv_iconst (v := 1) hx hb dX6_gather_122 (by decide) ?_
  refine lv_icmp_ne (tgt := 139) hx hb dX6_gather_123 (by decide) (fun _ => ?_) (fun c9 => absurd c9 (by decide))
  refine lv_iconst (v := 0) hx hb dX6_gather_139 (by decide) ?_
  refine lv_ior hx hb dX6_gather_140 ?_
  refine k_topi (y := 0) (by decide) ?_
  refine k_put (D := D) (ci := 6) (v := .int 0) (ty := .int) (N := 14) hx hb hts hin6 tyX6 tyX6_ok nmX6 hown hK hP hD hS 0 rfl rfl (by decide) f9_6_11 (hts (.fieldLink RX6 90 "IntegerHouse$Places" "needed" "I") (o9_X6_gather _ (List.mem_of_getElem? (i := 1) rfl))) rfl pd_2 rfl rfl (k_len (k_set (k_set (k_set (k_set (k_set (k_set (k_set (k_set (k_set (k_set (k_set (k_set (k_ne (by decide) (k_set (k_ne (by decide) e1)))))))))))))))) dX6_gather_141 (fun H locs hP hD hS => ?_)
  have hP : va_P D vwCl [(h0, .inr (6, ((((((((((((((((f0.set 10 (.int 0)).set 11 (.int 0)).set 12 (.int 1)).set 11 (.int 0)).set 11 (.int 0)).set 11 (.int 0)).set 11 (.int 0)).set 11 (.int 0)).set 11 (.int 0)).set 11 (.int 0)).set 11 (.int 0)).set 11 (.int 0)).set 11 (.int 0)).set 11 (.int 0)).set 11 (.int 0)).set 11 (.int 0)))), (h1, .inr (2, f1))] H := hP
  have hD : va_D A [(h0, .inr (6, ((((((((((((((((f0.set 10 (.int 0)).set 11 (.int 0)).set 12 (.int 1)).set 11 (.int 0)).set 11 (.int 0)).set 11 (.int 0)).set 11 (.int 0)).set 11 (.int 0)).set 11 (.int 0)).set 11 (.int 0)).set 11 (.int 0)).set 11 (.int 0)).set 11 (.int 0)).set 11 (.int 0)).set 11 (.int 0)).set 11 (.int 0)))), (h1, .inr (2, f1))] := hD
  refine lv_iinc (v := 11) (lv' := [(2, .int 11), (4, .int 0), (3, .int 0), (0, .ref h0), (1, .int 0)]) hx hb dX6_gather_144 hl (k := 0) rfl (by decide) (by decide) rfl (fun ls hl => ?_)
  refine lv_goto (tgt := 105) hx hb dX6_gather_147 (by decide) ?_
  refine lv_iload_n hx hb dX6_gather_105 rfl (lv_at hl 0 rfl) ?_
  refine lv_if_lt (tgt := 150) hx hb dX6_gather_106 (by decide) (fun c9 => absurd c9 (by decide)) (fun _ => ?_)
  refine lv_aload_n hx hb dX6_gather_109 rfl (lv_at hl 3 rfl) ?_
  refine lv_dup hx hb dX6_gather_110 rfl ?_
  refine k_get (D := D) (ci := 6) (v := .int 0) (N := 14) hx hb hts hin6 hown hK hP 0 rfl rfl (by decide) f9_6_11 (hts (.fieldLink RX6 90 "IntegerHouse$Places" "needed" "I") (o9_X6_gather _ (List.mem_of_getElem? (i := 1) rfl))) (k_set (k_set (k_set (k_set (k_set (k_set (k_set (k_set (k_set (k_set (k_set (k_set (k_set (k_ne (by decide) (k_set (k_ne (by decide) e1)))))))))))))))) dX6_gather_111 ?_
  refine lv_aload_n hx hb dX6_gather_114 rfl (lv_at hl 3 rfl) ?_
  refine k_get (D := D) (ci := 6) (v := .int 0) (N := 14) hx hb hts hin6 hown hK hP 0 rfl rfl (by decide) f9_6_11 (hts (.fieldLink RX6 90 "IntegerHouse$Places" "needed" "I") (o9_X6_gather _ (List.mem_of_getElem? (i := 1) rfl))) (k_set (k_set (k_set (k_set (k_set (k_set (k_set (k_set (k_set (k_set (k_set (k_set (k_set (k_ne (by decide) (k_set (k_ne (by decide) e1)))))))))))))))) dX6_gather_115 ?_
  refine lv_iload_n hx hb dX6_gather_118 rfl (lv_at hl 0 rfl) ?_
  refine lv_iushr (v := 0) hx hb dX6_gather_119 (by decide) ?_
  refine lv_iconst (v := 1) hx hb dX6_gather_120 (by decide) ?_
  refine lv_iand hx hb dX6_gather_121 ?_
  refine k_topi (y := 0) (by decide) ?_
  refine lv_iconst (v := 1) hx hb dX6_gather_122 (by decide) ?_
  refine lv_icmp_ne (tgt := 139) hx hb dX6_gather_123 (by decide) (fun _ => ?_) (fun c9 => absurd c9 (by decide))
  refine lv_iconst (v := 0) hx hb dX6_gather_139 (by decide) ?_
  refine lv_ior hx hb dX6_gather_140 ?_
  refine k_topi (y := 0) (by decide) ?_
  refine k_put (D := D) (ci := 6) (v := .int 0) (ty := .int) (N := 14) hx hb hts hin6 tyX6 tyX6_ok nmX6 hown hK hP hD hS 0 rfl rfl (by decide) f9_6_11 (hts (.fieldLink RX6 90 "IntegerHouse$Places" "needed" "I") (o9_X6_gather _ (List.mem_of_getElem? (i := 1) rfl))) rfl pd_2 rfl rfl (k_len (k_set (k_set (k_set (k_set (k_set (k_set (k_set (k_set (k_set (k_set (k_set (k_set (k_set (k_ne (by decide) (k_set (k_ne (by decide) e1))))))))))))))))) dX6_gather_141 (fun H locs hP hD hS => ?_)
  have hP : va_P D vwCl [(h0, .inr (6, (((((((((((((((((f0.set 10 (.int 0)).set 11 (.int 0)).set 12 (.int 1)).set 11 (.int 0)).set 11 (.int 0)).set 11 (.int 0)).set 11 (.int 0)).set 11 (.int 0)).set 11 (.int 0)).set 11 (.int 0)).set 11 (.int 0)).set 11 (.int 0)).set 11 (.int 0)).set 11 (.int 0)).set 11 (.int 0)).set 11 (.int 0)).set 11 (.int 0)))), (h1, .inr (2, f1))] H := hP
  have hD : va_D A [(h0, .inr (6, (((((((((((((((((f0.set 10 (.int 0)).set 11 (.int 0)).set 12 (.int 1)).set 11 (.int 0)).set 11 (.int 0)).set 11 (.int 0)).set 11 (.int 0)).set 11 (.int 0)).set 11 (.int 0)).set 11 (.int 0)).set 11 (.int 0)).set 11 (.int 0)).set 11 (.int 0)).set 11 (.int 0)).set 11 (.int 0)).set 11 (.int 0)).set 11 (.int 0)))), (h1, .inr (2, f1))] := hD
  refine lv_iinc (v := 10) (lv' := [(2, .int 10), (4, .int 0), (3, .int 0), (0, .ref h0), (1, .int 0)]) hx hb dX6_gather_144 hl (k := 0) rfl (by decide) (by decide) rfl (fun ls hl => ?_)
  refine lv_goto (tgt := 105) hx hb dX6_gather_147 (by decide) ?_
  refine lv_iload_n hx hb dX6_gather_105 rfl (lv_at hl 0 rfl) ?_
  refine lv_if_lt (tgt := 150) hx hb dX6_gather_106 (by decide) (fun c9 => absurd c9 (by decide)) (fun _ => ?_)
  refine lv_aload_n hx hb dX6_gather_109 rfl (lv_at hl 3 rfl) ?_
  refine lv_dup hx hb dX6_gather_110 rfl ?_
  refine k_get (D := D) (ci := 6) (v := .int 0) (N := 14) hx hb hts hin6 hown hK hP 0 rfl rfl (by decide) f9_6_11 (hts (.fieldLink RX6 90 "IntegerHouse$Places" "needed" "I") (o9_X6_gather _ (List.mem_of_getElem? (i := 1) rfl))) (k_set (k_set (k_set (k_set (k_set (k_set (k_set (k_set (k_set (k_set (k_set (k_set (k_set (k_set (k_ne (by decide) (k_set (k_ne (by decide) e1))))))))))))))))) dX6_gather_111 ?_
  refine lv_aload_n hx hb dX6_gather_114 rfl (lv_at hl 3 rfl) ?_
  refine k_get (D := D) (ci := 6) (v := .int 0) (N := 14) hx hb hts hin6 hown hK hP 0 rfl rfl (by decide) f9_6_11 (hts (.fieldLink RX6 90 "IntegerHouse$Places" "needed" "I") (o9_X6_gather _ (List.mem_of_getElem? (i := 1) rfl))) (k_set (k_set (k_set (k_set (k_set (k_set (k_set (k_set (k_set (k_set (k_set (k_set (k_set (k_set (k_ne (by decide) (k_set (k_ne (by decide) e1))))))))))))))))) dX6_gather_115 ?_
  refine lv_iload_n hx hb dX6_gather_118 rfl (lv_at hl 0 rfl) ?_
  refine lv_iushr (v := 0) hx hb dX6_gather_119 (by decide) ?_
  refine lv_iconst (v := 1) hx hb dX6_gather_120 (by decide) ?_
  refine lv_iand hx hb dX6_gather_121 ?_
  refine k_topi (y := 0) (by decide) ?_
  refine lv_iconst (v := 1) hx hb dX6_gather_122 (by decide) ?_
  refine lv_icmp_ne (tgt := 139) hx hb dX6_gather_123 (by decide) (fun _ => ?_) (fun c9 => absurd c9 (by decide))
  refine lv_iconst (v := 0) hx hb dX6_gather_139 (by decide) ?_
  refine lv_ior hx hb dX6_gather_140 ?_
  refine k_topi (y := 0) (by decide) ?_
  refine k_put (D := D) (ci := 6) (v := .int 0) (ty := .int) (N := 14) hx hb hts hin6 tyX6 tyX6_ok nmX6 hown hK hP hD hS 0 rfl rfl (by decide) f9_6_11 (hts (.fieldLink RX6 90 "IntegerHouse$Places" "needed" "I") (o9_X6_gather _ (List.mem_of_getElem? (i := 1) rfl))) rfl pd_2 rfl rfl (k_len (k_set (k_set (k_set (k_set (k_set (k_set (k_set (k_set (k_set (k_set (k_set (k_set (k_set (k_set (k_ne (by decide) (k_set (k_ne (by decide) e1)))))))))))))))))) dX6_gather_141 (fun H locs hP hD hS => ?_)
  have hP : va_P D vwCl [(h0, .inr (6, ((((((((((((((((((f0.set 10 (.int 0)).set 11 (.int 0)).set 12 (.int 1)).set 11 (.int 0)).set 11 (.int 0)).set 11 (.int 0)).set 11 (.int 0)).set 11 (.int 0)).set 11 (.int 0)).set 11 (.int 0)).set 11 (.int 0)).set 11 (.int 0)).set 11 (.int 0)).set 11 (.int 0)).set 11 (.int 0)).set 11 (.int 0)).set 11 (.int 0)).set 11 (.int 0)))), (h1, .inr (2, f1))] H := hP
  have hD : va_D A [(h0, .inr (6, ((((((((((((((((((f0.set 10 (.int 0)).set 11 (.int 0)).set 12 (.int 1)).set 11 (.int 0)).set 11 (.int 0)).set 11 (.int 0)).set 11 (.int 0)).set 11 (.int 0)).set 11 (.int 0)).set 11 (.int 0)).set 11 (.int 0)).set 11 (.int 0)).set 11 (.int 0)).set 11 (.int 0)).set 11 (.int 0)).set 11 (.int 0)).set 11 (.int 0)).set 11 (.int 0)))), (h1, .inr (2, f1))] := hD
  refine lv_iinc (v := 9) (lv' := [(2, .int 9), (4, .int 0), (3, .int 0), (0, .ref h0), (1, .int 0)]) hx hb dX6_gather_144 hl (k := 0) rfl (by decide) (by decide) rfl (fun ls hl => ?_)
  refine lv_goto (tgt := 105) hx hb dX6_gather_147 (by decide) ?_
  refine lv_iload_n hx hb dX6_gather_105 rfl (lv_at hl 0 rfl) ?_
  refine lv_if_lt (tgt := 150) hx hb dX6_gather_106 (by decide) (fun c9 => absurd c9 (by decide)) (fun _ => ?_)
  refine lv_aload_n hx hb dX6_gather_109 rfl (lv_at hl 3 rfl) ?_
  refine lv_dup hx hb dX6_gather_110 rfl ?_
  refine k_get (D := D) (ci := 6) (v := .int 0) (N := 14) hx hb hts hin6 hown hK hP 0 rfl rfl (by decide) f9_6_11 (hts (.fieldLink RX6 90 "IntegerHouse$Places" "needed" "I") (o9_X6_gather _ (List.mem_of_getElem? (i := 1) rfl))) (k_set (k_set (k_set (k_set (k_set (k_set (k_set (k_set (k_set (k_set (k_set (k_set (k_set (k_set (k_set (k_ne (by decide) (k_set (k_ne (by decide) e1)))))))))))))))))) dX6_gather_111 ?_
  refine lv_aload_n hx hb dX6_gather_114 rfl (lv_at hl 3 rfl) ?_
  refine k_get (D := D) (ci := 6) (v := .int 0) (N := 14) hx hb hts hin6 hown hK hP 0 rfl rfl (by decide) f9_6_11 (hts (.fieldLink RX6 90 "IntegerHouse$Places" "needed" "I") (o9_X6_gather _ (List.mem_of_getElem? (i := 1) rfl))) (k_set (k_set (k_set (k_set (k_set (k_set (k_set (k_set (k_set (k_set (k_set (k_set (k_set (k_set (k_set (k_ne (by decide) (k_set (k_ne (by decide) e1)))))))))))))))))) dX6_gather_115 ?_
  refine lv_iload_n hx hb dX6_gather_118 rfl (lv_at hl 0 rfl) ?_
  refine lv_iushr (v := 0) hx hb dX6_gather_119 (by decide) ?_
  refine lv_iconst (v := 1) hx hb dX6_gather_120 (by decide) ?_
  refine lv_iand hx hb dX6_gather_121 ?_
  refine k_topi (y := 0) (by decide) ?_
  refine lv_iconst (v := 1) hx hb dX6_gather_122 (by decide) ?_
  refine lv_icmp_ne (tgt := 139) hx hb dX6_gather_123 (by decide) (fun _ => ?_) (fun c9 => absurd c9 (by decide))
  refine lv_iconst (v := 0) hx hb dX6_gather_139 (by decide) ?_
  refine lv_ior hx hb dX6_gather_140 ?_
  refine k_topi (y := 0) (by decide) ?_
  refine k_put (D := D) (ci := 6) (v := .int 0) (ty := .int) (N := 14) hx hb hts hin6 tyX6 tyX6_ok nmX6 hown hK hP hD hS 0 rfl rfl (by decide) f9_6_11 (hts (.fieldLink RX6 90 "IntegerHouse$Places" "needed" "I") (o9_X6_gather _ (List.mem_of_getElem? (i := 1) rfl))) rfl pd_2 rfl rfl (k_len (k_set (k_set (k_set (k_set (k_set (k_set (k_set (k_set (k_set (k_set (k_set (k_set (k_set (k_set (k_set (k_ne (by decide) (k_set (k_ne (by decide) e1))))))))))))))))))) dX6_gather_141 (fun H locs hP hD hS => ?_)
  have hP : va_P D vwCl [(h0, .inr (6, (((((((((((((((((((f0.set 10 (.int 0)).set 11 (.int 0)).set 12 (.int 1)).set 11 (.int 0)).set 11 (.int 0)).set 11 (.int 0)).set 11 (.int 0)).set 11 (.int 0)).set 11 (.int 0)).set 11 (.int 0)).set 11 (.int 0)).set 11 (.int 0)).set 11 (.int 0)).set 11 (.int 0)).set 11 (.int 0)).set 11 (.int 0)).set 11 (.int 0)).set 11 (.int 0)).set 11 (.int 0)))), (h1, .inr (2, f1))] H := hP
  have hD : va_D A [(h0, .inr (6, (((((((((((((((((((f0.set 10 (.int 0)).set 11 (.int 0)).set 12 (.int 1)).set 11 (.int 0)).set 11 (.int 0)).set 11 (.int 0)).set 11 (.int 0)).set 11 (.int 0)).set 11 (.int 0)).set 11 (.int 0)).set 11 (.int 0)).set 11 (.int 0)).set 11 (.int 0)).set 11 (.int 0)).set 11 (.int 0)).set 11 (.int 0)).set 11 (.int 0)).set 11 (.int 0)).set 11 (.int 0)))), (h1, .inr (2, f1))] := hD
  refine lv_iinc (v := 8) (lv' := [(2, .int 8), (4, .int 0), (3, .int 0), (0, .ref h0), (1, .int 0)]) hx hb dX6_gather_144 hl (k := 0) rfl (by decide) (by decide) rfl (fun ls hl => ?_)
  refine lv_goto (tgt := 105) hx hb dX6_gather_147 (by decide) ?_
  refine lv_iload_n hx hb dX6_gather_105 rfl (lv_at hl 0 rfl) ?_
  refine lv_if_lt (tgt := 150) hx hb dX6_gather_106 (by decide) (fun c9 => absurd c9 (by decide)) (fun _ => ?_)
  refine lv_aload_n hx hb dX6_gather_109 rfl (lv_at hl 3 rfl) ?_
  refine lv_dup hx hb dX6_gather_110 rfl ?_
  refine k_get (D := D) (ci := 6) (v := .int 0) (N := 14) hx hb hts hin6 hown hK hP 0 rfl rfl (by decide) f9_6_11 (hts (.fieldLink RX6 90 "IntegerHouse$Places" "needed" "I") (o9_X6_gather _ (List.mem_of_getElem? (i := 1) rfl))) (k_set (k_set (k_set (k_set (k_set (k_set (k_set (k_set (k_set (k_set (k_set (k_set (k_set (k_set (k_set (k_set (k_ne (by decide) (k_set (k_ne (by decide) e1))))))))))))))))))) dX6_gather_111 ?_
  refine lv_aload_n hx hb dX6_gather_114 rfl (lv_at hl 3 rfl) ?_
  refine k_get (D := D) (ci := 6) (v := .int 0) (N := 14) hx hb hts hin6 hown hK hP 0 rfl rfl (by decide) f9_6_11 (hts (.fieldLink RX6 90 "IntegerHouse$Places" "needed" "I") (o9_X6_gather _ (List.mem_of_getElem? (i := 1) rfl))) (k_set (k_set (k_set (k_set (k_set (k_set (k_set (k_set (k_set (k_set (k_set (k_set (k_set (k_set (k_set (k_set (k_ne (by decide) (k_set (k_ne (by decide) e1))))))))))))))))))) dX6_gather_115 ?_
  refine lv_iload_n hx hb dX6_gather_118 rfl (lv_at hl 0 rfl) ?_
  refine lv_iushr (v := 0) hx hb dX6_gather_119 (by decide) ?_
  refine lv_iconst (v := 1) hx hb dX6_gather_120 (by decide) ?_
  refine lv_iand hx hb dX6_gather_121 ?_
  refine k_topi (y := 0) (by decide) ?_
  refine lv_iconst (v := 1) hx hb dX6_gather_122 (by decide) ?_
  refine lv_icmp_ne (tgt := 139) hx hb dX6_gather_123 (by decide) (fun _ => ?_) (fun c9 => absurd c9 (by decide))
  refine lv_iconst (v := 0) hx hb dX6_gather_139 (by decide) ?_
  refine lv_ior hx hb dX6_gather_140 ?_
  refine k_topi (y := 0) (by decide) ?_
  refine k_put (D := D) (ci := 6) (v := .int 0) (ty := .int) (N := 14) hx hb hts hin6 tyX6 tyX6_ok nmX6 hown hK hP hD hS 0 rfl rfl (by decide) f9_6_11 (hts (.fieldLink RX6 90 "IntegerHouse$Places" "needed" "I") (o9_X6_gather _ (List.mem_of_getElem? (i := 1) rfl))) rfl pd_2 rfl rfl (k_len (k_set (k_set (k_set (k_set (k_set (k_set (k_set (k_set (k_set (k_set (k_set (k_set (k_set (k_set (k_set (k_set (k_ne (by decide) (k_set (k_ne (by decide) e1)))))))))))))))))))) dX6_gather_141 (fun H locs hP hD hS => ?_)
  have hP : va_P D vwCl [(h0, .inr (6, ((((((((((((((((((((f0.set 10 (.int 0)).set 11 (.int 0)).set 12 (.int 1)).set 11 (.int 0)).set 11 (.int 0)).set 11 (.int 0)).set 11 (.int 0)).set 11 (.int 0)).set 11 (.int 0)).set 11 (.int 0)).set 11 (.int 0)).set 11 (.int 0)).set 11 (.int 0)).set 11 (.int 0)).set 11 (.int 0)).set 11 (.int 0)).set 11 (.int 0)).set 11 (.int 0)).set 11 (.int 0)).set 11 (.int 0)))), (h1, .inr (2, f1))] H := hP
  have hD : va_D A [(h0, .inr (6, ((((((((((((((((((((f0.set 10 (.int 0)).set 11 (.int 0)).set 12 (.int 1)).set 11 (.int 0)).set 11 (.int 0)).set 11 (.int 0)).set 11 (.int 0)).set 11 (.int 0)).set 11 (.int 0)).set 11 (.int 0)).set 11 (.int 0)).set 11 (.int 0)).set 11 (.int 0)).set 11 (.int 0)).set 11 (.int 0)).set 11 (.int 0)).set 11 (.int 0)).set 11 (.int 0)).set 11 (.int 0)).set 11 (.int 0)))), (h1, .inr (2, f1))] := hD
  refine lv_iinc (v := 7) (lv' := [(2, .int 7), (4, .int 0), (3, .int 0), (0, .ref h0), (1, .int 0)]) hx hb dX6_gather_144 hl (k := 0) rfl (by decide) (by decide) rfl (fun ls hl => ?_)
  refine lv_goto (tgt := 105) hx hb dX6_gather_147 (by decide) ?_
  refine lv_iload_n hx hb dX6_gather_105 rfl (lv_at hl 0 rfl) ?_
  refine lv_if_lt (tgt := 150) hx hb dX6_gather_106 (by decide) (fun c9 => absurd c9 (by decide)) (fun _ => ?_)
  refine lv_aload_n hx hb dX6_gather_109 rfl (lv_at hl 3 rfl) ?_
  refine lv_dup hx hb dX6_gather_110 rfl ?_
  refine k_get (D := D) (ci := 6) (v := .int 0) (N := 14) hx hb hts hin6 hown hK hP 0 rfl rfl (by decide) f9_6_11 (hts (.fieldLink RX6 90 "IntegerHouse$Places" "needed" "I") (o9_X6_gather _ (List.mem_of_getElem? (i := 1) rfl))) (k_set (k_set (k_set (k_set (k_set (k_set (k_set (k_set (k_set (k_set (k_set (k_set (k_set (k_set (k_set (k_set (k_set (k_ne (by decide) (k_set (k_ne (by decide) e1)))))))))))))))))))) dX6_gather_111 ?_
  refine lv_aload_n hx hb dX6_gather_114 rfl (lv_at hl 3 rfl) ?_
  refine k_get (D := D) (ci := 6) (v := .int 0) (N := 14) hx hb hts hin6 hown hK hP 0 rfl rfl (by decide) f9_6_11 (hts (.fieldLink RX6 90 "IntegerHouse$Places" "needed" "I") (o9_X6_gather _ (List.mem_of_getElem? (i := 1) rfl))) (k_set (k_set (k_set (k_set (k_set (k_set (k_set (k_set (k_set (k_set (k_set (k_set (k_set (k_set (k_set (k_set (k_set (k_ne (by decide) (k_set (k_ne (by decide) e1)))))))))))))))))))) dX6_gather_115 ?_
  refine lv_iload_n hx hb dX6_gather_118 rfl (lv_at hl 0 rfl) ?_
  refine lv_iushr (v := 0) hx hb dX6_gather_119 (by decide) ?_
  refine lv_iconst (v := 1) hx hb dX6_gather_120 (by decide) ?_
  refine lv_iand hx hb dX6_gather_121 ?_
  refine k_topi (y := 0) (by decide) ?_
  refine lv_iconst (v := 1) hx hb dX6_gather_122 (by decide) ?_
  refine lv_icmp_ne (tgt := 139) hx hb dX6_gather_123 (by decide) (fun _ => ?_) (fun c9 => absurd c9 (by decide))
  refine lv_iconst (v := 0) hx hb dX6_gather_139 (by decide) ?_
  refine lv_ior hx hb dX6_gather_140 ?_
  refine k_topi (y := 0) (by decide) ?_
  refine k_put (D := D) (ci := 6) (v := .int 0) (ty := .int) (N := 14) hx hb hts hin6 tyX6 tyX6_ok nmX6 hown hK hP hD hS 0 rfl rfl (by decide) f9_6_11 (hts (.fieldLink RX6 90 "IntegerHouse$Places" "needed" "I") (o9_X6_gather _ (List.mem_of_getElem? (i := 1) rfl))) rfl pd_2 rfl rfl (k_len (k_set (k_set (k_set (k_set (k_set (k_set (k_set (k_set (k_set (k_set (k_set (k_set (k_set (k_set (k_set (k_set (k_set (k_ne (by decide) (k_set (k_ne (by decide) e1))))))))))))))))))))) dX6_gather_141 (fun H locs hP hD hS => ?_)
  have hP : va_P D vwCl [(h0, .inr (6, (((((((((((((((((((((f0.set 10 (.int 0)).set 11 (.int 0)).set 12 (.int 1)).set 11 (.int 0)).set 11 (.int 0)).set 11 (.int 0)).set 11 (.int 0)).set 11 (.int 0)).set 11 (.int 0)).set 11 (.int 0)).set 11 (.int 0)).set 11 (.int 0)).set 11 (.int 0)).set 11 (.int 0)).set 11 (.int 0)).set 11 (.int 0)).set 11 (.int 0)).set 11 (.int 0)).set 11 (.int 0)).set 11 (.int 0)).set 11 (.int 0)))), (h1, .inr (2, f1))] H := hP
  have hD : va_D A [(h0, .inr (6, (((((((((((((((((((((f0.set 10 (.int 0)).set 11 (.int 0)).set 12 (.int 1)).set 11 (.int 0)).set 11 (.int 0)).set 11 (.int 0)).set 11 (.int 0)).set 11 (.int 0)).set 11 (.int 0)).set 11 (.int 0)).set 11 (.int 0)).set 11 (.int 0)).set 11 (.int 0)).set 11 (.int 0)).set 11 (.int 0)).set 11 (.int 0)).set 11 (.int 0)).set 11 (.int 0)).set 11 (.int 0)).set 11 (.int 0)).set 11 (.int 0)))), (h1, .inr (2, f1))] := hD
  refine lv_iinc (v := 6) (lv' := [(2, .int 6), (4, .int 0), (3, .int 0), (0, .ref h0), (1, .int 0)]) hx hb dX6_gather_144 hl (k := 0) rfl (by decide) (by decide) rfl (fun ls hl => ?_)
  refine lv_goto (tgt := 105) hx hb dX6_gather_147 (by decide) ?_
  refine lv_iload_n hx hb dX6_gather_105 rfl (lv_at hl 0 rfl) ?_
  refine lv_if_lt (tgt := 150) hx hb dX6_gather_106 (by decide) (fun c9 => absurd c9 (by decide)) (fun _ => ?_)
  refine lv_aload_n hx hb dX6_gather_109 rfl (lv_at hl 3 rfl) ?_
  refine lv_dup hx hb dX6_gather_110 rfl ?_
  refine k_get (D := D) (ci := 6) (v := .int 0) (N := 14) hx hb hts hin6 hown hK hP 0 rfl rfl (by decide) f9_6_11 (hts (.fieldLink RX6 90 "IntegerHouse$Places" "needed" "I") (o9_X6_gather _ (List.mem_of_getElem? (i := 1) rfl))) (k_set (k_set (k_set (k_set (k_set (k_set (k_set (k_set (k_set (k_set (k_set (k_set (k_set (k_set (k_set (k_set (k_set (k_set (k_ne (by decide) (k_set (k_ne (by decide) e1))))))))))))))))))))) dX6_gather_111 ?_
  refine lv_aload_n hx hb dX6_gather_114 rfl (lv_at hl 3 rfl) ?_
  refine k_get (D := D) (ci := 6) (v := .int 0) (N := 14) hx hb hts hin6 hown hK hP 0 rfl rfl (by decide) f9_6_11 (hts (.fieldLink RX6 90 "IntegerHouse$Places" "needed" "I") (o9_X6_gather _ (List.mem_of_getElem? (i := 1) rfl))) (k_set (k_set (k_set (k_set (k_set (k_set (k_set (k_set (k_set (k_set (k_set (k_set (k_set (k_set (k_set (k_set (k_set (k_set (k_ne (by decide) (k_set (k_ne (by decide) e1))))))))))))))))))))) dX6_gather_115 ?_
  refine lv_iload_n hx hb dX6_gather_118 rfl (lv_at hl 0 rfl) ?_
  refine lv_iushr (v := 0) hx hb dX6_gather_119 (by decide) ?_
  refine lv_iconst (v := 1) hx hb dX6_gather_120 (by decide) ?_
  refine lv_iand hx hb dX6_gather_121 ?_
  refine k_topi (y := 0) (by decide) ?_
  refine lv_iconst (v := 1) hx hb dX6_gather_122 (by decide) ?_
  refine lv_icmp_ne (tgt := 139) hx hb dX6_gather_123 (by decide) (fun _ => ?_) (fun c9 => absurd c9 (by decide))
  refine lv_iconst (v := 0) hx hb dX6_gather_139 (by decide) ?_
  refine lv_ior hx hb dX6_gather_140 ?_
  refine k_topi (y := 0) (by decide) ?_
  refine k_put (D := D) (ci := 6) (v := .int 0) (ty := .int) (N := 14) hx hb hts hin6 tyX6 tyX6_ok nmX6 hown hK hP hD hS 0 rfl rfl (by decide) f9_6_11 (hts (.fieldLink RX6 90 "IntegerHouse$Places" "needed" "I") (o9_X6_gather _ (List.mem_of_getElem? (i := 1) rfl))) rfl pd_2 rfl rfl (k_len (k_set (k_set (k_set (k_set (k_set (k_set (k_set (k_set (k_set (k_set (k_set (k_set (k_set (k_set (k_set (k_set (k_set (k_set (k_ne (by decide) (k_set (k_ne (by decide) e1)))))))))))))))))))))) dX6_gather_141 (fun H locs hP hD hS => ?_)
  have hP : va_P D vwCl [(h0, .inr (6, ((((((((((((((((((((((f0.set 10 (.int 0)).set 11 (.int 0)).set 12 (.int 1)).set 11 (.int 0)).set 11 (.int 0)).set 11 (.int 0)).set 11 (.int 0)).set 11 (.int 0)).set 11 (.int 0)).set 11 (.int 0)).set 11 (.int 0)).set 11 (.int 0)).set 11 (.int 0)).set 11 (.int 0)).set 11 (.int 0)).set 11 (.int 0)).set 11 (.int 0)).set 11 (.int 0)).set 11 (.int 0)).set 11 (.int 0)).set 11 (.int 0)).set 11 (.int 0)))), (h1, .inr (2, f1))] H := hP
  have hD : va_D A [(h0, .inr (6, ((((((((((((((((((((((f0.set 10 (.int 0)).set 11 (.int 0)).set 12 (.int 1)).set 11 (.int 0)).set 11 (.int 0)).set 11 (.int 0)).set 11 (.int 0)).set 11 (.int 0)).set 11 (.int 0)).set 11 (.int 0)).set 11 (.int 0)).set 11 (.int 0)).set 11 (.int 0)).set 11 (.int 0)).set 11 (.int 0)).set 11 (.int 0)).set 11 (.int 0)).set 11 (.int 0)).set 11 (.int 0)).set 11 (.int 0)).set 11 (.int 0)).set 11 (.int 0)))), (h1, .inr (2, f1))] := hD
  refine lv_iinc (v := 5) (lv' := [(2, .int 5), (4, .int 0), (3, .int 0), (0, .ref h0), (1, .int 0)]) hx hb dX6_gather_144 hl (k := 0) rfl (by decide) (by decide) rfl (fun ls hl => ?_)
  refine lv_goto (tgt := 105) hx hb dX6_gather_147 (by decide) ?_
  refine lv_iload_n hx hb dX6_gather_105 rfl (lv_at hl 0 rfl) ?_
  refine lv_if_lt (tgt := 150) hx hb dX6_gather_106 (by decide) (fun c9 => absurd c9 (by decide)) (fun _ => ?_)
  refine lv_aload_n hx hb dX6_gather_109 rfl (lv_at hl 3 rfl) ?_
  refine lv_dup hx hb dX6_gather_110 rfl ?_
  refine k_get (D := D) (ci := 6) (v := .int 0) (N := 14) hx hb hts hin6 hown hK hP 0 rfl rfl (by decide) f9_6_11 (hts (.fieldLink RX6 90 "IntegerHouse$Places" "needed" "I") (o9_X6_gather _ (List.mem_of_getElem? (i := 1) rfl))) (k_set (k_set (k_set (k_set (k_set (k_set (k_set (k_set (k_set (k_set (k_set (k_set (k_set (k_set (k_set (k_set (k_set (k_set (k_set (k_ne (by decide) (k_set (k_ne (by decide) e1)))))))))))))))))))))) dX6_gather_111 ?_
  refine lv_aload_n hx hb dX6_gather_114 rfl (lv_at hl 3 rfl) ?_
  refine k_get (D := D) (ci := 6) (v := .int 0) (N := 14) hx hb hts hin6 hown hK hP 0 rfl rfl (by decide) f9_6_11 (hts (.fieldLink RX6 90 "IntegerHouse$Places" "needed" "I") (o9_X6_gather _ (List.mem_of_getElem? (i := 1) rfl))) (k_set (k_set (k_set (k_set (k_set (k_set (k_set (k_set (k_set (k_set (k_set (k_set (k_set (k_set (k_set (k_set (k_set (k_set (k_set (k_ne (by decide) (k_set (k_ne (by decide) e1)))))))))))))))))))))) dX6_gather_115 ?_
  refine lv_iload_n hx hb dX6_gather_118 rfl (lv_at hl 0 rfl) ?_
  refine lv_iushr (v := 0) hx hb dX6_gather_119 (by decide) ?_
  refine lv_iconst (v := 1) hx hb dX6_gather_120 (by decide) ?_
  refine lv_iand hx hb dX6_gather_121 ?_
  refine k_topi (y := 0) (by decide) ?_
  refine lv_iconst (v := 1) hx hb dX6_gather_122 (by decide) ?_
  refine lv_icmp_ne (tgt := 139) hx hb dX6_gather_123 (by decide) (fun _ => ?_) (fun c9 => absurd c9 (by decide))
  refine lv_iconst (v := 0) hx hb dX6_gather_139 (by decide) ?_
  refine lv_ior hx hb dX6_gather_140 ?_
  refine k_topi (y := 0) (by decide) ?_
  refine k_put (D := D) (ci := 6) (v := .int 0) (ty := .int) (N := 14) hx hb hts hin6 tyX6 tyX6_ok nmX6 hown hK hP hD hS 0 rfl rfl (by decide) f9_6_11 (hts (.fieldLink RX6 90 "IntegerHouse$Places" "needed" "I") (o9_X6_gather _ (List.mem_of_getElem? (i := 1) rfl))) rfl pd_2 rfl rfl (k_len (k_set (k_set (k_set (k_set (k_set (k_set (k_set (k_set (k_set (k_set (k_set (k_set (k_set (k_set (k_set (k_set (k_set (k_set (k_set (k_ne (by decide) (k_set (k_ne (by decide) e1))))))))))))))))))))))) dX6_gather_141 (fun H locs hP hD hS => ?_)
  have hP : va_P D vwCl [(h0, .inr (6, (((((((((((((((((((((((f0.set 10 (.int 0)).set 11 (.int 0)).set 12 (.int 1)).set 11 (.int 0)).set 11 (.int 0)).set 11 (.int 0)).set 11 (.int 0)).set 11 (.int 0)).set 11 (.int 0)).set 11 (.int 0)).set 11 (.int 0)).set 11 (.int 0)).set 11 (.int 0)).set 11 (.int 0)).set 11 (.int 0)).set 11 (.int 0)).set 11 (.int 0)).set 11 (.int 0)).set 11 (.int 0)).set 11 (.int 0)).set 11 (.int 0)).set 11 (.int 0)).set 11 (.int 0)))), (h1, .inr (2, f1))] H := hP
  have hD : va_D A [(h0, .inr (6, (((((((((((((((((((((((f0.set 10 (.int 0)).set 11 (.int 0)).set 12 (.int 1)).set 11 (.int 0)).set 11 (.int 0)).set 11 (.int 0)).set 11 (.int 0)).set 11 (.int 0)).set 11 (.int 0)).set 11 (.int 0)).set 11 (.int 0)).set 11 (.int 0)).set 11 (.int 0)).set 11 (.int 0)).set 11 (.int 0)).set 11 (.int 0)).set 11 (.int 0)).set 11 (.int 0)).set 11 (.int 0)).set 11 (.int 0)).set 11 (.int 0)).set 11 (.int 0)).set 11 (.int 0)))), (h1, .inr (2, f1))] := hD
  refine lv_iinc (v := 4) (lv' := [(2, .int 4), (4, .int 0), (3, .int 0), (0, .ref h0), (1, .int 0)]) hx hb dX6_gather_144 hl (k := 0) rfl (by decide) (by decide) rfl (fun ls hl => ?_)
  refine lv_goto (tgt := 105) hx hb dX6_gather_147 (by decide) ?_
  refine lv_iload_n hx hb dX6_gather_105 rfl (lv_at hl 0 rfl) ?_
  refine lv_if_lt (tgt := 150) hx hb dX6_gather_106 (by decide) (fun c9 => absurd c9 (by decide)) (fun _ => ?_)
  refine lv_aload_n hx hb dX6_gather_109 rfl (lv_at hl 3 rfl) ?_
  refine lv_dup hx hb dX6_gather_110 rfl ?_
  refine k_get (D := D) (ci := 6) (v := .int 0) (N := 14) hx hb hts hin6 hown hK hP 0 rfl rfl (by decide) f9_6_11 (hts (.fieldLink RX6 90 "IntegerHouse$Places" "needed" "I") (o9_X6_gather _ (List.mem_of_getElem? (i := 1) rfl))) (k_set (k_set (k_set (k_set (k_set (k_set (k_set (k_set (k_set (k_set (k_set (k_set (k_set (k_set (k_set (k_set (k_set (k_set (k_set (k_set (k_ne (by decide) (k_set (k_ne (by decide) e1))))))))))))))))))))))) dX6_gather_111 ?_
  refine lv_aload_n hx hb dX6_gather_114 rfl (lv_at hl 3 rfl) ?_
  refine k_get (D := D) (ci := 6) (v := .int 0) (N := 14) hx hb hts hin6 hown hK hP 0 rfl rfl (by decide) f9_6_11 (hts (.fieldLink RX6 90 "IntegerHouse$Places" "needed" "I") (o9_X6_gather _ (List.mem_of_getElem? (i := 1) rfl))) (k_set (k_set (k_set (k_set (k_set (k_set (k_set (k_set (k_set (k_set (k_set (k_set (k_set (k_set (k_set (k_set (k_set (k_set (k_set (k_set (k_ne (by decide) (k_set (k_ne (by decide) e1))))))))))))))))))))))) dX6_gather_115 ?_
  refine lv_iload_n hx hb dX6_gather_118 rfl (lv_at hl 0 rfl) ?_
  refine lv_iushr (v := 0) hx hb dX6_gather_119 (by decide) ?_
  refine lv_iconst (v := 1) hx hb dX6_gather_120 (by decide) ?_
  refine lv_iand hx hb dX6_gather_121 ?_
  refine k_topi (y := 0) (by decide) ?_
  refine lv_iconst (v := 1) hx hb dX6_gather_122 (by decide) ?_
  refine lv_icmp_ne (tgt := 139) hx hb dX6_gather_123 (by decide) (fun _ => ?_) (fun c9 => absurd c9 (by decide))
  refine lv_iconst (v := 0) hx hb dX6_gather_139 (by decide) ?_
  refine lv_ior hx hb dX6_gather_140 ?_
  refine k_topi (y := 0) (by decide) ?_
  refine k_put (D := D) (ci := 6) (v := .int 0) (ty := .int) (N := 14) hx hb hts hin6 tyX6 tyX6_ok nmX6 hown hK hP hD hS 0 rfl rfl (by decide) f9_6_11 (hts (.fieldLink RX6 90 "IntegerHouse$Places" "needed" "I") (o9_X6_gather _ (List.mem_of_getElem? (i := 1) rfl))) rfl pd_2 rfl rfl (k_len (k_set (k_set (k_set (k_set (k_set (k_set (k_set (k_set (k_set (k_set (k_set (k_set (k_set (k_set (k_set (k_set (k_set (k_set (k_set (k_set (k_ne (by decide) (k_set (k_ne (by decide) e1)))))))))))))))))))))))) dX6_gather_141 (fun H locs hP hD hS => ?_)
  have hP : va_P D vwCl [(h0, .inr (6, ((((((((((((((((((((((((f0.set 10 (.int 0)).set 11 (.int 0)).set 12 (.int 1)).set 11 (.int 0)).set 11 (.int 0)).set 11 (.int 0)).set 11 (.int 0)).set 11 (.int 0)).set 11 (.int 0)).set 11 (.int 0)).set 11 (.int 0)).set 11 (.int 0)).set 11 (.int 0)).set 11 (.int 0)).set 11 (.int 0)).set 11 (.int 0)).set 11 (.int 0)).set 11 (.int 0)).set 11 (.int 0)).set 11 (.int 0)).set 11 (.int 0)).set 11 (.int 0)).set 11 (.int 0)).set 11 (.int 0)))), (h1, .inr (2, f1))] H := hP
  have hD : va_D A [(h0, .inr (6, ((((((((((((((((((((((((f0.set 10 (.int 0)).set 11 (.int 0)).set 12 (.int 1)).set 11 (.int 0)).set 11 (.int 0)).set 11 (.int 0)).set 11 (.int 0)).set 11 (.int 0)).set 11 (.int 0)).set 11 (.int 0)).set 11 (.int 0)).set 11 (.int 0)).set 11 (.int 0)).set 11 (.int 0)).set 11 (.int 0)).set 11 (.int 0)).set 11 (.int 0)).set 11 (.int 0)).set 11 (.int 0)).set 11 (.int 0)).set 11 (.int 0)).set 11 (.int 0)).set 11 (.int 0)).set 11 (.int 0)))), (h1, .inr (2, f1))] := hD
  refine lv_iinc (v := 3) (lv' := [(2, .int 3), (4, .int 0), (3, .int 0), (0, .ref h0), (1, .int 0)]) hx hb dX6_gather_144 hl (k := 0) rfl (by decide) (by decide) rfl (fun ls hl => ?_)
  refine lv_goto (tgt := 105) hx hb dX6_gather_147 (by decide) ?_
  refine lv_iload_n hx hb dX6_gather_105 rfl (lv_at hl 0 rfl) ?_
  refine lv_if_lt (tgt := 150) hx hb dX6_gather_106 (by decide) (fun c9 => absurd c9 (by decide)) (fun _ => ?_)
  refine lv_aload_n hx hb dX6_gather_109 rfl (lv_at hl 3 rfl) ?_
  refine lv_dup hx hb dX6_gather_110 rfl ?_
  refine k_get (D := D) (ci := 6) (v := .int 0) (N := 14) hx hb hts hin6 hown hK hP 0 rfl rfl (by decide) f9_6_11 (hts (.fieldLink RX6 90 "IntegerHouse$Places" "needed" "I") (o9_X6_gather _ (List.mem_of_getElem? (i := 1) rfl))) (k_set (k_set (k_set (k_set (k_set (k_set (k_set (k_set (k_set (k_set (k_set (k_set (k_set (k_set (k_set (k_set (k_set (k_set (k_set (k_set (k_set (k_ne (by decide) (k_set (k_ne (by decide) e1)))))))))))))))))))))))) dX6_gather_111 ?_
  refine lv_aload_n hx hb dX6_gather_114 rfl (lv_at hl 3 rfl) ?_
  refine k_get (D := D) (ci := 6) (v := .int 0) (N := 14) hx hb hts hin6 hown hK hP 0 rfl rfl (by decide) f9_6_11 (hts (.fieldLink RX6 90 "IntegerHouse$Places" "needed" "I") (o9_X6_gather _ (List.mem_of_getElem? (i := 1) rfl))) (k_set (k_set (k_set (k_set (k_set (k_set (k_set (k_set (k_set (k_set (k_set (k_set (k_set (k_set (k_set (k_set (k_set (k_set (k_set (k_set (k_set (k_ne (by decide) (k_set (k_ne (by decide) e1)))))))))))))))))))))))) dX6_gather_115 ?_
  refine lv_iload_n hx hb dX6_gather_118 rfl (lv_at hl 0 rfl) ?_
  refine lv_iushr (v := 0) hx hb dX6_gather_119 (by decide) ?_
  refine lv_iconst (v := 1) hx hb dX6_gather_120 (by decide) ?_
  refine lv_iand hx hb dX6_gather_121 ?_
  refine k_topi (y := 0) (by decide) ?_
  refine lv_iconst (v := 1) hx hb dX6_gather_122 (by decide) ?_
  refine lv_icmp_ne (tgt := 139) hx hb dX6_gather_123 (by decide) (fun _ => ?_) (fun c9 => absurd c9 (by decide))
  refine lv_iconst (v := 0) hx hb dX6_gather_139 (by decide) ?_
  refine lv_ior hx hb dX6_gather_140 ?_
  refine k_topi (y := 0) (by decide) ?_
  refine k_put (D := D) (ci := 6) (v := .int 0) (ty := .int) (N := 14) hx hb hts hin6 tyX6 tyX6_ok nmX6 hown hK hP hD hS 0 rfl rfl (by decide) f9_6_11 (hts (.fieldLink RX6 90 "IntegerHouse$Places" "needed" "I") (o9_X6_gather _ (List.mem_of_getElem? (i := 1) rfl))) rfl pd_2 rfl rfl (k_len (k_set (k_set (k_set (k_set (k_set (k_set (k_set (k_set (k_set (k_set (k_set (k_set (k_set (k_set (k_set (k_set (k_set (k_set (k_set (k_set (k_set (k_ne (by decide) (k_set (k_ne (by decide) e1))))))))))))))))))))))))) dX6_gather_141 (fun H locs hP hD hS => ?_)
  have hP : va_P D vwCl [(h0, .inr (6, (((((((((((((((((((((((((f0.set 10 (.int 0)).set 11 (.int 0)).set 12 (.int 1)).set 11 (.int 0)).set 11 (.int 0)).set 11 (.int 0)).set 11 (.int 0)).set 11 (.int 0)).set 11 (.int 0)).set 11 (.int 0)).set 11 (.int 0)).set 11 (.int 0)).set 11 (.int 0)).set 11 (.int 0)).set 11 (.int 0)).set 11 (.int 0)).set 11 (.int 0)).set 11 (.int 0)).set 11 (.int 0)).set 11 (.int 0)).set 11 (.int 0)).set 11 (.int 0)).set 11 (.int 0)).set 11 (.int 0)).set 11 (.int 0)))), (h1, .inr (2, f1))] H := hP
  have hD : va_D A [(h0, .inr (6, (((((((((((((((((((((((((f0.set 10 (.int 0)).set 11 (.int 0)).set 12 (.int 1)).set 11 (.int 0)).set 11 (.int 0)).set 11 (.int 0)).set 11 (.int 0)).set 11 (.int 0)).set 11 (.int 0)).set 11 (.int 0)).set 11 (.int 0)).set 11 (.int 0)).set 11 (.int 0)).set 11 (.int 0)).set 11 (.int 0)).set 11 (.int 0)).set 11 (.int 0)).set 11 (.int 0)).set 11 (.int 0)).set 11 (.int 0)).set 11 (.int 0)).set 11 (.int 0)).set 11 (.int 0)).set 11 (.int 0)).set 11 (.int 0)))), (h1, .inr (2, f1))] := hD
  refine lv_iinc (v := 2) (lv' := [(2, .int 2), (4, .int 0), (3, .int 0), (0, .ref h0), (1, .int 0)]) hx hb dX6_gather_144 hl (k := 0) rfl (by decide) (by decide) rfl (fun ls hl => ?_)
  refine lv_goto (tgt := 105) hx hb dX6_gather_147 (by decide) ?_
  refine lv_iload_n hx hb dX6_gather_105 rfl (lv_at hl 0 rfl) ?_
  refine lv_if_lt (tgt := 150) hx hb dX6_gather_106 (by decide) (fun c9 => absurd c9 (by decide)) (fun _ => ?_)
  refine lv_aload_n hx hb dX6_gather_109 rfl (lv_at hl 3 rfl) ?_
  refine lv_dup hx hb dX6_gather_110 rfl ?_
  refine k_get (D := D) (ci := 6) (v := .int 0) (N := 14) hx hb hts hin6 hown hK hP 0 rfl rfl (by decide) f9_6_11 (hts (.fieldLink RX6 90 "IntegerHouse$Places" "needed" "I") (o9_X6_gather _ (List.mem_of_getElem? (i := 1) rfl))) (k_set (k_set (k_set (k_set (k_set (k_set (k_set (k_set (k_set (k_set (k_set (k_set (k_set (k_set (k_set (k_set (k_set (k_set (k_set (k_set (k_set (k_set (k_ne (by decide) (k_set (k_ne (by decide) e1))))))))))))))))))))))))) dX6_gather_111 ?_
  refine lv_aload_n hx hb dX6_gather_114 rfl (lv_at hl 3 rfl) ?_
  refine k_get (D := D) (ci := 6) (v := .int 0) (N := 14) hx hb hts hin6 hown hK hP 0 rfl rfl (by decide) f9_6_11 (hts (.fieldLink RX6 90 "IntegerHouse$Places" "needed" "I") (o9_X6_gather _ (List.mem_of_getElem? (i := 1) rfl))) (k_set (k_set (k_set (k_set (k_set (k_set (k_set (k_set (k_set (k_set (k_set (k_set (k_set (k_set (k_set (k_set (k_set (k_set (k_set (k_set (k_set (k_set (k_ne (by decide) (k_set (k_ne (by decide) e1))))))))))))))))))))))))) dX6_gather_115 ?_
  refine lv_iload_n hx hb dX6_gather_118 rfl (lv_at hl 0 rfl) ?_
  refine lv_iushr (v := 0) hx hb dX6_gather_119 (by decide) ?_
  refine lv_iconst (v := 1) hx hb dX6_gather_120 (by decide) ?_
  refine lv_iand hx hb dX6_gather_121 ?_
  refine k_topi (y := 0) (by decide) ?_
  refine lv_iconst (v := 1) hx hb dX6_gather_122 (by decide) ?_
  refine lv_icmp_ne (tgt := 139) hx hb dX6_gather_123 (by decide) (fun _ => ?_) (fun c9 => absurd c9 (by decide))
  refine lv_iconst (v := 0) hx hb dX6_gather_139 (by decide) ?_
  refine lv_ior hx hb dX6_gather_140 ?_
  refine k_topi (y := 0) (by decide) ?_
  refine k_put (D := D) (ci := 6) (v := .int 0) (ty := .int) (N := 14) hx hb hts hin6 tyX6 tyX6_ok nmX6 hown hK hP hD hS 0 rfl rfl (by decide) f9_6_11 (hts (.fieldLink RX6 90 "IntegerHouse$Places" "needed" "I") (o9_X6_gather _ (List.mem_of_getElem? (i := 1) rfl))) rfl pd_2 rfl rfl (k_len (k_set (k_set (k_set (k_set (k_set (k_set (k_set (k_set (k_set (k_set (k_set (k_set (k_set (k_set (k_set (k_set (k_set (k_set (k_set (k_set (k_set (k_set (k_ne (by decide) (k_set (k_ne (by decide) e1)))))))))))))))))))))))))) dX6_gather_141 (fun H locs hP hD hS => ?_)
  have hP : va_P D vwCl [(h0, .inr (6, ((((((((((((((((((((((((((f0.set 10 (.int 0)).set 11 (.int 0)).set 12 (.int 1)).set 11 (.int 0)).set 11 (.int 0)).set 11 (.int 0)).set 11 (.int 0)).set 11 (.int 0)).set 11 (.int 0)).set 11 (.int 0)).set 11 (.int 0)).set 11 (.int 0)).set 11 (.int 0)).set 11 (.int 0)).set 11 (.int 0)).set 11 (.int 0)).set 11 (.int 0)).set 11 (.int 0)).set 11 (.int 0)).set 11 (.int 0)).set 11 (.int 0)).set 11 (.int 0)).set 11 (.int 0)).set 11 (.int 0)).set 11 (.int 0)).set 11 (.int 0)))), (h1, .inr (2, f1))] H := hP
  have hD : va_D A [(h0, .inr (6, ((((((((((((((((((((((((((f0.set 10 (.int 0)).set 11 (.int 0)).set 12 (.int 1)).set 11 (.int 0)).set 11 (.int 0)).set 11 (.int 0)).set 11 (.int 0)).set 11 (.int 0)).set 11 (.int 0)).set 11 (.int 0)).set 11 (.int 0)).set 11 (.int 0)).set 11 (.int 0)).set 11 (.int 0)).set 11 (.int 0)).set 11 (.int 0)).set 11 (.int 0)).set 11 (.int 0)).set 11 (.int 0)).set 11 (.int 0)).set 11 (.int 0)).set 11 (.int 0)).set 11 (.int 0)).set 11 (.int 0)).set 11 (.int 0)).set 11 (.int 0)))), (h1, .inr (2, f1))] := hD
  refine lv_iinc (v := 1) (lv' := [(2, .int 1), (4, .int 0), (3, .int 0), (0, .ref h0), (1, .int 0)]) hx hb dX6_gather_144 hl (k := 0) rfl (by decide) (by decide) rfl (fun ls hl => ?_)
  refine lv_goto (tgt := 105) hx hb dX6_gather_147 (by decide) ?_
  refine lv_iload_n hx hb dX6_gather_105 rfl (lv_at hl 0 rfl) ?_
  refine lv_if_lt (tgt := 150) hx hb dX6_gather_106 (by decide) (fun c9 => absurd c9 (by decide)) (fun _ => ?_)
  refine lv_aload_n hx hb dX6_gather_109 rfl (lv_at hl 3 rfl) ?_
  refine lv_dup hx hb dX6_gather_110 rfl ?_
  refine k_get (D := D) (ci := 6) (v := .int 0) (N := 14) hx hb hts hin6 hown hK hP 0 rfl rfl (by decide) f9_6_11 (hts (.fieldLink RX6 90 "IntegerHouse$Places" "needed" "I") (o9_X6_gather _ (List.mem_of_getElem? (i := 1) rfl))) (k_set (k_set (k_set (k_set (k_set (k_set (k_set (k_set (k_set (k_set (k_set (k_set (k_set (k_set (k_set (k_set (k_set (k_set (k_set (k_set (k_set (k_set (k_set (k_ne (by decide) (k_set (k_ne (by decide) e1)))))))))))))))))))))))))) dX6_gather_111 ?_
  refine lv_aload_n hx hb dX6_gather_114 rfl (lv_at hl 3 rfl) ?_
  refine k_get (D := D) (ci := 6) (v := .int 0) (N := 14) hx hb hts hin6 hown hK hP 0 rfl rfl (by decide) f9_6_11 (hts (.fieldLink RX6 90 "IntegerHouse$Places" "needed" "I") (o9_X6_gather _ (List.mem_of_getElem? (i := 1) rfl))) (k_set (k_set (k_set (k_set (k_set (k_set (k_set (k_set (k_set (k_set (k_set (k_set (k_set (k_set (k_set (k_set (k_set (k_set (k_set (k_set (k_set (k_set (k_set (k_ne (by decide) (k_set (k_ne (by decide) e1)))))))))))))))))))))))))) dX6_gather_115 ?_
  refine lv_iload_n hx hb dX6_gather_118 rfl (lv_at hl 0 rfl) ?_
  refine lv_iushr (v := 0) hx hb dX6_gather_119 (by decide) ?_
  refine lv_iconst (v := 1) hx hb dX6_gather_120 (by decide) ?_
  refine lv_iand hx hb dX6_gather_121 ?_
  refine k_topi (y := 0) (by decide) ?_
  refine lv_iconst (v := 1) hx hb dX6_gather_122 (by decide) ?_
  refine lv_icmp_ne (tgt := 139) hx hb dX6_gather_123 (by decide) (fun _ => ?_) (fun c9 => absurd c9 (by decide))
  refine lv_iconst (v := 0) hx hb dX6_gather_139 (by decide) ?_
  refine lv_ior hx hb dX6_gather_140 ?_
  refine k_topi (y := 0) (by decide) ?_
  refine k_put (D := D) (ci := 6) (v := .int 0) (ty := .int) (N := 14) hx hb hts hin6 tyX6 tyX6_ok nmX6 hown hK hP hD hS 0 rfl rfl (by decide) f9_6_11 (hts (.fieldLink RX6 90 "IntegerHouse$Places" "needed" "I") (o9_X6_gather _ (List.mem_of_getElem? (i := 1) rfl))) rfl pd_2 rfl rfl (k_len (k_set (k_set (k_set (k_set (k_set (k_set (k_set (k_set (k_set (k_set (k_set (k_set (k_set (k_set (k_set (k_set (k_set (k_set (k_set (k_set (k_set (k_set (k_set (k_ne (by decide) (k_set (k_ne (by decide) e1))))))))))))))))))))))))))) dX6_gather_141 (fun H locs hP hD hS => ?_)
  have hP : va_P D vwCl [(h0, .inr (6, (((((((((((((((((((((((((((f0.set 10 (.int 0)).set 11 (.int 0)).set 12 (.int 1)).set 11 (.int 0)).set 11 (.int 0)).set 11 (.int 0)).set 11 (.int 0)).set 11 (.int 0)).set 11 (.int 0)).set 11 (.int 0)).set 11 (.int 0)).set 11 (.int 0)).set 11 (.int 0)).set 11 (.int 0)).set 11 (.int 0)).set 11 (.int 0)).set 11 (.int 0)).set 11 (.int 0)).set 11 (.int 0)).set 11 (.int 0)).set 11 (.int 0)).set 11 (.int 0)).set 11 (.int 0)).set 11 (.int 0)).set 11 (.int 0)).set 11 (.int 0)).set 11 (.int 0)))), (h1, .inr (2, f1))] H := hP
  have hD : va_D A [(h0, .inr (6, (((((((((((((((((((((((((((f0.set 10 (.int 0)).set 11 (.int 0)).set 12 (.int 1)).set 11 (.int 0)).set 11 (.int 0)).set 11 (.int 0)).set 11 (.int 0)).set 11 (.int 0)).set 11 (.int 0)).set 11 (.int 0)).set 11 (.int 0)).set 11 (.int 0)).set 11 (.int 0)).set 11 (.int 0)).set 11 (.int 0)).set 11 (.int 0)).set 11 (.int 0)).set 11 (.int 0)).set 11 (.int 0)).set 11 (.int 0)).set 11 (.int 0)).set 11 (.int 0)).set 11 (.int 0)).set 11 (.int 0)).set 11 (.int 0)).set 11 (.int 0)).set 11 (.int 0)))), (h1, .inr (2, f1))] := hD
  refine lv_iinc (v := 0) (lv' := [(2, .int 0), (4, .int 0), (3, .int 0), (0, .ref h0), (1, .int 0)]) hx hb dX6_gather_144 hl (k := 0) rfl (by decide) (by decide) rfl (fun ls hl => ?_)
  refine lv_goto (tgt := 105) hx hb dX6_gather_147 (by decide) ?_
  refine lv_iload_n hx hb dX6_gather_105 rfl (lv_at hl 0 rfl) ?_
  refine lv_if_lt (tgt := 150) hx hb dX6_gather_106 (by decide) (fun c9 => absurd c9 (by decide)) (fun _ => ?_)
  refine lv_aload_n hx hb dX6_gather_109 rfl (lv_at hl 3 rfl) ?_
  refine lv_dup hx hb dX6_gather_110 rfl ?_
  refine k_get (D := D) (ci := 6) (v := .int 0) (N := 14) hx hb hts hin6 hown hK hP 0 rfl rfl (by decide) f9_6_11 (hts (.fieldLink RX6 90 "IntegerHouse$Places" "needed" "I") (o9_X6_gather _ (List.mem_of_getElem? (i := 1) rfl))) (k_set (k_set (k_set (k_set (k_set (k_set (k_set (k_set (k_set (k_set (k_set (k_set (k_set (k_set (k_set (k_set (k_set (k_set (k_set (k_set (k_set (k_set (k_set (k_set (k_ne (by decide) (k_set (k_ne (by decide) e1))))))))))))))))))))))))))) dX6_gather_111 ?_
  refine lv_aload_n hx hb dX6_gather_114 rfl (lv_at hl 3 rfl) ?_
  refine k_get (D := D) (ci := 6) (v := .int 0) (N := 14) hx hb hts hin6 hown hK hP 0 rfl rfl (by decide) f9_6_11 (hts (.fieldLink RX6 90 "IntegerHouse$Places" "needed" "I") (o9_X6_gather _ (List.mem_of_getElem? (i := 1) rfl))) (k_set (k_set (k_set (k_set (k_set (k_set (k_set (k_set (k_set (k_set (k_set (k_set (k_set (k_set (k_set (k_set (k_set (k_set (k_set (k_set (k_set (k_set (k_set (k_set (k_ne (by decide) (k_set (k_ne (by decide) e1))))))))))))))))))))))))))) dX6_gather_115 ?_
  refine lv_iload_n hx hb dX6_gather_118 rfl (lv_at hl 0 rfl) ?_
  refine lv_iushr (v := 0) hx hb dX6_gather_119 (by decide) ?_
  refine lv_iconst (v := 1) hx hb dX6_gather_120 (by decide) ?_
  refine lv_iand hx hb dX6_gather_121 ?_
  refine k_topi (y := 0) (by decide) ?_
  refine lv_iconst (v := 1) hx hb dX6_gather_122 (by decide) ?_
  refine lv_icmp_ne (tgt := 139) hx hb dX6_gather_123 (by decide) (fun _ => ?_) (fun c9 => absurd c9 (by decide))
  refine lv_iconst (v := 0) hx hb dX6_gather_139 (by decide) ?_
  refine lv_ior hx hb dX6_gather_140 ?_
  refine k_topi (y := 0) (by decide) ?_
  refine k_put (D := D) (ci := 6) (v := .int 0) (ty := .int) (N := 14) hx hb hts hin6 tyX6 tyX6_ok nmX6 hown hK hP hD hS 0 rfl rfl (by decide) f9_6_11 (hts (.fieldLink RX6 90 "IntegerHouse$Places" "needed" "I") (o9_X6_gather _ (List.mem_of_getElem? (i := 1) rfl))) rfl pd_2 rfl rfl (k_len (k_set (k_set (k_set (k_set (k_set (k_set (k_set (k_set (k_set (k_set (k_set (k_set (k_set (k_set (k_set (k_set (k_set (k_set (k_set (k_set (k_set (k_set (k_set (k_set (k_ne (by decide) (k_set (k_ne (by decide) e1)))))))))))))))))))))))))))) dX6_gather_141 (fun H locs hP hD hS => ?_)
  have hP : va_P D vwCl [(h0, .inr (6, ((((((((((((((((((((((((((((f0.set 10 (.int 0)).set 11 (.int 0)).set 12 (.int 1)).set 11 (.int 0)).set 11 (.int 0)).set 11 (.int 0)).set 11 (.int 0)).set 11 (.int 0)).set 11 (.int 0)).set 11 (.int 0)).set 11 (.int 0)).set 11 (.int 0)).set 11 (.int 0)).set 11 (.int 0)).set 11 (.int 0)).set 11 (.int 0)).set 11 (.int 0)).set 11 (.int 0)).set 11 (.int 0)).set 11 (.int 0)).set 11 (.int 0)).set 11 (.int 0)).set 11 (.int 0)).set 11 (.int 0)).set 11 (.int 0)).set 11 (.int 0)).set 11 (.int 0)).set 11 (.int 0)))), (h1, .inr (2, f1))] H := hP
  have hD : va_D A [(h0, .inr (6, ((((((((((((((((((((((((((((f0.set 10 (.int 0)).set 11 (.int 0)).set 12 (.int 1)).set 11 (.int 0)).set 11 (.int 0)).set 11 (.int 0)).set 11 (.int 0)).set 11 (.int 0)).set 11 (.int 0)).set 11 (.int 0)).set 11 (.int 0)).set 11 (.int 0)).set 11 (.int 0)).set 11 (.int 0)).set 11 (.int 0)).set 11 (.int 0)).set 11 (.int 0)).set 11 (.int 0)).set 11 (.int 0)).set 11 (.int 0)).set 11 (.int 0)).set 11 (.int 0)).set 11 (.int 0)).set 11 (.int 0)).set 11 (.int 0)).set 11 (.int 0)).set 11 (.int 0)).set 11 (.int 0)))), (h1, .inr (2, f1))] := hD
  refine lv_iinc (v := (-1)) (lv' := [(2, .int (-1)), (4, .int 0), (3, .int 0), (0, .ref h0), (1, .int 0)]) hx hb dX6_gather_144 hl (k := 0) rfl (by decide) (by decide) rfl (fun ls hl => ?_)
  refine lv_goto (tgt := 105) hx hb dX6_gather_147 (by decide) ?_
  refine lv_iload_n hx hb dX6_gather_105 rfl (lv_at hl 0 rfl) ?_
  refine lv_if_lt (tgt := 150) hx hb dX6_gather_106 (by decide) (fun _ => ?_) (fun c9 => absurd (by decide) c9)
  refine lv_iconst (v := 1) hx hb dX6_gather_150 (by decide) ?_
  exact W.zret (v := 1) hx hb hr rfl (fun t ht hW => ⟨⟨1, (), rfl, rfl, kB_mk ht hW hP hK hD⟩, hS.F ht⟩) hS.2.2 dX6_gather_151
