theorem dX0_farFrom_0 : decode cX0_farFrom 0 = .ok (.iload_n 1, 1) := by decide +kernel
theorem dX0_farFrom_1 : decode cX0_farFrom 1 = .ok (.ifCond .lt 19, 3) := by decide +kernel
theorem dX0_farFrom_4 : decode cX0_farFrom 4 = .ok (.iload_n 1, 1) := by decide +kernel
theorem dX0_farFrom_5 : decode cX0_farFrom 5 = .ok (.sipush 3000, 3) := by decide +kernel
theorem dX0_farFrom_8 : decode cX0_farFrom 8 = .ok (.if_icmp .ge 12, 3) := by decide +kernel
theorem dX0_farFrom_11 : decode cX0_farFrom 11 = .ok (.aload_n 0, 1) := by decide +kernel
theorem dX0_farFrom_12 : decode cX0_farFrom 12 = .ok (.getfield 18, 3) := by decide +kernel
theorem dX0_farFrom_15 : decode cX0_farFrom 15 = .ok (.iload_n 1, 1) := by decide +kernel
theorem dX0_farFrom_16 : decode cX0_farFrom 16 = .ok (.iaload, 1) := by decide +kernel
theorem dX0_farFrom_17 : decode cX0_farFrom 17 = .ok (.goto 4, 3) := by decide +kernel
theorem dX0_farFrom_21 : decode cX0_farFrom 21 = .ok (.ireturn, 1) := by decide +kernel
theorem dX0_mark_0 : decode cX0_mark 0 = .ok (.iconst 0, 1) := by decide +kernel
theorem dX0_mark_1 : decode cX0_mark 1 = .ok (.istore_n 3, 1) := by decide +kernel
theorem dX0_mark_2 : decode cX0_mark 2 = .ok (.iconst 0, 1) := by decide +kernel
theorem dX0_mark_3 : decode cX0_mark 3 = .ok (.istore 4, 2) := by decide +kernel
theorem dX0_mark_5 : decode cX0_mark 5 = .ok (.iload 4, 2) := by decide +kernel
theorem dX0_mark_7 : decode cX0_mark 7 = .ok (.iload_n 1, 1) := by decide +kernel
theorem dX0_mark_8 : decode cX0_mark 8 = .ok (.if_icmp .ge 109, 3) := by decide +kernel
theorem dX0_mark_11 : decode cX0_mark 11 = .ok (.iload 4, 2) := by decide +kernel
theorem dX0_mark_13 : decode cX0_mark 13 = .ok (.sipush 3000, 3) := by decide +kernel
theorem dX0_mark_16 : decode cX0_mark 16 = .ok (.if_icmp .ge 101, 3) := by decide +kernel
theorem dX0_mark_19 : decode cX0_mark 19 = .ok (.aload_n 0, 1) := by decide +kernel
theorem dX0_mark_20 : decode cX0_mark 20 = .ok (.getfield 18, 3) := by decide +kernel
theorem dX0_mark_23 : decode cX0_mark 23 = .ok (.iload 4, 2) := by decide +kernel
theorem dX0_mark_25 : decode cX0_mark 25 = .ok (.iaload, 1) := by decide +kernel
theorem dX0_mark_26 : decode cX0_mark 26 = .ok (.iload_n 2, 1) := by decide +kernel
theorem dX0_mark_27 : decode cX0_mark 27 = .ok (.if_icmp .ne 84, 3) := by decide +kernel
theorem dX0_mark_30 : decode cX0_mark 30 = .ok (.iconst 0, 1) := by decide +kernel
theorem dX0_mark_31 : decode cX0_mark 31 = .ok (.istore 5, 2) := by decide +kernel
theorem dX0_mark_33 : decode cX0_mark 33 = .ok (.iconst 0, 1) := by decide +kernel
theorem dX0_mark_34 : decode cX0_mark 34 = .ok (.istore 6, 2) := by decide +kernel
theorem dX0_mark_36 : decode cX0_mark 36 = .ok (.iload 6, 2) := by decide +kernel
theorem dX0_mark_38 : decode cX0_mark 38 = .ok (.aload_n 0, 1) := by decide +kernel
theorem dX0_mark_39 : decode cX0_mark 39 = .ok (.getfield 48, 3) := by decide +kernel
theorem dX0_mark_42 : decode cX0_mark 42 = .ok (.getfield 92, 3) := by decide +kernel
theorem dX0_mark_45 : decode cX0_mark 45 = .ok (.if_icmp .ge 40, 3) := by decide +kernel
theorem dX0_mark_48 : decode cX0_mark 48 = .ok (.iload 5, 2) := by decide +kernel
theorem dX0_mark_50 : decode cX0_mark 50 = .ok (.ifCond .ne 35, 3) := by decide +kernel
theorem dX0_mark_53 : decode cX0_mark 53 = .ok (.aload_n 0, 1) := by decide +kernel
theorem dX0_mark_54 : decode cX0_mark 54 = .ok (.aload_n 0, 1) := by decide +kernel
theorem dX0_mark_55 : decode cX0_mark 55 = .ok (.getfield 48, 3) := by decide +kernel
theorem dX0_mark_58 : decode cX0_mark 58 = .ok (.iload 4, 2) := by decide +kernel
theorem dX0_mark_60 : decode cX0_mark 60 = .ok (.iload 6, 2) := by decide +kernel
theorem dX0_mark_62 : decode cX0_mark 62 = .ok (.invokevirtual 95, 3) := by decide +kernel
theorem dX0_mark_65 : decode cX0_mark 65 = .ok (.invokevirtual 98, 3) := by decide +kernel
theorem dX0_mark_68 : decode cX0_mark 68 = .ok (.iconst 1, 1) := by decide +kernel
theorem dX0_mark_69 : decode cX0_mark 69 = .ok (.if_icmp .ne 7, 3) := by decide +kernel
theorem dX0_mark_76 : decode cX0_mark 76 = .ok (.iconst 0, 1) := by decide +kernel
theorem dX0_mark_77 : decode cX0_mark 77 = .ok (.istore 5, 2) := by decide +kernel
theorem dX0_mark_79 : decode cX0_mark 79 = .ok (.iinc 6 1, 3) := by decide +kernel
theorem dX0_mark_82 : decode cX0_mark 82 = .ok (.goto (-46), 3) := by decide +kernel
theorem dX0_mark_85 : decode cX0_mark 85 = .ok (.iload 5, 2) := by decide +kernel
theorem dX0_mark_87 : decode cX0_mark 87 = .ok (.iload_n 2, 1) := by decide +kernel
theorem dX0_mark_88 : decode cX0_mark 88 = .ok (.ifCond .ne 7, 3) := by decide +kernel
theorem dX0_mark_91 : decode cX0_mark 91 = .ok (.iconst 1, 1) := by decide +kernel
theorem dX0_mark_92 : decode cX0_mark 92 = .ok (.goto 4, 3) := by decide +kernel
theorem dX0_mark_96 : decode cX0_mark 96 = .ok (.if_icmp .ne 15, 3) := by decide +kernel
theorem dX0_mark_111 : decode cX0_mark 111 = .ok (.iinc 4 1, 3) := by decide +kernel
theorem dX0_mark_114 : decode cX0_mark 114 = .ok (.goto (-109), 3) := by decide +kernel
theorem dX0_mark_117 : decode cX0_mark 117 = .ok (.iload_n 3, 1) := by decide +kernel
theorem dX0_mark_118 : decode cX0_mark 118 = .ok (.ireturn, 1) := by decide +kernel
theorem dX6_behind_0 : decode cX6_behind 0 = .ok (.iload_n 1, 1) := by decide +kernel
theorem dX6_behind_1 : decode cX6_behind 1 = .ok (.ifCond .lt 24, 3) := by decide +kernel
theorem dX6_behind_4 : decode cX6_behind 4 = .ok (.iload_n 1, 1) := by decide +kernel
theorem dX6_behind_5 : decode cX6_behind 5 = .ok (.sipush 3000, 3) := by decide +kernel
theorem dX6_behind_8 : decode cX6_behind 8 = .ok (.if_icmp .ge 17, 3) := by decide +kernel
theorem dX6_behind_11 : decode cX6_behind 11 = .ok (.iload_n 2, 1) := by decide +kernel
theorem dX6_behind_12 : decode cX6_behind 12 = .ok (.ifCond .lt 13, 3) := by decide +kernel
theorem dX6_behind_15 : decode cX6_behind 15 = .ok (.iload_n 2, 1) := by decide +kernel
theorem dX6_behind_16 : decode cX6_behind 16 = .ok (.bipush 16, 2) := by decide +kernel
theorem dX6_behind_18 : decode cX6_behind 18 = .ok (.if_icmp .ge 7, 3) := by decide +kernel
theorem dX6_behind_21 : decode cX6_behind 21 = .ok (.iconst 1, 1) := by decide +kernel
theorem dX6_behind_22 : decode cX6_behind 22 = .ok (.goto 4, 3) := by decide +kernel
theorem dX6_behind_26 : decode cX6_behind 26 = .ok (.istore_n 3, 1) := by decide +kernel
theorem dX6_behind_27 : decode cX6_behind 27 = .ok (.iload_n 3, 1) := by decide +kernel
theorem dX6_behind_28 : decode cX6_behind 28 = .ok (.ifCond .eq 17, 3) := by decide +kernel
theorem dX6_behind_31 : decode cX6_behind 31 = .ok (.aload_n 0, 1) := by decide +kernel
theorem dX6_behind_32 : decode cX6_behind 32 = .ok (.getfield 35, 3) := by decide +kernel
theorem dX6_behind_35 : decode cX6_behind 35 = .ok (.iload_n 1, 1) := by decide +kernel
theorem dX6_behind_36 : decode cX6_behind 36 = .ok (.bipush 16, 2) := by decide +kernel
theorem dX6_behind_38 : decode cX6_behind 38 = .ok (.imul, 1) := by decide +kernel
theorem dX6_behind_39 : decode cX6_behind 39 = .ok (.iload_n 2, 1) := by decide +kernel
theorem dX6_behind_40 : decode cX6_behind 40 = .ok (.iadd, 1) := by decide +kernel
theorem dX6_behind_41 : decode cX6_behind 41 = .ok (.iaload, 1) := by decide +kernel
theorem dX6_behind_42 : decode cX6_behind 42 = .ok (.goto 4, 3) := by decide +kernel
theorem dX6_behind_46 : decode cX6_behind 46 = .ok (.ireturn, 1) := by decide +kernel
theorem dX11_number_0 : decode cX11_number 0 = .ok (.aload_n 0, 1) := by decide +kernel
theorem dX11_number_1 : decode cX11_number 1 = .ok (.getfield 64, 3) := by decide +kernel
theorem dX11_number_4 : decode cX11_number 4 = .ok (.getfield 335, 3) := by decide +kernel
theorem dX11_number_7 : decode cX11_number 7 = .ok (.lreturn, 1) := by decide +kernel
theorem dX12_number_0 : decode cX12_number 0 = .ok (.aload_n 0, 1) := by decide +kernel
theorem dX12_number_1 : decode cX12_number 1 = .ok (.iconst 0, 1) := by decide +kernel
theorem dX12_number_2 : decode cX12_number 2 = .ok (.putfield 3, 3) := by decide +kernel
theorem dX12_number_5 : decode cX12_number 5 = .ok (.aload_n 0, 1) := by decide +kernel
theorem dX12_number_6 : decode cX12_number 6 = .ok (.getfield 1030, 3) := by decide +kernel
theorem dX12_number_9 : decode cX12_number 9 = .ok (.lreturn, 1) := by decide +kernel
set_option maxHeartbeats 400000000 in
set_option maxRecDepth 100000 in
theorem c_X11_extreme_1 (l : Launch) (E : kE) (D : va_G) (cI cJ cB cZ : ClassId) (h0 : Nat) (f0 : List Value) (h1 : Nat) (f1 : List Value) (h2 : Nat) (f2 : List Value) (h3 : Nat) (h4 : Nat) (f3 : List Value) (h5 : Nat) (f4 : List Value) (h6 : Nat) (h7 : Nat) (h8 : Nat) (h9 : Nat) (h10 : Nat) (g0 : Nat → Int32) (g1 : Nat → Int32) (g2 : Nat → Int32) (g3 : Nat → Int32) (e0 : f0[1]? = some (.ref h1)) (e1 : f1[8]? = some (.int 0)) (e2 : f0[2]? = some (.ref h2)) (e3 : f2[12]? = some (.int 0)) (e4 : f0[5]? = some (.ref h3)) (e5 : f0[0]? = some (.ref h4)) (e6 : f0[12]? = some (.int 0)) (e7 : f3[0]? = some (.ref h5)) (e8 : f4[6]? = some (.ref h6)) (e9 : f4[7]? = some (.int 0)) (e10 : f4[8]? = some (.int 0)) (e11 : f4[5]? = some (.int 0)) (e12 : f4[1]? = some (.ref h7)) (e13 : f4[2]? = some (.ref h8)) (e14 : f3[3]? = some (.int 0)) (e15 : f3[4]? = some (.int 0)) (e16 : f3[5]? = some (.int 0)) (e17 : f3[6]? = some (.int 0)) (e18 : f3[7]? = some (.int 0)) (e19 : f3[8]? = some (.int 0)) (e20 : f3[11]? = some (.int 0)) (e21 : f3[12]? = some (.int 0)) (e22 : f3[13]? = some (.int 0)) (e23 : f3[14]? = some (.int 0)) (e24 : f3[1]? = some (.ref h2)) (e25 : f2[5]? = some (.ref h9)) (e26 : f2[10]? = some (.int 0)) (e27 : f2[3]? = some (.ref h10)) (e28 : f0[13]? = some (.int 0)) : kI l E D (kT cI cJ cB cZ) yX11_extreme vW_X11_extreme ({ frames := 6, cells := 0, slots := 0, locals := 134 }) [.ref h0, .int 0] [(h0, .inr (11, f0)), (h1, .inr (1, f1)), (h2, .inr (2, f2)), (h3, .inr (8, f3)), (h5, .inr (3, f4)), (h7, .inl (cI, 2001, .inl g0)), (h8, .inl (cI, 2001, .inl g1)), (h9, .inl (cI, 260, .inl g2)), (h10, .inl (cI, 13312, .inl g3))] ((-1000)) [(h0, .inr (11, ((f0.set 12 (.int 0)).set 13 (.int 2)))), (h1, .inr (1, f1)), (h2, .inr (2, (f2.set 12 (.int 0)))), (h3, .inr (8, ((((((((((((((((((f3.set 3 (.int 0)).set 4 (.int 0)).set 5 (.int 0)).set 6 (.int (-1))).set 6 (.int 0)).set 7 (.int 0)).set 8 (.int 0)).set 11 (.int 25)).set 12 (.int 0)).set 13 (.int 0)).set 14 (.int 0)).set 3 (.int 2)).set 4 (.int 0)).set 7 (.int 44)).set 13 (.int 1)).set 13 (.int 2)).set 5 (.int 0)).set 7 (.int 44)))), (h5, .inr (3, ((((f4.set 6 (.ref h4)).set 7 (.int 0)).set 8 (.int 0)).set 5 (.int 0)))), (h7, .inl (cI, 2001, .inl (upd g0 0 0))), (h8, .inl (cI, 2001, .inl (upd g1 0 0))), (h9, .inl (cI, 260, .inl (upd (upd (upd g2 259 0) 250 0) 251 2))), (h10, .inl (cI, 13312, .inl (upd (upd g3 12800 43) 12801 43)))] 0 0 := by
  intro sz
  refine Met.ofW (cc := cX11_extreme) (maxL := 5) (ret := (some .int)) (by decide) rfl ?_
  intro p e s m args below meth c s₁ B hml hv
  obtain ⟨rfl, hsz, hP, hK, hD0, hN, hX⟩ := hv
  have hx := B.exec
  have hb := B.bytes
  have hr := B.returns
  have hts := atoms_spec (ws := vW_X11_extreme) B.pre
  have hown : s.vm.findClass RX11 = some m.cls := findClass_of_methodNamed B.named
  have hlocks := B.notSynchronized
  have hin11 : ∀ w ∈ wsX110, w ∈ vW_X11_extreme := u9_X11_extreme_wsX110
  have hin1 : ∀ w ∈ wsX10, w ∈ vW_X11_extreme := u9_X11_extreme_wsX10
  have hin2 : ∀ w ∈ wsX20, w ∈ vW_X11_extreme := u9_X11_extreme_wsX20
  subst hsz
  have hD := hD0.self (sz := s.heap.size)
  have hAE := k_AE hD0 hX
  generalize hAe : va_A [(h0, .inr (11, f0)), (h1, .inr (1, f1)), (h2, .inr (2, f2)), (h3, .inr (8, f3)), (h5, .inr (3, f4)), (h7, .inl (cI, 2001, .inl g0)), (h8, .inl (cI, 2001, .inl g1)), (h9, .inl (cI, 260, .inl g2)), (h10, .inl (cI, 13312, .inl g3))] s.heap.size = A at hD hAE ⊢
  have hA : ∀ q : Nat, s.heap.size ≤ q → A q := fun q h => by rw [← hAe]; exact Or.inr h
  have hS : va_S A s.heap s.heap [] := va_S.rf
  have hP : va_P D vwCl [(h0, .inr (11, f0)), (h1, .inr (1, f1)), (h2, .inr (2, f2)), (h3, .inr (8, f3)), (h5, .inr (3, f4)), (h7, .inl (cI, 2001, .inl g0)), (h8, .inl (cI, 2001, .inl g1)), (h9, .inl (cI, 260, .inl g2)), (h10, .inl (cI, 13312, .inl g3))] s.heap := hP
  have hl := lv_entry ([.ref h0, .int 0] : List Value) (n := 5) (Nat.le_of_ble_eq_true rfl)
  rw [lg_entry_eq]
  generalize (lg_sl ([.ref h0, .int 0]) ++ List.replicate (5 - (lg_sl ([.ref h0, .int 0])).length) Slot.unset).toArray = ls at hl ⊢
  have hl : lv_has ls 5 [(0, .ref h0), (1, .int 0)] := hl
  refine lv_aload_n hx hb dX11_extreme_0 rfl (lv_at hl 0 rfl) ?_
  refine k_get (D := D) (ci := 11) (v := .ref h1) (N := 15) hx hb hts hin11 hown hK hP 0 rfl rfl (by decide) f9_11_1 (hts (.fieldLink RX11 16 "IntegerHouse" "disk" "LIntegerHouse$Disk;") (o9_X11_extreme _ (List.mem_of_getElem? (i := 0) rfl))) e0 dX11_extreme_1 ?_
  refine k_getN (host := "IntegerHouse") (D := D) (ci := 1) (v := .int 0) (N := 9) hx hb hts hin1 hown hK hP 1 rfl rfl (by decide) f9_1_8 (va_Nw.use rfl (hN.1 ("IntegerHouse", 122, "IntegerHouse$Disk", "down", "Z", "IntegerHouse") (List.mem_of_getElem? (i := 3) rfl))) e1 dX11_extreme_4 ?_
  refine lv_if_eq (tgt := 13) hx hb dX11_extreme_7 (by decide) (fun _ => ?_) (fun c9 => absurd (by decide) c9)
  refine lv_aload_n hx hb dX11_extreme_13 rfl (lv_at hl 0 rfl) ?_
  refine k_get (D := D) (ci := 11) (v := .ref h2) (N := 15) hx hb hts hin11 hown hK hP 0 rfl rfl (by decide) f9_11_2 (hts (.fieldLink RX11 23 "IntegerHouse" "house" "LIntegerHouse$House;") (o9_X11_extreme _ (List.mem_of_getElem? (i := 1) rfl))) e2 dX11_extreme_14 ?_
  refine k_getN (host := "IntegerHouse") (D := D) (ci := 2) (v := .int 0) (N := 16) hx hb hts hin2 hown hK hP 2 rfl rfl (by decide) f9_2_12 (va_Nw.use rfl (hN.1 ("IntegerHouse", 233, "IntegerHouse$House", "poolSize", "I", "IntegerHouse") (List.mem_of_getElem? (i := 16) rfl))) e3 dX11_extreme_17 ?_
  refine lv_istore_n (lv' := [(2, .int 0), (0, .ref h0), (1, .int 0)]) hx hb dX11_extreme_20 rfl hl (by decide) rfl (fun ls hl => ?_)
  refine lv_aload_n hx hb dX11_extreme_21 rfl (lv_at hl 1 rfl) ?_
  refine k_get (D := D) (ci := 11) (v := .ref h3) (N := 15) hx hb hts hin11 hown hK hP 0 rfl rfl (by decide) f9_11_5 (hts (.fieldLink RX11 48 "IntegerHouse" "reader" "LIntegerHouse$Reader;") (o9_X11_extreme _ (List.mem_of_getElem? (i := 2) rfl))) e4 dX11_extreme_22 ?_
  refine lv_aload_n hx hb dX11_extreme_25 rfl (lv_at hl 1 rfl) ?_
  refine k_get (D := D) (ci := 11) (v := .ref h4) (N := 15) hx hb hts hin11 hown hK hP 0 rfl rfl (by decide) f9_11_0 (hts (.fieldLink RX11 9 "IntegerHouse" "tape" "[B") (o9_X11_extreme _ (List.mem_of_getElem? (i := 3) rfl))) e5 dX11_extreme_26 ?_
  refine lv_aload_n hx hb dX11_extreme_29 rfl (lv_at hl 1 rfl) ?_
  refine k_cVi (As := []) (rest := [.ref h4, .ref h3]) (wc := [(h0, .inr (11, f0))]) (wr := [(h1, .inr (1, f1)), (h2, .inr (2, f2)), (h3, .inr (8, f3)), (h5, .inr (3, f4)), (h7, .inl (cI, 2001, .inl g0)), (h8, .inl (cI, 2001, .inl g1)), (h9, .inl (cI, 260, .inl g2)), (h10, .inl (cI, 13312, .inl g3))]) (w1 := [(h0, .inr (11, (f0.set 12 (.int 0))))]) ⟨hx, hb, hml, hown, hts⟩ hN hX hAE hK hP hD hS hA [0] [1, 2, 3, 4, 5, 6, 7, 8] (ci := 11) rfl rfl rfl rfl (by decide +kernel) (by decide +kernel) (by decide +kernel) (c_X11_useTape_0 l E D cI cJ cB cZ h0 f0 e6) (cwV 0 hts g9_X11_extreme_X11_useTape_230 rfl rfl rfl (by decide +kernel) ⟨Nat.le_of_ble_eq_true rfl, Nat.le_of_ble_eq_true rfl⟩) rfl hl.1 (Nat.le_of_ble_eq_true rfl) dX11_extreme_30 ⟨Nat.le_of_ble_eq_true rfl, Nat.le_of_ble_eq_true rfl⟩ (fun H locs hP hD hS => ?_)
  have hP : va_P D vwCl [(h1, .inr (1, f1)), (h2, .inr (2, f2)), (h3, .inr (8, f3)), (h5, .inr (3, f4)), (h7, .inl (cI, 2001, .inl g0)), (h8, .inl (cI, 2001, .inl g1)), (h9, .inl (cI, 260, .inl g2)), (h10, .inl (cI, 13312, .inl g3)), (h0, .inr (11, (f0.set 12 (.int 0))))] H := hP
  have hD : va_D A [(h1, .inr (1, f1)), (h2, .inr (2, f2)), (h3, .inr (8, f3)), (h5, .inr (3, f4)), (h7, .inl (cI, 2001, .inl g0)), (h8, .inl (cI, 2001, .inl g1)), (h9, .inl (cI, 260, .inl g2)), (h10, .inl (cI, 13312, .inl g3)), (h0, .inr (11, (f0.set 12 (.int 0))))] := hD
  refine k_cVi (As := [.ref h4, .int 0]) (rest := []) (wc := [(h3, .inr (8, f3)), (h5, .inr (3, f4)), (h7, .inl (cI, 2001, .inl g0)), (h8, .inl (cI, 2001, .inl g1)), (h2, .inr (2, f2)), (h9, .inl (cI, 260, .inl g2)), (h10, .inl (cI, 13312, .inl g3))]) (wr := [(h1, .inr (1, f1)), (h0, .inr (11, (f0.set 12 (.int 0))))]) (w1 := [(h3, .inr (8, ((((((((((((((((((f3.set 3 (.int 0)).set 4 (.int 0)).set 5 (.int 0)).set 6 (.int (-1))).set 6 (.int 0)).set 7 (.int 0)).set 8 (.int 0)).set 11 (.int 25)).set 12 (.int 0)).set 13 (.int 0)).set 14 (.int 0)).set 3 (.int 2)).set 4 (.int 0)).set 7 (.int 44)).set 13 (.int 1)).set 13 (.int 2)).set 5 (.int 0)).set 7 (.int 44)))), (h5, .inr (3, ((((f4.set 6 (.ref h4)).set 7 (.int 0)).set 8 (.int 0)).set 5 (.int 0)))), (h7, .inl (cI, 2001, .inl (upd g0 0 0))), (h8, .inl (cI, 2001, .inl (upd g1 0 0))), (h2, .inr (2, f2)), (h9, .inl (cI, 260, .inl (upd (upd (upd g2 259 0) 250 0) 251 2))), (h10, .inl (cI, 13312, .inl (upd (upd g3 12800 43) 12801 43)))]) ⟨hx, hb, hml, hown, hts⟩ hN hX hAE hK hP hD hS hA [2, 3, 4, 5, 1, 6, 7] [0, 8] (ci := 8) rfl rfl rfl rfl (by decide +kernel) (by decide +kernel) (by decide +kernel) (c_X8_readExtreme_0 l E D cI cJ cB cZ h3 h4 f3 h5 f4 h6 h7 h8 g0 g1 h2 f2 h9 h10 g2 g3 e7 e8 e9 e10 e11 e12 e13 e14 e15 e16 e17 e18 e19 e20 e21 e22 e23 e24 e25 e26 e27) (cwV 2 hts g9_X11_extreme_X8_readExtreme_321 rfl rfl rfl (by decide +kernel) ⟨Nat.le_of_ble_eq_true rfl, Nat.le_of_ble_eq_true rfl⟩) rfl hl.1 (Nat.le_of_ble_eq_true rfl) dX11_extreme_33 ⟨Nat.le_of_ble_eq_true rfl, Nat.le_of_ble_eq_true rfl⟩ (fun H locs hP hD hS => ?_)
  have hP : va_P D vwCl [(h1, .inr (1, f1)), (h0, .inr (11, (f0.set 12 (.int 0)))), (h3, .inr (8, ((((((((((((((((((f3.set 3 (.int 0)).set 4 (.int 0)).set 5 (.int 0)).set 6 (.int (-1))).set 6 (.int 0)).set 7 (.int 0)).set 8 (.int 0)).set 11 (.int 25)).set 12 (.int 0)).set 13 (.int 0)).set 14 (.int 0)).set 3 (.int 2)).set 4 (.int 0)).set 7 (.int 44)).set 13 (.int 1)).set 13 (.int 2)).set 5 (.int 0)).set 7 (.int 44)))), (h5, .inr (3, ((((f4.set 6 (.ref h4)).set 7 (.int 0)).set 8 (.int 0)).set 5 (.int 0)))), (h7, .inl (cI, 2001, .inl (upd g0 0 0))), (h8, .inl (cI, 2001, .inl (upd g1 0 0))), (h2, .inr (2, f2)), (h9, .inl (cI, 260, .inl (upd (upd (upd g2 259 0) 250 0) 251 2))), (h10, .inl (cI, 13312, .inl (upd (upd g3 12800 43) 12801 43)))] H := hP
  have hD : va_D A [(h1, .inr (1, f1)), (h0, .inr (11, (f0.set 12 (.int 0)))), (h3, .inr (8, ((((((((((((((((((f3.set 3 (.int 0)).set 4 (.int 0)).set 5 (.int 0)).set 6 (.int (-1))).set 6 (.int 0)).set 7 (.int 0)).set 8 (.int 0)).set 11 (.int 25)).set 12 (.int 0)).set 13 (.int 0)).set 14 (.int 0)).set 3 (.int 2)).set 4 (.int 0)).set 7 (.int 44)).set 13 (.int 1)).set 13 (.int 2)).set 5 (.int 0)).set 7 (.int 44)))), (h5, .inr (3, ((((f4.set 6 (.ref h4)).set 7 (.int 0)).set 8 (.int 0)).set 5 (.int 0)))), (h7, .inl (cI, 2001, .inl (upd g0 0 0))), (h8, .inl (cI, 2001, .inl (upd g1 0 0))), (h2, .inr (2, f2)), (h9, .inl (cI, 260, .inl (upd (upd (upd g2 259 0) 250 0) 251 2))), (h10, .inl (cI, 13312, .inl (upd (upd g3 12800 43) 12801 43)))] := hD
  refine lv_if_ne (tgt := 47) hx hb dX11_extreme_36 (by decide) (fun c9 => absurd (by decide) c9) (fun _ => ?_)
  refine lv_aload_n hx hb dX11_extreme_39 rfl (lv_at hl 1 rfl) ?_
  refine k_cVi (As := []) (rest := []) (wc := [(h0, .inr (11, (f0.set 12 (.int 0)))), (h3, .inr (8, ((((((((((((((((((f3.set 3 (.int 0)).set 4 (.int 0)).set 5 (.int 0)).set 6 (.int (-1))).set 6 (.int 0)).set 7 (.int 0)).set 8 (.int 0)).set 11 (.int 25)).set 12 (.int 0)).set 13 (.int 0)).set 14 (.int 0)).set 3 (.int 2)).set 4 (.int 0)).set 7 (.int 44)).set 13 (.int 1)).set 13 (.int 2)).set 5 (.int 0)).set 7 (.int 44))))]) (wr := [(h1, .inr (1, f1)), (h5, .inr (3, ((((f4.set 6 (.ref h4)).set 7 (.int 0)).set 8 (.int 0)).set 5 (.int 0)))), (h7, .inl (cI, 2001, .inl (upd g0 0 0))), (h8, .inl (cI, 2001, .inl (upd g1 0 0))), (h2, .inr (2, f2)), (h9, .inl (cI, 260, .inl (upd (upd (upd g2 259 0) 250 0) 251 2))), (h10, .inl (cI, 13312, .inl (upd (upd g3 12800 43) 12801 43)))]) (w1 := [(h0, .inr (11, ((f0.set 12 (.int 0)).set 13 (.int 2)))), (h3, .inr (8, ((((((((((((((((((f3.set 3 (.int 0)).set 4 (.int 0)).set 5 (.int 0)).set 6 (.int (-1))).set 6 (.int 0)).set 7 (.int 0)).set 8 (.int 0)).set 11 (.int 25)).set 12 (.int 0)).set 13 (.int 0)).set 14 (.int 0)).set 3 (.int 2)).set 4 (.int 0)).set 7 (.int 44)).set 13 (.int 1)).set 13 (.int 2)).set 5 (.int 0)).set 7 (.int 44))))]) ⟨hx, hb, hml, hown, hts⟩ hN hX hAE hK hP hD hS hA [1, 2] [0, 3, 4, 5, 6, 7, 8] (ci := 11) rfl rfl rfl rfl (by decide +kernel) (by decide +kernel) (by decide +kernel) (c_X11_faulted_0 l E D cI cJ cB cZ h0 ((f0.set 12 (.int 0))) h3 (((((((((((((((((((f3.set 3 (.int 0)).set 4 (.int 0)).set 5 (.int 0)).set 6 (.int (-1))).set 6 (.int 0)).set 7 (.int 0)).set 8 (.int 0)).set 11 (.int 25)).set 12 (.int 0)).set 13 (.int 0)).set 14 (.int 0)).set 3 (.int 2)).set 4 (.int 0)).set 7 (.int 44)).set 13 (.int 1)).set 13 (.int 2)).set 5 (.int 0)).set 7 (.int 44))) (k_ne (by decide) e4) (k_ne (by decide) (k_ne (by decide) (k_ne (by decide) (k_ne (by decide) (k_ne (by decide) (k_ne (by decide) (k_set (k_ne (by decide) (k_ne (by decide) (k_ne (by decide) (k_ne (by decide) (k_ne (by decide) (k_ne (by decide) (k_ne (by decide) (k_ne (by decide) (k_ne (by decide) (k_ne (by decide) (k_set e14)))))))))))))))))) (k_ne (by decide) e28) (k_ne (by decide) (k_ne (by decide) (k_ne (by decide) (k_ne (by decide) (k_ne (by decide) (k_set (k_ne (by decide) (k_ne (by decide) (k_ne (by decide) (k_ne (by decide) (k_ne (by decide) (k_ne (by decide) (k_ne (by decide) (k_ne (by decide) (k_ne (by decide) (k_ne (by decide) (k_set (k_ne (by decide) e15))))))))))))))))))) (cwV 0 hts g9_X11_extreme_X11_faulted_236 rfl rfl rfl (by decide +kernel) ⟨Nat.le_of_ble_eq_true rfl, Nat.le_of_ble_eq_true rfl⟩) rfl hl.1 (Nat.le_of_ble_eq_true rfl) dX11_extreme_40 ⟨Nat.le_of_ble_eq_true rfl, Nat.le_of_ble_eq_true rfl⟩ (fun H locs hP hD hS => ?_)
  have hP : va_P D vwCl [(h1, .inr (1, f1)), (h5, .inr (3, ((((f4.set 6 (.ref h4)).set 7 (.int 0)).set 8 (.int 0)).set 5 (.int 0)))), (h7, .inl (cI, 2001, .inl (upd g0 0 0))), (h8, .inl (cI, 2001, .inl (upd g1 0 0))), (h2, .inr (2, f2)), (h9, .inl (cI, 260, .inl (upd (upd (upd g2 259 0) 250 0) 251 2))), (h10, .inl (cI, 13312, .inl (upd (upd g3 12800 43) 12801 43))), (h0, .inr (11, ((f0.set 12 (.int 0)).set 13 (.int 2)))), (h3, .inr (8, ((((((((((((((((((f3.set 3 (.int 0)).set 4 (.int 0)).set 5 (.int 0)).set 6 (.int (-1))).set 6 (.int 0)).set 7 (.int 0)).set 8 (.int 0)).set 11 (.int 25)).set 12 (.int 0)).set 13 (.int 0)).set 14 (.int 0)).set 3 (.int 2)).set 4 (.int 0)).set 7 (.int 44)).set 13 (.int 1)).set 13 (.int 2)).set 5 (.int 0)).set 7 (.int 44))))] H := hP
  have hD : va_D A [(h1, .inr (1, f1)), (h5, .inr (3, ((((f4.set 6 (.ref h4)).set 7 (.int 0)).set 8 (.int 0)).set 5 (.int 0)))), (h7, .inl (cI, 2001, .inl (upd g0 0 0))), (h8, .inl (cI, 2001, .inl (upd g1 0 0))), (h2, .inr (2, f2)), (h9, .inl (cI, 260, .inl (upd (upd (upd g2 259 0) 250 0) 251 2))), (h10, .inl (cI, 13312, .inl (upd (upd g3 12800 43) 12801 43))), (h0, .inr (11, ((f0.set 12 (.int 0)).set 13 (.int 2)))), (h3, .inr (8, ((((((((((((((((((f3.set 3 (.int 0)).set 4 (.int 0)).set 5 (.int 0)).set 6 (.int (-1))).set 6 (.int 0)).set 7 (.int 0)).set 8 (.int 0)).set 11 (.int 25)).set 12 (.int 0)).set 13 (.int 0)).set 14 (.int 0)).set 3 (.int 2)).set 4 (.int 0)).set 7 (.int 44)).set 13 (.int 1)).set 13 (.int 2)).set 5 (.int 0)).set 7 (.int 44))))] := hD
  refine lv_istore_n (lv' := [(3, .int (-1000)), (2, .int 0), (0, .ref h0), (1, .int 0)]) hx hb dX11_extreme_43 rfl hl (by decide) rfl (fun ls hl => ?_)
  refine lv_goto (tgt := 115) hx hb dX11_extreme_44 (by decide) ?_
  refine lv_aload_n hx hb dX11_extreme_115 rfl (lv_at hl 2 rfl) ?_
  refine k_get (D := D) (ci := 11) (v := .ref h2) (N := 15) hx hb hts hin11 hown hK hP 7 rfl rfl (by decide) f9_11_2 (hts (.fieldLink RX11 23 "IntegerHouse" "house" "LIntegerHouse$House;") (o9_X11_extreme _ (List.mem_of_getElem? (i := 1) rfl))) (k_ne (by decide) (k_ne (by decide) e2)) dX11_extreme_116 ?_
  refine lv_iload_n hx hb dX11_extreme_119 rfl (lv_at hl 1 rfl) ?_
  refine k_putN (host := "IntegerHouse") (D := D) (ci := 2) (v := .int 0) (ty := .int) (N := 16) hx hb hts hin2 tyX2 tyX2_ok nmX2 hown hK hP hD hS 4 rfl rfl (by decide) f9_2_12 (va_Nw.use rfl (hN.1 ("IntegerHouse", 233, "IntegerHouse$House", "poolSize", "I", "IntegerHouse") (List.mem_of_getElem? (i := 16) rfl))) rfl pd_2 rfl rfl (k_len e3) dX11_extreme_120 (fun H locs hP hD hS => ?_)
  have hP : va_P D vwCl [(h1, .inr (1, f1)), (h5, .inr (3, ((((f4.set 6 (.ref h4)).set 7 (.int 0)).set 8 (.int 0)).set 5 (.int 0)))), (h7, .inl (cI, 2001, .inl (upd g0 0 0))), (h8, .inl (cI, 2001, .inl (upd g1 0 0))), (h2, .inr (2, (f2.set 12 (.int 0)))), (h9, .inl (cI, 260, .inl (upd (upd (upd g2 259 0) 250 0) 251 2))), (h10, .inl (cI, 13312, .inl (upd (upd g3 12800 43) 12801 43))), (h0, .inr (11, ((f0.set 12 (.int 0)).set 13 (.int 2)))), (h3, .inr (8, ((((((((((((((((((f3.set 3 (.int 0)).set 4 (.int 0)).set 5 (.int 0)).set 6 (.int (-1))).set 6 (.int 0)).set 7 (.int 0)).set 8 (.int 0)).set 11 (.int 25)).set 12 (.int 0)).set 13 (.int 0)).set 14 (.int 0)).set 3 (.int 2)).set 4 (.int 0)).set 7 (.int 44)).set 13 (.int 1)).set 13 (.int 2)).set 5 (.int 0)).set 7 (.int 44))))] H := hP
  have hD : va_D A [(h1, .inr (1, f1)), (h5, .inr (3, ((((f4.set 6 (.ref h4)).set 7 (.int 0)).set 8 (.int 0)).set 5 (.int 0)))), (h7, .inl (cI, 2001, .inl (upd g0 0 0))), (h8, .inl (cI, 2001, .inl (upd g1 0 0))), (h2, .inr (2, (f2.set 12 (.int 0)))), (h9, .inl (cI, 260, .inl (upd (upd (upd g2 259 0) 250 0) 251 2))), (h10, .inl (cI, 13312, .inl (upd (upd g3 12800 43) 12801 43))), (h0, .inr (11, ((f0.set 12 (.int 0)).set 13 (.int 2)))), (h3, .inr (8, ((((((((((((((((((f3.set 3 (.int 0)).set 4 (.int 0)).set 5 (.int 0)).set 6 (.int (-1))).set 6 (.int 0)).set 7 (.int 0)).set 8 (.int 0)).set 11 (.int 25)).set 12 (.int 0)).set 13 (.int 0)).set 14 (.int 0)).set 3 (.int 2)).set 4 (.int 0)).set 7 (.int 44)).set 13 (.int 1)).set 13 (.int 2)).set 5 (.int 0)).set 7 (.int 44))))] := hD
  refine lv_iload_n hx hb dX11_extreme_123 rfl (lv_at hl 0 rfl) ?_
  have hP := hP.sub (ws' := [(h0, .inr (11, ((f0.set 12 (.int 0)).set 13 (.int 2)))), (h1, .inr (1, f1)), (h2, .inr (2, (f2.set 12 (.int 0)))), (h3, .inr (8, ((((((((((((((((((f3.set 3 (.int 0)).set 4 (.int 0)).set 5 (.int 0)).set 6 (.int (-1))).set 6 (.int 0)).set 7 (.int 0)).set 8 (.int 0)).set 11 (.int 25)).set 12 (.int 0)).set 13 (.int 0)).set 14 (.int 0)).set 3 (.int 2)).set 4 (.int 0)).set 7 (.int 44)).set 13 (.int 1)).set 13 (.int 2)).set 5 (.int 0)).set 7 (.int 44)))), (h5, .inr (3, ((((f4.set 6 (.ref h4)).set 7 (.int 0)).set 8 (.int 0)).set 5 (.int 0)))), (h7, .inl (cI, 2001, .inl (upd g0 0 0))), (h8, .inl (cI, 2001, .inl (upd g1 0 0))), (h9, .inl (cI, 260, .inl (upd (upd (upd g2 259 0) 250 0) 251 2))), (h10, .inl (cI, 13312, .inl (upd (upd g3 12800 43) 12801 43)))]) [7, 0, 4, 8, 1, 2, 3, 5, 6] rfl
  have hD := hD.sub (ws' := [(h0, .inr (11, ((f0.set 12 (.int 0)).set 13 (.int 2)))), (h1, .inr (1, f1)), (h2, .inr (2, (f2.set 12 (.int 0)))), (h3, .inr (8, ((((((((((((((((((f3.set 3 (.int 0)).set 4 (.int 0)).set 5 (.int 0)).set 6 (.int (-1))).set 6 (.int 0)).set 7 (.int 0)).set 8 (.int 0)).set 11 (.int 25)).set 12 (.int 0)).set 13 (.int 0)).set 14 (.int 0)).set 3 (.int 2)).set 4 (.int 0)).set 7 (.int 44)).set 13 (.int 1)).set 13 (.int 2)).set 5 (.int 0)).set 7 (.int 44)))), (h5, .inr (3, ((((f4.set 6 (.ref h4)).set 7 (.int 0)).set 8 (.int 0)).set 5 (.int 0)))), (h7, .inl (cI, 2001, .inl (upd g0 0 0))), (h8, .inl (cI, 2001, .inl (upd g1 0 0))), (h9, .inl (cI, 260, .inl (upd (upd (upd g2 259 0) 250 0) 251 2))), (h10, .inl (cI, 13312, .inl (upd (upd g3 12800 43) 12801 43)))]) [7, 0, 4, 8, 1, 2, 3, 5, 6] (by decide +kernel) rfl
  exact W.iret (v := (-1000)) hx hb hr (fun t ht hW => ⟨⟨(-1000), (), rfl, rfl, kB_mk ht hW hP hK hD⟩, hS.F ht⟩) hS.2.2 dX11_extreme_124
set_option maxHeartbeats 400000000 in
set_option maxRecDepth 100000 in
theorem c_X12_extreme_1 (l : Launch) (E : kE) (D : va_G) (cI cJ cB cZ : ClassId) (h0 : Nat) (f0 : List Value) (h1 : Nat) (h2 : Nat) (h3 : Nat) (h4 : Nat) (g0 : Nat → Int32) (g1 : Nat → Int32) (g2 : Nat → Int32) (g3 : Nat → Int32) (h5 : Nat) (h6 : Nat) (h7 : Nat) (h8 : Nat) (h9 : Nat) (g4 : Nat → Int32) (g5 : Nat → Int32) (g6 : Nat → Int32) (g7 : Nat → Int32) (g8 : Nat → Int32) (h10 : Nat) (h11 : Nat) (h12 : Nat) (h13 : Nat) (h14 : Nat) (g9 : Nat → Int32) (g10 : Nat → Int32) (g11 : Nat → Int32) (g12 : Nat → Int64) (g13 : Nat → Int32) (e0 : f0[0]? = some (.int 0)) (e1 : f0[5]? = some (.int 0)) (e2 : f0[2]? = some (.int 0)) (e3 : f0[12]? = some (.int 0)) (e4 : f0[32]? = some (.int 0)) (e5 : f0[36]? = some (.int 0)) (e6 : f0[33]? = some (.int 0)) (e7 : f0[37]? = some (.int 0)) (e8 : f0[27]? = some (.int 0)) (e9 : f0[31]? = some (.int 0)) (e10 : f0[28]? = some (.int 0)) (e11 : f0[23]? = some (.ref h1)) (e12 : f0[24]? = some (.ref h2)) (e13 : f0[25]? = some (.ref h3)) (e14 : f0[26]? = some (.ref h4)) (e15 : f0[66]? = some (.int 0)) (e16 : f0[67]? = some (.int 0)) (e17 : f0[40]? = some (.ref h5)) (e18 : f0[45]? = some (.ref h6)) (e19 : f0[56]? = some (.ref h7)) (e20 : f0[60]? = some (.ref h8)) (e21 : f0[65]? = some (.ref h9)) (e22 : f0[76]? = some (.int 0)) (e23 : f0[83]? = some (.int 0)) (e24 : f0[77]? = some (.ref h10)) (e25 : f0[78]? = some (.ref h11)) (e26 : f0[80]? = some (.ref h12)) (e27 : f0[81]? = some (.ref h13)) (e28 : f0[82]? = some (.ref h14)) (e29 : f0[84]? = some (.int 0)) (e30 : f0[29]? = some (.int 0)) (e31 : f0[30]? = some (.int 0)) (e32 : f0[85]? = some (.int 0)) (e33 : f0[13]? = some (.int 0)) (e34 : f0[109]? = some (.int 0)) : kI l E D (kT cI cJ cB cZ) yX12_extreme vW_X12_extreme ({ frames := 5, cells := 0, slots := 0, locals := 104 }) [.ref h0, .int 0] [(h0, .inr (12, f0)), (h1, .inl (cI, 2001, .inl g0)), (h2, .inl (cI, 2001, .inl g1)), (h3, .inl (cI, 2001, .inl g2)), (h4, .inl (cI, 2001, .inl g3)), (h5, .inl (cI, 26, .inl g4)), (h6, .inl (cI, 26, .inl g5)), (h7, .inl (cI, 26, .inl g6)), (h8, .inl (cI, 26, .inl g7)), (h9, .inl (cI, 26, .inl g8)), (h10, .inl (cI, 16, .inl g9)), (h11, .inl (cI, 16, .inl g10)), (h12, .inl (cI, 16, .inl g11)), (h13, .inl (cJ, 16, .inr (.inl g12))), (h14, .inl (cI, 16, .inl g13))] ((-1000)) [(h0, .inr (12, ((((((((((((((((((((f0.set 0 (.int 0)).set 12 (.int 0)).set 2 (.int 0)).set 36 (.int 0)).set 37 (.int 0)).set 27 (.int 0)).set 31 (.int 0)).set 28 (.int 0)).set 66 (.int 25)).set 67 (.int 0)).set 76 (.int (-1))).set 83 (.int (-1))).set 83 (.int 0)).set 84 (.int 3)).set 84 (.int 4)).set 84 (.int 5)).set 31 (.int 1)).set 29 (.int 2)).set 30 (.int 0)).set 109 (.int 2)))), (h1, .inl (cI, 2001, .inl (upd g0 0 0))), (h2, .inl (cI, 2001, .inl (upd g1 0 0))), (h3, .inl (cI, 2001, .inl (upd g2 0 0))), (h4, .inl (cI, 2001, .inl (upd g3 0 0))), (h5, .inl (cI, 26, .inl (upd g4 25 0))), (h6, .inl (cI, 26, .inl (upd g5 25 0))), (h7, .inl (cI, 26, .inl (upd g6 25 0))), (h8, .inl (cI, 26, .inl (upd g7 25 0))), (h9, .inl (cI, 26, .inl (upd g8 25 0))), (h10, .inl (cI, 16, .inl (upd g9 0 33))), (h11, .inl (cI, 16, .inl (upd g10 0 (-1)))), (h12, .inl (cI, 16, .inl (upd (upd g11 0 1) 0 1))), (h13, .inl (cJ, 16, .inr (.inl (vp_updL (vp_updL g12 0 1) 0 1)))), (h14, .inl (cI, 16, .inl (upd g13 0 (-1))))] 0 0 := by
  intro sz
  refine Met.ofW (cc := cX12_extreme) (maxL := 8) (ret := (some .int)) (by decide) rfl ?_
  intro p e s m args below meth c s₁ B hml hv
  obtain ⟨rfl, hsz, hP, hK, hD0, hN, hX⟩ := hv
  have hx := B.exec
  have hb := B.bytes
  have hr := B.returns
  have hts := atoms_spec (ws := vW_X12_extreme) B.pre
  have hown : s.vm.findClass RX12 = some m.cls := findClass_of_methodNamed B.named
  have hlocks := B.notSynchronized
  have hin12 : ∀ w ∈ wsX120, w ∈ vW_X12_extreme := u9_X12_extreme_wsX120
  subst hsz
  have hD := hD0.self (sz := s.heap.size)
  have hAE := k_AE hD0 hX
  generalize hAe : va_A [(h0, .inr (12, f0)), (h1, .inl (cI, 2001, .inl g0)), (h2, .inl (cI, 2001, .inl g1)), (h3, .inl (cI, 2001, .inl g2)), (h4, .inl (cI, 2001, .inl g3)), (h5, .inl (cI, 26, .inl g4)), (h6, .inl (cI, 26, .inl g5)), (h7, .inl (cI, 26, .inl g6)), (h8, .inl (cI, 26, .inl g7)), (h9, .inl (cI, 26, .inl g8)), (h10, .inl (cI, 16, .inl g9)), (h11, .inl (cI, 16, .inl g10)), (h12, .inl (cI, 16, .inl g11)), (h13, .inl (cJ, 16, .inr (.inl g12))), (h14, .inl (cI, 16, .inl g13))] s.heap.size = A at hD hAE ⊢
  have hA : ∀ q : Nat, s.heap.size ≤ q → A q := fun q h => by rw [← hAe]; exact Or.inr h
  have hS : va_S A s.heap s.heap [] := va_S.rf
  have hP : va_P D vwCl [(h0, .inr (12, f0)), (h1, .inl (cI, 2001, .inl g0)), (h2, .inl (cI, 2001, .inl g1)), (h3, .inl (cI, 2001, .inl g2)), (h4, .inl (cI, 2001, .inl g3)), (h5, .inl (cI, 26, .inl g4)), (h6, .inl (cI, 26, .inl g5)), (h7, .inl (cI, 26, .inl g6)), (h8, .inl (cI, 26, .inl g7)), (h9, .inl (cI, 26, .inl g8)), (h10, .inl (cI, 16, .inl g9)), (h11, .inl (cI, 16, .inl g10)), (h12, .inl (cI, 16, .inl g11)), (h13, .inl (cJ, 16, .inr (.inl g12))), (h14, .inl (cI, 16, .inl g13))] s.heap := hP
  have hl := lv_entry ([.ref h0, .int 0] : List Value) (n := 8) (Nat.le_of_ble_eq_true rfl)
  rw [lg_entry_eq]
  generalize (lg_sl ([.ref h0, .int 0]) ++ List.replicate (8 - (lg_sl ([.ref h0, .int 0])).length) Slot.unset).toArray = ls at hl ⊢
  have hl : lv_has ls 8 [(0, .ref h0), (1, .int 0)] := hl
  refine lv_aload_n hx hb dX12_extreme_0 rfl (lv_at hl 0 rfl) ?_
  refine k_cVi (As := []) (rest := []) (wc := [(h0, .inr (12, f0))]) (wr := [(h1, .inl (cI, 2001, .inl g0)), (h2, .inl (cI, 2001, .inl g1)), (h3, .inl (cI, 2001, .inl g2)), (h4, .inl (cI, 2001, .inl g3)), (h5, .inl (cI, 26, .inl g4)), (h6, .inl (cI, 26, .inl g5)), (h7, .inl (cI, 26, .inl g6)), (h8, .inl (cI, 26, .inl g7)), (h9, .inl (cI, 26, .inl g8)), (h10, .inl (cI, 16, .inl g9)), (h11, .inl (cI, 16, .inl g10)), (h12, .inl (cI, 16, .inl g11)), (h13, .inl (cJ, 16, .inr (.inl g12))), (h14, .inl (cI, 16, .inl g13))]) (w1 := [(h0, .inr (12, (f0.set 0 (.int 0))))]) ⟨hx, hb, hml, hown, hts⟩ hN hX hAE hK hP hD hS hA [0] [1, 2, 3, 4, 5, 6, 7, 8, 9, 10, 11, 12, 13, 14] (ci := 12) rfl rfl rfl rfl (by decide +kernel) (by decide +kernel) (by decide +kernel) (c_X12_asks_0 l E D cI cJ cB cZ h0 f0 e0 e1) (cwV 0 hts g9_X12_extreme_X12_asks_871 rfl rfl rfl (by decide +kernel) ⟨Nat.le_of_ble_eq_true rfl, Nat.le_of_ble_eq_true rfl⟩) rfl hl.1 (Nat.le_of_ble_eq_true rfl) dX12_extreme_1 ⟨Nat.le_of_ble_eq_true rfl, Nat.le_of_ble_eq_true rfl⟩ (fun H locs hP hD hS => ?_)
  have hP : va_P D vwCl [(h1, .inl (cI, 2001, .inl g0)), (h2, .inl (cI, 2001, .inl g1)), (h3, .inl (cI, 2001, .inl g2)), (h4, .inl (cI, 2001, .inl g3)), (h5, .inl (cI, 26, .inl g4)), (h6, .inl (cI, 26, .inl g5)), (h7, .inl (cI, 26, .inl g6)), (h8, .inl (cI, 26, .inl g7)), (h9, .inl (cI, 26, .inl g8)), (h10, .inl (cI, 16, .inl g9)), (h11, .inl (cI, 16, .inl g10)), (h12, .inl (cI, 16, .inl g11)), (h13, .inl (cJ, 16, .inr (.inl g12))), (h14, .inl (cI, 16, .inl g13)), (h0, .inr (12, (f0.set 0 (.int 0))))] H := hP
  have hD : va_D A [(h1, .inl (cI, 2001, .inl g0)), (h2, .inl (cI, 2001, .inl g1)), (h3, .inl (cI, 2001, .inl g2)), (h4, .inl (cI, 2001, .inl g3)), (h5, .inl (cI, 26, .inl g4)), (h6, .inl (cI, 26, .inl g5)), (h7, .inl (cI, 26, .inl g6)), (h8, .inl (cI, 26, .inl g7)), (h9, .inl (cI, 26, .inl g8)), (h10, .inl (cI, 16, .inl g9)), (h11, .inl (cI, 16, .inl g10)), (h12, .inl (cI, 16, .inl g11)), (h13, .inl (cJ, 16, .inr (.inl g12))), (h14, .inl (cI, 16, .inl g13)), (h0, .inr (12, (f0.set 0 (.int 0))))] := hD
  refine lv_if_ne (tgt := 10) hx hb dX12_extreme_4 (by decide) (fun _ => ?_) (fun c9 => absurd c9 (by decide))
  refine lv_aload_n hx hb dX12_extreme_10 rfl (lv_at hl 0 rfl) ?_
  refine k_cVv (As := []) (rest := []) (wc := [(h0, .inr (12, (f0.set 0 (.int 0)))), (h1, .inl (cI, 2001, .inl g0)), (h2, .inl (cI, 2001, .inl g1)), (h3, .inl (cI, 2001, .inl g2)), (h4, .inl (cI, 2001, .inl g3))]) (wr := [(h5, .inl (cI, 26, .inl g4)), (h6, .inl (cI, 26, .inl g5)), (h7, .inl (cI, 26, .inl g6)), (h8, .inl (cI, 26, .inl g7)), (h9, .inl (cI, 26, .inl g8)), (h10, .inl (cI, 16, .inl g9)), (h11, .inl (cI, 16, .inl g10)), (h12, .inl (cI, 16, .inl g11)), (h13, .inl (cJ, 16, .inr (.inl g12))), (h14, .inl (cI, 16, .inl g13))]) (w1 := (fun _ : Unit => [(h0, .inr (12, ((((((((f0.set 0 (.int 0)).set 12 (.int 0)).set 2 (.int 0)).set 36 (.int 0)).set 37 (.int 0)).set 27 (.int 0)).set 31 (.int 0)).set 28 (.int 0)))), (h1, .inl (cI, 2001, .inl (upd g0 0 0))), (h2, .inl (cI, 2001, .inl (upd g1 0 0))), (h3, .inl (cI, 2001, .inl (upd g2 0 0))), (h4, .inl (cI, 2001, .inl (upd g3 0 0)))])) ⟨hx, hb, hml, hown, hts⟩ hN hX hAE hK hP hD hS hA [14, 0, 1, 2, 3] [4, 5, 6, 7, 8, 9, 10, 11, 12, 13] (ci := 12) rfl rfl rfl rfl (by decide +kernel) (by decide +kernel) (by decide +kernel) (c_X12_begin_0 l E D cI cJ cB cZ h0 ((f0.set 0 (.int 0))) h1 h2 h3 h4 g0 g1 g2 g3 (k_ne (by decide) e2) (k_ne (by decide) e3) (k_ne (by decide) e4) (k_ne (by decide) e5) (k_ne (by decide) e6) (k_ne (by decide) e7) (k_ne (by decide) e8) (k_ne (by decide) e9) (k_ne (by decide) e10) (k_ne (by decide) e11) (k_ne (by decide) e12) (k_ne (by decide) e13) (k_ne (by decide) e14)) (cwV 0 hts g9_X12_extreme_X12_begin_874 rfl rfl rfl (by decide +kernel) ⟨Nat.le_of_ble_eq_true rfl, Nat.le_of_ble_eq_true rfl⟩) rfl hl.1 (Nat.le_of_ble_eq_true rfl) dX12_extreme_11 ⟨Nat.le_of_ble_eq_true rfl, Nat.le_of_ble_eq_true rfl⟩ (fun _ H locs hP hD hS => ?_)
  have hP : va_P D vwCl [(h5, .inl (cI, 26, .inl g4)), (h6, .inl (cI, 26, .inl g5)), (h7, .inl (cI, 26, .inl g6)), (h8, .inl (cI, 26, .inl g7)), (h9, .inl (cI, 26, .inl g8)), (h10, .inl (cI, 16, .inl g9)), (h11, .inl (cI, 16, .inl g10)), (h12, .inl (cI, 16, .inl g11)), (h13, .inl (cJ, 16, .inr (.inl g12))), (h14, .inl (cI, 16, .inl g13)), (h0, .inr (12, ((((((((f0.set 0 (.int 0)).set 12 (.int 0)).set 2 (.int 0)).set 36 (.int 0)).set 37 (.int 0)).set 27 (.int 0)).set 31 (.int 0)).set 28 (.int 0)))), (h1, .inl (cI, 2001, .inl (upd g0 0 0))), (h2, .inl (cI, 2001, .inl (upd g1 0 0))), (h3, .inl (cI, 2001, .inl (upd g2 0 0))), (h4, .inl (cI, 2001, .inl (upd g3 0 0)))] H := hP
  have hD : va_D A [(h5, .inl (cI, 26, .inl g4)), (h6, .inl (cI, 26, .inl g5)), (h7, .inl (cI, 26, .inl g6)), (h8, .inl (cI, 26, .inl g7)), (h9, .inl (cI, 26, .inl g8)), (h10, .inl (cI, 16, .inl g9)), (h11, .inl (cI, 16, .inl g10)), (h12, .inl (cI, 16, .inl g11)), (h13, .inl (cJ, 16, .inr (.inl g12))), (h14, .inl (cI, 16, .inl g13)), (h0, .inr (12, ((((((((f0.set 0 (.int 0)).set 12 (.int 0)).set 2 (.int 0)).set 36 (.int 0)).set 37 (.int 0)).set 27 (.int 0)).set 31 (.int 0)).set 28 (.int 0)))), (h1, .inl (cI, 2001, .inl (upd g0 0 0))), (h2, .inl (cI, 2001, .inl (upd g1 0 0))), (h3, .inl (cI, 2001, .inl (upd g2 0 0))), (h4, .inl (cI, 2001, .inl (upd g3 0 0)))] := hD
  refine lv_aload_n hx hb dX12_extreme_14 rfl (lv_at hl 0 rfl) ?_
  refine lv_bipush (v := 25) hx hb dX12_extreme_15 (by decide) ?_
  refine k_cVv (As := [.int 25]) (rest := []) (wc := [(h0, .inr (12, ((((((((f0.set 0 (.int 0)).set 12 (.int 0)).set 2 (.int 0)).set 36 (.int 0)).set 37 (.int 0)).set 27 (.int 0)).set 31 (.int 0)).set 28 (.int 0)))), (h5, .inl (cI, 26, .inl g4)), (h6, .inl (cI, 26, .inl g5)), (h7, .inl (cI, 26, .inl g6)), (h8, .inl (cI, 26, .inl g7)), (h9, .inl (cI, 26, .inl g8))]) (wr := [(h10, .inl (cI, 16, .inl g9)), (h11, .inl (cI, 16, .inl g10)), (h12, .inl (cI, 16, .inl g11)), (h13, .inl (cJ, 16, .inr (.inl g12))), (h14, .inl (cI, 16, .inl g13)), (h1, .inl (cI, 2001, .inl (upd g0 0 0))), (h2, .inl (cI, 2001, .inl (upd g1 0 0))), (h3, .inl (cI, 2001, .inl (upd g2 0 0))), (h4, .inl (cI, 2001, .inl (upd g3 0 0)))]) (w1 := (fun _ : Unit => [(h0, .inr (12, ((((((((((f0.set 0 (.int 0)).set 12 (.int 0)).set 2 (.int 0)).set 36 (.int 0)).set 37 (.int 0)).set 27 (.int 0)).set 31 (.int 0)).set 28 (.int 0)).set 66 (.int 25)).set 67 (.int 0)))), (h5, .inl (cI, 26, .inl (upd g4 25 0))), (h6, .inl (cI, 26, .inl (upd g5 25 0))), (h7, .inl (cI, 26, .inl (upd g6 25 0))), (h8, .inl (cI, 26, .inl (upd g7 25 0))), (h9, .inl (cI, 26, .inl (upd g8 25 0)))])) ⟨hx, hb, hml, hown, hts⟩ hN hX hAE hK hP hD hS hA [10, 0, 1, 2, 3, 4] [5, 6, 7, 8, 9, 11, 12, 13, 14] (ci := 12) rfl rfl rfl rfl (by decide +kernel) (by decide +kernel) (by decide +kernel) (c_X12_beginSlot_1 l E D cI cJ cB cZ h0 (((((((((f0.set 0 (.int 0)).set 12 (.int 0)).set 2 (.int 0)).set 36 (.int 0)).set 37 (.int 0)).set 27 (.int 0)).set 31 (.int 0)).set 28 (.int 0))) h5 g4 h6 g5 h7 g6 h8 g7 h9 g8 (k_ne (by decide) (k_ne (by decide) (k_ne (by decide) (k_ne (by decide) (k_ne (by decide) (k_ne (by decide) (k_ne (by decide) (k_ne (by decide) e15)))))))) (k_ne (by decide) (k_ne (by decide) (k_ne (by decide) (k_ne (by decide) (k_ne (by decide) (k_ne (by decide) (k_ne (by decide) (k_ne (by decide) e16)))))))) (k_ne (by decide) (k_ne (by decide) (k_ne (by decide) (k_ne (by decide) (k_ne (by decide) (k_ne (by decide) (k_ne (by decide) (k_ne (by decide) e17)))))))) (k_ne (by decide) (k_ne (by decide) (k_ne (by decide) (k_ne (by decide) (k_ne (by decide) (k_ne (by decide) (k_ne (by decide) (k_ne (by decide) e18)))))))) (k_ne (by decide) (k_ne (by decide) (k_ne (by decide) (k_ne (by decide) (k_ne (by decide) (k_ne (by decide) (k_ne (by decide) (k_ne (by decide) e19)))))))) (k_ne (by decide) (k_ne (by decide) (k_ne (by decide) (k_ne (by decide) (k_ne (by decide) (k_ne (by decide) (k_ne (by decide) (k_ne (by decide) e20)))))))) (k_ne (by decide) (k_ne (by decide) (k_ne (by decide) (k_ne (by decide) (k_ne (by decide) (k_ne (by decide) (k_ne (by decide) (k_ne (by decide) e21))))))))) (cwV 1 hts g9_X12_extreme_X12_beginSlot_842 rfl rfl rfl (by decide +kernel) ⟨Nat.le_of_ble_eq_true rfl, Nat.le_of_ble_eq_true rfl⟩) rfl hl.1 (Nat.le_of_ble_eq_true rfl) dX12_extreme_17 ⟨Nat.le_of_ble_eq_true rfl, Nat.le_of_ble_eq_true rfl⟩ (fun _ H locs hP hD hS => ?_)
  have hP : va_P D vwCl [(h10, .inl (cI, 16, .inl g9)), (h11, .inl (cI, 16, .inl g10)), (h12, .inl (cI, 16, .inl g11)), (h13, .inl (cJ, 16, .inr (.inl g12))), (h14, .inl (cI, 16, .inl g13)), (h1, .inl (cI, 2001, .inl (upd g0 0 0))), (h2, .inl (cI, 2001, .inl (upd g1 0 0))), (h3, .inl (cI, 2001, .inl (upd g2 0 0))), (h4, .inl (cI, 2001, .inl (upd g3 0 0))), (h0, .inr (12, ((((((((((f0.set 0 (.int 0)).set 12 (.int 0)).set 2 (.int 0)).set 36 (.int 0)).set 37 (.int 0)).set 27 (.int 0)).set 31 (.int 0)).set 28 (.int 0)).set 66 (.int 25)).set 67 (.int 0)))), (h5, .inl (cI, 26, .inl (upd g4 25 0))), (h6, .inl (cI, 26, .inl (upd g5 25 0))), (h7, .inl (cI, 26, .inl (upd g6 25 0))), (h8, .inl (cI, 26, .inl (upd g7 25 0))), (h9, .inl (cI, 26, .inl (upd g8 25 0)))] H := hP
  have hD : va_D A [(h10, .inl (cI, 16, .inl g9)), (h11, .inl (cI, 16, .inl g10)), (h12, .inl (cI, 16, .inl g11)), (h13, .inl (cJ, 16, .inr (.inl g12))), (h14, .inl (cI, 16, .inl g13)), (h1, .inl (cI, 2001, .inl (upd g0 0 0))), (h2, .inl (cI, 2001, .inl (upd g1 0 0))), (h3, .inl (cI, 2001, .inl (upd g2 0 0))), (h4, .inl (cI, 2001, .inl (upd g3 0 0))), (h0, .inr (12, ((((((((((f0.set 0 (.int 0)).set 12 (.int 0)).set 2 (.int 0)).set 36 (.int 0)).set 37 (.int 0)).set 27 (.int 0)).set 31 (.int 0)).set 28 (.int 0)).set 66 (.int 25)).set 67 (.int 0)))), (h5, .inl (cI, 26, .inl (upd g4 25 0))), (h6, .inl (cI, 26, .inl (upd g5 25 0))), (h7, .inl (cI, 26, .inl (upd g6 25 0))), (h8, .inl (cI, 26, .inl (upd g7 25 0))), (h9, .inl (cI, 26, .inl (upd g8 25 0)))] := hD
  refine lv_aload_n hx hb dX12_extreme_20 rfl (lv_at hl 0 rfl) ?_
  refine k_cVi (As := []) (rest := []) (wc := [(h0, .inr (12, ((((((((((f0.set 0 (.int 0)).set 12 (.int 0)).set 2 (.int 0)).set 36 (.int 0)).set 37 (.int 0)).set 27 (.int 0)).set 31 (.int 0)).set 28 (.int 0)).set 66 (.int 25)).set 67 (.int 0)))), (h10, .inl (cI, 16, .inl g9)), (h11, .inl (cI, 16, .inl g10)), (h12, .inl (cI, 16, .inl g11)), (h13, .inl (cJ, 16, .inr (.inl g12))), (h14, .inl (cI, 16, .inl g13)), (h3, .inl (cI, 2001, .inl (upd g2 0 0))), (h1, .inl (cI, 2001, .inl (upd g0 0 0)))]) (wr := [(h2, .inl (cI, 2001, .inl (upd g1 0 0))), (h4, .inl (cI, 2001, .inl (upd g3 0 0))), (h5, .inl (cI, 26, .inl (upd g4 25 0))), (h6, .inl (cI, 26, .inl (upd g5 25 0))), (h7, .inl (cI, 26, .inl (upd g6 25 0))), (h8, .inl (cI, 26, .inl (upd g7 25 0))), (h9, .inl (cI, 26, .inl (upd g8 25 0)))]) (w1 := [(h0, .inr (12, (((((((((((((((((((f0.set 0 (.int 0)).set 12 (.int 0)).set 2 (.int 0)).set 36 (.int 0)).set 37 (.int 0)).set 27 (.int 0)).set 31 (.int 0)).set 28 (.int 0)).set 66 (.int 25)).set 67 (.int 0)).set 76 (.int (-1))).set 83 (.int (-1))).set 83 (.int 0)).set 84 (.int 3)).set 84 (.int 4)).set 84 (.int 5)).set 31 (.int 1)).set 29 (.int 2)).set 30 (.int 0)))), (h10, .inl (cI, 16, .inl (upd g9 0 33))), (h11, .inl (cI, 16, .inl (upd g10 0 (-1)))), (h12, .inl (cI, 16, .inl (upd (upd g11 0 1) 0 1))), (h13, .inl (cJ, 16, .inr (.inl (vp_updL (vp_updL g12 0 1) 0 1)))), (h14, .inl (cI, 16, .inl (upd g13 0 (-1)))), (h3, .inl (cI, 2001, .inl (upd g2 0 0))), (h1, .inl (cI, 2001, .inl (upd g0 0 0)))]) ⟨hx, hb, hml, hown, hts⟩ hN hX hAE hK hP hD hS hA [9, 0, 1, 2, 3, 4, 7, 5] [6, 8, 10, 11, 12, 13, 14] (ci := 12) rfl rfl rfl rfl (by decide +kernel) (by decide +kernel) (by decide +kernel) (c_X12_readTerm_0 l E D cI cJ cB cZ h0 (((((((((((f0.set 0 (.int 0)).set 12 (.int 0)).set 2 (.int 0)).set 36 (.int 0)).set 37 (.int 0)).set 27 (.int 0)).set 31 (.int 0)).set 28 (.int 0)).set 66 (.int 25)).set 67 (.int 0))) h10 h11 h12 h13 h14 g9 g10 g11 g12 g13 h3 ((upd g2 0 0)) h1 ((upd g0 0 0)) (k_ne (by decide) (k_ne (by decide) (k_ne (by decide) (k_ne (by decide) (k_ne (by decide) (k_ne (by decide) (k_ne (by decide) (k_ne (by decide) (k_ne (by decide) (k_ne (by decide) e22)))))))))) (k_ne (by decide) (k_ne (by decide) (k_ne (by decide) (k_ne (by decide) (k_ne (by decide) (k_ne (by decide) (k_ne (by decide) (k_ne (by decide) (k_ne (by decide) (k_ne (by decide) e23)))))))))) (k_ne (by decide) (k_ne (by decide) (k_ne (by decide) (k_ne (by decide) (k_ne (by decide) (k_ne (by decide) (k_ne (by decide) (k_ne (by decide) (k_ne (by decide) (k_ne (by decide) e24)))))))))) (k_ne (by decide) (k_ne (by decide) (k_ne (by decide) (k_ne (by decide) (k_ne (by decide) (k_ne (by decide) (k_ne (by decide) (k_ne (by decide) (k_ne (by decide) (k_ne (by decide) e25)))))))))) (k_ne (by decide) (k_ne (by decide) (k_ne (by decide) (k_ne (by decide) (k_ne (by decide) (k_ne (by decide) (k_ne (by decide) (k_ne (by decide) (k_ne (by decide) (k_ne (by decide) e26)))))))))) (k_ne (by decide) (k_ne (by decide) (k_ne (by decide) (k_ne (by decide) (k_ne (by decide) (k_ne (by decide) (k_ne (by decide) (k_ne (by decide) (k_ne (by decide) (k_ne (by decide) e27)))))))))) (k_ne (by decide) (k_ne (by decide) (k_ne (by decide) (k_ne (by decide) (k_ne (by decide) (k_ne (by decide) (k_ne (by decide) (k_ne (by decide) (k_ne (by decide) (k_ne (by decide) e28)))))))))) (k_ne (by decide) (k_ne (by decide) (k_ne (by decide) (k_ne (by decide) (k_ne (by decide) (k_ne (by decide) (k_ne (by decide) (k_ne (by decide) (k_ne (by decide) (k_ne (by decide) e29)))))))))) (k_ne (by decide) (k_ne (by decide) (k_ne (by decide) (k_set (k_ne (by decide) (k_ne (by decide) (k_ne (by decide) (k_ne (by decide) (k_ne (by decide) (k_ne (by decide) e9)))))))))) (k_ne (by decide) (k_ne (by decide) (k_ne (by decide) (k_ne (by decide) (k_ne (by decide) (k_ne (by decide) (k_ne (by decide) (k_ne (by decide) (k_ne (by decide) (k_ne (by decide) e13)))))))))) (k_ne (by decide) (k_ne (by decide) (k_set (k_ne (by decide) (k_ne (by decide) (k_ne (by decide) (k_ne (by decide) (k_ne (by decide) (k_ne (by decide) (k_ne (by decide) e10)))))))))) rfl (k_ne (by decide) (k_set (k_ne (by decide) (k_ne (by decide) (k_ne (by decide) (k_ne (by decide) (k_ne (by decide) (k_ne (by decide) (k_ne (by decide) (k_ne (by decide) e15)))))))))) (k_ne (by decide) (k_ne (by decide) (k_ne (by decide) (k_ne (by decide) (k_ne (by decide) (k_ne (by decide) (k_ne (by decide) (k_ne (by decide) (k_ne (by decide) (k_ne (by decide) e30)))))))))) (k_ne (by decide) (k_ne (by decide) (k_ne (by decide) (k_ne (by decide) (k_ne (by decide) (k_ne (by decide) (k_ne (by decide) (k_ne (by decide) (k_ne (by decide) (k_ne (by decide) e11)))))))))) rfl (k_ne (by decide) (k_ne (by decide) (k_ne (by decide) (k_ne (by decide) (k_ne (by decide) (k_ne (by decide) (k_ne (by decide) (k_ne (by decide) (k_ne (by decide) (k_ne (by decide) e31)))))))))) (k_ne (by decide) (k_ne (by decide) (k_ne (by decide) (k_ne (by decide) (k_ne (by decide) (k_ne (by decide) (k_ne (by decide) (k_ne (by decide) (k_ne (by decide) (k_ne (by decide) e32))))))))))) (cwV 0 hts g9_X12_extreme_X12_readTerm_1020 rfl rfl rfl (by decide +kernel) ⟨Nat.le_of_ble_eq_true rfl, Nat.le_of_ble_eq_true rfl⟩) rfl hl.1 (Nat.le_of_ble_eq_true rfl) dX12_extreme_21 ⟨Nat.le_of_ble_eq_true rfl, Nat.le_of_ble_eq_true rfl⟩ (fun H locs hP hD hS => ?_)
  have hP : va_P D vwCl [(h2, .inl (cI, 2001, .inl (upd g1 0 0))), (h4, .inl (cI, 2001, .inl (upd g3 0 0))), (h5, .inl (cI, 26, .inl (upd g4 25 0))), (h6, .inl (cI, 26, .inl (upd g5 25 0))), (h7, .inl (cI, 26, .inl (upd g6 25 0))), (h8, .inl (cI, 26, .inl (upd g7 25 0))), (h9, .inl (cI, 26, .inl (upd g8 25 0))), (h0, .inr (12, (((((((((((((((((((f0.set 0 (.int 0)).set 12 (.int 0)).set 2 (.int 0)).set 36 (.int 0)).set 37 (.int 0)).set 27 (.int 0)).set 31 (.int 0)).set 28 (.int 0)).set 66 (.int 25)).set 67 (.int 0)).set 76 (.int (-1))).set 83 (.int (-1))).set 83 (.int 0)).set 84 (.int 3)).set 84 (.int 4)).set 84 (.int 5)).set 31 (.int 1)).set 29 (.int 2)).set 30 (.int 0)))), (h10, .inl (cI, 16, .inl (upd g9 0 33))), (h11, .inl (cI, 16, .inl (upd g10 0 (-1)))), (h12, .inl (cI, 16, .inl (upd (upd g11 0 1) 0 1))), (h13, .inl (cJ, 16, .inr (.inl (vp_updL (vp_updL g12 0 1) 0 1)))), (h14, .inl (cI, 16, .inl (upd g13 0 (-1)))), (h3, .inl (cI, 2001, .inl (upd g2 0 0))), (h1, .inl (cI, 2001, .inl (upd g0 0 0)))] H := hP
  have hD : va_D A [(h2, .inl (cI, 2001, .inl (upd g1 0 0))), (h4, .inl (cI, 2001, .inl (upd g3 0 0))), (h5, .inl (cI, 26, .inl (upd g4 25 0))), (h6, .inl (cI, 26, .inl (upd g5 25 0))), (h7, .inl (cI, 26, .inl (upd g6 25 0))), (h8, .inl (cI, 26, .inl (upd g7 25 0))), (h9, .inl (cI, 26, .inl (upd g8 25 0))), (h0, .inr (12, (((((((((((((((((((f0.set 0 (.int 0)).set 12 (.int 0)).set 2 (.int 0)).set 36 (.int 0)).set 37 (.int 0)).set 27 (.int 0)).set 31 (.int 0)).set 28 (.int 0)).set 66 (.int 25)).set 67 (.int 0)).set 76 (.int (-1))).set 83 (.int (-1))).set 83 (.int 0)).set 84 (.int 3)).set 84 (.int 4)).set 84 (.int 5)).set 31 (.int 1)).set 29 (.int 2)).set 30 (.int 0)))), (h10, .inl (cI, 16, .inl (upd g9 0 33))), (h11, .inl (cI, 16, .inl (upd g10 0 (-1)))), (h12, .inl (cI, 16, .inl (upd (upd g11 0 1) 0 1))), (h13, .inl (cJ, 16, .inr (.inl (vp_updL (vp_updL g12 0 1) 0 1)))), (h14, .inl (cI, 16, .inl (upd g13 0 (-1)))), (h3, .inl (cI, 2001, .inl (upd g2 0 0))), (h1, .inl (cI, 2001, .inl (upd g0 0 0)))] := hD
  refine lv_istore_n (lv' := [(2, .int 0), (0, .ref h0), (1, .int 0)]) hx hb dX12_extreme_24 rfl hl (by decide) rfl (fun ls hl => ?_)
  refine lv_aload_n hx hb dX12_extreme_25 rfl (lv_at hl 1 rfl) ?_
  refine k_get (D := D) (ci := 12) (v := .int 1) (N := 195) hx hb hts hin12 hown hK hP 7 rfl rfl (by decide) f9_12_31 (hts (.fieldLink RX12 562 "IntegerHouseModel" "faulty" "Z") (o9_X12_extreme _ (List.mem_of_getElem? (i := 13) rfl))) (k_ne (by decide) (k_ne (by decide) (k_set (k_ne (by decide) (k_ne (by decide) (k_ne (by decide) (k_ne (by decide) (k_ne (by decide) (k_ne (by decide) (k_ne (by decide) (k_ne (by decide) (k_ne (by decide) (k_set (k_ne (by decide) (k_ne (by decide) (k_ne (by decide) (k_ne (by decide) (k_ne (by decide) (k_ne (by decide) e9))))))))))))))))))) dX12_extreme_26 ?_
  refine lv_if_ne (tgt := 45) hx hb dX12_extreme_29 (by decide) (fun _ => ?_) (fun c9 => absurd c9 (by decide))
  refine lv_iconst (v := 0) hx hb dX12_extreme_45 (by decide) ?_
  refine lv_istore_n (lv' := [(3, .int 0), (2, .int 0), (0, .ref h0), (1, .int 0)]) hx hb dX12_extreme_46 rfl hl (by decide) rfl (fun ls hl => ?_)
  refine lv_iconst (v := 0) hx hb dX12_extreme_47 (by decide) ?_
  refine lv_istore (lv' := [(4, .int 0), (3, .int 0), (2, .int 0), (0, .ref h0), (1, .int 0)]) hx hb dX12_extreme_48 hl (by decide) rfl (fun ls hl => ?_)
  refine lv_iload_n hx hb dX12_extreme_50 rfl (lv_at hl 1 rfl) ?_
  refine lv_if_eq (tgt := 79) hx hb dX12_extreme_51 (by decide) (fun _ => ?_) (fun c9 => absurd (by decide) c9)
  refine lv_aload_n hx hb dX12_extreme_79 rfl (lv_at hl 3 rfl) ?_
  refine k_get (D := D) (ci := 12) (v := .int 1) (N := 195) hx hb hts hin12 hown hK hP 7 rfl rfl (by decide) f9_12_31 (hts (.fieldLink RX12 562 "IntegerHouseModel" "faulty" "Z") (o9_X12_extreme _ (List.mem_of_getElem? (i := 13) rfl))) (k_ne (by decide) (k_ne (by decide) (k_set (k_ne (by decide) (k_ne (by decide) (k_ne (by decide) (k_ne (by decide) (k_ne (by decide) (k_ne (by decide) (k_ne (by decide) (k_ne (by decide) (k_ne (by decide) (k_set (k_ne (by decide) (k_ne (by decide) (k_ne (by decide) (k_ne (by decide) (k_ne (by decide) (k_ne (by decide) e9))))))))))))))))))) dX12_extreme_80 ?_
  refine lv_if_ne (tgt := 102) hx hb dX12_extreme_83 (by decide) (fun _ => ?_) (fun c9 => absurd c9 (by decide))
  refine lv_aload_n hx hb dX12_extreme_102 rfl (lv_at hl 3 rfl) ?_
  refine k_get (D := D) (ci := 12) (v := .int 1) (N := 195) hx hb hts hin12 hown hK hP 7 rfl rfl (by decide) f9_12_31 (hts (.fieldLink RX12 562 "IntegerHouseModel" "faulty" "Z") (o9_X12_extreme _ (List.mem_of_getElem? (i := 13) rfl))) (k_ne (by decide) (k_ne (by decide) (k_set (k_ne (by decide) (k_ne (by decide) (k_ne (by decide) (k_ne (by decide) (k_ne (by decide) (k_ne (by decide) (k_ne (by decide) (k_ne (by decide) (k_ne (by decide) (k_set (k_ne (by decide) (k_ne (by decide) (k_ne (by decide) (k_ne (by decide) (k_ne (by decide) (k_ne (by decide) e9))))))))))))))))))) dX12_extreme_103 ?_
  refine lv_if_ne (tgt := 123) hx hb dX12_extreme_106 (by decide) (fun _ => ?_) (fun c9 => absurd c9 (by decide))
  refine lv_aload_n hx hb dX12_extreme_123 rfl (lv_at hl 3 rfl) ?_
  refine k_cVi (As := []) (rest := []) (wc := [(h0, .inr (12, (((((((((((((((((((f0.set 0 (.int 0)).set 12 (.int 0)).set 2 (.int 0)).set 36 (.int 0)).set 37 (.int 0)).set 27 (.int 0)).set 31 (.int 0)).set 28 (.int 0)).set 66 (.int 25)).set 67 (.int 0)).set 76 (.int (-1))).set 83 (.int (-1))).set 83 (.int 0)).set 84 (.int 3)).set 84 (.int 4)).set 84 (.int 5)).set 31 (.int 1)).set 29 (.int 2)).set 30 (.int 0))))]) (wr := [(h2, .inl (cI, 2001, .inl (upd g1 0 0))), (h4, .inl (cI, 2001, .inl (upd g3 0 0))), (h5, .inl (cI, 26, .inl (upd g4 25 0))), (h6, .inl (cI, 26, .inl (upd g5 25 0))), (h7, .inl (cI, 26, .inl (upd g6 25 0))), (h8, .inl (cI, 26, .inl (upd g7 25 0))), (h9, .inl (cI, 26, .inl (upd g8 25 0))), (h10, .inl (cI, 16, .inl (upd g9 0 33))), (h11, .inl (cI, 16, .inl (upd g10 0 (-1)))), (h12, .inl (cI, 16, .inl (upd (upd g11 0 1) 0 1))), (h13, .inl (cJ, 16, .inr (.inl (vp_updL (vp_updL g12 0 1) 0 1)))), (h14, .inl (cI, 16, .inl (upd g13 0 (-1)))), (h3, .inl (cI, 2001, .inl (upd g2 0 0))), (h1, .inl (cI, 2001, .inl (upd g0 0 0)))]) (w1 := [(h0, .inr (12, ((((((((((((((((((((f0.set 0 (.int 0)).set 12 (.int 0)).set 2 (.int 0)).set 36 (.int 0)).set 37 (.int 0)).set 27 (.int 0)).set 31 (.int 0)).set 28 (.int 0)).set 66 (.int 25)).set 67 (.int 0)).set 76 (.int (-1))).set 83 (.int (-1))).set 83 (.int 0)).set 84 (.int 3)).set 84 (.int 4)).set 84 (.int 5)).set 31 (.int 1)).set 29 (.int 2)).set 30 (.int 0)).set 109 (.int 2))))]) ⟨hx, hb, hml, hown, hts⟩ hN hX hAE hK hP hD hS hA [7] [0, 1, 2, 3, 4, 5, 6, 8, 9, 10, 11, 12, 13, 14] (ci := 12) rfl rfl rfl rfl (by decide +kernel) (by decide +kernel) (by decide +kernel) (c_X12_told_0 l E D cI cJ cB cZ h0 ((((((((((((((((((((f0.set 0 (.int 0)).set 12 (.int 0)).set 2 (.int 0)).set 36 (.int 0)).set 37 (.int 0)).set 27 (.int 0)).set 31 (.int 0)).set 28 (.int 0)).set 66 (.int 25)).set 67 (.int 0)).set 76 (.int (-1))).set 83 (.int (-1))).set 83 (.int 0)).set 84 (.int 3)).set 84 (.int 4)).set 84 (.int 5)).set 31 (.int 1)).set 29 (.int 2)).set 30 (.int 0))) (k_ne (by decide) (k_ne (by decide) (k_ne (by decide) (k_ne (by decide) (k_ne (by decide) (k_ne (by decide) (k_ne (by decide) (k_ne (by decide) (k_ne (by decide) (k_ne (by decide) (k_ne (by decide) (k_ne (by decide) (k_ne (by decide) (k_ne (by decide) (k_ne (by decide) (k_ne (by decide) (k_ne (by decide) (k_ne (by decide) (k_ne (by decide) e33))))))))))))))))))) (k_ne (by decide) (k_set (k_ne (by decide) (k_ne (by decide) (k_ne (by decide) (k_ne (by decide) (k_ne (by decide) (k_ne (by decide) (k_ne (by decide) (k_ne (by decide) (k_ne (by decide) (k_ne (by decide) (k_ne (by decide) (k_ne (by decide) (k_ne (by decide) (k_ne (by decide) (k_ne (by decide) (k_ne (by decide) (k_ne (by decide) e30))))))))))))))))))) (k_ne (by decide) (k_ne (by decide) (k_ne (by decide) (k_ne (by decide) (k_ne (by decide) (k_ne (by decide) (k_ne (by decide) (k_ne (by decide) (k_ne (by decide) (k_ne (by decide) (k_ne (by decide) (k_ne (by decide) (k_ne (by decide) (k_ne (by decide) (k_ne (by decide) (k_ne (by decide) (k_ne (by decide) (k_ne (by decide) (k_ne (by decide) e34))))))))))))))))))) (k_set (k_ne (by decide) (k_ne (by decide) (k_ne (by decide) (k_ne (by decide) (k_ne (by decide) (k_ne (by decide) (k_ne (by decide) (k_ne (by decide) (k_ne (by decide) (k_ne (by decide) (k_ne (by decide) (k_ne (by decide) (k_ne (by decide) (k_ne (by decide) (k_ne (by decide) (k_ne (by decide) (k_ne (by decide) (k_ne (by decide) e31)))))))))))))))))))) (cwV 0 hts g9_X12_extreme_X12_told_860 rfl rfl rfl (by decide +kernel) ⟨Nat.le_of_ble_eq_true rfl, Nat.le_of_ble_eq_true rfl⟩) rfl hl.1 (Nat.le_of_ble_eq_true rfl) dX12_extreme_124 ⟨Nat.le_of_ble_eq_true rfl, Nat.le_of_ble_eq_true rfl⟩ (fun H locs hP hD hS => ?_)
  have hP : va_P D vwCl [(h2, .inl (cI, 2001, .inl (upd g1 0 0))), (h4, .inl (cI, 2001, .inl (upd g3 0 0))), (h5, .inl (cI, 26, .inl (upd g4 25 0))), (h6, .inl (cI, 26, .inl (upd g5 25 0))), (h7, .inl (cI, 26, .inl (upd g6 25 0))), (h8, .inl (cI, 26, .inl (upd g7 25 0))), (h9, .inl (cI, 26, .inl (upd g8 25 0))), (h10, .inl (cI, 16, .inl (upd g9 0 33))), (h11, .inl (cI, 16, .inl (upd g10 0 (-1)))), (h12, .inl (cI, 16, .inl (upd (upd g11 0 1) 0 1))), (h13, .inl (cJ, 16, .inr (.inl (vp_updL (vp_updL g12 0 1) 0 1)))), (h14, .inl (cI, 16, .inl (upd g13 0 (-1)))), (h3, .inl (cI, 2001, .inl (upd g2 0 0))), (h1, .inl (cI, 2001, .inl (upd g0 0 0))), (h0, .inr (12, ((((((((((((((((((((f0.set 0 (.int 0)).set 12 (.int 0)).set 2 (.int 0)).set 36 (.int 0)).set 37 (.int 0)).set 27 (.int 0)).set 31 (.int 0)).set 28 (.int 0)).set 66 (.int 25)).set 67 (.int 0)).set 76 (.int (-1))).set 83 (.int (-1))).set 83 (.int 0)).set 84 (.int 3)).set 84 (.int 4)).set 84 (.int 5)).set 31 (.int 1)).set 29 (.int 2)).set 30 (.int 0)).set 109 (.int 2))))] H := hP
  have hD : va_D A [(h2, .inl (cI, 2001, .inl (upd g1 0 0))), (h4, .inl (cI, 2001, .inl (upd g3 0 0))), (h5, .inl (cI, 26, .inl (upd g4 25 0))), (h6, .inl (cI, 26, .inl (upd g5 25 0))), (h7, .inl (cI, 26, .inl (upd g6 25 0))), (h8, .inl (cI, 26, .inl (upd g7 25 0))), (h9, .inl (cI, 26, .inl (upd g8 25 0))), (h10, .inl (cI, 16, .inl (upd g9 0 33))), (h11, .inl (cI, 16, .inl (upd g10 0 (-1)))), (h12, .inl (cI, 16, .inl (upd (upd g11 0 1) 0 1))), (h13, .inl (cJ, 16, .inr (.inl (vp_updL (vp_updL g12 0 1) 0 1)))), (h14, .inl (cI, 16, .inl (upd g13 0 (-1)))), (h3, .inl (cI, 2001, .inl (upd g2 0 0))), (h1, .inl (cI, 2001, .inl (upd g0 0 0))), (h0, .inr (12, ((((((((((((((((((((f0.set 0 (.int 0)).set 12 (.int 0)).set 2 (.int 0)).set 36 (.int 0)).set 37 (.int 0)).set 27 (.int 0)).set 31 (.int 0)).set 28 (.int 0)).set 66 (.int 25)).set 67 (.int 0)).set 76 (.int (-1))).set 83 (.int (-1))).set 83 (.int 0)).set 84 (.int 3)).set 84 (.int 4)).set 84 (.int 5)).set 31 (.int 1)).set 29 (.int 2)).set 30 (.int 0)).set 109 (.int 2))))] := hD
  have hP := hP.sub (ws' := [(h0, .inr (12, ((((((((((((((((((((f0.set 0 (.int 0)).set 12 (.int 0)).set 2 (.int 0)).set 36 (.int 0)).set 37 (.int 0)).set 27 (.int 0)).set 31 (.int 0)).set 28 (.int 0)).set 66 (.int 25)).set 67 (.int 0)).set 76 (.int (-1))).set 83 (.int (-1))).set 83 (.int 0)).set 84 (.int 3)).set 84 (.int 4)).set 84 (.int 5)).set 31 (.int 1)).set 29 (.int 2)).set 30 (.int 0)).set 109 (.int 2)))), (h1, .inl (cI, 2001, .inl (upd g0 0 0))), (h2, .inl (cI, 2001, .inl (upd g1 0 0))), (h3, .inl (cI, 2001, .inl (upd g2 0 0))), (h4, .inl (cI, 2001, .inl (upd g3 0 0))), (h5, .inl (cI, 26, .inl (upd g4 25 0))), (h6, .inl (cI, 26, .inl (upd g5 25 0))), (h7, .inl (cI, 26, .inl (upd g6 25 0))), (h8, .inl (cI, 26, .inl (upd g7 25 0))), (h9, .inl (cI, 26, .inl (upd g8 25 0))), (h10, .inl (cI, 16, .inl (upd g9 0 33))), (h11, .inl (cI, 16, .inl (upd g10 0 (-1)))), (h12, .inl (cI, 16, .inl (upd (upd g11 0 1) 0 1))), (h13, .inl (cJ, 16, .inr (.inl (vp_updL (vp_updL g12 0 1) 0 1)))), (h14, .inl (cI, 16, .inl (upd g13 0 (-1))))]) [14, 13, 0, 12, 1, 2, 3, 4, 5, 6, 7, 8, 9, 10, 11] rfl
  have hD := hD.sub (ws' := [(h0, .inr (12, ((((((((((((((((((((f0.set 0 (.int 0)).set 12 (.int 0)).set 2 (.int 0)).set 36 (.int 0)).set 37 (.int 0)).set 27 (.int 0)).set 31 (.int 0)).set 28 (.int 0)).set 66 (.int 25)).set 67 (.int 0)).set 76 (.int (-1))).set 83 (.int (-1))).set 83 (.int 0)).set 84 (.int 3)).set 84 (.int 4)).set 84 (.int 5)).set 31 (.int 1)).set 29 (.int 2)).set 30 (.int 0)).set 109 (.int 2)))), (h1, .inl (cI, 2001, .inl (upd g0 0 0))), (h2, .inl (cI, 2001, .inl (upd g1 0 0))), (h3, .inl (cI, 2001, .inl (upd g2 0 0))), (h4, .inl (cI, 2001, .inl (upd g3 0 0))), (h5, .inl (cI, 26, .inl (upd g4 25 0))), (h6, .inl (cI, 26, .inl (upd g5 25 0))), (h7, .inl (cI, 26, .inl (upd g6 25 0))), (h8, .inl (cI, 26, .inl (upd g7 25 0))), (h9, .inl (cI, 26, .inl (upd g8 25 0))), (h10, .inl (cI, 16, .inl (upd g9 0 33))), (h11, .inl (cI, 16, .inl (upd g10 0 (-1)))), (h12, .inl (cI, 16, .inl (upd (upd g11 0 1) 0 1))), (h13, .inl (cJ, 16, .inr (.inl (vp_updL (vp_updL g12 0 1) 0 1)))), (h14, .inl (cI, 16, .inl (upd g13 0 (-1))))]) [14, 13, 0, 12, 1, 2, 3, 4, 5, 6, 7, 8, 9, 10, 11] (by decide +kernel) rfl
  exact W.iret (v := (-1000)) hx hb hr (fun t ht hW => ⟨⟨(-1000), (), rfl, rfl, kB_mk ht hW hP hK hD⟩, hS.F ht⟩) hS.2.2 dX12_extreme_127
set_option maxHeartbeats 400000000 in
set_option maxRecDepth 100000 in
theorem c_X11_number_0 (l : Launch) (E : kE) (D : va_G) (cI cJ cB cZ : ClassId) (h0 : Nat) (f0 : List Value) (h1 : Nat) (f1 : List Value) (e0 : f0[7]? = some (.ref h1)) (e1 : f1[13]? = some (.long 0)) : kJ l E D (kT cI cJ cB cZ) yX11_number vW_X11_number ({ frames := 0, cells := 0, slots := 0, locals := 0 }) [.ref h0] [(h0, .inr (11, f0)), (h1, .inr (0, f1))] (0) [(h0, .inr (11, f0)), (h1, .inr (0, f1))] 0 0 := by
  intro sz
  refine Met.ofW (cc := cX11_number) (maxL := 1) (ret := (some .long)) (by decide) rfl ?_
  intro p e s m args below meth c s₁ B hml hv
  obtain ⟨rfl, hsz, hP, hK, hD0, hN, hX⟩ := hv
  have hx := B.exec
  have hb := B.bytes
  have hr := B.returns
  have hts := atoms_spec (ws := vW_X11_number) B.pre
  have hown : s.vm.findClass RX11 = some m.cls := findClass_of_methodNamed B.named
  have hlocks := B.notSynchronized
  have hin11 : ∀ w ∈ wsX110, w ∈ vW_X11_number := u9_X11_number_wsX110
  have hin0 : ∀ w ∈ wsX00, w ∈ vW_X11_number := u9_X11_number_wsX00
  subst hsz
  have hD := hD0.self (sz := s.heap.size)
  have hAE := k_AE hD0 hX
  generalize hAe : va_A [(h0, .inr (11, f0)), (h1, .inr (0, f1))] s.heap.size = A at hD hAE ⊢
  have hA : ∀ q : Nat, s.heap.size ≤ q → A q := fun q h => by rw [← hAe]; exact Or.inr h
  have hS : va_S A s.heap s.heap [] := va_S.rf
  have hP : va_P D vwCl [(h0, .inr (11, f0)), (h1, .inr (0, f1))] s.heap := hP
  have hl := lv_entry ([.ref h0] : List Value) (n := 1) (Nat.le_of_ble_eq_true rfl)
  rw [lg_entry_eq]
  generalize (lg_sl ([.ref h0]) ++ List.replicate (1 - (lg_sl ([.ref h0])).length) Slot.unset).toArray = ls at hl ⊢
  have hl : lv_has ls 1 [(0, .ref h0)] := hl
  refine lv_aload_n hx hb dX11_number_0 rfl (lv_at hl 0 rfl) ?_
  refine k_get (D := D) (ci := 11) (v := .ref h1) (N := 15) hx hb hts hin11 hown hK hP 0 rfl rfl (by decide) f9_11_7 (hts (.fieldLink RX11 64 "IntegerHouse" "answers" "LIntegerHouse$Answers;") (o9_X11_number _ (List.mem_of_getElem? (i := 0) rfl))) e0 dX11_number_1 ?_
  refine k_getN (host := "IntegerHouse") (D := D) (ci := 0) (v := .long 0) (N := 19) hx hb hts hin0 hown hK hP 1 rfl rfl (by decide) f9_0_13 (va_Nw.use rfl (hN.1 ("IntegerHouse", 335, "IntegerHouse$Answers", "toldNumber", "J", "IntegerHouse") (List.mem_of_getElem? (i := 36) rfl))) e1 dX11_number_4 ?_
  exact W.lret (v := 0) hx hb hr (fun t ht hW => ⟨⟨0, (), rfl, rfl, kB_mk ht hW hP hK hD⟩, hS.F ht⟩) hS.2.2 dX11_number_7
set_option maxHeartbeats 400000000 in
set_option maxRecDepth 100000 in
theorem c_X12_number_0 (l : Launch) (E : kE) (D : va_G) (cI cJ cB cZ : ClassId) (h0 : Nat) (f0 : List Value) (e0 : f0[0]? = some (.int 0)) (e1 : f0[144]? = some (.long 0)) : kJ l E D (kT cI cJ cB cZ) yX12_number vW_X12_number ({ frames := 0, cells := 0, slots := 0, locals := 0 }) [.ref h0] [(h0, .inr (12, f0))] (0) [(h0, .inr (12, (f0.set 0 (.int 0))))] 0 0 := by
  intro sz
  refine Met.ofW (cc := cX12_number) (maxL := 1) (ret := (some .long)) (by decide) rfl ?_
  intro p e s m args below meth c s₁ B hml hv
  obtain ⟨rfl, hsz, hP, hK, hD0, hN, hX⟩ := hv
  have hx := B.exec
  have hb := B.bytes
  have hr := B.returns
  have hts := atoms_spec (ws := vW_X12_number) B.pre
  have hown : s.vm.findClass RX12 = some m.cls := findClass_of_methodNamed B.named
  have hlocks := B.notSynchronized
  have hin12 : ∀ w ∈ wsX120, w ∈ vW_X12_number := u9_X12_number_wsX120
  subst hsz
  have hD := hD0.self (sz := s.heap.size)
  have hAE := k_AE hD0 hX
  generalize hAe : va_A [(h0, .inr (12, f0))] s.heap.size = A at hD hAE ⊢
  have hA : ∀ q : Nat, s.heap.size ≤ q → A q := fun q h => by rw [← hAe]; exact Or.inr h
  have hS : va_S A s.heap s.heap [] := va_S.rf
  have hP : va_P D vwCl [(h0, .inr (12, f0))] s.heap := hP
  have hl := lv_entry ([.ref h0] : List Value) (n := 1) (Nat.le_of_ble_eq_true rfl)
  rw [lg_entry_eq]
  generalize (lg_sl ([.ref h0]) ++ List.replicate (1 - (lg_sl ([.ref h0])).length) Slot.unset).toArray = ls at hl ⊢
  have hl : lv_has ls 1 [(0, .ref h0)] := hl
  refine lv_aload_n hx hb dX12_number_0 rfl (lv_at hl 0 rfl) ?_
  refine lv_iconst (v := 0) hx hb dX12_number_1 (by decide) ?_
  refine k_put (D := D) (ci := 12) (v := .int 0) (ty := .int) (N := 195) hx hb hts hin12 tyX12 tyX12_ok nmX12 hown hK hP hD hS 0 rfl rfl (by decide) f9_12_0 (hts (.fieldLink RX12 3 "IntegerHouseModel" "thrown" "I") (o9_X12_number _ (List.mem_of_getElem? (i := 0) rfl))) rfl pd_2 rfl rfl (k_len e0) dX12_number_2 (fun H locs hP hD hS => ?_)
  have hP : va_P D vwCl [(h0, .inr (12, (f0.set 0 (.int 0))))] H := hP
  have hD : va_D A [(h0, .inr (12, (f0.set 0 (.int 0))))] := hD
  refine lv_aload_n hx hb dX12_number_5 rfl (lv_at hl 0 rfl) ?_
  refine k_get (D := D) (ci := 12) (v := .long 0) (N := 195) hx hb hts hin12 hown hK hP 0 rfl rfl (by decide) f9_12_144 (hts (.fieldLink RX12 1030 "IntegerHouseModel" "extremeTold" "J") (o9_X12_number _ (List.mem_of_getElem? (i := 1) rfl))) (k_ne (by decide) e1) dX12_number_6 ?_
  exact W.lret (v := 0) hx hb hr (fun t ht hW => ⟨⟨0, (), rfl, rfl, kB_mk ht hW hP hK hD⟩, hS.F ht⟩) hS.2.2 dX12_number_9
set_option maxHeartbeats 400000000 in
set_option maxRecDepth 100000 in
theorem c_X6_behind_0 (l : Launch) (E : kE) (D : va_G) (cI cJ cB cZ : ClassId) (h0 : Nat) (f0 : List Value) (h1 : Nat) (g0 : Nat → Int32) (e0 : f0[7]? = some (.ref h1)) (e1 : g0 0 = 0) : kI l E D (kT cI cJ cB cZ) yX6_behind vW_X6_behind ({ frames := 0, cells := 0, slots := 0, locals := 0 }) [.ref h0, .int 0, .int 0] [(h0, .inr (6, f0)), (h1, .inl (cI, 48000, .inl g0))] (0) [(h0, .inr (6, f0)), (h1, .inl (cI, 48000, .inl g0))] 0 0 := by
  intro sz
  refine Met.ofW (cc := cX6_behind) (maxL := 4) (ret := (some .int)) (by decide) rfl ?_
  intro p e s m args below meth c s₁ B hml hv
  obtain ⟨rfl, hsz, hP, hK, hD0, hN, hX⟩ := hv
  have hx := B.exec
  have hb := B.bytes
  have hr := B.returns
  have hts := atoms_spec (ws := vW_X6_behind) B.pre
  have hown : s.vm.findClass RX6 = some m.cls := findClass_of_methodNamed B.named
  have hlocks := B.notSynchronized
  have hin6 : ∀ w ∈ wsX60, w ∈ vW_X6_behind := u9_X6_behind_wsX60
  subst hsz
  have hD := hD0.self (sz := s.heap.size)
  have hAE := k_AE hD0 hX
  generalize hAe : va_A [(h0, .inr (6, f0)), (h1, .inl (cI, 48000, .inl g0))] s.heap.size = A at hD hAE ⊢
  have hA : ∀ q : Nat, s.heap.size ≤ q → A q := fun q h => by rw [← hAe]; exact Or.inr h
  have hS : va_S A s.heap s.heap [] := va_S.rf
  have hP : va_P D vwCl [(h0, .inr (6, f0)), (h1, .inl (cI, 48000, .inl g0))] s.heap := hP
  have hl := lv_entry ([.ref h0, .int 0, .int 0] : List Value) (n := 4) (Nat.le_of_ble_eq_true rfl)
  rw [lg_entry_eq]
  generalize (lg_sl ([.ref h0, .int 0, .int 0]) ++ List.replicate (4 - (lg_sl ([.ref h0, .int 0, .int 0])).length) Slot.unset).toArray = ls at hl ⊢
  have hl : lv_has ls 4 [(0, .ref h0), (1, .int 0), (2, .int 0)] := hl
  refine lv_iload_n hx hb dX6_behind_0 rfl (lv_at hl 1 rfl) ?_
  refine lv_if_lt (tgt := 25) hx hb dX6_behind_1 (by decide) (fun c9 => absurd c9 (by decide)) (fun _ => ?_)
  refine lv_iload_n hx hb dX6_behind_4 rfl (lv_at hl 1 rfl) ?_
  refine lv_sipush (v := 3000) hx hb dX6_behind_5 (by decide) ?_
  refine lv_icmp_ge (tgt := 25) hx hb dX6_behind_8 (by decide) (fun c9 => absurd c9 (by decide)) (fun _ => ?_)
  refine lv_iload_n hx hb dX6_behind_11 rfl (lv_at hl 2 rfl) ?_
  refine lv_if_lt (tgt := 25) hx hb dX6_behind_12 (by decide) (fun c9 => absurd c9 (by decide)) (fun _ => ?_)
  refine lv_iload_n hx hb dX6_behind_15 rfl (lv_at hl 2 rfl) ?_
  refine lv_bipush (v := 16) hx hb dX6_behind_16 (by decide) ?_
  refine lv_icmp_ge (tgt := 25) hx hb dX6_behind_18 (by decide) (fun c9 => absurd c9 (by decide)) (fun _ => ?_)
  refine lv_iconst (v := 1) hx hb dX6_behind_21 (by decide) ?_
  refine lv_goto (tgt := 26) hx hb dX6_behind_22 (by decide) ?_
  refine lv_istore_n (lv' := [(3, .int 1), (0, .ref h0), (1, .int 0), (2, .int 0)]) hx hb dX6_behind_26 rfl hl (by decide) rfl (fun ls hl => ?_)
  refine lv_iload_n hx hb dX6_behind_27 rfl (lv_at hl 0 rfl) ?_
  refine lv_if_eq (tgt := 45) hx hb dX6_behind_28 (by decide) (fun c9 => absurd c9 (by decide)) (fun _ => ?_)
  refine lv_aload_n hx hb dX6_behind_31 rfl (lv_at hl 1 rfl) ?_
  refine k_get (D := D) (ci := 6) (v := .ref h1) (N := 14) hx hb hts hin6 hown hK hP 0 rfl rfl (by decide) f9_6_7 (hts (.fieldLink RX6 35 "IntegerHouse$Places" "next" "[I") (o9_X6_behind _ (List.mem_of_getElem? (i := 0) rfl))) e0 dX6_behind_32 ?_
  refine lv_iload_n hx hb dX6_behind_35 rfl (lv_at hl 2 rfl) ?_
  refine lv_bipush (v := 16) hx hb dX6_behind_36 (by decide) ?_
  refine lv_imul hx hb dX6_behind_38 ?_
  refine k_topi (y := 0) (by decide) ?_
  refine lv_iload_n hx hb dX6_behind_39 rfl (lv_at hl 3 rfl) ?_
  refine lv_iadd hx hb dX6_behind_40 ?_
  refine k_topi (y := 0) (by decide) ?_
  refine va_iald hx hb hK hP 1 0 rfl rfl (k_in (by decide)) dX6_behind_41 ?_
  refine k_topi (y := 0) e1 ?_
  refine lv_goto (tgt := 46) hx hb dX6_behind_42 (by decide) ?_
  exact W.iret (v := 0) hx hb hr (fun t ht hW => ⟨⟨0, (), rfl, rfl, kB_mk ht hW hP hK hD⟩, hS.F ht⟩) hS.2.2 dX6_behind_46
set_option maxHeartbeats 400000000 in
set_option maxRecDepth 100000 in
theorem c_X0_farFrom_0 (l : Launch) (E : kE) (D : va_G) (cI cJ cB cZ : ClassId) (h0 : Nat) (f0 : List Value) (h1 : Nat) (g0 : Nat → Int32) (e0 : f0[4]? = some (.ref h1)) (e1 : g0 0 = 0) : kI l E D (kT cI cJ cB cZ) yX0_farFrom vW_X0_farFrom ({ frames := 0, cells := 0, slots := 0, locals := 0 }) [.ref h0, .int 0] [(h0, .inr (0, f0)), (h1, .inl (cI, 3000, .inl g0))] (0) [(h0, .inr (0, f0)), (h1, .inl (cI, 3000, .inl g0))] 0 0 := by
  intro sz
  refine Met.ofW (cc := cX0_farFrom) (maxL := 2) (ret := (some .int)) (by decide) rfl ?_
  intro p e s m args below meth c s₁ B hml hv
  obtain ⟨rfl, hsz, hP, hK, hD0, hN, hX⟩ := hv
  have hx := B.exec
  have hb := B.bytes
  have hr := B.returns
  have hts := atoms_spec (ws := vW_X0_farFrom) B.pre
  have hown : s.vm.findClass RX0 = some m.cls := findClass_of_methodNamed B.named
  have hlocks := B.notSynchronized
  have hin0 : ∀ w ∈ wsX00, w ∈ vW_X0_farFrom := u9_X0_farFrom_wsX00
  subst hsz
  have hD := hD0.self (sz := s.heap.size)
  have hAE := k_AE hD0 hX
  generalize hAe : va_A [(h0, .inr (0, f0)), (h1, .inl (cI, 3000, .inl g0))] s.heap.size = A at hD hAE ⊢
  have hA : ∀ q : Nat, s.heap.size ≤ q → A q := fun q h => by rw [← hAe]; exact Or.inr h
  have hS : va_S A s.heap s.heap [] := va_S.rf
  have hP : va_P D vwCl [(h0, .inr (0, f0)), (h1, .inl (cI, 3000, .inl g0))] s.heap := hP
  have hl := lv_entry ([.ref h0, .int 0] : List Value) (n := 2) (Nat.le_of_ble_eq_true rfl)
  rw [lg_entry_eq]
  generalize (lg_sl ([.ref h0, .int 0]) ++ List.replicate (2 - (lg_sl ([.ref h0, .int 0])).length) Slot.unset).toArray = ls at hl ⊢
  have hl : lv_has ls 2 [(0, .ref h0), (1, .int 0)] := hl
  refine lv_iload_n hx hb dX0_farFrom_0 rfl (lv_at hl 1 rfl) ?_
  refine lv_if_lt (tgt := 20) hx hb dX0_farFrom_1 (by decide) (fun c9 => absurd c9 (by decide)) (fun _ => ?_)
  refine lv_iload_n hx hb dX0_farFrom_4 rfl (lv_at hl 1 rfl) ?_
  refine lv_sipush (v := 3000) hx hb dX0_farFrom_5 (by decide) ?_
  refine lv_icmp_ge (tgt := 20) hx hb dX0_farFrom_8 (by decide) (fun c9 => absurd c9 (by decide)) (fun _ => ?_)
  refine lv_aload_n hx hb dX0_farFrom_11 rfl (lv_at hl 0 rfl) ?_
  refine k_get (D := D) (ci := 0) (v := .ref h1) (N := 19) hx hb hts hin0 hown hK hP 0 rfl rfl (by decide) f9_0_4 (hts (.fieldLink RX0 18 "IntegerHouse$Answers" "far" "[I") (o9_X0_farFrom _ (List.mem_of_getElem? (i := 0) rfl))) e0 dX0_farFrom_12 ?_
  refine lv_iload_n hx hb dX0_farFrom_15 rfl (lv_at hl 1 rfl) ?_
  refine va_iald hx hb hK hP 1 0 rfl rfl (k_in (by decide)) dX0_farFrom_16 ?_
  refine k_topi (y := 0) e1 ?_
  refine lv_goto (tgt := 21) hx hb dX0_farFrom_17 (by decide) ?_
  exact W.iret (v := 0) hx hb hr (fun t ht hW => ⟨⟨0, (), rfl, rfl, kB_mk ht hW hP hK hD⟩, hS.F ht⟩) hS.2.2 dX0_farFrom_21
set_option maxHeartbeats 400000000 in
set_option maxRecDepth 100000 in
theorem c_X0_mark_0 (l : Launch) (E : kE) (D : va_G) (cI cJ cB cZ : ClassId) (h0 : Nat) (f0 : List Value) (h1 : Nat) (g0 : Nat → Int32) (h2 : Nat) (f1 : List Value) (h3 : Nat) (g1 : Nat → Int32) (e0 : f0[4]? = some (.ref h1)) (e1 : g0 0 = 0) (e2 : f0[1]? = some (.ref h2)) (e3 : f1[12]? = some (.int 1)) (e4 : f1[7]? = some (.ref h3)) (e5 : g1 0 = 0) : kI l E D (kT cI cJ cB cZ) yX0_mark vW_X0_mark ({ frames := 1, cells := 0, slots := 0, locals := 23 }) [.ref h0, .int 1, .int 0] [(h0, .inr (0, f0)), (h1, .inl (cI, 3000, .inl g0)), (h2, .inr (6, f1)), (h3, .inl (cI, 48000, .inl g1))] (0) [(h0, .inr (0, f0)), (h1, .inl (cI, 3000, .inl g0)), (h2, .inr (6, f1)), (h3, .inl (cI, 48000, .inl g1))] 0 0 := by
  intro sz
  refine Met.ofW (cc := cX0_mark) (maxL := 7) (ret := (some .boolean)) (by decide) rfl ?_
  intro p e s m args below meth c s₁ B hml hv
  obtain ⟨rfl, hsz, hP, hK, hD0, hN, hX⟩ := hv
  have hx := B.exec
  have hb := B.bytes
  have hr := B.returns
  have hts := atoms_spec (ws := vW_X0_mark) B.pre
  have hown : s.vm.findClass RX0 = some m.cls := findClass_of_methodNamed B.named
  have hlocks := B.notSynchronized
  have hin0 : ∀ w ∈ wsX00, w ∈ vW_X0_mark := u9_X0_mark_wsX00
  have hin6 : ∀ w ∈ wsX60, w ∈ vW_X0_mark := u9_X0_mark_wsX60
  subst hsz
  have hD := hD0.self (sz := s.heap.size)
  have hAE := k_AE hD0 hX
  generalize hAe : va_A [(h0, .inr (0, f0)), (h1, .inl (cI, 3000, .inl g0)), (h2, .inr (6, f1)), (h3, .inl (cI, 48000, .inl g1))] s.heap.size = A at hD hAE ⊢
  have hA : ∀ q : Nat, s.heap.size ≤ q → A q := fun q h => by rw [← hAe]; exact Or.inr h
  have hS : va_S A s.heap s.heap [] := va_S.rf
  have hP : va_P D vwCl [(h0, .inr (0, f0)), (h1, .inl (cI, 3000, .inl g0)), (h2, .inr (6, f1)), (h3, .inl (cI, 48000, .inl g1))] s.heap := hP
  have hl := lv_entry ([.ref h0, .int 1, .int 0] : List Value) (n := 7) (Nat.le_of_ble_eq_true rfl)
  rw [lg_entry_eq]
  generalize (lg_sl ([.ref h0, .int 1, .int 0]) ++ List.replicate (7 - (lg_sl ([.ref h0, .int 1, .int 0])).length) Slot.unset).toArray = ls at hl ⊢
  have hl : lv_has ls 7 [(0, .ref h0), (1, .int 1), (2, .int 0)] := hl
  refine lv_iconst (v := 0) hx hb dX0_mark_0 (by decide) ?_
  refine lv_istore_n (lv' := [(3, .int 0), (0, .ref h0), (1, .int 1), (2, .int 0)]) hx hb dX0_mark_1 rfl hl (by decide) rfl (fun ls hl => ?_)
  refine lv_iconst (v := 0) hx hb dX0_mark_2 (by decide) ?_
  refine lv_istore (lv' := [(4, .int 0), (3, .int 0), (0, .ref h0), (1, .int 1), (2, .int 0)]) hx hb dX0_mark_3 hl (by decide) rfl (fun ls hl => ?_)
  refine lv_iload hx hb dX0_mark_5 (lv_at hl 0 rfl) ?_
  refine lv_iload_n hx hb dX0_mark_7 rfl (lv_at hl 3 rfl) ?_
  refine lv_icmp_ge (tgt := 117) hx hb dX0_mark_8 (by decide) (fun c9 => absurd c9 (by decide)) (fun _ => ?_)
  refine lv_iload hx hb dX0_mark_11 (lv_at hl 0 rfl) ?_
  refine lv_sipush (v := 3000) hx hb dX0_mark_13 (by decide) ?_
  refine lv_icmp_ge (tgt := 117) hx hb dX0_mark_16 (by decide) (fun c9 => absurd c9 (by decide)) (fun _ => ?_)
  refine lv_aload_n hx hb dX0_mark_19 rfl (lv_at hl 2 rfl) ?_
  refine k_get (D := D) (ci := 0) (v := .ref h1) (N := 19) hx hb hts hin0 hown hK hP 0 rfl rfl (by decide) f9_0_4 (hts (.fieldLink RX0 18 "IntegerHouse$Answers" "far" "[I") (o9_X0_mark _ (List.mem_of_getElem? (i := 0) rfl))) e0 dX0_mark_20 ?_
  refine lv_iload hx hb dX0_mark_23 (lv_at hl 0 rfl) ?_
  refine va_iald hx hb hK hP 1 0 rfl rfl (k_in (by decide)) dX0_mark_25 ?_
  refine k_topi (y := 0) e1 ?_
  refine lv_iload_n hx hb dX0_mark_26 rfl (lv_at hl 4 rfl) ?_
  refine lv_icmp_ne (tgt := 111) hx hb dX0_mark_27 (by decide) (fun c9 => absurd (by decide) c9) (fun _ => ?_)
  refine lv_iconst (v := 0) hx hb dX0_mark_30 (by decide) ?_
  refine lv_istore (lv' := [(5, .int 0), (4, .int 0), (3, .int 0), (0, .ref h0), (1, .int 1), (2, .int 0)]) hx hb dX0_mark_31 hl (by decide) rfl (fun ls hl => ?_)
  refine lv_iconst (v := 0) hx hb dX0_mark_33 (by decide) ?_
  refine lv_istore (lv' := [(6, .int 0), (5, .int 0), (4, .int 0), (3, .int 0), (0, .ref h0), (1, .int 1), (2, .int 0)]) hx hb dX0_mark_34 hl (by decide) rfl (fun ls hl => ?_)
  refine lv_iload hx hb dX0_mark_36 (lv_at hl 0 rfl) ?_
  refine lv_aload_n hx hb dX0_mark_38 rfl (lv_at hl 4 rfl) ?_
  refine k_get (D := D) (ci := 0) (v := .ref h2) (N := 19) hx hb hts hin0 hown hK hP 0 rfl rfl (by decide) f9_0_1 (hts (.fieldLink RX0 48 "IntegerHouse$Answers" "places" "LIntegerHouse$Places;") (o9_X0_mark _ (List.mem_of_getElem? (i := 1) rfl))) e2 dX0_mark_39 ?_
  refine k_getN (host := "IntegerHouse") (D := D) (ci := 6) (v := .int 1) (N := 14) hx hb hts hin6 hown hK hP 2 rfl rfl (by decide) f9_6_12 (va_Nw.use rfl (hN.1 ("IntegerHouse$Answers", 92, "IntegerHouse$Places", "letters", "I", "IntegerHouse") (List.mem_of_getElem? (i := 31) rfl))) e3 dX0_mark_42 ?_
  refine lv_icmp_ge (tgt := 85) hx hb dX0_mark_45 (by decide) (fun c9 => absurd c9 (by decide)) (fun _ => ?_)
  refine lv_iload hx hb dX0_mark_48 (lv_at hl 1 rfl) ?_
  refine lv_if_ne (tgt := 85) hx hb dX0_mark_50 (by decide) (fun c9 => absurd (by decide) c9) (fun _ => ?_)
  refine lv_aload_n hx hb dX0_mark_53 rfl (lv_at hl 4 rfl) ?_
  refine lv_aload_n hx hb dX0_mark_54 rfl (lv_at hl 4 rfl) ?_
  refine k_get (D := D) (ci := 0) (v := .ref h2) (N := 19) hx hb hts hin0 hown hK hP 0 rfl rfl (by decide) f9_0_1 (hts (.fieldLink RX0 48 "IntegerHouse$Answers" "places" "LIntegerHouse$Places;") (o9_X0_mark _ (List.mem_of_getElem? (i := 1) rfl))) e2 dX0_mark_55 ?_
  refine lv_iload hx hb dX0_mark_58 (lv_at hl 2 rfl) ?_
  refine lv_iload hx hb dX0_mark_60 (lv_at hl 0 rfl) ?_
  refine k_cVi (As := [.int 0, .int 0]) (rest := [.ref h0]) (wc := [(h2, .inr (6, f1)), (h3, .inl (cI, 48000, .inl g1))]) (wr := [(h0, .inr (0, f0)), (h1, .inl (cI, 3000, .inl g0))]) (w1 := [(h2, .inr (6, f1)), (h3, .inl (cI, 48000, .inl g1))]) ⟨hx, hb, hml, hown, hts⟩ hN hX hAE hK hP hD hS hA [2, 3] [0, 1] (ci := 6) rfl rfl rfl rfl (by decide +kernel) (by decide +kernel) (by decide +kernel) (c_X6_behind_0 l E D cI cJ cB cZ h2 f1 h3 g1 e4 e5) (cwV 2 hts g9_X0_mark_X6_behind_95 rfl rfl rfl (by decide +kernel) ⟨Nat.le_of_ble_eq_true rfl, Nat.le_of_ble_eq_true rfl⟩) rfl hl.1 (Nat.le_of_ble_eq_true rfl) dX0_mark_62 ⟨Nat.le_of_ble_eq_true rfl, Nat.le_of_ble_eq_true rfl⟩ (fun H locs hP hD hS => ?_)
  have hP : va_P D vwCl [(h0, .inr (0, f0)), (h1, .inl (cI, 3000, .inl g0)), (h2, .inr (6, f1)), (h3, .inl (cI, 48000, .inl g1))] H := hP
  have hD : va_D A [(h0, .inr (0, f0)), (h1, .inl (cI, 3000, .inl g0)), (h2, .inr (6, f1)), (h3, .inl (cI, 48000, .inl g1))] := hD
  refine k_cVi (As := [.int 0]) (rest := []) (wc := [(h0, .inr (0, f0)), (h1, .inl (cI, 3000, .inl g0))]) (wr := [(h2, .inr (6, f1)), (h3, .inl (cI, 48000, .inl g1))]) (w1 := [(h0, .inr (0, f0)), (h1, .inl (cI, 3000, .inl g0))]) ⟨hx, hb, hml, hown, hts⟩ hN hX hAE hK hP hD hS hA [0, 1] [2, 3] (ci := 0) rfl rfl rfl rfl (by decide +kernel) (by decide +kernel) (by decide +kernel) (c_X0_farFrom_0 l E D cI cJ cB cZ h0 f0 h1 g0 e0 e1) (cwV 1 hts g9_X0_mark_X0_farFrom_98 rfl rfl rfl (by decide +kernel) ⟨Nat.le_of_ble_eq_true rfl, Nat.le_of_ble_eq_true rfl⟩) rfl hl.1 (Nat.le_of_ble_eq_true rfl) dX0_mark_65 ⟨Nat.le_of_ble_eq_true rfl, Nat.le_of_ble_eq_true rfl⟩ (fun H locs hP hD hS => ?_)
  have hP : va_P D vwCl [(h2, .inr (6, f1)), (h3, .inl (cI, 48000, .inl g1)), (h0, .inr (0, f0)), (h1, .inl (cI, 3000, .inl g0))] H := hP
  have hD : va_D A [(h2, .inr (6, f1)), (h3, .inl (cI, 48000, .inl g1)), (h0, .inr (0, f0)), (h1, .inl (cI, 3000, .inl g0))] := hD
  refine lv_iconst (v := 1) hx hb dX0_mark_68 (by decide) ?_
  refine lv_icmp_ne (tgt := 76) hx hb dX0_mark_69 (by decide) (fun _ => ?_) (fun c9 => absurd c9 (by decide))
  refine lv_iconst (v := 0) hx hb dX0_mark_76 (by decide) ?_
  refine lv_istore (lv' := [(5, .int 0), (6, .int 0), (4, .int 0), (3, .int 0), (0, .ref h0), (1, .int 1), (2, .int 0)]) hx hb dX0_mark_77 hl (by decide) rfl (fun ls hl => ?_)
  refine lv_iinc (v := 1) (lv' := [(6, .int 1), (5, .int 0), (4, .int 0), (3, .int 0), (0, .ref h0), (1, .int 1), (2, .int 0)]) hx hb dX0_mark_79 hl (k := 1) rfl (by decide) (by decide) rfl (fun ls hl => ?_)
  refine lv_goto (tgt := 36) hx hb dX0_mark_82 (by decide) ?_
  refine lv_iload hx hb dX0_mark_36 (lv_at hl 0 rfl) ?_
  refine lv_aload_n hx hb dX0_mark_38 rfl (lv_at hl 4 rfl) ?_
  refine k_get (D := D) (ci := 0) (v := .ref h2) (N := 19) hx hb hts hin0 hown hK hP 2 rfl rfl (by decide) f9_0_1 (hts (.fieldLink RX0 48 "IntegerHouse$Answers" "places" "LIntegerHouse$Places;") (o9_X0_mark _ (List.mem_of_getElem? (i := 1) rfl))) e2 dX0_mark_39 ?_
  refine k_getN (host := "IntegerHouse") (D := D) (ci := 6) (v := .int 1) (N := 14) hx hb hts hin6 hown hK hP 0 rfl rfl (by decide) f9_6_12 (va_Nw.use rfl (hN.1 ("IntegerHouse$Answers", 92, "IntegerHouse$Places", "letters", "I", "IntegerHouse") (List.mem_of_getElem? (i := 31) rfl))) e3 dX0_mark_42 ?_
  refine lv_icmp_ge (tgt := 85) hx hb dX0_mark_45 (by decide) (fun _ => ?_) (fun c9 => absurd (by decide) c9)
  refine lv_iload hx hb dX0_mark_85 (lv_at hl 1 rfl) ?_
  refine lv_iload_n hx hb dX0_mark_87 rfl (lv_at hl 6 rfl) ?_
  refine lv_if_ne (tgt := 95) hx hb dX0_mark_88 (by decide) (fun c9 => absurd (by decide) c9) (fun _ => ?_)
  refine lv_iconst (v := 1) hx hb dX0_mark_91 (by decide) ?_
  refine lv_goto (tgt := 96) hx hb dX0_mark_92 (by decide) ?_
  refine lv_icmp_ne (tgt := 111) hx hb dX0_mark_96 (by decide) (fun _ => ?_) (fun c9 => absurd c9 (by decide))
  refine lv_iinc (v := 1) (lv' := [(4, .int 1), (6, .int 1), (5, .int 0), (3, .int 0), (0, .ref h0), (1, .int 1), (2, .int 0)]) hx hb dX0_mark_111 hl (k := 2) rfl (by decide) (by decide) rfl (fun ls hl => ?_)
  refine lv_goto (tgt := 5) hx hb dX0_mark_114 (by decide) ?_
  refine lv_iload hx hb dX0_mark_5 (lv_at hl 0 rfl) ?_
  refine lv_iload_n hx hb dX0_mark_7 rfl (lv_at hl 5 rfl) ?_
  refine lv_icmp_ge (tgt := 117) hx hb dX0_mark_8 (by decide) (fun _ => ?_) (fun c9 => absurd (by decide) c9)
  refine lv_iload_n hx hb dX0_mark_117 rfl (lv_at hl 3 rfl) ?_
  have hP := hP.sub (ws' := [(h0, .inr (0, f0)), (h1, .inl (cI, 3000, .inl g0)), (h2, .inr (6, f1)), (h3, .inl (cI, 48000, .inl g1))]) [2, 3, 0, 1] rfl
  have hD := hD.sub (ws' := [(h0, .inr (0, f0)), (h1, .inl (cI, 3000, .inl g0)), (h2, .inr (6, f1)), (h3, .inl (cI, 48000, .inl g1))]) [2, 3, 0, 1] (by decide +kernel) rfl
  exact W.zret (v := 0) hx hb hr rfl (fun t ht hW => ⟨⟨0, (), rfl, rfl, kB_mk ht hW hP hK hD⟩, hS.F ht⟩) hS.2.2 dX0_mark_118
set_option maxHeartbeats 400000000 in
set_option maxRecDepth 100000 in
theorem c_X0_mark_1 (l : Launch) (E : kE) (D : va_G) (cI cJ cB cZ : ClassId) (h0 : Nat) (f0 : List Value) (h1 : Nat) (g0 : Nat → Int32) (e0 : f0[4]? = some (.ref h1)) (e1 : g0 0 = 0) : kI l E D (kT cI cJ cB cZ) yX0_mark vW_X0_mark ({ frames := 0, cells := 0, slots := 0, locals := 0 }) [.ref h0, .int 1, .int 1] [(h0, .inr (0, f0)), (h1, .inl (cI, 3000, .inl g0))] (0) [(h0, .inr (0, f0)), (h1, .inl (cI, 3000, .inl g0))] 0 0 := by
  intro sz
  refine Met.ofW (cc := cX0_mark) (maxL := 7) (ret := (some .boolean)) (by decide) rfl ?_
  intro p e s m args below meth c s₁ B hml hv
  obtain ⟨rfl, hsz, hP, hK, hD0, hN, hX⟩ := hv
  have hx := B.exec
  have hb := B.bytes
  have hr := B.returns
  have hts := atoms_spec (ws := vW_X0_mark) B.pre
  have hown : s.vm.findClass RX0 = some m.cls := findClass_of_methodNamed B.named
  have hlocks := B.notSynchronized
  have hin0 : ∀ w ∈ wsX00, w ∈ vW_X0_mark := u9_X0_mark_wsX00
  subst hsz
  have hD := hD0.self (sz := s.heap.size)
  have hAE := k_AE hD0 hX
  generalize hAe : va_A [(h0, .inr (0, f0)), (h1, .inl (cI, 3000, .inl g0))] s.heap.size = A at hD hAE ⊢
  have hA : ∀ q : Nat, s.heap.size ≤ q → A q := fun q h => by rw [← hAe]; exact Or.inr h
  have hS : va_S A s.heap s.heap [] := va_S.rf
  have hP : va_P D vwCl [(h0, .inr (0, f0)), (h1, .inl (cI, 3000, .inl g0))] s.heap := hP
  have hl := lv_entry ([.ref h0, .int 1, .int 1] : List Value) (n := 7) (Nat.le_of_ble_eq_true rfl)
  rw [lg_entry_eq]
  generalize (lg_sl ([.ref h0, .int 1, .int 1]) ++ List.replicate (7 - (lg_sl ([.ref h0, .int 1, .int 1])).length) Slot.unset).toArray = ls at hl ⊢
  have hl : lv_has ls 7 [(0, .ref h0), (1, .int 1), (2, .int 1)] := hl
  refine lv_iconst (v := 0) hx hb dX0_mark_0 (by decide) ?_
  refine lv_istore_n (lv' := [(3, .int 0), (0, .ref h0), (1, .int 1), (2, .int 1)]) hx hb dX0_mark_1 rfl hl (by decide) rfl (fun ls hl => ?_)
  refine lv_iconst (v := 0) hx hb dX0_mark_2 (by decide) ?_
  refine lv_istore (lv' := [(4, .int 0), (3, .int 0), (0, .ref h0), (1, .int 1), (2, .int 1)]) hx hb dX0_mark_3 hl (by decide) rfl (fun ls hl => ?_)
  refine lv_iload hx hb dX0_mark_5 (lv_at hl 0 rfl) ?_
  refine lv_iload_n hx hb dX0_mark_7 rfl (lv_at hl 3 rfl) ?_
  refine lv_icmp_ge (tgt := 117) hx hb dX0_mark_8 (by decide) (fun c9 => absurd c9 (by decide)) (fun _ => ?_)
  refine lv_iload hx hb dX0_mark_11 (lv_at hl 0 rfl) ?_
  refine lv_sipush (v := 3000) hx hb dX0_mark_13 (by decide) ?_
  refine lv_icmp_ge (tgt := 117) hx hb dX0_mark_16 (by decide) (fun c9 => absurd c9 (by decide)) (fun _ => ?_)
  refine lv_aload_n hx hb dX0_mark_19 rfl (lv_at hl 2 rfl) ?_
  refine k_get (D := D) (ci := 0) (v := .ref h1) (N := 19) hx hb hts hin0 hown hK hP 0 rfl rfl (by decide) f9_0_4 (hts (.fieldLink RX0 18 "IntegerHouse$Answers" "far" "[I") (o9_X0_mark _ (List.mem_of_getElem? (i := 0) rfl))) e0 dX0_mark_20 ?_
  refine lv_iload hx hb dX0_mark_23 (lv_at hl 0 rfl) ?_
  refine va_iald hx hb hK hP 1 0 rfl rfl (k_in (by decide)) dX0_mark_25 ?_
  refine k_topi (y := 0) e1 ?_
  refine lv_iload_n hx hb dX0_mark_26 rfl (lv_at hl 4 rfl) ?_
  refine lv_icmp_ne (tgt := 111) hx hb dX0_mark_27 (by decide) (fun _ => ?_) (fun c9 => absurd c9 (by decide))
  refine lv_iinc (v := 1) (lv' := [(4, .int 1), (3, .int 0), (0, .ref h0), (1, .int 1), (2, .int 1)]) hx hb dX0_mark_111 hl (k := 0) rfl (by decide) (by decide) rfl (fun ls hl => ?_)
  refine lv_goto (tgt := 5) hx hb dX0_mark_114 (by decide) ?_
  refine lv_iload hx hb dX0_mark_5 (lv_at hl 0 rfl) ?_
  refine lv_iload_n hx hb dX0_mark_7 rfl (lv_at hl 3 rfl) ?_
  refine lv_icmp_ge (tgt := 117) hx hb dX0_mark_8 (by decide) (fun _ => ?_) (fun c9 => absurd (by decide) c9)
  refine lv_iload_n hx hb dX0_mark_117 rfl (lv_at hl 1 rfl) ?_
  exact W.zret (v := 0) hx hb hr rfl (fun t ht hW => ⟨⟨0, (), rfl, rfl, kB_mk ht hW hP hK hD⟩, hS.F ht⟩) hS.2.2 dX0_mark_118
