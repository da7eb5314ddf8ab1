theorem dX11_decide_0 : decode cX11_decide 0 = .ok (.aload_n 0, 1) := by decide +kernel
theorem dX11_decide_1 : decode cX11_decide 1 = .ok (.getfield 16, 3) := by decide +kernel
theorem dX11_decide_4 : decode cX11_decide 4 = .ok (.getfield 122, 3) := by decide +kernel
theorem dX11_decide_7 : decode cX11_decide 7 = .ok (.ifCond .eq 6, 3) := by decide +kernel
theorem dX11_decide_13 : decode cX11_decide 13 = .ok (.aload_n 0, 1) := by decide +kernel
theorem dX11_decide_14 : decode cX11_decide 14 = .ok (.getfield 55, 3) := by decide +kernel
theorem dX11_decide_17 : decode cX11_decide 17 = .ok (.aload_n 0, 1) := by decide +kernel
theorem dX11_decide_18 : decode cX11_decide 18 = .ok (.getfield 23, 3) := by decide +kernel
theorem dX11_decide_21 : decode cX11_decide 21 = .ok (.getfield 213, 3) := by decide +kernel
theorem dX11_decide_24 : decode cX11_decide 24 = .ok (.invokevirtual 298, 3) := by decide +kernel
theorem dX11_decide_27 : decode cX11_decide 27 = .ok (.ifCond .ne 6, 3) := by decide +kernel
theorem dX11_decide_33 : decode cX11_decide 33 = .ok (.aload_n 0, 1) := by decide +kernel
theorem dX11_decide_34 : decode cX11_decide 34 = .ok (.getfield 64, 3) := by decide +kernel
theorem dX11_decide_37 : decode cX11_decide 37 = .ok (.aload_n 0, 1) := by decide +kernel
theorem dX11_decide_38 : decode cX11_decide 38 = .ok (.getfield 23, 3) := by decide +kernel
theorem dX11_decide_41 : decode cX11_decide 41 = .ok (.getfield 213, 3) := by decide +kernel
theorem dX11_decide_44 : decode cX11_decide 44 = .ok (.iconst 0, 1) := by decide +kernel
theorem dX11_decide_45 : decode cX11_decide 45 = .ok (.invokevirtual 301, 3) := by decide +kernel
theorem dX11_decide_48 : decode cX11_decide 48 = .ok (.ifCond .eq 7, 3) := by decide +kernel
theorem dX11_decide_51 : decode cX11_decide 51 = .ok (.iconst 1, 1) := by decide +kernel
theorem dX11_decide_52 : decode cX11_decide 52 = .ok (.goto 4, 3) := by decide +kernel
theorem dX11_decide_56 : decode cX11_decide 56 = .ok (.ireturn, 1) := by decide +kernel
theorem dX12_idle_0 : decode cX12_idle 0 = .ok (.aload_n 0, 1) := by decide +kernel
theorem dX12_idle_1 : decode cX12_idle 1 = .ok (.iconst 0, 1) := by decide +kernel
theorem dX12_idle_2 : decode cX12_idle 2 = .ok (.putfield 928, 3) := by decide +kernel
theorem dX12_idle_5 : decode cX12_idle 5 = .ok (.iconst 0, 1) := by decide +kernel
theorem dX12_idle_6 : decode cX12_idle 6 = .ok (.istore_n 1, 1) := by decide +kernel
theorem dX12_idle_7 : decode cX12_idle 7 = .ok (.iload_n 1, 1) := by decide +kernel
theorem dX12_idle_8 : decode cX12_idle 8 = .ok (.bipush 25, 2) := by decide +kernel
theorem dX12_idle_10 : decode cX12_idle 10 = .ok (.if_icmp .gt 16, 3) := by decide +kernel
theorem dX12_idle_13 : decode cX12_idle 13 = .ok (.aload_n 0, 1) := by decide +kernel
theorem dX12_idle_14 : decode cX12_idle 14 = .ok (.getfield 304, 3) := by decide +kernel
theorem dX12_idle_17 : decode cX12_idle 17 = .ok (.iload_n 1, 1) := by decide +kernel
theorem dX12_idle_18 : decode cX12_idle 18 = .ok (.iconst 0, 1) := by decide +kernel
theorem dX12_idle_19 : decode cX12_idle 19 = .ok (.bastore, 1) := by decide +kernel
theorem dX12_idle_20 : decode cX12_idle 20 = .ok (.iinc 1 1, 3) := by decide +kernel
theorem dX12_idle_23 : decode cX12_idle 23 = .ok (.goto (-16), 3) := by decide +kernel
theorem dX12_idle_26 : decode cX12_idle 26 = .ok (.return_, 1) := by decide +kernel
theorem dX12_putOn_0 : decode cX12_putOn 0 = .ok (.aload_n 0, 1) := by decide +kernel
theorem dX12_putOn_1 : decode cX12_putOn 1 = .ok (.invokevirtual 934, 3) := by decide +kernel
theorem dX12_putOn_4 : decode cX12_putOn 4 = .ok (.iconst 0, 1) := by decide +kernel
theorem dX12_putOn_5 : decode cX12_putOn 5 = .ok (.istore_n 1, 1) := by decide +kernel
theorem dX12_putOn_6 : decode cX12_putOn 6 = .ok (.iload_n 1, 1) := by decide +kernel
theorem dX12_putOn_7 : decode cX12_putOn 7 = .ok (.aload_n 0, 1) := by decide +kernel
theorem dX12_putOn_8 : decode cX12_putOn 8 = .ok (.getfield 818, 3) := by decide +kernel
theorem dX12_putOn_11 : decode cX12_putOn 11 = .ok (.if_icmp .ge 23, 3) := by decide +kernel
theorem dX12_putOn_34 : decode cX12_putOn 34 = .ok (.return_, 1) := by decide +kernel
theorem dX12_findWork_0 : decode cX12_findWork 0 = .ok (.bipush 24, 2) := by decide +kernel
theorem dX12_findWork_2 : decode cX12_findWork 2 = .ok (.istore_n 1, 1) := by decide +kernel
theorem dX12_findWork_3 : decode cX12_findWork 3 = .ok (.iload_n 1, 1) := by decide +kernel
theorem dX12_findWork_4 : decode cX12_findWork 4 = .ok (.ifCond .lt 115, 3) := by decide +kernel
theorem dX12_findWork_7 : decode cX12_findWork 7 = .ok (.sipush 250, 3) := by decide +kernel
theorem dX12_findWork_10 : decode cX12_findWork 10 = .ok (.iload_n 1, 1) := by decide +kernel
theorem dX12_findWork_11 : decode cX12_findWork 11 = .ok (.imul, 1) := by decide +kernel
theorem dX12_findWork_12 : decode cX12_findWork 12 = .ok (.istore_n 2, 1) := by decide +kernel
theorem dX12_findWork_13 : decode cX12_findWork 13 = .ok (.aload_n 0, 1) := by decide +kernel
theorem dX12_findWork_14 : decode cX12_findWork 14 = .ok (.getfield 304, 3) := by decide +kernel
theorem dX12_findWork_17 : decode cX12_findWork 17 = .ok (.iload_n 1, 1) := by decide +kernel
theorem dX12_findWork_18 : decode cX12_findWork 18 = .ok (.baload, 1) := by decide +kernel
theorem dX12_findWork_19 : decode cX12_findWork 19 = .ok (.ifCond .eq 48, 3) := by decide +kernel
theorem dX12_findWork_67 : decode cX12_findWork 67 = .ok (.bipush 24, 2) := by decide +kernel
theorem dX12_findWork_69 : decode cX12_findWork 69 = .ok (.iload_n 1, 1) := by decide +kernel
theorem dX12_findWork_70 : decode cX12_findWork 70 = .ok (.imul, 1) := by decide +kernel
theorem dX12_findWork_71 : decode cX12_findWork 71 = .ok (.istore_n 2, 1) := by decide +kernel
theorem dX12_findWork_72 : decode cX12_findWork 72 = .ok (.aload_n 0, 1) := by decide +kernel
theorem dX12_findWork_73 : decode cX12_findWork 73 = .ok (.getfield 304, 3) := by decide +kernel
theorem dX12_findWork_76 : decode cX12_findWork 76 = .ok (.iload_n 1, 1) := by decide +kernel
theorem dX12_findWork_77 : decode cX12_findWork 77 = .ok (.baload, 1) := by decide +kernel
theorem dX12_findWork_78 : decode cX12_findWork 78 = .ok (.ifCond .eq 35, 3) := by decide +kernel
theorem dX12_findWork_113 : decode cX12_findWork 113 = .ok (.iinc 1 (-1), 3) := by decide +kernel
theorem dX12_findWork_116 : decode cX12_findWork 116 = .ok (.goto (-113), 3) := by decide +kernel
theorem dX12_findWork_119 : decode cX12_findWork 119 = .ok (.return_, 1) := by decide +kernel
set_option maxHeartbeats 400000000 in
set_option maxRecDepth 100000 in
theorem c_X11_decide_0 (l : Launch) (E : kE) (D : va_G) (cI cJ cB cZ : ClassId) (h0 : Nat) (f0 : List Value) (h1 : Nat) (f1 : List Value) (h2 : Nat) (h3 : Nat) (f2 : List Value) (f3 : List Value) (h4 : Nat) (h5 : Nat) (h6 : Nat) (g0 : Nat → Int32) (g1 : Nat → Int32) (g2 : Nat → Int32) (h7 : Nat) (f4 : List Value) (h8 : Nat) (h9 : Nat) (h10 : Nat) (g3 : Nat → Int32) (g4 : Nat → Int32) (g5 : Nat → Int64) (e0 : f0[1]? = some (.ref h1)) (e1 : f1[8]? = some (.int 0)) (e2 : f0[6]? = some (.ref h2)) (e3 : f0[2]? = some (.ref h3)) (e4 : f2[13]? = some (.int 0)) (e5 : f3[10]? = some (.int 0)) (e6 : f3[11]? = some (.int 0)) (e7 : f3[0]? = some (.ref h3)) (e8 : f2[10]? = some (.int 0)) (e9 : f3[12]? = some (.int 0)) (e10 : f3[9]? = some (.ref h4)) (e11 : f3[13]? = some (.int 0)) (e12 : f3[7]? = some (.ref h5)) (e13 : f3[8]? = some (.ref h6)) (e14 : f0[7]? = some (.ref h7)) (e15 : f4[1]? = some (.ref h2)) (e16 : f4[5]? = some (.ref h8)) (e17 : f4[4]? = some (.ref h9)) (e18 : f4[12]? = some (.int (-1))) (e19 : f4[0]? = some (.ref h3)) (e20 : f4[11]? = some (.int 0)) (e21 : f4[2]? = some (.ref h10)) : kI l E D (kT cI cJ cB cZ) yX11_decide vW_X11_decide ({ frames := 5, cells := 0, slots := 0, locals := 115 }) [.ref h0] [(h0, .inr (11, f0)), (h1, .inr (1, f1)), (h3, .inr (2, f2)), (h2, .inr (6, f3)), (h4, .inl (cI, 8192, .inl g0)), (h5, .inl (cI, 48000, .inl g1)), (h6, .inl (cI, 48000, .inl g2)), (h7, .inr (0, f4)), (h8, .inl (cI, 3000, .inl g3)), (h9, .inl (cI, 3000, .inl g4)), (h10, .inl (cJ, 4, .inr (.inl g5)))] (1) [(h0, .inr (11, f0)), (h1, .inr (1, f1)), (h3, .inr (2, f2)), (h2, .inr (6, ((((((((((((((((((((((((((((((f3.set 10 (.int 0)).set 11 (.int 0)).set 12 (.int 1)).set 11 (.int 0)).set 11 (.int 0)).set 11 (.int 0)).set 11 (.int 0)).set 11 (.int 0)).set 11 (.int 0)).set 11 (.int 0)).set 11 (.int 0)).set 11 (.int 0)).set 11 (.int 0)).set 11 (.int 0)).set 11 (.int 0)).set 11 (.int 0)).set 11 (.int 0)).set 11 (.int 0)).set 11 (.int 0)).set 11 (.int 0)).set 11 (.int 0)).set 11 (.int 0)).set 11 (.int 0)).set 11 (.int 0)).set 11 (.int 0)).set 11 (.int 0)).set 11 (.int 0)).set 11 (.int 0)).set 13 (.int 0)).set 13 (.int 1)))), (h4, .inl (cI, 8192, .inl (upd (k_fill 0 8192 g0) 782 1))), (h5, .inl (cI, 48000, .inl (upd g1 0 0))), (h6, .inl (cI, 48000, .inl (upd g2 0 0))), (h7, .inr (0, ((f4.set 12 (.int 0)).set 11 (.int 0)))), (h8, .inl (cI, 3000, .inl (upd g3 0 1))), (h9, .inl (cI, 3000, .inl (upd g4 0 0))), (h10, .inl (cJ, 4, .inr (.inl (vp_updL (vp_updL (vp_updL (vp_updL (k_fillL 0 4 g5) 0 0) 1 0) 2 0) 3 0))))] 0 0 := by
  intro sz
  refine Met.ofW (cc := cX11_decide) (maxL := 1) (ret := (some .int)) (by decide) rfl ?_
  intro p e s m args below meth c s₁ B hml hv
  obtain ⟨rfl, hsz, hP, hK, hD0, hN, hX⟩ := hv
  have hx := B.exec
  have hb := B.bytes
  have hr := B.returns
  have hts := atoms_spec (ws := vW_X11_decide) B.pre
  have hown : s.vm.findClass RX11 = some m.cls := findClass_of_methodNamed B.named
  have hlocks := B.notSynchronized
  have hin11 : ∀ w ∈ wsX110, w ∈ vW_X11_decide := u9_X11_decide_wsX110
  have hin1 : ∀ w ∈ wsX10, w ∈ vW_X11_decide := u9_X11_decide_wsX10
  have hin2 : ∀ w ∈ wsX20, w ∈ vW_X11_decide := u9_X11_decide_wsX20
  subst hsz
  have hD := hD0.self (sz := s.heap.size)
  have hAE := k_AE hD0 hX
  generalize hAe : va_A [(h0, .inr (11, f0)), (h1, .inr (1, f1)), (h3, .inr (2, f2)), (h2, .inr (6, f3)), (h4, .inl (cI, 8192, .inl g0)), (h5, .inl (cI, 48000, .inl g1)), (h6, .inl (cI, 48000, .inl g2)), (h7, .inr (0, f4)), (h8, .inl (cI, 3000, .inl g3)), (h9, .inl (cI, 3000, .inl g4)), (h10, .inl (cJ, 4, .inr (.inl g5)))] s.heap.size = A at hD hAE ⊢
  have hA : ∀ q : Nat, s.heap.size ≤ q → A q := fun q h => by rw [← hAe]; exact Or.inr h
  have hS : va_S A s.heap s.heap [] := va_S.rf
  have hP : va_P D vwCl [(h0, .inr (11, f0)), (h1, .inr (1, f1)), (h3, .inr (2, f2)), (h2, .inr (6, f3)), (h4, .inl (cI, 8192, .inl g0)), (h5, .inl (cI, 48000, .inl g1)), (h6, .inl (cI, 48000, .inl g2)), (h7, .inr (0, f4)), (h8, .inl (cI, 3000, .inl g3)), (h9, .inl (cI, 3000, .inl g4)), (h10, .inl (cJ, 4, .inr (.inl g5)))] s.heap := hP
  have hl := lv_entry ([.ref h0] : List Value) (n := 1) (Nat.le_of_ble_eq_true rfl)
  rw [lg_entry_eq]
  generalize (lg_sl ([.ref h0]) ++ List.replicate (1 - (lg_sl ([.ref h0])).length) Slot.unset).toArray = ls at hl ⊢
  have hl : lv_has ls 1 [(0, .ref h0)] := hl
  refine lv_aload_n hx hb dX11_decide_0 rfl (lv_at hl 0 rfl) ?_
  refine k_get (D := D) (ci := 11) (v := .ref h1) (N := 15) hx hb hts hin11 hown hK hP 0 rfl rfl (by decide) f9_11_1 (hts (.fieldLink RX11 16 "IntegerHouse" "disk" "LIntegerHouse$Disk;") (o9_X11_decide _ (List.mem_of_getElem? (i := 0) rfl))) e0 dX11_decide_1 ?_
  refine k_getN (host := "IntegerHouse") (D := D) (ci := 1) (v := .int 0) (N := 9) hx hb hts hin1 hown hK hP 1 rfl rfl (by decide) f9_1_8 (va_Nw.use rfl (hN.1 ("IntegerHouse", 122, "IntegerHouse$Disk", "down", "Z", "IntegerHouse") (List.mem_of_getElem? (i := 3) rfl))) e1 dX11_decide_4 ?_
  refine lv_if_eq (tgt := 13) hx hb dX11_decide_7 (by decide) (fun _ => ?_) (fun c9 => absurd (by decide) c9)
  refine lv_aload_n hx hb dX11_decide_13 rfl (lv_at hl 0 rfl) ?_
  refine k_get (D := D) (ci := 11) (v := .ref h2) (N := 15) hx hb hts hin11 hown hK hP 0 rfl rfl (by decide) f9_11_6 (hts (.fieldLink RX11 55 "IntegerHouse" "places" "LIntegerHouse$Places;") (o9_X11_decide _ (List.mem_of_getElem? (i := 1) rfl))) e2 dX11_decide_14 ?_
  refine lv_aload_n hx hb dX11_decide_17 rfl (lv_at hl 0 rfl) ?_
  refine k_get (D := D) (ci := 11) (v := .ref h3) (N := 15) hx hb hts hin11 hown hK hP 0 rfl rfl (by decide) f9_11_2 (hts (.fieldLink RX11 23 "IntegerHouse" "house" "LIntegerHouse$House;") (o9_X11_decide _ (List.mem_of_getElem? (i := 2) rfl))) e3 dX11_decide_18 ?_
  refine k_getN (host := "IntegerHouse") (D := D) (ci := 2) (v := .int 0) (N := 16) hx hb hts hin2 hown hK hP 2 rfl rfl (by decide) f9_2_13 (va_Nw.use rfl (hN.1 ("IntegerHouse", 213, "IntegerHouse$House", "on", "I", "IntegerHouse") (List.mem_of_getElem? (i := 20) rfl))) e4 dX11_decide_21 ?_
  refine k_cVi (As := [.int 0]) (rest := []) (wc := [(h2, .inr (6, f3)), (h3, .inr (2, f2)), (h4, .inl (cI, 8192, .inl g0)), (h5, .inl (cI, 48000, .inl g1)), (h6, .inl (cI, 48000, .inl g2))]) (wr := [(h0, .inr (11, f0)), (h1, .inr (1, f1)), (h7, .inr (0, f4)), (h8, .inl (cI, 3000, .inl g3)), (h9, .inl (cI, 3000, .inl g4)), (h10, .inl (cJ, 4, .inr (.inl g5)))]) (w1 := [(h2, .inr (6, ((((((((((((((((((((((((((((((f3.set 10 (.int 0)).set 11 (.int 0)).set 12 (.int 1)).set 11 (.int 0)).set 11 (.int 0)).set 11 (.int 0)).set 11 (.int 0)).set 11 (.int 0)).set 11 (.int 0)).set 11 (.int 0)).set 11 (.int 0)).set 11 (.int 0)).set 11 (.int 0)).set 11 (.int 0)).set 11 (.int 0)).set 11 (.int 0)).set 11 (.int 0)).set 11 (.int 0)).set 11 (.int 0)).set 11 (.int 0)).set 11 (.int 0)).set 11 (.int 0)).set 11 (.int 0)).set 11 (.int 0)).set 11 (.int 0)).set 11 (.int 0)).set 11 (.int 0)).set 11 (.int 0)).set 13 (.int 0)).set 13 (.int 1)))), (h3, .inr (2, f2)), (h4, .inl (cI, 8192, .inl (upd (k_fill 0 8192 g0) 782 1))), (h5, .inl (cI, 48000, .inl (upd g1 0 0))), (h6, .inl (cI, 48000, .inl (upd g2 0 0)))]) ⟨hx, hb, hml, hown, hts⟩ hN hX hAE hK hP hD hS hA [3, 2, 4, 5, 6] [0, 1, 7, 8, 9, 10] (ci := 6) rfl rfl rfl rfl (by decide +kernel) (by decide +kernel) (by decide +kernel) (c_X6_judge_0 l E D cI cJ cB cZ h2 f3 h3 f2 h4 h5 g0 g1 h6 g2 e5 e6 e7 e8 e9 e10 e11 e12 e13) (cwV 1 hts g9_X11_decide_X6_judge_298 rfl rfl rfl (by decide +kernel) ⟨Nat.le_of_ble_eq_true rfl, Nat.le_of_ble_eq_true rfl⟩) rfl hl.1 (Nat.le_of_ble_eq_true rfl) dX11_decide_24 ⟨Nat.le_of_ble_eq_true rfl, Nat.le_of_ble_eq_true rfl⟩ (fun H locs hP hD hS => ?_)
  have hP : va_P D vwCl [(h0, .inr (11, f0)), (h1, .inr (1, f1)), (h7, .inr (0, f4)), (h8, .inl (cI, 3000, .inl g3)), (h9, .inl (cI, 3000, .inl g4)), (h10, .inl (cJ, 4, .inr (.inl g5))), (h2, .inr (6, ((((((((((((((((((((((((((((((f3.set 10 (.int 0)).set 11 (.int 0)).set 12 (.int 1)).set 11 (.int 0)).set 11 (.int 0)).set 11 (.int 0)).set 11 (.int 0)).set 11 (.int 0)).set 11 (.int 0)).set 11 (.int 0)).set 11 (.int 0)).set 11 (.int 0)).set 11 (.int 0)).set 11 (.int 0)).set 11 (.int 0)).set 11 (.int 0)).set 11 (.int 0)).set 11 (.int 0)).set 11 (.int 0)).set 11 (.int 0)).set 11 (.int 0)).set 11 (.int 0)).set 11 (.int 0)).set 11 (.int 0)).set 11 (.int 0)).set 11 (.int 0)).set 11 (.int 0)).set 11 (.int 0)).set 13 (.int 0)).set 13 (.int 1)))), (h3, .inr (2, f2)), (h4, .inl (cI, 8192, .inl (upd (k_fill 0 8192 g0) 782 1))), (h5, .inl (cI, 48000, .inl (upd g1 0 0))), (h6, .inl (cI, 48000, .inl (upd g2 0 0)))] H := hP
  have hD : va_D A [(h0, .inr (11, f0)), (h1, .inr (1, f1)), (h7, .inr (0, f4)), (h8, .inl (cI, 3000, .inl g3)), (h9, .inl (cI, 3000, .inl g4)), (h10, .inl (cJ, 4, .inr (.inl g5))), (h2, .inr (6, ((((((((((((((((((((((((((((((f3.set 10 (.int 0)).set 11 (.int 0)).set 12 (.int 1)).set 11 (.int 0)).set 11 (.int 0)).set 11 (.int 0)).set 11 (.int 0)).set 11 (.int 0)).set 11 (.int 0)).set 11 (.int 0)).set 11 (.int 0)).set 11 (.int 0)).set 11 (.int 0)).set 11 (.int 0)).set 11 (.int 0)).set 11 (.int 0)).set 11 (.int 0)).set 11 (.int 0)).set 11 (.int 0)).set 11 (.int 0)).set 11 (.int 0)).set 11 (.int 0)).set 11 (.int 0)).set 11 (.int 0)).set 11 (.int 0)).set 11 (.int 0)).set 11 (.int 0)).set 11 (.int 0)).set 13 (.int 0)).set 13 (.int 1)))), (h3, .inr (2, f2)), (h4, .inl (cI, 8192, .inl (upd (k_fill 0 8192 g0) 782 1))), (h5, .inl (cI, 48000, .inl (upd g1 0 0))), (h6, .inl (cI, 48000, .inl (upd g2 0 0)))] := hD
  refine lv_if_ne (tgt := 33) hx hb dX11_decide_27 (by decide) (fun _ => ?_) (fun c9 => absurd c9 (by decide))
  refine lv_aload_n hx hb dX11_decide_33 rfl (lv_at hl 0 rfl) ?_
  refine k_get (D := D) (ci := 11) (v := .ref h7) (N := 15) hx hb hts hin11 hown hK hP 0 rfl rfl (by decide) f9_11_7 (hts (.fieldLink RX11 64 "IntegerHouse" "answers" "LIntegerHouse$Answers;") (o9_X11_decide _ (List.mem_of_getElem? (i := 7) rfl))) e14 dX11_decide_34 ?_
  refine lv_aload_n hx hb dX11_decide_37 rfl (lv_at hl 0 rfl) ?_
  refine k_get (D := D) (ci := 11) (v := .ref h3) (N := 15) hx hb hts hin11 hown hK hP 0 rfl rfl (by decide) f9_11_2 (hts (.fieldLink RX11 23 "IntegerHouse" "house" "LIntegerHouse$House;") (o9_X11_decide _ (List.mem_of_getElem? (i := 2) rfl))) e3 dX11_decide_38 ?_
  refine k_getN (host := "IntegerHouse") (D := D) (ci := 2) (v := .int 0) (N := 16) hx hb hts hin2 hown hK hP 7 rfl rfl (by decide) f9_2_13 (va_Nw.use rfl (hN.1 ("IntegerHouse", 213, "IntegerHouse$House", "on", "I", "IntegerHouse") (List.mem_of_getElem? (i := 20) rfl))) e4 dX11_decide_41 ?_
  refine lv_iconst (v := 0) hx hb dX11_decide_44 (by decide) ?_
  refine k_cVi (As := [.int 0, .int 0]) (rest := []) (wc := [(h7, .inr (0, f4)), (h2, .inr (6, ((((((((((((((((((((((((((((((f3.set 10 (.int 0)).set 11 (.int 0)).set 12 (.int 1)).set 11 (.int 0)).set 11 (.int 0)).set 11 (.int 0)).set 11 (.int 0)).set 11 (.int 0)).set 11 (.int 0)).set 11 (.int 0)).set 11 (.int 0)).set 11 (.int 0)).set 11 (.int 0)).set 11 (.int 0)).set 11 (.int 0)).set 11 (.int 0)).set 11 (.int 0)).set 11 (.int 0)).set 11 (.int 0)).set 11 (.int 0)).set 11 (.int 0)).set 11 (.int 0)).set 11 (.int 0)).set 11 (.int 0)).set 11 (.int 0)).set 11 (.int 0)).set 11 (.int 0)).set 11 (.int 0)).set 13 (.int 0)).set 13 (.int 1)))), (h6, .inl (cI, 48000, .inl (upd g2 0 0))), (h8, .inl (cI, 3000, .inl g3)), (h9, .inl (cI, 3000, .inl g4)), (h3, .inr (2, f2)), (h10, .inl (cJ, 4, .inr (.inl g5)))]) (wr := [(h0, .inr (11, f0)), (h1, .inr (1, f1)), (h4, .inl (cI, 8192, .inl (upd (k_fill 0 8192 g0) 782 1))), (h5, .inl (cI, 48000, .inl (upd g1 0 0)))]) (w1 := [(h7, .inr (0, ((f4.set 12 (.int 0)).set 11 (.int 0)))), (h2, .inr (6, ((((((((((((((((((((((((((((((f3.set 10 (.int 0)).set 11 (.int 0)).set 12 (.int 1)).set 11 (.int 0)).set 11 (.int 0)).set 11 (.int 0)).set 11 (.int 0)).set 11 (.int 0)).set 11 (.int 0)).set 11 (.int 0)).set 11 (.int 0)).set 11 (.int 0)).set 11 (.int 0)).set 11 (.int 0)).set 11 (.int 0)).set 11 (.int 0)).set 11 (.int 0)).set 11 (.int 0)).set 11 (.int 0)).set 11 (.int 0)).set 11 (.int 0)).set 11 (.int 0)).set 11 (.int 0)).set 11 (.int 0)).set 11 (.int 0)).set 11 (.int 0)).set 11 (.int 0)).set 11 (.int 0)).set 13 (.int 0)).set 13 (.int 1)))), (h6, .inl (cI, 48000, .inl (upd g2 0 0))), (h8, .inl (cI, 3000, .inl (upd g3 0 1))), (h9, .inl (cI, 3000, .inl (upd g4 0 0))), (h3, .inr (2, f2)), (h10, .inl (cJ, 4, .inr (.inl (vp_updL (vp_updL (vp_updL (vp_updL (k_fillL 0 4 g5) 0 0) 1 0) 2 0) 3 0))))]) ⟨hx, hb, hml, hown, hts⟩ hN hX hAE hK hP hD hS hA [2, 6, 10, 3, 4, 7, 5] [0, 1, 8, 9] (ci := 0) rfl rfl rfl rfl (by decide +kernel) (by decide +kernel) (by decide +kernel) (c_X0_tellLeast_0 l E D cI cJ cB cZ h7 f4 h2 (((((((((((((((((((((((((((((((f3.set 10 (.int 0)).set 11 (.int 0)).set 12 (.int 1)).set 11 (.int 0)).set 11 (.int 0)).set 11 (.int 0)).set 11 (.int 0)).set 11 (.int 0)).set 11 (.int 0)).set 11 (.int 0)).set 11 (.int 0)).set 11 (.int 0)).set 11 (.int 0)).set 11 (.int 0)).set 11 (.int 0)).set 11 (.int 0)).set 11 (.int 0)).set 11 (.int 0)).set 11 (.int 0)).set 11 (.int 0)).set 11 (.int 0)).set 11 (.int 0)).set 11 (.int 0)).set 11 (.int 0)).set 11 (.int 0)).set 11 (.int 0)).set 11 (.int 0)).set 11 (.int 0)).set 13 (.int 0)).set 13 (.int 1))) h8 h6 ((upd g2 0 0)) g3 h9 g4 h3 f2 h10 g5 e15 (k_set (k_set (k_ne (by decide) (k_ne (by decide) (k_ne (by decide) (k_ne (by decide) (k_ne (by decide) (k_ne (by decide) (k_ne (by decide) (k_ne (by decide) (k_ne (by decide) (k_ne (by decide) (k_ne (by decide) (k_ne (by decide) (k_ne (by decide) (k_ne (by decide) (k_ne (by decide) (k_ne (by decide) (k_ne (by decide) (k_ne (by decide) (k_ne (by decide) (k_ne (by decide) (k_ne (by decide) (k_ne (by decide) (k_ne (by decide) (k_ne (by decide) (k_ne (by decide) (k_ne (by decide) (k_ne (by decide) (k_ne (by decide) e11)))))))))))))))))))))))))))))) e16 (k_ne (by decide) (k_ne (by decide) (k_ne (by decide) (k_ne (by decide) (k_ne (by decide) (k_ne (by decide) (k_ne (by decide) (k_ne (by decide) (k_ne (by decide) (k_ne (by decide) (k_ne (by decide) (k_ne (by decide) (k_ne (by decide) (k_ne (by decide) (k_ne (by decide) (k_ne (by decide) (k_ne (by decide) (k_ne (by decide) (k_ne (by decide) (k_ne (by decide) (k_ne (by decide) (k_ne (by decide) (k_ne (by decide) (k_ne (by decide) (k_ne (by decide) (k_ne (by decide) (k_ne (by decide) (k_set (k_ne (by decide) (k_ne (by decide) e9)))))))))))))))))))))))))))))) (k_ne (by decide) (k_ne (by decide) (k_ne (by decide) (k_ne (by decide) (k_ne (by decide) (k_ne (by decide) (k_ne (by decide) (k_ne (by decide) (k_ne (by decide) (k_ne (by decide) (k_ne (by decide) (k_ne (by decide) (k_ne (by decide) (k_ne (by decide) (k_ne (by decide) (k_ne (by decide) (k_ne (by decide) (k_ne (by decide) (k_ne (by decide) (k_ne (by decide) (k_ne (by decide) (k_ne (by decide) (k_ne (by decide) (k_ne (by decide) (k_ne (by decide) (k_ne (by decide) (k_ne (by decide) (k_ne (by decide) (k_ne (by decide) (k_ne (by decide) e13)))))))))))))))))))))))))))))) rfl e17 e18 e19 e8 e20 e21) (cwV 2 hts g9_X11_decide_X0_tellLeast_301 rfl rfl rfl (by decide +kernel) ⟨Nat.le_of_ble_eq_true rfl, Nat.le_of_ble_eq_true rfl⟩) rfl hl.1 (Nat.le_of_ble_eq_true rfl) dX11_decide_45 ⟨Nat.le_of_ble_eq_true rfl, Nat.le_of_ble_eq_true rfl⟩ (fun H locs hP hD hS => ?_)
  have hP : va_P D vwCl [(h0, .inr (11, f0)), (h1, .inr (1, f1)), (h4, .inl (cI, 8192, .inl (upd (k_fill 0 8192 g0) 782 1))), (h5, .inl (cI, 48000, .inl (upd g1 0 0))), (h7, .inr (0, ((f4.set 12 (.int 0)).set 11 (.int 0)))), (h2, .inr (6, ((((((((((((((((((((((((((((((f3.set 10 (.int 0)).set 11 (.int 0)).set 12 (.int 1)).set 11 (.int 0)).set 11 (.int 0)).set 11 (.int 0)).set 11 (.int 0)).set 11 (.int 0)).set 11 (.int 0)).set 11 (.int 0)).set 11 (.int 0)).set 11 (.int 0)).set 11 (.int 0)).set 11 (.int 0)).set 11 (.int 0)).set 11 (.int 0)).set 11 (.int 0)).set 11 (.int 0)).set 11 (.int 0)).set 11 (.int 0)).set 11 (.int 0)).set 11 (.int 0)).set 11 (.int 0)).set 11 (.int 0)).set 11 (.int 0)).set 11 (.int 0)).set 11 (.int 0)).set 11 (.int 0)).set 13 (.int 0)).set 13 (.int 1)))), (h6, .inl (cI, 48000, .inl (upd g2 0 0))), (h8, .inl (cI, 3000, .inl (upd g3 0 1))), (h9, .inl (cI, 3000, .inl (upd g4 0 0))), (h3, .inr (2, f2)), (h10, .inl (cJ, 4, .inr (.inl (vp_updL (vp_updL (vp_updL (vp_updL (k_fillL 0 4 g5) 0 0) 1 0) 2 0) 3 0))))] H := hP
  have hD : va_D A [(h0, .inr (11, f0)), (h1, .inr (1, f1)), (h4, .inl (cI, 8192, .inl (upd (k_fill 0 8192 g0) 782 1))), (h5, .inl (cI, 48000, .inl (upd g1 0 0))), (h7, .inr (0, ((f4.set 12 (.int 0)).set 11 (.int 0)))), (h2, .inr (6, ((((((((((((((((((((((((((((((f3.set 10 (.int 0)).set 11 (.int 0)).set 12 (.int 1)).set 11 (.int 0)).set 11 (.int 0)).set 11 (.int 0)).set 11 (.int 0)).set 11 (.int 0)).set 11 (.int 0)).set 11 (.int 0)).set 11 (.int 0)).set 11 (.int 0)).set 11 (.int 0)).set 11 (.int 0)).set 11 (.int 0)).set 11 (.int 0)).set 11 (.int 0)).set 11 (.int 0)).set 11 (.int 0)).set 11 (.int 0)).set 11 (.int 0)).set 11 (.int 0)).set 11 (.int 0)).set 11 (.int 0)).set 11 (.int 0)).set 11 (.int 0)).set 11 (.int 0)).set 11 (.int 0)).set 13 (.int 0)).set 13 (.int 1)))), (h6, .inl (cI, 48000, .inl (upd g2 0 0))), (h8, .inl (cI, 3000, .inl (upd g3 0 1))), (h9, .inl (cI, 3000, .inl (upd g4 0 0))), (h3, .inr (2, f2)), (h10, .inl (cJ, 4, .inr (.inl (vp_updL (vp_updL (vp_updL (vp_updL (k_fillL 0 4 g5) 0 0) 1 0) 2 0) 3 0))))] := hD
  refine lv_if_eq (tgt := 55) hx hb dX11_decide_48 (by decide) (fun c9 => absurd c9 (by decide)) (fun _ => ?_)
  refine lv_iconst (v := 1) hx hb dX11_decide_51 (by decide) ?_
  refine lv_goto (tgt := 56) hx hb dX11_decide_52 (by decide) ?_
  have hP := hP.sub (ws' := [(h0, .inr (11, f0)), (h1, .inr (1, f1)), (h3, .inr (2, f2)), (h2, .inr (6, ((((((((((((((((((((((((((((((f3.set 10 (.int 0)).set 11 (.int 0)).set 12 (.int 1)).set 11 (.int 0)).set 11 (.int 0)).set 11 (.int 0)).set 11 (.int 0)).set 11 (.int 0)).set 11 (.int 0)).set 11 (.int 0)).set 11 (.int 0)).set 11 (.int 0)).set 11 (.int 0)).set 11 (.int 0)).set 11 (.int 0)).set 11 (.int 0)).set 11 (.int 0)).set 11 (.int 0)).set 11 (.int 0)).set 11 (.int 0)).set 11 (.int 0)).set 11 (.int 0)).set 11 (.int 0)).set 11 (.int 0)).set 11 (.int 0)).set 11 (.int 0)).set 11 (.int 0)).set 11 (.int 0)).set 13 (.int 0)).set 13 (.int 1)))), (h4, .inl (cI, 8192, .inl (upd (k_fill 0 8192 g0) 782 1))), (h5, .inl (cI, 48000, .inl (upd g1 0 0))), (h6, .inl (cI, 48000, .inl (upd g2 0 0))), (h7, .inr (0, ((f4.set 12 (.int 0)).set 11 (.int 0)))), (h8, .inl (cI, 3000, .inl (upd g3 0 1))), (h9, .inl (cI, 3000, .inl (upd g4 0 0))), (h10, .inl (cJ, 4, .inr (.inl (vp_updL (vp_updL (vp_updL (vp_updL (k_fillL 0 4 g5) 0 0) 1 0) 2 0) 3 0))))]) [0, 1, 9, 5, 2, 3, 6, 4, 7, 8, 10] rfl
  have hD := hD.sub (ws' := [(h0, .inr (11, f0)), (h1, .inr (1, f1)), (h3, .inr (2, f2)), (h2, .inr (6, ((((((((((((((((((((((((((((((f3.set 10 (.int 0)).set 11 (.int 0)).set 12 (.int 1)).set 11 (.int 0)).set 11 (.int 0)).set 11 (.int 0)).set 11 (.int 0)).set 11 (.int 0)).set 11 (.int 0)).set 11 (.int 0)).set 11 (.int 0)).set 11 (.int 0)).set 11 (.int 0)).set 11 (.int 0)).set 11 (.int 0)).set 11 (.int 0)).set 11 (.int 0)).set 11 (.int 0)).set 11 (.int 0)).set 11 (.int 0)).set 11 (.int 0)).set 11 (.int 0)).set 11 (.int 0)).set 11 (.int 0)).set 11 (.int 0)).set 11 (.int 0)).set 11 (.int 0)).set 11 (.int 0)).set 13 (.int 0)).set 13 (.int 1)))), (h4, .inl (cI, 8192, .inl (upd (k_fill 0 8192 g0) 782 1))), (h5, .inl (cI, 48000, .inl (upd g1 0 0))), (h6, .inl (cI, 48000, .inl (upd g2 0 0))), (h7, .inr (0, ((f4.set 12 (.int 0)).set 11 (.int 0)))), (h8, .inl (cI, 3000, .inl (upd g3 0 1))), (h9, .inl (cI, 3000, .inl (upd g4 0 0))), (h10, .inl (cJ, 4, .inr (.inl (vp_updL (vp_updL (vp_updL (vp_updL (k_fillL 0 4 g5) 0 0) 1 0) 2 0) 3 0))))]) [0, 1, 9, 5, 2, 3, 6, 4, 7, 8, 10] (by decide +kernel) rfl
  exact W.iret (v := 1) hx hb hr (fun t ht hW => ⟨⟨1, (), rfl, rfl, kB_mk ht hW hP hK hD⟩, hS.F ht⟩) hS.2.2 dX11_decide_56
set_option maxHeartbeats 400000000 in
set_option maxRecDepth 100000 in
theorem c_X12_idle_0 (l : Launch) (E : kE) (D : va_G) (cI cJ cB cZ : ClassId) (h0 : Nat) (f0 : List Value) (h1 : Nat) (g0 : Nat → Int32) (e0 : f0[119]? = some (.int 0)) (e1 : f0[121]? = some (.ref h1)) : kV l E D (kT cI cJ cB cZ) yX12_idle vW_X12_idle ({ frames := 0, cells := 0, slots := 0, locals := 0 }) [.ref h0] [(h0, .inr (12, f0)), (h1, .inl (cZ, 26, .inl g0))] (fun _ : Unit => [(h0, .inr (12, (f0.set 119 (.int 0)))), (h1, .inl (cZ, 26, .inl (upd (upd (upd (upd (upd (upd (upd (upd (upd (upd (upd (upd (upd (upd (upd (upd (upd (upd (upd (upd (upd (upd (upd (upd (upd (upd g0 0 0) 1 0) 2 0) 3 0) 4 0) 5 0) 6 0) 7 0) 8 0) 9 0) 10 0) 11 0) 12 0) 13 0) 14 0) 15 0) 16 0) 17 0) 18 0) 19 0) 20 0) 21 0) 22 0) 23 0) 24 0) 25 0)))]) 0 0 := by
  intro sz
  refine Met.ofW (cc := cX12_idle) (maxL := 2) (ret := none) (by decide) rfl ?_
  intro p e s m args below meth c s₁ B hml hv
  obtain ⟨rfl, hsz, hP, hK, hD0, hN, hX⟩ := hv
  have hx := B.exec
  have hb := B.bytes
  have hr := B.returns
  have hts := atoms_spec (ws := vW_X12_idle) B.pre
  have hown : s.vm.findClass RX12 = some m.cls := findClass_of_methodNamed B.named
  have hlocks := B.notSynchronized
  have hin12 : ∀ w ∈ wsX120, w ∈ vW_X12_idle := u9_X12_idle_wsX120
  subst hsz
  have hD := hD0.self (sz := s.heap.size)
  have hAE := k_AE hD0 hX
  generalize hAe : va_A [(h0, .inr (12, f0)), (h1, .inl (cZ, 26, .inl g0))] s.heap.size = A at hD hAE ⊢
  have hA : ∀ q : Nat, s.heap.size ≤ q → A q := fun q h => by rw [← hAe]; exact Or.inr h
  have hS : va_S A s.heap s.heap [] := va_S.rf
  have hP : va_P D vwCl [(h0, .inr (12, f0)), (h1, .inl (cZ, 26, .inl g0))] s.heap := hP
  have hl := lv_entry ([.ref h0] : List Value) (n := 2) (Nat.le_of_ble_eq_true rfl)
  rw [lg_entry_eq]
  generalize (lg_sl ([.ref h0]) ++ List.replicate (2 - (lg_sl ([.ref h0])).length) Slot.unset).toArray = ls at hl ⊢
  have hl : lv_has ls 2 [(0, .ref h0)] := hl
  refine lv_aload_n hx hb dX12_idle_0 rfl (lv_at hl 0 rfl) ?_
  refine lv_iconst (v := 0) hx hb dX12_idle_1 (by decide) ?_
  refine k_put (D := D) (ci := 12) (v := .int 0) (ty := .int) (N := 195) hx hb hts hin12 tyX12 tyX12_ok nmX12 hown hK hP hD hS 0 rfl rfl (by decide) f9_12_119 (hts (.fieldLink RX12 928 "IntegerHouseModel" "work" "I") (o9_X12_idle _ (List.mem_of_getElem? (i := 0) rfl))) rfl pd_2 rfl rfl (k_len e0) dX12_idle_2 (fun H locs hP hD hS => ?_)
  have hP : va_P D vwCl [(h0, .inr (12, (f0.set 119 (.int 0)))), (h1, .inl (cZ, 26, .inl g0))] H := hP
  have hD : va_D A [(h0, .inr (12, (f0.set 119 (.int 0)))), (h1, .inl (cZ, 26, .inl g0))] := hD
  refine lv_iconst (v := 0) hx hb dX12_idle_5 (by decide) ?_
  refine lv_istore_n (lv' := [(1, .int 0), (0, .ref h0)]) hx hb dX12_idle_6 rfl hl (by decide) rfl (fun ls hl => ?_)
  refine lv_iload_n hx hb dX12_idle_7 rfl (lv_at hl 0 rfl) ?_
  refine lv_bipush (v := 25) hx hb dX12_idle_8 (by decide) ?_
  refine lv_icmp_gt (tgt := 26) hx hb dX12_idle_10 (by decide) (fun c9 => absurd c9 (by decide)) (fun _ => ?_)
  refine lv_aload_n hx hb dX12_idle_13 rfl (lv_at hl 1 rfl) ?_
  refine k_get (D := D) (ci := 12) (v := .ref h1) (N := 195) hx hb hts hin12 hown hK hP 0 rfl rfl (by decide) f9_12_121 (hts (.fieldLink RX12 304 "IntegerHouseModel" "needed" "[Z") (o9_X12_idle _ (List.mem_of_getElem? (i := 1) rfl))) (k_ne (by decide) e1) dX12_idle_14 ?_
  refine lv_iload_n hx hb dX12_idle_17 rfl (lv_at hl 0 rfl) ?_
  refine lv_iconst (v := 0) hx hb dX12_idle_18 (by decide) ?_
  refine va_zast hx hb hK hP hD hS 1 3 rfl rfl (k_in (by decide)) dX12_idle_19 (fun H locs hP hD hS => ?_)
  have hP : va_P D vwCl [(h0, .inr (12, (f0.set 119 (.int 0)))), (h1, .inl (cZ, 26, .inl (upd g0 0 0)))] H := hP
  have hD : va_D A [(h0, .inr (12, (f0.set 119 (.int 0)))), (h1, .inl (cZ, 26, .inl (upd g0 0 0)))] := hD
  refine lv_iinc (v := 1) (lv' := [(1, .int 1), (0, .ref h0)]) hx hb dX12_idle_20 hl (k := 0) rfl (by decide) (by decide) rfl (fun ls hl => ?_)
  refine lv_goto (tgt := 7) hx hb dX12_idle_23 (by decide) ?_
  refine lv_iload_n hx hb dX12_idle_7 rfl (lv_at hl 0 rfl) ?_
  refine lv_bipush (v := 25) hx hb dX12_idle_8 (by decide) ?_
  refine lv_icmp_gt (tgt := 26) hx hb dX12_idle_10 (by decide) (fun c9 => absurd c9 (by decide)) (fun _ => ?_)
  refine lv_aload_n hx hb dX12_idle_13 rfl (lv_at hl 1 rfl) ?_
  refine k_get (D := D) (ci := 12) (v := .ref h1) (N := 195) hx hb hts hin12 hown hK hP 0 rfl rfl (by decide) f9_12_121 (hts (.fieldLink RX12 304 "IntegerHouseModel" "needed" "[Z") (o9_X12_idle _ (List.mem_of_getElem? (i := 1) rfl))) (k_ne (by decide) e1) dX12_idle_14 ?_
  refine lv_iload_n hx hb dX12_idle_17 rfl (lv_at hl 0 rfl) ?_
  refine lv_iconst (v := 0) hx hb dX12_idle_18 (by decide) ?_
  refine va_zast hx hb hK hP hD hS 1 3 rfl rfl (k_in (by decide)) dX12_idle_19 (fun H locs hP hD hS => ?_)
  have hP : va_P D vwCl [(h0, .inr (12, (f0.set 119 (.int 0)))), (h1, .inl (cZ, 26, .inl (upd (upd g0 0 0) 1 0)))] H := hP
  have hD : va_D A [(h0, .inr (12, (f0.set 119 (.int 0)))), (h1, .inl (cZ, 26, .inl (upd (upd g0 0 0) 1 0)))] := hD
  refine lv_iinc (v := 2) (lv' := [(1, .int 2), (0, .ref h0)]) hx hb dX12_idle_20 hl (k := 0) rfl (by decide) (by decide) rfl (fun ls hl => ?_)
  refine lv_goto (tgt := 7) hx hb dX12_idle_23 (by decide) ?_
  refine lv_iload_n hx hb dX12_idle_7 rfl (lv_at hl 0 rfl) ?_
  refine lv_bipush (v := 25) hx hb dX12_idle_8 (by decide) ?_
  refine lv_icmp_gt (tgt := 26) hx hb dX12_idle_10 (by decide) (fun c9 => absurd c9 (by decide)) (fun _ => ?_)
  refine lv_aload_n hx hb dX12_idle_13 rfl (lv_at hl 1 rfl) ?_
  refine k_get (D := D) (ci := 12) (v := .ref h1) (N := 195) hx hb hts hin12 hown hK hP 0 rfl rfl (by decide) f9_12_121 (hts (.fieldLink RX12 304 "IntegerHouseModel" "needed" "[Z") (o9_X12_idle _ (List.mem_of_getElem? (i := 1) rfl))) (k_ne (by decide) e1) dX12_idle_14 ?_
  refine lv_iload_n hx hb dX12_idle_17 rfl (lv_at hl 0 rfl) ?_
  refine lv_iconst (v := 0) hx hb dX12_idle_18 (by decide) ?_
  refine va_zast hx hb hK hP hD hS 1 3 rfl rfl (k_in (by decide)) dX12_idle_19 (fun H locs hP hD hS => ?_)
  have hP : va_P D vwCl [(h0, .inr (12, (f0.set 119 (.int 0)))), (h1, .inl (cZ, 26, .inl (upd (upd (upd g0 0 0) 1 0) 2 0)))] H := hP
  have hD : va_D A [(h0, .inr (12, (f0.set 119 (.int 0)))), (h1, .inl (cZ, 26, .inl (upd (upd (upd g0 0 0) 1 0) 2 0)))] := hD
  refine lv_iinc (v := 3) (lv' := [(1, .int 3), (0, .ref h0)]) hx hb dX12_idle_20 hl (k := 0) rfl (by decide) (by decide) rfl (fun ls hl => ?_)
  refine lv_goto (tgt := 7) hx hb dX12_idle_23 (by decide) ?_
  refine lv_iload_n hx hb dX12_idle_7 rfl (lv_at hl 0 rfl) ?_
  refine lv_bipush (v := 25) hx hb dX12_idle_8 (by decide) ?_
  refine lv_icmp_gt (tgt := 26) hx hb dX12_idle_10 (by decide) (fun c9 => absurd c9 (by decide)) (fun _ => ?_)
  refine lv_aload_n hx hb dX12_idle_13 rfl (lv_at hl 1 rfl) ?_
  refine k_get (D := D) (ci := 12) (v := .ref h1) (N := 195) hx hb hts hin12 hown hK hP 0 rfl rfl (by decide) f9_12_121 (hts (.fieldLink RX12 304 "IntegerHouseModel" "needed" "[Z") (o9_X12_idle _ (List.mem_of_getElem? (i := 1) rfl))) (k_ne (by decide) e1) dX12_idle_14 ?_
  refine lv_iload_n hx hb dX12_idle_17 rfl (lv_at hl 0 rfl) ?_
  refine lv_iconst (v := 0) hx hb dX12_idle_18 (by decide) ?_
  refine va_zast hx hb hK hP hD hS 1 3 rfl rfl (k_in (by decide)) dX12_idle_19 (fun H locs hP hD hS => ?_)
  have hP : va_P D vwCl [(h0, .inr (12, (f0.set 119 (.int 0)))), (h1, .inl (cZ, 26, .inl (upd (upd (upd (upd g0 0 0) 1 0) 2 0) 3 0)))] H := hP
  have hD : va_D A [(h0, .inr (12, (f0.set 119 (.int 0)))), (h1, .inl (cZ, 26, .inl (upd (upd (upd (upd g0 0 0) 1 0) 2 0) 3 0)))] := hD
  refine lv_iinc (v := 4) (lv' := [(1, .int 4), (0, .ref h0)]) hx hb dX12_idle_20 hl (k := 0) rfl (by decide) (by decide) rfl (fun ls hl => ?_)
  refine lv_goto (tgt := 7) hx hb dX12_idle_23 (by decide) ?_
  refine lv_iload_n hx hb dX12_idle_7 rfl (lv_at hl 0 rfl) ?_
  refine lv_bipush (v := 25) hx hb dX12_idle_8 (by decide) ?_
  refine lv_icmp_gt (tgt := 26) hx hb dX12_idle_10 (by decide) (fun c9 => absurd c9 (by decide)) (fun _ => ?_)
  refine lv_aload_n hx hb dX12_idle_13 rfl (lv_at hl 1 rfl) ?_
  refine k_get (D := D) (ci := 12) (v := .ref h1) (N := 195) hx hb hts hin12 hown hK hP 0 rfl rfl (by decide) f9_12_121 (hts (.fieldLink RX12 304 "IntegerHouseModel" "needed" "[Z") (o9_X12_idle _ (List.mem_of_getElem? (i := 1) rfl))) (k_ne (by decide) e1) dX12_idle_14 ?_
  refine lv_iload_n hx hb dX12_idle_17 rfl (lv_at hl 0 rfl) ?_
  refine lv_iconst (v := 0) hx hb dX12_idle_18 (by decide) ?_
  refine va_zast hx hb hK hP hD hS 1 3 rfl rfl (k_in (by decide)) dX12_idle_19 (fun H locs hP hD hS => ?_)
  have hP : va_P D vwCl [(h0, .inr (12, (f0.set 119 (.int 0)))), (h1, .inl (cZ, 26, .inl (upd (upd (upd (upd (upd g0 0 0) 1 0) 2 0) 3 0) 4 0)))] H := hP
  have hD : va_D A [(h0, .inr (12, (f0.set 119 (.int 0)))), (h1, .inl (cZ, 26, .inl (upd (upd (upd (upd (upd g0 0 0) 1 0) 2 0) 3 0) 4 0)))] := hD
  refine lv_iinc (v := 5) (lv' := [(1, .int 5), (0, .ref h0)]) hx hb dX12_idle_20 hl (k := 0) rfl (by decide) (by decide) rfl (fun ls hl => ?_)
  refine lv_goto (tgt := 7) hx hb dX12_idle_23 (by decide) ?_
  refine lv_iload_n hx hb dX12_idle_7 rfl (lv_at hl 0 rfl) ?_
  refine lv_bipush (v := 25) hx hb dX12_idle_8 (by decide) ?_
  refine lv_icmp_gt (tgt := 26) hx hb dX12_idle_10 (by decide) (fun c9 => absurd c9 (by decide)) (fun _ => ?_)
  refine lv_aload_n hx hb dX12_idle_13 rfl (lv_at hl 1 rfl) ?_
  refine k_get (D := D) (ci := 12) (v := .ref h1) (N := 195) hx hb hts hin12 hown hK hP 0 rfl rfl (by decide) f9_12_121 (hts (.fieldLink RX12 304 "IntegerHouseModel" "needed" "[Z") (o9_X12_idle _ (List.mem_of_getElem? (i := 1) rfl))) (k_ne (by decide) e1) dX12_idle_14 ?_
  refine lv_iload_n hx hb dX12_idle_17 rfl (lv_at hl 0 rfl) ?_
  refine lv_iconst (v := 0) hx hb dX12_idle_18 (by decide) ?_
  refine va_zast hx hb hK hP hD hS 1 3 rfl rfl (k_in (by decide)) dX12_idle_19 (fun H locs hP hD hS => ?_)
  have hP : va_P D vwCl [(h0, .inr (12, (f0.set 119 (.int 0)))), (h1, .inl (cZ, 26, .inl (upd (upd (upd (upd (upd (upd g0 0 0) 1 0) 2 0) 3 0) 4 0) 5 0)))] H := hP
  have hD : va_D A [(h0, .inr (12, (f0.set 119 (.int 0)))), (h1, .inl (cZ, 26, .inl (upd (upd (upd (upd (upd (upd g0 0 0) 1 0) 2 0) 3 0) 4 0) 5 0)))] := hD
  refine lv_iinc (v := 6) (lv' := [(1, .int 6), (0, .ref h0)]) hx hb dX12_idle_20 hl (k := 0) rfl (by decide) (by decide) rfl (fun ls hl => ?_)
  refine lv_goto (tgt := 7) hx hb dX12_idle_23 (by decide) ?_
  refine lv_iload_n hx hb dX12_idle_7 rfl (lv_at hl 0 rfl) ?_
  refine lv_bipush (v := 25) hx hb dX12_idle_8 (by decide) ?_
  refine lv_icmp_gt (tgt := 26) hx hb dX12_idle_10 (by decide) (fun c9 => absurd c9 (by decide)) (fun _ => ?_)
  refine lv_aload_n hx hb dX12_idle_13 rfl (lv_at hl 1 rfl) ?_
  refine k_get (D := D) (ci := 12) (v := .ref h1) (N := 195) hx hb hts hin12 hown hK hP 0 rfl rfl (by decide) f9_12_121 (hts (.fieldLink RX12 304 "IntegerHouseModel" "needed" "[Z") (o9_X12_idle _ (List.mem_of_getElem? (i := 1) rfl))) (k_ne (by decide) e1) dX12_idle_14 ?_
  refine lv_iload_n hx hb dX12_idle_17 rfl (lv_at hl 0 rfl) ?_
  refine lv_iconst (v := 0) hx hb dX12_idle_18 (by decide) ?_
  refine va_zast hx hb hK hP hD hS 1 3 rfl rfl (k_in (by decide)) dX12_idle_19 (fun H locs hP hD hS => ?_)
  have hP : va_P D vwCl [(h0, .inr (12, (f0.set 119 (.int 0)))), (h1, .inl (cZ, 26, .inl (upd (upd (upd (upd (upd (upd (upd g0 0 0) 1 0) 2 0) 3 0) 4 0) 5 0) 6 0)))] H := hP
  have hD : va_D A [(h0, .inr (12, (f0.set 119 (.int 0)))), (h1, .inl (cZ, 26, .inl (upd (upd (upd (upd (upd (upd (upd g0 0 0) 1 0) 2 0) 3 0) 4 0) 5 0) 6 0)))] := hD
  refine lv_iinc (v := 7) (lv' := [(1, .int 7), (0, .ref h0)]) hx hb dX12_idle_20 hl (k := 0) rfl (by decide) (by decide) rfl (fun ls hl => ?_)
  refine lv_goto (tgt := 7) hx hb dX12_idle_23 (by decide) ?_
  refine lv_iload_n hx hb dX12_idle_7 rfl (lv_at hl 0 rfl) ?_
  refine lv_bipush (v := 25) hx hb dX12_idle_8 (by decide) ?_
  refine lv_icmp_gt (tgt := 26) hx hb dX12_idle_10 (by decide) (fun c9 => absurd c9 (by decide)) (fun _ => ?_)
  refine lv_aload_n hx hb dX12_idle_13 rfl (lv_at hl 1 rfl) ?_
  refine k_get (D := D) (ci := 12) (v := .ref h1) (N := 195) hx hb hts hin12 hown hK hP 0 rfl rfl (by decide) f9_12_121 (hts (.fieldLink RX12 304 "IntegerHouseModel" "needed" "[Z") (o9_X12_idle _ (List.mem_of_getElem? (i := 1) rfl))) (k_ne (by decide) e1) dX12_idle_14 ?_
  refine lv_iload_n hx hb dX12_idle_17 rfl (lv_at hl 0 rfl) ?_
  refine lv_iconst (v := 0) hx hb dX12_idle_18 (by decide) ?_
  refine va_zast hx hb hK hP hD hS 1 3 rfl rfl (k_in (by decide)) dX12_idle_19 (fun H locs hP hD hS => ?_)
  have hP : va_P D vwCl [(h0, .inr (12, (f0.set 119 (.int 0)))), (h1, .inl (cZ, 26, .inl (upd (upd (upd (upd (upd (upd (upd (upd g0 0 0) 1 0) 2 0) 3 0) 4 0) 5 0) 6 0) 7 0)))] H := hP
  have hD : va_D A [(h0, .inr (12, (f0.set 119 (.int 0)))), (h1, .inl (cZ, 26, .inl (upd (upd (upd (upd (upd (upd (upd (upd g0 0 0) 1 0) 2 0) 3 0) 4 0) 5 0) 6 0) 7 0)))] := hD
  refine lv_iinc (v := 8) (lv' := [(1, .int 8), (0, .ref h0)]) hx hb dX12_idle_20 hl (k := 0) rfl (by decide) (by decide) rfl (fun ls hl => ?_)
  refine lv_goto (tgt := 7) hx hb dX12_idle_23 (by decide) ?_
  refine lv_iload_n hx hb dX12_idle_7 rfl (lv_at hl 0 rfl) ?_
  refine lv_bipush (v := 25) hx hb dX12_idle_8 (by decide) ?_
  refine lv_icmp_gt (tgt := 26) hx hb dX12_idle_10 (by decide) (fun c9 => absurd c9 (by decide)) (fun _ => ?_)
  refine lv_aload_n hx hb dX12_idle_13 rfl (lv_at hl 1 rfl) ?_
  refine k_get (D := D) (ci := 12) (v := .ref h1) (N := 195) hx hb hts hin12 hown hK hP 0 rfl rfl (by decide) f9_12_121 (hts (.fieldLink RX12 304 "IntegerHouseModel" "needed" "[Z") (o9_X12_idle _ (List.mem_of_getElem? (i := 1) rfl))) (k_ne (by decide) e1) dX12_idle_14 ?_
  refine lv_iload_n hx hb dX12_idle_17 rfl (lv_at hl 0 rfl) ?_
  refine lv_iconst (v := 0) hx hb dX12_idle_18 (by decide) ?_
  refine va_zast hx hb hK hP hD hS 1 3 rfl rfl (k_in (by decide)) dX12_idle_19 (fun H locs hP hD hS => ?_)
  have hP : va_P D vwCl [(h0, .inr (12, (f0.set 119 (.int 0)))), (h1, .inl (cZ, 26, .inl (upd (upd (upd (upd (upd (upd (upd (upd (upd g0 0 0) 1 0) 2 0) 3 0) 4 0) 5 0) 6 0) 7 0) 8 0)))] H := hP
  have hD : va_D A [(h0, .inr (12, (f0.set 119 (.int 0)))), (h1, .inl (cZ, 26, .inl (upd (upd (upd (upd (upd (upd (upd (upd (upd g0 0 0) 1 0) 2 0) 3 0) 4 0) 5 0) 6 0) 7 0) 8 0)))] := hD
  refine lv_iinc (v := 9) (lv' := [(1, .int 9), (0, .ref h0)]) hx hb dX12_idle_20 hl (k := 0) rfl (by decide) (by decide) rfl (fun ls hl => ?_)
  refine lv_goto (tgt := 7) hx hb dX12_idle_23 (by decide) ?_
  refine lv_iload_n hx hb dX12_idle_7 rfl (lv_at hl 0 rfl) ?_
  refine lv_bipush (v := 25) hx hb dX12_idle_8 (by decide) ?_
  refine lv_icmp_gt (tgt := 26) hx hb dX12_idle_10 (by decide) (fun c9 => absurd c9 (by decide)) (fun _ => ?_)
  refine lv_aload_n hx hb dX12_idle_13 rfl (lv_at hl 1 rfl) ?_
  refine k_get (D := D) (ci := 12) (v := .ref h1) (N := 195) hx hb hts hin12 hown hK hP 0 rfl rfl (by decide) f9_12_121 (hts (.fieldLink RX12 304 "IntegerHouseModel" "needed" "[Z") (o9_X12_idle _ (List.mem_of_getElem? (i := 1) rfl))) (k_ne (by decide) e1) dX12_idle_14 ?_
  refine lv_iload_n hx hb dX12_idle_17 rfl (lv_at hl 0 rfl) ?_
  refine lv_iconst (v := 0) hx hb dX12_idle_18 (by decide) ?_
  refine va_zast hx hb hK hP hD hS 1 3 rfl rfl (k_in (by decide)) dX12_idle_19 (fun H locs hP hD hS => ?_)
  have hP : va_P D vwCl [(h0, .inr (12, (f0.set 119 (.int 0)))), (h1, .inl (cZ, 26, .inl (upd (upd (upd (upd (upd (upd (upd (upd (upd (upd g0 0 0) 1 0) 2 0) 3 0) 4 0) 5 0) 6 0) 7 0) 8 0) 9 0)))] H := hP
  have hD : va_D A [(h0, .inr (12, (f0.set 119 (.int 0)))), (h1, .inl (cZ, 26, .inl (upd (upd (upd (upd (upd (upd (upd (upd (upd (upd g0 0 0) 1 0) 2 0) 3 0) 4 0) 5 0) 6 0) 7 0) 8 0) 9 0)))] := hD
  refine lv_iinc (v := 10) (lv' := [(1, .int 10), (0, .ref h0)]) hx hb dX12_idle_20 hl (k := 0) rfl (by decide) (by decide) rfl (fun ls hl => ?_)
  refine lv_goto (tgt := 7) hx hb dX12_idle_23 (by decide) ?_
  refine lv_iload_n hx hb dX12_idle_7 rfl (lv_at hl 0 rfl) ?_
  refine lv_bipush (v := 25) hx hb dX12_idle_8 (by decide) ?_
  refine lv_icmp_gt (tgt := 26) hx hb dX12_idle_10 (by decide) (fun c9 => absurd c9 (by decide)) (fun _ => ?_)
  refine lv_aload_n hx hb dX12_idle_13 rfl (lv_at hl 1 rfl) ?_
  refine k_get (D := D) (ci := 12) (v := .ref h1) (N := 195) hx hb hts hin12 hown hK hP 0 rfl rfl (by decide) f9_12_121 (hts (.fieldLink RX12 304 "IntegerHouseModel" "needed" "[Z") (o9_X12_idle _ (List.mem_of_getElem? (i := 1) rfl))) (k_ne (by decide) e1) dX12_idle_14 ?_
  refine lv_iload_n hx hb dX12_idle_17 rfl (lv_at hl 0 rfl) ?_
  refine lv_iconst (v := 0) hx hb dX12_idle_18 (by decide) ?_
  refine va_zast hx hb hK hP hD hS 1 3 rfl rfl (k_in (by decide)) dX12_idle_19 (fun H locs hP hD hS => ?_)
  have hP : va_P D vwCl [(h0, .inr (12, (f0.set 119 (.int 0)))), (h1, .inl (cZ, 26, .inl (upd (upd (upd (upd (upd (upd (upd (upd (upd (upd (upd g0 0 0) 1 0) 2 0) 3 0) 4 0) 5 0) 6 0) 7 0) 8 0) 9 0) 10 0)))] H := hP
  have hD : va_D A [(h0, .inr (12, (f0.set 119 (.int 0)))), (h1, .inl (cZ, 26, .inl (upd (upd (upd (upd (upd (upd (upd (upd (upd (upd (upd g0 0 0) 1 0) 2 0) 3 0) 4 0) 5 0) 6 0) 7 0) 8 0) 9 0) 10 0)))] := hD
  refine lv_iinc (v := 11) (lv' := [(1, .int 11), (0, .ref h0)]) hx hb dX12_idle_20 hl (k := 0) rfl (by decide) (by decide) rfl (fun ls hl => ?_)
  refine lv_goto (tgt := 7) hx hb dX12_idle_23 (by decide) ?_
  refine lv_iload_n hx hb dX12_idle_7 rfl (lv_at hl 0 rfl) ?_
  refine lv_bipush (v := 25) hx hb dX12_idle_8 (by decide) ?_
  refine lv_icmp_gt (tgt := 26) hx hb dX12_idle_10 (by decide) (fun c9 => absurd c9 (by decide)) (fun _ => ?_)
  refine lv_aload_n hx hb dX12_idle_13 rfl (lv_at hl 1 rfl) ?_
  refine k_get (D := D) (ci := 12) (v := .ref h1) (N := 195) hx hb hts hin12 hown hK hP 0 rfl rfl (by decide) f9_12_121 (hts (.fieldLink RX12 304 "IntegerHouseModel" "needed" "[Z") (o9_X12_idle _ (List.mem_of_getElem? (i := 1) rfl))) (k_ne (by decide) e1) dX12_idle_14 ?_
  refine lv_iload_n hx hb dX12_idle_17 rfl (lv_at hl 0 rfl) ?_
  refine lv_iconst (v := 0) hx hb dX12_idle_18 (by decide) ?_
  refine va_zast hx hb hK hP hD hS 1 3 rfl rfl (k_in (by decide)) dX12_idle_19 (fun H locs hP hD hS => ?_)
  have hP : va_P D vwCl [(h0, .inr (12, (f0.set 119 (.int 0)))), (h1, .inl (cZ, 26, .inl (upd (upd (upd (upd (upd (upd (upd (upd (upd (upd (upd (upd g0 0 0) 1 0) 2 0) 3 0) 4 0) 5 0) 6 0) 7 0) 8 0) 9 0) 10 0) 11 0)))] H := hP
  have hD : va_D A [(h0, .inr (12, (f0.set 119 (.int 0)))), (h1, .inl (cZ, 26, .inl (upd (upd (upd (upd (upd (upd (upd (upd (upd (upd (upd (upd g0 0 0) 1 0) 2 0) 3 0) 4 0) 5 0) 6 0) 7 0) 8 0) 9 0) 10 0) 11 0)))] := hD
  refine lv_iinc (v := 12) (lv' := [(1, .int 12), (0, .ref h0)]) hx hb dX12_idle_20 hl (k := 0) rfl (by decide) (by decide) rfl (fun ls hl => ?_)
  refine lv_goto (tgt := 7) hx hb dX12_idle_23 (by decide) ?_
  refine lv_iload_n hx hb dX12_idle_7 rfl (lv_at hl 0 rfl) ?_
  refine lv_bipush (v := 25) hx hb dX12_idle_8 (by decide) ?_
  refine lv_icmp_gt (tgt := 26) hx hb dX12_idle_10 (by decide) (fun c9 => absurd c9 (by decide)) (fun _ => ?_)
  refine lv_aload_n hx hb dX12_idle_13 rfl (lv_at hl 1 rfl) ?_
  refine k_get (D := D) (ci := 12) (v := .ref h1) (N := 195) hx hb hts hin12 hown hK hP 0 rfl rfl (by decide) f9_12_121 (hts (.fieldLink RX12 304 "IntegerHouseModel" "needed" "[Z") (o9_X12_idle _ (List.mem_of_getElem? (i := 1) rfl))) (k_ne (by decide) e1) dX12_idle_14 ?_
  refine lv_iload_n hx hb dX12_idle_17 rfl (lv_at hl 0 rfl) ?_
  refine lv_iconst (v := 0) hx hb dX12_idle_18 (by decide) ?_
  refine va_zast hx hb hK hP hD hS 1 3 rfl rfl (k_in (by decide)) dX12_idle_19 (fun H locs hP hD hS => ?_)
  have hP : va_P D vwCl [(h0, .inr (12, (f0.set 119 (.int 0)))), (h1, .inl (cZ, 26, .inl (upd (upd (upd (upd (upd (upd (upd (upd (upd (upd (upd (upd (upd g0 0 0) 1 0) 2 0) 3 0) 4 0) 5 0) 6 0) 7 0) 8 0) 9 0) 10 0) 11 0) 12 0)))] H := hP
  have hD : va_D A [(h0, .inr (12, (f0.set 119 (.int 0)))), (h1, .inl (cZ, 26, .inl (upd (upd (upd (upd (upd (upd (upd (upd (upd (upd (upd (upd (upd g0 0 0) 1 0) 2 0) 3 0) 4 0) 5 0) 6 0) 7 0) 8 0) 9 0) 10 0) 11 0) 12 0)))] := hD
  refine lv_iinc (v := 13) (lv' := [(1, .int 13), (0, .ref h0)]) hx hb dX12_idle_20 hl (k := 0) rfl (by decide) (by decide) rfl (fun ls hl => ?_)
  refine lv_goto (tgt := 7) hx hb dX12_idle_23 (by decide) ?_
  refine lv_iload_n hx hb dX12_idle_7 rfl (lv_at hl 0 rfl) ?_
  refine lv_bipush (v := 25) hx hb dX12_idle_8 (by decide) ?_
  refine lv_icmp_gt (tgt := 26) hx hb dX12_idle_10 (by decide) (fun c9 => absurd c9 (by decide)) (fun _ => ?_)
  refine lv_aload_n hx hb dX12_idle_13 rfl (lv_at hl 1 rfl) ?_
  refine k_get (D := D) (ci := 12) (v := .ref h1) (N := 195) hx hb hts hin12 hown hK hP 0 rfl rfl (by decide) f9_12_121 (hts (.fieldLink RX12 304 "IntegerHouseModel" "needed" "[Z") (o9_X12_idle _ (List.mem_of_getElem? (i := 1) rfl))) (k_ne (by decide) e1) dX12_idle_14 ?_
  refine lv_iload_n hx hb dX12_idle_17 rfl (lv_at hl 0 rfl) ?_
  refine lv_iconst (v := 0) hx hb dX12_idle_18 (by decide) ?_
  refine va_zast hx hb hK hP hD hS 1 3 rfl rfl (k_in (by decide)) dX12_idle_19 (fun H locs hP hD hS => ?_)
  have hP : va_P D vwCl [(h0, .inr (12, (f0.set 119 (.int 0)))), (h1, .inl (cZ, 26, .inl (upd (upd (upd (upd (upd (upd (upd (upd (upd (upd (upd (upd (upd (upd g0 0 0) 1 0) 2 0) 3 0) 4 0) 5 0) 6 0) 7 0) 8 0) 9 0) 10 0) 11 0) 12 0) 13 0)))] H := hP
  have hD : va_D A [(h0, .inr (12, (f0.set 119 (.int 0)))), (h1, .inl (cZ, 26, .inl (upd (upd (upd (upd (upd (upd (upd (upd (upd (upd (upd (upd (upd (upd g0 0 0) 1 0) 2 0) 3 0) 4 0) 5 0) 6 0) 7 0) 8 0) 9 0) 10 0) 11 0) 12 0) 13 0)))] := hD
  refine lv_iinc (v := 14) (lv' := [(1, .int 14), (0, .ref h0)]) hx hb dX12_idle_20 hl (k := 0) rfl (by decide) (by decide) rfl (fun ls hl => ?_)
  refine lv_goto (tgt := 7) hx hb dX12_idle_23 (by decide) ?_
  refine lv_iload_n hx hb dX12_idle_7 rfl (lv_at hl 0 rfl) ?_
  refine lv_bipush (v := 25) hx hb dX12_idle_8 (by decide) ?_
  refine lv_icmp_gt (tgt := 26) hx hb dX12_idle_10 (by decide) (fun c9 => absurd c9 (by decide)) (fun _ => ?_)
  refine lv_aload_n hx hb dX12_idle_13 rfl (lv_at hl 1 rfl) ?_
  refine k_get (D := D) (ci := 12) (v := .ref h1) (N := 195) hx hb hts hin12 hown hK hP 0 rfl rfl (by decide) f9_12_121 (hts (.fieldLink RX12 304 "IntegerHouseModel" "needed" "[Z") (o9_X12_idle _ (List.mem_of_getElem? (i := 1) rfl))) (k_ne (by decide) e1) dX12_idle_14 ?_
  refine lv_iload_n hx hb dX12_idle_17 rfl (lv_at hl 0 rfl) ?_
  refine lv_iconst (v := 0) hx hb dX12_idle_18 (by decide) ?_
  refine va_zast hx hb hK hP hD hS 1 3 rfl rfl (k_in (by decide)) dX12_idle_19 (fun H locs hP hD hS => ?_)
  have hP : va_P D vwCl [(h0, .inr (12, (f0.set 119 (.int 0)))), (h1, .inl (cZ, 26, .inl (upd (upd (upd (upd (upd (upd (upd (upd (upd (upd (upd (upd (upd (upd (upd g0 0 0) 1 0) 2 0) 3 0) 4 0) 5 0) 6 0) 7 0) 8 0) 9 0) 10 0) 11 0) 12 0) 13 0) 14 0)))] H := hP
  have hD : va_D A [(h0, .inr (12, (f0.set 119 (.int 0)))), (h1, .inl (cZ, 26, .inl (upd (upd (upd (upd (upd (upd (upd (upd (upd (upd (upd (upd (upd (upd (upd g0 0 0) 1 0) 2 0) 3 0) 4 0) 5 0) 6 0) 7 0) 8 0) 9 0) 10 0) 11 0) 12 0) 13 0) 14 0)))] := hD
  refine lv_iinc (v := 15) (lv' := [(1, .int 15), (0, .ref h0)]) hx hb dX12_idle_20 hl (k := 0) rfl (by decide) (by decide) rfl (fun ls hl => ?_)
  refine lv_goto (tgt := 7) hx hb dX12_idle_23 (by decide) ?_
  refine lv_iload_n hx hb dX12_idle_7 rfl (lv_at hl 0 rfl) ?_
  refine lv_bipush (v := 25) hx hb dX12_idle_8 (by decide) ?_
  refine lv_icmp_gt (tgt := 26) hx hb dX12_idle_10 (by decide) (fun c9 => absurd c9 (by decide)) (fun _ => ?_)
  refine lv_aload_n hx hb dX12_idle_13 rfl (lv_at hl 1 rfl) ?_
  refine k_get (D := D) (ci := 12) (v := .ref h1) (N := 195) hx hb hts hin12 hown hK hP 0 rfl rfl (by decide) f9_12_121 (hts (.fieldLink RX12 304 "IntegerHouseModel" "needed" "[Z") (o9_X12_idle _ (List.mem_of_getElem? (i := 1) rfl))) (k_ne (by decide) e1) dX12_idle_14 ?_
  refine lv_iload_n hx hb dX12_idle_17 rfl (lv_at hl 0 rfl) ?_
  refine lv_iconst (v := 0) hx hb dX12_idle_18 (by decide) ?_
  refine va_zast hx hb hK hP hD hS 1 3 rfl rfl (k_in (by decide)) dX12_idle_19 (fun H locs hP hD hS => ?_)
  have hP : va_P D vwCl [(h0, .inr (12, (f0.set 119 (.int 0)))), (h1, .inl (cZ, 26, .inl (upd (upd (upd (upd (upd (upd (upd (upd (upd (upd (upd (upd (upd (upd (upd (upd g0 0 0) 1 0) 2 0) 3 0) 4 0) 5 0) 6 0) 7 0) 8 0) 9 0) 10 0) 11 0) 12 0) 13 0) 14 0) 15 0)))] H := hP
  have hD : va_D A [(h0, .inr (12, (f0.set 119 (.int 0)))), (h1, .inl (cZ, 26, .inl (upd (upd (upd (upd (upd (upd (upd (upd (upd (upd (upd (upd (upd (upd (upd (upd g0 0 0) 1 0) 2 0) 3 0) 4 0) 5 0) 6 0) 7 0) 8 0) 9 0) 10 0) 11 0) 12 0) 13 0) 14 0) 15 0)))] := hD
  refine lv_iinc (v := 16) (lv' := [(1, .int 16), (0, .ref h0)]) hx hb dX12_idle_20 hl (k := 0) rfl (by decide) (by decide) rfl (fun ls hl => ?_)
  refine lv_goto (tgt := 7) hx hb dX12_idle_23 (by decide) ?_
  refine lv_iload_n hx hb dX12_idle_7 rfl (lv_at hl 0 rfl) ?_
  refine lv_bipush (v := 25) hx hb dX12_idle_8 (by decide) ?_
  refine lv_icmp_gt (tgt := 26) hx hb dX12_idle_10 (by decide) (fun c9 => absurd c9 (by decide)) (fun _ => ?_)
  refine lv_aload_n hx hb dX12_idle_13 rfl (lv_at hl 1 rfl) ?_
  refine k_get (D := D) (ci := 12) (v := .ref h1) (N := 195) hx hb hts hin12 hown hK hP 0 rfl rfl (by decide) f9_12_121 (hts (.fieldLink RX12 304 "IntegerHouseModel" "needed" "[Z") (o9_X12_idle _ (List.mem_of_getElem? (i := 1) rfl))) (k_ne (by decide) e1) dX12_idle_14 ?_
  refine lv_iload_n hx hb dX12_idle_17 rfl (lv_at hl 0 rfl) ?_
  refine lv_iconst (v := 0) hx hb dX12_idle_18 (by decide) ?_
  refine va_zast hx hb hK hP hD hS 1 3 rfl rfl (k_in (by decide)) dX12_idle_19 (fun H locs hP hD hS => ?_)
  have hP : va_P D vwCl [(h0, .inr (12, (f0.set 119 (.int 0)))), (h1, .inl (cZ, 26, .inl (upd (upd (upd (upd (upd (upd (upd (upd (upd (upd (upd (upd (upd (upd (upd (upd (upd g0 0 0) 1 0) 2 0) 3 0) 4 0) 5 0) 6 0) 7 0) 8 0) 9 0) 10 0) 11 0) 12 0) 13 0) 14 0) 15 0) 16 0)))] H := hP
  have hD : va_D A [(h0, .inr (12, (f0.set 119 (.int 0)))), (h1, .inl (cZ, 26, .inl (upd (upd (upd (upd (upd (upd (upd (upd (upd (upd (upd (upd (upd (upd (upd (upd (upd g0 0 0) 1 0) 2 0) 3 0) 4 0) 5 0) 6 0) 7 0) 8 0) 9 0) 10 0) 11 0) 12 0) 13 0) 14 0) 15 0) 16 0)))] := hD
  refine lv_iinc (v := 17) (lv' := [(1, .int 17), (0, .ref h0)]) hx hb dX12_idle_20 hl (k := 0) rfl (by decide) (by decide) rfl (fun ls hl => ?_)
  refine lv_goto (tgt := 7) hx hb dX12_idle_23 (by decide) ?_
  refine lv_iload_n hx hb dX12_idle_7 rfl (lv_at hl 0 rfl) ?_
  refine lv_bipush (v := 25) hx hb dX12_idle_8 (by decide) ?_
  refine lv_icmp_gt (tgt := 26) hx hb dX12_idle_10 (by decide) (fun c9 => absurd c9 (by decide)) (fun _ => ?_)
  refine lv_aload_n hx hb dX12_idle_13 rfl (lv_at hl 1 rfl) ?_
  refine k_get (D := D) (ci := 12) (v := .ref h1) (N := 195) hx hb hts hin12 hown hK hP 0 rfl rfl (by decide) f9_12_121 (hts (.fieldLink RX12 304 "IntegerHouseModel" "needed" "[Z") (o9_X12_idle _ (List.mem_of_getElem? (i := 1) rfl))) (k_ne (by decide) e1) dX12_idle_14 ?_
  refine lv_iload_n hx hb dX12_idle_17 rfl (lv_at hl 0 rfl) ?_
  refine lv_iconst (v := 0) hx hb dX12_idle_18 (by decide) ?_
  refine va_zast hx hb hK hP hD hS 1 3 rfl rfl (k_in (by decide)) dX12_idle_19 (fun H locs hP hD hS => ?_)
  have hP : va_P D vwCl [(h0, .inr (12, (f0.set 119 (.int 0)))), (h1, .inl (cZ, 26, .inl (upd (upd (upd (upd (upd (upd (upd (upd (upd (upd (upd (upd (upd (upd (upd (upd (upd (upd g0 0 0) 1 0) 2 0) 3 0) 4 0) 5 0) 6 0) 7 0) 8 0) 9 0) 10 0) 11 0) 12 0) 13 0) 14 0) 15 0) 16 0) 17 0)))] H := hP
  have hD : va_D A [(h0, .inr (12, (f0.set 119 (.int 0)))), (h1, .inl (cZ, 26, .inl (upd (upd (upd (upd (upd (upd (upd (upd (upd (upd (upd (upd (upd (upd (upd (upd (upd (upd g0 0 0) 1 0) 2 0) 3 0) 4 0) 5 0) 6 0) 7 0) 8 0) 9 0) 10 0) 11 0) 12 0) 13 0) 14 0) 15 0) 16 0) 17 0)))] := hD
  refine lv_iinc (v := 18) (lv' := [(1, .int 18), (0, .ref h0)]) hx hb dX12_idle_20 hl (k := 0) rfl (by decide) (by decide) rfl (fun ls hl => ?_)
  refine lv_goto (tgt := 7) hx hb dX12_idle_23 (by decide) ?_
  refine lv_iload_n hx hb dX12_idle_7 rfl (lv_at hl 0 rfl) ?_
  refine lv_bipush (v := 25) hx hb dX12_idle_8 (by decide) ?_
  refine lv_icmp_gt (tgt := 26) hx hb dX12_idle_10 (by decide) (fun c9 => absurd c9 (by decide)) (fun _ => ?_)
  refine lv_aload_n hx hb dX12_idle_13 rfl (lv_at hl 1 rfl) ?_
  refine k_get (D := D) (ci := 12) (v := .ref h1) (N := 195) hx hb hts hin12 hown hK hP 0 rfl rfl (by decide) f9_12_121 (hts (.fieldLink RX12 304 "IntegerHouseModel" "needed" "[Z") (o9_X12_idle _ (List.mem_of_getElem? (i := 1) rfl))) (k_ne (by decide) e1) dX12_idle_14 ?_
  refine lv_iload_n hx hb dX12_idle_17 rfl (lv_at hl 0 rfl) ?_
  refine lv_iconst (v := 0) hx hb dX12_idle_18 (by decide) ?_
  refine va_zast hx hb hK hP hD hS 1 3 rfl rfl (k_in (by decide)) dX12_idle_19 (fun H locs hP hD hS => ?_)
  have hP : va_P D vwCl [(h0, .inr (12, (f0.set 119 (.int 0)))), (h1, .inl (cZ, 26, .inl (upd (upd (upd (upd (upd (upd (upd (upd (upd (upd (upd (upd (upd (upd (upd (upd (upd (upd (upd g0 0 0) 1 0) 2 0) 3 0) 4 0) 5 0) 6 0) 7 0) 8 0) 9 0) 10 0) 11 0) 12 0) 13 0) 14 0) 15 0) 16 0) 17 0) 18 0)))] H := hP
  have hD : va_D A [(h0, .inr (12, (f0.set 119 (.int 0)))), (h1, .inl (cZ, 26, .inl (upd (upd (upd (upd (upd (upd (upd (upd (upd (upd (upd (upd (upd (upd (upd (upd (upd (upd (upd g0 0 0) 1 0) 2 0) 3 0) 4 0) 5 0) 6 0) 7 0) 8 0) 9 0) 10 0) 11 0) 12 0) 13 0) 14 0) 15 0) 16 0) 17 0) 18 0)))] := hD
  refine lv_iinc (v := 19) (lv' := [(1, .int 19), (0, .ref h0)]) hx hb dX12_idle_20 hl (k := 0) rfl (by decide) (by decide) rfl (fun ls hl => ?_)
  refine lv_goto (tgt := 7) hx hb dX12_idle_23 (by decide) ?_
  refine lv_iload_n hx hb dX12_idle_7 rfl (lv_at hl 0 rfl) ?_
  refine lv_bipush (v := 25) hx hb dX12_idle_8 (by decide) ?_
  refine lv_icmp_gt (tgt := 26) hx hb dX12_idle_10 (by decide) (fun c9 => absurd c9 (by decide)) (fun _ => ?_)
  refine lv_aload_n hx hb dX12_idle_13 rfl (lv_at hl 1 rfl) ?_
  refine k_get (D := D) (ci := 12) (v := .ref h1) (N := 195) hx hb hts hin12 hown hK hP 0 rfl rfl (by decide) f9_12_121 (hts (.fieldLink RX12 304 "IntegerHouseModel" "needed" "[Z") (o9_X12_idle _ (List.mem_of_getElem? (i := 1) rfl))) (k_ne (by decide) e1) dX12_idle_14 ?_
  refine lv_iload_n hx hb dX12_idle_17 rfl (lv_at hl 0 rfl) ?_
  refine lv_iconst (v := 0) hx hb dX12_idle_18 (by decide) ?_
  refine va_zast hx hb hK hP hD hS 1 3 rfl rfl (k_in (by decide)) dX12_idle_19 (fun H locs hP hD hS => ?_)
  have hP : va_P D vwCl [(h0, .inr (12, (f0.set 119 (.int 0)))), (h1, .inl (cZ, 26, .inl (upd (upd (upd (upd (upd (upd (upd (upd (upd (upd (upd (upd (upd (upd (upd (upd (upd (upd (upd (upd g0 0 0) 1 0) 2 0) 3 0) 4 0) 5 0) 6 0) 7 0) 8 0) 9 0) 10 0) 11 0) 12 0) 13 0) 14 0) 15 0) 16 0) 17 0) 18 0) 19 0)))] H := hP
  have hD : va_D A [(h0, .inr (12, (f0.set 119 (.int 0)))), (h1, .inl (cZ, 26, .inl (upd (upd (upd (upd (upd (upd (upd (upd (upd (upd (upd (upd (upd (upd (upd (upd (upd (upd (upd (upd g0 0 0) 1 0) 2 0) 3 0) 4 0) 5 0) 6 0) 7 0) 8 0) 9 0) 10 0) 11 0) 12 0) 13 0) 14 0) 15 0) 16 0) 17 0) 18 0) 19 0)))] := hD
  refine lv_iinc (v := 20) (lv' := [(1, .int 20), (0, .ref h0)]) hx hb dX12_idle_20 hl (k := 0) rfl (by decide) (by decide) rfl (fun ls hl => ?_)
  refine lv_goto (tgt := 7) hx hb dX12_idle_23 (by decide) ?_
  refine lv_iload_n hx hb dX12_idle_7 rfl (lv_at hl 0 rfl) ?_
  refine lv_bipush (v := 25) hx hb dX12_idle_8 (by decide) ?_
  refine lv_icmp_gt (tgt := 26) hx hb dX12_idle_10 (by decide) (fun c9 => absurd c9 (by decide)) (fun _ => ?_)
  refine lv_aload_n hx hb dX12_idle_13 rfl (lv_at hl 1 rfl) ?_
  refine k_get (D := D) (ci := 12) (v := .ref h1) (N := 195) hx hb hts hin12 hown hK hP 0 rfl rfl (by decide) f9_12_121 (hts (.fieldLink RX12 304 "IntegerHouseModel" "needed" "[Z") (o9_X12_idle _ (List.mem_of_getElem? (i := 1) rfl))) (k_ne (by decide) e1) dX12_idle_14 ?_
  refine lv_iload_n hx hb dX12_idle_17 rfl (lv_at hl 0 rfl) ?_
  refine lv_iconst (v := 0) hx hb dX12_idle_18 (by decide) ?_
  refine va_zast hx hb hK hP hD hS 1 3 rfl rfl (k_in (by decide)) dX12_idle_19 (fun H locs hP hD hS => ?_)
  have hP : va_P D vwCl [(h0, .inr (12, (f0.set 119 (.int 0)))), (h1, .inl (cZ, 26, .inl (upd (upd (upd (upd (upd (upd (upd (upd (upd (upd (upd (upd (upd (upd (upd (upd (upd (upd (upd (upd (upd g0 0 0) 1 0) 2 0) 3 0) 4 0) 5 0) 6 0) 7 0) 8 0) 9 0) 10 0) 11 0) 12 0) 13 0) 14 0) 15 0) 16 0) 17 0) 18 0) 19 0) 20 0)))] H := hP
  have hD : va_D A [(h0, .inr (12, (f0.set 119 (.int 0)))), (h1, .inl (cZ, 26, .inl (upd (upd (upd (upd (upd (upd (upd (upd (upd (upd (upd (upd (upd (upd (upd (upd (upd (upd (upd (upd (upd g0 0 0) 1 0) 2 0) 3 0) 4 0) 5 0) 6 0) 7 0) 8 0) 9 0) 10 0) 11 0) 12 0) 13 0) 14 0) 15 0) 16 0) 17 0) 18 0) 19 0) 20 0)))] := hD
  refine lv_iinc (v := 21) (lv' := [(1, .int 21), (0, .ref h0)]) hx hb dX12_idle_20 hl (k := 0) rfl (by decide) (by decide) rfl (fun ls hl => ?_)
  refine lv_goto (tgt := 7) hx hb dX12_idle_23 (by decide) ?_
  refine lv_iload_n hx hb dX12_idle_7 rfl (lv_at hl 0 rfl) ?_
  refine lv_bipush (v := 25) hx hb dX12_idle_8 (by decide) ?_
  refine lv_icmp_gt (tgt := 26) hx hb dX12_idle_10 (by decide) (fun c9 => absurd c9 (by decide)) (fun _ => ?_)
  refine lv_aload_n hx hb dX12_idle_13 rfl (lv_at hl 1 rfl) ?_
  refine k_get (D := D) (ci := 12) (v := .ref h1) (N := 195) hx hb hts hin12 hown hK hP 0 rfl rfl (by decide) f9_12_121 (hts (.fieldLink RX12 304 "IntegerHouseModel" "needed" "[Z") (o9_X12_idle _ (List.mem_of_getElem? (i := 1) rfl))) (k_ne (by decide) e1) dX12_idle_14 ?_
  refine lv_iload_n hx hb dX12_idle_17 rfl (lv_at hl 0 rfl) ?_
  refine lv_iconst (v := 0) hx hb dX12_idle_18 (by decide) ?_
  refine va_zast hx hb hK hP hD hS 1 3 rfl rfl (k_in (by decide)) dX12_idle_19 (fun H locs hP hD hS => ?_)
  have hP : va_P D vwCl [(h0, .inr (12, (f0.set 119 (.int 0)))), (h1, .inl (cZ, 26, .inl (upd (upd (upd (upd (upd (upd (upd (upd (upd (upd (upd (upd (upd (upd (upd (upd (upd (upd (upd (upd (upd (upd g0 0 0) 1 0) 2 0) 3 0) 4 0) 5 0) 6 0) 7 0) 8 0) 9 0) 10 0) 11 0) 12 0) 13 0) 14 0) 15 0) 16 0) 17 0) 18 0) 19 0) 20 0) 21 0)))] H := hP
  have hD : va_D A [(h0, .inr (12, (f0.set 119 (.int 0)))), (h1, .inl (cZ, 26, .inl (upd (upd (upd (upd (upd (upd (upd (upd (upd (upd (upd (upd (upd (upd (upd (upd (upd (upd (upd (upd (upd (upd g0 0 0) 1 0) 2 0) 3 0) 4 0) 5 0) 6 0) 7 0) 8 0) 9 0) 10 0) 11 0) 12 0) 13 0) 14 0) 15 0) 16 0) 17 0) 18 0) 19 0) 20 0) 21 0)))] := hD
  refine lv_iinc (v := 22) (lv' := [(1, .int 22), (0, .ref h0)]) hx hb dX12_idle_20 hl (k := 0) rfl (by decide) (by decide) rfl (fun ls hl => ?_)
  refine lv_goto (tgt := 7) hx hb dX12_idle_23 (by decide) ?_
  refine lv_iload_n hx hb dX12_idle_7 rfl (lv_at hl 0 rfl) ?_
  refine lv_bipush (v := 25) hx hb dX12_idle_8 (by decide) ?_
  refine lv_icmp_gt (tgt := 26) hx hb dX12_idle_10 (by decide) (fun c9 => absurd c9 (by decide)) (fun _ => ?_)
  refine lv_aload_n hx hb dX12_idle_13 rfl (lv_at hl 1 rfl) ?_
  refine k_get (D := D) (ci := 12) (v := .ref h1) (N := 195) hx hb hts hin12 hown hK hP 0 rfl rfl (by decide) f9_12_121 (hts (.fieldLink RX12 304 "IntegerHouseModel" "needed" "[Z") (o9_X12_idle _ (List.mem_of_getElem? (i := 1) rfl))) (k_ne (by decide) e1) dX12_idle_14 ?_
  refine lv_iload_n hx hb dX12_idle_17 rfl (lv_at hl 0 rfl) ?_
  refine lv_iconst (v := 0) hx hb dX12_idle_18 (by decide) ?_
  refine va_zast hx hb hK hP hD hS 1 3 rfl rfl (k_in (by decide)) dX12_idle_19 (fun H locs hP hD hS => ?_)
  have hP : va_P D vwCl [(h0, .inr (12, (f0.set 119 (.int 0)))), (h1, .inl (cZ, 26, .inl (upd (upd (upd (upd (upd (upd (upd (upd (upd (upd (upd (upd (upd (upd (upd (upd (upd (upd (upd (upd (upd (upd (upd g0 0 0) 1 0) 2 0) 3 0) 4 0) 5 0) 6 0) 7 0) 8 0) 9 0) 10 0) 11 0) 12 0) 13 0) 14 0) 15 0) 16 0) 17 0) 18 0) 19 0) 20 0) 21 0) 22 0)))] H := hP
  have hD : va_D A [(h0, .inr (12, (f0.set 119 (.int 0)))), (h1, .inl (cZ, 26, .inl (upd (upd (upd (upd (upd (upd (upd (upd (upd (upd (upd (upd (upd (upd (upd (upd (upd (upd (upd (upd (upd (upd (upd g0 0 0) 1 0) 2 0) 3 0) 4 0) 5 0) 6 0) 7 0) 8 0) 9 0) 10 0) 11 0) 12 0) 13 0) 14 0) 15 0) 16 0) 17 0) 18 0) 19 0) 20 0) 21 0) 22 0)))] := hD
  refine lv_iinc (v := 23) (lv' := [(1, .int 23), (0, .ref h0)]) hx hb dX12_idle_20 hl (k := 0) rfl (by decide) (by decide) rfl (fun ls hl => ?_)
  refine lv_goto (tgt := 7) hx hb dX12_idle_23 (by decide) ?_
  refine lv_iload_n hx hb dX12_idle_7 rfl (lv_at hl 0 rfl) ?_
  refine lv_bipush (v := 25) hx hb dX12_idle_8 (by decide) ?_
  refine lv_icmp_gt (tgt := 26) hx hb dX12_idle_10 (by decide) (fun c9 => absurd c9 (by decide)) (fun _ => ?_)
  refine lv_aload_n hx hb dX12_idle_13 rfl (lv_at hl 1 rfl) ?_
  refine k_get (D := D) (ci := 12) (v := .ref h1) (N := 195) hx hb hts hin12 hown hK hP 0 rfl rfl (by decide) f9_12_121 (hts (.fieldLink RX12 304 "IntegerHouseModel" "needed" "[Z") (o9_X12_idle _ (List.mem_of_getElem? (i := 1) rfl))) (k_ne (by decide) e1) dX12_idle_14 ?_
  refine lv_iload_n hx hb dX12_idle_17 rfl (lv_at hl 0 rfl) ?_
  refine lv_iconst (v := 0) hx hb dX12_idle_18 (by decide) ?_
  refine va_zast hx hb hK hP hD hS 1 3 rfl rfl (k_in (by decide)) dX12_idle_19 (fun H locs hP hD hS => ?_)
  have hP : va_P D vwCl [(h0, .inr (12, (f0.set 119 (.int 0)))), (h1, .inl (cZ, 26, .inl (upd (upd (upd (upd (upd (upd (upd (upd (upd (upd (upd (upd (upd (upd (upd (upd (upd (upd (upd (upd (upd (upd (upd (upd g0 0 0) 1 0) 2 0) 3 0) 4 0) 5 0) 6 0) 7 0) 8 0) 9 0) 10 0) 11 0) 12 0) 13 0) 14 0) 15 0) 16 0) 17 0) 18 0) 19 0) 20 0) 21 0) 22 0) 23 0)))] H := hP
  have hD : va_D A [(h0, .inr (12, (f0.set 119 (.int 0)))), (h1, .inl (cZ, 26, .inl (upd (upd (upd (upd (upd (upd (upd (upd (upd (upd (upd (upd (upd (upd (upd (upd (upd (upd (upd (upd (upd (upd (upd (upd g0 0 0) 1 0) 2 0) 3 0) 4 0) 5 0) 6 0) 7 0) 8 0) 9 0) 10 0) 11 0) 12 0) 13 0) 14 0) 15 0) 16 0) 17 0) 18 0) 19 0) 20 0) 21 0) 22 0) 23 0)))] := hD
  refine lv_iinc (v := 24) (lv' := [(1, .int 24), (0, .ref h0)]) hx hb dX12_idle_20 hl (k := 0) rfl (by decide) (by decide) rfl (fun ls hl => ?_)
  refine lv_goto (tgt := 7) hx hb dX12_idle_23 (by decide) ?_
  refine lv_iload_n hx hb dX12_idle_7 rfl (lv_at hl 0 rfl) ?_
  refine lv_bipush (v := 25) hx hb dX12_idle_8 (by decide) ?_
  refine lv_icmp_gt (tgt := 26) hx hb dX12_idle_10 (by decide) (fun c9 => absurd c9 (by decide)) (fun _ => ?_)
  refine lv_aload_n hx hb dX12_idle_13 rfl (lv_at hl 1 rfl) ?_
  refine k_get (D := D) (ci := 12) (v := .ref h1) (N := 195) hx hb hts hin12 hown hK hP 0 rfl rfl (by decide) f9_12_121 (hts (.fieldLink RX12 304 "IntegerHouseModel" "needed" "[Z") (o9_X12_idle _ (List.mem_of_getElem? (i := 1) rfl))) (k_ne (by decide) e1) dX12_idle_14 ?_
  refine lv_iload_n hx hb dX12_idle_17 rfl (lv_at hl 0 rfl) ?_
  refine lv_iconst (v := 0) hx hb dX12_idle_18 (by decide) ?_
  refine va_zast hx hb hK hP hD hS 1 3 rfl rfl (k_in (by decide)) dX12_idle_19 (fun H locs hP hD hS => ?_)
  have hP : va_P D vwCl [(h0, .inr (12, (f0.set 119 (.int 0)))), (h1, .inl (cZ, 26, .inl (upd (upd (upd (upd (upd (upd (upd (upd (upd (upd (upd (upd (upd (upd (upd (upd (upd (upd (upd (upd (upd (upd (upd (upd (upd g0 0 0) 1 0) 2 0) 3 0) 4 0) 5 0) 6 0) 7 0) 8 0) 9 0) 10 0) 11 0) 12 0) 13 0) 14 0) 15 0) 16 0) 17 0) 18 0) 19 0) 20 0) 21 0) 22 0) 23 0) 24 0)))] H := hP
  have hD : va_D A [(h0, .inr (12, (f0.set 119 (.int 0)))), (h1, .inl (cZ, 26, .inl (upd (upd (upd (upd (upd (upd (upd (upd (upd (upd (upd (upd (upd (upd (upd (upd (upd (upd (upd (upd (upd (upd (upd (upd (upd g0 0 0) 1 0) 2 0) 3 0) 4 0) 5 0) 6 0) 7 0) 8 0) 9 0) 10 0) 11 0) 12 0) 13 0) 14 0) 15 0) 16 0) 17 0) 18 0) 19 0) 20 0) 21 0) 22 0) 23 0) 24 0)))] := hD
  refine lv_iinc (v := 25) (lv' := [(1, .int 25), (0, .ref h0)]) hx hb dX12_idle_20 hl (k := 0) rfl (by decide) (by decide) rfl (fun ls hl => ?_)
  refine lv_goto (tgt := 7) hx hb dX12_idle_23 (by decide) ?_
  refine lv_iload_n hx hb dX12_idle_7 rfl (lv_at hl 0 rfl) ?_
  refine lv_bipush (v := 25) hx hb dX12_idle_8 (by decide) ?_
  refine lv_icmp_gt (tgt := 26) hx hb dX12_idle_10 (by decide) (fun c9 => absurd c9 (by decide)) (fun _ => ?_)
  refine lv_aload_n hx hb dX12_idle_13 rfl (lv_at hl 1 rfl) ?_
  refine k_get (D := D) (ci := 12) (v := .ref h1) (N := 195) hx hb hts hin12 hown hK hP 0 rfl rfl (by decide) f9_12_121 (hts (.fieldLink RX12 304 "IntegerHouseModel" "needed" "[Z") (o9_X12_idle _ (List.mem_of_getElem? (i := 1) rfl))) (k_ne (by decide) e1) dX12_idle_14 ?_
  refine lv_iload_n hx hb dX12_idle_17 rfl (lv_at hl 0 rfl) ?_
  refine lv_iconst (v := 0) hx hb dX12_idle_18 (by decide) ?_
  refine va_zast hx hb hK hP hD hS 1 3 rfl rfl (k_in (by decide)) dX12_idle_19 (fun H locs hP hD hS => ?_)
  have hP : va_P D vwCl [(h0, .inr (12, (f0.set 119 (.int 0)))), (h1, .inl (cZ, 26, .inl (upd (upd (upd (upd (upd (upd (upd (upd (upd (upd (upd (upd (upd (upd (upd (upd (upd (upd (upd (upd (upd (upd (upd (upd (upd (upd g0 0 0) 1 0) 2 0) 3 0) 4 0) 5 0) 6 0) 7 0) 8 0) 9 0) 10 0) 11 0) 12 0) 13 0) 14 0) 15 0) 16 0) 17 0) 18 0) 19 0) 20 0) 21 0) 22 0) 23 0) 24 0) 25 0)))] H := hP
  have hD : va_D A [(h0, .inr (12, (f0.set 119 (.int 0)))), (h1, .inl (cZ, 26, .inl (upd (upd (upd (upd (upd (upd (upd (upd (upd (upd (upd (upd (upd (upd (upd (upd (upd (upd (upd (upd (upd (upd (upd (upd (upd (upd g0 0 0) 1 0) 2 0) 3 0) 4 0) 5 0) 6 0) 7 0) 8 0) 9 0) 10 0) 11 0) 12 0) 13 0) 14 0) 15 0) 16 0) 17 0) 18 0) 19 0) 20 0) 21 0) 22 0) 23 0) 24 0) 25 0)))] := hD
  refine lv_iinc (v := 26) (lv' := [(1, .int 26), (0, .ref h0)]) hx hb dX12_idle_20 hl (k := 0) rfl (by decide) (by decide) rfl (fun ls hl => ?_)
  refine lv_goto (tgt := 7) hx hb dX12_idle_23 (by decide) ?_
  refine lv_iload_n hx hb dX12_idle_7 rfl (lv_at hl 0 rfl) ?_
  refine lv_bipush (v := 25) hx hb dX12_idle_8 (by decide) ?_
  refine lv_icmp_gt (tgt := 26) hx hb dX12_idle_10 (by decide) (fun _ => ?_) (fun c9 => absurd (by decide) c9)
  exact W.vret hx hb hr (fun t ht hW => ⟨⟨(), rfl, trivial, kB_mk ht hW hP hK hD⟩, hS.F ht⟩) hS.2.2 dX12_idle_26
set_option maxHeartbeats 400000000 in
set_option maxRecDepth 100000 in
theorem c_X12_putOn_0 (l : Launch) (E : kE) (D : va_G) (cI cJ cB cZ : ClassId) (h0 : Nat) (f0 : List Value) (h1 : Nat) (g0 : Nat → Int32) (e0 : f0[119]? = some (.int 0)) (e1 : f0[121]? = some (.ref h1)) (e2 : f0[33]? = some (.int 0)) : kV l E D (kT cI cJ cB cZ) yX12_putOn vW_X12_putOn ({ frames := 1, cells := 0, slots := 0, locals := 21 }) [.ref h0] [(h0, .inr (12, f0)), (h1, .inl (cZ, 26, .inl g0))] (fun _ : Unit => [(h0, .inr (12, (f0.set 119 (.int 0)))), (h1, .inl (cZ, 26, .inl (upd (upd (upd (upd (upd (upd (upd (upd (upd (upd (upd (upd (upd (upd (upd (upd (upd (upd (upd (upd (upd (upd (upd (upd (upd (upd g0 0 0) 1 0) 2 0) 3 0) 4 0) 5 0) 6 0) 7 0) 8 0) 9 0) 10 0) 11 0) 12 0) 13 0) 14 0) 15 0) 16 0) 17 0) 18 0) 19 0) 20 0) 21 0) 22 0) 23 0) 24 0) 25 0)))]) 0 0 := by
  intro sz
  refine Met.ofW (cc := cX12_putOn) (maxL := 2) (ret := none) (by decide) rfl ?_
  intro p e s m args below meth c s₁ B hml hv
  obtain ⟨rfl, hsz, hP, hK, hD0, hN, hX⟩ := hv
  have hx := B.exec
  have hb := B.bytes
  have hr := B.returns
  have hts := atoms_spec (ws := vW_X12_putOn) B.pre
  have hown : s.vm.findClass RX12 = some m.cls := findClass_of_methodNamed B.named
  have hlocks := B.notSynchronized
  have hin12 : ∀ w ∈ wsX120, w ∈ vW_X12_putOn := u9_X12_putOn_wsX120
  subst hsz
  have hD := hD0.self (sz := s.heap.size)
  have hAE := k_AE hD0 hX
  generalize hAe : va_A [(h0, .inr (12, f0)), (h1, .inl (cZ, 26, .inl g0))] s.heap.size = A at hD hAE ⊢
  have hA : ∀ q : Nat, s.heap.size ≤ q → A q := fun q h => by rw [← hAe]; exact Or.inr h
  have hS : va_S A s.heap s.heap [] := va_S.rf
  have hP : va_P D vwCl [(h0, .inr (12, f0)), (h1, .inl (cZ, 26, .inl g0))] s.heap := hP
  have hl := lv_entry ([.ref h0] : List Value) (n := 2) (Nat.le_of_ble_eq_true rfl)
  rw [lg_entry_eq]
  generalize (lg_sl ([.ref h0]) ++ List.replicate (2 - (lg_sl ([.ref h0])).length) Slot.unset).toArray = ls at hl ⊢
  have hl : lv_has ls 2 [(0, .ref h0)] := hl
  refine lv_aload_n hx hb dX12_putOn_0 rfl (lv_at hl 0 rfl) ?_
  refine k_cVv (As := []) (rest := []) (wc := [(h0, .inr (12, f0)), (h1, .inl (cZ, 26, .inl g0))]) (wr := []) (w1 := (fun _ : Unit => [(h0, .inr (12, (f0.set 119 (.int 0)))), (h1, .inl (cZ, 26, .inl (upd (upd (upd (upd (upd (upd (upd (upd (upd (upd (upd (upd (upd (upd (upd (upd (upd (upd (upd (upd (upd (upd (upd (upd (upd (upd g0 0 0) 1 0) 2 0) 3 0) 4 0) 5 0) 6 0) 7 0) 8 0) 9 0) 10 0) 11 0) 12 0) 13 0) 14 0) 15 0) 16 0) 17 0) 18 0) 19 0) 20 0) 21 0) 22 0) 23 0) 24 0) 25 0)))])) ⟨hx, hb, hml, hown, hts⟩ hN hX hAE hK hP hD hS hA [0, 1] [] (ci := 12) rfl rfl rfl rfl (by decide +kernel) (by decide +kernel) (by decide +kernel) (c_X12_idle_0 l E D cI cJ cB cZ h0 f0 h1 g0 e0 e1) (cwV 0 hts g9_X12_putOn_X12_idle_934 rfl rfl rfl (by decide +kernel) ⟨Nat.le_of_ble_eq_true rfl, Nat.le_of_ble_eq_true rfl⟩) rfl hl.1 (Nat.le_of_ble_eq_true rfl) dX12_putOn_1 ⟨Nat.le_of_ble_eq_true rfl, Nat.le_of_ble_eq_true rfl⟩ (fun _ H locs hP hD hS => ?_)
  have hP : va_P D vwCl [(h0, .inr (12, (f0.set 119 (.int 0)))), (h1, .inl (cZ, 26, .inl (upd (upd (upd (upd (upd (upd (upd (upd (upd (upd (upd (upd (upd (upd (upd (upd (upd (upd (upd (upd (upd (upd (upd (upd (upd (upd g0 0 0) 1 0) 2 0) 3 0) 4 0) 5 0) 6 0) 7 0) 8 0) 9 0) 10 0) 11 0) 12 0) 13 0) 14 0) 15 0) 16 0) 17 0) 18 0) 19 0) 20 0) 21 0) 22 0) 23 0) 24 0) 25 0)))] H := hP
  have hD : va_D A [(h0, .inr (12, (f0.set 119 (.int 0)))), (h1, .inl (cZ, 26, .inl (upd (upd (upd (upd (upd (upd (upd (upd (upd (upd (upd (upd (upd (upd (upd (upd (upd (upd (upd (upd (upd (upd (upd (upd (upd (upd g0 0 0) 1 0) 2 0) 3 0) 4 0) 5 0) 6 0) 7 0) 8 0) 9 0) 10 0) 11 0) 12 0) 13 0) 14 0) 15 0) 16 0) 17 0) 18 0) 19 0) 20 0) 21 0) 22 0) 23 0) 24 0) 25 0)))] := hD
  refine lv_iconst (v := 0) hx hb dX12_putOn_4 (by decide) ?_
  refine lv_istore_n (lv' := [(1, .int 0), (0, .ref h0)]) hx hb dX12_putOn_5 rfl hl (by decide) rfl (fun ls hl => ?_)
  refine lv_iload_n hx hb dX12_putOn_6 rfl (lv_at hl 0 rfl) ?_
  refine lv_aload_n hx hb dX12_putOn_7 rfl (lv_at hl 1 rfl) ?_
  refine k_get (D := D) (ci := 12) (v := .int 0) (N := 195) hx hb hts hin12 hown hK hP 0 rfl rfl (by decide) f9_12_33 (hts (.fieldLink RX12 818 "IntegerHouseModel" "claims" "I") (o9_X12_putOn _ (List.mem_of_getElem? (i := 4) rfl))) (k_ne (by decide) e2) dX12_putOn_8 ?_
  refine lv_icmp_ge (tgt := 34) hx hb dX12_putOn_11 (by decide) (fun _ => ?_) (fun c9 => absurd (by decide) c9)
  exact W.vret hx hb hr (fun t ht hW => ⟨⟨(), rfl, trivial, kB_mk ht hW hP hK hD⟩, hS.F ht⟩) hS.2.2 dX12_putOn_34
set_option maxHeartbeats 400000000 in
set_option maxRecDepth 100000 in
theorem c_X12_findWork_0 (l : Launch) (E : kE) (D : va_G) (cI cJ cB cZ : ClassId) (h0 : Nat) (f0 : List Value) (h1 : Nat) (g0 : Nat → Int32) (e0 : f0[121]? = some (.ref h1)) (e1 : g0 24 = 0) (e2 : g0 23 = 0) (e3 : g0 22 = 0) (e4 : g0 21 = 0) (e5 : g0 20 = 0) (e6 : g0 19 = 0) (e7 : g0 18 = 0) (e8 : g0 17 = 0) (e9 : g0 16 = 0) (e10 : g0 15 = 0) (e11 : g0 14 = 0) (e12 : g0 13 = 0) (e13 : g0 12 = 0) (e14 : g0 11 = 0) (e15 : g0 10 = 0) (e16 : g0 9 = 0) (e17 : g0 8 = 0) (e18 : g0 7 = 0) (e19 : g0 6 = 0) (e20 : g0 5 = 0) (e21 : g0 4 = 0) (e22 : g0 3 = 0) (e23 : g0 2 = 0) (e24 : g0 1 = 0) (e25 : g0 0 = 0) : kV l E D (kT cI cJ cB cZ) yX12_findWork vW_X12_findWork ({ frames := 0, cells := 0, slots := 0, locals := 0 }) [.ref h0] [(h0, .inr (12, f0)), (h1, .inl (cZ, 26, .inl g0))] (fun _ : Unit => [(h0, .inr (12, f0)), (h1, .inl (cZ, 26, .inl g0))]) 0 0 := by
  intro sz
  refine Met.ofW (cc := cX12_findWork) (maxL := 3) (ret := none) (by decide) rfl ?_
  intro p e s m args below meth c s₁ B hml hv
  obtain ⟨rfl, hsz, hP, hK, hD0, hN, hX⟩ := hv
  have hx := B.exec
  have hb := B.bytes
  have hr := B.returns
  have hts := atoms_spec (ws := vW_X12_findWork) B.pre
  have hown : s.vm.findClass RX12 = some m.cls := findClass_of_methodNamed B.named
  have hlocks := B.notSynchronized
  have hin12 : ∀ w ∈ wsX120, w ∈ vW_X12_findWork := u9_X12_findWork_wsX120
  subst hsz
  have hD := hD0.self (sz := s.heap.size)
  have hAE := k_AE hD0 hX
  generalize hAe : va_A [(h0, .inr (12, f0)), (h1, .inl (cZ, 26, .inl g0))] s.heap.size = A at hD hAE ⊢
  have hA : ∀ q : Nat, s.heap.size ≤ q → A q := fun q h => by rw [← hAe]; exact Or.inr h
  have hS : va_S A s.heap s.heap [] := va_S.rf
  have hP : va_P D vwCl [(h0, .inr (12, f0)), (h1, .inl (cZ, 26, .inl g0))] s.heap := hP
  have hl := lv_entry ([.ref h0] : List Value) (n := 3) (Nat.le_of_ble_eq_true rfl)
  rw [lg_entry_eq]
  generalize (lg_sl ([.ref h0]) ++ List.replicate (3 - (lg_sl ([.ref h0])).length) Slot.unset).toArray = ls at hl ⊢
  have hl : lv_has ls 3 [(0, .ref h0)] := hl
  refine lv_bipush (v := 24) hx hb dX12_findWork_0 (by decide) ?_
  refine lv_istore_n (lv' := [(1, .int 24), (0, .ref h0)]) hx hb dX12_findWork_2 rfl hl (by decide) rfl (fun ls hl => ?_)
  refine lv_iload_n hx hb dX12_findWork_3 rfl (lv_at hl 0 rfl) ?_
  refine lv_if_lt (tgt := 119) hx hb dX12_findWork_4 (by decide) (fun c9 => absurd c9 (by decide)) (fun _ => ?_)
  refine lv_sipush (v := 250) hx hb dX12_findWork_7 (by decide) ?_
  refine lv_iload_n hx hb dX12_findWork_10 rfl (lv_at hl 0 rfl) ?_
  refine lv_imul hx hb dX12_findWork_11 ?_
  refine k_topi (y := 6000) (by decide) ?_
  refine lv_istore_n (lv' := [(2, .int 6000), (1, .int 24), (0, .ref h0)]) hx hb dX12_findWork_12 rfl hl (by decide) rfl (fun ls hl => ?_)
  refine lv_aload_n hx hb dX12_findWork_13 rfl (lv_at hl 2 rfl) ?_
  refine k_get (D := D) (ci := 12) (v := .ref h1) (N := 195) hx hb hts hin12 hown hK hP 0 rfl rfl (by decide) f9_12_121 (hts (.fieldLink RX12 304 "IntegerHouseModel" "needed" "[Z") (o9_X12_findWork _ (List.mem_of_getElem? (i := 0) rfl))) e0 dX12_findWork_14 ?_
  refine lv_iload_n hx hb dX12_findWork_17 rfl (lv_at hl 1 rfl) ?_
  refine va_zald hx hb hK hP 1 3 rfl rfl (k_in (by decide)) dX12_findWork_18 ?_
  refine k_topi (y := 0) e1 ?_
  refine lv_if_eq (tgt := 67) hx hb dX12_findWork_19 (by decide) (fun _ => ?_) (fun c9 => absurd (by decide) c9)
  refine lv_bipush (v := 24) hx hb dX12_findWork_67 (by decide) ?_
  refine lv_iload_n hx hb dX12_findWork_69 rfl (lv_at hl 1 rfl) ?_
  refine lv_imul hx hb dX12_findWork_70 ?_
  refine k_topi (y := 576) (by decide) ?_
  refine lv_istore_n (lv' := [(2, .int 576), (1, .int 24), (0, .ref h0)]) hx hb dX12_findWork_71 rfl hl (by decide) rfl (fun ls hl => ?_)
  refine lv_aload_n hx hb dX12_findWork_72 rfl (lv_at hl 2 rfl) ?_
  refine k_get (D := D) (ci := 12) (v := .ref h1) (N := 195) hx hb hts hin12 hown hK hP 0 rfl rfl (by decide) f9_12_121 (hts (.fieldLink RX12 304 "IntegerHouseModel" "needed" "[Z") (o9_X12_findWork _ (List.mem_of_getElem? (i := 0) rfl))) e0 dX12_findWork_73 ?_
  refine lv_iload_n hx hb dX12_findWork_76 rfl (lv_at hl 1 rfl) ?_
  refine va_zald hx hb hK hP 1 3 rfl rfl (k_in (by decide)) dX12_findWork_77 ?_
  refine k_topi (y := 0) e1 ?_
  refine lv_if_eq (tgt := 113) hx hb dX12_findWork_78 (by decide) (fun _ => ?_) (fun c9 => absurd (by decide) c9)
  refine lv_iinc (v := 23) (lv' := [(1, .int 23), (2, .int 576), (0, .ref h0)]) hx hb dX12_findWork_113 hl (k := 1) rfl (by decide) (by decide) rfl (fun ls hl => ?_)
  refine lv_goto (tgt := 3) hx hb dX12_findWork_116 (by decide) ?_
  refine lv_iload_n hx hb dX12_findWork_3 rfl (lv_at hl 0 rfl) ?_
  refine lv_if_lt (tgt := 119) hx hb dX12_findWork_4 (by decide) (fun c9 => absurd c9 (by decide)) (fun _ => ?_)
  refine lv_sipush (v := 250) hx hb dX12_findWork_7 (by decide) ?_
  refine lv_iload_n hx hb dX12_findWork_10 rfl (lv_at hl 0 rfl) ?_
  refine lv_imul hx hb dX12_findWork_11 ?_
  refine k_topi (y := 5750) (by decide) ?_
  refine lv_istore_n (lv' := [(2, .int 5750), (1, .int 23), (0, .ref h0)]) hx hb dX12_findWork_12 rfl hl (by decide) rfl (fun ls hl => ?_)
  refine lv_aload_n hx hb dX12_findWork_13 rfl (lv_at hl 2 rfl) ?_
  refine k_get (D := D) (ci := 12) (v := .ref h1) (N := 195) hx hb hts hin12 hown hK hP 0 rfl rfl (by decide) f9_12_121 (hts (.fieldLink RX12 304 "IntegerHouseModel" "needed" "[Z") (o9_X12_findWork _ (List.mem_of_getElem? (i := 0) rfl))) e0 dX12_findWork_14 ?_
  refine lv_iload_n hx hb dX12_findWork_17 rfl (lv_at hl 1 rfl) ?_
  refine va_zald hx hb hK hP 1 3 rfl rfl (k_in (by decide)) dX12_findWork_18 ?_
  refine k_topi (y := 0) e2 ?_
  refine lv_if_eq (tgt := 67) hx hb dX12_findWork_19 (by decide) (fun _ => ?_) (fun c9 => absurd (by decide) c9)
  refine lv_bipush (v := 24) hx hb dX12_findWork_67 (by decide) ?_
  refine lv_iload_n hx hb dX12_findWork_69 rfl (lv_at hl 1 rfl) ?_
  refine lv_imul hx hb dX12_findWork_70 ?_
  refine k_topi (y := 552) (by decide) ?_
  refine lv_istore_n (lv' := [(2, .int 552), (1, .int 23), (0, .ref h0)]) hx hb dX12_findWork_71 rfl hl (by decide) rfl (fun ls hl => ?_)
  refine lv_aload_n hx hb dX12_findWork_72 rfl (lv_at hl 2 rfl) ?_
  refine k_get (D := D) (ci := 12) (v := .ref h1) (N := 195) hx hb hts hin12 hown hK hP 0 rfl rfl (by decide) f9_12_121 (hts (.fieldLink RX12 304 "IntegerHouseModel" "needed" "[Z") (o9_X12_findWork _ (List.mem_of_getElem? (i := 0) rfl))) e0 dX12_findWork_73 ?_
  refine lv_iload_n hx hb dX12_findWork_76 rfl (lv_at hl 1 rfl) ?_
  refine va_zald hx hb hK hP 1 3 rfl rfl (k_in (by decide)) dX12_findWork_77 ?_
  refine k_topi (y := 0) e2 ?_
  refine lv_if_eq (tgt := 113) hx hb dX12_findWork_78 (by decide) (fun _ => ?_) (fun c9 => absurd (by decide) c9)
  refine lv_iinc (v := 22) (lv' := [(1, .int 22), (2, .int 552), (0, .ref h0)]) hx hb dX12_findWork_113 hl (k := 1) rfl (by decide) (by decide) rfl (fun ls hl => ?_)
  refine lv_goto (tgt := 3) hx hb dX12_findWork_116 (by decide) ?_
  refine lv_iload_n hx hb dX12_findWork_3 rfl (lv_at hl 0 rfl) ?_
  refine lv_if_lt (tgt := 119) hx hb dX12_findWork_4 (by decide) (fun c9 => absurd c9 (by decide)) (fun _ => ?_)
  refine lv_sipush (v := 250) hx hb dX12_findWork_7 (by decide) ?_
  refine lv_iload_n hx hb dX12_findWork_10 rfl (lv_at hl 0 rfl) ?_
  refine lv_imul hx hb dX12_findWork_11 ?_
  refine k_topi (y := 5500) (by decide) ?_
  refine lv_istore_n (lv' := [(2, .int 5500), (1, .int 22), (0, .ref h0)]) hx hb dX12_findWork_12 rfl hl (by decide) rfl (fun ls hl => ?_)
  refine lv_aload_n hx hb dX12_findWork_13 rfl (lv_at hl 2 rfl) ?_
  refine k_get (D := D) (ci := 12) (v := .ref h1) (N := 195) hx hb hts hin12 hown hK hP 0 rfl rfl (by decide) f9_12_121 (hts (.fieldLink RX12 304 "IntegerHouseModel" "needed" "[Z") (o9_X12_findWork _ (List.mem_of_getElem? (i := 0) rfl))) e0 dX12_findWork_14 ?_
  refine lv_iload_n hx hb dX12_findWork_17 rfl (lv_at hl 1 rfl) ?_
  refine va_zald hx hb hK hP 1 3 rfl rfl (k_in (by decide)) dX12_findWork_18 ?_
  refine k_topi (y := 0) e3 ?_
  refine lv_if_eq (tgt := 67) hx hb dX12_findWork_19 (by decide) (fun _ => ?_) (fun c9 => absurd (by decide) c9)
  refine lv_bipush (v := 24) hx hb dX12_findWork_67 (by decide) ?_
  refine lv_iload_n hx hb dX12_findWork_69 rfl (lv_at hl 1 rfl) ?_
  refine lv_imul hx hb dX12_findWork_70 ?_
  refine k_topi (y := 528) (by decide) ?_
  refine lv_istore_n (lv' := [(2, .int 528), (1, .int 22), (0, .ref h0)]) hx hb dX12_findWork_71 rfl hl (by decide) rfl (fun ls hl => ?_)
  refine lv_aload_n hx hb dX12_findWork_72 rfl (lv_at hl 2 rfl) ?_
  refine k_get (D := D) (ci := 12) (v := .ref h1) (N := 195) hx hb hts hin12 hown hK hP 0 rfl rfl (by decide) f9_12_121 (hts (.fieldLink RX12 304 "IntegerHouseModel" "needed" "[Z") (o9_X12_findWork _ (List.mem_of_getElem? (i := 0) rfl))) e0 dX12_findWork_73 ?_
  refine lv_iload_n hx hb dX12_findWork_76 rfl (lv_at hl 1 rfl) ?_
  refine va_zald hx hb hK hP 1 3 rfl rfl (k_in (by decide)) dX12_findWork_77 ?_
  refine k_topi (y := 0) e3 ?_
  refine lv_if_eq (tgt := 113) hx hb dX12_findWork_78 (by decide) (fun _ => ?_) (fun c9 => absurd (by decide) c9)
  refine lv_iinc (v := 21) (lv' := [(1, .int 21), (2, .int 528), (0, .ref h0)]) hx hb dX12_findWork_113 hl (k := 1) rfl (by decide) (by decide) rfl (fun ls hl => ?_)
  refine lv_goto (tgt := 3) hx hb dX12_findWork_116 (by decide) ?_
  refine lv_iload_n hx hb dX12_findWork_3 rfl (lv_at hl 0 rfl) ?_
  refine lv_if_lt (tgt := 119) hx hb dX12_findWork_4 (by decide) (fun c9 => absurd c9 (by decide)) (fun _ => ?_)
  refine lv_sipush (v := 250) hx hb dX12_findWork_7 (by decide) ?_
  refine lv_iload_n hx hb dX12_findWork_10 rfl (lv_at hl 0 rfl) ?_
  refine lv_imul hx hb dX12_findWork_11 ?_
  refine k_topi (y := 5250) (by decide) ?_
  refine lv_istore_n (lv' := [(2, .int 5250), (1, .int 21), (0, .ref h0)]) hx hb dX12_findWork_12 rfl hl (by decide) rfl (fun ls hl => ?_)
  refine lv_aload_n hx hb dX12_findWork_13 rfl (lv_at hl 2 rfl) ?_
  refine k_get (D := D) (ci := 12) (v := .ref h1) (N := 195) hx hb hts hin12 hown hK hP 0 rfl rfl (by decide) f9_12_121 (hts (.fieldLink RX12 304 "IntegerHouseModel" "needed" "[Z") (o9_X12_findWork _ (List.mem_of_getElem? (i := 0) rfl))) e0 dX12_findWork_14 ?_
  refine lv_iload_n hx hb dX12_findWork_17 rfl (lv_at hl 1 rfl) ?_
  refine va_zald hx hb hK hP 1 3 rfl rfl (k_in (by decide)) dX12_findWork_18 ?_
  refine k_topi (y := 0) e4 ?_
  refine lv_if_eq (tgt := 67) hx hb dX12_findWork_19 (by decide) (fun _ => ?_) (fun c9 => absurd (by decide) c9)
  refine lv_bipush (v := 24) hx hb dX12_findWork_67 (by decide) ?_
  refine lv_iload_n hx hb dX12_findWork_69 rfl (lv_at hl 1 rfl) ?_
  refine lv_imul hx hb dX12_findWork_70 ?_
  refine k_topi (y := 504) (by decide) ?_
  refine lv_istore_n (lv' := [(2, .int 504), (1, .int 21), (0, .ref h0)]) hx hb dX12_findWork_71 rfl hl (by decide) rfl (fun ls hl => ?_)
  refine lv_aload_n hx hb dX12_findWork_72 rfl (lv_at hl 2 rfl) ?_
  refine k_get (D := D) (ci := 12) (v := .ref h1) (N := 195) hx hb hts hin12 hown hK hP 0 rfl rfl (by decide) f9_12_121 (hts (.fieldLink RX12 304 "IntegerHouseModel" "needed" "[Z") (o9_X12_findWork _ (List.mem_of_getElem? (i := 0) rfl))) e0 dX12_findWork_73 ?_
  refine lv_iload_n hx hb dX12_findWork_76 rfl (lv_at hl 1 rfl) ?_
  refine va_zald hx hb hK hP 1 3 rfl rfl (k_in (by decide)) dX12_findWork_77 ?_
  refine k_topi (y := 0) e4 ?_
  refine lv_if_eq (tgt := 113) hx hb dX12_findWork_78 (by decide) (fun _ => ?_) (fun c9 => absurd (by decide) c9)
  refine lv_iinc (v := 20) (lv' := [(1, .int 20), (2, .int 504), (0, .ref h0)]) hx hb dX12_findWork_113 hl (k := 1) rfl (by decide) (by decide) rfl (fun ls hl => ?_)
  refine lv_goto (tgt := 3) hx hb dX12_findWork_116 (by decide) ?_
  refine lv_iload_n hx hb dX12_findWork_3 rfl (lv_at hl 0 rfl) ?_
  refine lv_if_lt (tgt := 119) hx hb dX12_findWork_4 (by decide) (fun c9 => absurd c9 (by decide)) (fun _ => ?_)
  refine lv_sipush (v := 250) hx hb dX12_findWork_7 (by decide) ?_
  refine lv_iload_n hx hb dX12_findWork_10 rfl (lv_at hl 0 rfl) ?_
  refine lv_imul hx hb dX12_findWork_11 ?_
  refine k_topi (y := 5000) (by decide) ?_
  refine lv_istore_n (lv' := [(2, .int 5000), (1, .int 20), (0, .ref h0)]) hx hb dX12_findWork_12 rfl hl (by decide) rfl (fun ls hl => ?_)
  refine lv_aload_n hx hb dX12_findWork_13 rfl (lv_at hl 2 rfl) ?_
  refine k_get (D := D) (ci := 12) (v := .ref h1) (N := 195) hx hb hts hin12 hown hK hP 0 rfl rfl (by decide) f9_12_121 (hts (.fieldLink RX12 304 "IntegerHouseModel" "needed" "[Z") (o9_X12_findWork _ (List.mem_of_getElem? (i := 0) rfl))) e0 dX12_findWork_14 ?_
  refine lv_iload_n hx hb dX12_findWork_17 rfl (lv_at hl 1 rfl) ?_
  refine va_zald hx hb hK hP 1 3 rfl rfl (k_in (by decide)) dX12_findWork_18 ?_
  refine k_topi (y := 0) e5 ?_
  refine lv_if_eq (tgt := 67) hx hb dX12_findWork_19 (by decide) (fun _ => ?_) (fun c9 => absurd (by decide) c9)
  refine lv_bipush (v := 24) hx hb dX12_findWork_67 (by decide) ?_
  refine lv_iload_n hx hb dX12_findWork_69 rfl (lv_at hl 1 rfl) ?_
  refine lv_imul hx hb dX12_findWork_70 ?_
  refine k_topi (y := 480) (by decide) ?_
  refine lv_istore_n (lv' := [(2, .int 480), (1, .int 20), (0, .ref h0)]) hx hb dX12_findWork_71 rfl hl (by decide) rfl (fun ls hl => ?_)
  refine lv_aload_n hx hb dX12_findWork_72 rfl (lv_at hl 2 rfl) ?_
  refine k_get (D := D) (ci := 12) (v := .ref h1) (N := 195) hx hb hts hin12 hown hK hP 0 rfl rfl (by decide) f9_12_121 (hts (.fieldLink RX12 304 "IntegerHouseModel" "needed" "[Z") (o9_X12_findWork _ (List.mem_of_getElem? (i := 0) rfl))) e0 dX12_findWork_73 ?_
  refine lv_iload_n hx hb dX12_findWork_76 rfl (lv_at hl 1 rfl) ?_
  refine va_zald hx hb hK hP 1 3 rfl rfl (k_in (by decide)) dX12_findWork_77 ?_
  refine k_topi (y := 0) e5 ?_
  refine lv_if_eq (tgt := 113) hx hb dX12_findWork_78 (by decide) (fun _ => ?_) (fun c9 => absurd (by decide) c9)
  refine lv_iinc (v := 19) (lv' := [(1, .int 19), (2, .int 480), (0, .ref h0)]) hx hb dX12_findWork_113 hl (k := 1) rfl (by decide) (by decide) rfl (fun ls hl => ?_)
  refine lv_goto (tgt := 3) hx hb dX12_findWork_116 (by decide) ?_
  refine lv_iload_n hx hb dX12_findWork_3 rfl (lv_at hl 0 rfl) ?_
  refine lv_if_lt (tgt := 119) hx hb dX12_findWork_4 (by decide) (fun c9 => absurd c9 (by decide)) (fun _ => ?_)
  refine lv_sipush (v := 250) hx hb dX12_findWork_7 (by decide) ?_
  refine lv_iload_n hx hb dX12_findWork_10 rfl (lv_at hl 0 rfl) ?_
  refine lv_imul hx hb dX12_findWork_11 ?_
  refine k_topi (y := 4750) (by decide) ?_
  refine lv_istore_n (lv' := [(2, .int 4750), (1, .int 19), (0, .ref h0)]) hx hb dX12_findWork_12 rfl hl (by decide) rfl (fun ls hl => ?_)
  refine lv_aload_n hx hb dX12_findWork_13 rfl (lv_at hl 2 rfl) ?_
  refine k_get (D := D) (ci := 12) (v := .ref h1) (N := 195) hx hb hts hin12 hown hK hP 0 rfl rfl (by decide) f9_12_121 (hts (.fieldLink RX12 304 "IntegerHouseModel" "needed" "[Z") (o9_X12_findWork _ (List.mem_of_getElem? (i := 0) rfl))) e0 dX12_findWork_14 ?_
  refine lv_iload_n hx hb dX12_findWork_17 rfl (lv_at hl 1 rfl) ?_
  refine va_zald hx hb hK hP 1 3 rfl rfl (k_in (by decide)) dX12_findWork_18 ?_
  refine k_topi (y := 0) e6 ?_
  refine lv_if_eq (tgt := 67) hx hb dX12_findWork_19 (by decide) (fun _ => ?_) (fun c9 => absurd (by decide) c9)
  refine lv_bipush (v := 24) hx hb dX12_findWork_67 (by decide) ?_
  refine lv_iload_n hx hb dX12_findWork_69 rfl (lv_at hl 1 rfl) ?_
  refine lv_imul hx hb dX12_findWork_70 ?_
  refine k_topi (y := 456) (by decide) ?_
  refine lv_istore_n (lv' := [(2, .int 456), (1, .int 19), (0, .ref h0)]) hx hb dX12_findWork_71 rfl hl (by decide) rfl (fun ls hl => ?_)
  refine lv_aload_n hx hb dX12_findWork_72 rfl (lv_at hl 2 rfl) ?_
  refine k_get (D := D) (ci := 12) (v := .ref h1) (N := 195) hx hb hts hin12 hown hK hP 0 rfl rfl (by decide) f9_12_121 (hts (.fieldLink RX12 304 "IntegerHouseModel" "needed" "[Z") (o9_X12_findWork _ (List.mem_of_getElem? (i := 0) rfl))) e0 dX12_findWork_73 ?_
  refine lv_iload_n hx hb dX12_findWork_76 rfl (lv_at hl 1 rfl) ?_
  refine va_zald hx hb hK hP 1 3 rfl rfl (k_in (by decide)) dX12_findWork_77 ?_
  refine k_topi (y := 0) e6 ?_
  refine lv_if_eq (tgt := 113) hx hb dX12_findWork_78 (by decide) (fun _ => ?_) (fun c9 => absurd (by decide) c9)
  refine lv_iinc (v := 18) (lv' := [(1, .int 18), (2, .int 456), (0, .ref h0)]) hx hb dX12_findWork_113 hl (k := 1) rfl (by decide) (by decide) rfl (fun ls hl => ?_)
  refine lv_goto (tgt := 3) hx hb dX12_findWork_116 (by decide) ?_
  refine lv_iload_n hx hb dX12_findWork_3 rfl (lv_at hl 0 rfl) ?_
  refine lv_if_lt (tgt := 119) hx hb dX12_findWork_4 (by decide) (fun c9 => absurd c9 (by decide)) (fun _ => ?_)
  refine lv_sipush (v := 250) hx hb dX12_findWork_7 (by decide) ?_
  refine lv_iload_n hx hb dX12_findWork_10 rfl (lv_at hl 0 rfl) ?_
  refine lv_imul hx hb dX12_findWork_11 ?_
  refine k_topi (y := 4500) (by decide) ?_
  refine lv_istore_n (lv' := [(2, .int 4500), (1, .int 18), (0, .ref h0)]) hx hb dX12_findWork_12 rfl hl (by decide) rfl (fun ls hl => ?_)
  refine lv_aload_n hx hb dX12_findWork_13 rfl (lv_at hl 2 rfl) ?_
  refine k_get (D := D) (ci := 12) (v := .ref h1) (N := 195) hx hb hts hin12 hown hK hP 0 rfl rfl (by decide) f9_12_121 (hts (.fieldLink RX12 304 "IntegerHouseModel" "needed" "[Z") (o9_X12_findWork _ (List.mem_of_getElem? (i := 0) rfl))) e0 dX12_findWork_14 ?_
  refine lv_iload_n hx hb dX12_findWork_17 rfl (lv_at hl 1 rfl) ?_
  refine va_zald hx hb hK hP 1 3 rfl rfl (k_in (by decide)) dX12_findWork_18 ?_
  refine k_topi (y := 0) e7 ?_
  refine lv_if_eq (tgt := 67) hx hb dX12_findWork_19 (by decide) (fun _ => ?_) (fun c9 => absurd (by decide) c9)
  refine lv_bipush (v := 24) hx hb dX12_findWork_67 (by decide) ?_
  refine lv_iload_n hx hb dX12_findWork_69 rfl (lv_at hl 1 rfl) ?_
  refine lv_imul hx hb dX12_findWork_70 ?_
  refine k_topi (y := 432) (by decide) ?_
  refine lv_istore_n (lv' := [(2, .int 432), (1, .int 18), (0, .ref h0)]) hx hb dX12_findWork_71 rfl hl (by decide) rfl (fun ls hl => ?_)
  refine lv_aload_n hx hb dX12_findWork_72 rfl (lv_at hl 2 rfl) ?_
  refine k_get (D := D) (ci := 12) (v := .ref h1) (N := 195) hx hb hts hin12 hown hK hP 0 rfl rfl (by decide) f9_12_121 (hts (.fieldLink RX12 304 "IntegerHouseModel" "needed" "[Z") (o9_X12_findWork _ (List.mem_of_getElem? (i := 0) rfl))) e0 dX12_findWork_73 ?_
  refine lv_iload_n hx hb dX12_findWork_76 rfl (lv_at hl 1 rfl) ?_
  refine va_zald hx hb hK hP 1 3 rfl rfl (k_in (by decide)) dX12_findWork_77 ?_
  refine k_topi (y := 0) e7 ?_
  refine lv_if_eq (tgt := 113) hx hb dX12_findWork_78 (by decide) (fun _ => ?_) (fun c9 => absurd (by decide) c9)
  refine lv_iinc (v := 17) (lv' := [(1, .int 17), (2, .int 432), (0, .ref h0)]) hx hb dX12_findWork_113 hl (k := 1) rfl (by decide) (by decide) rfl (fun ls hl => ?_)
  refine lv_goto (tgt := 3) hx hb dX12_findWork_116 (by decide) ?_
  refine lv_iload_n hx hb dX12_findWork_3 rfl (lv_at hl 0 rfl) ?_
  refine lv_if_lt (tgt := 119) hx hb dX12_findWork_4 (by decide) (fun c9 => absurd c9 (by decide)) (fun _ => ?_)
  refine lv_sipush (v := 250) hx hb dX12_findWork_7 (by decide) ?_
  refine lv_iload_n hx hb dX12_findWork_10 rfl (lv_at hl 0 rfl) ?_
  refine lv_imul hx hb dX12_findWork_11 ?_
  refine k_topi (y := 4250) (by decide) ?_
  refine lv_istore_n (lv' := [(2, .int 4250), (1, .int 17), (0, .ref h0)]) hx hb dX12_findWork_12 rfl hl (by decide) rfl (fun ls hl => ?_)
  refine lv_aload_n hx hb dX12_findWork_13 rfl (lv_at hl 2 rfl) ?_
  refine k_get (D := D) (ci := 12) (v := .ref h1) (N := 195) hx hb hts hin12 hown hK hP 0 rfl rfl (by decide) f9_12_121 (hts (.fieldLink RX12 304 "IntegerHouseModel" "needed" "[Z") (o9_X12_findWork _ (List.mem_of_getElem? (i := 0) rfl))) e0 dX12_findWork_14 ?_
  refine lv_iload_n hx hb dX12_findWork_17 rfl (lv_at hl 1 rfl) ?_
  refine va_zald hx hb hK hP 1 3 rfl rfl (k_in (by decide)) dX12_findWork_18 ?_
  refine k_topi (y := 0) e8 ?_
  refine lv_if_eq (tgt := 67) hx hb dX12_findWork_19 (by decide) (fun _ => ?_) (fun c9 => absurd (by decide) c9)
  refine lv_bipush (v := 24) hx hb dX12_findWork_67 (by decide) ?_
  refine lv_iload_n hx hb dX12_findWork_69 rfl (lv_at hl 1 rfl) ?_
  refine lv_imul hx hb dX12_findWork_70 ?_
  refine k_topi (y := 408) (by decide) ?_
  refine lv_istore_n (lv' := [(2, .int 408), (1, .int 17), (0, .ref h0)]) hx hb dX12_findWork_71 rfl hl (by decide) rfl (fun ls hl => ?_)
  refine lv_aload_n hx hb dX12_findWork_72 rfl (lv_at hl 2 rfl) ?_
  refine k_get (D := D) (ci := 12) (v := .ref h1) (N := 195) hx hb hts hin12 hown hK hP 0 rfl rfl (by decide) f9_12_121 (hts (.fieldLink RX12 304 "IntegerHouseModel" "needed" "[Z") (o9_X12_findWork _ (List.mem_of_getElem? (i := 0) rfl))) e0 dX12_findWork_73 ?_
  refine lv_iload_n hx hb dX12_findWork_76 rfl (lv_at hl 1 rfl) ?_
  refine va_zald hx hb hK hP 1 3 rfl rfl (k_in (by decide)) dX12_findWork_77 ?_
  refine k_topi (y := 0) e8 ?_
  refine lv_if_eq (tgt := 113) hx hb dX12_findWork_78 (by decide) (fun _ => ?_) (fun c9 => absurd (by decide) c9)
  refine lv_iinc (v := 16) (lv' := [(1, .int 16), (2, .int 408), (0, .ref h0)]) hx hb dX12_findWork_113 hl (k := 1) rfl (by decide) (by decide) rfl (fun ls hl => ?_)
  refine lv_goto (tgt := 3) hx hb dX12_findWork_116 (by decide) ?_
  refine lv_iload_n hx hb dX12_findWork_3 rfl (lv_at hl 0 rfl) ?_
  refine lv_if_lt (tgt := 119) hx hb dX12_findWork_4 (by decide) (fun c9 => absurd c9 (by decide)) (fun _ => ?_)
  refine lv_sipush (v := 250) hx hb dX12_findWork_7 (by decide) ?_
  refine lv_iload_n hx hb dX12_findWork_10 rfl (lv_at hl 0 rfl) ?_
  refine lv_imul hx hb dX12_findWork_11 ?_
  refine k_topi (y := 4000) (by decide) ?_
  refine lv_istore_n (lv' := [(2, .int 4000), (1, .int 16), (0, .ref h0)]) hx hb dX12_findWork_12 rfl hl (by decide) rfl (fun ls hl => ?_)
  refine lv_aload_n hx hb dX12_findWork_13 rfl (lv_at hl 2 rfl) ?_
  refine k_get (D := D) (ci := 12) (v := .ref h1) (N := 195) hx hb hts hin12 hown hK hP 0 rfl rfl (by decide) f9_12_121 (hts (.fieldLink RX12 304 "IntegerHouseModel" "needed" "[Z") (o9_X12_findWork _ (List.mem_of_getElem? (i := 0) rfl))) e0 dX12_findWork_14 ?_
  refine lv_iload_n hx hb dX12_findWork_17 rfl (lv_at hl 1 rfl) ?_
  refine va_zald hx hb hK hP 1 3 rfl rfl (k_in (by decide)) dX12_findWork_18 ?_
  refine k_topi (y := 0) e9 ?_
  refine lv_if_eq (tgt := 67) hx hb dX12_findWork_19 (by decide) (fun _ => ?_) (fun c9 => absurd (by decide) c9)
  refine lv_bipush (v := 24) hx hb dX12_findWork_67 (by decide) ?_
  refine lv_iload_n hx hb dX12_findWork_69 rfl (lv_at hl 1 rfl) ?_
  refine lv_imul hx hb dX12_findWork_70 ?_
  refine k_topi (y := 384) (by decide) ?_
  refine lv_istore_n (lv' := [(2, .int 384), (1, .int 16), (0, .ref h0)]) hx hb dX12_findWork_71 rfl hl (by decide) rfl (fun ls hl => ?_)
  refine lv_aload_n hx hb dX12_findWork_72 rfl (lv_at hl 2 rfl) ?_
  refine k_get (D := D) (ci := 12) (v := .ref h1) (N := 195) hx hb hts hin12 hown hK hP 0 rfl rfl (by decide) f9_12_121 (hts (.fieldLink RX12 304 "IntegerHouseModel" "needed" "[Z") (o9_X12_findWork _ (List.mem_of_getElem? (i := 0) rfl))) e0 dX12_findWork_73 ?_
  refine lv_iload_n hx hb dX12_findWork_76 rfl (lv_at hl 1 rfl) ?_
  refine va_zald hx hb hK hP 1 3 rfl rfl (k_in (by decide)) dX12_findWork_77 ?_
  refine k_topi (y := 0) e9 ?_
  refine lv_if_eq (tgt := 113) hx hb dX12_findWork_78 (by decide) (fun _ => ?_) (fun c9 => absurd (by decide) c9)
  refine lv_iinc (v := 15) (lv' := [(1, .int 15), (2, .int 384), (0, .ref h0)]) hx hb dX12_findWork_113 hl (k := 1) rfl (by decide) (by decide) rfl (fun ls hl => ?_)
  refine lv_goto (tgt := 3) hx hb dX12_findWork_116 (by decide) ?_
  refine lv_iload_n hx hb dX12_findWork_3 rfl (lv_at hl 0 rfl) ?_
  refine lv_if_lt (tgt := 119) hx hb dX12_findWork_4 (by decide) (fun c9 => absurd c9 (by decide)) (fun _ => ?_)
  refine lv_sipush (v := 250) hx hb dX12_findWork_7 (by decide) ?_
  refine lv_iload_n hx hb dX12_findWork_10 rfl (lv_at hl 0 rfl) ?_
  refine lv_imul hx hb dX12_findWork_11 ?_
  refine k_topi (y := 3750) (by decide) ?_
  refine lv_istore_n (lv' := [(2, .int 3750), (1, .int 15), (0, .ref h0)]) hx hb dX12_findWork_12 rfl hl (by decide) rfl (fun ls hl => ?_)
  refine lv_aload_n hx hb dX12_findWork_13 rfl (lv_at hl 2 rfl) ?_
  refine k_get (D := D) (ci := 12) (v := .ref h1) (N := 195) hx hb hts hin12 hown hK hP 0 rfl rfl (by decide) f9_12_121 (hts (.fieldLink RX12 304 "IntegerHouseModel" "needed" "[Z") (o9_X12_findWork _ (List.mem_of_getElem? (i := 0) rfl))) e0 dX12_findWork_14 ?_
  refine lv_iload_n hx hb dX12_findWork_17 rfl (lv_at hl 1 rfl) ?_
  refine va_zald hx hb hK hP 1 3 rfl rfl (k_in (by decide)) dX12_findWork_18 ?_
  refine k_topi (y := 0) e10 ?_
  refine lv_if_eq (tgt := 67) hx hb dX12_findWork_19 (by decide) (fun _ => ?_) (fun c9 => absurd (by decide) c9)
  refine lv_bipush (v := 24) hx hb dX12_findWork_67 (by decide) ?_
  refine lv_iload_n hx hb dX12_findWork_69 rfl (lv_at hl 1 rfl) ?_
  refine lv_imul hx hb dX12_findWork_70 ?_
  refine k_topi (y := 360) (by decide) ?_
  refine lv_istore_n (lv' := [(2, .int 360), (1, .int 15), (0, .ref h0)]) hx hb dX12_findWork_71 rfl hl (by decide) rfl (fun ls hl => ?_)
  refine lv_aload_n hx hb dX12_findWork_72 rfl (lv_at hl 2 rfl) ?_
  refine k_get (D := D) (ci := 12) (v := .ref h1) (N := 195) hx hb hts hin12 hown hK hP 0 rfl rfl (by decide) f9_12_121 (hts (.fieldLink RX12 304 "IntegerHouseModel" "needed" "[Z") (o9_X12_findWork _ (List.mem_of_getElem? (i := 0) rfl))) e0 dX12_findWork_73 ?_
  refine lv_iload_n hx hb dX12_findWork_76 rfl (lv_at hl 1 rfl) ?_
  refine va_zald hx hb hK hP 1 3 rfl rfl (k_in (by decide)) dX12_findWork_77 ?_
  refine k_topi (y := 0) e10 ?_
  refine lv_if_eq (tgt := 113) hx hb dX12_findWork_78 (by decide) (fun _ => ?_) (fun c9 => absurd (by decide) c9)
  refine lv_iinc (v := 14) (lv' := [(1, .int 14), (2, .int 360), (0, .ref h0)]) hx hb dX12_findWork_113 hl (k := 1) rfl (by decide) (by decide) rfl (fun ls hl => ?_)
  refine lv_goto (tgt := 3) hx hb dX12_findWork_116 (by decide) ?_
  refine lv_iload_n hx hb dX12_findWork_3 rfl (lv_at hl 0 rfl) ?_
  refine lv_if_lt (tgt := 119) hx hb dX12_findWork_4 (by decide) (fun c9 => absurd c9 (by decide)) (fun _ => ?_)
  refine lv_sipush (v := 250) hx hb dX12_findWork_7 (by decide) ?_
  refine lv_iload_n hx hb dX12_findWork_10 rfl (lv_at hl 0 rfl) ?_
  refine lv_imul hx hb dX12_findWork_11 ?_
  refine k_topi (y := 3500) (by decide) ?_
  refine lv_istore_n (lv' := [(2, .int 3500), (1, .int 14), (0, .ref h0)]) hx hb dX12_findWork_12 rfl hl (by decide) rfl (fun ls hl => ?_)
  refine lv_aload_n hx hb dX12_findWork_13 rfl (lv_at hl 2 rfl) ?_
  refine k_get (D := D) (ci := 12) (v := .ref h1) (N := 195) hx hb hts hin12 hown hK hP 0 rfl rfl (by decide) f9_12_121 (hts (.fieldLink RX12 304 "IntegerHouseModel" "needed" "[Z") (o9_X12_findWork _ (List.mem_of_getElem? (i := 0) rfl))) e0 dX12_findWork_14 ?_
  refine lv_iload_n hx hb dX12_findWork_17 rfl (lv_at hl 1 rfl) ?_
  refine va_zald hx hb hK hP 1 3 rfl rfl (k_in (by decide)) dX12_findWork_18 ?_
  refine k_topi (y := 0) e11 ?_
  refine lv_if_eq (tgt := 67) hx hb dX12_findWork_19 (by decide) (fun _ => ?_) (fun c9 => absurd (by decide) c9)
  refine lv_bipush (v := 24) hx hb dX12_findWork_67 (by decide) ?_
  refine lv_iload_n hx hb dX12_findWork_69 rfl (lv_at hl 1 rfl) ?_
  refine lv_imul hx hb dX12_findWork_70 ?_
  refine k_topi (y := 336) (by decide) ?_
  refine lv_istore_n (lv' := [(2, .int 336), (1, .int 14), (0, .ref h0)]) hx hb dX12_findWork_71 rfl hl (by decide) rfl (fun ls hl => ?_)
  refine lv_aload_n hx hb dX12_findWork_72 rfl (lv_at hl 2 rfl) ?_
  refine k_get (D := D) (ci := 12) (v := .ref h1) (N := 195) hx hb hts hin12 hown hK hP 0 rfl rfl (by decide) f9_12_121 (hts (.fieldLink RX12 304 "IntegerHouseModel" "needed" "[Z") (o9_X12_findWork _ (List.mem_of_getElem? (i := 0) rfl))) e0 dX12_findWork_73 ?_
  refine lv_iload_n hx hb dX12_findWork_76 rfl (lv_at hl 1 rfl) ?_
  refine va_zald hx hb hK hP 1 3 rfl rfl (k_in (by decide)) dX12_findWork_77 ?_
  refine k_topi (y := 0) e11 ?_
  refine lv_if_eq (tgt := 113) hx hb dX12_findWork_78 (by decide) (fun _ => ?_) (fun c9 => absurd (by decide) c9)
  refine lv_iinc (v := 13) (lv' := [(1, .int 13), (2, .int 336), (0, .ref h0)]) hx hb dX12_findWork_113 hl (k := 1) rfl (by decide) (by decide) rfl (fun ls hl => ?_)
  refine lv_goto (tgt := 3) hx hb dX12_findWork_116 (by decide) ?_
  refine lv_iload_n hx hb dX12_findWork_3 rfl (lv_at hl 0 rfl) ?_
  refine lv_if_lt (tgt := 119) hx hb dX12_findWork_4 (by decide) (fun c9 => absurd c9 (by decide)) (fun _ => ?_)
  refine lv_sipush (v := 250) hx hb dX12_findWork_7 (by decide) ?_
  refine lv_iload_n hx hb dX12_findWork_10 rfl (lv_at hl 0 rfl) ?_
  refine lv_imul hx hb dX12_findWork_11 ?_
  refine k_topi (y := 3250) (by decide) ?_
  refine lv_istore_n (lv' := [(2, .int 3250), (1, .int 13), (0, .ref h0)]) hx hb dX12_findWork_12 rfl hl (by decide) rfl (fun ls hl => ?_)
  refine lv_aload_n hx hb dX12_findWork_13 rfl (lv_at hl 2 rfl) ?_
  refine k_get (D := D) (ci := 12) (v := .ref h1) (N := 195) hx hb hts hin12 hown hK hP 0 rfl rfl (by decide) f9_12_121 (hts (.fieldLink RX12 304 "IntegerHouseModel" "needed" "[Z") (o9_X12_findWork _ (List.mem_of_getElem? (i := 0) rfl))) e0 dX12_findWork_14 ?_
  refine lv_iload_n hx hb dX12_findWork_17 rfl (lv_at hl 1 rfl) ?_
  refine va_zald hx hb hK hP 1 3 rfl rfl (k_in (by decide)) dX12_findWork_18 ?_
  refine k_topi (y := 0) e12 ?_
  refine lv_if_eq (tgt := 67) hx hb dX12_findWork_19 (by decide) (fun _ => ?_) (fun c9 => absurd (by decide) c9)
  refine lv_bipush (v := 24) hx hb dX12_findWork_67 (by decide) ?_
  refine lv_iload_n hx hb dX12_findWork_69 rfl (lv_at hl 1 rfl) ?_
  refine lv_imul hx hb dX12_findWork_70 ?_
  refine k_topi (y := 312) (by decide) ?_
  refine lv_istore_n (lv' := [(2, .int 312), (1, .int 13), (0, .ref h0)]) hx hb dX12_findWork_71 rfl hl (by decide) rfl (fun ls hl => ?_)
  refine lv_aload_n hx hb dX12_findWork_72 rfl (lv_at hl 2 rfl) ?_
  refine k_get (D := D) (ci := 12) (v := .ref h1) (N := 195) hx hb hts hin12 hown hK hP 0 rfl rfl (by decide) f9_12_121 (hts (.fieldLink RX12 304 "IntegerHouseModel" "needed" "[Z") (o9_X12_findWork _ (List.mem_of_getElem? (i := 0) rfl))) e0 dX12_findWork_73 ?_
  refine lv_iload_n hx hb dX12_findWork_76 rfl (lv_at hl 1 rfl) ?_
  refine va_zald hx hb hK hP 1 3 rfl rfl (k_in (by decide)) dX12_findWork_77 ?_
  refine k_topi (y := 0) e12 ?_
  refine lv_if_eq (tgt := 113) hx hb dX12_findWork_78 (by decide) (fun _ => ?_) (fun c9 => absurd (by decide) c9)
  refine lv_iinc (v := 12) (lv' := [(1, .int 12), (2, .int 312), (0, .ref h0)]) hx hb dX12_findWork_113 hl (k := 1) rfl (by decide) (by decide) rfl (fun ls hl => ?_)
  refine lv_goto (tgt := 3) hx hb dX12_findWork_116 (by decide) ?_
  refine lv_iload_n hx hb dX12_findWork_3 rfl (lv_at hl 0 rfl) ?_
  refine lv_if_lt (tgt := 119) hx hb dX12_findWork_4 (by decide) (fun c9 => absurd c9 (by decide)) (fun _ => ?_)
  refine lv_sipush (v := 250) hx hb dX12_findWork_7 (by decide) ?_
  refine lv_iload_n hx hb dX12_findWork_10 rfl (lv_at hl 0 rfl) ?_
  refine lv_imul hx hb dX12_findWork_11 ?_
  refine k_topi (y := 3000) (by decide) ?_
  refine lv_istore_n (lv' := [(2, .int 3000), (1, .int 12), (0, .ref h0)]) hx hb dX12_findWork_12 rfl hl (by decide) rfl (fun ls hl => ?_)
  refine lv_aload_n hx hb dX12_findWork_13 rfl (lv_at hl 2 rfl) ?_
  refine k_get (D := D) (ci := 12) (v := .ref h1) (N := 195) hx hb hts hin12 hown hK hP 0 rfl rfl (by decide) f9_12_121 (hts (.fieldLink RX12 304 "IntegerHouseModel" "needed" "[Z") (o9_X12_findWork _ (List.mem_of_getElem? (i := 0) rfl))) e0 dX12_findWork_14 ?_
  refine lv_iload_n hx hb dX12_findWork_17 rfl (lv_at hl 1 rfl) ?_
  refine va_zald hx hb hK hP 1 3 rfl rfl (k_in (by decide)) dX12_findWork_18 ?_
  refine k_topi (y := 0) e13 ?_
  refine lv_if_eq (tgt := 67) hx hb dX12_findWork_19 (by decide) (fun _ => ?_) (fun c9 => absurd (by decide) c9)
  refine lv_bipush (v := 24) hx hb dX12_findWork_67 (by decide) ?_
  refine lv_iload_n hx hb dX12_findWork_69 rfl (lv_at hl 1 rfl) ?_
  refine lv_imul hx hb dX12_findWork_70 ?_
  refine k_topi (y := 288) (by decide) ?_
  refine lv_istore_n (lv' := [(2, .int 288), (1, .int 12), (0, .ref h0)]) hx hb dX12_findWork_71 rfl hl (by decide) rfl (fun ls hl => ?_)
  refine lv_aload_n hx hb dX12_findWork_72 rfl (lv_at hl 2 rfl) ?_
  refine k_get (D := D) (ci := 12) (v := .ref h1) (N := 195) hx hb hts hin12 hown hK hP 0 rfl rfl (by decide) f9_12_121 (hts (.fieldLink RX12 304 "IntegerHouseModel" "needed" "[Z") (o9_X12_findWork _ (List.mem_of_getElem? (i := 0) rfl))) e0 dX12_findWork_73 ?_
  refine lv_iload_n hx hb dX12_findWork_76 rfl (lv_at hl 1 rfl) ?_
  refine va_zald hx hb hK hP 1 3 rfl rfl (k_in (by decide)) dX12_findWork_77 ?_
  refine k_topi (y := 0) e13 ?_
  refine lv_if_eq (tgt := 113) hx hb dX12_findWork_78 (by decide) (fun _ => ?_) (fun c9 => absurd (by decide) c9)
  refine lv_iinc (v := 11) (lv' := [(1, .int 11), (2, .int 288), (0, .ref h0)]) hx hb dX12_findWork_113 hl (k := 1) rfl (by decide) (by decide) rfl (fun ls hl => ?_)
  refine lv_goto (tgt := 3) hx hb dX12_findWork_116 (by decide) ?_
  refine lv_iload_n hx hb dX12_findWork_3 rfl (lv_at hl 0 rfl) ?_
  refine lv_if_lt (tgt := 119) hx hb dX12_findWork_4 (by decide) (fun c9 => absurd c9 (by decide)) (fun _ => ?_)
  refine lv_sipush (v := 250) hx hb dX12_findWork_7 (by decide) ?_
  refine lv_iload_n hx hb dX12_findWork_10 rfl (lv_at hl 0 rfl) ?_
  refine lv_imul hx hb dX12_findWork_11 ?_
  refine k_topi (y := 2750) (by decide) ?_
  refine lv_istore_n (lv' := [(2, .int 2750), (1, .int 11), (0, .ref h0)]) hx hb dX12_findWork_12 rfl hl (by decide) rfl (fun ls hl => ?_)
  refine lv_aload_n hx hb dX12_findWork_13 rfl (lv_at hl 2 rfl) ?_
  refine k_get (D := D) (ci := 12) (v := .ref h1) (N := 195) hx hb hts hin12 hown hK hP 0 rfl rfl (by decide) f9_12_121 (hts (.fieldLink RX12 304 "IntegerHouseModel" "needed" "[Z") (o9_X12_findWork _ (List.mem_of_getElem? (i := 0) rfl))) e0 dX12_findWork_14 ?_
  refine lv_iload_n hx hb dX12_findWork_17 rfl (lv_at hl 1 rfl) ?_
  refine va_zald hx hb hK hP 1 3 rfl rfl (k_in (by decide)) dX12_findWork_18 ?_
  refine k_topi (y := 0) e14 ?_
  refine lv_if_eq (tgt := 67) hx hb dX12_findWork_19 (by decide) (fun _ => ?_) (fun c9 => absurd (by decide) c9)
  refine lv_bipush (v := 24) hx hb dX12_findWork_67 (by decide) ?_
  refine lv_iload_n hx hb dX12_findWork_69 rfl (lv_at hl 1 rfl) ?_
  refine lv_imul hx hb dX12_findWork_70 ?_
  refine k_topi (y := 264) (by decide) ?_
  refine lv_istore_n (lv' := [(2, .int 264), (1, .int 11), (0, .ref h0)]) hx hb dX12_findWork_71 rfl hl (by decide) rfl (fun ls hl => ?_)
  refine lv_aload_n hx hb dX12_findWork_72 rfl (lv_at hl 2 rfl) ?_
  refine k_get (D := D) (ci := 12) (v := .ref h1) (N := 195) hx hb hts hin12 hown hK hP 0 rfl rfl (by decide) f9_12_121 (hts (.fieldLink RX12 304 "IntegerHouseModel" "needed" "[Z") (o9_X12_findWork _ (List.mem_of_getElem? (i := 0) rfl))) e0 dX12_findWork_73 ?_
  refine lv_iload_n hx hb dX12_findWork_76 rfl (lv_at hl 1 rfl) ?_
  refine va_zald hx hb hK hP 1 3 rfl rfl (k_in (by decide)) dX12_findWork_77 ?_
  refine k_topi (y := 0) e14 ?_
  refine lv_if_eq (tgt := 113) hx hb dX12_findWork_78 (by decide) (fun _ => ?_) (fun c9 => absurd (by decide) c9)
  refine lv_iinc (v := 10) (lv' := [(1, .int 10), (2, .int 264), (0, .ref h0)]) hx hb dX12_findWork_113 hl (k := 1) rfl (by decide) (by decide) rfl (fun ls hl => ?_)
  refine lv_goto (tgt := 3) hx hb dX12_findWork_116 (by decide) ?_
  refine lv_iload_n hx hb dX12_findWork_3 rfl (lv_at hl 0 rfl) ?_
  refine lv_if_lt (tgt := 119) hx hb dX12_findWork_4 (by decide) (fun c9 => absurd c9 (by decide)) (fun _ => ?_)
  refine lv_sipush (v := 250) hx hb dX12_findWork_7 (by decide) ?_
  refine lv_iload_n hx hb dX12_findWork_10 rfl (lv_at hl 0 rfl) ?_
  refine lv_imul hx hb dX12_findWork_11 ?_
  refine k_topi (y := 2500) (by decide) ?_
  refine lv_istore_n (lv' := [(2, .int 2500), (1, .int 10), (0, .ref h0)]) hx hb dX12_findWork_12 rfl hl (by decide) rfl (fun ls hl => ?_)
  refine lv_aload_n hx hb dX12_findWork_13 rfl (lv_at hl 2 rfl) ?_
  refine k_get (D := D) (ci := 12) (v := .ref h1) (N := 195) hx hb hts hin12 hown hK hP 0 rfl rfl (by decide) f9_12_121 (hts (.fieldLink RX12 304 "IntegerHouseModel" "needed" "[Z") (o9_X12_findWork _ (List.mem_of_getElem? (i := 0) rfl))) e0 dX12_findWork_14 ?_
  refine lv_iload_n hx hb dX12_findWork_17 rfl (lv_at hl 1 rfl) ?_
  refine va_zald hx hb hK hP 1 3 rfl rfl (k_in (by decide)) dX12_findWork_18 ?_
  refine k_topi (y := 0) e15 ?_
  refine lv_if_eq (tgt := 67) hx hb dX12_findWork_19 (by decide) (fun _ => ?_) (fun c9 => absurd (by decide) c9)
  refine lv_bipush (v := 24) hx hb dX12_findWork_67 (by decide) ?_
  refine lv_iload_n hx hb dX12_findWork_69 rfl (lv_at hl 1 rfl) ?_
  refine lv_imul hx hb dX12_findWork_70 ?_
  refine k_topi (y := 240) (by decide) ?_
  refine lv_istore_n (lv' := [(2, .int 240), (1, .int 10), (0, .ref h0)]) hx hb dX12_findWork_71 rfl hl (by decide) rfl (fun ls hl => ?_)
  refine lv_aload_n hx hb dX12_findWork_72 rfl (lv_at hl 2 rfl) ?_
  refine k_get (D := D) (ci := 12) (v := .ref h1) (N := 195) hx hb hts hin12 hown hK hP 0 rfl rfl (by decide) f9_12_121 (hts (.fieldLink RX12 304 "IntegerHouseModel" "needed" "[Z") (o9_X12_findWork _ (List.mem_of_getElem? (i := 0) rfl))) e0 dX12_findWork_73 ?_
  refine lv_iload_n hx hb dX12_findWork_76 rfl (lv_at hl 1 rfl) ?_
  refine va_zald hx hb hK hP 1 3 rfl rfl (k_in (by decide)) dX12_findWork_77 ?_
  refine k_topi (y := 0) e15 ?_
  refine lv_if_eq (tgt := 113) hx hb dX12_findWork_78 (by decide) (fun _ => ?_) (fun c9 => absurd (by decide) c9)
  refine lv_iinc (v := 9) (lv' := [(1, .int 9), (2, .int 240), (0, .ref h0)]) hx hb dX12_findWork_113 hl (k := 1) rfl (by decide) (by decide) rfl (fun ls hl => ?_)
  refine lv_goto (tgt := 3) hx hb dX12_findWork_116 (by decide) ?_
  refine lv_iload_n hx hb dX12_findWork_3 rfl (lv_at hl 0 rfl) ?_
  refine lv_if_lt (tgt := 119) hx hb dX12_findWork_4 (by decide) (fun c9 => absurd c9 (by decide)) (fun _ => ?_)
  refine lv_sipush (v := 250) hx hb dX12_findWork_7 (by decide) ?_
  refine lv_iload_n hx hb dX12_findWork_10 rfl (lv_at hl 0 rfl) ?_
  refine lv_imul hx hb dX12_findWork_11 ?_
  refine k_topi (y := 2250) (by decide) ?_
  refine lv_istore_n (lv' := [(2, .int 2250), (1, .int 9), (0, .ref h0)]) hx hb dX12_findWork_12 rfl hl (by decide) rfl (fun ls hl => ?_)
  refine lv_aload_n hx hb dX12_findWork_13 rfl (lv_at hl 2 rfl) ?_
  refine k_get (D := D) (ci := 12) (v := .ref h1) (N := 195) hx hb hts hin12 hown hK hP 0 rfl rfl (by decide) f9_12_121 (hts (.fieldLink RX12 304 "IntegerHouseModel" "needed" "[Z") (o9_X12_findWork _ (List.mem_of_getElem? (i := 0) rfl))) e0 dX12_findWork_14 ?_
  refine lv_iload_n hx hb dX12_findWork_17 rfl (lv_at hl 1 rfl) ?_
  refine va_zald hx hb hK hP 1 3 rfl rfl (k_in (by decide)) dX12_findWork_18 ?_
  refine k_topi (y := 0) e16 ?_
  refine lv_if_eq (tgt := 67) hx hb dX12_findWork_19 (by decide) (fun _ => ?_) (fun c9 => absurd (by decide) c9)
  refine lv_bipush (v := 24) hx hb dX12_findWork_67 (by decide) ?_
  refine lv_iload_n hx hb dX12_findWork_69 rfl (lv_at hl 1 rfl) ?_
  refine lv_imul hx hb dX12_findWork_70 ?_
  refine k_topi (y := 216) (by decide) ?_
  refine lv_istore_n (lv' := [(2, .int 216), (1, .int 9), (0, .ref h0)]) hx hb dX12_findWork_71 rfl hl (by decide) rfl (fun ls hl => ?_)
  refine lv_aload_n hx hb dX12_findWork_72 rfl (lv_at hl 2 rfl) ?_
  refine k_get (D := D) (ci := 12) (v := .ref h1) (N := 195) hx hb hts hin12 hown hK hP 0 rfl rfl (by decide) f9_12_121 (hts (.fieldLink RX12 304 "IntegerHouseModel" "needed" "[Z") (o9_X12_findWork _ (List.mem_of_getElem? (i := 0) rfl))) e0 dX12_findWork_73 ?_
  refine lv_iload_n hx hb dX12_findWork_76 rfl (lv_at hl 1 rfl) ?_
  refine va_zald hx hb hK hP 1 3 rfl rfl (k_in (by decide)) dX12_findWork_77 ?_
  refine k_topi (y := 0) e16 ?_
  refine lv_if_eq (tgt := 113) hx hb dX12_findWork_78 (by decide) (fun _ => ?_) (fun c9 => absurd (by decide) c9)
  refine lv_iinc (v := 8) (lv' := [(1, .int 8), (2, .int 216), (0, .ref h0)]) hx hb dX12_findWork_113 hl (k := 1) rfl (by decide) (by decide) rfl (fun ls hl => ?_)
  refine lv_goto (tgt := 3) hx hb dX12_findWork_116 (by decide) ?_
  refine lv_iload_n hx hb dX12_findWork_3 rfl (lv_at hl 0 rfl) ?_
  refine lv_if_lt (tgt := 119) hx hb dX12_findWork_4 (by decide) (fun c9 => absurd c9 (by decide)) (fun _ => ?_)
  refine lv_sipush (v := 250) hx hb dX12_findWork_7 (by decide) ?_
  refine lv_iload_n hx hb dX12_findWork_10 rfl (lv_at hl 0 rfl) ?_
  refine lv_imul hx hb dX12_findWork_11 ?_
  refine k_topi (y := 2000) (by decide) ?_
  refine lv_istore_n (lv' := [(2, .int 2000), (1, .int 8), (0, .ref h0)]) hx hb dX12_findWork_12 rfl hl (by decide) rfl (fun ls hl => ?_)
  refine lv_aload_n hx hb dX12_findWork_13 rfl (lv_at hl 2 rfl) ?_
  refine k_get (D := D) (ci := 12) (v := .ref h1) (N := 195) hx hb hts hin12 hown hK hP 0 rfl rfl (by decide) f9_12_121 (hts (.fieldLink RX12 304 "IntegerHouseModel" "needed" "[Z") (o9_X12_findWork _ (List.mem_of_getElem? (i := 0) rfl))) e0 dX12_findWork_14 ?_
  refine lv_iload_n hx hb dX12_findWork_17 rfl (lv_at hl 1 rfl) ?_
  refine va_zald hx hb hK hP 1 3 rfl rfl (k_in (by decide)) dX12_findWork_18 ?_
  refine k_topi (y := 0) e17 ?_
  refine lv_if_eq (tgt := 67) hx hb dX12_findWork_19 (by decide) (fun _ => ?_) (fun c9 => absurd (by decide) c9)
  refine lv_bipush (v := 24) hx hb dX12_findWork_67 (by decide) ?_
  refine lv_iload_n hx hb dX12_findWork_69 rfl (lv_at hl 1 rfl) ?_
  refine lv_imul hx hb dX12_findWork_70 ?_
  refine k_topi (y := 192) (by decide) ?_
  refine lv_istore_n (lv' := [(2, .int 192), (1, .int 8), (0, .ref h0)]) hx hb dX12_findWork_71 rfl hl (by decide) rfl (fun ls hl => ?_)
  refine lv_aload_n hx hb dX12_findWork_72 rfl (lv_at hl 2 rfl) ?_
  refine k_get (D := D) (ci := 12) (v := .ref h1) (N := 195) hx hb hts hin12 hown hK hP 0 rfl rfl (by decide) f9_12_121 (hts (.fieldLink RX12 304 "IntegerHouseModel" "needed" "[Z") (o9_X12_findWork _ (List.mem_of_getElem? (i := 0) rfl))) e0 dX12_findWork_73 ?_
  refine lv_iload_n hx hb dX12_findWork_76 rfl (lv_at hl 1 rfl) ?_
  refine va_zald hx hb hK hP 1 3 rfl rfl (k_in (by decide)) dX12_findWork_77 ?_
  refine k_topi (y := 0) e17 ?_
  refine lv_if_eq (tgt := 113) hx hb dX12_findWork_78 (by decide) (fun _ => ?_) (fun c9 => absurd (by decide) c9)
  refine lv_iinc (v := 7) (lv' := [(1, .int 7), (2, .int 192), (0, .ref h0)]) hx hb dX12_findWork_113 hl (k := 1) rfl (by decide) (by decide) rfl (fun ls hl => ?_)
  refine lv_goto (tgt := 3) hx hb dX12_findWork_116 (by decide) ?_
  refine lv_iload_n hx hb dX12_findWork_3 rfl (lv_at hl 0 rfl) ?_
  refine lv_if_lt (tgt := 119) hx hb dX12_findWork_4 (by decide) (fun c9 => absurd c9 (by decide)) (fun _ => ?_)
  refine lv_sipush (v := 250) hx hb dX12_findWork_7 (by decide) ?_
  refine lv_iload_n hx hb dX12_findWork_10 rfl (lv_at hl 0 rfl) ?_
  refine lv_imul hx hb dX12_findWork_11 ?_
  refine k_topi (y := 1750) (by decide) ?_
  refine lv_istore_n (lv' := [(2, .int 1750), (1, .int 7), (0, .ref h0)]) hx hb dX12_findWork_12 rfl hl (by decide) rfl (fun ls hl => ?_)
  refine lv_aload_n hx hb dX12_findWork_13 rfl (lv_at hl 2 rfl) ?_
  refine k_get (D := D) (ci := 12) (v := .ref h1) (N := 195) hx hb hts hin12 hown hK hP 0 rfl rfl (by decide) f9_12_121 (hts (.fieldLink RX12 304 "IntegerHouseModel" "needed" "[Z") (o9_X12_findWork _ (List.mem_of_getElem? (i := 0) rfl))) e0 dX12_findWork_14 ?_
  refine lv_iload_n hx hb dX12_findWork_17 rfl (lv_at hl 1 rfl) ?_
  refine va_zald hx hb hK hP 1 3 rfl rfl (k_in (by decide)) dX12_findWork_18 ?_
  refine k_topi (y := 0) e18 ?_
  refine lv_if_eq (tgt := 67) hx hb dX12_findWork_19 (by decide) (fun _ => ?_) (fun c9 => absurd (by decide) c9)
  refine lv_bipush (v := 24) hx hb dX12_findWork_67 (by decide) ?_
  refine lv_iload_n hx hb dX12_findWork_69 rfl (lv_at hl 1 rfl) ?_
  refine lv_imul hx hb dX12_findWork_70 ?_
  refine k_topi (y := 168) (by decide) ?_
  refine lv_istore_n (lv' := [(2, .int 168), (1, .int 7), (0, .ref h0)]) hx hb dX12_findWork_71 rfl hl (by decide) rfl (fun ls hl => ?_)
  refine lv_aload_n hx hb dX12_findWork_72 rfl (lv_at hl 2 rfl) ?_
  refine k_get (D := D) (ci := 12) (v := .ref h1) (N := 195) hx hb hts hin12 hown hK hP 0 rfl rfl (by decide) f9_12_121 (hts (.fieldLink RX12 304 "IntegerHouseModel" "needed" "[Z") (o9_X12_findWork _ (List.mem_of_getElem? (i := 0) rfl))) e0 dX12_findWork_73 ?_
  refine lv_iload_n hx hb dX12_findWork_76 rfl (lv_at hl 1 rfl) ?_
  refine va_zald hx hb hK hP 1 3 rfl rfl (k_in (by decide)) dX12_findWork_77 ?_
  refine k_topi (y := 0) e18 ?_
  refine lv_if_eq (tgt := 113) hx hb dX12_findWork_78 (by decide) (fun _ => ?_) (fun c9 => absurd (by decide) c9)
  refine lv_iinc (v := 6) (lv' := [(1, .int 6), (2, .int 168), (0, .ref h0)]) hx hb dX12_findWork_113 hl (k := 1) rfl (by decide) (by decide) rfl (fun ls hl => ?_)
  refine lv_goto (tgt := 3) hx hb dX12_findWork_116 (by decide) ?_
  refine lv_iload_n hx hb dX12_findWork_3 rfl (lv_at hl 0 rfl) ?_
  refine lv_if_lt (tgt := 119) hx hb dX12_findWork_4 (by decide) (fun c9 => absurd c9 (by decide)) (fun _ => ?_)
  refine lv_sipush (v := 250) hx hb dX12_findWork_7 (by decide) ?_
  refine lv_iload_n hx hb dX12_findWork_10 rfl (lv_at hl 0 rfl) ?_
  refine lv_imul hx hb dX12_findWork_11 ?_
  refine k_topi (y := 1500) (by decide) ?_
  refine lv_istore_n (lv' := [(2, .int 1500), (1, .int 6), (0, .ref h0)]) hx hb dX12_findWork_12 rfl hl (by decide) rfl (fun ls hl => ?_)
  refine lv_aload_n hx hb dX12_findWork_13 rfl (lv_at hl 2 rfl) ?_
  refine k_get (D := D) (ci := 12) (v := .ref h1) (N := 195) hx hb hts hin12 hown hK hP 0 rfl rfl (by decide) f9_12_121 (hts (.fieldLink RX12 304 "IntegerHouseModel" "needed" "[Z") (o9_X12_findWork _ (List.mem_of_getElem? (i := 0) rfl))) e0 dX12_findWork_14 ?_
  refine lv_iload_n hx hb dX12_findWork_17 rfl (lv_at hl 1 rfl) ?_
  refine va_zald hx hb hK hP 1 3 rfl rfl (k_in (by decide)) dX12_findWork_18 ?_
  refine k_topi (y := 0) e19 ?_
  refine lv_if_eq (tgt := 67) hx hb dX12_findWork_19 (by decide) (fun _ => ?_) (fun c9 => absurd (by decide) c9)
  refine lv_bipush (v := 24) hx hb dX12_findWork_67 (by decide) ?_
  refine lv_iload_n hx hb dX12_findWork_69 rfl (lv_at hl 1 rfl) ?_
  refine lv_imul hx hb dX12_findWork_70 ?_
  refine k_topi (y := 144) (by decide) ?_
  refine lv_istore_n (lv' := [(2, .int 144), (1, .int 6), (0, .ref h0)]) hx hb dX12_findWork_71 rfl hl (by decide) rfl (fun ls hl => ?_)
  refine lv_aload_n hx hb dX12_findWork_72 rfl (lv_at hl 2 rfl) ?_
  refine k_get (D := D) (ci := 12) (v := .ref h1) (N := 195) hx hb hts hin12 hown hK hP 0 rfl rfl (by decide) f9_12_121 (hts (.fieldLink RX12 304 "IntegerHouseModel" "needed" "[Z") (o9_X12_findWork _ (List.mem_of_getElem? (i := 0) rfl))) e0 dX12_findWork_73 ?_
  refine lv_iload_n hx hb dX12_findWork_76 rfl (lv_at hl 1 rfl) ?_
  refine va_zald hx hb hK hP 1 3 rfl rfl (k_in (by decide)) dX12_findWork_77 ?_
  refine k_topi (y := 0) e19 ?_
  refine lv_if_eq (tgt := 113) hx hb dX12_findWork_78 (by decide) (fun _ => ?_) (fun c9 => absurd (by decide) c9)
  refine lv_iinc (v := 5) (lv' := [(1, .int 5), (2, .int 144), (0, .ref h0)]) hx hb dX12_findWork_113 hl (k := 1) rfl (by decide) (by decide) rfl (fun ls hl => ?_)
  refine lv_goto (tgt := 3) hx hb dX12_findWork_116 (by decide) ?_
  refine lv_iload_n hx hb dX12_findWork_3 rfl (lv_at hl 0 rfl) ?_
  refine lv_if_lt (tgt := 119) hx hb dX12_findWork_4 (by decide) (fun c9 => absurd c9 (by decide)) (fun _ => ?_)
  refine lv_sipush (v := 250) hx hb dX12_findWork_7 (by decide) ?_
  refine lv_iload_n hx hb dX12_findWork_10 rfl (lv_at hl 0 rfl) ?_
  refine lv_imul hx hb dX12_findWork_11 ?_
  refine k_topi (y := 1250) (by decide) ?_
  refine lv_istore_n (lv' := [(2, .int 1250), (1, .int 5), (0, .ref h0)]) hx hb dX12_findWork_12 rfl hl (by decide) rfl (fun ls hl => ?_)
  refine lv_aload_n hx hb dX12_findWork_13 rfl (lv_at hl 2 rfl) ?_
  refine k_get (D := D) (ci := 12) (v := .ref h1) (N := 195) hx hb hts hin12 hown hK hP 0 rfl rfl (by decide) f9_12_121 (hts (.fieldLink RX12 304 "IntegerHouseModel" "needed" "[Z") (o9_X12_findWork _ (List.mem_of_getElem? (i := 0) rfl))) e0 dX12_findWork_14 ?_
  refine lv_iload_n hx hb dX12_findWork_17 rfl (lv_at hl 1 rfl) ?_
  refine va_zald hx hb hK hP 1 3 rfl rfl (k_in (by decide)) dX12_findWork_18 ?_
  refine k_topi (y := 0) e20 ?_
  refine lv_if_eq (tgt := 67) hx hb dX12_findWork_19 (by decide) (fun _ => ?_) (fun c9 => absurd (by decide) c9)
  refine lv_bipush (v := 24) hx hb dX12_findWork_67 (by decide) ?_
  refine lv_iload_n hx hb dX12_findWork_69 rfl (lv_at hl 1 rfl) ?_
  refine lv_imul hx hb dX12_findWork_70 ?_
  refine k_topi (y := 120) (by decide) ?_
  refine lv_istore_n (lv' := [(2, .int 120), (1, .int 5), (0, .ref h0)]) hx hb dX12_findWork_71 rfl hl (by decide) rfl (fun ls hl => ?_)
  refine lv_aload_n hx hb dX12_findWork_72 rfl (lv_at hl 2 rfl) ?_
  refine k_get (D := D) (ci := 12) (v := .ref h1) (N := 195) hx hb hts hin12 hown hK hP 0 rfl rfl (by decide) f9_12_121 (hts (.fieldLink RX12 304 "IntegerHouseModel" "needed" "[Z") (o9_X12_findWork _ (List.mem_of_getElem? (i := 0) rfl))) e0 dX12_findWork_73 ?_
  refine lv_iload_n hx hb dX12_findWork_76 rfl (lv_at hl 1 rfl) ?_
  refine va_zald hx hb hK hP 1 3 rfl rfl (k_in (by decide)) dX12_findWork_77 ?_
  refine k_topi (y := 0) e20 ?_
  refine lv_if_eq (tgt := 113) hx hb dX12_findWork_78 (by decide) (fun _ => ?_) (fun c9 => absurd (by decide) c9)
  refine lv_iinc (v := 4) (lv' := [(1, .int 4), (2, .int 120), (0, .ref h0)]) hx hb dX12_findWork_113 hl (k := 1) rfl (by decide) (by decide) rfl (fun ls hl => ?_)
  refine lv_goto (tgt := 3) hx hb dX12_findWork_116 (by decide) ?_
  refine lv_iload_n hx hb dX12_findWork_3 rfl (lv_at hl 0 rfl) ?_
  refine lv_if_lt (tgt := 119) hx hb dX12_findWork_4 (by decide) (fun c9 => absurd c9 (by decide)) (fun _ => ?_)
  refine lv_sipush (v := 250) hx hb dX12_findWork_7 (by decide) ?_
  refine lv_iload_n hx hb dX12_findWork_10 rfl (lv_at hl 0 rfl) ?_
  refine lv_imul hx hb dX12_findWork_11 ?_
  refine k_topi (y := 1000) (by decide) ?_
  refine lv_istore_n (lv' := [(2, .int 1000), (1, .int 4), (0, .ref h0)]) hx hb dX12_findWork_12 rfl hl (by decide) rfl (fun ls hl => ?_)
  refine lv_aload_n hx hb dX12_findWork_13 rfl (lv_at hl 2 rfl) ?_
  refine k_get (D := D) (ci := 12) (v := .ref h1) (N := 195) hx hb hts hin12 hown hK hP 0 rfl rfl (by decide) f9_12_121 (hts (.fieldLink RX12 304 "IntegerHouseModel" "needed" "[Z") (o9_X12_findWork _ (List.mem_of_getElem? (i := 0) rfl))) e0 dX12_findWork_14 ?_
  refine lv_iload_n hx hb dX12_findWork_17 rfl (lv_at hl 1 rfl) ?_
  refine va_zald hx hb hK hP 1 3 rfl rfl (k_in (by decide)) dX12_findWork_18 ?_
  refine k_topi (y := 0) e21 ?_
  refine lv_if_eq (tgt := 67) hx hb dX12_findWork_19 (by decide) (fun _ => ?_) (fun c9 => absurd (by decide) c9)
  refine lv_bipush (v := 24) hx hb dX12_findWork_67 (by decide) ?_
  refine lv_iload_n hx hb dX12_findWork_69 rfl (lv_at hl 1 rfl) ?_
  refine lv_imul hx hb dX12_findWork_70 ?_
  refine k_topi (y := 96) (by decide) ?_
  refine lv_istore_n (lv' := [(2, .int 96), (1, .int 4), (0, .ref h0)]) hx hb dX12_findWork_71 rfl hl (by decide) rfl (fun ls hl => ?_)
  refine lv_aload_n hx hb dX12_findWork_72 rfl (lv_at hl 2 rfl) ?_
  refine k_get (D := D) (ci := 12) (v := .ref h1) (N := 195) hx hb hts hin12 hown hK hP 0 rfl rfl (by decide) f9_12_121 (hts (.fieldLink RX12 304 "IntegerHouseModel" "needed" "[Z") (o9_X12_findWork _ (List.mem_of_getElem? (i := 0) rfl))) e0 dX12_findWork_73 ?_
  refine lv_iload_n hx hb dX12_findWork_76 rfl (lv_at hl 1 rfl) ?_
  refine va_zald hx hb hK hP 1 3 rfl rfl (k_in (by decide)) dX12_findWork_77 ?_
  refine k_topi (y := 0) e21 ?_
  refine lv_if_eq (tgt := 113) hx hb dX12_findWork_78 (by decide) (fun _ => ?_) (fun c9 => absurd (by decide) c9)
  refine lv_iinc (v := 3) (lv' := [(1, .int 3), (2, .int 96), (0, .ref h0)]) hx hb dX12_findWork_113 hl (k := 1) rfl (by decide) (by decide) rfl (fun ls hl => ?_)
  refine lv_goto (tgt := 3) hx hb dX12_findWork_116 (by decide) ?_
  refine lv_iload_n hx hb dX12_findWork_3 rfl (lv_at hl 0 rfl) ?_
  refine lv_if_lt (tgt := 119) hx hb dX12_findWork_4 (by decide) (fun c9 => absurd c9 (by decide)) (fun _ => ?_)
  refine lv_sipush (v := 250) hx hb dX12_findWork_7 (by decide) ?_
  refine lv_iload_n hx hb dX12_findWork_10 rfl (lv_at hl 0 rfl) ?_
  refine lv_imul hx hb dX12_findWork_11 ?_
  refine k_topi (y := 750) (by decide) ?_
  refine lv_istore_n (lv' := [(2, .int 750), (1, .int 3), (0, .ref h0)]) hx hb dX12_findWork_12 rfl hl (by decide) rfl (fun ls hl => ?_)
  refine lv_aload_n hx hb dX12_findWork_13 rfl (lv_at hl 2 rfl) ?_
  refine k_get (D := D) (ci := 12) (v := .ref h1) (N := 195) hx hb hts hin12 hown hK hP 0 rfl rfl (by decide) f9_12_121 (hts (.fieldLink RX12 304 "IntegerHouseModel" "needed" "[Z") (o9_X12_findWork _ (List.mem_of_getElem? (i := 0) rfl))) e0 dX12_findWork_14 ?_
  refine lv_iload_n hx hb dX12_findWork_17 rfl (lv_at hl 1 rfl) ?_
  refine va_zald hx hb hK hP 1 3 rfl rfl (k_in (by decide)) dX12_findWork_18 ?_
  refine k_topi (y := 0) e22 ?_
  refine lv_if_eq (tgt := 67) hx hb dX12_findWork_19 (by decide) (fun _ => ?_) (fun c9 => absurd (by decide) c9)
  refine lv_bipush (v := 24) hx hb dX12_findWork_67 (by decide) ?_
  refine lv_iload_n hx hb dX12_findWork_69 rfl (lv_at hl 1 rfl) ?_
  refine lv_imul hx hb dX12_findWork_70 ?_
  refine k_topi (y := 72) (by decide) ?_
  refine lv_istore_n (lv' := [(2, .int 72), (1, .int 3), (0, .ref h0)]) hx hb dX12_findWork_71 rfl hl (by decide) rfl (fun ls hl => ?_)
  refine lv_aload_n hx hb dX12_findWork_72 rfl (lv_at hl 2 rfl) ?_
  refine k_get (D := D) (ci := 12) (v := .ref h1) (N := 195) hx hb hts hin12 hown hK hP 0 rfl rfl (by decide) f9_12_121 (hts (.fieldLink RX12 304 "IntegerHouseModel" "needed" "[Z") (o9_X12_findWork _ (List.mem_of_getElem? (i := 0) rfl))) e0 dX12_findWork_73 ?_
  refine lv_iload_n hx hb dX12_findWork_76 rfl (lv_at hl 1 rfl) ?_
  refine va_zald hx hb hK hP 1 3 rfl rfl (k_in (by decide)) dX12_findWork_77 ?_
  refine k_topi (y := 0) e22 ?_
  refine lv_if_eq (tgt := 113) hx hb dX12_findWork_78 (by decide) (fun _ => ?_) (fun c9 => absurd (by decide) c9)
  refine lv_iinc (v := 2) (lv' := [(1, .int 2), (2, .int 72), (0, .ref h0)]) hx hb dX12_findWork_113 hl (k := 1) rfl (by decide) (by decide) rfl (fun ls hl => ?_)
  refine lv_goto (tgt := 3) hx hb dX12_findWork_116 (by decide) ?_
  refine lv_iload_n hx hb dX12_findWork_3 rfl (lv_at hl 0 rfl) ?_
  refine lv_if_lt (tgt := 119) hx hb dX12_findWork_4 (by decide) (fun c9 => absurd c9 (by decide)) (fun _ => ?_)
  refine lv_sipush (v := 250) hx hb dX12_findWork_7 (by decide) ?_
  refine lv_iload_n hx hb dX12_findWork_10 rfl (lv_at hl 0 rfl) ?_
  refine lv_imul hx hb dX12_findWork_11 ?_
  refine k_topi (y := 500) (by decide) ?_
  refine lv_istore_n (lv' := [(2, .int 500), (1, .int 2), (0, .ref h0)]) hx hb dX12_findWork_12 rfl hl (by decide) rfl (fun ls hl => ?_)
  refine lv_aload_n hx hb dX12_findWork_13 rfl (lv_at hl 2 rfl) ?_
  refine k_get (D := D) (ci := 12) (v := .ref h1) (N := 195) hx hb hts hin12 hown hK hP 0 rfl rfl (by decide) f9_12_121 (hts (.fieldLink RX12 304 "IntegerHouseModel" "needed" "[Z") (o9_X12_findWork _ (List.mem_of_getElem? (i := 0) rfl))) e0 dX12_findWork_14 ?_
  refine lv_iload_n hx hb dX12_findWork_17 rfl (lv_at hl 1 rfl) ?_
  refine va_zald hx hb hK hP 1 3 rfl rfl (k_in (by decide)) dX12_findWork_18 ?_
  refine k_topi (y := 0) e23 ?_
  refine lv_if_eq (tgt := 67) hx hb dX12_findWork_19 (by decide) (fun _ => ?_) (fun c9 => absurd (by decide) c9)
  refine lv_bipush (v := 24) hx hb dX12_findWork_67 (by decide) ?_
  refine lv_iload_n hx hb dX12_findWork_69 rfl (lv_at hl 1 rfl) ?_
  refine lv_imul hx hb dX12_findWork_70 ?_
  refine k_topi (y := 48) (by decide) ?_
  refine lv_istore_n (lv' := [(2, .int 48), (1, .int 2), (0, .ref h0)]) hx hb dX12_findWork_71 rfl hl (by decide) rfl (fun ls hl => ?_)
  refine lv_aload_n hx hb dX12_findWork_72 rfl (lv_at hl 2 rfl) ?_
  refine k_get (D := D) (ci := 12) (v := .ref h1) (N := 195) hx hb hts hin12 hown hK hP 0 rfl rfl (by decide) f9_12_121 (hts (.fieldLink RX12 304 "IntegerHouseModel" "needed" "[Z") (o9_X12_findWork _ (List.mem_of_getElem? (i := 0) rfl))) e0 dX12_findWork_73 ?_
  refine lv_iload_n hx hb dX12_findWork_76 rfl (lv_at hl 1 rfl) ?_
  refine va_zald hx hb hK hP 1 3 rfl rfl (k_in (by decide)) dX12_findWork_77 ?_
  refine k_topi (y := 0) e23 ?_
  refine lv_if_eq (tgt := 113) hx hb dX12_findWork_78 (by decide) (fun _ => ?_) (fun c9 => absurd (by decide) c9)
  refine lv_iinc (v := 1) (lv' := [(1, .int 1), (2, .int 48), (0, .ref h0)]) hx hb dX12_findWork_113 hl (k := 1) rfl (by decide) (by decide) rfl (fun ls hl => ?_)
  refine lv_goto (tgt := 3) hx hb dX12_findWork_116 (by decide) ?_
  refine lv_iload_n hx hb dX12_findWork_3 rfl (lv_at hl 0 rfl) ?_
  refine lv_if_lt (tgt := 119) hx hb dX12_findWork_4 (by decide) (fun c9 => absurd c9 (by decide)) (fun _ => ?_)
  refine lv_sipush (v := 250) hx hb dX12_findWork_7 (by decide) ?_
  refine lv_iload_n hx hb dX12_findWork_10 rfl (lv_at hl 0 rfl) ?_
  refine lv_imul hx hb dX12_findWork_11 ?_
  refine k_topi (y := 250) (by decide) ?_
  refine lv_istore_n (lv' := [(2, .int 250), (1, .int 1), (0, .ref h0)]) hx hb dX12_findWork_12 rfl hl (by decide) rfl (fun ls hl => ?_)
  refine lv_aload_n hx hb dX12_findWork_13 rfl (lv_at hl 2 rfl) ?_
  refine k_get (D := D) (ci := 12) (v := .ref h1) (N := 195) hx hb hts hin12 hown hK hP 0 rfl rfl (by decide) f9_12_121 (hts (.fieldLink RX12 304 "IntegerHouseModel" "needed" "[Z") (o9_X12_findWork _ (List.mem_of_getElem? (i := 0) rfl))) e0 dX12_findWork_14 ?_
  refine lv_iload_n hx hb dX12_findWork_17 rfl (lv_at hl 1 rfl) ?_
  refine va_zald hx hb hK hP 1 3 rfl rfl (k_in (by decide)) dX12_findWork_18 ?_
  refine k_topi (y := 0) e24 ?_
  refine lv_if_eq (tgt := 67) hx hb dX12_findWork_19 (by decide) (fun _ => ?_) (fun c9 => absurd (by decide) c9)
  refine lv_bipush (v := 24) hx hb dX12_findWork_67 (by decide) ?_
  refine lv_iload_n hx hb dX12_findWork_69 rfl (lv_at hl 1 rfl) ?_
  refine lv_imul hx hb dX12_findWork_70 ?_
  refine k_topi (y := 24) (by decide) ?_
  refine lv_istore_n (lv' := [(2, .int 24), (1, .int 1), (0, .ref h0)]) hx hb dX12_findWork_71 rfl hl (by decide) rfl (fun ls hl => ?_)
  refine lv_aload_n hx hb dX12_findWork_72 rfl (lv_at hl 2 rfl) ?_
  refine k_get (D := D) (ci := 12) (v := .ref h1) (N := 195) hx hb hts hin12 hown hK hP 0 rfl rfl (by decide) f9_12_121 (hts (.fieldLink RX12 304 "IntegerHouseModel" "needed" "[Z") (o9_X12_findWork _ (List.mem_of_getElem? (i := 0) rfl))) e0 dX12_findWork_73 ?_
  refine lv_iload_n hx hb dX12_findWork_76 rfl (lv_at hl 1 rfl) ?_
  refine va_zald hx hb hK hP 1 3 rfl rfl (k_in (by decide)) dX12_findWork_77 ?_
  refine k_topi (y := 0) e24 ?_
  refine lv_if_eq (tgt := 113) hx hb dX12_findWork_78 (by decide) (fun _ => ?_) (fun c9 => absurd (by decide) c9)
  refine lv_iinc (v := 0) (lv' := [(1, .int 0), (2, .int 24), (0, .ref h0)]) hx hb dX12_findWork_113 hl (k := 1) rfl (by decide) (by decide) rfl (fun ls hl => ?_)
  refine lv_goto (tgt := 3) hx hb dX12_findWork_116 (by decide) ?_
  refine lv_iload_n hx hb dX12_findWork_3 rfl (lv_at hl 0 rfl) ?_
  refine lv_if_lt (tgt := 119) hx hb dX12_findWork_4 (by decide) (fun c9 => absurd c9 (by decide)) (fun _ => ?_)
  refine lv_sipush (v := 250) hx hb dX12_findWork_7 (by decide) ?_
  refine lv_iload_n hx hb dX12_findWork_10 rfl (lv_at hl 0 rfl) ?_
  refine lv_imul hx hb dX12_findWork_11 ?_
  refine k_topi (y := 0) (by decide) ?_
  refine lv_istore_n (lv' := [(2, .int 0), (1, .int 0), (0, .ref h0)]) hx hb dX12_findWork_12 rfl hl (by decide) rfl (fun ls hl => ?_)
  refine lv_aload_n hx hb dX12_findWork_13 rfl (lv_at hl 2 rfl) ?_
  refine k_get (D := D) (ci := 12) (v := .ref h1) (N := 195) hx hb hts hin12 hown hK hP 0 rfl rfl (by decide) f9_12_121 (hts (.fieldLink RX12 304 "IntegerHouseModel" "needed" "[Z") (o9_X12_findWork _ (List.mem_of_getElem? (i := 0) rfl))) e0 dX12_findWork_14 ?_
  refine lv_iload_n hx hb dX12_findWork_17 rfl (lv_at hl 1 rfl) ?_
  refine va_zald hx hb hK hP 1 3 rfl rfl (k_in (by decide)) dX12_findWork_18 ?_
  refine k_topi (y := 0) e25 ?_
  refine lv_if_eq (tgt := 67) hx hb dX12_findWork_19 (by decide) (fun _ => ?_) (fun c9 => absurd (by decide) c9)
  refine lv_bipush (v := 24) hx hb dX12_findWork_67 (by decide) ?_
  refine lv_iload_n hx hb dX12_findWork_69 rfl (lv_at hl 1 rfl) ?_
  refine lv_imul hx hb dX12_findWork_70 ?_
  refine k_topi (y := 0) (by decide) ?_
  refine lv_istore_n (lv' := [(2, .int 0), (1, .int 0), (0, .ref h0)]) hx hb dX12_findWork_71 rfl hl (by decide) rfl (fun ls hl => ?_)
  refine lv_aload_n hx hb dX12_findWork_72 rfl (lv_at hl 2 rfl) ?_
  refine k_get (D := D) (ci := 12) (v := .ref h1) (N := 195) hx hb hts hin12 hown hK hP 0 rfl rfl (by decide) f9_12_121 (hts (.fieldLink RX12 304 "IntegerHouseModel" "needed" "[Z") (o9_X12_findWork _ (List.mem_of_getElem? (i := 0) rfl))) e0 dX12_findWork_73 ?_
  refine lv_iload_n hx hb dX12_findWork_76 rfl (lv_at hl 1 rfl) ?_
  refine va_zald hx hb hK hP 1 3 rfl rfl (k_in (by decide)) dX12_findWork_77 ?_
  refine k_topi (y := 0) e25 ?_
  refine lv_if_eq (tgt := 113) hx hb dX12_findWork_78 (by decide) (fun _ => ?_) (fun c9 => absurd (by decide) c9)
  refine lv_iinc (v := (-1)) (lv' := [(1, .int (-1)), (2, .int 0), (0, .ref h0)]) hx hb dX12_findWork_113 hl (k := 1) rfl (by decide) (by decide) rfl (fun ls hl => ?_)
  refine lv_goto (tgt := 3) hx hb dX12_findWork_116 (by decide) ?_
  refine lv_iload_n hx hb dX12_findWork_3 rfl (lv_at hl 0 rfl) ?_
  refine lv_if_lt (tgt := 119) hx hb dX12_findWork_4 (by decide) (fun _ => ?_) (fun c9 => absurd (by decide) c9)
  exact W.vret hx hb hr (fun t ht hW => ⟨⟨(), rfl, trivial, kB_mk ht hW hP hK hD⟩, hS.F ht⟩) hS.2.2 dX12_findWork_119
