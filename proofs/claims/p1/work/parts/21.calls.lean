theorem dX1_recordAct_0 : decode cX1_recordAct 0 = .ok (.aload_n 0, 1) := by decide +kernel
theorem dX1_recordAct_1 : decode cX1_recordAct 1 = .ok (.iload_n 1, 1) := by decide +kernel
theorem dX1_recordAct_2 : decode cX1_recordAct 2 = .ok (.invokevirtual 50, 3) := by decide +kernel
theorem dX1_recordAct_5 : decode cX1_recordAct 5 = .ok (.return_, 1) := by decide +kernel
theorem dX2_addLayer_0 : decode cX2_addLayer 0 = .ok (.aload_n 0, 1) := by decide +kernel
theorem dX2_addLayer_1 : decode cX2_addLayer 1 = .ok (.getfield 48, 3) := by decide +kernel
theorem dX2_addLayer_4 : decode cX2_addLayer 4 = .ok (.ifCond .lt 12, 3) := by decide +kernel
theorem dX2_addLayer_7 : decode cX2_addLayer 7 = .ok (.aload_n 0, 1) := by decide +kernel
theorem dX2_addLayer_8 : decode cX2_addLayer 8 = .ok (.getfield 48, 3) := by decide +kernel
theorem dX2_addLayer_11 : decode cX2_addLayer 11 = .ok (.bipush 8, 2) := by decide +kernel
theorem dX2_addLayer_13 : decode cX2_addLayer 13 = .ok (.if_icmp .lt 5, 3) := by decide +kernel
theorem dX2_addLayer_18 : decode cX2_addLayer 18 = .ok (.aload_n 0, 1) := by decide +kernel
theorem dX2_addLayer_19 : decode cX2_addLayer 19 = .ok (.getfield 48, 3) := by decide +kernel
theorem dX2_addLayer_22 : decode cX2_addLayer 22 = .ok (.iconst 4, 1) := by decide +kernel
theorem dX2_addLayer_23 : decode cX2_addLayer 23 = .ok (.imul, 1) := by decide +kernel
theorem dX2_addLayer_24 : decode cX2_addLayer 24 = .ok (.istore_n 1, 1) := by decide +kernel
theorem dX2_addLayer_25 : decode cX2_addLayer 25 = .ok (.aload_n 0, 1) := by decide +kernel
theorem dX2_addLayer_26 : decode cX2_addLayer 26 = .ok (.getfield 37, 3) := by decide +kernel
theorem dX2_addLayer_29 : decode cX2_addLayer 29 = .ok (.iload_n 1, 1) := by decide +kernel
theorem dX2_addLayer_30 : decode cX2_addLayer 30 = .ok (.aload_n 0, 1) := by decide +kernel
theorem dX2_addLayer_31 : decode cX2_addLayer 31 = .ok (.getfield 52, 3) := by decide +kernel
theorem dX2_addLayer_34 : decode cX2_addLayer 34 = .ok (.iastore, 1) := by decide +kernel
theorem dX2_addLayer_35 : decode cX2_addLayer 35 = .ok (.aload_n 0, 1) := by decide +kernel
theorem dX2_addLayer_36 : decode cX2_addLayer 36 = .ok (.getfield 37, 3) := by decide +kernel
theorem dX2_addLayer_39 : decode cX2_addLayer 39 = .ok (.iload_n 1, 1) := by decide +kernel
theorem dX2_addLayer_40 : decode cX2_addLayer 40 = .ok (.iconst 1, 1) := by decide +kernel
theorem dX2_addLayer_41 : decode cX2_addLayer 41 = .ok (.iadd, 1) := by decide +kernel
theorem dX2_addLayer_42 : decode cX2_addLayer 42 = .ok (.aload_n 0, 1) := by decide +kernel
theorem dX2_addLayer_43 : decode cX2_addLayer 43 = .ok (.getfield 55, 3) := by decide +kernel
theorem dX2_addLayer_46 : decode cX2_addLayer 46 = .ok (.iastore, 1) := by decide +kernel
theorem dX2_addLayer_47 : decode cX2_addLayer 47 = .ok (.aload_n 0, 1) := by decide +kernel
theorem dX2_addLayer_48 : decode cX2_addLayer 48 = .ok (.getfield 37, 3) := by decide +kernel
theorem dX2_addLayer_51 : decode cX2_addLayer 51 = .ok (.iload_n 1, 1) := by decide +kernel
theorem dX2_addLayer_52 : decode cX2_addLayer 52 = .ok (.iconst 2, 1) := by decide +kernel
theorem dX2_addLayer_53 : decode cX2_addLayer 53 = .ok (.iadd, 1) := by decide +kernel
theorem dX2_addLayer_54 : decode cX2_addLayer 54 = .ok (.aload_n 0, 1) := by decide +kernel
theorem dX2_addLayer_55 : decode cX2_addLayer 55 = .ok (.getfield 58, 3) := by decide +kernel
theorem dX2_addLayer_58 : decode cX2_addLayer 58 = .ok (.iastore, 1) := by decide +kernel
theorem dX2_addLayer_59 : decode cX2_addLayer 59 = .ok (.aload_n 0, 1) := by decide +kernel
theorem dX2_addLayer_60 : decode cX2_addLayer 60 = .ok (.getfield 37, 3) := by decide +kernel
theorem dX2_addLayer_63 : decode cX2_addLayer 63 = .ok (.iload_n 1, 1) := by decide +kernel
theorem dX2_addLayer_64 : decode cX2_addLayer 64 = .ok (.iconst 3, 1) := by decide +kernel
theorem dX2_addLayer_65 : decode cX2_addLayer 65 = .ok (.iadd, 1) := by decide +kernel
theorem dX2_addLayer_66 : decode cX2_addLayer 66 = .ok (.aload_n 0, 1) := by decide +kernel
theorem dX2_addLayer_67 : decode cX2_addLayer 67 = .ok (.getfield 61, 3) := by decide +kernel
theorem dX2_addLayer_70 : decode cX2_addLayer 70 = .ok (.iastore, 1) := by decide +kernel
theorem dX2_addLayer_71 : decode cX2_addLayer 71 = .ok (.aload_n 0, 1) := by decide +kernel
theorem dX2_addLayer_72 : decode cX2_addLayer 72 = .ok (.dup, 1) := by decide +kernel
theorem dX2_addLayer_73 : decode cX2_addLayer 73 = .ok (.getfield 48, 3) := by decide +kernel
theorem dX2_addLayer_76 : decode cX2_addLayer 76 = .ok (.iconst 1, 1) := by decide +kernel
theorem dX2_addLayer_77 : decode cX2_addLayer 77 = .ok (.iadd, 1) := by decide +kernel
theorem dX2_addLayer_78 : decode cX2_addLayer 78 = .ok (.putfield 48, 3) := by decide +kernel
theorem dX2_addLayer_81 : decode cX2_addLayer 81 = .ok (.iconst 1, 1) := by decide +kernel
theorem dX2_addLayer_82 : decode cX2_addLayer 82 = .ok (.ireturn, 1) := by decide +kernel
theorem dX11_push_0 : decode cX11_push 0 = .ok (.aload_n 0, 1) := by decide +kernel
theorem dX11_push_1 : decode cX11_push 1 = .ok (.getfield 16, 3) := by decide +kernel
theorem dX11_push_4 : decode cX11_push 4 = .ok (.getfield 122, 3) := by decide +kernel
theorem dX11_push_7 : decode cX11_push 7 = .ok (.ifCond .eq 6, 3) := by decide +kernel
theorem dX11_push_13 : decode cX11_push 13 = .ok (.aload_n 0, 1) := by decide +kernel
theorem dX11_push_14 : decode cX11_push 14 = .ok (.getfield 23, 3) := by decide +kernel
theorem dX11_push_17 : decode cX11_push 17 = .ok (.getfield 221, 3) := by decide +kernel
theorem dX11_push_20 : decode cX11_push 20 = .ok (.bipush 8, 2) := by decide +kernel
theorem dX11_push_22 : decode cX11_push 22 = .ok (.if_icmp .ge 14, 3) := by decide +kernel
theorem dX11_push_25 : decode cX11_push 25 = .ok (.aload_n 0, 1) := by decide +kernel
theorem dX11_push_26 : decode cX11_push 26 = .ok (.getfield 16, 3) := by decide +kernel
theorem dX11_push_29 : decode cX11_push 29 = .ok (.iconst 1, 1) := by decide +kernel
theorem dX11_push_30 : decode cX11_push 30 = .ok (.invokevirtual 239, 3) := by decide +kernel
theorem dX11_push_33 : decode cX11_push 33 = .ok (.ifCond .ne 6, 3) := by decide +kernel
theorem dX11_push_39 : decode cX11_push 39 = .ok (.aload_n 0, 1) := by decide +kernel
theorem dX11_push_40 : decode cX11_push 40 = .ok (.getfield 23, 3) := by decide +kernel
theorem dX11_push_43 : decode cX11_push 43 = .ok (.invokevirtual 184, 3) := by decide +kernel
theorem dX11_push_46 : decode cX11_push 46 = .ok (.pop, 1) := by decide +kernel
theorem dX11_push_47 : decode cX11_push 47 = .ok (.aload_n 0, 1) := by decide +kernel
theorem dX11_push_48 : decode cX11_push 48 = .ok (.getfield 16, 3) := by decide +kernel
theorem dX11_push_51 : decode cX11_push 51 = .ok (.iconst 3, 1) := by decide +kernel
theorem dX11_push_52 : decode cX11_push 52 = .ok (.invokevirtual 263, 3) := by decide +kernel
theorem dX11_push_55 : decode cX11_push 55 = .ok (.aload_n 0, 1) := by decide +kernel
theorem dX11_push_56 : decode cX11_push 56 = .ok (.dup, 1) := by decide +kernel
theorem dX11_push_57 : decode cX11_push 57 = .ok (.getfield 137, 3) := by decide +kernel
theorem dX11_push_60 : decode cX11_push 60 = .ok (.iconst 1, 1) := by decide +kernel
theorem dX11_push_61 : decode cX11_push 61 = .ok (.iadd, 1) := by decide +kernel
theorem dX11_push_62 : decode cX11_push 62 = .ok (.putfield 137, 3) := by decide +kernel
theorem dX11_push_65 : decode cX11_push 65 = .ok (.aload_n 0, 1) := by decide +kernel
theorem dX11_push_66 : decode cX11_push 66 = .ok (.getfield 23, 3) := by decide +kernel
theorem dX11_push_69 : decode cX11_push 69 = .ok (.getfield 221, 3) := by decide +kernel
theorem dX11_push_72 : decode cX11_push 72 = .ok (.ireturn, 1) := by decide +kernel
theorem dX12_full_33 : decode cX12_full 33 = .ok (.iconst 0, 1) := by decide +kernel
theorem dX12_act_42 : decode cX12_act 42 = .ok (.aload_n 0, 1) := by decide +kernel
theorem dX12_act_43 : decode cX12_act 43 = .ok (.invokevirtual 830, 3) := by decide +kernel
theorem dX12_act_46 : decode cX12_act 46 = .ok (.ireturn, 1) := by decide +kernel
theorem dX12_layer_0 : decode cX12_layer 0 = .ok (.aload_n 0, 1) := by decide +kernel
theorem dX12_layer_1 : decode cX12_layer 1 = .ok (.getfield 821, 3) := by decide +kernel
theorem dX12_layer_4 : decode cX12_layer 4 = .ok (.bipush 8, 2) := by decide +kernel
theorem dX12_layer_6 : decode cX12_layer 6 = .ok (.if_icmp .eq 10, 3) := by decide +kernel
theorem dX12_layer_9 : decode cX12_layer 9 = .ok (.aload_n 0, 1) := by decide +kernel
theorem dX12_layer_10 : decode cX12_layer 10 = .ok (.invokevirtual 865, 3) := by decide +kernel
theorem dX12_layer_13 : decode cX12_layer 13 = .ok (.ifCond .eq 10, 3) := by decide +kernel
theorem dX12_layer_23 : decode cX12_layer 23 = .ok (.aload_n 0, 1) := by decide +kernel
theorem dX12_layer_24 : decode cX12_layer 24 = .ok (.getfield 271, 3) := by decide +kernel
theorem dX12_layer_27 : decode cX12_layer 27 = .ok (.aload_n 0, 1) := by decide +kernel
theorem dX12_layer_28 : decode cX12_layer 28 = .ok (.getfield 821, 3) := by decide +kernel
theorem dX12_layer_31 : decode cX12_layer 31 = .ok (.aload_n 0, 1) := by decide +kernel
theorem dX12_layer_32 : decode cX12_layer 32 = .ok (.getfield 815, 3) := by decide +kernel
theorem dX12_layer_35 : decode cX12_layer 35 = .ok (.iastore, 1) := by decide +kernel
theorem dX12_layer_36 : decode cX12_layer 36 = .ok (.aload_n 0, 1) := by decide +kernel
theorem dX12_layer_37 : decode cX12_layer 37 = .ok (.getfield 274, 3) := by decide +kernel
theorem dX12_layer_40 : decode cX12_layer 40 = .ok (.aload_n 0, 1) := by decide +kernel
theorem dX12_layer_41 : decode cX12_layer 41 = .ok (.getfield 821, 3) := by decide +kernel
theorem dX12_layer_44 : decode cX12_layer 44 = .ok (.aload_n 0, 1) := by decide +kernel
theorem dX12_layer_45 : decode cX12_layer 45 = .ok (.getfield 818, 3) := by decide +kernel
theorem dX12_layer_48 : decode cX12_layer 48 = .ok (.iastore, 1) := by decide +kernel
theorem dX12_layer_49 : decode cX12_layer 49 = .ok (.iconst 0, 1) := by decide +kernel
theorem dX12_layer_50 : decode cX12_layer 50 = .ok (.istore_n 1, 1) := by decide +kernel
theorem dX12_layer_51 : decode cX12_layer 51 = .ok (.iload_n 1, 1) := by decide +kernel
theorem dX12_layer_52 : decode cX12_layer 52 = .ok (.aload_n 0, 1) := by decide +kernel
theorem dX12_layer_53 : decode cX12_layer 53 = .ok (.getfield 818, 3) := by decide +kernel
theorem dX12_layer_56 : decode cX12_layer 56 = .ok (.if_icmp .ge 29, 3) := by decide +kernel
theorem dX12_layer_85 : decode cX12_layer 85 = .ok (.aload_n 0, 1) := by decide +kernel
theorem dX12_layer_86 : decode cX12_layer 86 = .ok (.dup, 1) := by decide +kernel
theorem dX12_layer_87 : decode cX12_layer 87 = .ok (.getfield 821, 3) := by decide +kernel
theorem dX12_layer_90 : decode cX12_layer 90 = .ok (.iconst 1, 1) := by decide +kernel
theorem dX12_layer_91 : decode cX12_layer 91 = .ok (.iadd, 1) := by decide +kernel
theorem dX12_layer_92 : decode cX12_layer 92 = .ok (.putfield 821, 3) := by decide +kernel
theorem dX12_layer_95 : decode cX12_layer 95 = .ok (.aload_n 0, 1) := by decide +kernel
theorem dX12_layer_96 : decode cX12_layer 96 = .ok (.getfield 821, 3) := by decide +kernel
theorem dX12_layer_99 : decode cX12_layer 99 = .ok (.ireturn, 1) := by decide +kernel
theorem dX12_push_0 : decode cX12_push 0 = .ok (.aload_n 0, 1) := by decide +kernel
theorem dX12_push_1 : decode cX12_push 1 = .ok (.iconst 3, 1) := by decide +kernel
theorem dX12_push_2 : decode cX12_push 2 = .ok (.invokevirtual 868, 3) := by decide +kernel
theorem dX12_push_5 : decode cX12_push 5 = .ok (.ireturn, 1) := by decide +kernel
set_option maxHeartbeats 400000000 in
set_option maxRecDepth 100000 in
theorem c_X11_on_3 (l : Launch) (E : kE) (D : va_G) (cI cJ cB cZ : ClassId) (h0 : Nat) (x0 : Int32) (f0 : List Value) (h1 : Nat) (f1 : List Value) (h2 : Nat) (f2 : List Value) (e0 : f0[1]? = some (.ref h1)) (e1 : f1[8]? = some (.int 0)) (e2 : f0[2]? = some (.ref h2)) (e3 : (x0 : Int32) < 0) : kI l E D (kT cI cJ cB cZ) yX11_on vW_X11_on ({ frames := 1, cells := 0, slots := 0, locals := 21 }) [.ref h0, .int x0, .int 1] [(h0, .inr (11, f0)), (h1, .inr (1, f1)), (h2, .inr (2, f2))] ((-101)) [(h0, .inr (11, f0)), (h1, .inr (1, f1)), (h2, .inr (2, f2))] 0 0 := by
  intro sz
  refine Met.ofW (cc := cX11_on) (maxL := 4) (ret := (some .int)) (by decide) rfl ?_
  intro p e s m args below meth c s₁ B hml hv
  obtain ⟨rfl, hsz, hP, hK, hD0, hN, hX⟩ := hv
  have hx := B.exec
  have hb := B.bytes
  have hr := B.returns
  have hts := atoms_spec (ws := vW_X11_on) B.pre
  have hown : s.vm.findClass RX11 = some m.cls := findClass_of_methodNamed B.named
  have hlocks := B.notSynchronized
  have hin11 : ∀ w ∈ wsX110, w ∈ vW_X11_on := u9_X11_on_wsX110
  have hin1 : ∀ w ∈ wsX10, w ∈ vW_X11_on := u9_X11_on_wsX10
  subst hsz
  have hD := hD0.self (sz := s.heap.size)
  have hAE := k_AE hD0 hX
  generalize hAe : va_A [(h0, .inr (11, f0)), (h1, .inr (1, f1)), (h2, .inr (2, f2))] s.heap.size = A at hD hAE ⊢
  have hA : ∀ q : Nat, s.heap.size ≤ q → A q := fun q h => by rw [← hAe]; exact Or.inr h
  have hS : va_S A s.heap s.heap [] := va_S.rf
  have hP : va_P D vwCl [(h0, .inr (11, f0)), (h1, .inr (1, f1)), (h2, .inr (2, f2))] s.heap := hP
  have hl := lv_entry ([.ref h0, .int x0, .int 1] : List Value) (n := 4) (Nat.le_of_ble_eq_true rfl)
  rw [lg_entry_eq]
  generalize (lg_sl ([.ref h0, .int x0, .int 1]) ++ List.replicate (4 - (lg_sl ([.ref h0, .int x0, .int 1])).length) Slot.unset).toArray = ls at hl ⊢
  have hl : lv_has ls 4 [(0, .ref h0), (1, .int x0), (2, .int 1)] := hl
  refine lv_aload_n hx hb dX11_on_0 rfl (lv_at hl 0 rfl) ?_
  refine k_get (D := D) (ci := 11) (v := .ref h1) (N := 15) hx hb hts hin11 hown hK hP 0 rfl rfl (by decide) f9_11_1 (hts (.fieldLink RX11 16 "IntegerHouse" "disk" "LIntegerHouse$Disk;") (o9_X11_on _ (List.mem_of_getElem? (i := 0) rfl))) e0 dX11_on_1 ?_
  refine k_getN (host := "IntegerHouse") (D := D) (ci := 1) (v := .int 0) (N := 9) hx hb hts hin1 hown hK hP 1 rfl rfl (by decide) f9_1_8 (va_Nw.use rfl (hN.1 ("IntegerHouse", 122, "IntegerHouse$Disk", "down", "Z", "IntegerHouse") (List.mem_of_getElem? (i := 3) rfl))) e1 dX11_on_4 ?_
  refine lv_if_eq (tgt := 13) hx hb dX11_on_7 (by decide) (fun _ => ?_) (fun c9 => absurd (by decide) c9)
  refine lv_aload_n hx hb dX11_on_13 rfl (lv_at hl 0 rfl) ?_
  refine k_get (D := D) (ci := 11) (v := .ref h2) (N := 15) hx hb hts hin11 hown hK hP 0 rfl rfl (by decide) f9_11_2 (hts (.fieldLink RX11 23 "IntegerHouse" "house" "LIntegerHouse$House;") (o9_X11_on _ (List.mem_of_getElem? (i := 1) rfl))) e2 dX11_on_14 ?_
  refine lv_iload_n hx hb dX11_on_17 rfl (lv_at hl 1 rfl) ?_
  refine k_cVi (As := [.int x0]) (rest := []) (wc := [(h2, .inr (2, f2))]) (wr := [(h0, .inr (11, f0)), (h1, .inr (1, f1))]) (w1 := [(h2, .inr (2, f2))]) ⟨hx, hb, hml, hown, hts⟩ hN hX hAE hK hP hD hS hA [2] [0, 1] (ci := 2) rfl rfl rfl rfl (by decide +kernel) (by decide +kernel) (by decide +kernel) (c_X2_isClaim_1 l E D cI cJ cB cZ h2 x0 f2 e3) (cwV 1 hts g9_X11_on_X2_isClaim_176 rfl rfl rfl (by decide +kernel) ⟨Nat.le_of_ble_eq_true rfl, Nat.le_of_ble_eq_true rfl⟩) rfl hl.1 (Nat.le_of_ble_eq_true rfl) dX11_on_18 ⟨Nat.le_of_ble_eq_true rfl, Nat.le_of_ble_eq_true rfl⟩ (fun H locs hP hD hS => ?_)
  have hP : va_P D vwCl [(h0, .inr (11, f0)), (h1, .inr (1, f1)), (h2, .inr (2, f2))] H := hP
  have hD : va_D A [(h0, .inr (11, f0)), (h1, .inr (1, f1)), (h2, .inr (2, f2))] := hD
  refine lv_if_ne (tgt := 27) hx hb dX11_on_21 (by decide) (fun c9 => absurd (by decide) c9) (fun _ => ?_)
  refine lv_bipush (v := (-101)) hx hb dX11_on_24 (by decide) ?_
  exact W.iret (v := (-101)) hx hb hr (fun t ht hW => ⟨⟨(-101), (), rfl, rfl, kB_mk ht hW hP hK hD⟩, hS.F ht⟩) hS.2.2 dX11_on_26
set_option maxHeartbeats 400000000 in
set_option maxRecDepth 100000 in
theorem c_X12_on_3 (l : Launch) (E : kE) (D : va_G) (cI cJ cB cZ : ClassId) (h0 : Nat) (x0 : Int32) (f0 : List Value) (h1 : Nat) (g0 : Nat → Int32) (e0 : f0[10]? = some (.ref h1)) (e1 : f0[0]? = some (.int 0)) (e2 : f0[5]? = some (.int 0)) (e3 : f0[15]? = some (.int 0)) (e4 : f0[13]? = some (.int 0)) (e5 : f0[14]? = some (.int 0)) (e6 : f0[33]? = some (.int 0)) (e7 : (x0 : Int32) < 0) : kI l E D (kT cI cJ cB cZ) yX12_on vW_X12_on ({ frames := 4, cells := 0, slots := 0, locals := 91 }) [.ref h0, .int x0, .int 1] [(h0, .inr (12, f0)), (h1, .inl (cI, 2, .inl g0))] ((-101)) [(h0, .inr (12, (((((f0.set 0 (.int 0)).set 15 (.int 2)).set 13 (.int 0)).set 14 (.int 0)).set 14 (.int 1)))), (h1, .inl (cI, 2, .inl (upd (upd g0 0 x0) 1 1)))] 0 0 := by
  intro sz
  refine Met.ofW (cc := cX12_on) (maxL := 3) (ret := (some .int)) (by decide) rfl ?_
  intro p e s m args below meth c s₁ B hml hv
  obtain ⟨rfl, hsz, hP, hK, hD0, hN, hX⟩ := hv
  have hx := B.exec
  have hb := B.bytes
  have hr := B.returns
  have hts := atoms_spec (ws := vW_X12_on) B.pre
  have hown : s.vm.findClass RX12 = some m.cls := findClass_of_methodNamed B.named
  have hlocks := B.notSynchronized
  have hin12 : ∀ w ∈ wsX120, w ∈ vW_X12_on := u9_X12_on_wsX120
  subst hsz
  have hD := hD0.self (sz := s.heap.size)
  have hAE := k_AE hD0 hX
  generalize hAe : va_A [(h0, .inr (12, f0)), (h1, .inl (cI, 2, .inl g0))] s.heap.size = A at hD hAE ⊢
  have hA : ∀ q : Nat, s.heap.size ≤ q → A q := fun q h => by rw [← hAe]; exact Or.inr h
  have hS : va_S A s.heap s.heap [] := va_S.rf
  have hP : va_P D vwCl [(h0, .inr (12, f0)), (h1, .inl (cI, 2, .inl g0))] s.heap := hP
  have hl := lv_entry ([.ref h0, .int x0, .int 1] : List Value) (n := 3) (Nat.le_of_ble_eq_true rfl)
  rw [lg_entry_eq]
  generalize (lg_sl ([.ref h0, .int x0, .int 1]) ++ List.replicate (3 - (lg_sl ([.ref h0, .int x0, .int 1])).length) Slot.unset).toArray = ls at hl ⊢
  have hl : lv_has ls 3 [(0, .ref h0), (1, .int x0), (2, .int 1)] := hl
  refine lv_aload_n hx hb dX12_on_0 rfl (lv_at hl 0 rfl) ?_
  refine k_get (D := D) (ci := 12) (v := .ref h1) (N := 195) hx hb hts hin12 hown hK hP 0 rfl rfl (by decide) f9_12_10 (hts (.fieldLink RX12 28 "IntegerHouseModel" "arg" "[I") (o9_X12_on _ (List.mem_of_getElem? (i := 0) rfl))) e0 dX12_on_1 ?_
  refine lv_iconst (v := 0) hx hb dX12_on_4 (by decide) ?_
  refine lv_iload_n hx hb dX12_on_5 rfl (lv_at hl 1 rfl) ?_
  refine va_iast hx hb hK hP hD hS 1 0 rfl rfl (k_in (by decide)) dX12_on_6 (fun H locs hP hD hS => ?_)
  have hP : va_P D vwCl [(h0, .inr (12, f0)), (h1, .inl (cI, 2, .inl (upd g0 0 x0)))] H := hP
  have hD : va_D A [(h0, .inr (12, f0)), (h1, .inl (cI, 2, .inl (upd g0 0 x0)))] := hD
  refine lv_aload_n hx hb dX12_on_7 rfl (lv_at hl 0 rfl) ?_
  refine k_get (D := D) (ci := 12) (v := .ref h1) (N := 195) hx hb hts hin12 hown hK hP 0 rfl rfl (by decide) f9_12_10 (hts (.fieldLink RX12 28 "IntegerHouseModel" "arg" "[I") (o9_X12_on _ (List.mem_of_getElem? (i := 0) rfl))) e0 dX12_on_8 ?_
  refine lv_iconst (v := 1) hx hb dX12_on_11 (by decide) ?_
  refine lv_iload_n hx hb dX12_on_12 rfl (lv_at hl 2 rfl) ?_
  refine lv_if_eq (tgt := 20) hx hb dX12_on_13 (by decide) (fun c9 => absurd c9 (by decide)) (fun _ => ?_)
  refine lv_iconst (v := 1) hx hb dX12_on_16 (by decide) ?_
  refine lv_goto (tgt := 21) hx hb dX12_on_17 (by decide) ?_
  refine va_iast hx hb hK hP hD hS 1 0 rfl rfl (k_in (by decide)) dX12_on_21 (fun H locs hP hD hS => ?_)
  have hP : va_P D vwCl [(h0, .inr (12, f0)), (h1, .inl (cI, 2, .inl (upd (upd g0 0 x0) 1 1)))] H := hP
  have hD : va_D A [(h0, .inr (12, f0)), (h1, .inl (cI, 2, .inl (upd (upd g0 0 x0) 1 1)))] := hD
  refine lv_aload_n hx hb dX12_on_22 rfl (lv_at hl 0 rfl) ?_
  refine lv_iconst (v := 2) hx hb dX12_on_23 (by decide) ?_
  refine k_cVi (As := [.int 2]) (rest := []) (wc := [(h0, .inr (12, f0)), (h1, .inl (cI, 2, .inl (upd (upd g0 0 x0) 1 1)))]) (wr := []) (w1 := [(h0, .inr (12, (((((f0.set 0 (.int 0)).set 15 (.int 2)).set 13 (.int 0)).set 14 (.int 0)).set 14 (.int 1)))), (h1, .inl (cI, 2, .inl (upd (upd g0 0 x0) 1 1)))]) ⟨hx, hb, hml, hown, hts⟩ hN hX hAE hK hP hD hS hA [0, 1] [] (ci := 12) rfl rfl rfl rfl (by decide +kernel) (by decide +kernel) (by decide +kernel) (c_X12_call_2 l E D cI cJ cB cZ h0 f0 h1 ((upd (upd g0 0 x0) 1 1)) x0 e1 e2 e3 e4 e5 e0 rfl e6 e7) (cwV 1 hts g9_X12_on_X12_call_868 rfl rfl rfl (by decide +kernel) ⟨Nat.le_of_ble_eq_true rfl, Nat.le_of_ble_eq_true rfl⟩) rfl hl.1 (Nat.le_of_ble_eq_true rfl) dX12_on_24 ⟨Nat.le_of_ble_eq_true rfl, Nat.le_of_ble_eq_true rfl⟩ (fun H locs hP hD hS => ?_)
  have hP : va_P D vwCl [(h0, .inr (12, (((((f0.set 0 (.int 0)).set 15 (.int 2)).set 13 (.int 0)).set 14 (.int 0)).set 14 (.int 1)))), (h1, .inl (cI, 2, .inl (upd (upd g0 0 x0) 1 1)))] H := hP
  have hD : va_D A [(h0, .inr (12, (((((f0.set 0 (.int 0)).set 15 (.int 2)).set 13 (.int 0)).set 14 (.int 0)).set 14 (.int 1)))), (h1, .inl (cI, 2, .inl (upd (upd g0 0 x0) 1 1)))] := hD
  exact W.iret (v := (-101)) hx hb hr (fun t ht hW => ⟨⟨(-101), (), rfl, rfl, kB_mk ht hW hP hK hD⟩, hS.F ht⟩) hS.2.2 dX12_on_27
set_option maxHeartbeats 400000000 in
set_option maxRecDepth 100000 in
theorem c_X1_hasRoom_1 (l : Launch) (E : kE) (D : va_G) (cI cJ cB cZ : ClassId) (h0 : Nat) (f0 : List Value) (e0 : f0[4]? = some (.int 0)) (e1 : f0[5]? = some (.int 0)) : kI l E D (kT cI cJ cB cZ) yX1_hasRoom vW_X1_hasRoom ({ frames := 0, cells := 0, slots := 0, locals := 0 }) [.ref h0, .int 1] [(h0, .inr (1, f0))] (1) [(h0, .inr (1, f0))] 0 0 := by
  intro sz
  refine Met.ofW (cc := cX1_hasRoom) (maxL := 2) (ret := (some .boolean)) (by decide) rfl ?_
  intro p e s m args below meth c s₁ B hml hv
  obtain ⟨rfl, hsz, hP, hK, hD0, hN, hX⟩ := hv
  have hx := B.exec
  have hb := B.bytes
  have hr := B.returns
  have hts := atoms_spec (ws := vW_X1_hasRoom) B.pre
  have hown : s.vm.findClass RX1 = some m.cls := findClass_of_methodNamed B.named
  have hlocks := B.notSynchronized
  have hin1 : ∀ w ∈ wsX10, w ∈ vW_X1_hasRoom := u9_X1_hasRoom_wsX10
  subst hsz
  have hD := hD0.self (sz := s.heap.size)
  have hAE := k_AE hD0 hX
  generalize hAe : va_A [(h0, .inr (1, f0))] s.heap.size = A at hD hAE ⊢
  have hA : ∀ q : Nat, s.heap.size ≤ q → A q := fun q h => by rw [← hAe]; exact Or.inr h
  have hS : va_S A s.heap s.heap [] := va_S.rf
  have hP : va_P D vwCl [(h0, .inr (1, f0))] s.heap := hP
  have hl := lv_entry ([.ref h0, .int 1] : List Value) (n := 2) (Nat.le_of_ble_eq_true rfl)
  rw [lg_entry_eq]
  generalize (lg_sl ([.ref h0, .int 1]) ++ List.replicate (2 - (lg_sl ([.ref h0, .int 1])).length) Slot.unset).toArray = ls at hl ⊢
  have hl : lv_has ls 2 [(0, .ref h0), (1, .int 1)] := hl
  refine lv_aload_n hx hb dX1_hasRoom_0 rfl (lv_at hl 0 rfl) ?_
  refine k_get (D := D) (ci := 1) (v := .int 0) (N := 9) hx hb hts hin1 hown hK hP 0 rfl rfl (by decide) f9_1_4 (hts (.fieldLink RX1 40 "IntegerHouse$Disk" "waiting" "I") (o9_X1_hasRoom _ (List.mem_of_getElem? (i := 0) rfl))) e0 dX1_hasRoom_1 ?_
  refine lv_iload_n hx hb dX1_hasRoom_4 rfl (lv_at hl 1 rfl) ?_
  refine lv_iadd hx hb dX1_hasRoom_5 ?_
  refine k_topi (y := 1) (by decide) ?_
  refine lv_sipush (v := 248) hx hb dX1_hasRoom_6 (by decide) ?_
  refine lv_iadd hx hb dX1_hasRoom_9 ?_
  refine k_topi (y := 249) (by decide) ?_
  refine lv_iconst (v := 1) hx hb dX1_hasRoom_10 (by decide) ?_
  refine lv_isub hx hb dX1_hasRoom_11 ?_
  refine k_topi (y := 248) (by decide) ?_
  refine lv_sipush (v := 248) hx hb dX1_hasRoom_12 (by decide) ?_
  refine lv_idiv hx hb dX1_hasRoom_15 (by decide) ?_
  refine k_topi (y := 1) (by decide) ?_
  refine lv_bipush (v := 100) hx hb dX1_hasRoom_16 (by decide) ?_
  refine lv_aload_n hx hb dX1_hasRoom_18 rfl (lv_at hl 0 rfl) ?_
  refine k_get (D := D) (ci := 1) (v := .int 0) (N := 9) hx hb hts hin1 hown hK hP 0 rfl rfl (by decide) f9_1_5 (hts (.fieldLink RX1 43 "IntegerHouse$Disk" "used" "I") (o9_X1_hasRoom _ (List.mem_of_getElem? (i := 1) rfl))) e1 dX1_hasRoom_19 ?_
  refine lv_isub hx hb dX1_hasRoom_22 ?_
  refine k_topi (y := 100) (by decide) ?_
  refine lv_icmp_gt (tgt := 30) hx hb dX1_hasRoom_23 (by decide) (fun c9 => absurd c9 (by decide)) (fun _ => ?_)
  refine lv_iconst (v := 1) hx hb dX1_hasRoom_26 (by decide) ?_
  refine lv_goto (tgt := 31) hx hb dX1_hasRoom_27 (by decide) ?_
  exact W.zret (v := 1) hx hb hr rfl (fun t ht hW => ⟨⟨1, (), rfl, rfl, kB_mk ht hW hP hK hD⟩, hS.F ht⟩) hS.2.2 dX1_hasRoom_31
set_option maxHeartbeats 400000000 in
set_option maxRecDepth 100000 in
theorem c_X2_addLayer_0 (l : Launch) (E : kE) (D : va_G) (cI cJ cB cZ : ClassId) (h0 : Nat) (f0 : List Value) (h1 : Nat) (g0 : Nat → Int32) (e0 : f0[14]? = some (.int 0)) (e1 : f0[8]? = some (.ref h1)) (e2 : f0[10]? = some (.int 0)) (e3 : f0[11]? = some (.int 0)) (e4 : f0[12]? = some (.int 0)) (e5 : f0[13]? = some (.int 0)) : kI l E D (kT cI cJ cB cZ) yX2_addLayer vW_X2_addLayer ({ frames := 0, cells := 0, slots := 0, locals := 0 }) [.ref h0] [(h0, .inr (2, f0)), (h1, .inl (cI, 32, .inl g0))] (1) [(h0, .inr (2, (f0.set 14 (.int 1)))), (h1, .inl (cI, 32, .inl (upd (upd (upd (upd g0 0 0) 1 0) 2 0) 3 0)))] 0 0 := by
  intro sz
  refine Met.ofW (cc := cX2_addLayer) (maxL := 2) (ret := (some .boolean)) (by decide) rfl ?_
  intro p e s m args below meth c s₁ B hml hv
  obtain ⟨rfl, hsz, hP, hK, hD0, hN, hX⟩ := hv
  have hx := B.exec
  have hb := B.bytes
  have hr := B.returns
  have hts := atoms_spec (ws := vW_X2_addLayer) B.pre
  have hown : s.vm.findClass RX2 = some m.cls := findClass_of_methodNamed B.named
  have hlocks := B.notSynchronized
  have hin2 : ∀ w ∈ wsX20, w ∈ vW_X2_addLayer := u9_X2_addLayer_wsX20
  subst hsz
  have hD := hD0.self (sz := s.heap.size)
  have hAE := k_AE hD0 hX
  generalize hAe : va_A [(h0, .inr (2, f0)), (h1, .inl (cI, 32, .inl g0))] s.heap.size = A at hD hAE ⊢
  have hA : ∀ q : Nat, s.heap.size ≤ q → A q := fun q h => by rw [← hAe]; exact Or.inr h
  have hS : va_S A s.heap s.heap [] := va_S.rf
  have hP : va_P D vwCl [(h0, .inr (2, f0)), (h1, .inl (cI, 32, .inl g0))] s.heap := hP
  have hl := lv_entry ([.ref h0] : List Value) (n := 2) (Nat.le_of_ble_eq_true rfl)
  rw [lg_entry_eq]
  generalize (lg_sl ([.ref h0]) ++ List.replicate (2 - (lg_sl ([.ref h0])).length) Slot.unset).toArray = ls at hl ⊢
  have hl : lv_has ls 2 [(0, .ref h0)] := hl
  refine lv_aload_n hx hb dX2_addLayer_0 rfl (lv_at hl 0 rfl) ?_
  refine k_get (D := D) (ci := 2) (v := .int 0) (N := 16) hx hb hts hin2 hown hK hP 0 rfl rfl (by decide) f9_2_14 (hts (.fieldLink RX2 48 "IntegerHouse$House" "layers" "I") (o9_X2_addLayer _ (List.mem_of_getElem? (i := 0) rfl))) e0 dX2_addLayer_1 ?_
  refine lv_if_lt (tgt := 16) hx hb dX2_addLayer_4 (by decide) (fun c9 => absurd c9 (by decide)) (fun _ => ?_)
  refine lv_aload_n hx hb dX2_addLayer_7 rfl (lv_at hl 0 rfl) ?_
  refine k_get (D := D) (ci := 2) (v := .int 0) (N := 16) hx hb hts hin2 hown hK hP 0 rfl rfl (by decide) f9_2_14 (hts (.fieldLink RX2 48 "IntegerHouse$House" "layers" "I") (o9_X2_addLayer _ (List.mem_of_getElem? (i := 0) rfl))) e0 dX2_addLayer_8 ?_
  refine lv_bipush (v := 8) hx hb dX2_addLayer_11 (by decide) ?_
  refine lv_icmp_lt (tgt := 18) hx hb dX2_addLayer_13 (by decide) (fun _ => ?_) (fun c9 => absurd (by decide) c9)
  refine lv_aload_n hx hb dX2_addLayer_18 rfl (lv_at hl 0 rfl) ?_
  refine k_get (D := D) (ci := 2) (v := .int 0) (N := 16) hx hb hts hin2 hown hK hP 0 rfl rfl (by decide) f9_2_14 (hts (.fieldLink RX2 48 "IntegerHouse$House" "layers" "I") (o9_X2_addLayer _ (List.mem_of_getElem? (i := 0) rfl))) e0 dX2_addLayer_19 ?_
  refine lv_iconst (v := 4) hx hb dX2_addLayer_22 (by decide) ?_
  refine lv_imul hx hb dX2_addLayer_23 ?_
  refine k_topi (y := 0) (by decide) ?_
  refine lv_istore_n (lv' := [(1, .int 0), (0, .ref h0)]) hx hb dX2_addLayer_24 rfl hl (by decide) rfl (fun ls hl => ?_)
  refine lv_aload_n hx hb dX2_addLayer_25 rfl (lv_at hl 1 rfl) ?_
  refine k_get (D := D) (ci := 2) (v := .ref h1) (N := 16) hx hb hts hin2 hown hK hP 0 rfl rfl (by decide) f9_2_8 (hts (.fieldLink RX2 37 "IntegerHouse$House" "marks" "[I") (o9_X2_addLayer _ (List.mem_of_getElem? (i := 1) rfl))) e1 dX2_addLayer_26 ?_
  refine lv_iload_n hx hb dX2_addLayer_29 rfl (lv_at hl 0 rfl) ?_
  refine lv_aload_n hx hb dX2_addLayer_30 rfl (lv_at hl 1 rfl) ?_
  refine k_get (D := D) (ci := 2) (v := .int 0) (N := 16) hx hb hts hin2 hown hK hP 0 rfl rfl (by decide) f9_2_10 (hts (.fieldLink RX2 52 "IntegerHouse$House" "variables" "I") (o9_X2_addLayer _ (List.mem_of_getElem? (i := 2) rfl))) e2 dX2_addLayer_31 ?_
  refine va_iast hx hb hK hP hD hS 1 0 rfl rfl (k_in (by decide)) dX2_addLayer_34 (fun H locs hP hD hS => ?_)
  have hP : va_P D vwCl [(h0, .inr (2, f0)), (h1, .inl (cI, 32, .inl (upd g0 0 0)))] H := hP
  have hD : va_D A [(h0, .inr (2, f0)), (h1, .inl (cI, 32, .inl (upd g0 0 0)))] := hD
  refine lv_aload_n hx hb dX2_addLayer_35 rfl (lv_at hl 1 rfl) ?_
  refine k_get (D := D) (ci := 2) (v := .ref h1) (N := 16) hx hb hts hin2 hown hK hP 0 rfl rfl (by decide) f9_2_8 (hts (.fieldLink RX2 37 "IntegerHouse$House" "marks" "[I") (o9_X2_addLayer _ (List.mem_of_getElem? (i := 1) rfl))) e1 dX2_addLayer_36 ?_
  refine lv_iload_n hx hb dX2_addLayer_39 rfl (lv_at hl 0 rfl) ?_
  refine lv_iconst (v := 1) hx hb dX2_addLayer_40 (by decide) ?_
  refine lv_iadd hx hb dX2_addLayer_41 ?_
  refine k_topi (y := 1) (by decide) ?_
  refine lv_aload_n hx hb dX2_addLayer_42 rfl (lv_at hl 1 rfl) ?_
  refine k_get (D := D) (ci := 2) (v := .int 0) (N := 16) hx hb hts hin2 hown hK hP 0 rfl rfl (by decide) f9_2_11 (hts (.fieldLink RX2 55 "IntegerHouse$House" "claims" "I") (o9_X2_addLayer _ (List.mem_of_getElem? (i := 3) rfl))) e3 dX2_addLayer_43 ?_
  refine va_iast hx hb hK hP hD hS 1 0 rfl rfl (k_in (by decide)) dX2_addLayer_46 (fun H locs hP hD hS => ?_)
  have hP : va_P D vwCl [(h0, .inr (2, f0)), (h1, .inl (cI, 32, .inl (upd (upd g0 0 0) 1 0)))] H := hP
  have hD : va_D A [(h0, .inr (2, f0)), (h1, .inl (cI, 32, .inl (upd (upd g0 0 0) 1 0)))] := hD
  refine lv_aload_n hx hb dX2_addLayer_47 rfl (lv_at hl 1 rfl) ?_
  refine k_get (D := D) (ci := 2) (v := .ref h1) (N := 16) hx hb hts hin2 hown hK hP 0 rfl rfl (by decide) f9_2_8 (hts (.fieldLink RX2 37 "IntegerHouse$House" "marks" "[I") (o9_X2_addLayer _ (List.mem_of_getElem? (i := 1) rfl))) e1 dX2_addLayer_48 ?_
  refine lv_iload_n hx hb dX2_addLayer_51 rfl (lv_at hl 0 rfl) ?_
  refine lv_iconst (v := 2) hx hb dX2_addLayer_52 (by decide) ?_
  refine lv_iadd hx hb dX2_addLayer_53 ?_
  refine k_topi (y := 2) (by decide) ?_
  refine lv_aload_n hx hb dX2_addLayer_54 rfl (lv_at hl 1 rfl) ?_
  refine k_get (D := D) (ci := 2) (v := .int 0) (N := 16) hx hb hts hin2 hown hK hP 0 rfl rfl (by decide) f9_2_12 (hts (.fieldLink RX2 58 "IntegerHouse$House" "poolSize" "I") (o9_X2_addLayer _ (List.mem_of_getElem? (i := 4) rfl))) e4 dX2_addLayer_55 ?_
  refine va_iast hx hb hK hP hD hS 1 0 rfl rfl (k_in (by decide)) dX2_addLayer_58 (fun H locs hP hD hS => ?_)
  have hP : va_P D vwCl [(h0, .inr (2, f0)), (h1, .inl (cI, 32, .inl (upd (upd (upd g0 0 0) 1 0) 2 0)))] H := hP
  have hD : va_D A [(h0, .inr (2, f0)), (h1, .inl (cI, 32, .inl (upd (upd (upd g0 0 0) 1 0) 2 0)))] := hD
  refine lv_aload_n hx hb dX2_addLayer_59 rfl (lv_at hl 1 rfl) ?_
  refine k_get (D := D) (ci := 2) (v := .ref h1) (N := 16) hx hb hts hin2 hown hK hP 0 rfl rfl (by decide) f9_2_8 (hts (.fieldLink RX2 37 "IntegerHouse$House" "marks" "[I") (o9_X2_addLayer _ (List.mem_of_getElem? (i := 1) rfl))) e1 dX2_addLayer_60 ?_
  refine lv_iload_n hx hb dX2_addLayer_63 rfl (lv_at hl 0 rfl) ?_
  refine lv_iconst (v := 3) hx hb dX2_addLayer_64 (by decide) ?_
  refine lv_iadd hx hb dX2_addLayer_65 ?_
  refine k_topi (y := 3) (by decide) ?_
  refine lv_aload_n hx hb dX2_addLayer_66 rfl (lv_at hl 1 rfl) ?_
  refine k_get (D := D) (ci := 2) (v := .int 0) (N := 16) hx hb hts hin2 hown hK hP 0 rfl rfl (by decide) f9_2_13 (hts (.fieldLink RX2 61 "IntegerHouse$House" "on" "I") (o9_X2_addLayer _ (List.mem_of_getElem? (i := 5) rfl))) e5 dX2_addLayer_67 ?_
  refine va_iast hx hb hK hP hD hS 1 0 rfl rfl (k_in (by decide)) dX2_addLayer_70 (fun H locs hP hD hS => ?_)
  have hP : va_P D vwCl [(h0, .inr (2, f0)), (h1, .inl (cI, 32, .inl (upd (upd (upd (upd g0 0 0) 1 0) 2 0) 3 0)))] H := hP
  have hD : va_D A [(h0, .inr (2, f0)), (h1, .inl (cI, 32, .inl (upd (upd (upd (upd g0 0 0) 1 0) 2 0) 3 0)))] := hD
  refine lv_aload_n hx hb dX2_addLayer_71 rfl (lv_at hl 1 rfl) ?_
  refine lv_dup hx hb dX2_addLayer_72 rfl ?_
  refine k_get (D := D) (ci := 2) (v := .int 0) (N := 16) hx hb hts hin2 hown hK hP 0 rfl rfl (by decide) f9_2_14 (hts (.fieldLink RX2 48 "IntegerHouse$House" "layers" "I") (o9_X2_addLayer _ (List.mem_of_getElem? (i := 0) rfl))) e0 dX2_addLayer_73 ?_
  refine lv_iconst (v := 1) hx hb dX2_addLayer_76 (by decide) ?_
  refine lv_iadd hx hb dX2_addLayer_77 ?_
  refine k_topi (y := 1) (by decide) ?_
  refine k_put (D := D) (ci := 2) (v := .int 1) (ty := .int) (N := 16) hx hb hts hin2 tyX2 tyX2_ok nmX2 hown hK hP hD hS 0 rfl rfl (by decide) f9_2_14 (hts (.fieldLink RX2 48 "IntegerHouse$House" "layers" "I") (o9_X2_addLayer _ (List.mem_of_getElem? (i := 0) rfl))) rfl pd_2 rfl rfl (k_len e0) dX2_addLayer_78 (fun H locs hP hD hS => ?_)
  have hP : va_P D vwCl [(h0, .inr (2, (f0.set 14 (.int 1)))), (h1, .inl (cI, 32, .inl (upd (upd (upd (upd g0 0 0) 1 0) 2 0) 3 0)))] H := hP
  have hD : va_D A [(h0, .inr (2, (f0.set 14 (.int 1)))), (h1, .inl (cI, 32, .inl (upd (upd (upd (upd g0 0 0) 1 0) 2 0) 3 0)))] := hD
  refine lv_iconst (v := 1) hx hb dX2_addLayer_81 (by decide) ?_
  exact W.zret (v := 1) hx hb hr rfl (fun t ht hW => ⟨⟨1, (), rfl, rfl, kB_mk ht hW hP hK hD⟩, hS.F ht⟩) hS.2.2 dX2_addLayer_82
set_option maxHeartbeats 400000000 in
set_option maxRecDepth 100000 in
theorem c_X1_await_3 (l : Launch) (E : kE) (D : va_G) (cI cJ cB cZ : ClassId) (h0 : Nat) (f0 : List Value) (h1 : Nat) (g0 : Nat → Int32) (e0 : f0[4]? = some (.int 0)) (e1 : f0[3]? = some (.ref h1)) : kV l E D (kT cI cJ cB cZ) yX1_await vW_X1_await ({ frames := 0, cells := 0, slots := 0, locals := 0 }) [.ref h0, .int 3] [(h0, .inr (1, f0)), (h1, .inl (cB, 24800, .inl g0))] (fun _ : Unit => [(h0, .inr (1, (f0.set 4 (.int 1)))), (h1, .inl (cB, 24800, .inl (upd g0 0 3)))]) 0 0 := by
  intro sz
  refine Met.ofW (cc := cX1_await) (maxL := 2) (ret := none) (by decide) rfl ?_
  intro p e s m args below meth c s₁ B hml hv
  obtain ⟨rfl, hsz, hP, hK, hD0, hN, hX⟩ := hv
  have hx := B.exec
  have hb := B.bytes
  have hr := B.returns
  have hts := atoms_spec (ws := vW_X1_await) B.pre
  have hown : s.vm.findClass RX1 = some m.cls := findClass_of_methodNamed B.named
  have hlocks := B.notSynchronized
  have hin1 : ∀ w ∈ wsX10, w ∈ vW_X1_await := u9_X1_await_wsX10
  subst hsz
  have hD := hD0.self (sz := s.heap.size)
  have hAE := k_AE hD0 hX
  generalize hAe : va_A [(h0, .inr (1, f0)), (h1, .inl (cB, 24800, .inl g0))] s.heap.size = A at hD hAE ⊢
  have hA : ∀ q : Nat, s.heap.size ≤ q → A q := fun q h => by rw [← hAe]; exact Or.inr h
  have hS : va_S A s.heap s.heap [] := va_S.rf
  have hP : va_P D vwCl [(h0, .inr (1, f0)), (h1, .inl (cB, 24800, .inl g0))] s.heap := hP
  have hl := lv_entry ([.ref h0, .int 3] : List Value) (n := 2) (Nat.le_of_ble_eq_true rfl)
  rw [lg_entry_eq]
  generalize (lg_sl ([.ref h0, .int 3]) ++ List.replicate (2 - (lg_sl ([.ref h0, .int 3])).length) Slot.unset).toArray = ls at hl ⊢
  have hl : lv_has ls 2 [(0, .ref h0), (1, .int 3)] := hl
  refine lv_aload_n hx hb dX1_await_0 rfl (lv_at hl 0 rfl) ?_
  refine k_get (D := D) (ci := 1) (v := .int 0) (N := 9) hx hb hts hin1 hown hK hP 0 rfl rfl (by decide) f9_1_4 (hts (.fieldLink RX1 40 "IntegerHouse$Disk" "waiting" "I") (o9_X1_await _ (List.mem_of_getElem? (i := 0) rfl))) e0 dX1_await_1 ?_
  refine lv_if_lt (tgt := 38) hx hb dX1_await_4 (by decide) (fun c9 => absurd c9 (by decide)) (fun _ => ?_)
  refine lv_aload_n hx hb dX1_await_7 rfl (lv_at hl 0 rfl) ?_
  refine k_get (D := D) (ci := 1) (v := .int 0) (N := 9) hx hb hts hin1 hown hK hP 0 rfl rfl (by decide) f9_1_4 (hts (.fieldLink RX1 40 "IntegerHouse$Disk" "waiting" "I") (o9_X1_await _ (List.mem_of_getElem? (i := 0) rfl))) e0 dX1_await_8 ?_
  refine lv_sipush (v := 24800) hx hb dX1_await_11 (by decide) ?_
  refine lv_icmp_ge (tgt := 38) hx hb dX1_await_14 (by decide) (fun c9 => absurd c9 (by decide)) (fun _ => ?_)
  refine lv_aload_n hx hb dX1_await_17 rfl (lv_at hl 0 rfl) ?_
  refine k_get (D := D) (ci := 1) (v := .ref h1) (N := 9) hx hb hts hin1 hown hK hP 0 rfl rfl (by decide) f9_1_3 (hts (.fieldLink RX1 22 "IntegerHouse$Disk" "waits" "[B") (o9_X1_await _ (List.mem_of_getElem? (i := 1) rfl))) e1 dX1_await_18 ?_
  refine lv_aload_n hx hb dX1_await_21 rfl (lv_at hl 0 rfl) ?_
  refine k_get (D := D) (ci := 1) (v := .int 0) (N := 9) hx hb hts hin1 hown hK hP 0 rfl rfl (by decide) f9_1_4 (hts (.fieldLink RX1 40 "IntegerHouse$Disk" "waiting" "I") (o9_X1_await _ (List.mem_of_getElem? (i := 0) rfl))) e0 dX1_await_22 ?_
  refine lv_iload_n hx hb dX1_await_25 rfl (lv_at hl 1 rfl) ?_
  refine lv_i2b (v := 3) hx hb dX1_await_26 (by decide) ?_
  refine va_bast hx hb hK hP hD hS 1 2 rfl rfl (k_in (by decide)) dX1_await_27 (fun H locs hP hD hS => ?_)
  have hP : va_P D vwCl [(h0, .inr (1, f0)), (h1, .inl (cB, 24800, .inl (upd g0 0 3)))] H := hP
  have hD : va_D A [(h0, .inr (1, f0)), (h1, .inl (cB, 24800, .inl (upd g0 0 3)))] := hD
  refine lv_aload_n hx hb dX1_await_28 rfl (lv_at hl 0 rfl) ?_
  refine lv_dup hx hb dX1_await_29 rfl ?_
  refine k_get (D := D) (ci := 1) (v := .int 0) (N := 9) hx hb hts hin1 hown hK hP 0 rfl rfl (by decide) f9_1_4 (hts (.fieldLink RX1 40 "IntegerHouse$Disk" "waiting" "I") (o9_X1_await _ (List.mem_of_getElem? (i := 0) rfl))) e0 dX1_await_30 ?_
  refine lv_iconst (v := 1) hx hb dX1_await_33 (by decide) ?_
  refine lv_iadd hx hb dX1_await_34 ?_
  refine k_topi (y := 1) (by decide) ?_
  refine k_put (D := D) (ci := 1) (v := .int 1) (ty := .int) (N := 9) hx hb hts hin1 tyX1 tyX1_ok nmX1 hown hK hP hD hS 0 rfl rfl (by decide) f9_1_4 (hts (.fieldLink RX1 40 "IntegerHouse$Disk" "waiting" "I") (o9_X1_await _ (List.mem_of_getElem? (i := 0) rfl))) rfl pd_2 rfl rfl (k_len e0) dX1_await_35 (fun H locs hP hD hS => ?_)
  have hP : va_P D vwCl [(h0, .inr (1, (f0.set 4 (.int 1)))), (h1, .inl (cB, 24800, .inl (upd g0 0 3)))] H := hP
  have hD : va_D A [(h0, .inr (1, (f0.set 4 (.int 1)))), (h1, .inl (cB, 24800, .inl (upd g0 0 3)))] := hD
  exact W.vret hx hb hr (fun t ht hW => ⟨⟨(), rfl, trivial, kB_mk ht hW hP hK hD⟩, hS.F ht⟩) hS.2.2 dX1_await_38
set_option maxHeartbeats 400000000 in
set_option maxRecDepth 100000 in
theorem c_X1_recordAct_0 (l : Launch) (E : kE) (D : va_G) (cI cJ cB cZ : ClassId) (h0 : Nat) (f0 : List Value) (h1 : Nat) (g0 : Nat → Int32) (e0 : f0[4]? = some (.int 0)) (e1 : f0[3]? = some (.ref h1)) : kV l E D (kT cI cJ cB cZ) yX1_recordAct vW_X1_recordAct ({ frames := 1, cells := 0, slots := 0, locals := 21 }) [.ref h0, .int 3] [(h0, .inr (1, f0)), (h1, .inl (cB, 24800, .inl g0))] (fun _ : Unit => [(h0, .inr (1, (f0.set 4 (.int 1)))), (h1, .inl (cB, 24800, .inl (upd g0 0 3)))]) 0 0 := by
  intro sz
  refine Met.ofW (cc := cX1_recordAct) (maxL := 2) (ret := none) (by decide) rfl ?_
  intro p e s m args below meth c s₁ B hml hv
  obtain ⟨rfl, hsz, hP, hK, hD0, hN, hX⟩ := hv
  have hx := B.exec
  have hb := B.bytes
  have hr := B.returns
  have hts := atoms_spec (ws := vW_X1_recordAct) B.pre
  have hown : s.vm.findClass RX1 = some m.cls := findClass_of_methodNamed B.named
  have hlocks := B.notSynchronized
  subst hsz
  have hD := hD0.self (sz := s.heap.size)
  have hAE := k_AE hD0 hX
  generalize hAe : va_A [(h0, .inr (1, f0)), (h1, .inl (cB, 24800, .inl g0))] s.heap.size = A at hD hAE ⊢
  have hA : ∀ q : Nat, s.heap.size ≤ q → A q := fun q h => by rw [← hAe]; exact Or.inr h
  have hS : va_S A s.heap s.heap [] := va_S.rf
  have hP : va_P D vwCl [(h0, .inr (1, f0)), (h1, .inl (cB, 24800, .inl g0))] s.heap := hP
  have hl := lv_entry ([.ref h0, .int 3] : List Value) (n := 2) (Nat.le_of_ble_eq_true rfl)
  rw [lg_entry_eq]
  generalize (lg_sl ([.ref h0, .int 3]) ++ List.replicate (2 - (lg_sl ([.ref h0, .int 3])).length) Slot.unset).toArray = ls at hl ⊢
  have hl : lv_has ls 2 [(0, .ref h0), (1, .int 3)] := hl
  refine lv_aload_n hx hb dX1_recordAct_0 rfl (lv_at hl 0 rfl) ?_
  refine lv_iload_n hx hb dX1_recordAct_1 rfl (lv_at hl 1 rfl) ?_
  refine k_cVv (As := [.int 3]) (rest := []) (wc := [(h0, .inr (1, f0)), (h1, .inl (cB, 24800, .inl g0))]) (wr := []) (w1 := (fun _ : Unit => [(h0, .inr (1, (f0.set 4 (.int 1)))), (h1, .inl (cB, 24800, .inl (upd g0 0 3)))])) ⟨hx, hb, hml, hown, hts⟩ hN hX hAE hK hP hD hS hA [0, 1] [] (ci := 1) rfl rfl rfl rfl (by decide +kernel) (by decide +kernel) (by decide +kernel) (c_X1_await_3 l E D cI cJ cB cZ h0 f0 h1 g0 e0 e1) (cwV 1 hts g9_X1_recordAct_X1_await_50 rfl rfl rfl (by decide +kernel) ⟨Nat.le_of_ble_eq_true rfl, Nat.le_of_ble_eq_true rfl⟩) rfl hl.1 (Nat.le_of_ble_eq_true rfl) dX1_recordAct_2 ⟨Nat.le_of_ble_eq_true rfl, Nat.le_of_ble_eq_true rfl⟩ (fun _ H locs hP hD hS => ?_)
  have hP : va_P D vwCl [(h0, .inr (1, (f0.set 4 (.int 1)))), (h1, .inl (cB, 24800, .inl (upd g0 0 3)))] H := hP
  have hD : va_D A [(h0, .inr (1, (f0.set 4 (.int 1)))), (h1, .inl (cB, 24800, .inl (upd g0 0 3)))] := hD
  exact W.vret hx hb hr (fun t ht hW => ⟨⟨(), rfl, trivial, kB_mk ht hW hP hK hD⟩, hS.F ht⟩) hS.2.2 dX1_recordAct_5
set_option maxHeartbeats 400000000 in
set_option maxRecDepth 100000 in
theorem c_X11_push_0 (l : Launch) (E : kE) (D : va_G) (cI cJ cB cZ : ClassId) (h0 : Nat) (f0 : List Value) (h1 : Nat) (f1 : List Value) (h2 : Nat) (f2 : List Value) (h3 : Nat) (g0 : Nat → Int32) (h4 : Nat) (g1 : Nat → Int32) (e0 : f0[1]? = some (.ref h1)) (e1 : f1[8]? = some (.int 0)) (e2 : f0[2]? = some (.ref h2)) (e3 : f2[14]? = some (.int 0)) (e4 : f1[4]? = some (.int 0)) (e5 : f1[5]? = some (.int 0)) (e6 : f2[8]? = some (.ref h3)) (e7 : f2[10]? = some (.int 0)) (e8 : f2[11]? = some (.int 0)) (e9 : f2[12]? = some (.int 0)) (e10 : f2[13]? = some (.int 0)) (e11 : f1[3]? = some (.ref h4)) (e12 : f0[14]? = some (.int 0)) : kI l E D (kT cI cJ cB cZ) yX11_push vW_X11_push ({ frames := 2, cells := 0, slots := 0, locals := 42 }) [.ref h0] [(h0, .inr (11, f0)), (h1, .inr (1, f1)), (h2, .inr (2, f2)), (h3, .inl (cI, 32, .inl g0)), (h4, .inl (cB, 24800, .inl g1))] (1) [(h0, .inr (11, (f0.set 14 (.int 1)))), (h1, .inr (1, (f1.set 4 (.int 1)))), (h2, .inr (2, (f2.set 14 (.int 1)))), (h3, .inl (cI, 32, .inl (upd (upd (upd (upd g0 0 0) 1 0) 2 0) 3 0))), (h4, .inl (cB, 24800, .inl (upd g1 0 3)))] 0 0 := by
  intro sz
  refine Met.ofW (cc := cX11_push) (maxL := 1) (ret := (some .int)) (by decide) rfl ?_
  intro p e s m args below meth c s₁ B hml hv
  obtain ⟨rfl, hsz, hP, hK, hD0, hN, hX⟩ := hv
  have hx := B.exec
  have hb := B.bytes
  have hr := B.returns
  have hts := atoms_spec (ws := vW_X11_push) B.pre
  have hown : s.vm.findClass RX11 = some m.cls := findClass_of_methodNamed B.named
  have hlocks := B.notSynchronized
  have hin11 : ∀ w ∈ wsX110, w ∈ vW_X11_push := u9_X11_push_wsX110
  have hin1 : ∀ w ∈ wsX10, w ∈ vW_X11_push := u9_X11_push_wsX10
  have hin2 : ∀ w ∈ wsX20, w ∈ vW_X11_push := u9_X11_push_wsX20
  subst hsz
  have hD := hD0.self (sz := s.heap.size)
  have hAE := k_AE hD0 hX
  generalize hAe : va_A [(h0, .inr (11, f0)), (h1, .inr (1, f1)), (h2, .inr (2, f2)), (h3, .inl (cI, 32, .inl g0)), (h4, .inl (cB, 24800, .inl g1))] s.heap.size = A at hD hAE ⊢
  have hA : ∀ q : Nat, s.heap.size ≤ q → A q := fun q h => by rw [← hAe]; exact Or.inr h
  have hS : va_S A s.heap s.heap [] := va_S.rf
  have hP : va_P D vwCl [(h0, .inr (11, f0)), (h1, .inr (1, f1)), (h2, .inr (2, f2)), (h3, .inl (cI, 32, .inl g0)), (h4, .inl (cB, 24800, .inl g1))] s.heap := hP
  have hl := lv_entry ([.ref h0] : List Value) (n := 1) (Nat.le_of_ble_eq_true rfl)
  rw [lg_entry_eq]
  generalize (lg_sl ([.ref h0]) ++ List.replicate (1 - (lg_sl ([.ref h0])).length) Slot.unset).toArray = ls at hl ⊢
  have hl : lv_has ls 1 [(0, .ref h0)] := hl
  refine lv_aload_n hx hb dX11_push_0 rfl (lv_at hl 0 rfl) ?_
  refine k_get (D := D) (ci := 11) (v := .ref h1) (N := 15) hx hb hts hin11 hown hK hP 0 rfl rfl (by decide) f9_11_1 (hts (.fieldLink RX11 16 "IntegerHouse" "disk" "LIntegerHouse$Disk;") (o9_X11_push _ (List.mem_of_getElem? (i := 0) rfl))) e0 dX11_push_1 ?_
  refine k_getN (host := "IntegerHouse") (D := D) (ci := 1) (v := .int 0) (N := 9) hx hb hts hin1 hown hK hP 1 rfl rfl (by decide) f9_1_8 (va_Nw.use rfl (hN.1 ("IntegerHouse", 122, "IntegerHouse$Disk", "down", "Z", "IntegerHouse") (List.mem_of_getElem? (i := 3) rfl))) e1 dX11_push_4 ?_
  refine lv_if_eq (tgt := 13) hx hb dX11_push_7 (by decide) (fun _ => ?_) (fun c9 => absurd (by decide) c9)
  refine lv_aload_n hx hb dX11_push_13 rfl (lv_at hl 0 rfl) ?_
  refine k_get (D := D) (ci := 11) (v := .ref h2) (N := 15) hx hb hts hin11 hown hK hP 0 rfl rfl (by decide) f9_11_2 (hts (.fieldLink RX11 23 "IntegerHouse" "house" "LIntegerHouse$House;") (o9_X11_push _ (List.mem_of_getElem? (i := 1) rfl))) e2 dX11_push_14 ?_
  refine k_getN (host := "IntegerHouse") (D := D) (ci := 2) (v := .int 0) (N := 16) hx hb hts hin2 hown hK hP 2 rfl rfl (by decide) f9_2_14 (va_Nw.use rfl (hN.1 ("IntegerHouse", 221, "IntegerHouse$House", "layers", "I", "IntegerHouse") (List.mem_of_getElem? (i := 22) rfl))) e3 dX11_push_17 ?_
  refine lv_bipush (v := 8) hx hb dX11_push_20 (by decide) ?_
  refine lv_icmp_ge (tgt := 36) hx hb dX11_push_22 (by decide) (fun c9 => absurd c9 (by decide)) (fun _ => ?_)
  refine lv_aload_n hx hb dX11_push_25 rfl (lv_at hl 0 rfl) ?_
  refine k_get (D := D) (ci := 11) (v := .ref h1) (N := 15) hx hb hts hin11 hown hK hP 0 rfl rfl (by decide) f9_11_1 (hts (.fieldLink RX11 16 "IntegerHouse" "disk" "LIntegerHouse$Disk;") (o9_X11_push _ (List.mem_of_getElem? (i := 0) rfl))) e0 dX11_push_26 ?_
  refine lv_iconst (v := 1) hx hb dX11_push_29 (by decide) ?_
  refine k_cVi (As := [.int 1]) (rest := []) (wc := [(h1, .inr (1, f1))]) (wr := [(h0, .inr (11, f0)), (h2, .inr (2, f2)), (h3, .inl (cI, 32, .inl g0)), (h4, .inl (cB, 24800, .inl g1))]) (w1 := [(h1, .inr (1, f1))]) ⟨hx, hb, hml, hown, hts⟩ hN hX hAE hK hP hD hS hA [1] [0, 2, 3, 4] (ci := 1) rfl rfl rfl rfl (by decide +kernel) (by decide +kernel) (by decide +kernel) (c_X1_hasRoom_1 l E D cI cJ cB cZ h1 f1 e4 e5) (cwV 1 hts g9_X11_push_X1_hasRoom_239 rfl rfl rfl (by decide +kernel) ⟨Nat.le_of_ble_eq_true rfl, Nat.le_of_ble_eq_true rfl⟩) rfl hl.1 (Nat.le_of_ble_eq_true rfl) dX11_push_30 ⟨Nat.le_of_ble_eq_true rfl, Nat.le_of_ble_eq_true rfl⟩ (fun H locs hP hD hS => ?_)
  have hP : va_P D vwCl [(h0, .inr (11, f0)), (h2, .inr (2, f2)), (h3, .inl (cI, 32, .inl g0)), (h4, .inl (cB, 24800, .inl g1)), (h1, .inr (1, f1))] H := hP
  have hD : va_D A [(h0, .inr (11, f0)), (h2, .inr (2, f2)), (h3, .inl (cI, 32, .inl g0)), (h4, .inl (cB, 24800, .inl g1)), (h1, .inr (1, f1))] := hD
  refine lv_if_ne (tgt := 39) hx hb dX11_push_33 (by decide) (fun _ => ?_) (fun c9 => absurd c9 (by decide))
  refine lv_aload_n hx hb dX11_push_39 rfl (lv_at hl 0 rfl) ?_
  refine k_get (D := D) (ci := 11) (v := .ref h2) (N := 15) hx hb hts hin11 hown hK hP 0 rfl rfl (by decide) f9_11_2 (hts (.fieldLink RX11 23 "IntegerHouse" "house" "LIntegerHouse$House;") (o9_X11_push _ (List.mem_of_getElem? (i := 1) rfl))) e2 dX11_push_40 ?_
  refine k_cVi (As := []) (rest := []) (wc := [(h2, .inr (2, f2)), (h3, .inl (cI, 32, .inl g0))]) (wr := [(h0, .inr (11, f0)), (h4, .inl (cB, 24800, .inl g1)), (h1, .inr (1, f1))]) (w1 := [(h2, .inr (2, (f2.set 14 (.int 1)))), (h3, .inl (cI, 32, .inl (upd (upd (upd (upd g0 0 0) 1 0) 2 0) 3 0)))]) ⟨hx, hb, hml, hown, hts⟩ hN hX hAE hK hP hD hS hA [1, 2] [0, 3, 4] (ci := 2) rfl rfl rfl rfl (by decide +kernel) (by decide +kernel) (by decide +kernel) (c_X2_addLayer_0 l E D cI cJ cB cZ h2 f2 h3 g0 e3 e6 e7 e8 e9 e10) (cwV 0 hts g9_X11_push_X2_addLayer_184 rfl rfl rfl (by decide +kernel) ⟨Nat.le_of_ble_eq_true rfl, Nat.le_of_ble_eq_true rfl⟩) rfl hl.1 (Nat.le_of_ble_eq_true rfl) dX11_push_43 ⟨Nat.le_of_ble_eq_true rfl, Nat.le_of_ble_eq_true rfl⟩ (fun H locs hP hD hS => ?_)
  have hP : va_P D vwCl [(h0, .inr (11, f0)), (h4, .inl (cB, 24800, .inl g1)), (h1, .inr (1, f1)), (h2, .inr (2, (f2.set 14 (.int 1)))), (h3, .inl (cI, 32, .inl (upd (upd (upd (upd g0 0 0) 1 0) 2 0) 3 0)))] H := hP
  have hD : va_D A [(h0, .inr (11, f0)), (h4, .inl (cB, 24800, .inl g1)), (h1, .inr (1, f1)), (h2, .inr (2, (f2.set 14 (.int 1)))), (h3, .inl (cI, 32, .inl (upd (upd (upd (upd g0 0 0) 1 0) 2 0) 3 0)))] := hD
  refine lv_pop hx hb dX11_push_46 rfl ?_
  refine lv_aload_n hx hb dX11_push_47 rfl (lv_at hl 0 rfl) ?_
  refine k_get (D := D) (ci := 11) (v := .ref h1) (N := 15) hx hb hts hin11 hown hK hP 0 rfl rfl (by decide) f9_11_1 (hts (.fieldLink RX11 16 "IntegerHouse" "disk" "LIntegerHouse$Disk;") (o9_X11_push _ (List.mem_of_getElem? (i := 0) rfl))) e0 dX11_push_48 ?_
  refine lv_iconst (v := 3) hx hb dX11_push_51 (by decide) ?_
  refine k_cVv (As := [.int 3]) (rest := []) (wc := [(h1, .inr (1, f1)), (h4, .inl (cB, 24800, .inl g1))]) (wr := [(h0, .inr (11, f0)), (h2, .inr (2, (f2.set 14 (.int 1)))), (h3, .inl (cI, 32, .inl (upd (upd (upd (upd g0 0 0) 1 0) 2 0) 3 0)))]) (w1 := (fun _ : Unit => [(h1, .inr (1, (f1.set 4 (.int 1)))), (h4, .inl (cB, 24800, .inl (upd g1 0 3)))])) ⟨hx, hb, hml, hown, hts⟩ hN hX hAE hK hP hD hS hA [2, 1] [0, 3, 4] (ci := 1) rfl rfl rfl rfl (by decide +kernel) (by decide +kernel) (by decide +kernel) (c_X1_recordAct_0 l E D cI cJ cB cZ h1 f1 h4 g1 e4 e11) (cwV 1 hts g9_X11_push_X1_recordAct_263 rfl rfl rfl (by decide +kernel) ⟨Nat.le_of_ble_eq_true rfl, Nat.le_of_ble_eq_true rfl⟩) rfl hl.1 (Nat.le_of_ble_eq_true rfl) dX11_push_52 ⟨Nat.le_of_ble_eq_true rfl, Nat.le_of_ble_eq_true rfl⟩ (fun _ H locs hP hD hS => ?_)
  have hP : va_P D vwCl [(h0, .inr (11, f0)), (h2, .inr (2, (f2.set 14 (.int 1)))), (h3, .inl (cI, 32, .inl (upd (upd (upd (upd g0 0 0) 1 0) 2 0) 3 0))), (h1, .inr (1, (f1.set 4 (.int 1)))), (h4, .inl (cB, 24800, .inl (upd g1 0 3)))] H := hP
  have hD : va_D A [(h0, .inr (11, f0)), (h2, .inr (2, (f2.set 14 (.int 1)))), (h3, .inl (cI, 32, .inl (upd (upd (upd (upd g0 0 0) 1 0) 2 0) 3 0))), (h1, .inr (1, (f1.set 4 (.int 1)))), (h4, .inl (cB, 24800, .inl (upd g1 0 3)))] := hD
  refine lv_aload_n hx hb dX11_push_55 rfl (lv_at hl 0 rfl) ?_
  refine lv_dup hx hb dX11_push_56 rfl ?_
  refine k_get (D := D) (ci := 11) (v := .int 0) (N := 15) hx hb hts hin11 hown hK hP 0 rfl rfl (by decide) f9_11_14 (hts (.fieldLink RX11 137 "IntegerHouse" "acts" "I") (o9_X11_push _ (List.mem_of_getElem? (i := 13) rfl))) e12 dX11_push_57 ?_
  refine lv_iconst (v := 1) hx hb dX11_push_60 (by decide) ?_
  refine lv_iadd hx hb dX11_push_61 ?_
  refine k_topi (y := 1) (by decide) ?_
  refine k_put (D := D) (ci := 11) (v := .int 1) (ty := .int) (N := 15) hx hb hts hin11 tyX11 tyX11_ok nmX11 hown hK hP hD hS 0 rfl rfl (by decide) f9_11_14 (hts (.fieldLink RX11 137 "IntegerHouse" "acts" "I") (o9_X11_push _ (List.mem_of_getElem? (i := 13) rfl))) rfl pd_2 rfl rfl (k_len e12) dX11_push_62 (fun H locs hP hD hS => ?_)
  have hP : va_P D vwCl [(h0, .inr (11, (f0.set 14 (.int 1)))), (h2, .inr (2, (f2.set 14 (.int 1)))), (h3, .inl (cI, 32, .inl (upd (upd (upd (upd g0 0 0) 1 0) 2 0) 3 0))), (h1, .inr (1, (f1.set 4 (.int 1)))), (h4, .inl (cB, 24800, .inl (upd g1 0 3)))] H := hP
  have hD : va_D A [(h0, .inr (11, (f0.set 14 (.int 1)))), (h2, .inr (2, (f2.set 14 (.int 1)))), (h3, .inl (cI, 32, .inl (upd (upd (upd (upd g0 0 0) 1 0) 2 0) 3 0))), (h1, .inr (1, (f1.set 4 (.int 1)))), (h4, .inl (cB, 24800, .inl (upd g1 0 3)))] := hD
  refine lv_aload_n hx hb dX11_push_65 rfl (lv_at hl 0 rfl) ?_
  refine k_get (D := D) (ci := 11) (v := .ref h2) (N := 15) hx hb hts hin11 hown hK hP 0 rfl rfl (by decide) f9_11_2 (hts (.fieldLink RX11 23 "IntegerHouse" "house" "LIntegerHouse$House;") (o9_X11_push _ (List.mem_of_getElem? (i := 1) rfl))) (k_ne (by decide) e2) dX11_push_66 ?_
  refine k_getN (host := "IntegerHouse") (D := D) (ci := 2) (v := .int 1) (N := 16) hx hb hts hin2 hown hK hP 1 rfl rfl (by decide) f9_2_14 (va_Nw.use rfl (hN.1 ("IntegerHouse", 221, "IntegerHouse$House", "layers", "I", "IntegerHouse") (List.mem_of_getElem? (i := 22) rfl))) (k_set e3) dX11_push_69 ?_
  have hP := hP.sub (ws' := [(h0, .inr (11, (f0.set 14 (.int 1)))), (h1, .inr (1, (f1.set 4 (.int 1)))), (h2, .inr (2, (f2.set 14 (.int 1)))), (h3, .inl (cI, 32, .inl (upd (upd (upd (upd g0 0 0) 1 0) 2 0) 3 0))), (h4, .inl (cB, 24800, .inl (upd g1 0 3)))]) [0, 3, 1, 2, 4] rfl
  have hD := hD.sub (ws' := [(h0, .inr (11, (f0.set 14 (.int 1)))), (h1, .inr (1, (f1.set 4 (.int 1)))), (h2, .inr (2, (f2.set 14 (.int 1)))), (h3, .inl (cI, 32, .inl (upd (upd (upd (upd g0 0 0) 1 0) 2 0) 3 0))), (h4, .inl (cB, 24800, .inl (upd g1 0 3)))]) [0, 3, 1, 2, 4] (by decide +kernel) rfl
  exact W.iret (v := 1) hx hb hr (fun t ht hW => ⟨⟨1, (), rfl, rfl, kB_mk ht hW hP hK hD⟩, hS.F ht⟩) hS.2.2 dX11_push_72
set_option maxHeartbeats 400000000 in
set_option maxRecDepth 100000 in
theorem c_X12_full_1 (l : Launch) (E : kE) (D : va_G) (cI cJ cB cZ : ClassId) (h0 : Nat) (f0 : List Value) (e0 : f0[15]? = some (.int 3)) (e1 : f0[13]? = some (.int 0)) (e2 : f0[9]? = some (.int 0)) (e3 : f0[4]? = some (.int 0)) : kI l E D (kT cI cJ cB cZ) yX12_full vW_X12_full ({ frames := 0, cells := 0, slots := 0, locals := 0 }) [.ref h0] [(h0, .inr (12, f0))] (0) [(h0, .inr (12, f0))] 0 0 := by
  intro sz
  refine Met.ofW (cc := cX12_full) (maxL := 2) (ret := (some .boolean)) (by decide) rfl ?_
  intro p e s m args below meth c s₁ B hml hv
  obtain ⟨rfl, hsz, hP, hK, hD0, hN, hX⟩ := hv
  have hx := B.exec
  have hb := B.bytes
  have hr := B.returns
  have hts := atoms_spec (ws := vW_X12_full) B.pre
  have hown : s.vm.findClass RX12 = some m.cls := findClass_of_methodNamed B.named
  have hlocks := B.notSynchronized
  have hin12 : ∀ w ∈ wsX120, w ∈ vW_X12_full := u9_X12_full_wsX120
  subst hsz
  have hD := hD0.self (sz := s.heap.size)
  have hAE := k_AE hD0 hX
  generalize hAe : va_A [(h0, .inr (12, f0))] s.heap.size = A at hD hAE ⊢
  have hA : ∀ q : Nat, s.heap.size ≤ q → A q := fun q h => by rw [← hAe]; exact Or.inr h
  have hS : va_S A s.heap s.heap [] := va_S.rf
  have hP : va_P D vwCl [(h0, .inr (12, f0))] s.heap := hP
  have hl := lv_entry ([.ref h0] : List Value) (n := 2) (Nat.le_of_ble_eq_true rfl)
  rw [lg_entry_eq]
  generalize (lg_sl ([.ref h0]) ++ List.replicate (2 - (lg_sl ([.ref h0])).length) Slot.unset).toArray = ls at hl ⊢
  have hl : lv_has ls 2 [(0, .ref h0)] := hl
  refine lv_iconst (v := 1) hx hb dX12_full_0 (by decide) ?_
  refine lv_aload_n hx hb dX12_full_1 rfl (lv_at hl 0 rfl) ?_
  refine k_get (D := D) (ci := 12) (v := .int 3) (N := 195) hx hb hts hin12 hown hK hP 0 rfl rfl (by decide) f9_12_15 (hts (.fieldLink RX12 466 "IntegerHouseModel" "number" "I") (o9_X12_full _ (List.mem_of_getElem? (i := 0) rfl))) e0 dX12_full_2 ?_
  refine lv_iconst (v := 2) hx hb dX12_full_5 (by decide) ?_
  refine lv_icmp_ne (tgt := 14) hx hb dX12_full_6 (by decide) (fun _ => ?_) (fun c9 => absurd c9 (by decide))
  refine lv_iconst (v := 0) hx hb dX12_full_14 (by decide) ?_
  refine lv_iadd hx hb dX12_full_15 ?_
  refine k_topi (y := 1) (by decide) ?_
  refine lv_aload_n hx hb dX12_full_16 rfl (lv_at hl 0 rfl) ?_
  refine k_get (D := D) (ci := 12) (v := .int 3) (N := 195) hx hb hts hin12 hown hK hP 0 rfl rfl (by decide) f9_12_15 (hts (.fieldLink RX12 466 "IntegerHouseModel" "number" "I") (o9_X12_full _ (List.mem_of_getElem? (i := 0) rfl))) e0 dX12_full_17 ?_
  refine lv_iconst (v := 1) hx hb dX12_full_20 (by decide) ?_
  refine lv_icmp_ne (tgt := 33) hx hb dX12_full_21 (by decide) (fun _ => ?_) (fun c9 => absurd c9 (by decide))
  refine lv_iconst (v := 0) hx hb dX12_full_33 (by decide) ?_
  refine lv_iadd hx hb dX12_full_34 ?_
  refine k_topi (y := 1) (by decide) ?_
  refine lv_istore_n (lv' := [(1, .int 1), (0, .ref h0)]) hx hb dX12_full_35 rfl hl (by decide) rfl (fun ls hl => ?_)
  refine lv_aload_n hx hb dX12_full_36 rfl (lv_at hl 1 rfl) ?_
  refine k_get (D := D) (ci := 12) (v := .int 0) (N := 195) hx hb hts hin12 hown hK hP 0 rfl rfl (by decide) f9_12_13 (hts (.fieldLink RX12 472 "IntegerHouseModel" "replay" "Z") (o9_X12_full _ (List.mem_of_getElem? (i := 2) rfl))) e1 dX12_full_37 ?_
  refine lv_if_ne (tgt := 73) hx hb dX12_full_40 (by decide) (fun c9 => absurd (by decide) c9) (fun _ => ?_)
  refine lv_aload_n hx hb dX12_full_43 rfl (lv_at hl 1 rfl) ?_
  refine k_get (D := D) (ci := 12) (v := .int 0) (N := 195) hx hb hts hin12 hown hK hP 0 rfl rfl (by decide) f9_12_9 (hts (.fieldLink RX12 475 "IntegerHouseModel" "waitBytes" "I") (o9_X12_full _ (List.mem_of_getElem? (i := 3) rfl))) e2 dX12_full_44 ?_
  refine lv_iload_n hx hb dX12_full_47 rfl (lv_at hl 0 rfl) ?_
  refine lv_iadd hx hb dX12_full_48 ?_
  refine k_topi (y := 1) (by decide) ?_
  refine lv_sipush (v := 248) hx hb dX12_full_49 (by decide) ?_
  refine lv_iadd hx hb dX12_full_52 ?_
  refine k_topi (y := 249) (by decide) ?_
  refine lv_iconst (v := 1) hx hb dX12_full_53 (by decide) ?_
  refine lv_isub hx hb dX12_full_54 ?_
  refine k_topi (y := 248) (by decide) ?_
  refine lv_sipush (v := 248) hx hb dX12_full_55 (by decide) ?_
  refine lv_idiv hx hb dX12_full_58 (by decide) ?_
  refine k_topi (y := 1) (by decide) ?_
  refine lv_bipush (v := 100) hx hb dX12_full_59 (by decide) ?_
  refine lv_aload_n hx hb dX12_full_61 rfl (lv_at hl 1 rfl) ?_
  refine k_get (D := D) (ci := 12) (v := .int 0) (N := 195) hx hb hts hin12 hown hK hP 0 rfl rfl (by decide) f9_12_4 (hts (.fieldLink RX12 478 "IntegerHouseModel" "used" "I") (o9_X12_full _ (List.mem_of_getElem? (i := 4) rfl))) e3 dX12_full_62 ?_
  refine lv_isub hx hb dX12_full_65 ?_
  refine k_topi (y := 100) (by decide) ?_
  refine lv_icmp_le (tgt := 73) hx hb dX12_full_66 (by decide) (fun _ => ?_) (fun c9 => absurd (by decide) c9)
  refine lv_iconst (v := 0) hx hb dX12_full_73 (by decide) ?_
  exact W.zret (v := 0) hx hb hr rfl (fun t ht hW => ⟨⟨0, (), rfl, rfl, kB_mk ht hW hP hK hD⟩, hS.F ht⟩) hS.2.2 dX12_full_74
set_option maxHeartbeats 400000000 in
set_option maxRecDepth 100000 in
theorem c_X12_layer_0 (l : Launch) (E : kE) (D : va_G) (cI cJ cB cZ : ClassId) (h0 : Nat) (f0 : List Value) (h1 : Nat) (g0 : Nat → Int32) (h2 : Nat) (g1 : Nat → Int32) (e0 : f0[105]? = some (.int 0)) (e1 : f0[15]? = some (.int 3)) (e2 : f0[13]? = some (.int 0)) (e3 : f0[9]? = some (.int 0)) (e4 : f0[4]? = some (.int 0)) (e5 : f0[106]? = some (.ref h1)) (e6 : f0[32]? = some (.int 0)) (e7 : f0[107]? = some (.ref h2)) (e8 : f0[33]? = some (.int 0)) : kI l E D (kT cI cJ cB cZ) yX12_layer vW_X12_layer ({ frames := 1, cells := 0, slots := 0, locals := 21 }) [.ref h0] [(h0, .inr (12, f0)), (h1, .inl (cI, 8, .inl g0)), (h2, .inl (cI, 8, .inl g1))] (1) [(h0, .inr (12, (f0.set 105 (.int 1)))), (h1, .inl (cI, 8, .inl (upd g0 0 0))), (h2, .inl (cI, 8, .inl (upd g1 0 0)))] 0 0 := by
  intro sz
  refine Met.ofW (cc := cX12_layer) (maxL := 2) (ret := (some .int)) (by decide) rfl ?_
  intro p e s m args below meth c s₁ B hml hv
  obtain ⟨rfl, hsz, hP, hK, hD0, hN, hX⟩ := hv
  have hx := B.exec
  have hb := B.bytes
  have hr := B.returns
  have hts := atoms_spec (ws := vW_X12_layer) B.pre
  have hown : s.vm.findClass RX12 = some m.cls := findClass_of_methodNamed B.named
  have hlocks := B.notSynchronized
  have hin12 : ∀ w ∈ wsX120, w ∈ vW_X12_layer := u9_X12_layer_wsX120
  subst hsz
  have hD := hD0.self (sz := s.heap.size)
  have hAE := k_AE hD0 hX
  generalize hAe : va_A [(h0, .inr (12, f0)), (h1, .inl (cI, 8, .inl g0)), (h2, .inl (cI, 8, .inl g1))] s.heap.size = A at hD hAE ⊢
  have hA : ∀ q : Nat, s.heap.size ≤ q → A q := fun q h => by rw [← hAe]; exact Or.inr h
  have hS : va_S A s.heap s.heap [] := va_S.rf
  have hP : va_P D vwCl [(h0, .inr (12, f0)), (h1, .inl (cI, 8, .inl g0)), (h2, .inl (cI, 8, .inl g1))] s.heap := hP
  have hl := lv_entry ([.ref h0] : List Value) (n := 2) (Nat.le_of_ble_eq_true rfl)
  rw [lg_entry_eq]
  generalize (lg_sl ([.ref h0]) ++ List.replicate (2 - (lg_sl ([.ref h0])).length) Slot.unset).toArray = ls at hl ⊢
  have hl : lv_has ls 2 [(0, .ref h0)] := hl
  refine lv_aload_n hx hb dX12_layer_0 rfl (lv_at hl 0 rfl) ?_
  refine k_get (D := D) (ci := 12) (v := .int 0) (N := 195) hx hb hts hin12 hown hK hP 0 rfl rfl (by decide) f9_12_105 (hts (.fieldLink RX12 821 "IntegerHouseModel" "layers" "I") (o9_X12_layer _ (List.mem_of_getElem? (i := 0) rfl))) e0 dX12_layer_1 ?_
  refine lv_bipush (v := 8) hx hb dX12_layer_4 (by decide) ?_
  refine lv_icmp_eq (tgt := 16) hx hb dX12_layer_6 (by decide) (fun c9 => absurd c9 (by decide)) (fun _ => ?_)
  refine lv_aload_n hx hb dX12_layer_9 rfl (lv_at hl 0 rfl) ?_
  refine k_cVi (As := []) (rest := []) (wc := [(h0, .inr (12, f0))]) (wr := [(h1, .inl (cI, 8, .inl g0)), (h2, .inl (cI, 8, .inl g1))]) (w1 := [(h0, .inr (12, f0))]) ⟨hx, hb, hml, hown, hts⟩ hN hX hAE hK hP hD hS hA [0] [1, 2] (ci := 12) rfl rfl rfl rfl (by decide +kernel) (by decide +kernel) (by decide +kernel) (c_X12_full_1 l E D cI cJ cB cZ h0 f0 e1 e2 e3 e4) (cwV 0 hts g9_X12_layer_X12_full_865 rfl rfl rfl (by decide +kernel) ⟨Nat.le_of_ble_eq_true rfl, Nat.le_of_ble_eq_true rfl⟩) rfl hl.1 (Nat.le_of_ble_eq_true rfl) dX12_layer_10 ⟨Nat.le_of_ble_eq_true rfl, Nat.le_of_ble_eq_true rfl⟩ (fun H locs hP hD hS => ?_)
  have hP : va_P D vwCl [(h1, .inl (cI, 8, .inl g0)), (h2, .inl (cI, 8, .inl g1)), (h0, .inr (12, f0))] H := hP
  have hD : va_D A [(h1, .inl (cI, 8, .inl g0)), (h2, .inl (cI, 8, .inl g1)), (h0, .inr (12, f0))] := hD
  refine lv_if_eq (tgt := 23) hx hb dX12_layer_13 (by decide) (fun _ => ?_) (fun c9 => absurd (by decide) c9)
  refine lv_aload_n hx hb dX12_layer_23 rfl (lv_at hl 0 rfl) ?_
  refine k_get (D := D) (ci := 12) (v := .ref h1) (N := 195) hx hb hts hin12 hown hK hP 2 rfl rfl (by decide) f9_12_106 (hts (.fieldLink RX12 271 "IntegerHouseModel" "layerVariables" "[I") (o9_X12_layer _ (List.mem_of_getElem? (i := 5) rfl))) e5 dX12_layer_24 ?_
  refine lv_aload_n hx hb dX12_layer_27 rfl (lv_at hl 0 rfl) ?_
  refine k_get (D := D) (ci := 12) (v := .int 0) (N := 195) hx hb hts hin12 hown hK hP 2 rfl rfl (by decide) f9_12_105 (hts (.fieldLink RX12 821 "IntegerHouseModel" "layers" "I") (o9_X12_layer _ (List.mem_of_getElem? (i := 0) rfl))) e0 dX12_layer_28 ?_
  refine lv_aload_n hx hb dX12_layer_31 rfl (lv_at hl 0 rfl) ?_
  refine k_get (D := D) (ci := 12) (v := .int 0) (N := 195) hx hb hts hin12 hown hK hP 2 rfl rfl (by decide) f9_12_32 (hts (.fieldLink RX12 815 "IntegerHouseModel" "variables" "I") (o9_X12_layer _ (List.mem_of_getElem? (i := 6) rfl))) e6 dX12_layer_32 ?_
  refine va_iast hx hb hK hP hD hS 0 0 rfl rfl (k_in (by decide)) dX12_layer_35 (fun H locs hP hD hS => ?_)
  have hP : va_P D vwCl [(h1, .inl (cI, 8, .inl (upd g0 0 0))), (h2, .inl (cI, 8, .inl g1)), (h0, .inr (12, f0))] H := hP
  have hD : va_D A [(h1, .inl (cI, 8, .inl (upd g0 0 0))), (h2, .inl (cI, 8, .inl g1)), (h0, .inr (12, f0))] := hD
  refine lv_aload_n hx hb dX12_layer_36 rfl (lv_at hl 0 rfl) ?_
  refine k_get (D := D) (ci := 12) (v := .ref h2) (N := 195) hx hb hts hin12 hown hK hP 2 rfl rfl (by decide) f9_12_107 (hts (.fieldLink RX12 274 "IntegerHouseModel" "layerClaims" "[I") (o9_X12_layer _ (List.mem_of_getElem? (i := 7) rfl))) e7 dX12_layer_37 ?_
  refine lv_aload_n hx hb dX12_layer_40 rfl (lv_at hl 0 rfl) ?_
  refine k_get (D := D) (ci := 12) (v := .int 0) (N := 195) hx hb hts hin12 hown hK hP 2 rfl rfl (by decide) f9_12_105 (hts (.fieldLink RX12 821 "IntegerHouseModel" "layers" "I") (o9_X12_layer _ (List.mem_of_getElem? (i := 0) rfl))) e0 dX12_layer_41 ?_
  refine lv_aload_n hx hb dX12_layer_44 rfl (lv_at hl 0 rfl) ?_
  refine k_get (D := D) (ci := 12) (v := .int 0) (N := 195) hx hb hts hin12 hown hK hP 2 rfl rfl (by decide) f9_12_33 (hts (.fieldLink RX12 818 "IntegerHouseModel" "claims" "I") (o9_X12_layer _ (List.mem_of_getElem? (i := 8) rfl))) e8 dX12_layer_45 ?_
  refine va_iast hx hb hK hP hD hS 1 0 rfl rfl (k_in (by decide)) dX12_layer_48 (fun H locs hP hD hS => ?_)
  have hP : va_P D vwCl [(h1, .inl (cI, 8, .inl (upd g0 0 0))), (h2, .inl (cI, 8, .inl (upd g1 0 0))), (h0, .inr (12, f0))] H := hP
  have hD : va_D A [(h1, .inl (cI, 8, .inl (upd g0 0 0))), (h2, .inl (cI, 8, .inl (upd g1 0 0))), (h0, .inr (12, f0))] := hD
  refine lv_iconst (v := 0) hx hb dX12_layer_49 (by decide) ?_
  refine lv_istore_n (lv' := [(1, .int 0), (0, .ref h0)]) hx hb dX12_layer_50 rfl hl (by decide) rfl (fun ls hl => ?_)
  refine lv_iload_n hx hb dX12_layer_51 rfl (lv_at hl 0 rfl) ?_
  refine lv_aload_n hx hb dX12_layer_52 rfl (lv_at hl 1 rfl) ?_
  refine k_get (D := D) (ci := 12) (v := .int 0) (N := 195) hx hb hts hin12 hown hK hP 2 rfl rfl (by decide) f9_12_33 (hts (.fieldLink RX12 818 "IntegerHouseModel" "claims" "I") (o9_X12_layer _ (List.mem_of_getElem? (i := 8) rfl))) e8 dX12_layer_53 ?_
  refine lv_icmp_ge (tgt := 85) hx hb dX12_layer_56 (by decide) (fun _ => ?_) (fun c9 => absurd (by decide) c9)
  refine lv_aload_n hx hb dX12_layer_85 rfl (lv_at hl 1 rfl) ?_
  refine lv_dup hx hb dX12_layer_86 rfl ?_
  refine k_get (D := D) (ci := 12) (v := .int 0) (N := 195) hx hb hts hin12 hown hK hP 2 rfl rfl (by decide) f9_12_105 (hts (.fieldLink RX12 821 "IntegerHouseModel" "layers" "I") (o9_X12_layer _ (List.mem_of_getElem? (i := 0) rfl))) e0 dX12_layer_87 ?_
  refine lv_iconst (v := 1) hx hb dX12_layer_90 (by decide) ?_
  refine lv_iadd hx hb dX12_layer_91 ?_
  refine k_topi (y := 1) (by decide) ?_
  refine k_put (D := D) (ci := 12) (v := .int 1) (ty := .int) (N := 195) hx hb hts hin12 tyX12 tyX12_ok nmX12 hown hK hP hD hS 2 rfl rfl (by decide) f9_12_105 (hts (.fieldLink RX12 821 "IntegerHouseModel" "layers" "I") (o9_X12_layer _ (List.mem_of_getElem? (i := 0) rfl))) rfl pd_2 rfl rfl (k_len e0) dX12_layer_92 (fun H locs hP hD hS => ?_)
  have hP : va_P D vwCl [(h1, .inl (cI, 8, .inl (upd g0 0 0))), (h2, .inl (cI, 8, .inl (upd g1 0 0))), (h0, .inr (12, (f0.set 105 (.int 1))))] H := hP
  have hD : va_D A [(h1, .inl (cI, 8, .inl (upd g0 0 0))), (h2, .inl (cI, 8, .inl (upd g1 0 0))), (h0, .inr (12, (f0.set 105 (.int 1))))] := hD
  refine lv_aload_n hx hb dX12_layer_95 rfl (lv_at hl 1 rfl) ?_
  refine k_get (D := D) (ci := 12) (v := .int 1) (N := 195) hx hb hts hin12 hown hK hP 2 rfl rfl (by decide) f9_12_105 (hts (.fieldLink RX12 821 "IntegerHouseModel" "layers" "I") (o9_X12_layer _ (List.mem_of_getElem? (i := 0) rfl))) (k_set e0) dX12_layer_96 ?_
  have hP := hP.sub (ws' := [(h0, .inr (12, (f0.set 105 (.int 1)))), (h1, .inl (cI, 8, .inl (upd g0 0 0))), (h2, .inl (cI, 8, .inl (upd g1 0 0)))]) [2, 0, 1] rfl
  have hD := hD.sub (ws' := [(h0, .inr (12, (f0.set 105 (.int 1)))), (h1, .inl (cI, 8, .inl (upd g0 0 0))), (h2, .inl (cI, 8, .inl (upd g1 0 0)))]) [2, 0, 1] (by decide +kernel) rfl
  exact W.iret (v := 1) hx hb hr (fun t ht hW => ⟨⟨1, (), rfl, rfl, kB_mk ht hW hP hK hD⟩, hS.F ht⟩) hS.2.2 dX12_layer_99
set_option maxHeartbeats 400000000 in
set_option maxRecDepth 100000 in
theorem c_X12_act_3 (l : Launch) (E : kE) (D : va_G) (cI cJ cB cZ : ClassId) (h0 : Nat) (f0 : List Value) (h1 : Nat) (h2 : Nat) (g0 : Nat → Int32) (g1 : Nat → Int32) (e0 : f0[15]? = some (.int 3)) (e1 : f0[105]? = some (.int 0)) (e2 : f0[13]? = some (.int 0)) (e3 : f0[9]? = some (.int 0)) (e4 : f0[4]? = some (.int 0)) (e5 : f0[106]? = some (.ref h1)) (e6 : f0[32]? = some (.int 0)) (e7 : f0[107]? = some (.ref h2)) (e8 : f0[33]? = some (.int 0)) : kI l E D (kT cI cJ cB cZ) yX12_act vW_X12_act ({ frames := 2, cells := 0, slots := 0, locals := 42 }) [.ref h0] [(h0, .inr (12, f0)), (h1, .inl (cI, 8, .inl g0)), (h2, .inl (cI, 8, .inl g1))] (1) [(h0, .inr (12, (f0.set 105 (.int 1)))), (h1, .inl (cI, 8, .inl (upd g0 0 0))), (h2, .inl (cI, 8, .inl (upd g1 0 0)))] 0 0 := by
  intro sz
  refine Met.ofW (cc := cX12_act) (maxL := 1) (ret := (some .int)) (by decide) rfl ?_
  intro p e s m args below meth c s₁ B hml hv
  obtain ⟨rfl, hsz, hP, hK, hD0, hN, hX⟩ := hv
  have hx := B.exec
  have hb := B.bytes
  have hr := B.returns
  have hts := atoms_spec (ws := vW_X12_act) B.pre
  have hown : s.vm.findClass RX12 = some m.cls := findClass_of_methodNamed B.named
  have hlocks := B.notSynchronized
  have hin12 : ∀ w ∈ wsX120, w ∈ vW_X12_act := u9_X12_act_wsX120
  subst hsz
  have hD := hD0.self (sz := s.heap.size)
  have hAE := k_AE hD0 hX
  generalize hAe : va_A [(h0, .inr (12, f0)), (h1, .inl (cI, 8, .inl g0)), (h2, .inl (cI, 8, .inl g1))] s.heap.size = A at hD hAE ⊢
  have hA : ∀ q : Nat, s.heap.size ≤ q → A q := fun q h => by rw [← hAe]; exact Or.inr h
  have hS : va_S A s.heap s.heap [] := va_S.rf
  have hP : va_P D vwCl [(h0, .inr (12, f0)), (h1, .inl (cI, 8, .inl g0)), (h2, .inl (cI, 8, .inl g1))] s.heap := hP
  have hl := lv_entry ([.ref h0] : List Value) (n := 1) (Nat.le_of_ble_eq_true rfl)
  rw [lg_entry_eq]
  generalize (lg_sl ([.ref h0]) ++ List.replicate (1 - (lg_sl ([.ref h0])).length) Slot.unset).toArray = ls at hl ⊢
  have hl : lv_has ls 1 [(0, .ref h0)] := hl
  refine lv_aload_n hx hb dX12_act_0 rfl (lv_at hl 0 rfl) ?_
  refine k_get (D := D) (ci := 12) (v := .int 3) (N := 195) hx hb hts hin12 hown hK hP 0 rfl rfl (by decide) f9_12_15 (hts (.fieldLink RX12 466 "IntegerHouseModel" "number" "I") (o9_X12_act _ (List.mem_of_getElem? (i := 0) rfl))) e0 dX12_act_1 ?_
  refine lv_tableIn (off := 38) (tgt := 42) hx hb dX12_act_4 (by decide) (by decide) rfl (by decide) ?_
  refine lv_aload_n hx hb dX12_act_42 rfl (lv_at hl 0 rfl) ?_
  refine k_cVi (As := []) (rest := []) (wc := [(h0, .inr (12, f0)), (h1, .inl (cI, 8, .inl g0)), (h2, .inl (cI, 8, .inl g1))]) (wr := []) (w1 := [(h0, .inr (12, (f0.set 105 (.int 1)))), (h1, .inl (cI, 8, .inl (upd g0 0 0))), (h2, .inl (cI, 8, .inl (upd g1 0 0)))]) ⟨hx, hb, hml, hown, hts⟩ hN hX hAE hK hP hD hS hA [0, 1, 2] [] (ci := 12) rfl rfl rfl rfl (by decide +kernel) (by decide +kernel) (by decide +kernel) (c_X12_layer_0 l E D cI cJ cB cZ h0 f0 h1 g0 h2 g1 e1 e0 e2 e3 e4 e5 e6 e7 e8) (cwV 0 hts g9_X12_act_X12_layer_830 rfl rfl rfl (by decide +kernel) ⟨Nat.le_of_ble_eq_true rfl, Nat.le_of_ble_eq_true rfl⟩) rfl hl.1 (Nat.le_of_ble_eq_true rfl) dX12_act_43 ⟨Nat.le_of_ble_eq_true rfl, Nat.le_of_ble_eq_true rfl⟩ (fun H locs hP hD hS => ?_)
  have hP : va_P D vwCl [(h0, .inr (12, (f0.set 105 (.int 1)))), (h1, .inl (cI, 8, .inl (upd g0 0 0))), (h2, .inl (cI, 8, .inl (upd g1 0 0)))] H := hP
  have hD : va_D A [(h0, .inr (12, (f0.set 105 (.int 1)))), (h1, .inl (cI, 8, .inl (upd g0 0 0))), (h2, .inl (cI, 8, .inl (upd g1 0 0)))] := hD
  exact W.iret (v := 1) hx hb hr (fun t ht hW => ⟨⟨1, (), rfl, rfl, kB_mk ht hW hP hK hD⟩, hS.F ht⟩) hS.2.2 dX12_act_46
set_option maxHeartbeats 400000000 in
set_option maxRecDepth 100000 in
theorem c_X12_note_3 (l : Launch) (E : kE) (D : va_G) (cI cJ cB cZ : ClassId) (h0 : Nat) (f0 : List Value) (h1 : Nat) (g0 : Nat → Int32) (e0 : f0[8]? = some (.ref h1)) (e1 : f0[9]? = some (.int 0)) : kV l E D (kT cI cJ cB cZ) yX12_note vW_X12_note ({ frames := 0, cells := 0, slots := 0, locals := 0 }) [.ref h0, .int 3] [(h0, .inr (12, f0)), (h1, .inl (cB, 24800, .inl g0))] (fun _ : Unit => [(h0, .inr (12, (f0.set 9 (.int 1)))), (h1, .inl (cB, 24800, .inl (upd g0 0 3)))]) 0 0 := by
  intro sz
  refine Met.ofW (cc := cX12_note) (maxL := 2) (ret := none) (by decide) rfl ?_
  intro p e s m args below meth c s₁ B hml hv
  obtain ⟨rfl, hsz, hP, hK, hD0, hN, hX⟩ := hv
  have hx := B.exec
  have hb := B.bytes
  have hr := B.returns
  have hts := atoms_spec (ws := vW_X12_note) B.pre
  have hown : s.vm.findClass RX12 = some m.cls := findClass_of_methodNamed B.named
  have hlocks := B.notSynchronized
  have hin12 : ∀ w ∈ wsX120, w ∈ vW_X12_note := u9_X12_note_wsX120
  subst hsz
  have hD := hD0.self (sz := s.heap.size)
  have hAE := k_AE hD0 hX
  generalize hAe : va_A [(h0, .inr (12, f0)), (h1, .inl (cB, 24800, .inl g0))] s.heap.size = A at hD hAE ⊢
  have hA : ∀ q : Nat, s.heap.size ≤ q → A q := fun q h => by rw [← hAe]; exact Or.inr h
  have hS : va_S A s.heap s.heap [] := va_S.rf
  have hP : va_P D vwCl [(h0, .inr (12, f0)), (h1, .inl (cB, 24800, .inl g0))] s.heap := hP
  have hl := lv_entry ([.ref h0, .int 3] : List Value) (n := 2) (Nat.le_of_ble_eq_true rfl)
  rw [lg_entry_eq]
  generalize (lg_sl ([.ref h0, .int 3]) ++ List.replicate (2 - (lg_sl ([.ref h0, .int 3])).length) Slot.unset).toArray = ls at hl ⊢
  have hl : lv_has ls 2 [(0, .ref h0), (1, .int 3)] := hl
  refine lv_aload_n hx hb dX12_note_0 rfl (lv_at hl 0 rfl) ?_
  refine k_get (D := D) (ci := 12) (v := .ref h1) (N := 195) hx hb hts hin12 hown hK hP 0 rfl rfl (by decide) f9_12_8 (hts (.fieldLink RX12 25 "IntegerHouseModel" "waits" "[B") (o9_X12_note _ (List.mem_of_getElem? (i := 0) rfl))) e0 dX12_note_1 ?_
  refine lv_aload_n hx hb dX12_note_4 rfl (lv_at hl 0 rfl) ?_
  refine k_get (D := D) (ci := 12) (v := .int 0) (N := 195) hx hb hts hin12 hown hK hP 0 rfl rfl (by decide) f9_12_9 (hts (.fieldLink RX12 475 "IntegerHouseModel" "waitBytes" "I") (o9_X12_note _ (List.mem_of_getElem? (i := 1) rfl))) e1 dX12_note_5 ?_
  refine lv_iload_n hx hb dX12_note_8 rfl (lv_at hl 1 rfl) ?_
  refine lv_i2b (v := 3) hx hb dX12_note_9 (by decide) ?_
  refine va_bast hx hb hK hP hD hS 1 2 rfl rfl (k_in (by decide)) dX12_note_10 (fun H locs hP hD hS => ?_)
  have hP : va_P D vwCl [(h0, .inr (12, f0)), (h1, .inl (cB, 24800, .inl (upd g0 0 3)))] H := hP
  have hD : va_D A [(h0, .inr (12, f0)), (h1, .inl (cB, 24800, .inl (upd g0 0 3)))] := hD
  refine lv_aload_n hx hb dX12_note_11 rfl (lv_at hl 0 rfl) ?_
  refine lv_dup hx hb dX12_note_12 rfl ?_
  refine k_get (D := D) (ci := 12) (v := .int 0) (N := 195) hx hb hts hin12 hown hK hP 0 rfl rfl (by decide) f9_12_9 (hts (.fieldLink RX12 475 "IntegerHouseModel" "waitBytes" "I") (o9_X12_note _ (List.mem_of_getElem? (i := 1) rfl))) e1 dX12_note_13 ?_
  refine lv_iconst (v := 1) hx hb dX12_note_16 (by decide) ?_
  refine lv_iadd hx hb dX12_note_17 ?_
  refine k_topi (y := 1) (by decide) ?_
  refine k_put (D := D) (ci := 12) (v := .int 1) (ty := .int) (N := 195) hx hb hts hin12 tyX12 tyX12_ok nmX12 hown hK hP hD hS 0 rfl rfl (by decide) f9_12_9 (hts (.fieldLink RX12 475 "IntegerHouseModel" "waitBytes" "I") (o9_X12_note _ (List.mem_of_getElem? (i := 1) rfl))) rfl pd_2 rfl rfl (k_len e1) dX12_note_18 (fun H locs hP hD hS => ?_)
  have hP : va_P D vwCl [(h0, .inr (12, (f0.set 9 (.int 1)))), (h1, .inl (cB, 24800, .inl (upd g0 0 3)))] H := hP
  have hD : va_D A [(h0, .inr (12, (f0.set 9 (.int 1)))), (h1, .inl (cB, 24800, .inl (upd g0 0 3)))] := hD
  exact W.vret hx hb hr (fun t ht hW => ⟨⟨(), rfl, trivial, kB_mk ht hW hP hK hD⟩, hS.F ht⟩) hS.2.2 dX12_note_21
set_option maxHeartbeats 400000000 in
set_option maxRecDepth 100000 in
theorem c_X12_call_3 (l : Launch) (E : kE) (D : va_G) (cI cJ cB cZ : ClassId) (h0 : Nat) (f0 : List Value) (h1 : Nat) (h2 : Nat) (g0 : Nat → Int32) (g1 : Nat → Int32) (h3 : Nat) (g2 : Nat → Int32) (e0 : f0[0]? = some (.int 0)) (e1 : f0[5]? = some (.int 0)) (e2 : f0[15]? = some (.int 0)) (e3 : f0[13]? = some (.int 0)) (e4 : f0[14]? = some (.int 0)) (e5 : f0[105]? = some (.int 0)) (e6 : f0[9]? = some (.int 0)) (e7 : f0[4]? = some (.int 0)) (e8 : f0[106]? = some (.ref h1)) (e9 : f0[32]? = some (.int 0)) (e10 : f0[107]? = some (.ref h2)) (e11 : f0[33]? = some (.int 0)) (e12 : f0[16]? = some (.int 0)) (e13 : f0[8]? = some (.ref h3)) : kI l E D (kT cI cJ cB cZ) yX12_call vW_X12_call ({ frames := 3, cells := 0, slots := 0, locals := 62 }) [.ref h0, .int 3] [(h0, .inr (12, f0)), (h1, .inl (cI, 8, .inl g0)), (h2, .inl (cI, 8, .inl g1)), (h3, .inl (cB, 24800, .inl g2))] (1) [(h0, .inr (12, (((((((f0.set 0 (.int 0)).set 15 (.int 3)).set 13 (.int 0)).set 14 (.int 0)).set 105 (.int 1)).set 16 (.int 1)).set 9 (.int 1)))), (h1, .inl (cI, 8, .inl (upd g0 0 0))), (h2, .inl (cI, 8, .inl (upd g1 0 0))), (h3, .inl (cB, 24800, .inl (upd g2 0 3)))] 0 0 := by
  intro sz
  refine Met.ofW (cc := cX12_call) (maxL := 4) (ret := (some .int)) (by decide) rfl ?_
  intro p e s m args below meth c s₁ B hml hv
  obtain ⟨rfl, hsz, hP, hK, hD0, hN, hX⟩ := hv
  have hx := B.exec
  have hb := B.bytes
  have hr := B.returns
  have hts := atoms_spec (ws := vW_X12_call) B.pre
  have hown : s.vm.findClass RX12 = some m.cls := findClass_of_methodNamed B.named
  have hlocks := B.notSynchronized
  have hin12 : ∀ w ∈ wsX120, w ∈ vW_X12_call := u9_X12_call_wsX120
  subst hsz
  have hD := hD0.self (sz := s.heap.size)
  have hAE := k_AE hD0 hX
  generalize hAe : va_A [(h0, .inr (12, f0)), (h1, .inl (cI, 8, .inl g0)), (h2, .inl (cI, 8, .inl g1)), (h3, .inl (cB, 24800, .inl g2))] s.heap.size = A at hD hAE ⊢
  have hA : ∀ q : Nat, s.heap.size ≤ q → A q := fun q h => by rw [← hAe]; exact Or.inr h
  have hS : va_S A s.heap s.heap [] := va_S.rf
  have hP : va_P D vwCl [(h0, .inr (12, f0)), (h1, .inl (cI, 8, .inl g0)), (h2, .inl (cI, 8, .inl g1)), (h3, .inl (cB, 24800, .inl g2))] s.heap := hP
  have hl := lv_entry ([.ref h0, .int 3] : List Value) (n := 4) (Nat.le_of_ble_eq_true rfl)
  rw [lg_entry_eq]
  generalize (lg_sl ([.ref h0, .int 3]) ++ List.replicate (4 - (lg_sl ([.ref h0, .int 3])).length) Slot.unset).toArray = ls at hl ⊢
  have hl : lv_has ls 4 [(0, .ref h0), (1, .int 3)] := hl
  refine lv_aload_n hx hb dX12_call_0 rfl (lv_at hl 0 rfl) ?_
  refine lv_iconst (v := 0) hx hb dX12_call_1 (by decide) ?_
  refine k_put (D := D) (ci := 12) (v := .int 0) (ty := .int) (N := 195) hx hb hts hin12 tyX12 tyX12_ok nmX12 hown hK hP hD hS 0 rfl rfl (by decide) f9_12_0 (hts (.fieldLink RX12 3 "IntegerHouseModel" "thrown" "I") (o9_X12_call _ (List.mem_of_getElem? (i := 0) rfl))) rfl pd_2 rfl rfl (k_len e0) dX12_call_2 (fun H locs hP hD hS => ?_)
  have hP : va_P D vwCl [(h0, .inr (12, (f0.set 0 (.int 0)))), (h1, .inl (cI, 8, .inl g0)), (h2, .inl (cI, 8, .inl g1)), (h3, .inl (cB, 24800, .inl g2))] H := hP
  have hD : va_D A [(h0, .inr (12, (f0.set 0 (.int 0)))), (h1, .inl (cI, 8, .inl g0)), (h2, .inl (cI, 8, .inl g1)), (h3, .inl (cB, 24800, .inl g2))] := hD
  refine lv_aload_n hx hb dX12_call_5 rfl (lv_at hl 0 rfl) ?_
  refine k_get (D := D) (ci := 12) (v := .int 0) (N := 195) hx hb hts hin12 hown hK hP 0 rfl rfl (by decide) f9_12_5 (hts (.fieldLink RX12 488 "IntegerHouseModel" "down" "Z") (o9_X12_call _ (List.mem_of_getElem? (i := 1) rfl))) (k_ne (by decide) e1) dX12_call_6 ?_
  refine lv_if_eq (tgt := 15) hx hb dX12_call_9 (by decide) (fun _ => ?_) (fun c9 => absurd (by decide) c9)
  refine lv_aload_n hx hb dX12_call_15 rfl (lv_at hl 0 rfl) ?_
  refine lv_iload_n hx hb dX12_call_16 rfl (lv_at hl 1 rfl) ?_
  refine k_put (D := D) (ci := 12) (v := .int 3) (ty := .int) (N := 195) hx hb hts hin12 tyX12 tyX12_ok nmX12 hown hK hP hD hS 0 rfl rfl (by decide) f9_12_15 (hts (.fieldLink RX12 466 "IntegerHouseModel" "number" "I") (o9_X12_call _ (List.mem_of_getElem? (i := 2) rfl))) rfl pd_2 rfl rfl (k_len (k_ne (by decide) e2)) dX12_call_17 (fun H locs hP hD hS => ?_)
  have hP : va_P D vwCl [(h0, .inr (12, ((f0.set 0 (.int 0)).set 15 (.int 3)))), (h1, .inl (cI, 8, .inl g0)), (h2, .inl (cI, 8, .inl g1)), (h3, .inl (cB, 24800, .inl g2))] H := hP
  have hD : va_D A [(h0, .inr (12, ((f0.set 0 (.int 0)).set 15 (.int 3)))), (h1, .inl (cI, 8, .inl g0)), (h2, .inl (cI, 8, .inl g1)), (h3, .inl (cB, 24800, .inl g2))] := hD
  refine lv_aload_n hx hb dX12_call_20 rfl (lv_at hl 0 rfl) ?_
  refine lv_iconst (v := 0) hx hb dX12_call_21 (by decide) ?_
  refine k_put (D := D) (ci := 12) (v := .int 0) (ty := .boolean) (N := 195) hx hb hts hin12 tyX12 tyX12_ok nmX12 hown hK hP hD hS 0 rfl rfl (by decide) f9_12_13 (hts (.fieldLink RX12 472 "IntegerHouseModel" "replay" "Z") (o9_X12_call _ (List.mem_of_getElem? (i := 3) rfl))) rfl pd_18 rfl rfl (k_len (k_ne (by decide) (k_ne (by decide) e3))) dX12_call_22 (fun H locs hP hD hS => ?_)
  have hP : va_P D vwCl [(h0, .inr (12, (((f0.set 0 (.int 0)).set 15 (.int 3)).set 13 (.int 0)))), (h1, .inl (cI, 8, .inl g0)), (h2, .inl (cI, 8, .inl g1)), (h3, .inl (cB, 24800, .inl g2))] H := hP
  have hD : va_D A [(h0, .inr (12, (((f0.set 0 (.int 0)).set 15 (.int 3)).set 13 (.int 0)))), (h1, .inl (cI, 8, .inl g0)), (h2, .inl (cI, 8, .inl g1)), (h3, .inl (cB, 24800, .inl g2))] := hD
  refine lv_aload_n hx hb dX12_call_25 rfl (lv_at hl 0 rfl) ?_
  refine lv_iconst (v := 0) hx hb dX12_call_26 (by decide) ?_
  refine k_put (D := D) (ci := 12) (v := .int 0) (ty := .boolean) (N := 195) hx hb hts hin12 tyX12 tyX12_ok nmX12 hown hK hP hD hS 0 rfl rfl (by decide) f9_12_14 (hts (.fieldLink RX12 462 "IntegerHouseModel" "refused" "Z") (o9_X12_call _ (List.mem_of_getElem? (i := 4) rfl))) rfl pd_18 rfl rfl (k_len (k_ne (by decide) (k_ne (by decide) (k_ne (by decide) e4)))) dX12_call_27 (fun H locs hP hD hS => ?_)
  have hP : va_P D vwCl [(h0, .inr (12, ((((f0.set 0 (.int 0)).set 15 (.int 3)).set 13 (.int 0)).set 14 (.int 0)))), (h1, .inl (cI, 8, .inl g0)), (h2, .inl (cI, 8, .inl g1)), (h3, .inl (cB, 24800, .inl g2))] H := hP
  have hD : va_D A [(h0, .inr (12, ((((f0.set 0 (.int 0)).set 15 (.int 3)).set 13 (.int 0)).set 14 (.int 0)))), (h1, .inl (cI, 8, .inl g0)), (h2, .inl (cI, 8, .inl g1)), (h3, .inl (cB, 24800, .inl g2))] := hD
  refine lv_iload_n hx hb dX12_call_30 rfl (lv_at hl 1 rfl) ?_
  refine lv_iconst (v := 1) hx hb dX12_call_31 (by decide) ?_
  refine lv_icmp_ne (tgt := 39) hx hb dX12_call_32 (by decide) (fun _ => ?_) (fun c9 => absurd c9 (by decide))
  refine lv_aload_n hx hb dX12_call_39 rfl (lv_at hl 0 rfl) ?_
  refine k_cVi (As := []) (rest := []) (wc := [(h0, .inr (12, ((((f0.set 0 (.int 0)).set 15 (.int 3)).set 13 (.int 0)).set 14 (.int 0)))), (h1, .inl (cI, 8, .inl g0)), (h2, .inl (cI, 8, .inl g1))]) (wr := [(h3, .inl (cB, 24800, .inl g2))]) (w1 := [(h0, .inr (12, (((((f0.set 0 (.int 0)).set 15 (.int 3)).set 13 (.int 0)).set 14 (.int 0)).set 105 (.int 1)))), (h1, .inl (cI, 8, .inl (upd g0 0 0))), (h2, .inl (cI, 8, .inl (upd g1 0 0)))]) ⟨hx, hb, hml, hown, hts⟩ hN hX hAE hK hP hD hS hA [0, 1, 2] [3] (ci := 12) rfl rfl rfl rfl (by decide +kernel) (by decide +kernel) (by decide +kernel) (c_X12_act_3 l E D cI cJ cB cZ h0 (((((f0.set 0 (.int 0)).set 15 (.int 3)).set 13 (.int 0)).set 14 (.int 0))) h1 h2 g0 g1 (k_ne (by decide) (k_ne (by decide) (k_set (k_ne (by decide) e2)))) (k_ne (by decide) (k_ne (by decide) (k_ne (by decide) (k_ne (by decide) e5)))) (k_ne (by decide) (k_set (k_ne (by decide) (k_ne (by decide) e3)))) (k_ne (by decide) (k_ne (by decide) (k_ne (by decide) (k_ne (by decide) e6)))) (k_ne (by decide) (k_ne (by decide) (k_ne (by decide) (k_ne (by decide) e7)))) (k_ne (by decide) (k_ne (by decide) (k_ne (by decide) (k_ne (by decide) e8)))) (k_ne (by decide) (k_ne (by decide) (k_ne (by decide) (k_ne (by decide) e9)))) (k_ne (by decide) (k_ne (by decide) (k_ne (by decide) (k_ne (by decide) e10)))) (k_ne (by decide) (k_ne (by decide) (k_ne (by decide) (k_ne (by decide) e11))))) (cwV 0 hts g9_X12_call_X12_act_494 rfl rfl rfl (by decide +kernel) ⟨Nat.le_of_ble_eq_true rfl, Nat.le_of_ble_eq_true rfl⟩) rfl hl.1 (Nat.le_of_ble_eq_true rfl) dX12_call_40 ⟨Nat.le_of_ble_eq_true rfl, Nat.le_of_ble_eq_true rfl⟩ (fun H locs hP hD hS => ?_)
  have hP : va_P D vwCl [(h3, .inl (cB, 24800, .inl g2)), (h0, .inr (12, (((((f0.set 0 (.int 0)).set 15 (.int 3)).set 13 (.int 0)).set 14 (.int 0)).set 105 (.int 1)))), (h1, .inl (cI, 8, .inl (upd g0 0 0))), (h2, .inl (cI, 8, .inl (upd g1 0 0)))] H := hP
  have hD : va_D A [(h3, .inl (cB, 24800, .inl g2)), (h0, .inr (12, (((((f0.set 0 (.int 0)).set 15 (.int 3)).set 13 (.int 0)).set 14 (.int 0)).set 105 (.int 1)))), (h1, .inl (cI, 8, .inl (upd g0 0 0))), (h2, .inl (cI, 8, .inl (upd g1 0 0)))] := hD
  refine lv_istore_n (lv' := [(2, .int 1), (0, .ref h0), (1, .int 3)]) hx hb dX12_call_43 rfl hl (by decide) rfl (fun ls hl => ?_)
  refine lv_aload_n hx hb dX12_call_44 rfl (lv_at hl 1 rfl) ?_
  refine k_get (D := D) (ci := 12) (v := .int 0) (N := 195) hx hb hts hin12 hown hK hP 1 rfl rfl (by decide) f9_12_14 (hts (.fieldLink RX12 462 "IntegerHouseModel" "refused" "Z") (o9_X12_call _ (List.mem_of_getElem? (i := 4) rfl))) (k_ne (by decide) (k_set (k_ne (by decide) (k_ne (by decide) (k_ne (by decide) e4))))) dX12_call_45 ?_
  refine lv_if_ne (tgt := 141) hx hb dX12_call_48 (by decide) (fun c9 => absurd (by decide) c9) (fun _ => ?_)
  refine lv_aload_n hx hb dX12_call_51 rfl (lv_at hl 1 rfl) ?_
  refine lv_dup hx hb dX12_call_52 rfl ?_
  refine k_get (D := D) (ci := 12) (v := .int 0) (N := 195) hx hb hts hin12 hown hK hP 1 rfl rfl (by decide) f9_12_16 (hts (.fieldLink RX12 498 "IntegerHouseModel" "done" "I") (o9_X12_call _ (List.mem_of_getElem? (i := 12) rfl))) (k_ne (by decide) (k_ne (by decide) (k_ne (by decide) (k_ne (by decide) (k_ne (by decide) e12))))) dX12_call_53 ?_
  refine lv_iconst (v := 1) hx hb dX12_call_56 (by decide) ?_
  refine lv_iadd hx hb dX12_call_57 ?_
  refine k_topi (y := 1) (by decide) ?_
  refine k_put (D := D) (ci := 12) (v := .int 1) (ty := .int) (N := 195) hx hb hts hin12 tyX12 tyX12_ok nmX12 hown hK hP hD hS 1 rfl rfl (by decide) f9_12_16 (hts (.fieldLink RX12 498 "IntegerHouseModel" "done" "I") (o9_X12_call _ (List.mem_of_getElem? (i := 12) rfl))) rfl pd_2 rfl rfl (k_len (k_ne (by decide) (k_ne (by decide) (k_ne (by decide) (k_ne (by decide) (k_ne (by decide) e12)))))) dX12_call_58 (fun H locs hP hD hS => ?_)
  have hP : va_P D vwCl [(h3, .inl (cB, 24800, .inl g2)), (h0, .inr (12, ((((((f0.set 0 (.int 0)).set 15 (.int 3)).set 13 (.int 0)).set 14 (.int 0)).set 105 (.int 1)).set 16 (.int 1)))), (h1, .inl (cI, 8, .inl (upd g0 0 0))), (h2, .inl (cI, 8, .inl (upd g1 0 0)))] H := hP
  have hD : va_D A [(h3, .inl (cB, 24800, .inl g2)), (h0, .inr (12, ((((((f0.set 0 (.int 0)).set 15 (.int 3)).set 13 (.int 0)).set 14 (.int 0)).set 105 (.int 1)).set 16 (.int 1)))), (h1, .inl (cI, 8, .inl (upd g0 0 0))), (h2, .inl (cI, 8, .inl (upd g1 0 0)))] := hD
  refine lv_aload_n hx hb dX12_call_61 rfl (lv_at hl 1 rfl) ?_
  refine lv_iload_n hx hb dX12_call_62 rfl (lv_at hl 2 rfl) ?_
  refine k_cVv (As := [.int 3]) (rest := []) (wc := [(h0, .inr (12, ((((((f0.set 0 (.int 0)).set 15 (.int 3)).set 13 (.int 0)).set 14 (.int 0)).set 105 (.int 1)).set 16 (.int 1)))), (h3, .inl (cB, 24800, .inl g2))]) (wr := [(h1, .inl (cI, 8, .inl (upd g0 0 0))), (h2, .inl (cI, 8, .inl (upd g1 0 0)))]) (w1 := (fun _ : Unit => [(h0, .inr (12, (((((((f0.set 0 (.int 0)).set 15 (.int 3)).set 13 (.int 0)).set 14 (.int 0)).set 105 (.int 1)).set 16 (.int 1)).set 9 (.int 1)))), (h3, .inl (cB, 24800, .inl (upd g2 0 3)))])) ⟨hx, hb, hml, hown, hts⟩ hN hX hAE hK hP hD hS hA [1, 0] [2, 3] (ci := 12) rfl rfl rfl rfl (by decide +kernel) (by decide +kernel) (by decide +kernel) (c_X12_note_3 l E D cI cJ cB cZ h0 (((((((f0.set 0 (.int 0)).set 15 (.int 3)).set 13 (.int 0)).set 14 (.int 0)).set 105 (.int 1)).set 16 (.int 1))) h3 g2 (k_ne (by decide) (k_ne (by decide) (k_ne (by decide) (k_ne (by decide) (k_ne (by decide) (k_ne (by decide) e13)))))) (k_ne (by decide) (k_ne (by decide) (k_ne (by decide) (k_ne (by decide) (k_ne (by decide) (k_ne (by decide) e6))))))) (cwV 1 hts g9_X12_call_X12_note_481 rfl rfl rfl (by decide +kernel) ⟨Nat.le_of_ble_eq_true rfl, Nat.le_of_ble_eq_true rfl⟩) rfl hl.1 (Nat.le_of_ble_eq_true rfl) dX12_call_63 ⟨Nat.le_of_ble_eq_true rfl, Nat.le_of_ble_eq_true rfl⟩ (fun _ H locs hP hD hS => ?_)
  have hP : va_P D vwCl [(h1, .inl (cI, 8, .inl (upd g0 0 0))), (h2, .inl (cI, 8, .inl (upd g1 0 0))), (h0, .inr (12, (((((((f0.set 0 (.int 0)).set 15 (.int 3)).set 13 (.int 0)).set 14 (.int 0)).set 105 (.int 1)).set 16 (.int 1)).set 9 (.int 1)))), (h3, .inl (cB, 24800, .inl (upd g2 0 3)))] H := hP
  have hD : va_D A [(h1, .inl (cI, 8, .inl (upd g0 0 0))), (h2, .inl (cI, 8, .inl (upd g1 0 0))), (h0, .inr (12, (((((((f0.set 0 (.int 0)).set 15 (.int 3)).set 13 (.int 0)).set 14 (.int 0)).set 105 (.int 1)).set 16 (.int 1)).set 9 (.int 1)))), (h3, .inl (cB, 24800, .inl (upd g2 0 3)))] := hD
  refine lv_iload_n hx hb dX12_call_66 rfl (lv_at hl 2 rfl) ?_
  refine lv_iconst (v := 2) hx hb dX12_call_67 (by decide) ?_
  refine lv_icmp_ne (tgt := 91) hx hb dX12_call_68 (by decide) (fun _ => ?_) (fun c9 => absurd c9 (by decide))
  refine lv_iload_n hx hb dX12_call_91 rfl (lv_at hl 2 rfl) ?_
  refine lv_iconst (v := 1) hx hb dX12_call_92 (by decide) ?_
  refine lv_icmp_ne (tgt := 141) hx hb dX12_call_93 (by decide) (fun _ => ?_) (fun c9 => absurd c9 (by decide))
  refine lv_iload_n hx hb dX12_call_141 rfl (lv_at hl 0 rfl) ?_
  have hP := hP.sub (ws' := [(h0, .inr (12, (((((((f0.set 0 (.int 0)).set 15 (.int 3)).set 13 (.int 0)).set 14 (.int 0)).set 105 (.int 1)).set 16 (.int 1)).set 9 (.int 1)))), (h1, .inl (cI, 8, .inl (upd g0 0 0))), (h2, .inl (cI, 8, .inl (upd g1 0 0))), (h3, .inl (cB, 24800, .inl (upd g2 0 3)))]) [2, 0, 1, 3] rfl
  have hD := hD.sub (ws' := [(h0, .inr (12, (((((((f0.set 0 (.int 0)).set 15 (.int 3)).set 13 (.int 0)).set 14 (.int 0)).set 105 (.int 1)).set 16 (.int 1)).set 9 (.int 1)))), (h1, .inl (cI, 8, .inl (upd g0 0 0))), (h2, .inl (cI, 8, .inl (upd g1 0 0))), (h3, .inl (cB, 24800, .inl (upd g2 0 3)))]) [2, 0, 1, 3] (by decide +kernel) rfl
  exact W.iret (v := 1) hx hb hr (fun t ht hW => ⟨⟨1, (), rfl, rfl, kB_mk ht hW hP hK hD⟩, hS.F ht⟩) hS.2.2 dX12_call_142
set_option maxHeartbeats 400000000 in
set_option maxRecDepth 100000 in
theorem c_X12_push_0 (l : Launch) (E : kE) (D : va_G) (cI cJ cB cZ : ClassId) (h0 : Nat) (f0 : List Value) (h1 : Nat) (h2 : Nat) (h3 : Nat) (g0 : Nat → Int32) (g1 : Nat → Int32) (g2 : Nat → Int32) (e0 : f0[0]? = some (.int 0)) (e1 : f0[5]? = some (.int 0)) (e2 : f0[15]? = some (.int 0)) (e3 : f0[13]? = some (.int 0)) (e4 : f0[14]? = some (.int 0)) (e5 : f0[105]? = some (.int 0)) (e6 : f0[9]? = some (.int 0)) (e7 : f0[4]? = some (.int 0)) (e8 : f0[106]? = some (.ref h1)) (e9 : f0[32]? = some (.int 0)) (e10 : f0[107]? = some (.ref h2)) (e11 : f0[33]? = some (.int 0)) (e12 : f0[16]? = some (.int 0)) (e13 : f0[8]? = some (.ref h3)) : kI l E D (kT cI cJ cB cZ) yX12_push vW_X12_push ({ frames := 4, cells := 0, slots := 0, locals := 85 }) [.ref h0] [(h0, .inr (12, f0)), (h1, .inl (cI, 8, .inl g0)), (h2, .inl (cI, 8, .inl g1)), (h3, .inl (cB, 24800, .inl g2))] (1) [(h0, .inr (12, (((((((f0.set 0 (.int 0)).set 15 (.int 3)).set 13 (.int 0)).set 14 (.int 0)).set 105 (.int 1)).set 16 (.int 1)).set 9 (.int 1)))), (h1, .inl (cI, 8, .inl (upd g0 0 0))), (h2, .inl (cI, 8, .inl (upd g1 0 0))), (h3, .inl (cB, 24800, .inl (upd g2 0 3)))] 0 0 := by
  intro sz
  refine Met.ofW (cc := cX12_push) (maxL := 1) (ret := (some .int)) (by decide) rfl ?_
  intro p e s m args below meth c s₁ B hml hv
  obtain ⟨rfl, hsz, hP, hK, hD0, hN, hX⟩ := hv
  have hx := B.exec
  have hb := B.bytes
  have hr := B.returns
  have hts := atoms_spec (ws := vW_X12_push) B.pre
  have hown : s.vm.findClass RX12 = some m.cls := findClass_of_methodNamed B.named
  have hlocks := B.notSynchronized
  subst hsz
  have hD := hD0.self (sz := s.heap.size)
  have hAE := k_AE hD0 hX
  generalize hAe : va_A [(h0, .inr (12, f0)), (h1, .inl (cI, 8, .inl g0)), (h2, .inl (cI, 8, .inl g1)), (h3, .inl (cB, 24800, .inl g2))] s.heap.size = A at hD hAE ⊢
  have hA : ∀ q : Nat, s.heap.size ≤ q → A q := fun q h => by rw [← hAe]; exact Or.inr h
  have hS : va_S A s.heap s.heap [] := va_S.rf
  have hP : va_P D vwCl [(h0, .inr (12, f0)), (h1, .inl (cI, 8, .inl g0)), (h2, .inl (cI, 8, .inl g1)), (h3, .inl (cB, 24800, .inl g2))] s.heap := hP
  have hl := lv_entry ([.ref h0] : List Value) (n := 1) (Nat.le_of_ble_eq_true rfl)
  rw [lg_entry_eq]
  generalize (lg_sl ([.ref h0]) ++ List.replicate (1 - (lg_sl ([.ref h0])).length) Slot.unset).toArray = ls at hl ⊢
  have hl : lv_has ls 1 [(0, .ref h0)] := hl
  refine lv_aload_n hx hb dX12_push_0 rfl (lv_at hl 0 rfl) ?_
  refine lv_iconst (v := 3) hx hb dX12_push_1 (by decide) ?_
  refine k_cVi (As := [.int 3]) (rest := []) (wc := [(h0, .inr (12, f0)), (h1, .inl (cI, 8, .inl g0)), (h2, .inl (cI, 8, .inl g1)), (h3, .inl (cB, 24800, .inl g2))]) (wr := []) (w1 := [(h0, .inr (12, (((((((f0.set 0 (.int 0)).set 15 (.int 3)).set 13 (.int 0)).set 14 (.int 0)).set 105 (.int 1)).set 16 (.int 1)).set 9 (.int 1)))), (h1, .inl (cI, 8, .inl (upd g0 0 0))), (h2, .inl (cI, 8, .inl (upd g1 0 0))), (h3, .inl (cB, 24800, .inl (upd g2 0 3)))]) ⟨hx, hb, hml, hown, hts⟩ hN hX hAE hK hP hD hS hA [0, 1, 2, 3] [] (ci := 12) rfl rfl rfl rfl (by decide +kernel) (by decide +kernel) (by decide +kernel) (c_X12_call_3 l E D cI cJ cB cZ h0 f0 h1 h2 g0 g1 h3 g2 e0 e1 e2 e3 e4 e5 e6 e7 e8 e9 e10 e11 e12 e13) (cwV 1 hts g9_X12_push_X12_call_868 rfl rfl rfl (by decide +kernel) ⟨Nat.le_of_ble_eq_true rfl, Nat.le_of_ble_eq_true rfl⟩) rfl hl.1 (Nat.le_of_ble_eq_true rfl) dX12_push_2 ⟨Nat.le_of_ble_eq_true rfl, Nat.le_of_ble_eq_true rfl⟩ (fun H locs hP hD hS => ?_)
  have hP : va_P D vwCl [(h0, .inr (12, (((((((f0.set 0 (.int 0)).set 15 (.int 3)).set 13 (.int 0)).set 14 (.int 0)).set 105 (.int 1)).set 16 (.int 1)).set 9 (.int 1)))), (h1, .inl (cI, 8, .inl (upd g0 0 0))), (h2, .inl (cI, 8, .inl (upd g1 0 0))), (h3, .inl (cB, 24800, .inl (upd g2 0 3)))] H := hP
  have hD : va_D A [(h0, .inr (12, (((((((f0.set 0 (.int 0)).set 15 (.int 3)).set 13 (.int 0)).set 14 (.int 0)).set 105 (.int 1)).set 16 (.int 1)).set 9 (.int 1)))), (h1, .inl (cI, 8, .inl (upd g0 0 0))), (h2, .inl (cI, 8, .inl (upd g1 0 0))), (h3, .inl (cB, 24800, .inl (upd g2 0 3)))] := hD
  exact W.iret (v := 1) hx hb hr (fun t ht hW => ⟨⟨1, (), rfl, rfl, kB_mk ht hW hP hK hD⟩, hS.F ht⟩) hS.2.2 dX12_push_5
