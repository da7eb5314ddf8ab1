theorem dX8_readExtreme_0 : decode cX8_readExtreme 0 = .ok (.aload_n 0, 1) := by decide +kernel
theorem dX8_readExtreme_1 : decode cX8_readExtreme 1 = .ok (.aload_n 1, 1) := by decide +kernel
theorem dX8_readExtreme_2 : decode cX8_readExtreme 2 = .ok (.iconst 0, 1) := by decide +kernel
theorem dX8_readExtreme_3 : decode cX8_readExtreme 3 = .ok (.iload_n 2, 1) := by decide +kernel
theorem dX8_readExtreme_4 : decode cX8_readExtreme 4 = .ok (.invokevirtual 23, 3) := by decide +kernel
theorem dX8_readExtreme_7 : decode cX8_readExtreme 7 = .ok (.aload_n 0, 1) := by decide +kernel
theorem dX8_readExtreme_8 : decode cX8_readExtreme 8 = .ok (.bipush 25, 2) := by decide +kernel
theorem dX8_readExtreme_10 : decode cX8_readExtreme 10 = .ok (.invokevirtual 49, 3) := by decide +kernel
theorem dX8_readExtreme_13 : decode cX8_readExtreme 13 = .ok (.aload_n 0, 1) := by decide +kernel
theorem dX8_readExtreme_14 : decode cX8_readExtreme 14 = .ok (.aload_n 0, 1) := by decide +kernel
theorem dX8_readExtreme_15 : decode cX8_readExtreme 15 = .ok (.getfield 39, 3) := by decide +kernel
theorem dX8_readExtreme_18 : decode cX8_readExtreme 18 = .ok (.bipush 34, 2) := by decide +kernel
theorem dX8_readExtreme_20 : decode cX8_readExtreme 20 = .ok (.if_icmp .ne 7, 3) := by decide +kernel
theorem dX8_readExtreme_27 : decode cX8_readExtreme 27 = .ok (.iconst 0, 1) := by decide +kernel
theorem dX8_readExtreme_28 : decode cX8_readExtreme 28 = .ok (.putfield 101, 3) := by decide +kernel
theorem dX8_readExtreme_31 : decode cX8_readExtreme 31 = .ok (.aload_n 0, 1) := by decide +kernel
theorem dX8_readExtreme_32 : decode cX8_readExtreme 32 = .ok (.getfield 101, 3) := by decide +kernel
theorem dX8_readExtreme_35 : decode cX8_readExtreme 35 = .ok (.ifCond .eq 13, 3) := by decide +kernel
theorem dX8_readExtreme_48 : decode cX8_readExtreme 48 = .ok (.aload_n 0, 1) := by decide +kernel
theorem dX8_readExtreme_49 : decode cX8_readExtreme 49 = .ok (.invokevirtual 59, 3) := by decide +kernel
theorem dX8_readExtreme_52 : decode cX8_readExtreme 52 = .ok (.aload_n 0, 1) := by decide +kernel
theorem dX8_readExtreme_53 : decode cX8_readExtreme 53 = .ok (.getfield 62, 3) := by decide +kernel
theorem dX8_readExtreme_56 : decode cX8_readExtreme 56 = .ok (.ifCond .ne 38, 3) := by decide +kernel
theorem dX8_readExtreme_94 : decode cX8_readExtreme 94 = .ok (.aload_n 0, 1) := by decide +kernel
theorem dX8_readExtreme_95 : decode cX8_readExtreme 95 = .ok (.getfield 62, 3) := by decide +kernel
theorem dX8_readExtreme_98 : decode cX8_readExtreme 98 = .ok (.ifCond .ne 25, 3) := by decide +kernel
theorem dX8_readExtreme_123 : decode cX8_readExtreme 123 = .ok (.aload_n 0, 1) := by decide +kernel
theorem dX8_readExtreme_124 : decode cX8_readExtreme 124 = .ok (.getfield 62, 3) := by decide +kernel
theorem dX8_readExtreme_127 : decode cX8_readExtreme 127 = .ok (.ifCond .ne 7, 3) := by decide +kernel
theorem dX8_readExtreme_134 : decode cX8_readExtreme 134 = .ok (.iconst 0, 1) := by decide +kernel
theorem dX8_readExtreme_135 : decode cX8_readExtreme 135 = .ok (.ireturn, 1) := by decide +kernel
theorem dX8_readInto_40 : decode cX8_readInto 40 = .ok (.aload_n 0, 1) := by decide +kernel
theorem dX8_readInto_41 : decode cX8_readInto 41 = .ok (.invokevirtual 176, 3) := by decide +kernel
theorem dX8_readInto_44 : decode cX8_readInto 44 = .ok (.goto 7, 3) := by decide +kernel
theorem dX11_extreme_0 : decode cX11_extreme 0 = .ok (.aload_n 0, 1) := by decide +kernel
theorem dX11_extreme_1 : decode cX11_extreme 1 = .ok (.getfield 16, 3) := by decide +kernel
theorem dX11_extreme_4 : decode cX11_extreme 4 = .ok (.getfield 122, 3) := by decide +kernel
theorem dX11_extreme_7 : decode cX11_extreme 7 = .ok (.ifCond .eq 6, 3) := by decide +kernel
theorem dX11_extreme_13 : decode cX11_extreme 13 = .ok (.aload_n 0, 1) := by decide +kernel
theorem dX11_extreme_14 : decode cX11_extreme 14 = .ok (.getfield 23, 3) := by decide +kernel
theorem dX11_extreme_17 : decode cX11_extreme 17 = .ok (.getfield 233, 3) := by decide +kernel
theorem dX11_extreme_20 : decode cX11_extreme 20 = .ok (.istore_n 2, 1) := by decide +kernel
theorem dX11_extreme_21 : decode cX11_extreme 21 = .ok (.aload_n 0, 1) := by decide +kernel
theorem dX11_extreme_22 : decode cX11_extreme 22 = .ok (.getfield 48, 3) := by decide +kernel
theorem dX11_extreme_25 : decode cX11_extreme 25 = .ok (.aload_n 0, 1) := by decide +kernel
theorem dX11_extreme_26 : decode cX11_extreme 26 = .ok (.getfield 9, 3) := by decide +kernel
theorem dX11_extreme_29 : decode cX11_extreme 29 = .ok (.aload_n 0, 1) := by decide +kernel
theorem dX11_extreme_30 : decode cX11_extreme 30 = .ok (.invokevirtual 230, 3) := by decide +kernel
theorem dX11_extreme_33 : decode cX11_extreme 33 = .ok (.invokevirtual 321, 3) := by decide +kernel
theorem dX11_extreme_36 : decode cX11_extreme 36 = .ok (.ifCond .ne 11, 3) := by decide +kernel
theorem dX11_extreme_39 : decode cX11_extreme 39 = .ok (.aload_n 0, 1) := by decide +kernel
theorem dX11_extreme_40 : decode cX11_extreme 40 = .ok (.invokevirtual 236, 3) := by decide +kernel
theorem dX11_extreme_43 : decode cX11_extreme 43 = .ok (.istore_n 3, 1) := by decide +kernel
theorem dX11_extreme_44 : decode cX11_extreme 44 = .ok (.goto 71, 3) := by decide +kernel
theorem dX11_extreme_115 : decode cX11_extreme 115 = .ok (.aload_n 0, 1) := by decide +kernel
theorem dX11_extreme_116 : decode cX11_extreme 116 = .ok (.getfield 23, 3) := by decide +kernel
theorem dX11_extreme_119 : decode cX11_extreme 119 = .ok (.iload_n 2, 1) := by decide +kernel
theorem dX11_extreme_120 : decode cX11_extreme 120 = .ok (.putfield 233, 3) := by decide +kernel
theorem dX11_extreme_123 : decode cX11_extreme 123 = .ok (.iload_n 3, 1) := by decide +kernel
theorem dX11_extreme_124 : decode cX11_extreme 124 = .ok (.ireturn, 1) := by decide +kernel
set_option maxHeartbeats 400000000 in
set_option maxRecDepth 100000 in
theorem c_X8_step_6 (l : Launch) (E : kE) (D : va_G) (cI cJ cB cZ : ClassId) (h0 : Nat) (f0 : List Value) (h1 : Nat) (f1 : List Value) (h2 : Nat) (g0 : Nat → Int32) (e0 : f0[1]? = some (.ref h1)) (e1 : f0[11]? = some (.int 25)) (e2 : f0[13]? = some (.int 1)) (e3 : f1[3]? = some (.ref h2)) : kV l E D (kT cI cJ cB cZ) yX8_step vW_X8_step ({ frames := 1, cells := 0, slots := 0, locals := 23 }) [.ref h0, .int 43] [(h0, .inr (8, f0)), (h1, .inr (2, f1)), (h2, .inl (cI, 13312, .inl g0))] (fun _ : Unit => [(h0, .inr (8, (f0.set 13 (.int 2)))), (h1, .inr (2, f1)), (h2, .inl (cI, 13312, .inl (upd g0 12801 43)))]) 0 0 := by
  intro sz
  refine Met.ofW (cc := cX8_step) (maxL := 2) (ret := none) (by decide) rfl ?_
  intro p e s m args below meth c s₁ B hml hv
  obtain ⟨rfl, hsz, hP, hK, hD0, hN, hX⟩ := hv
  have hx := B.exec
  have hb := B.bytes
  have hr := B.returns
  have hts := atoms_spec (ws := vW_X8_step) B.pre
  have hown : s.vm.findClass RX8 = some m.cls := findClass_of_methodNamed B.named
  have hlocks := B.notSynchronized
  have hin8 : ∀ w ∈ wsX80, w ∈ vW_X8_step := u9_X8_step_wsX80
  subst hsz
  have hD := hD0.self (sz := s.heap.size)
  have hAE := k_AE hD0 hX
  generalize hAe : va_A [(h0, .inr (8, f0)), (h1, .inr (2, f1)), (h2, .inl (cI, 13312, .inl g0))] s.heap.size = A at hD hAE ⊢
  have hA : ∀ q : Nat, s.heap.size ≤ q → A q := fun q h => by rw [← hAe]; exact Or.inr h
  have hS : va_S A s.heap s.heap [] := va_S.rf
  have hP : va_P D vwCl [(h0, .inr (8, f0)), (h1, .inr (2, f1)), (h2, .inl (cI, 13312, .inl g0))] s.heap := hP
  have hl := lv_entry ([.ref h0, .int 43] : List Value) (n := 2) (Nat.le_of_ble_eq_true rfl)
  rw [lg_entry_eq]
  generalize (lg_sl ([.ref h0, .int 43]) ++ List.replicate (2 - (lg_sl ([.ref h0, .int 43])).length) Slot.unset).toArray = ls at hl ⊢
  have hl : lv_has ls 2 [(0, .ref h0), (1, .int 43)] := hl
  refine lv_aload_n hx hb dX8_step_0 rfl (lv_at hl 0 rfl) ?_
  refine k_get (D := D) (ci := 8) (v := .ref h1) (N := 15) hx hb hts hin8 hown hK hP 0 rfl rfl (by decide) f9_8_1 (hts (.fieldLink RX8 15 "IntegerHouse$Reader" "house" "LIntegerHouse$House;") (o9_X8_step _ (List.mem_of_getElem? (i := 0) rfl))) e0 dX8_step_1 ?_
  refine lv_aload_n hx hb dX8_step_4 rfl (lv_at hl 0 rfl) ?_
  refine k_get (D := D) (ci := 8) (v := .int 25) (N := 15) hx hb hts hin8 hown hK hP 0 rfl rfl (by decide) f9_8_11 (hts (.fieldLink RX8 164 "IntegerHouse$Reader" "slot" "I") (o9_X8_step _ (List.mem_of_getElem? (i := 1) rfl))) e1 dX8_step_5 ?_
  refine lv_aload_n hx hb dX8_step_8 rfl (lv_at hl 0 rfl) ?_
  refine k_get (D := D) (ci := 8) (v := .int 1) (N := 15) hx hb hts hin8 hown hK hP 0 rfl rfl (by decide) f9_8_13 (hts (.fieldLink RX8 170 "IntegerHouse$Reader" "steps" "I") (o9_X8_step _ (List.mem_of_getElem? (i := 2) rfl))) e2 dX8_step_9 ?_
  refine lv_iload_n hx hb dX8_step_12 rfl (lv_at hl 1 rfl) ?_
  refine k_cVv (As := [.int 25, .int 1, .int 43]) (rest := []) (wc := [(h1, .inr (2, f1)), (h2, .inl (cI, 13312, .inl g0))]) (wr := [(h0, .inr (8, f0))]) (w1 := (fun _ : Unit => [(h1, .inr (2, f1)), (h2, .inl (cI, 13312, .inl (upd g0 12801 43)))])) ⟨hx, hb, hml, hown, hts⟩ hN hX hAE hK hP hD hS hA [1, 2] [0] (ci := 2) rfl rfl rfl rfl (by decide +kernel) (by decide +kernel) (by decide +kernel) (c_X2_setStep_6 l E D cI cJ cB cZ h1 f1 h2 g0 e3) (cwV 3 hts g9_X8_step_X2_setStep_182 rfl rfl rfl (by decide +kernel) ⟨Nat.le_of_ble_eq_true rfl, Nat.le_of_ble_eq_true rfl⟩) rfl hl.1 (Nat.le_of_ble_eq_true rfl) dX8_step_13 ⟨Nat.le_of_ble_eq_true rfl, Nat.le_of_ble_eq_true rfl⟩ (fun _ H locs hP hD hS => ?_)
  have hP : va_P D vwCl [(h0, .inr (8, f0)), (h1, .inr (2, f1)), (h2, .inl (cI, 13312, .inl (upd g0 12801 43)))] H := hP
  have hD : va_D A [(h0, .inr (8, f0)), (h1, .inr (2, f1)), (h2, .inl (cI, 13312, .inl (upd g0 12801 43)))] := hD
  refine lv_aload_n hx hb dX8_step_16 rfl (lv_at hl 0 rfl) ?_
  refine lv_dup hx hb dX8_step_17 rfl ?_
  refine k_get (D := D) (ci := 8) (v := .int 1) (N := 15) hx hb hts hin8 hown hK hP 0 rfl rfl (by decide) f9_8_13 (hts (.fieldLink RX8 170 "IntegerHouse$Reader" "steps" "I") (o9_X8_step _ (List.mem_of_getElem? (i := 2) rfl))) e2 dX8_step_18 ?_
  refine lv_iconst (v := 1) hx hb dX8_step_21 (by decide) ?_
  refine lv_iadd hx hb dX8_step_22 ?_
  refine k_topi (y := 2) (by decide) ?_
  refine k_put (D := D) (ci := 8) (v := .int 2) (ty := .int) (N := 15) hx hb hts hin8 tyX8 tyX8_ok nmX8 hown hK hP hD hS 0 rfl rfl (by decide) f9_8_13 (hts (.fieldLink RX8 170 "IntegerHouse$Reader" "steps" "I") (o9_X8_step _ (List.mem_of_getElem? (i := 2) rfl))) rfl pd_2 rfl rfl (k_len e2) dX8_step_23 (fun H locs hP hD hS => ?_)
  have hP : va_P D vwCl [(h0, .inr (8, (f0.set 13 (.int 2)))), (h1, .inr (2, f1)), (h2, .inl (cI, 13312, .inl (upd g0 12801 43)))] H := hP
  have hD : va_D A [(h0, .inr (8, (f0.set 13 (.int 2)))), (h1, .inr (2, f1)), (h2, .inl (cI, 13312, .inl (upd g0 12801 43)))] := hD
  exact W.vret hx hb hr (fun t ht hW => ⟨⟨(), rfl, trivial, kB_mk ht hW hP hK hD⟩, hS.F ht⟩) hS.2.2 dX8_step_26
set_option maxHeartbeats 400000000 in
set_option maxRecDepth 100000 in
theorem c_X8_term_2 (l : Launch) (E : kE) (D : va_G) (cI cJ cB cZ : ClassId) (h0 : Nat) (f0 : List Value) (h1 : Nat) (f1 : List Value) (h2 : Nat) (f2 : List Value) (h3 : Nat) (g0 : Nat → Int32) (e0 : f0[7]? = some (.int 0)) (e1 : f0[0]? = some (.ref h1)) (e2 : f0[6]? = some (.int 0)) (e3 : f1[5]? = some (.int 0)) (e4 : f0[1]? = some (.ref h2)) (e5 : f2[10]? = some (.int 0)) (e6 : f0[3]? = some (.int 0)) (e7 : f0[8]? = some (.int 0)) (e8 : f0[4]? = some (.int 0)) (e9 : f0[11]? = some (.int 25)) (e10 : f0[13]? = some (.int 0)) (e11 : f2[3]? = some (.ref h3)) : kV l E D (kT cI cJ cB cZ) yX8_term vW_X8_term ({ frames := 3, cells := 0, slots := 0, locals := 69 }) [.ref h0] [(h0, .inr (8, f0)), (h1, .inr (3, f1)), (h2, .inr (2, f2)), (h3, .inl (cI, 13312, .inl g0))] (fun _ : Unit => [(h0, .inr (8, (((((f0.set 3 (.int 2)).set 4 (.int 0)).set 7 (.int 44)).set 13 (.int 1)).set 13 (.int 2)))), (h1, .inr (3, f1)), (h2, .inr (2, f2)), (h3, .inl (cI, 13312, .inl (upd (upd g0 12800 43) 12801 43)))]) 0 0 := by
  intro sz
  refine Met.ofW (cc := cX8_term) (maxL := 3) (ret := none) (by decide) rfl ?_
  intro p e s m args below meth c s₁ B hml hv
  obtain ⟨rfl, hsz, hP, hK, hD0, hN, hX⟩ := hv
  have hx := B.exec
  have hb := B.bytes
  have hr := B.returns
  have hts := atoms_spec (ws := vW_X8_term) B.pre
  have hown : s.vm.findClass RX8 = some m.cls := findClass_of_methodNamed B.named
  have hlocks := B.notSynchronized
  have hin8 : ∀ w ∈ wsX80, w ∈ vW_X8_term := u9_X8_term_wsX80
  subst hsz
  have hD := hD0.self (sz := s.heap.size)
  have hAE := k_AE hD0 hX
  generalize hAe : va_A [(h0, .inr (8, f0)), (h1, .inr (3, f1)), (h2, .inr (2, f2)), (h3, .inl (cI, 13312, .inl g0))] s.heap.size = A at hD hAE ⊢
  have hA : ∀ q : Nat, s.heap.size ≤ q → A q := fun q h => by rw [← hAe]; exact Or.inr h
  have hS : va_S A s.heap s.heap [] := va_S.rf
  have hP : va_P D vwCl [(h0, .inr (8, f0)), (h1, .inr (3, f1)), (h2, .inr (2, f2)), (h3, .inl (cI, 13312, .inl g0))] s.heap := hP
  have hl := lv_entry ([.ref h0] : List Value) (n := 3) (Nat.le_of_ble_eq_true rfl)
  rw [lg_entry_eq]
  generalize (lg_sl ([.ref h0]) ++ List.replicate (3 - (lg_sl ([.ref h0])).length) Slot.unset).toArray = ls at hl ⊢
  have hl : lv_has ls 3 [(0, .ref h0)] := hl
  refine lv_aload_n hx hb dX8_term_0 rfl (lv_at hl 0 rfl) ?_
  refine k_get (D := D) (ci := 8) (v := .int 0) (N := 15) hx hb hts hin8 hown hK hP 0 rfl rfl (by decide) f9_8_7 (hts (.fieldLink RX8 39 "IntegerHouse$Reader" "kind" "I") (o9_X8_term _ (List.mem_of_getElem? (i := 0) rfl))) e0 dX8_term_1 ?_
  refine lv_bipush (v := 12) hx hb dX8_term_4 (by decide) ?_
  refine lv_icmp_ne (tgt := 13) hx hb dX8_term_6 (by decide) (fun _ => ?_) (fun c9 => absurd c9 (by decide))
  refine lv_iconst (v := 0) hx hb dX8_term_13 (by decide) ?_
  refine lv_istore_n (lv' := [(1, .int 0), (0, .ref h0)]) hx hb dX8_term_14 rfl hl (by decide) rfl (fun ls hl => ?_)
  refine lv_iload_n hx hb dX8_term_15 rfl (lv_at hl 0 rfl) ?_
  refine lv_if_eq (tgt := 27) hx hb dX8_term_16 (by decide) (fun _ => ?_) (fun c9 => absurd (by decide) c9)
  refine lv_aload_n hx hb dX8_term_27 rfl (lv_at hl 1 rfl) ?_
  refine lv_iload_n hx hb dX8_term_28 rfl (lv_at hl 0 rfl) ?_
  refine k_cVv (As := [.int 0]) (rest := []) (wc := [(h0, .inr (8, f0)), (h1, .inr (3, f1)), (h2, .inr (2, f2)), (h3, .inl (cI, 13312, .inl g0))]) (wr := []) (w1 := (fun _ : Unit => [(h0, .inr (8, ((((f0.set 3 (.int 2)).set 4 (.int 0)).set 7 (.int 44)).set 13 (.int 1)))), (h1, .inr (3, f1)), (h2, .inr (2, f2)), (h3, .inl (cI, 13312, .inl (upd g0 12800 43)))])) ⟨hx, hb, hml, hown, hts⟩ hN hX hAE hK hP hD hS hA [0, 1, 2, 3] [] (ci := 8) rfl rfl rfl rfl (by decide +kernel) (by decide +kernel) (by decide +kernel) (c_X8_part_2 l E D cI cJ cB cZ h0 f0 h1 f1 h2 f2 h3 g0 e1 e2 e3 e0 e4 e5 e6 e7 e8 e9 e10 e11) (cwV 1 hts g9_X8_term_X8_part_219 rfl rfl rfl (by decide +kernel) ⟨Nat.le_of_ble_eq_true rfl, Nat.le_of_ble_eq_true rfl⟩) rfl hl.1 (Nat.le_of_ble_eq_true rfl) dX8_term_29 ⟨Nat.le_of_ble_eq_true rfl, Nat.le_of_ble_eq_true rfl⟩ (fun _ H locs hP hD hS => ?_)
  have hP : va_P D vwCl [(h0, .inr (8, ((((f0.set 3 (.int 2)).set 4 (.int 0)).set 7 (.int 44)).set 13 (.int 1)))), (h1, .inr (3, f1)), (h2, .inr (2, f2)), (h3, .inl (cI, 13312, .inl (upd g0 12800 43)))] H := hP
  have hD : va_D A [(h0, .inr (8, ((((f0.set 3 (.int 2)).set 4 (.int 0)).set 7 (.int 44)).set 13 (.int 1)))), (h1, .inr (3, f1)), (h2, .inr (2, f2)), (h3, .inl (cI, 13312, .inl (upd g0 12800 43)))] := hD
  refine lv_iconst (v := 0) hx hb dX8_term_32 (by decide) ?_
  refine lv_istore_n (lv' := [(2, .int 0), (1, .int 0), (0, .ref h0)]) hx hb dX8_term_33 rfl hl (by decide) rfl (fun ls hl => ?_)
  refine lv_iload_n hx hb dX8_term_34 rfl (lv_at hl 0 rfl) ?_
  refine lv_bipush (v := 120) hx hb dX8_term_35 (by decide) ?_
  refine lv_icmp_ge (tgt := 102) hx hb dX8_term_37 (by decide) (fun c9 => absurd c9 (by decide)) (fun _ => ?_)
  refine lv_aload_n hx hb dX8_term_40 rfl (lv_at hl 2 rfl) ?_
  refine k_get (D := D) (ci := 8) (v := .int 44) (N := 15) hx hb hts hin8 hown hK hP 0 rfl rfl (by decide) f9_8_7 (hts (.fieldLink RX8 39 "IntegerHouse$Reader" "kind" "I") (o9_X8_term _ (List.mem_of_getElem? (i := 0) rfl))) (k_ne (by decide) (k_set (k_ne (by decide) (k_ne (by decide) e0)))) dX8_term_41 ?_
  refine lv_bipush (v := 11) hx hb dX8_term_44 (by decide) ?_
  refine lv_icmp_eq (tgt := 58) hx hb dX8_term_46 (by decide) (fun c9 => absurd c9 (by decide)) (fun _ => ?_)
  refine lv_aload_n hx hb dX8_term_49 rfl (lv_at hl 2 rfl) ?_
  refine k_get (D := D) (ci := 8) (v := .int 44) (N := 15) hx hb hts hin8 hown hK hP 0 rfl rfl (by decide) f9_8_7 (hts (.fieldLink RX8 39 "IntegerHouse$Reader" "kind" "I") (o9_X8_term _ (List.mem_of_getElem? (i := 0) rfl))) (k_ne (by decide) (k_set (k_ne (by decide) (k_ne (by decide) e0)))) dX8_term_50 ?_
  refine lv_bipush (v := 12) hx hb dX8_term_53 (by decide) ?_
  refine lv_icmp_ne (tgt := 102) hx hb dX8_term_55 (by decide) (fun _ => ?_) (fun c9 => absurd c9 (by decide))
  refine lv_aload_n hx hb dX8_term_102 rfl (lv_at hl 2 rfl) ?_
  refine lv_bipush (v := 43) hx hb dX8_term_103 (by decide) ?_
  refine k_cVv (As := [.int 43]) (rest := []) (wc := [(h0, .inr (8, ((((f0.set 3 (.int 2)).set 4 (.int 0)).set 7 (.int 44)).set 13 (.int 1)))), (h2, .inr (2, f2)), (h3, .inl (cI, 13312, .inl (upd g0 12800 43)))]) (wr := [(h1, .inr (3, f1))]) (w1 := (fun _ : Unit => [(h0, .inr (8, (((((f0.set 3 (.int 2)).set 4 (.int 0)).set 7 (.int 44)).set 13 (.int 1)).set 13 (.int 2)))), (h2, .inr (2, f2)), (h3, .inl (cI, 13312, .inl (upd (upd g0 12800 43) 12801 43)))])) ⟨hx, hb, hml, hown, hts⟩ hN hX hAE hK hP hD hS hA [0, 2, 3] [1] (ci := 8) rfl rfl rfl rfl (by decide +kernel) (by decide +kernel) (by decide +kernel) (c_X8_step_6 l E D cI cJ cB cZ h0 (((((f0.set 3 (.int 2)).set 4 (.int 0)).set 7 (.int 44)).set 13 (.int 1))) h2 f2 h3 ((upd g0 12800 43)) (k_ne (by decide) (k_ne (by decide) (k_ne (by decide) (k_ne (by decide) e4)))) (k_ne (by decide) (k_ne (by decide) (k_ne (by decide) (k_ne (by decide) e9)))) (k_set (k_ne (by decide) (k_ne (by decide) (k_ne (by decide) e10)))) e11) (cwV 1 hts g9_X8_term_X8_step_194 rfl rfl rfl (by decide +kernel) ⟨Nat.le_of_ble_eq_true rfl, Nat.le_of_ble_eq_true rfl⟩) rfl hl.1 (Nat.le_of_ble_eq_true rfl) dX8_term_105 ⟨Nat.le_of_ble_eq_true rfl, Nat.le_of_ble_eq_true rfl⟩ (fun _ H locs hP hD hS => ?_)
  have hP : va_P D vwCl [(h1, .inr (3, f1)), (h0, .inr (8, (((((f0.set 3 (.int 2)).set 4 (.int 0)).set 7 (.int 44)).set 13 (.int 1)).set 13 (.int 2)))), (h2, .inr (2, f2)), (h3, .inl (cI, 13312, .inl (upd (upd g0 12800 43) 12801 43)))] H := hP
  have hD : va_D A [(h1, .inr (3, f1)), (h0, .inr (8, (((((f0.set 3 (.int 2)).set 4 (.int 0)).set 7 (.int 44)).set 13 (.int 1)).set 13 (.int 2)))), (h2, .inr (2, f2)), (h3, .inl (cI, 13312, .inl (upd (upd g0 12800 43) 12801 43)))] := hD
  have hP := hP.sub (ws' := [(h0, .inr (8, (((((f0.set 3 (.int 2)).set 4 (.int 0)).set 7 (.int 44)).set 13 (.int 1)).set 13 (.int 2)))), (h1, .inr (3, f1)), (h2, .inr (2, f2)), (h3, .inl (cI, 13312, .inl (upd (upd g0 12800 43) 12801 43)))]) [1, 0, 2, 3] rfl
  have hD := hD.sub (ws' := [(h0, .inr (8, (((((f0.set 3 (.int 2)).set 4 (.int 0)).set 7 (.int 44)).set 13 (.int 1)).set 13 (.int 2)))), (h1, .inr (3, f1)), (h2, .inr (2, f2)), (h3, .inl (cI, 13312, .inl (upd (upd g0 12800 43) 12801 43)))]) [1, 0, 2, 3] (by decide +kernel) rfl
  exact W.vret hx hb hr (fun t ht hW => ⟨⟨(), rfl, trivial, kB_mk ht hW hP hK hD⟩, hS.F ht⟩) hS.2.2 dX8_term_108
set_option maxHeartbeats 400000000 in
set_option maxRecDepth 100000 in
theorem c_X2_setFact_4 (l : Launch) (E : kE) (D : va_G) (cI cJ cB cZ : ClassId) (h0 : Nat) (f0 : List Value) (h1 : Nat) (g0 : Nat → Int32) (e0 : f0[5]? = some (.ref h1)) : kV l E D (kT cI cJ cB cZ) yX2_setFact vW_X2_setFact ({ frames := 0, cells := 0, slots := 0, locals := 0 }) [.ref h0, .int 25, .int 0, .int 0] [(h0, .inr (2, f0)), (h1, .inl (cI, 260, .inl g0))] (fun _ : Unit => [(h0, .inr (2, f0)), (h1, .inl (cI, 260, .inl (upd g0 250 0)))]) 0 0 := by
  intro sz
  refine Met.ofW (cc := cX2_setFact) (maxL := 4) (ret := none) (by decide) rfl ?_
  intro p e s m args below meth c s₁ B hml hv
  obtain ⟨rfl, hsz, hP, hK, hD0, hN, hX⟩ := hv
  have hx := B.exec
  have hb := B.bytes
  have hr := B.returns
  have hts := atoms_spec (ws := vW_X2_setFact) B.pre
  have hown : s.vm.findClass RX2 = some m.cls := findClass_of_methodNamed B.named
  have hlocks := B.notSynchronized
  have hin2 : ∀ w ∈ wsX20, w ∈ vW_X2_setFact := u9_X2_setFact_wsX20
  subst hsz
  have hD := hD0.self (sz := s.heap.size)
  have hAE := k_AE hD0 hX
  generalize hAe : va_A [(h0, .inr (2, f0)), (h1, .inl (cI, 260, .inl g0))] s.heap.size = A at hD hAE ⊢
  have hA : ∀ q : Nat, s.heap.size ≤ q → A q := fun q h => by rw [← hAe]; exact Or.inr h
  have hS : va_S A s.heap s.heap [] := va_S.rf
  have hP : va_P D vwCl [(h0, .inr (2, f0)), (h1, .inl (cI, 260, .inl g0))] s.heap := hP
  have hl := lv_entry ([.ref h0, .int 25, .int 0, .int 0] : List Value) (n := 4) (Nat.le_of_ble_eq_true rfl)
  rw [lg_entry_eq]
  generalize (lg_sl ([.ref h0, .int 25, .int 0, .int 0]) ++ List.replicate (4 - (lg_sl ([.ref h0, .int 25, .int 0, .int 0])).length) Slot.unset).toArray = ls at hl ⊢
  have hl : lv_has ls 4 [(0, .ref h0), (1, .int 25), (2, .int 0), (3, .int 0)] := hl
  refine lv_iload_n hx hb dX2_setFact_0 rfl (lv_at hl 1 rfl) ?_
  refine lv_if_lt (tgt := 32) hx hb dX2_setFact_1 (by decide) (fun c9 => absurd c9 (by decide)) (fun _ => ?_)
  refine lv_iload_n hx hb dX2_setFact_4 rfl (lv_at hl 1 rfl) ?_
  refine lv_bipush (v := 26) hx hb dX2_setFact_5 (by decide) ?_
  refine lv_icmp_ge (tgt := 32) hx hb dX2_setFact_7 (by decide) (fun c9 => absurd c9 (by decide)) (fun _ => ?_)
  refine lv_iload_n hx hb dX2_setFact_10 rfl (lv_at hl 2 rfl) ?_
  refine lv_if_lt (tgt := 32) hx hb dX2_setFact_11 (by decide) (fun c9 => absurd c9 (by decide)) (fun _ => ?_)
  refine lv_iload_n hx hb dX2_setFact_14 rfl (lv_at hl 2 rfl) ?_
  refine lv_bipush (v := 10) hx hb dX2_setFact_15 (by decide) ?_
  refine lv_icmp_ge (tgt := 32) hx hb dX2_setFact_17 (by decide) (fun c9 => absurd c9 (by decide)) (fun _ => ?_)
  refine lv_aload_n hx hb dX2_setFact_20 rfl (lv_at hl 0 rfl) ?_
  refine k_get (D := D) (ci := 2) (v := .ref h1) (N := 16) hx hb hts hin2 hown hK hP 0 rfl rfl (by decide) f9_2_5 (hts (.fieldLink RX2 28 "IntegerHouse$House" "facts" "[I") (o9_X2_setFact _ (List.mem_of_getElem? (i := 0) rfl))) e0 dX2_setFact_21 ?_
  refine lv_iload_n hx hb dX2_setFact_24 rfl (lv_at hl 1 rfl) ?_
  refine lv_bipush (v := 10) hx hb dX2_setFact_25 (by decide) ?_
  refine lv_imul hx hb dX2_setFact_27 ?_
  refine k_topi (y := 250) (by decide) ?_
  refine lv_iload_n hx hb dX2_setFact_28 rfl (lv_at hl 2 rfl) ?_
  refine lv_iadd hx hb dX2_setFact_29 ?_
  refine k_topi (y := 250) (by decide) ?_
  refine lv_iload_n hx hb dX2_setFact_30 rfl (lv_at hl 3 rfl) ?_
  refine va_iast hx hb hK hP hD hS 1 0 rfl rfl (k_in (by decide)) dX2_setFact_31 (fun H locs hP hD hS => ?_)
  have hP : va_P D vwCl [(h0, .inr (2, f0)), (h1, .inl (cI, 260, .inl (upd g0 250 0)))] H := hP
  have hD : va_D A [(h0, .inr (2, f0)), (h1, .inl (cI, 260, .inl (upd g0 250 0)))] := hD
  exact W.vret hx hb hr (fun t ht hW => ⟨⟨(), rfl, trivial, kB_mk ht hW hP hK hD⟩, hS.F ht⟩) hS.2.2 dX2_setFact_32
set_option maxHeartbeats 400000000 in
set_option maxRecDepth 100000 in
theorem c_X2_setFact_5 (l : Launch) (E : kE) (D : va_G) (cI cJ cB cZ : ClassId) (h0 : Nat) (f0 : List Value) (h1 : Nat) (g0 : Nat → Int32) (e0 : f0[5]? = some (.ref h1)) : kV l E D (kT cI cJ cB cZ) yX2_setFact vW_X2_setFact ({ frames := 0, cells := 0, slots := 0, locals := 0 }) [.ref h0, .int 25, .int 1, .int 2] [(h0, .inr (2, f0)), (h1, .inl (cI, 260, .inl g0))] (fun _ : Unit => [(h0, .inr (2, f0)), (h1, .inl (cI, 260, .inl (upd g0 251 2)))]) 0 0 := by
  intro sz
  refine Met.ofW (cc := cX2_setFact) (maxL := 4) (ret := none) (by decide) rfl ?_
  intro p e s m args below meth c s₁ B hml hv
  obtain ⟨rfl, hsz, hP, hK, hD0, hN, hX⟩ := hv
  have hx := B.exec
  have hb := B.bytes
  have hr := B.returns
  have hts := atoms_spec (ws := vW_X2_setFact) B.pre
  have hown : s.vm.findClass RX2 = some m.cls := findClass_of_methodNamed B.named
  have hlocks := B.notSynchronized
  have hin2 : ∀ w ∈ wsX20, w ∈ vW_X2_setFact := u9_X2_setFact_wsX20
  subst hsz
  have hD := hD0.self (sz := s.heap.size)
  have hAE := k_AE hD0 hX
  generalize hAe : va_A [(h0, .inr (2, f0)), (h1, .inl (cI, 260, .inl g0))] s.heap.size = A at hD hAE ⊢
  have hA : ∀ q : Nat, s.heap.size ≤ q → A q := fun q h => by rw [← hAe]; exact Or.inr h
  have hS : va_S A s.heap s.heap [] := va_S.rf
  have hP : va_P D vwCl [(h0, .inr (2, f0)), (h1, .inl (cI, 260, .inl g0))] s.heap := hP
  have hl := lv_entry ([.ref h0, .int 25, .int 1, .int 2] : List Value) (n := 4) (Nat.le_of_ble_eq_true rfl)
  rw [lg_entry_eq]
  generalize (lg_sl ([.ref h0, .int 25, .int 1, .int 2]) ++ List.replicate (4 - (lg_sl ([.ref h0, .int 25, .int 1, .int 2])).length) Slot.unset).toArray = ls at hl ⊢
  have hl : lv_has ls 4 [(0, .ref h0), (1, .int 25), (2, .int 1), (3, .int 2)] := hl
  refine lv_iload_n hx hb dX2_setFact_0 rfl (lv_at hl 1 rfl) ?_
  refine lv_if_lt (tgt := 32) hx hb dX2_setFact_1 (by decide) (fun c9 => absurd c9 (by decide)) (fun _ => ?_)
  refine lv_iload_n hx hb dX2_setFact_4 rfl (lv_at hl 1 rfl) ?_
  refine lv_bipush (v := 26) hx hb dX2_setFact_5 (by decide) ?_
  refine lv_icmp_ge (tgt := 32) hx hb dX2_setFact_7 (by decide) (fun c9 => absurd c9 (by decide)) (fun _ => ?_)
  refine lv_iload_n hx hb dX2_setFact_10 rfl (lv_at hl 2 rfl) ?_
  refine lv_if_lt (tgt := 32) hx hb dX2_setFact_11 (by decide) (fun c9 => absurd c9 (by decide)) (fun _ => ?_)
  refine lv_iload_n hx hb dX2_setFact_14 rfl (lv_at hl 2 rfl) ?_
  refine lv_bipush (v := 10) hx hb dX2_setFact_15 (by decide) ?_
  refine lv_icmp_ge (tgt := 32) hx hb dX2_setFact_17 (by decide) (fun c9 => absurd c9 (by decide)) (fun _ => ?_)
  refine lv_aload_n hx hb dX2_setFact_20 rfl (lv_at hl 0 rfl) ?_
  refine k_get (D := D) (ci := 2) (v := .ref h1) (N := 16) hx hb hts hin2 hown hK hP 0 rfl rfl (by decide) f9_2_5 (hts (.fieldLink RX2 28 "IntegerHouse$House" "facts" "[I") (o9_X2_setFact _ (List.mem_of_getElem? (i := 0) rfl))) e0 dX2_setFact_21 ?_
  refine lv_iload_n hx hb dX2_setFact_24 rfl (lv_at hl 1 rfl) ?_
  refine lv_bipush (v := 10) hx hb dX2_setFact_25 (by decide) ?_
  refine lv_imul hx hb dX2_setFact_27 ?_
  refine k_topi (y := 250) (by decide) ?_
  refine lv_iload_n hx hb dX2_setFact_28 rfl (lv_at hl 2 rfl) ?_
  refine lv_iadd hx hb dX2_setFact_29 ?_
  refine k_topi (y := 251) (by decide) ?_
  refine lv_iload_n hx hb dX2_setFact_30 rfl (lv_at hl 3 rfl) ?_
  refine va_iast hx hb hK hP hD hS 1 0 rfl rfl (k_in (by decide)) dX2_setFact_31 (fun H locs hP hD hS => ?_)
  have hP : va_P D vwCl [(h0, .inr (2, f0)), (h1, .inl (cI, 260, .inl (upd g0 251 2)))] H := hP
  have hD : va_D A [(h0, .inr (2, f0)), (h1, .inl (cI, 260, .inl (upd g0 251 2)))] := hD
  exact W.vret hx hb hr (fun t ht hW => ⟨⟨(), rfl, trivial, kB_mk ht hW hP hK hD⟩, hS.F ht⟩) hS.2.2 dX2_setFact_32
set_option maxHeartbeats 400000000 in
set_option maxRecDepth 100000 in
theorem c_X8_readInto_1 (l : Launch) (E : kE) (D : va_G) (cI cJ cB cZ : ClassId) (h0 : Nat) (f0 : List Value) (h1 : Nat) (f1 : List Value) (h2 : Nat) (g0 : Nat → Int32) (h3 : Nat) (f2 : List Value) (h4 : Nat) (g1 : Nat → Int32) (e0 : f0[11]? = some (.int 0)) (e1 : f0[12]? = some (.int 0)) (e2 : f0[13]? = some (.int 0)) (e3 : f0[14]? = some (.int 0)) (e4 : f0[1]? = some (.ref h1)) (e5 : f0[8]? = some (.int 0)) (e6 : f1[5]? = some (.ref h2)) (e7 : f0[7]? = some (.int 0)) (e8 : f0[0]? = some (.ref h3)) (e9 : f0[6]? = some (.int 0)) (e10 : f2[5]? = some (.int 0)) (e11 : f1[10]? = some (.int 0)) (e12 : f0[3]? = some (.int 0)) (e13 : f0[4]? = some (.int 0)) (e14 : f1[3]? = some (.ref h4)) : kV l E D (kT cI cJ cB cZ) yX8_readInto vW_X8_readInto ({ frames := 4, cells := 0, slots := 0, locals := 91 }) [.ref h0, .int 25] [(h0, .inr (8, f0)), (h1, .inr (2, f1)), (h2, .inl (cI, 260, .inl g0)), (h3, .inr (3, f2)), (h4, .inl (cI, 13312, .inl g1))] (fun _ : Unit => [(h0, .inr (8, (((((((((f0.set 11 (.int 25)).set 12 (.int 0)).set 13 (.int 0)).set 14 (.int 0)).set 3 (.int 2)).set 4 (.int 0)).set 7 (.int 44)).set 13 (.int 1)).set 13 (.int 2)))), (h1, .inr (2, f1)), (h2, .inl (cI, 260, .inl (upd (upd (upd g0 259 0) 250 0) 251 2))), (h3, .inr (3, f2)), (h4, .inl (cI, 13312, .inl (upd (upd g1 12800 43) 12801 43)))]) 0 0 := by
  intro sz
  refine Met.ofW (cc := cX8_readInto) (maxL := 2) (ret := none) (by decide) rfl ?_
  intro p e s m args below meth c s₁ B hml hv
  obtain ⟨rfl, hsz, hP, hK, hD0, hN, hX⟩ := hv
  have hx := B.exec
  have hb := B.bytes
  have hr := B.returns
  have hts := atoms_spec (ws := vW_X8_readInto) B.pre
  have hown : s.vm.findClass RX8 = some m.cls := findClass_of_methodNamed B.named
  have hlocks := B.notSynchronized
  have hin8 : ∀ w ∈ wsX80, w ∈ vW_X8_readInto := u9_X8_readInto_wsX80
  subst hsz
  have hD := hD0.self (sz := s.heap.size)
  have hAE := k_AE hD0 hX
  generalize hAe : va_A [(h0, .inr (8, f0)), (h1, .inr (2, f1)), (h2, .inl (cI, 260, .inl g0)), (h3, .inr (3, f2)), (h4, .inl (cI, 13312, .inl g1))] s.heap.size = A at hD hAE ⊢
  have hA : ∀ q : Nat, s.heap.size ≤ q → A q := fun q h => by rw [← hAe]; exact Or.inr h
  have hS : va_S A s.heap s.heap [] := va_S.rf
  have hP : va_P D vwCl [(h0, .inr (8, f0)), (h1, .inr (2, f1)), (h2, .inl (cI, 260, .inl g0)), (h3, .inr (3, f2)), (h4, .inl (cI, 13312, .inl g1))] s.heap := hP
  have hl := lv_entry ([.ref h0, .int 25] : List Value) (n := 2) (Nat.le_of_ble_eq_true rfl)
  rw [lg_entry_eq]
  generalize (lg_sl ([.ref h0, .int 25]) ++ List.replicate (2 - (lg_sl ([.ref h0, .int 25])).length) Slot.unset).toArray = ls at hl ⊢
  have hl : lv_has ls 2 [(0, .ref h0), (1, .int 25)] := hl
  refine lv_aload_n hx hb dX8_readInto_0 rfl (lv_at hl 0 rfl) ?_
  refine lv_iload_n hx hb dX8_readInto_1 rfl (lv_at hl 1 rfl) ?_
  refine k_put (D := D) (ci := 8) (v := .int 25) (ty := .int) (N := 15) hx hb hts hin8 tyX8 tyX8_ok nmX8 hown hK hP hD hS 0 rfl rfl (by decide) f9_8_11 (hts (.fieldLink RX8 164 "IntegerHouse$Reader" "slot" "I") (o9_X8_readInto _ (List.mem_of_getElem? (i := 0) rfl))) rfl pd_2 rfl rfl (k_len e0) dX8_readInto_2 (fun H locs hP hD hS => ?_)
  have hP : va_P D vwCl [(h0, .inr (8, (f0.set 11 (.int 25)))), (h1, .inr (2, f1)), (h2, .inl (cI, 260, .inl g0)), (h3, .inr (3, f2)), (h4, .inl (cI, 13312, .inl g1))] H := hP
  have hD : va_D A [(h0, .inr (8, (f0.set 11 (.int 25)))), (h1, .inr (2, f1)), (h2, .inl (cI, 260, .inl g0)), (h3, .inr (3, f2)), (h4, .inl (cI, 13312, .inl g1))] := hD
  refine lv_aload_n hx hb dX8_readInto_5 rfl (lv_at hl 0 rfl) ?_
  refine lv_iconst (v := 0) hx hb dX8_readInto_6 (by decide) ?_
  refine k_put (D := D) (ci := 8) (v := .int 0) (ty := .int) (N := 15) hx hb hts hin8 tyX8 tyX8_ok nmX8 hown hK hP hD hS 0 rfl rfl (by decide) f9_8_12 (hts (.fieldLink RX8 167 "IntegerHouse$Reader" "tokens" "I") (o9_X8_readInto _ (List.mem_of_getElem? (i := 1) rfl))) rfl pd_2 rfl rfl (k_len (k_ne (by decide) e1)) dX8_readInto_7 (fun H locs hP hD hS => ?_)
  have hP : va_P D vwCl [(h0, .inr (8, ((f0.set 11 (.int 25)).set 12 (.int 0)))), (h1, .inr (2, f1)), (h2, .inl (cI, 260, .inl g0)), (h3, .inr (3, f2)), (h4, .inl (cI, 13312, .inl g1))] H := hP
  have hD : va_D A [(h0, .inr (8, ((f0.set 11 (.int 25)).set 12 (.int 0)))), (h1, .inr (2, f1)), (h2, .inl (cI, 260, .inl g0)), (h3, .inr (3, f2)), (h4, .inl (cI, 13312, .inl g1))] := hD
  refine lv_aload_n hx hb dX8_readInto_10 rfl (lv_at hl 0 rfl) ?_
  refine lv_iconst (v := 0) hx hb dX8_readInto_11 (by decide) ?_
  refine k_put (D := D) (ci := 8) (v := .int 0) (ty := .int) (N := 15) hx hb hts hin8 tyX8 tyX8_ok nmX8 hown hK hP hD hS 0 rfl rfl (by decide) f9_8_13 (hts (.fieldLink RX8 170 "IntegerHouse$Reader" "steps" "I") (o9_X8_readInto _ (List.mem_of_getElem? (i := 2) rfl))) rfl pd_2 rfl rfl (k_len (k_ne (by decide) (k_ne (by decide) e2))) dX8_readInto_12 (fun H locs hP hD hS => ?_)
  have hP : va_P D vwCl [(h0, .inr (8, (((f0.set 11 (.int 25)).set 12 (.int 0)).set 13 (.int 0)))), (h1, .inr (2, f1)), (h2, .inl (cI, 260, .inl g0)), (h3, .inr (3, f2)), (h4, .inl (cI, 13312, .inl g1))] H := hP
  have hD : va_D A [(h0, .inr (8, (((f0.set 11 (.int 25)).set 12 (.int 0)).set 13 (.int 0)))), (h1, .inr (2, f1)), (h2, .inl (cI, 260, .inl g0)), (h3, .inr (3, f2)), (h4, .inl (cI, 13312, .inl g1))] := hD
  refine lv_aload_n hx hb dX8_readInto_15 rfl (lv_at hl 0 rfl) ?_
  refine lv_iconst (v := 0) hx hb dX8_readInto_16 (by decide) ?_
  refine k_put (D := D) (ci := 8) (v := .int 0) (ty := .int) (N := 15) hx hb hts hin8 tyX8 tyX8_ok nmX8 hown hK hP hD hS 0 rfl rfl (by decide) f9_8_14 (hts (.fieldLink RX8 173 "IntegerHouse$Reader" "open" "I") (o9_X8_readInto _ (List.mem_of_getElem? (i := 3) rfl))) rfl pd_2 rfl rfl (k_len (k_ne (by decide) (k_ne (by decide) (k_ne (by decide) e3)))) dX8_readInto_17 (fun H locs hP hD hS => ?_)
  have hP : va_P D vwCl [(h0, .inr (8, ((((f0.set 11 (.int 25)).set 12 (.int 0)).set 13 (.int 0)).set 14 (.int 0)))), (h1, .inr (2, f1)), (h2, .inl (cI, 260, .inl g0)), (h3, .inr (3, f2)), (h4, .inl (cI, 13312, .inl g1))] H := hP
  have hD : va_D A [(h0, .inr (8, ((((f0.set 11 (.int 25)).set 12 (.int 0)).set 13 (.int 0)).set 14 (.int 0)))), (h1, .inr (2, f1)), (h2, .inl (cI, 260, .inl g0)), (h3, .inr (3, f2)), (h4, .inl (cI, 13312, .inl g1))] := hD
  refine lv_aload_n hx hb dX8_readInto_20 rfl (lv_at hl 0 rfl) ?_
  refine k_get (D := D) (ci := 8) (v := .ref h1) (N := 15) hx hb hts hin8 hown hK hP 0 rfl rfl (by decide) f9_8_1 (hts (.fieldLink RX8 15 "IntegerHouse$Reader" "house" "LIntegerHouse$House;") (o9_X8_readInto _ (List.mem_of_getElem? (i := 4) rfl))) (k_ne (by decide) (k_ne (by decide) (k_ne (by decide) (k_ne (by decide) e4)))) dX8_readInto_21 ?_
  refine lv_iload_n hx hb dX8_readInto_24 rfl (lv_at hl 1 rfl) ?_
  refine lv_bipush (v := 9) hx hb dX8_readInto_25 (by decide) ?_
  refine lv_aload_n hx hb dX8_readInto_27 rfl (lv_at hl 0 rfl) ?_
  refine k_get (D := D) (ci := 8) (v := .int 0) (N := 15) hx hb hts hin8 hown hK hP 0 rfl rfl (by decide) f9_8_8 (hts (.fieldLink RX8 136 "IntegerHouse$Reader" "place" "I") (o9_X8_readInto _ (List.mem_of_getElem? (i := 5) rfl))) (k_ne (by decide) (k_ne (by decide) (k_ne (by decide) (k_ne (by decide) e5)))) dX8_readInto_28 ?_
  refine k_cVv (As := [.int 25, .int 9, .int 0]) (rest := []) (wc := [(h1, .inr (2, f1)), (h2, .inl (cI, 260, .inl g0))]) (wr := [(h0, .inr (8, ((((f0.set 11 (.int 25)).set 12 (.int 0)).set 13 (.int 0)).set 14 (.int 0)))), (h3, .inr (3, f2)), (h4, .inl (cI, 13312, .inl g1))]) (w1 := (fun _ : Unit => [(h1, .inr (2, f1)), (h2, .inl (cI, 260, .inl (upd g0 259 0)))])) ⟨hx, hb, hml, hown, hts⟩ hN hX hAE hK hP hD hS hA [1, 2] [0, 3, 4] (ci := 2) rfl rfl rfl rfl (by decide +kernel) (by decide +kernel) (by decide +kernel) (c_X2_setFact_3 l E D cI cJ cB cZ h1 f1 h2 g0 e6) (cwV 3 hts g9_X8_readInto_X2_setFact_157 rfl rfl rfl (by decide +kernel) ⟨Nat.le_of_ble_eq_true rfl, Nat.le_of_ble_eq_true rfl⟩) rfl hl.1 (Nat.le_of_ble_eq_true rfl) dX8_readInto_31 ⟨Nat.le_of_ble_eq_true rfl, Nat.le_of_ble_eq_true rfl⟩ (fun _ H locs hP hD hS => ?_)
  have hP : va_P D vwCl [(h0, .inr (8, ((((f0.set 11 (.int 25)).set 12 (.int 0)).set 13 (.int 0)).set 14 (.int 0)))), (h3, .inr (3, f2)), (h4, .inl (cI, 13312, .inl g1)), (h1, .inr (2, f1)), (h2, .inl (cI, 260, .inl (upd g0 259 0)))] H := hP
  have hD : va_D A [(h0, .inr (8, ((((f0.set 11 (.int 25)).set 12 (.int 0)).set 13 (.int 0)).set 14 (.int 0)))), (h3, .inr (3, f2)), (h4, .inl (cI, 13312, .inl g1)), (h1, .inr (2, f1)), (h2, .inl (cI, 260, .inl (upd g0 259 0)))] := hD
  refine lv_iload_n hx hb dX8_readInto_34 rfl (lv_at hl 1 rfl) ?_
  refine lv_bipush (v := 25) hx hb dX8_readInto_35 (by decide) ?_
  refine lv_icmp_ne (tgt := 47) hx hb dX8_readInto_37 (by decide) (fun c9 => absurd (by decide) c9) (fun _ => ?_)
  refine lv_aload_n hx hb dX8_readInto_40 rfl (lv_at hl 0 rfl) ?_
  refine k_cVv (As := []) (rest := []) (wc := [(h0, .inr (8, ((((f0.set 11 (.int 25)).set 12 (.int 0)).set 13 (.int 0)).set 14 (.int 0)))), (h3, .inr (3, f2)), (h1, .inr (2, f1)), (h4, .inl (cI, 13312, .inl g1))]) (wr := [(h2, .inl (cI, 260, .inl (upd g0 259 0)))]) (w1 := (fun _ : Unit => [(h0, .inr (8, (((((((((f0.set 11 (.int 25)).set 12 (.int 0)).set 13 (.int 0)).set 14 (.int 0)).set 3 (.int 2)).set 4 (.int 0)).set 7 (.int 44)).set 13 (.int 1)).set 13 (.int 2)))), (h3, .inr (3, f2)), (h1, .inr (2, f1)), (h4, .inl (cI, 13312, .inl (upd (upd g1 12800 43) 12801 43)))])) ⟨hx, hb, hml, hown, hts⟩ hN hX hAE hK hP hD hS hA [0, 1, 3, 2] [4] (ci := 8) rfl rfl rfl rfl (by decide +kernel) (by decide +kernel) (by decide +kernel) (c_X8_term_2 l E D cI cJ cB cZ h0 (((((f0.set 11 (.int 25)).set 12 (.int 0)).set 13 (.int 0)).set 14 (.int 0))) h3 f2 h1 f1 h4 g1 (k_ne (by decide) (k_ne (by decide) (k_ne (by decide) (k_ne (by decide) e7)))) (k_ne (by decide) (k_ne (by decide) (k_ne (by decide) (k_ne (by decide) e8)))) (k_ne (by decide) (k_ne (by decide) (k_ne (by decide) (k_ne (by decide) e9)))) e10 (k_ne (by decide) (k_ne (by decide) (k_ne (by decide) (k_ne (by decide) e4)))) e11 (k_ne (by decide) (k_ne (by decide) (k_ne (by decide) (k_ne (by decide) e12)))) (k_ne (by decide) (k_ne (by decide) (k_ne (by decide) (k_ne (by decide) e5)))) (k_ne (by decide) (k_ne (by decide) (k_ne (by decide) (k_ne (by decide) e13)))) (k_ne (by decide) (k_ne (by decide) (k_ne (by decide) (k_set e0)))) (k_ne (by decide) (k_set (k_ne (by decide) (k_ne (by decide) e2)))) e14) (cwV 0 hts g9_X8_readInto_X8_term_176 rfl rfl rfl (by decide +kernel) ⟨Nat.le_of_ble_eq_true rfl, Nat.le_of_ble_eq_true rfl⟩) rfl hl.1 (Nat.le_of_ble_eq_true rfl) dX8_readInto_41 ⟨Nat.le_of_ble_eq_true rfl, Nat.le_of_ble_eq_true rfl⟩ (fun _ H locs hP hD hS => ?_)
  have hP : va_P D vwCl [(h2, .inl (cI, 260, .inl (upd g0 259 0))), (h0, .inr (8, (((((((((f0.set 11 (.int 25)).set 12 (.int 0)).set 13 (.int 0)).set 14 (.int 0)).set 3 (.int 2)).set 4 (.int 0)).set 7 (.int 44)).set 13 (.int 1)).set 13 (.int 2)))), (h3, .inr (3, f2)), (h1, .inr (2, f1)), (h4, .inl (cI, 13312, .inl (upd (upd g1 12800 43) 12801 43)))] H := hP
  have hD : va_D A [(h2, .inl (cI, 260, .inl (upd g0 259 0))), (h0, .inr (8, (((((((((f0.set 11 (.int 25)).set 12 (.int 0)).set 13 (.int 0)).set 14 (.int 0)).set 3 (.int 2)).set 4 (.int 0)).set 7 (.int 44)).set 13 (.int 1)).set 13 (.int 2)))), (h3, .inr (3, f2)), (h1, .inr (2, f1)), (h4, .inl (cI, 13312, .inl (upd (upd g1 12800 43) 12801 43)))] := hD
  refine lv_goto (tgt := 51) hx hb dX8_readInto_44 (by decide) ?_
  refine lv_aload_n hx hb dX8_readInto_51 rfl (lv_at hl 0 rfl) ?_
  refine k_get (D := D) (ci := 8) (v := .ref h1) (N := 15) hx hb hts hin8 hown hK hP 1 rfl rfl (by decide) f9_8_1 (hts (.fieldLink RX8 15 "IntegerHouse$Reader" "house" "LIntegerHouse$House;") (o9_X8_readInto _ (List.mem_of_getElem? (i := 4) rfl))) (k_ne (by decide) (k_ne (by decide) (k_ne (by decide) (k_ne (by decide) (k_ne (by decide) (k_ne (by decide) (k_ne (by decide) (k_ne (by decide) (k_ne (by decide) e4))))))))) dX8_readInto_52 ?_
  refine lv_iload_n hx hb dX8_readInto_55 rfl (lv_at hl 1 rfl) ?_
  refine lv_iconst (v := 0) hx hb dX8_readInto_56 (by decide) ?_
  refine lv_aload_n hx hb dX8_readInto_57 rfl (lv_at hl 0 rfl) ?_
  refine k_get (D := D) (ci := 8) (v := .int 0) (N := 15) hx hb hts hin8 hown hK hP 1 rfl rfl (by decide) f9_8_12 (hts (.fieldLink RX8 167 "IntegerHouse$Reader" "tokens" "I") (o9_X8_readInto _ (List.mem_of_getElem? (i := 1) rfl))) (k_ne (by decide) (k_ne (by decide) (k_ne (by decide) (k_ne (by decide) (k_ne (by decide) (k_ne (by decide) (k_ne (by decide) (k_set (k_ne (by decide) e1))))))))) dX8_readInto_58 ?_
  refine k_cVv (As := [.int 25, .int 0, .int 0]) (rest := []) (wc := [(h1, .inr (2, f1)), (h2, .inl (cI, 260, .inl (upd g0 259 0)))]) (wr := [(h0, .inr (8, (((((((((f0.set 11 (.int 25)).set 12 (.int 0)).set 13 (.int 0)).set 14 (.int 0)).set 3 (.int 2)).set 4 (.int 0)).set 7 (.int 44)).set 13 (.int 1)).set 13 (.int 2)))), (h3, .inr (3, f2)), (h4, .inl (cI, 13312, .inl (upd (upd g1 12800 43) 12801 43)))]) (w1 := (fun _ : Unit => [(h1, .inr (2, f1)), (h2, .inl (cI, 260, .inl (upd (upd g0 259 0) 250 0)))])) ⟨hx, hb, hml, hown, hts⟩ hN hX hAE hK hP hD hS hA [3, 0] [1, 2, 4] (ci := 2) rfl rfl rfl rfl (by decide +kernel) (by decide +kernel) (by decide +kernel) (c_X2_setFact_4 l E D cI cJ cB cZ h1 f1 h2 ((upd g0 259 0)) e6) (cwV 3 hts g9_X8_readInto_X2_setFact_157 rfl rfl rfl (by decide +kernel) ⟨Nat.le_of_ble_eq_true rfl, Nat.le_of_ble_eq_true rfl⟩) rfl hl.1 (Nat.le_of_ble_eq_true rfl) dX8_readInto_61 ⟨Nat.le_of_ble_eq_true rfl, Nat.le_of_ble_eq_true rfl⟩ (fun _ H locs hP hD hS => ?_)
  have hP : va_P D vwCl [(h0, .inr (8, (((((((((f0.set 11 (.int 25)).set 12 (.int 0)).set 13 (.int 0)).set 14 (.int 0)).set 3 (.int 2)).set 4 (.int 0)).set 7 (.int 44)).set 13 (.int 1)).set 13 (.int 2)))), (h3, .inr (3, f2)), (h4, .inl (cI, 13312, .inl (upd (upd g1 12800 43) 12801 43))), (h1, .inr (2, f1)), (h2, .inl (cI, 260, .inl (upd (upd g0 259 0) 250 0)))] H := hP
  have hD : va_D A [(h0, .inr (8, (((((((((f0.set 11 (.int 25)).set 12 (.int 0)).set 13 (.int 0)).set 14 (.int 0)).set 3 (.int 2)).set 4 (.int 0)).set 7 (.int 44)).set 13 (.int 1)).set 13 (.int 2)))), (h3, .inr (3, f2)), (h4, .inl (cI, 13312, .inl (upd (upd g1 12800 43) 12801 43))), (h1, .inr (2, f1)), (h2, .inl (cI, 260, .inl (upd (upd g0 259 0) 250 0)))] := hD
  refine lv_aload_n hx hb dX8_readInto_64 rfl (lv_at hl 0 rfl) ?_
  refine k_get (D := D) (ci := 8) (v := .ref h1) (N := 15) hx hb hts hin8 hown hK hP 0 rfl rfl (by decide) f9_8_1 (hts (.fieldLink RX8 15 "IntegerHouse$Reader" "house" "LIntegerHouse$House;") (o9_X8_readInto _ (List.mem_of_getElem? (i := 4) rfl))) (k_ne (by decide) (k_ne (by decide) (k_ne (by decide) (k_ne (by decide) (k_ne (by decide) (k_ne (by decide) (k_ne (by decide) (k_ne (by decide) (k_ne (by decide) e4))))))))) dX8_readInto_65 ?_
  refine lv_iload_n hx hb dX8_readInto_68 rfl (lv_at hl 1 rfl) ?_
  refine lv_iconst (v := 1) hx hb dX8_readInto_69 (by decide) ?_
  refine lv_aload_n hx hb dX8_readInto_70 rfl (lv_at hl 0 rfl) ?_
  refine k_get (D := D) (ci := 8) (v := .int 2) (N := 15) hx hb hts hin8 hown hK hP 0 rfl rfl (by decide) f9_8_13 (hts (.fieldLink RX8 170 "IntegerHouse$Reader" "steps" "I") (o9_X8_readInto _ (List.mem_of_getElem? (i := 2) rfl))) (k_set (k_set (k_ne (by decide) (k_ne (by decide) (k_ne (by decide) (k_ne (by decide) (k_set (k_ne (by decide) (k_ne (by decide) e2))))))))) dX8_readInto_71 ?_
  refine k_cVv (As := [.int 25, .int 1, .int 2]) (rest := []) (wc := [(h1, .inr (2, f1)), (h2, .inl (cI, 260, .inl (upd (upd g0 259 0) 250 0)))]) (wr := [(h0, .inr (8, (((((((((f0.set 11 (.int 25)).set 12 (.int 0)).set 13 (.int 0)).set 14 (.int 0)).set 3 (.int 2)).set 4 (.int 0)).set 7 (.int 44)).set 13 (.int 1)).set 13 (.int 2)))), (h3, .inr (3, f2)), (h4, .inl (cI, 13312, .inl (upd (upd g1 12800 43) 12801 43)))]) (w1 := (fun _ : Unit => [(h1, .inr (2, f1)), (h2, .inl (cI, 260, .inl (upd (upd (upd g0 259 0) 250 0) 251 2)))])) ⟨hx, hb, hml, hown, hts⟩ hN hX hAE hK hP hD hS hA [3, 4] [0, 1, 2] (ci := 2) rfl rfl rfl rfl (by decide +kernel) (by decide +kernel) (by decide +kernel) (c_X2_setFact_5 l E D cI cJ cB cZ h1 f1 h2 ((upd (upd g0 259 0) 250 0)) e6) (cwV 3 hts g9_X8_readInto_X2_setFact_157 rfl rfl rfl (by decide +kernel) ⟨Nat.le_of_ble_eq_true rfl, Nat.le_of_ble_eq_true rfl⟩) rfl hl.1 (Nat.le_of_ble_eq_true rfl) dX8_readInto_74 ⟨Nat.le_of_ble_eq_true rfl, Nat.le_of_ble_eq_true rfl⟩ (fun _ H locs hP hD hS => ?_)
  have hP : va_P D vwCl [(h0, .inr (8, (((((((((f0.set 11 (.int 25)).set 12 (.int 0)).set 13 (.int 0)).set 14 (.int 0)).set 3 (.int 2)).set 4 (.int 0)).set 7 (.int 44)).set 13 (.int 1)).set 13 (.int 2)))), (h3, .inr (3, f2)), (h4, .inl (cI, 13312, .inl (upd (upd g1 12800 43) 12801 43))), (h1, .inr (2, f1)), (h2, .inl (cI, 260, .inl (upd (upd (upd g0 259 0) 250 0) 251 2)))] H := hP
  have hD : va_D A [(h0, .inr (8, (((((((((f0.set 11 (.int 25)).set 12 (.int 0)).set 13 (.int 0)).set 14 (.int 0)).set 3 (.int 2)).set 4 (.int 0)).set 7 (.int 44)).set 13 (.int 1)).set 13 (.int 2)))), (h3, .inr (3, f2)), (h4, .inl (cI, 13312, .inl (upd (upd g1 12800 43) 12801 43))), (h1, .inr (2, f1)), (h2, .inl (cI, 260, .inl (upd (upd (upd g0 259 0) 250 0) 251 2)))] := hD
  have hP := hP.sub (ws' := [(h0, .inr (8, (((((((((f0.set 11 (.int 25)).set 12 (.int 0)).set 13 (.int 0)).set 14 (.int 0)).set 3 (.int 2)).set 4 (.int 0)).set 7 (.int 44)).set 13 (.int 1)).set 13 (.int 2)))), (h1, .inr (2, f1)), (h2, .inl (cI, 260, .inl (upd (upd (upd g0 259 0) 250 0) 251 2))), (h3, .inr (3, f2)), (h4, .inl (cI, 13312, .inl (upd (upd g1 12800 43) 12801 43)))]) [0, 3, 4, 1, 2] rfl
  have hD := hD.sub (ws' := [(h0, .inr (8, (((((((((f0.set 11 (.int 25)).set 12 (.int 0)).set 13 (.int 0)).set 14 (.int 0)).set 3 (.int 2)).set 4 (.int 0)).set 7 (.int 44)).set 13 (.int 1)).set 13 (.int 2)))), (h1, .inr (2, f1)), (h2, .inl (cI, 260, .inl (upd (upd (upd g0 259 0) 250 0) 251 2))), (h3, .inr (3, f2)), (h4, .inl (cI, 13312, .inl (upd (upd g1 12800 43) 12801 43)))]) [0, 3, 4, 1, 2] (by decide +kernel) rfl
  exact W.vret hx hb hr (fun t ht hW => ⟨⟨(), rfl, trivial, kB_mk ht hW hP hK hD⟩, hS.F ht⟩) hS.2.2 dX8_readInto_77
set_option maxHeartbeats 400000000 in
set_option maxRecDepth 100000 in
theorem c_X8_readExtreme_0 (l : Launch) (E : kE) (D : va_G) (cI cJ cB cZ : ClassId) (h0 : Nat) (h1 : Nat) (f0 : List Value) (h2 : Nat) (f1 : List Value) (h3 : Nat) (h4 : Nat) (h5 : Nat) (g0 : Nat → Int32) (g1 : Nat → Int32) (h6 : Nat) (f2 : List Value) (h7 : Nat) (h8 : Nat) (g2 : Nat → Int32) (g3 : Nat → Int32) (e0 : f0[0]? = some (.ref h2)) (e1 : f1[6]? = some (.ref h3)) (e2 : f1[7]? = some (.int 0)) (e3 : f1[8]? = some (.int 0)) (e4 : f1[5]? = some (.int 0)) (e5 : f1[1]? = some (.ref h4)) (e6 : f1[2]? = some (.ref h5)) (e7 : f0[3]? = some (.int 0)) (e8 : f0[4]? = some (.int 0)) (e9 : f0[5]? = some (.int 0)) (e10 : f0[6]? = some (.int 0)) (e11 : f0[7]? = some (.int 0)) (e12 : f0[8]? = some (.int 0)) (e13 : f0[11]? = some (.int 0)) (e14 : f0[12]? = some (.int 0)) (e15 : f0[13]? = some (.int 0)) (e16 : f0[14]? = some (.int 0)) (e17 : f0[1]? = some (.ref h6)) (e18 : f2[5]? = some (.ref h7)) (e19 : f2[10]? = some (.int 0)) (e20 : f2[3]? = some (.ref h8)) : kI l E D (kT cI cJ cB cZ) yX8_readExtreme vW_X8_readExtreme ({ frames := 5, cells := 0, slots := 0, locals := 112 }) [.ref h0, .ref h1, .int 0] [(h0, .inr (8, f0)), (h2, .inr (3, f1)), (h4, .inl (cI, 2001, .inl g0)), (h5, .inl (cI, 2001, .inl g1)), (h6, .inr (2, f2)), (h7, .inl (cI, 260, .inl g2)), (h8, .inl (cI, 13312, .inl g3))] (0) [(h0, .inr (8, ((((((((((((((((((f0.set 3 (.int 0)).set 4 (.int 0)).set 5 (.int 0)).set 6 (.int (-1))).set 6 (.int 0)).set 7 (.int 0)).set 8 (.int 0)).set 11 (.int 25)).set 12 (.int 0)).set 13 (.int 0)).set 14 (.int 0)).set 3 (.int 2)).set 4 (.int 0)).set 7 (.int 44)).set 13 (.int 1)).set 13 (.int 2)).set 5 (.int 0)).set 7 (.int 44)))), (h2, .inr (3, ((((f1.set 6 (.ref h1)).set 7 (.int 0)).set 8 (.int 0)).set 5 (.int 0)))), (h4, .inl (cI, 2001, .inl (upd g0 0 0))), (h5, .inl (cI, 2001, .inl (upd g1 0 0))), (h6, .inr (2, f2)), (h7, .inl (cI, 260, .inl (upd (upd (upd g2 259 0) 250 0) 251 2))), (h8, .inl (cI, 13312, .inl (upd (upd g3 12800 43) 12801 43)))] 0 0 := by
  intro sz
  refine Met.ofW (cc := cX8_readExtreme) (maxL := 3) (ret := (some .boolean)) (by decide) rfl ?_
  intro p e s m args below meth c s₁ B hml hv
  obtain ⟨rfl, hsz, hP, hK, hD0, hN, hX⟩ := hv
  have hx := B.exec
  have hb := B.bytes
  have hr := B.returns
  have hts := atoms_spec (ws := vW_X8_readExtreme) B.pre
  have hown : s.vm.findClass RX8 = some m.cls := findClass_of_methodNamed B.named
  have hlocks := B.notSynchronized
  have hin8 : ∀ w ∈ wsX80, w ∈ vW_X8_readExtreme := u9_X8_readExtreme_wsX80
  subst hsz
  have hD := hD0.self (sz := s.heap.size)
  have hAE := k_AE hD0 hX
  generalize hAe : va_A [(h0, .inr (8, f0)), (h2, .inr (3, f1)), (h4, .inl (cI, 2001, .inl g0)), (h5, .inl (cI, 2001, .inl g1)), (h6, .inr (2, f2)), (h7, .inl (cI, 260, .inl g2)), (h8, .inl (cI, 13312, .inl g3))] s.heap.size = A at hD hAE ⊢
  have hA : ∀ q : Nat, s.heap.size ≤ q → A q := fun q h => by rw [← hAe]; exact Or.inr h
  have hS : va_S A s.heap s.heap [] := va_S.rf
  have hP : va_P D vwCl [(h0, .inr (8, f0)), (h2, .inr (3, f1)), (h4, .inl (cI, 2001, .inl g0)), (h5, .inl (cI, 2001, .inl g1)), (h6, .inr (2, f2)), (h7, .inl (cI, 260, .inl g2)), (h8, .inl (cI, 13312, .inl g3))] s.heap := hP
  have hl := lv_entry ([.ref h0, .ref h1, .int 0] : List Value) (n := 3) (Nat.le_of_ble_eq_true rfl)
  rw [lg_entry_eq]
  generalize (lg_sl ([.ref h0, .ref h1, .int 0]) ++ List.replicate (3 - (lg_sl ([.ref h0, .ref h1, .int 0])).length) Slot.unset).toArray = ls at hl ⊢
  have hl : lv_has ls 3 [(0, .ref h0), (1, .ref h1), (2, .int 0)] := hl
  refine lv_aload_n hx hb dX8_readExtreme_0 rfl (lv_at hl 0 rfl) ?_
  refine lv_aload_n hx hb dX8_readExtreme_1 rfl (lv_at hl 1 rfl) ?_
  refine lv_iconst (v := 0) hx hb dX8_readExtreme_2 (by decide) ?_
  refine lv_iload_n hx hb dX8_readExtreme_3 rfl (lv_at hl 2 rfl) ?_
  refine k_cVv (As := [.ref h1, .int 0, .int 0]) (rest := []) (wc := [(h0, .inr (8, f0)), (h2, .inr (3, f1)), (h4, .inl (cI, 2001, .inl g0)), (h5, .inl (cI, 2001, .inl g1))]) (wr := [(h6, .inr (2, f2)), (h7, .inl (cI, 260, .inl g2)), (h8, .inl (cI, 13312, .inl g3))]) (w1 := (fun _ : Unit => [(h0, .inr (8, (((((((f0.set 3 (.int 0)).set 4 (.int 0)).set 5 (.int 0)).set 6 (.int (-1))).set 6 (.int 0)).set 7 (.int 0)).set 8 (.int 0)))), (h2, .inr (3, ((((f1.set 6 (.ref h1)).set 7 (.int 0)).set 8 (.int 0)).set 5 (.int 0)))), (h4, .inl (cI, 2001, .inl (upd g0 0 0))), (h5, .inl (cI, 2001, .inl (upd g1 0 0)))])) ⟨hx, hb, hml, hown, hts⟩ hN hX hAE hK hP hD hS hA [0, 1, 2, 3] [4, 5, 6] (ci := 8) rfl rfl rfl rfl (by decide +kernel) (by decide +kernel) (by decide +kernel) (c_X8_begin_0 l E D cI cJ cB cZ h0 h1 f0 h2 f1 h3 h4 h5 g0 g1 e0 e1 e2 e3 e4 e5 e6 e7 e8 e9 e10 e11 e12) (cwV 3 hts g9_X8_readExtreme_X8_begin_23 rfl rfl rfl (by decide +kernel) ⟨Nat.le_of_ble_eq_true rfl, Nat.le_of_ble_eq_true rfl⟩) rfl hl.1 (Nat.le_of_ble_eq_true rfl) dX8_readExtreme_4 ⟨Nat.le_of_ble_eq_true rfl, Nat.le_of_ble_eq_true rfl⟩ (fun _ H locs hP hD hS => ?_)
  have hP : va_P D vwCl [(h6, .inr (2, f2)), (h7, .inl (cI, 260, .inl g2)), (h8, .inl (cI, 13312, .inl g3)), (h0, .inr (8, (((((((f0.set 3 (.int 0)).set 4 (.int 0)).set 5 (.int 0)).set 6 (.int (-1))).set 6 (.int 0)).set 7 (.int 0)).set 8 (.int 0)))), (h2, .inr (3, ((((f1.set 6 (.ref h1)).set 7 (.int 0)).set 8 (.int 0)).set 5 (.int 0)))), (h4, .inl (cI, 2001, .inl (upd g0 0 0))), (h5, .inl (cI, 2001, .inl (upd g1 0 0)))] H := hP
  have hD : va_D A [(h6, .inr (2, f2)), (h7, .inl (cI, 260, .inl g2)), (h8, .inl (cI, 13312, .inl g3)), (h0, .inr (8, (((((((f0.set 3 (.int 0)).set 4 (.int 0)).set 5 (.int 0)).set 6 (.int (-1))).set 6 (.int 0)).set 7 (.int 0)).set 8 (.int 0)))), (h2, .inr (3, ((((f1.set 6 (.ref h1)).set 7 (.int 0)).set 8 (.int 0)).set 5 (.int 0)))), (h4, .inl (cI, 2001, .inl (upd g0 0 0))), (h5, .inl (cI, 2001, .inl (upd g1 0 0)))] := hD
  refine lv_aload_n hx hb dX8_readExtreme_7 rfl (lv_at hl 0 rfl) ?_
  refine lv_bipush (v := 25) hx hb dX8_readExtreme_8 (by decide) ?_
  refine k_cVv (As := [.int 25]) (rest := []) (wc := [(h0, .inr (8, (((((((f0.set 3 (.int 0)).set 4 (.int 0)).set 5 (.int 0)).set 6 (.int (-1))).set 6 (.int 0)).set 7 (.int 0)).set 8 (.int 0)))), (h6, .inr (2, f2)), (h7, .inl (cI, 260, .inl g2)), (h2, .inr (3, ((((f1.set 6 (.ref h1)).set 7 (.int 0)).set 8 (.int 0)).set 5 (.int 0)))), (h8, .inl (cI, 13312, .inl g3))]) (wr := [(h4, .inl (cI, 2001, .inl (upd g0 0 0))), (h5, .inl (cI, 2001, .inl (upd g1 0 0)))]) (w1 := (fun _ : Unit => [(h0, .inr (8, ((((((((((((((((f0.set 3 (.int 0)).set 4 (.int 0)).set 5 (.int 0)).set 6 (.int (-1))).set 6 (.int 0)).set 7 (.int 0)).set 8 (.int 0)).set 11 (.int 25)).set 12 (.int 0)).set 13 (.int 0)).set 14 (.int 0)).set 3 (.int 2)).set 4 (.int 0)).set 7 (.int 44)).set 13 (.int 1)).set 13 (.int 2)))), (h6, .inr (2, f2)), (h7, .inl (cI, 260, .inl (upd (upd (upd g2 259 0) 250 0) 251 2))), (h2, .inr (3, ((((f1.set 6 (.ref h1)).set 7 (.int 0)).set 8 (.int 0)).set 5 (.int 0)))), (h8, .inl (cI, 13312, .inl (upd (upd g3 12800 43) 12801 43)))])) ⟨hx, hb, hml, hown, hts⟩ hN hX hAE hK hP hD hS hA [3, 0, 1, 4, 2] [5, 6] (ci := 8) rfl rfl rfl rfl (by decide +kernel) (by decide +kernel) (by decide +kernel) (c_X8_readInto_1 l E D cI cJ cB cZ h0 ((((((((f0.set 3 (.int 0)).set 4 (.int 0)).set 5 (.int 0)).set 6 (.int (-1))).set 6 (.int 0)).set 7 (.int 0)).set 8 (.int 0))) h6 f2 h7 g2 h2 (((((f1.set 6 (.ref h1)).set 7 (.int 0)).set 8 (.int 0)).set 5 (.int 0))) h8 g3 (k_ne (by decide) (k_ne (by decide) (k_ne (by decide) (k_ne (by decide) (k_ne (by decide) (k_ne (by decide) (k_ne (by decide) e13))))))) (k_ne (by decide) (k_ne (by decide) (k_ne (by decide) (k_ne (by decide) (k_ne (by decide) (k_ne (by decide) (k_ne (by decide) e14))))))) (k_ne (by decide) (k_ne (by decide) (k_ne (by decide) (k_ne (by decide) (k_ne (by decide) (k_ne (by decide) (k_ne (by decide) e15))))))) (k_ne (by decide) (k_ne (by decide) (k_ne (by decide) (k_ne (by decide) (k_ne (by decide) (k_ne (by decide) (k_ne (by decide) e16))))))) (k_ne (by decide) (k_ne (by decide) (k_ne (by decide) (k_ne (by decide) (k_ne (by decide) (k_ne (by decide) (k_ne (by decide) e17))))))) (k_set (k_ne (by decide) (k_ne (by decide) (k_ne (by decide) (k_ne (by decide) (k_ne (by decide) (k_ne (by decide) e12))))))) e18 (k_ne (by decide) (k_set (k_ne (by decide) (k_ne (by decide) (k_ne (by decide) (k_ne (by decide) (k_ne (by decide) e11))))))) (k_ne (by decide) (k_ne (by decide) (k_ne (by decide) (k_ne (by decide) (k_ne (by decide) (k_ne (by decide) (k_ne (by decide) e0))))))) (k_ne (by decide) (k_ne (by decide) (k_set (k_set (k_ne (by decide) (k_ne (by decide) (k_ne (by decide) e10))))))) (k_set (k_ne (by decide) (k_ne (by decide) (k_ne (by decide) e4)))) e19 (k_ne (by decide) (k_ne (by decide) (k_ne (by decide) (k_ne (by decide) (k_ne (by decide) (k_ne (by decide) (k_set e7))))))) (k_ne (by decide) (k_ne (by decide) (k_ne (by decide) (k_ne (by decide) (k_ne (by decide) (k_set (k_ne (by decide) e8))))))) e20) (cwV 1 hts g9_X8_readExtreme_X8_readInto_49 rfl rfl rfl (by decide +kernel) ⟨Nat.le_of_ble_eq_true rfl, Nat.le_of_ble_eq_true rfl⟩) rfl hl.1 (Nat.le_of_ble_eq_true rfl) dX8_readExtreme_10 ⟨Nat.le_of_ble_eq_true rfl, Nat.le_of_ble_eq_true rfl⟩ (fun _ H locs hP hD hS => ?_)
  have hP : va_P D vwCl [(h4, .inl (cI, 2001, .inl (upd g0 0 0))), (h5, .inl (cI, 2001, .inl (upd g1 0 0))), (h0, .inr (8, ((((((((((((((((f0.set 3 (.int 0)).set 4 (.int 0)).set 5 (.int 0)).set 6 (.int (-1))).set 6 (.int 0)).set 7 (.int 0)).set 8 (.int 0)).set 11 (.int 25)).set 12 (.int 0)).set 13 (.int 0)).set 14 (.int 0)).set 3 (.int 2)).set 4 (.int 0)).set 7 (.int 44)).set 13 (.int 1)).set 13 (.int 2)))), (h6, .inr (2, f2)), (h7, .inl (cI, 260, .inl (upd (upd (upd g2 259 0) 250 0) 251 2))), (h2, .inr (3, ((((f1.set 6 (.ref h1)).set 7 (.int 0)).set 8 (.int 0)).set 5 (.int 0)))), (h8, .inl (cI, 13312, .inl (upd (upd g3 12800 43) 12801 43)))] H := hP
  have hD : va_D A [(h4, .inl (cI, 2001, .inl (upd g0 0 0))), (h5, .inl (cI, 2001, .inl (upd g1 0 0))), (h0, .inr (8, ((((((((((((((((f0.set 3 (.int 0)).set 4 (.int 0)).set 5 (.int 0)).set 6 (.int (-1))).set 6 (.int 0)).set 7 (.int 0)).set 8 (.int 0)).set 11 (.int 25)).set 12 (.int 0)).set 13 (.int 0)).set 14 (.int 0)).set 3 (.int 2)).set 4 (.int 0)).set 7 (.int 44)).set 13 (.int 1)).set 13 (.int 2)))), (h6, .inr (2, f2)), (h7, .inl (cI, 260, .inl (upd (upd (upd g2 259 0) 250 0) 251 2))), (h2, .inr (3, ((((f1.set 6 (.ref h1)).set 7 (.int 0)).set 8 (.int 0)).set 5 (.int 0)))), (h8, .inl (cI, 13312, .inl (upd (upd g3 12800 43) 12801 43)))] := hD
  refine lv_aload_n hx hb dX8_readExtreme_13 rfl (lv_at hl 0 rfl) ?_
  refine lv_aload_n hx hb dX8_readExtreme_14 rfl (lv_at hl 0 rfl) ?_
  refine k_get (D := D) (ci := 8) (v := .int 44) (N := 15) hx hb hts hin8 hown hK hP 2 rfl rfl (by decide) f9_8_7 (hts (.fieldLink RX8 39 "IntegerHouse$Reader" "kind" "I") (o9_X8_readExtreme _ (List.mem_of_getElem? (i := 7) rfl))) (k_ne (by decide) (k_ne (by decide) (k_set (k_ne (by decide) (k_ne (by decide) (k_ne (by decide) (k_ne (by decide) (k_ne (by decide) (k_ne (by decide) (k_ne (by decide) (k_set (k_ne (by decide) (k_ne (by decide) (k_ne (by decide) (k_ne (by decide) (k_ne (by decide) e11)))))))))))))))) dX8_readExtreme_15 ?_
  refine lv_bipush (v := 34) hx hb dX8_readExtreme_18 (by decide) ?_
  refine lv_icmp_ne (tgt := 27) hx hb dX8_readExtreme_20 (by decide) (fun _ => ?_) (fun c9 => absurd c9 (by decide))
  refine lv_iconst (v := 0) hx hb dX8_readExtreme_27 (by decide) ?_
  refine k_put (D := D) (ci := 8) (v := .int 0) (ty := .boolean) (N := 15) hx hb hts hin8 tyX8 tyX8_ok nmX8 hown hK hP hD hS 2 rfl rfl (by decide) f9_8_5 (hts (.fieldLink RX8 101 "IntegerHouse$Reader" "hasFormula" "Z") (o9_X8_readExtreme _ (List.mem_of_getElem? (i := 8) rfl))) rfl pd_18 rfl rfl (k_len (k_ne (by decide) (k_ne (by decide) (k_ne (by decide) (k_ne (by decide) (k_ne (by decide) (k_ne (by decide) (k_ne (by decide) (k_ne (by decide) (k_ne (by decide) (k_ne (by decide) (k_ne (by decide) (k_ne (by decide) (k_ne (by decide) (k_set (k_ne (by decide) (k_ne (by decide) e9))))))))))))))))) dX8_readExtreme_28 (fun H locs hP hD hS => ?_)
  have hP : va_P D vwCl [(h4, .inl (cI, 2001, .inl (upd g0 0 0))), (h5, .inl (cI, 2001, .inl (upd g1 0 0))), (h0, .inr (8, (((((((((((((((((f0.set 3 (.int 0)).set 4 (.int 0)).set 5 (.int 0)).set 6 (.int (-1))).set 6 (.int 0)).set 7 (.int 0)).set 8 (.int 0)).set 11 (.int 25)).set 12 (.int 0)).set 13 (.int 0)).set 14 (.int 0)).set 3 (.int 2)).set 4 (.int 0)).set 7 (.int 44)).set 13 (.int 1)).set 13 (.int 2)).set 5 (.int 0)))), (h6, .inr (2, f2)), (h7, .inl (cI, 260, .inl (upd (upd (upd g2 259 0) 250 0) 251 2))), (h2, .inr (3, ((((f1.set 6 (.ref h1)).set 7 (.int 0)).set 8 (.int 0)).set 5 (.int 0)))), (h8, .inl (cI, 13312, .inl (upd (upd g3 12800 43) 12801 43)))] H := hP
  have hD : va_D A [(h4, .inl (cI, 2001, .inl (upd g0 0 0))), (h5, .inl (cI, 2001, .inl (upd g1 0 0))), (h0, .inr (8, (((((((((((((((((f0.set 3 (.int 0)).set 4 (.int 0)).set 5 (.int 0)).set 6 (.int (-1))).set 6 (.int 0)).set 7 (.int 0)).set 8 (.int 0)).set 11 (.int 25)).set 12 (.int 0)).set 13 (.int 0)).set 14 (.int 0)).set 3 (.int 2)).set 4 (.int 0)).set 7 (.int 44)).set 13 (.int 1)).set 13 (.int 2)).set 5 (.int 0)))), (h6, .inr (2, f2)), (h7, .inl (cI, 260, .inl (upd (upd (upd g2 259 0) 250 0) 251 2))), (h2, .inr (3, ((((f1.set 6 (.ref h1)).set 7 (.int 0)).set 8 (.int 0)).set 5 (.int 0)))), (h8, .inl (cI, 13312, .inl (upd (upd g3 12800 43) 12801 43)))] := hD
  refine lv_aload_n hx hb dX8_readExtreme_31 rfl (lv_at hl 0 rfl) ?_
  refine k_get (D := D) (ci := 8) (v := .int 0) (N := 15) hx hb hts hin8 hown hK hP 2 rfl rfl (by decide) f9_8_5 (hts (.fieldLink RX8 101 "IntegerHouse$Reader" "hasFormula" "Z") (o9_X8_readExtreme _ (List.mem_of_getElem? (i := 8) rfl))) (k_set (k_ne (by decide) (k_ne (by decide) (k_ne (by decide) (k_ne (by decide) (k_ne (by decide) (k_ne (by decide) (k_ne (by decide) (k_ne (by decide) (k_ne (by decide) (k_ne (by decide) (k_ne (by decide) (k_ne (by decide) (k_ne (by decide) (k_set (k_ne (by decide) (k_ne (by decide) e9))))))))))))))))) dX8_readExtreme_32 ?_
  refine lv_if_eq (tgt := 48) hx hb dX8_readExtreme_35 (by decide) (fun _ => ?_) (fun c9 => absurd (by decide) c9)
  refine lv_aload_n hx hb dX8_readExtreme_48 rfl (lv_at hl 0 rfl) ?_
  refine k_cVv (As := []) (rest := []) (wc := [(h0, .inr (8, (((((((((((((((((f0.set 3 (.int 0)).set 4 (.int 0)).set 5 (.int 0)).set 6 (.int (-1))).set 6 (.int 0)).set 7 (.int 0)).set 8 (.int 0)).set 11 (.int 25)).set 12 (.int 0)).set 13 (.int 0)).set 14 (.int 0)).set 3 (.int 2)).set 4 (.int 0)).set 7 (.int 44)).set 13 (.int 1)).set 13 (.int 2)).set 5 (.int 0))))]) (wr := [(h4, .inl (cI, 2001, .inl (upd g0 0 0))), (h5, .inl (cI, 2001, .inl (upd g1 0 0))), (h6, .inr (2, f2)), (h7, .inl (cI, 260, .inl (upd (upd (upd g2 259 0) 250 0) 251 2))), (h2, .inr (3, ((((f1.set 6 (.ref h1)).set 7 (.int 0)).set 8 (.int 0)).set 5 (.int 0)))), (h8, .inl (cI, 13312, .inl (upd (upd g3 12800 43) 12801 43)))]) (w1 := (fun _ : Unit => [(h0, .inr (8, ((((((((((((((((((f0.set 3 (.int 0)).set 4 (.int 0)).set 5 (.int 0)).set 6 (.int (-1))).set 6 (.int 0)).set 7 (.int 0)).set 8 (.int 0)).set 11 (.int 25)).set 12 (.int 0)).set 13 (.int 0)).set 14 (.int 0)).set 3 (.int 2)).set 4 (.int 0)).set 7 (.int 44)).set 13 (.int 1)).set 13 (.int 2)).set 5 (.int 0)).set 7 (.int 44))))])) ⟨hx, hb, hml, hown, hts⟩ hN hX hAE hK hP hD hS hA [2] [0, 1, 3, 4, 5, 6] (ci := 8) rfl rfl rfl rfl (by decide +kernel) (by decide +kernel) (by decide +kernel) (c_X8_expectEnd_1 l E D cI cJ cB cZ h0 ((((((((((((((((((f0.set 3 (.int 0)).set 4 (.int 0)).set 5 (.int 0)).set 6 (.int (-1))).set 6 (.int 0)).set 7 (.int 0)).set 8 (.int 0)).set 11 (.int 25)).set 12 (.int 0)).set 13 (.int 0)).set 14 (.int 0)).set 3 (.int 2)).set 4 (.int 0)).set 7 (.int 44)).set 13 (.int 1)).set 13 (.int 2)).set 5 (.int 0))) (k_ne (by decide) (k_ne (by decide) (k_ne (by decide) (k_set (k_ne (by decide) (k_ne (by decide) (k_ne (by decide) (k_ne (by decide) (k_ne (by decide) (k_ne (by decide) (k_ne (by decide) (k_set (k_ne (by decide) (k_ne (by decide) (k_ne (by decide) (k_ne (by decide) (k_ne (by decide) e11))))))))))))))))) (k_ne (by decide) (k_ne (by decide) (k_ne (by decide) (k_ne (by decide) (k_ne (by decide) (k_set (k_ne (by decide) (k_ne (by decide) (k_ne (by decide) (k_ne (by decide) (k_ne (by decide) (k_ne (by decide) (k_ne (by decide) (k_ne (by decide) (k_ne (by decide) (k_ne (by decide) (k_set e7)))))))))))))))))) (cwV 0 hts g9_X8_readExtreme_X8_expectEnd_59 rfl rfl rfl (by decide +kernel) ⟨Nat.le_of_ble_eq_true rfl, Nat.le_of_ble_eq_true rfl⟩) rfl hl.1 (Nat.le_of_ble_eq_true rfl) dX8_readExtreme_49 ⟨Nat.le_of_ble_eq_true rfl, Nat.le_of_ble_eq_true rfl⟩ (fun _ H locs hP hD hS => ?_)
  have hP : va_P D vwCl [(h4, .inl (cI, 2001, .inl (upd g0 0 0))), (h5, .inl (cI, 2001, .inl (upd g1 0 0))), (h6, .inr (2, f2)), (h7, .inl (cI, 260, .inl (upd (upd (upd g2 259 0) 250 0) 251 2))), (h2, .inr (3, ((((f1.set 6 (.ref h1)).set 7 (.int 0)).set 8 (.int 0)).set 5 (.int 0)))), (h8, .inl (cI, 13312, .inl (upd (upd g3 12800 43) 12801 43))), (h0, .inr (8, ((((((((((((((((((f0.set 3 (.int 0)).set 4 (.int 0)).set 5 (.int 0)).set 6 (.int (-1))).set 6 (.int 0)).set 7 (.int 0)).set 8 (.int 0)).set 11 (.int 25)).set 12 (.int 0)).set 13 (.int 0)).set 14 (.int 0)).set 3 (.int 2)).set 4 (.int 0)).set 7 (.int 44)).set 13 (.int 1)).set 13 (.int 2)).set 5 (.int 0)).set 7 (.int 44))))] H := hP
  have hD : va_D A [(h4, .inl (cI, 2001, .inl (upd g0 0 0))), (h5, .inl (cI, 2001, .inl (upd g1 0 0))), (h6, .inr (2, f2)), (h7, .inl (cI, 260, .inl (upd (upd (upd g2 259 0) 250 0) 251 2))), (h2, .inr (3, ((((f1.set 6 (.ref h1)).set 7 (.int 0)).set 8 (.int 0)).set 5 (.int 0)))), (h8, .inl (cI, 13312, .inl (upd (upd g3 12800 43) 12801 43))), (h0, .inr (8, ((((((((((((((((((f0.set 3 (.int 0)).set 4 (.int 0)).set 5 (.int 0)).set 6 (.int (-1))).set 6 (.int 0)).set 7 (.int 0)).set 8 (.int 0)).set 11 (.int 25)).set 12 (.int 0)).set 13 (.int 0)).set 14 (.int 0)).set 3 (.int 2)).set 4 (.int 0)).set 7 (.int 44)).set 13 (.int 1)).set 13 (.int 2)).set 5 (.int 0)).set 7 (.int 44))))] := hD
  refine lv_aload_n hx hb dX8_readExtreme_52 rfl (lv_at hl 0 rfl) ?_
  refine k_get (D := D) (ci := 8) (v := .int 2) (N := 15) hx hb hts hin8 hown hK hP 6 rfl rfl (by decide) f9_8_3 (hts (.fieldLink RX8 62 "IntegerHouse$Reader" "faultKind" "I") (o9_X8_readExtreme _ (List.mem_of_getElem? (i := 12) rfl))) (k_ne (by decide) (k_ne (by decide) (k_ne (by decide) (k_ne (by decide) (k_ne (by decide) (k_ne (by decide) (k_set (k_ne (by decide) (k_ne (by decide) (k_ne (by decide) (k_ne (by decide) (k_ne (by decide) (k_ne (by decide) (k_ne (by decide) (k_ne (by decide) (k_ne (by decide) (k_ne (by decide) (k_set e7)))))))))))))))))) dX8_readExtreme_53 ?_
  refine lv_if_ne (tgt := 94) hx hb dX8_readExtreme_56 (by decide) (fun _ => ?_) (fun c9 => absurd c9 (by decide))
  refine lv_aload_n hx hb dX8_readExtreme_94 rfl (lv_at hl 0 rfl) ?_
  refine k_get (D := D) (ci := 8) (v := .int 2) (N := 15) hx hb hts hin8 hown hK hP 6 rfl rfl (by decide) f9_8_3 (hts (.fieldLink RX8 62 "IntegerHouse$Reader" "faultKind" "I") (o9_X8_readExtreme _ (List.mem_of_getElem? (i := 12) rfl))) (k_ne (by decide) (k_ne (by decide) (k_ne (by decide) (k_ne (by decide) (k_ne (by decide) (k_ne (by decide) (k_set (k_ne (by decide) (k_ne (by decide) (k_ne (by decide) (k_ne (by decide) (k_ne (by decide) (k_ne (by decide) (k_ne (by decide) (k_ne (by decide) (k_ne (by decide) (k_ne (by decide) (k_set e7)))))))))))))))))) dX8_readExtreme_95 ?_
  refine lv_if_ne (tgt := 123) hx hb dX8_readExtreme_98 (by decide) (fun _ => ?_) (fun c9 => absurd c9 (by decide))
  refine lv_aload_n hx hb dX8_readExtreme_123 rfl (lv_at hl 0 rfl) ?_
  refine k_get (D := D) (ci := 8) (v := .int 2) (N := 15) hx hb hts hin8 hown hK hP 6 rfl rfl (by decide) f9_8_3 (hts (.fieldLink RX8 62 "IntegerHouse$Reader" "faultKind" "I") (o9_X8_readExtreme _ (List.mem_of_getElem? (i := 12) rfl))) (k_ne (by decide) (k_ne (by decide) (k_ne (by decide) (k_ne (by decide) (k_ne (by decide) (k_ne (by decide) (k_set (k_ne (by decide) (k_ne (by decide) (k_ne (by decide) (k_ne (by decide) (k_ne (by decide) (k_ne (by decide) (k_ne (by decide) (k_ne (by decide) (k_ne (by decide) (k_ne (by decide) (k_set e7)))))))))))))))))) dX8_readExtreme_124 ?_
  refine lv_if_ne (tgt := 134) hx hb dX8_readExtreme_127 (by decide) (fun _ => ?_) (fun c9 => absurd c9 (by decide))
  refine lv_iconst (v := 0) hx hb dX8_readExtreme_134 (by decide) ?_
  have hP := hP.sub (ws' := [(h0, .inr (8, ((((((((((((((((((f0.set 3 (.int 0)).set 4 (.int 0)).set 5 (.int 0)).set 6 (.int (-1))).set 6 (.int 0)).set 7 (.int 0)).set 8 (.int 0)).set 11 (.int 25)).set 12 (.int 0)).set 13 (.int 0)).set 14 (.int 0)).set 3 (.int 2)).set 4 (.int 0)).set 7 (.int 44)).set 13 (.int 1)).set 13 (.int 2)).set 5 (.int 0)).set 7 (.int 44)))), (h2, .inr (3, ((((f1.set 6 (.ref h1)).set 7 (.int 0)).set 8 (.int 0)).set 5 (.int 0)))), (h4, .inl (cI, 2001, .inl (upd g0 0 0))), (h5, .inl (cI, 2001, .inl (upd g1 0 0))), (h6, .inr (2, f2)), (h7, .inl (cI, 260, .inl (upd (upd (upd g2 259 0) 250 0) 251 2))), (h8, .inl (cI, 13312, .inl (upd (upd g3 12800 43) 12801 43)))]) [6, 4, 0, 1, 2, 3, 5] rfl
  have hD := hD.sub (ws' := [(h0, .inr (8, ((((((((((((((((((f0.set 3 (.int 0)).set 4 (.int 0)).set 5 (.int 0)).set 6 (.int (-1))).set 6 (.int 0)).set 7 (.int 0)).set 8 (.int 0)).set 11 (.int 25)).set 12 (.int 0)).set 13 (.int 0)).set 14 (.int 0)).set 3 (.int 2)).set 4 (.int 0)).set 7 (.int 44)).set 13 (.int 1)).set 13 (.int 2)).set 5 (.int 0)).set 7 (.int 44)))), (h2, .inr (3, ((((f1.set 6 (.ref h1)).set 7 (.int 0)).set 8 (.int 0)).set 5 (.int 0)))), (h4, .inl (cI, 2001, .inl (upd g0 0 0))), (h5, .inl (cI, 2001, .inl (upd g1 0 0))), (h6, .inr (2, f2)), (h7, .inl (cI, 260, .inl (upd (upd (upd g2 259 0) 250 0) 251 2))), (h8, .inl (cI, 13312, .inl (upd (upd g3 12800 43) 12801 43)))]) [6, 4, 0, 1, 2, 3, 5] (by decide +kernel) rfl
  exact W.zret (v := 0) hx hb hr rfl (fun t ht hW => ⟨⟨0, (), rfl, rfl, kB_mk ht hW hP hK hD⟩, hS.F ht⟩) hS.2.2 dX8_readExtreme_135
set_option maxHeartbeats 400000000 in
set_option maxRecDepth 100000 in
theorem c_X11_extreme_0 (l : Launch) (E : kE) (D : va_G) (cI cJ cB cZ : ClassId) (h0 : Nat) (f0 : List Value) (h1 : Nat) (f1 : List Value) (h2 : Nat) (f2 : List Value) (h3 : Nat) (h4 : Nat) (f3 : List Value) (h5 : Nat) (f4 : List Value) (h6 : Nat) (h7 : Nat) (h8 : Nat) (h9 : Nat) (h10 : Nat) (g0 : Nat → Int32) (g1 : Nat → Int32) (g2 : Nat → Int32) (g3 : Nat → Int32) (e0 : f0[1]? = some (.ref h1)) (e1 : f1[8]? = some (.int 0)) (e2 : f0[2]? = some (.ref h2)) (e3 : f2[12]? = some (.int 0)) (e4 : f0[5]? = some (.ref h3)) (e5 : f0[0]? = some (.ref h4)) (e6 : f0[12]? = some (.int 0)) (e7 : f3[0]? = some (.ref h5)) (e8 : f4[6]? = some (.ref h6)) (e9 : f4[7]? = some (.int 0)) (e10 : f4[8]? = some (.int 0)) (e11 : f4[5]? = some (.int 0)) (e12 : f4[1]? = some (.ref h7)) (e13 : f4[2]? = some (.ref h8)) (e14 : f3[3]? = some (.int 0)) (e15 : f3[4]? = some (.int 0)) (e16 : f3[5]? = some (.int 0)) (e17 : f3[6]? = some (.int 0)) (e18 : f3[7]? = some (.int 0)) (e19 : f3[8]? = some (.int 0)) (e20 : f3[11]? = some (.int 0)) (e21 : f3[12]? = some (.int 0)) (e22 : f3[13]? = some (.int 0)) (e23 : f3[14]? = some (.int 0)) (e24 : f3[1]? = some (.ref h2)) (e25 : f2[5]? = some (.ref h9)) (e26 : f2[10]? = some (.int 0)) (e27 : f2[3]? = some (.ref h10)) (e28 : f0[13]? = some (.int 0)) : kI l E D (kT cI cJ cB cZ) yX11_extreme vW_X11_extreme ({ frames := 6, cells := 0, slots := 0, locals := 134 }) [.ref h0, .int 1] [(h0, .inr (11, f0)), (h1, .inr (1, f1)), (h2, .inr (2, f2)), (h3, .inr (8, f3)), (h5, .inr (3, f4)), (h7, .inl (cI, 2001, .inl g0)), (h8, .inl (cI, 2001, .inl g1)), (h9, .inl (cI, 260, .inl g2)), (h10, .inl (cI, 13312, .inl g3))] ((-1000)) [(h0, .inr (11, ((f0.set 12 (.int 0)).set 13 (.int 2)))), (h1, .inr (1, f1)), (h2, .inr (2, (f2.set 12 (.int 0)))), (h3, .inr (8, ((((((((((((((((((f3.set 3 (.int 0)).set 4 (.int 0)).set 5 (.int 0)).set 6 (.int (-1))).set 6 (.int 0)).set 7 (.int 0)).set 8 (.int 0)).set 11 (.int 25)).set 12 (.int 0)).set 13 (.int 0)).set 14 (.int 0)).set 3 (.int 2)).set 4 (.int 0)).set 7 (.int 44)).set 13 (.int 1)).set 13 (.int 2)).set 5 (.int 0)).set 7 (.int 44)))), (h5, .inr (3, ((((f4.set 6 (.ref h4)).set 7 (.int 0)).set 8 (.int 0)).set 5 (.int 0)))), (h7, .inl (cI, 2001, .inl (upd g0 0 0))), (h8, .inl (cI, 2001, .inl (upd g1 0 0))), (h9, .inl (cI, 260, .inl (upd (upd (upd g2 259 0) 250 0) 251 2))), (h10, .inl (cI, 13312, .inl (upd (upd g3 12800 43) 12801 43)))] 0 0 := by
  intro sz
  refine Met.ofW (cc := cX11_extreme) (maxL := 5) (ret := (some .int)) (by decide) rfl ?_
  intro p e s m args below meth c s₁ B hml hv
  obtain ⟨rfl, hsz, hP, hK, hD0, hN, hX⟩ := hv
  have hx := B.exec
  have hb := B.bytes
  have hr := B.returns
  have hts := atoms_spec (ws := vW_X11_extreme) B.pre
  have hown : s.vm.findClass RX11 = some m.cls := findClass_of_methodNamed B.named
  have hlocks := B.notSynchronized
  have hin11 : ∀ w ∈ wsX110, w ∈ vW_X11_extreme := u9_X11_extreme_wsX110
  have hin1 : ∀ w ∈ wsX10, w ∈ vW_X11_extreme := u9_X11_extreme_wsX10
  have hin2 : ∀ w ∈ wsX20, w ∈ vW_X11_extreme := u9_X11_extreme_wsX20
  subst hsz
  have hD := hD0.self (sz := s.heap.size)
  have hAE := k_AE hD0 hX
  generalize hAe : va_A [(h0, .inr (11, f0)), (h1, .inr (1, f1)), (h2, .inr (2, f2)), (h3, .inr (8, f3)), (h5, .inr (3, f4)), (h7, .inl (cI, 2001, .inl g0)), (h8, .inl (cI, 2001, .inl g1)), (h9, .inl (cI, 260, .inl g2)), (h10, .inl (cI, 13312, .inl g3))] s.heap.size = A at hD hAE ⊢
  have hA : ∀ q : Nat, s.heap.size ≤ q → A q := fun q h => by rw [← hAe]; exact Or.inr h
  have hS : va_S A s.heap s.heap [] := va_S.rf
  have hP : va_P D vwCl [(h0, .inr (11, f0)), (h1, .inr (1, f1)), (h2, .inr (2, f2)), (h3, .inr (8, f3)), (h5, .inr (3, f4)), (h7, .inl (cI, 2001, .inl g0)), (h8, .inl (cI, 2001, .inl g1)), (h9, .inl (cI, 260, .inl g2)), (h10, .inl (cI, 13312, .inl g3))] s.heap := hP
  have hl := lv_entry ([.ref h0, .int 1] : List Value) (n := 5) (Nat.le_of_ble_eq_true rfl)
  rw [lg_entry_eq]
  generalize (lg_sl ([.ref h0, .int 1]) ++ List.replicate (5 - (lg_sl ([.ref h0, .int 1])).length) Slot.unset).toArray = ls at hl ⊢
  have hl : lv_has ls 5 [(0, .ref h0), (1, .int 1)] := hl
  refine lv_aload_n hx hb dX11_extreme_0 rfl (lv_at hl 0 rfl) ?_
  refine k_get (D := D) (ci := 11) (v := .ref h1) (N := 15) hx hb hts hin11 hown hK hP 0 rfl rfl (by decide) f9_11_1 (hts (.fieldLink RX11 16 "IntegerHouse" "disk" "LIntegerHouse$Disk;") (o9_X11_extreme _ (List.mem_of_getElem? (i := 0) rfl))) e0 dX11_extreme_1 ?_
  refine k_getN (host := "IntegerHouse") (D := D) (ci := 1) (v := .int 0) (N := 9) hx hb hts hin1 hown hK hP 1 rfl rfl (by decide) f9_1_8 (va_Nw.use rfl (hN.1 ("IntegerHouse", 122, "IntegerHouse$Disk", "down", "Z", "IntegerHouse") (List.mem_of_getElem? (i := 3) rfl))) e1 dX11_extreme_4 ?_
  refine lv_if_eq (tgt := 13) hx hb dX11_extreme_7 (by decide) (fun _ => ?_) (fun c9 => absurd (by decide) c9)
  refine lv_aload_n hx hb dX11_extreme_13 rfl (lv_at hl 0 rfl) ?_
  refine k_get (D := D) (ci := 11) (v := .ref h2) (N := 15) hx hb hts hin11 hown hK hP 0 rfl rfl (by decide) f9_11_2 (hts (.fieldLink RX11 23 "IntegerHouse" "house" "LIntegerHouse$House;") (o9_X11_extreme _ (List.mem_of_getElem? (i := 1) rfl))) e2 dX11_extreme_14 ?_
  refine k_getN (host := "IntegerHouse") (D := D) (ci := 2) (v := .int 0) (N := 16) hx hb hts hin2 hown hK hP 2 rfl rfl (by decide) f9_2_12 (va_Nw.use rfl (hN.1 ("IntegerHouse", 233, "IntegerHouse$House", "poolSize", "I", "IntegerHouse") (List.mem_of_getElem? (i := 16) rfl))) e3 dX11_extreme_17 ?_
  refine lv_istore_n (lv' := [(2, .int 0), (0, .ref h0), (1, .int 1)]) hx hb dX11_extreme_20 rfl hl (by decide) rfl (fun ls hl => ?_)
  refine lv_aload_n hx hb dX11_extreme_21 rfl (lv_at hl 1 rfl) ?_
  refine k_get (D := D) (ci := 11) (v := .ref h3) (N := 15) hx hb hts hin11 hown hK hP 0 rfl rfl (by decide) f9_11_5 (hts (.fieldLink RX11 48 "IntegerHouse" "reader" "LIntegerHouse$Reader;") (o9_X11_extreme _ (List.mem_of_getElem? (i := 2) rfl))) e4 dX11_extreme_22 ?_
  refine lv_aload_n hx hb dX11_extreme_25 rfl (lv_at hl 1 rfl) ?_
  refine k_get (D := D) (ci := 11) (v := .ref h4) (N := 15) hx hb hts hin11 hown hK hP 0 rfl rfl (by decide) f9_11_0 (hts (.fieldLink RX11 9 "IntegerHouse" "tape" "[B") (o9_X11_extreme _ (List.mem_of_getElem? (i := 3) rfl))) e5 dX11_extreme_26 ?_
  refine lv_aload_n hx hb dX11_extreme_29 rfl (lv_at hl 1 rfl) ?_
  refine k_cVi (As := []) (rest := [.ref h4, .ref h3]) (wc := [(h0, .inr (11, f0))]) (wr := [(h1, .inr (1, f1)), (h2, .inr (2, f2)), (h3, .inr (8, f3)), (h5, .inr (3, f4)), (h7, .inl (cI, 2001, .inl g0)), (h8, .inl (cI, 2001, .inl g1)), (h9, .inl (cI, 260, .inl g2)), (h10, .inl (cI, 13312, .inl g3))]) (w1 := [(h0, .inr (11, (f0.set 12 (.int 0))))]) ⟨hx, hb, hml, hown, hts⟩ hN hX hAE hK hP hD hS hA [0] [1, 2, 3, 4, 5, 6, 7, 8] (ci := 11) rfl rfl rfl rfl (by decide +kernel) (by decide +kernel) (by decide +kernel) (c_X11_useTape_0 l E D cI cJ cB cZ h0 f0 e6) (cwV 0 hts g9_X11_extreme_X11_useTape_230 rfl rfl rfl (by decide +kernel) ⟨Nat.le_of_ble_eq_true rfl, Nat.le_of_ble_eq_true rfl⟩) rfl hl.1 (Nat.le_of_ble_eq_true rfl) dX11_extreme_30 ⟨Nat.le_of_ble_eq_true rfl, Nat.le_of_ble_eq_true rfl⟩ (fun H locs hP hD hS => ?_)
  have hP : va_P D vwCl [(h1, .inr (1, f1)), (h2, .inr (2, f2)), (h3, .inr (8, f3)), (h5, .inr (3, f4)), (h7, .inl (cI, 2001, .inl g0)), (h8, .inl (cI, 2001, .inl g1)), (h9, .inl (cI, 260, .inl g2)), (h10, .inl (cI, 13312, .inl g3)), (h0, .inr (11, (f0.set 12 (.int 0))))] H := hP
  have hD : va_D A [(h1, .inr (1, f1)), (h2, .inr (2, f2)), (h3, .inr (8, f3)), (h5, .inr (3, f4)), (h7, .inl (cI, 2001, .inl g0)), (h8, .inl (cI, 2001, .inl g1)), (h9, .inl (cI, 260, .inl g2)), (h10, .inl (cI, 13312, .inl g3)), (h0, .inr (11, (f0.set 12 (.int 0))))] := hD
  refine k_cVi (As := [.ref h4, .int 0]) (rest := []) (wc := [(h3, .inr (8, f3)), (h5, .inr (3, f4)), (h7, .inl (cI, 2001, .inl g0)), (h8, .inl (cI, 2001, .inl g1)), (h2, .inr (2, f2)), (h9, .inl (cI, 260, .inl g2)), (h10, .inl (cI, 13312, .inl g3))]) (wr := [(h1, .inr (1, f1)), (h0, .inr (11, (f0.set 12 (.int 0))))]) (w1 := [(h3, .inr (8, ((((((((((((((((((f3.set 3 (.int 0)).set 4 (.int 0)).set 5 (.int 0)).set 6 (.int (-1))).set 6 (.int 0)).set 7 (.int 0)).set 8 (.int 0)).set 11 (.int 25)).set 12 (.int 0)).set 13 (.int 0)).set 14 (.int 0)).set 3 (.int 2)).set 4 (.int 0)).set 7 (.int 44)).set 13 (.int 1)).set 13 (.int 2)).set 5 (.int 0)).set 7 (.int 44)))), (h5, .inr (3, ((((f4.set 6 (.ref h4)).set 7 (.int 0)).set 8 (.int 0)).set 5 (.int 0)))), (h7, .inl (cI, 2001, .inl (upd g0 0 0))), (h8, .inl (cI, 2001, .inl (upd g1 0 0))), (h2, .inr (2, f2)), (h9, .inl (cI, 260, .inl (upd (upd (upd g2 259 0) 250 0) 251 2))), (h10, .inl (cI, 13312, .inl (upd (upd g3 12800 43) 12801 43)))]) ⟨hx, hb, hml, hown, hts⟩ hN hX hAE hK hP hD hS hA [2, 3, 4, 5, 1, 6, 7] [0, 8] (ci := 8) rfl rfl rfl rfl (by decide +kernel) (by decide +kernel) (by decide +kernel) (c_X8_readExtreme_0 l E D cI cJ cB cZ h3 h4 f3 h5 f4 h6 h7 h8 g0 g1 h2 f2 h9 h10 g2 g3 e7 e8 e9 e10 e11 e12 e13 e14 e15 e16 e17 e18 e19 e20 e21 e22 e23 e24 e25 e26 e27) (cwV 2 hts g9_X11_extreme_X8_readExtreme_321 rfl rfl rfl (by decide +kernel) ⟨Nat.le_of_ble_eq_true rfl, Nat.le_of_ble_eq_true rfl⟩) rfl hl.1 (Nat.le_of_ble_eq_true rfl) dX11_extreme_33 ⟨Nat.le_of_ble_eq_true rfl, Nat.le_of_ble_eq_true rfl⟩ (fun H locs hP hD hS => ?_)
  have hP : va_P D vwCl [(h1, .inr (1, f1)), (h0, .inr (11, (f0.set 12 (.int 0)))), (h3, .inr (8, ((((((((((((((((((f3.set 3 (.int 0)).set 4 (.int 0)).set 5 (.int 0)).set 6 (.int (-1))).set 6 (.int 0)).set 7 (.int 0)).set 8 (.int 0)).set 11 (.int 25)).set 12 (.int 0)).set 13 (.int 0)).set 14 (.int 0)).set 3 (.int 2)).set 4 (.int 0)).set 7 (.int 44)).set 13 (.int 1)).set 13 (.int 2)).set 5 (.int 0)).set 7 (.int 44)))), (h5, .inr (3, ((((f4.set 6 (.ref h4)).set 7 (.int 0)).set 8 (.int 0)).set 5 (.int 0)))), (h7, .inl (cI, 2001, .inl (upd g0 0 0))), (h8, .inl (cI, 2001, .inl (upd g1 0 0))), (h2, .inr (2, f2)), (h9, .inl (cI, 260, .inl (upd (upd (upd g2 259 0) 250 0) 251 2))), (h10, .inl (cI, 13312, .inl (upd (upd g3 12800 43) 12801 43)))] H := hP
  have hD : va_D A [(h1, .inr (1, f1)), (h0, .inr (11, (f0.set 12 (.int 0)))), (h3, .inr (8, ((((((((((((((((((f3.set 3 (.int 0)).set 4 (.int 0)).set 5 (.int 0)).set 6 (.int (-1))).set 6 (.int 0)).set 7 (.int 0)).set 8 (.int 0)).set 11 (.int 25)).set 12 (.int 0)).set 13 (.int 0)).set 14 (.int 0)).set 3 (.int 2)).set 4 (.int 0)).set 7 (.int 44)).set 13 (.int 1)).set 13 (.int 2)).set 5 (.int 0)).set 7 (.int 44)))), (h5, .inr (3, ((((f4.set 6 (.ref h4)).set 7 (.int 0)).set 8 (.int 0)).set 5 (.int 0)))), (h7, .inl (cI, 2001, .inl (upd g0 0 0))), (h8, .inl (cI, 2001, .inl (upd g1 0 0))), (h2, .inr (2, f2)), (h9, .inl (cI, 260, .inl (upd (upd (upd g2 259 0) 250 0) 251 2))), (h10, .inl (cI, 13312, .inl (upd (upd g3 12800 43) 12801 43)))] := hD
  refine lv_if_ne (tgt := 47) hx hb dX11_extreme_36 (by decide) (fun c9 => absurd (by decide) c9) (fun _ => ?_)
  refine lv_aload_n hx hb dX11_extreme_39 rfl (lv_at hl 1 rfl) ?_
  refine k_cVi (As := []) (rest := []) (wc := [(h0, .inr (11, (f0.set 12 (.int 0)))), (h3, .inr (8, ((((((((((((((((((f3.set 3 (.int 0)).set 4 (.int 0)).set 5 (.int 0)).set 6 (.int (-1))).set 6 (.int 0)).set 7 (.int 0)).set 8 (.int 0)).set 11 (.int 25)).set 12 (.int 0)).set 13 (.int 0)).set 14 (.int 0)).set 3 (.int 2)).set 4 (.int 0)).set 7 (.int 44)).set 13 (.int 1)).set 13 (.int 2)).set 5 (.int 0)).set 7 (.int 44))))]) (wr := [(h1, .inr (1, f1)), (h5, .inr (3, ((((f4.set 6 (.ref h4)).set 7 (.int 0)).set 8 (.int 0)).set 5 (.int 0)))), (h7, .inl (cI, 2001, .inl (upd g0 0 0))), (h8, .inl (cI, 2001, .inl (upd g1 0 0))), (h2, .inr (2, f2)), (h9, .inl (cI, 260, .inl (upd (upd (upd g2 259 0) 250 0) 251 2))), (h10, .inl (cI, 13312, .inl (upd (upd g3 12800 43) 12801 43)))]) (w1 := [(h0, .inr (11, ((f0.set 12 (.int 0)).set 13 (.int 2)))), (h3, .inr (8, ((((((((((((((((((f3.set 3 (.int 0)).set 4 (.int 0)).set 5 (.int 0)).set 6 (.int (-1))).set 6 (.int 0)).set 7 (.int 0)).set 8 (.int 0)).set 11 (.int 25)).set 12 (.int 0)).set 13 (.int 0)).set 14 (.int 0)).set 3 (.int 2)).set 4 (.int 0)).set 7 (.int 44)).set 13 (.int 1)).set 13 (.int 2)).set 5 (.int 0)).set 7 (.int 44))))]) ⟨hx, hb, hml, hown, hts⟩ hN hX hAE hK hP hD hS hA [1, 2] [0, 3, 4, 5, 6, 7, 8] (ci := 11) rfl rfl rfl rfl (by decide +kernel) (by decide +kernel) (by decide +kernel) (c_X11_faulted_0 l E D cI cJ cB cZ h0 ((f0.set 12 (.int 0))) h3 (((((((((((((((((((f3.set 3 (.int 0)).set 4 (.int 0)).set 5 (.int 0)).set 6 (.int (-1))).set 6 (.int 0)).set 7 (.int 0)).set 8 (.int 0)).set 11 (.int 25)).set 12 (.int 0)).set 13 (.int 0)).set 14 (.int 0)).set 3 (.int 2)).set 4 (.int 0)).set 7 (.int 44)).set 13 (.int 1)).set 13 (.int 2)).set 5 (.int 0)).set 7 (.int 44))) (k_ne (by decide) e4) (k_ne (by decide) (k_ne (by decide) (k_ne (by decide) (k_ne (by decide) (k_ne (by decide) (k_ne (by decide) (k_set (k_ne (by decide) (k_ne (by decide) (k_ne (by decide) (k_ne (by decide) (k_ne (by decide) (k_ne (by decide) (k_ne (by decide) (k_ne (by decide) (k_ne (by decide) (k_ne (by decide) (k_set e14)))))))))))))))))) (k_ne (by decide) e28) (k_ne (by decide) (k_ne (by decide) (k_ne (by decide) (k_ne (by decide) (k_ne (by decide) (k_set (k_ne (by decide) (k_ne (by decide) (k_ne (by decide) (k_ne (by decide) (k_ne (by decide) (k_ne (by decide) (k_ne (by decide) (k_ne (by decide) (k_ne (by decide) (k_ne (by decide) (k_set (k_ne (by decide) e15))))))))))))))))))) (cwV 0 hts g9_X11_extreme_X11_faulted_236 rfl rfl rfl (by decide +kernel) ⟨Nat.le_of_ble_eq_true rfl, Nat.le_of_ble_eq_true rfl⟩) rfl hl.1 (Nat.le_of_ble_eq_true rfl) dX11_extreme_40 ⟨Nat.le_of_ble_eq_true rfl, Nat.le_of_ble_eq_true rfl⟩ (fun H locs hP hD hS => ?_)
  have hP : va_P D vwCl [(h1, .inr (1, f1)), (h5, .inr (3, ((((f4.set 6 (.ref h4)).set 7 (.int 0)).set 8 (.int 0)).set 5 (.int 0)))), (h7, .inl (cI, 2001, .inl (upd g0 0 0))), (h8, .inl (cI, 2001, .inl (upd g1 0 0))), (h2, .inr (2, f2)), (h9, .inl (cI, 260, .inl (upd (upd (upd g2 259 0) 250 0) 251 2))), (h10, .inl (cI, 13312, .inl (upd (upd g3 12800 43) 12801 43))), (h0, .inr (11, ((f0.set 12 (.int 0)).set 13 (.int 2)))), (h3, .inr (8, ((((((((((((((((((f3.set 3 (.int 0)).set 4 (.int 0)).set 5 (.int 0)).set 6 (.int (-1))).set 6 (.int 0)).set 7 (.int 0)).set 8 (.int 0)).set 11 (.int 25)).set 12 (.int 0)).set 13 (.int 0)).set 14 (.int 0)).set 3 (.int 2)).set 4 (.int 0)).set 7 (.int 44)).set 13 (.int 1)).set 13 (.int 2)).set 5 (.int 0)).set 7 (.int 44))))] H := hP
  have hD : va_D A [(h1, .inr (1, f1)), (h5, .inr (3, ((((f4.set 6 (.ref h4)).set 7 (.int 0)).set 8 (.int 0)).set 5 (.int 0)))), (h7, .inl (cI, 2001, .inl (upd g0 0 0))), (h8, .inl (cI, 2001, .inl (upd g1 0 0))), (h2, .inr (2, f2)), (h9, .inl (cI, 260, .inl (upd (upd (upd g2 259 0) 250 0) 251 2))), (h10, .inl (cI, 13312, .inl (upd (upd g3 12800 43) 12801 43))), (h0, .inr (11, ((f0.set 12 (.int 0)).set 13 (.int 2)))), (h3, .inr (8, ((((((((((((((((((f3.set 3 (.int 0)).set 4 (.int 0)).set 5 (.int 0)).set 6 (.int (-1))).set 6 (.int 0)).set 7 (.int 0)).set 8 (.int 0)).set 11 (.int 25)).set 12 (.int 0)).set 13 (.int 0)).set 14 (.int 0)).set 3 (.int 2)).set 4 (.int 0)).set 7 (.int 44)).set 13 (.int 1)).set 13 (.int 2)).set 5 (.int 0)).set 7 (.int 44))))] := hD
  refine lv_istore_n (lv' := [(3, .int (-1000)), (2, .int 0), (0, .ref h0), (1, .int 1)]) hx hb dX11_extreme_43 rfl hl (by decide) rfl (fun ls hl => ?_)
  refine lv_goto (tgt := 115) hx hb dX11_extreme_44 (by decide) ?_
  refine lv_aload_n hx hb dX11_extreme_115 rfl (lv_at hl 2 rfl) ?_
  refine k_get (D := D) (ci := 11) (v := .ref h2) (N := 15) hx hb hts hin11 hown hK hP 7 rfl rfl (by decide) f9_11_2 (hts (.fieldLink RX11 23 "IntegerHouse" "house" "LIntegerHouse$House;") (o9_X11_extreme _ (List.mem_of_getElem? (i := 1) rfl))) (k_ne (by decide) (k_ne (by decide) e2)) dX11_extreme_116 ?_
  refine lv_iload_n hx hb dX11_extreme_119 rfl (lv_at hl 1 rfl) ?_
  refine k_putN (host := "IntegerHouse") (D := D) (ci := 2) (v := .int 0) (ty := .int) (N := 16) hx hb hts hin2 tyX2 tyX2_ok nmX2 hown hK hP hD hS 4 rfl rfl (by decide) f9_2_12 (va_Nw.use rfl (hN.1 ("IntegerHouse", 233, "IntegerHouse$House", "poolSize", "I", "IntegerHouse") (List.mem_of_getElem? (i := 16) rfl))) rfl pd_2 rfl rfl (k_len e3) dX11_extreme_120 (fun H locs hP hD hS => ?_)
  have hP : va_P D vwCl [(h1, .inr (1, f1)), (h5, .inr (3, ((((f4.set 6 (.ref h4)).set 7 (.int 0)).set 8 (.int 0)).set 5 (.int 0)))), (h7, .inl (cI, 2001, .inl (upd g0 0 0))), (h8, .inl (cI, 2001, .inl (upd g1 0 0))), (h2, .inr (2, (f2.set 12 (.int 0)))), (h9, .inl (cI, 260, .inl (upd (upd (upd g2 259 0) 250 0) 251 2))), (h10, .inl (cI, 13312, .inl (upd (upd g3 12800 43) 12801 43))), (h0, .inr (11, ((f0.set 12 (.int 0)).set 13 (.int 2)))), (h3, .inr (8, ((((((((((((((((((f3.set 3 (.int 0)).set 4 (.int 0)).set 5 (.int 0)).set 6 (.int (-1))).set 6 (.int 0)).set 7 (.int 0)).set 8 (.int 0)).set 11 (.int 25)).set 12 (.int 0)).set 13 (.int 0)).set 14 (.int 0)).set 3 (.int 2)).set 4 (.int 0)).set 7 (.int 44)).set 13 (.int 1)).set 13 (.int 2)).set 5 (.int 0)).set 7 (.int 44))))] H := hP
  have hD : va_D A [(h1, .inr (1, f1)), (h5, .inr (3, ((((f4.set 6 (.ref h4)).set 7 (.int 0)).set 8 (.int 0)).set 5 (.int 0)))), (h7, .inl (cI, 2001, .inl (upd g0 0 0))), (h8, .inl (cI, 2001, .inl (upd g1 0 0))), (h2, .inr (2, (f2.set 12 (.int 0)))), (h9, .inl (cI, 260, .inl (upd (upd (upd g2 259 0) 250 0) 251 2))), (h10, .inl (cI, 13312, .inl (upd (upd g3 12800 43) 12801 43))), (h0, .inr (11, ((f0.set 12 (.int 0)).set 13 (.int 2)))), (h3, .inr (8, ((((((((((((((((((f3.set 3 (.int 0)).set 4 (.int 0)).set 5 (.int 0)).set 6 (.int (-1))).set 6 (.int 0)).set 7 (.int 0)).set 8 (.int 0)).set 11 (.int 25)).set 12 (.int 0)).set 13 (.int 0)).set 14 (.int 0)).set 3 (.int 2)).set 4 (.int 0)).set 7 (.int 44)).set 13 (.int 1)).set 13 (.int 2)).set 5 (.int 0)).set 7 (.int 44))))] := hD
  refine lv_iload_n hx hb dX11_extreme_123 rfl (lv_at hl 0 rfl) ?_
  have hP := hP.sub (ws' := [(h0, .inr (11, ((f0.set 12 (.int 0)).set 13 (.int 2)))), (h1, .inr (1, f1)), (h2, .inr (2, (f2.set 12 (.int 0)))), (h3, .inr (8, ((((((((((((((((((f3.set 3 (.int 0)).set 4 (.int 0)).set 5 (.int 0)).set 6 (.int (-1))).set 6 (.int 0)).set 7 (.int 0)).set 8 (.int 0)).set 11 (.int 25)).set 12 (.int 0)).set 13 (.int 0)).set 14 (.int 0)).set 3 (.int 2)).set 4 (.int 0)).set 7 (.int 44)).set 13 (.int 1)).set 13 (.int 2)).set 5 (.int 0)).set 7 (.int 44)))), (h5, .inr (3, ((((f4.set 6 (.ref h4)).set 7 (.int 0)).set 8 (.int 0)).set 5 (.int 0)))), (h7, .inl (cI, 2001, .inl (upd g0 0 0))), (h8, .inl (cI, 2001, .inl (upd g1 0 0))), (h9, .inl (cI, 260, .inl (upd (upd (upd g2 259 0) 250 0) 251 2))), (h10, .inl (cI, 13312, .inl (upd (upd g3 12800 43) 12801 43)))]) [7, 0, 4, 8, 1, 2, 3, 5, 6] rfl
  have hD := hD.sub (ws' := [(h0, .inr (11, ((f0.set 12 (.int 0)).set 13 (.int 2)))), (h1, .inr (1, f1)), (h2, .inr (2, (f2.set 12 (.int 0)))), (h3, .inr (8, ((((((((((((((((((f3.set 3 (.int 0)).set 4 (.int 0)).set 5 (.int 0)).set 6 (.int (-1))).set 6 (.int 0)).set 7 (.int 0)).set 8 (.int 0)).set 11 (.int 25)).set 12 (.int 0)).set 13 (.int 0)).set 14 (.int 0)).set 3 (.int 2)).set 4 (.int 0)).set 7 (.int 44)).set 13 (.int 1)).set 13 (.int 2)).set 5 (.int 0)).set 7 (.int 44)))), (h5, .inr (3, ((((f4.set 6 (.ref h4)).set 7 (.int 0)).set 8 (.int 0)).set 5 (.int 0)))), (h7, .inl (cI, 2001, .inl (upd g0 0 0))), (h8, .inl (cI, 2001, .inl (upd g1 0 0))), (h9, .inl (cI, 260, .inl (upd (upd (upd g2 259 0) 250 0) 251 2))), (h10, .inl (cI, 13312, .inl (upd (upd g3 12800 43) 12801 43)))]) [7, 0, 4, 8, 1, 2, 3, 5, 6] (by decide +kernel) rfl
  exact W.iret (v := (-1000)) hx hb hr (fun t ht hW => ⟨⟨(-1000), (), rfl, rfl, kB_mk ht hW hP hK hD⟩, hS.F ht⟩) hS.2.2 dX11_extreme_124
