theorem dX8_accept_0 : decode cX8_accept 0 = .ok (.iload_n 1, 1) := by decide +kernel
theorem dX8_accept_1 : decode cX8_accept 1 = .ok (.bipush 25, 2) := by decide +kernel
theorem dX8_accept_3 : decode cX8_accept 3 = .ok (.if_icmp .eq 14, 3) := by decide +kernel
theorem dX8_accept_6 : decode cX8_accept 6 = .ok (.iload_n 1, 1) := by decide +kernel
theorem dX8_accept_7 : decode cX8_accept 7 = .ok (.iconst 4, 1) := by decide +kernel
theorem dX8_accept_8 : decode cX8_accept 8 = .ok (.if_icmp .eq 9, 3) := by decide +kernel
theorem dX8_accept_11 : decode cX8_accept 11 = .ok (.iload_n 1, 1) := by decide +kernel
theorem dX8_accept_12 : decode cX8_accept 12 = .ok (.bipush 6, 2) := by decide +kernel
theorem dX8_accept_14 : decode cX8_accept 14 = .ok (.if_icmp .ne 7, 3) := by decide +kernel
theorem dX8_accept_21 : decode cX8_accept 21 = .ok (.iconst 0, 1) := by decide +kernel
theorem dX8_accept_22 : decode cX8_accept 22 = .ok (.istore_n 3, 1) := by decide +kernel
theorem dX8_accept_23 : decode cX8_accept 23 = .ok (.aload_n 0, 1) := by decide +kernel
theorem dX8_accept_24 : decode cX8_accept 24 = .ok (.getfield 39, 3) := by decide +kernel
theorem dX8_accept_27 : decode cX8_accept 27 = .ok (.iload_n 1, 1) := by decide +kernel
theorem dX8_accept_28 : decode cX8_accept 28 = .ok (.if_icmp .eq 11, 3) := by decide +kernel
theorem dX8_accept_31 : decode cX8_accept 31 = .ok (.aload_n 0, 1) := by decide +kernel
theorem dX8_accept_32 : decode cX8_accept 32 = .ok (.iconst 2, 1) := by decide +kernel
theorem dX8_accept_33 : decode cX8_accept 33 = .ok (.invokevirtual 95, 3) := by decide +kernel
theorem dX8_accept_36 : decode cX8_accept 36 = .ok (.goto 96, 3) := by decide +kernel
theorem dX8_accept_132 : decode cX8_accept 132 = .ok (.return_, 1) := by decide +kernel
theorem dX8_one_0 : decode cX8_one 0 = .ok (.aload_n 0, 1) := by decide +kernel
theorem dX8_one_1 : decode cX8_one 1 = .ok (.getfield 39, 3) := by decide +kernel
theorem dX8_one_4 : decode cX8_one 4 = .ok (.istore_n 1, 1) := by decide +kernel
theorem dX8_one_5 : decode cX8_one 5 = .ok (.iload_n 1, 1) := by decide +kernel
theorem dX8_one_6 : decode cX8_one 6 = .ok (.iconst 1, 1) := by decide +kernel
theorem dX8_one_7 : decode cX8_one 7 = .ok (.if_icmp .ne 24, 3) := by decide +kernel
theorem dX8_one_31 : decode cX8_one 31 = .ok (.iconst (-1), 1) := by decide +kernel
theorem dX8_one_32 : decode cX8_one 32 = .ok (.istore_n 2, 1) := by decide +kernel
theorem dX8_one_33 : decode cX8_one 33 = .ok (.iload_n 1, 1) := by decide +kernel
theorem dX8_one_34 : decode cX8_one 34 = .ok (.bipush 25, 2) := by decide +kernel
theorem dX8_one_36 : decode cX8_one 36 = .ok (.if_icmp .ne 34, 3) := by decide +kernel
theorem dX8_one_70 : decode cX8_one 70 = .ok (.iload_n 1, 1) := by decide +kernel
theorem dX8_one_71 : decode cX8_one 71 = .ok (.iconst 4, 1) := by decide +kernel
theorem dX8_one_72 : decode cX8_one 72 = .ok (.if_icmp .ne 22, 3) := by decide +kernel
theorem dX8_one_94 : decode cX8_one 94 = .ok (.iload_n 1, 1) := by decide +kernel
theorem dX8_one_95 : decode cX8_one 95 = .ok (.bipush 26, 2) := by decide +kernel
theorem dX8_one_97 : decode cX8_one 97 = .ok (.if_icmp .eq 9, 3) := by decide +kernel
theorem dX8_one_100 : decode cX8_one 100 = .ok (.iload_n 1, 1) := by decide +kernel
theorem dX8_one_101 : decode cX8_one 101 = .ok (.bipush 27, 2) := by decide +kernel
theorem dX8_one_103 : decode cX8_one 103 = .ok (.if_icmp .ne 17, 3) := by decide +kernel
theorem dX8_one_120 : decode cX8_one 120 = .ok (.iload_n 2, 1) := by decide +kernel
theorem dX8_one_121 : decode cX8_one 121 = .ok (.iconst (-1), 1) := by decide +kernel
theorem dX8_one_122 : decode cX8_one 122 = .ok (.if_icmp .eq 29, 3) := by decide +kernel
theorem dX8_one_151 : decode cX8_one 151 = .ok (.iload_n 1, 1) := by decide +kernel
theorem dX8_one_152 : decode cX8_one 152 = .ok (.iconst 2, 1) := by decide +kernel
theorem dX8_one_153 : decode cX8_one 153 = .ok (.if_icmp .ne 84, 3) := by decide +kernel
theorem dX8_one_237 : decode cX8_one 237 = .ok (.aload_n 0, 1) := by decide +kernel
theorem dX8_one_238 : decode cX8_one 238 = .ok (.invokevirtual 176, 3) := by decide +kernel
theorem dX8_one_241 : decode cX8_one 241 = .ok (.aload_n 0, 1) := by decide +kernel
theorem dX8_one_242 : decode cX8_one 242 = .ok (.getfield 39, 3) := by decide +kernel
theorem dX8_one_245 : decode cX8_one 245 = .ok (.istore_n 3, 1) := by decide +kernel
theorem dX8_one_246 : decode cX8_one 246 = .ok (.aload_n 0, 1) := by decide +kernel
theorem dX8_one_247 : decode cX8_one 247 = .ok (.iload_n 3, 1) := by decide +kernel
theorem dX8_one_248 : decode cX8_one 248 = .ok (.invokestatic 215, 3) := by decide +kernel
theorem dX8_one_251 : decode cX8_one 251 = .ok (.ifCond .eq 7, 3) := by decide +kernel
theorem dX8_one_258 : decode cX8_one 258 = .ok (.bipush 10, 2) := by decide +kernel
theorem dX8_one_260 : decode cX8_one 260 = .ok (.iload_n 3, 1) := by decide +kernel
theorem dX8_one_261 : decode cX8_one 261 = .ok (.invokevirtual 191, 3) := by decide +kernel
theorem dX8_one_264 : decode cX8_one 264 = .ok (.aload_n 0, 1) := by decide +kernel
theorem dX8_one_265 : decode cX8_one 265 = .ok (.invokevirtual 176, 3) := by decide +kernel
theorem dX8_one_268 : decode cX8_one 268 = .ok (.aload_n 0, 1) := by decide +kernel
theorem dX8_one_269 : decode cX8_one 269 = .ok (.iload_n 3, 1) := by decide +kernel
theorem dX8_one_270 : decode cX8_one 270 = .ok (.bipush 63, 2) := by decide +kernel
theorem dX8_one_272 : decode cX8_one 272 = .ok (.iand, 1) := by decide +kernel
theorem dX8_one_273 : decode cX8_one 273 = .ok (.invokevirtual 194, 3) := by decide +kernel
theorem dX8_one_276 : decode cX8_one 276 = .ok (.return_, 1) := by decide +kernel
theorem dX8_term_0 : decode cX8_term 0 = .ok (.aload_n 0, 1) := by decide +kernel
theorem dX8_term_1 : decode cX8_term 1 = .ok (.getfield 39, 3) := by decide +kernel
theorem dX8_term_4 : decode cX8_term 4 = .ok (.bipush 12, 2) := by decide +kernel
theorem dX8_term_6 : decode cX8_term 6 = .ok (.if_icmp .ne 7, 3) := by decide +kernel
theorem dX8_term_13 : decode cX8_term 13 = .ok (.iconst 0, 1) := by decide +kernel
theorem dX8_term_14 : decode cX8_term 14 = .ok (.istore_n 1, 1) := by decide +kernel
theorem dX8_term_15 : decode cX8_term 15 = .ok (.iload_n 1, 1) := by decide +kernel
theorem dX8_term_16 : decode cX8_term 16 = .ok (.ifCond .eq 11, 3) := by decide +kernel
theorem dX8_term_27 : decode cX8_term 27 = .ok (.aload_n 0, 1) := by decide +kernel
theorem dX8_term_28 : decode cX8_term 28 = .ok (.iload_n 1, 1) := by decide +kernel
theorem dX8_term_29 : decode cX8_term 29 = .ok (.invokevirtual 219, 3) := by decide +kernel
theorem dX8_term_32 : decode cX8_term 32 = .ok (.iconst 0, 1) := by decide +kernel
theorem dX8_term_33 : decode cX8_term 33 = .ok (.istore_n 2, 1) := by decide +kernel
theorem dX8_term_34 : decode cX8_term 34 = .ok (.iload_n 2, 1) := by decide +kernel
theorem dX8_term_35 : decode cX8_term 35 = .ok (.bipush 120, 2) := by decide +kernel
theorem dX8_term_37 : decode cX8_term 37 = .ok (.if_icmp .ge 65, 3) := by decide +kernel
theorem dX8_term_40 : decode cX8_term 40 = .ok (.aload_n 0, 1) := by decide +kernel
theorem dX8_term_41 : decode cX8_term 41 = .ok (.getfield 39, 3) := by decide +kernel
theorem dX8_term_44 : decode cX8_term 44 = .ok (.bipush 11, 2) := by decide +kernel
theorem dX8_term_46 : decode cX8_term 46 = .ok (.if_icmp .eq 12, 3) := by decide +kernel
theorem dX8_term_49 : decode cX8_term 49 = .ok (.aload_n 0, 1) := by decide +kernel
theorem dX8_term_50 : decode cX8_term 50 = .ok (.getfield 39, 3) := by decide +kernel
theorem dX8_term_53 : decode cX8_term 53 = .ok (.bipush 12, 2) := by decide +kernel
theorem dX8_term_55 : decode cX8_term 55 = .ok (.if_icmp .ne 47, 3) := by decide +kernel
theorem dX8_term_102 : decode cX8_term 102 = .ok (.aload_n 0, 1) := by decide +kernel
theorem dX8_term_103 : decode cX8_term 103 = .ok (.bipush 43, 2) := by decide +kernel
theorem dX8_term_105 : decode cX8_term 105 = .ok (.invokevirtual 194, 3) := by decide +kernel
theorem dX8_term_108 : decode cX8_term 108 = .ok (.return_, 1) := by decide +kernel
theorem dX8_factor_120 : decode cX8_factor 120 = .ok (.iload_n 1, 1) := by decide +kernel
theorem dX8_factor_121 : decode cX8_factor 121 = .ok (.bipush 32, 2) := by decide +kernel
theorem dX8_factor_123 : decode cX8_factor 123 = .ok (.if_icmp .gt 26, 3) := by decide +kernel
theorem dX11_isComparison_0 : decode cX11_isComparison 0 = .ok (.iload_n 0, 1) := by decide +kernel
theorem dX11_isComparison_1 : decode cX11_isComparison 1 = .ok (.bipush 10, 2) := by decide +kernel
theorem dX11_isComparison_3 : decode cX11_isComparison 3 = .ok (.if_icmp .eq 15, 3) := by decide +kernel
theorem dX11_isComparison_6 : decode cX11_isComparison 6 = .ok (.iload_n 0, 1) := by decide +kernel
theorem dX11_isComparison_7 : decode cX11_isComparison 7 = .ok (.bipush 14, 2) := by decide +kernel
theorem dX11_isComparison_9 : decode cX11_isComparison 9 = .ok (.if_icmp .lt 13, 3) := by decide +kernel
theorem dX11_isComparison_12 : decode cX11_isComparison 12 = .ok (.iload_n 0, 1) := by decide +kernel
theorem dX11_isComparison_13 : decode cX11_isComparison 13 = .ok (.bipush 18, 2) := by decide +kernel
theorem dX11_isComparison_15 : decode cX11_isComparison 15 = .ok (.if_icmp .gt 7, 3) := by decide +kernel
theorem dX11_isComparison_22 : decode cX11_isComparison 22 = .ok (.iconst 0, 1) := by decide +kernel
theorem dX11_isComparison_23 : decode cX11_isComparison 23 = .ok (.ireturn, 1) := by decide +kernel
set_option maxHeartbeats 400000000 in
set_option maxRecDepth 100000 in
theorem c_X2_setStep_1 (l : Launch) (E : kE) (D : va_G) (cI cJ cB cZ : ClassId) (h0 : Nat) (f0 : List Value) (h1 : Nat) (g0 : Nat → Int32) (e0 : f0[3]? = some (.ref h1)) : kV l E D (kT cI cJ cB cZ) yX2_setStep vW_X2_setStep ({ frames := 0, cells := 0, slots := 0, locals := 0 }) [.ref h0, .int 24, .int 1, .int 43] [(h0, .inr (2, f0)), (h1, .inl (cI, 13312, .inl g0))] (fun _ : Unit => [(h0, .inr (2, f0)), (h1, .inl (cI, 13312, .inl (upd g0 12289 43)))]) 0 0 := by
  intro sz
  refine Met.ofW (cc := cX2_setStep) (maxL := 4) (ret := none) (by decide) rfl ?_
  intro p e s m args below meth c s₁ B hml hv
  obtain ⟨rfl, hsz, hP, hK, hD0, hN, hX⟩ := hv
  have hx := B.exec
  have hb := B.bytes
  have hr := B.returns
  have hts := atoms_spec (ws := vW_X2_setStep) B.pre
  have hown : s.vm.findClass RX2 = some m.cls := findClass_of_methodNamed B.named
  have hlocks := B.notSynchronized
  have hin2 : ∀ w ∈ wsX20, w ∈ vW_X2_setStep := u9_X2_setStep_wsX20
  subst hsz
  have hD := hD0.self (sz := s.heap.size)
  have hAE := k_AE hD0 hX
  generalize hAe : va_A [(h0, .inr (2, f0)), (h1, .inl (cI, 13312, .inl g0))] s.heap.size = A at hD hAE ⊢
  have hA : ∀ q : Nat, s.heap.size ≤ q → A q := fun q h => by rw [← hAe]; exact Or.inr h
  have hS : va_S A s.heap s.heap [] := va_S.rf
  have hP : va_P D vwCl [(h0, .inr (2, f0)), (h1, .inl (cI, 13312, .inl g0))] s.heap := hP
  have hl := lv_entry ([.ref h0, .int 24, .int 1, .int 43] : List Value) (n := 4) (Nat.le_of_ble_eq_true rfl)
  rw [lg_entry_eq]
  generalize (lg_sl ([.ref h0, .int 24, .int 1, .int 43]) ++ List.replicate (4 - (lg_sl ([.ref h0, .int 24, .int 1, .int 43])).length) Slot.unset).toArray = ls at hl ⊢
  have hl : lv_has ls 4 [(0, .ref h0), (1, .int 24), (2, .int 1), (3, .int 43)] := hl
  refine lv_iload_n hx hb dX2_setStep_0 rfl (lv_at hl 1 rfl) ?_
  refine lv_if_lt (tgt := 34) hx hb dX2_setStep_1 (by decide) (fun c9 => absurd c9 (by decide)) (fun _ => ?_)
  refine lv_iload_n hx hb dX2_setStep_4 rfl (lv_at hl 1 rfl) ?_
  refine lv_bipush (v := 26) hx hb dX2_setStep_5 (by decide) ?_
  refine lv_icmp_ge (tgt := 34) hx hb dX2_setStep_7 (by decide) (fun c9 => absurd c9 (by decide)) (fun _ => ?_)
  refine lv_iload_n hx hb dX2_setStep_10 rfl (lv_at hl 2 rfl) ?_
  refine lv_if_lt (tgt := 34) hx hb dX2_setStep_11 (by decide) (fun c9 => absurd c9 (by decide)) (fun _ => ?_)
  refine lv_iload_n hx hb dX2_setStep_14 rfl (lv_at hl 2 rfl) ?_
  refine lv_sipush (v := 512) hx hb dX2_setStep_15 (by decide) ?_
  refine lv_icmp_ge (tgt := 34) hx hb dX2_setStep_18 (by decide) (fun c9 => absurd c9 (by decide)) (fun _ => ?_)
  refine lv_aload_n hx hb dX2_setStep_21 rfl (lv_at hl 0 rfl) ?_
  refine k_get (D := D) (ci := 2) (v := .ref h1) (N := 16) hx hb hts hin2 hown hK hP 0 rfl rfl (by decide) f9_2_3 (hts (.fieldLink RX2 22 "IntegerHouse$House" "steps" "[I") (o9_X2_setStep _ (List.mem_of_getElem? (i := 0) rfl))) e0 dX2_setStep_22 ?_
  refine lv_iload_n hx hb dX2_setStep_25 rfl (lv_at hl 1 rfl) ?_
  refine lv_sipush (v := 512) hx hb dX2_setStep_26 (by decide) ?_
  refine lv_imul hx hb dX2_setStep_29 ?_
  refine k_topi (y := 12288) (by decide) ?_
  refine lv_iload_n hx hb dX2_setStep_30 rfl (lv_at hl 2 rfl) ?_
  refine lv_iadd hx hb dX2_setStep_31 ?_
  refine k_topi (y := 12289) (by decide) ?_
  refine lv_iload_n hx hb dX2_setStep_32 rfl (lv_at hl 3 rfl) ?_
  refine va_iast hx hb hK hP hD hS 1 0 rfl rfl (k_in (by decide)) dX2_setStep_33 (fun H locs hP hD hS => ?_)
  have hP : va_P D vwCl [(h0, .inr (2, f0)), (h1, .inl (cI, 13312, .inl (upd g0 12289 43)))] H := hP
  have hD : va_D A [(h0, .inr (2, f0)), (h1, .inl (cI, 13312, .inl (upd g0 12289 43)))] := hD
  exact W.vret hx hb hr (fun t ht hW => ⟨⟨(), rfl, trivial, kB_mk ht hW hP hK hD⟩, hS.F ht⟩) hS.2.2 dX2_setStep_34
set_option maxHeartbeats 400000000 in
set_option maxRecDepth 100000 in
theorem c_X8_step_1 (l : Launch) (E : kE) (D : va_G) (cI cJ cB cZ : ClassId) (h0 : Nat) (f0 : List Value) (h1 : Nat) (f1 : List Value) (h2 : Nat) (g0 : Nat → Int32) (e0 : f0[1]? = some (.ref h1)) (e1 : f0[11]? = some (.int 24)) (e2 : f0[13]? = some (.int 1)) (e3 : f1[3]? = some (.ref h2)) : kV l E D (kT cI cJ cB cZ) yX8_step vW_X8_step ({ frames := 1, cells := 0, slots := 0, locals := 23 }) [.ref h0, .int 43] [(h0, .inr (8, f0)), (h1, .inr (2, f1)), (h2, .inl (cI, 13312, .inl g0))] (fun _ : Unit => [(h0, .inr (8, (f0.set 13 (.int 2)))), (h1, .inr (2, f1)), (h2, .inl (cI, 13312, .inl (upd g0 12289 43)))]) 0 0 := by
  intro sz
  refine Met.ofW (cc := cX8_step) (maxL := 2) (ret := none) (by decide) rfl ?_
  intro p e s m args below meth c s₁ B hml hv
  obtain ⟨rfl, hsz, hP, hK, hD0, hN, hX⟩ := hv
  have hx := B.exec
  have hb := B.bytes
  have hr := B.returns
  have hts := atoms_spec (ws := vW_X8_step) B.pre
  have hown : s.vm.findClass RX8 = some m.cls := findClass_of_methodNamed B.named
  have hlocks := B.notSynchronized
  have hin8 : ∀ w ∈ wsX80, w ∈ vW_X8_step := u9_X8_step_wsX80
  subst hsz
  have hD := hD0.self (sz := s.heap.size)
  have hAE := k_AE hD0 hX
  generalize hAe : va_A [(h0, .inr (8, f0)), (h1, .inr (2, f1)), (h2, .inl (cI, 13312, .inl g0))] s.heap.size = A at hD hAE ⊢
  have hA : ∀ q : Nat, s.heap.size ≤ q → A q := fun q h => by rw [← hAe]; exact Or.inr h
  have hS : va_S A s.heap s.heap [] := va_S.rf
  have hP : va_P D vwCl [(h0, .inr (8, f0)), (h1, .inr (2, f1)), (h2, .inl (cI, 13312, .inl g0))] s.heap := hP
  have hl := lv_entry ([.ref h0, .int 43] : List Value) (n := 2) (Nat.le_of_ble_eq_true rfl)
  rw [lg_entry_eq]
  generalize (lg_sl ([.ref h0, .int 43]) ++ List.replicate (2 - (lg_sl ([.ref h0, .int 43])).length) Slot.unset).toArray = ls at hl ⊢
  have hl : lv_has ls 2 [(0, .ref h0), (1, .int 43)] := hl
  refine lv_aload_n hx hb dX8_step_0 rfl (lv_at hl 0 rfl) ?_
  refine k_get (D := D) (ci := 8) (v := .ref h1) (N := 15) hx hb hts hin8 hown hK hP 0 rfl rfl (by decide) f9_8_1 (hts (.fieldLink RX8 15 "IntegerHouse$Reader" "house" "LIntegerHouse$House;") (o9_X8_step _ (List.mem_of_getElem? (i := 0) rfl))) e0 dX8_step_1 ?_
  refine lv_aload_n hx hb dX8_step_4 rfl (lv_at hl 0 rfl) ?_
  refine k_get (D := D) (ci := 8) (v := .int 24) (N := 15) hx hb hts hin8 hown hK hP 0 rfl rfl (by decide) f9_8_11 (hts (.fieldLink RX8 164 "IntegerHouse$Reader" "slot" "I") (o9_X8_step _ (List.mem_of_getElem? (i := 1) rfl))) e1 dX8_step_5 ?_
  refine lv_aload_n hx hb dX8_step_8 rfl (lv_at hl 0 rfl) ?_
  refine k_get (D := D) (ci := 8) (v := .int 1) (N := 15) hx hb hts hin8 hown hK hP 0 rfl rfl (by decide) f9_8_13 (hts (.fieldLink RX8 170 "IntegerHouse$Reader" "steps" "I") (o9_X8_step _ (List.mem_of_getElem? (i := 2) rfl))) e2 dX8_step_9 ?_
  refine lv_iload_n hx hb dX8_step_12 rfl (lv_at hl 1 rfl) ?_
  refine k_cVv (As := [.int 24, .int 1, .int 43]) (rest := []) (wc := [(h1, .inr (2, f1)), (h2, .inl (cI, 13312, .inl g0))]) (wr := [(h0, .inr (8, f0))]) (w1 := (fun _ : Unit => [(h1, .inr (2, f1)), (h2, .inl (cI, 13312, .inl (upd g0 12289 43)))])) ⟨hx, hb, hml, hown, hts⟩ hN hX hAE hK hP hD hS hA [1, 2] [0] (ci := 2) rfl rfl rfl rfl (by decide +kernel) (by decide +kernel) (by decide +kernel) (c_X2_setStep_1 l E D cI cJ cB cZ h1 f1 h2 g0 e3) (cwV 3 hts g9_X8_step_X2_setStep_182 rfl rfl rfl (by decide +kernel) ⟨Nat.le_of_ble_eq_true rfl, Nat.le_of_ble_eq_true rfl⟩) rfl hl.1 (Nat.le_of_ble_eq_true rfl) dX8_step_13 ⟨Nat.le_of_ble_eq_true rfl, Nat.le_of_ble_eq_true rfl⟩ (fun _ H locs hP hD hS => ?_)
  have hP : va_P D vwCl [(h0, .inr (8, f0)), (h1, .inr (2, f1)), (h2, .inl (cI, 13312, .inl (upd g0 12289 43)))] H := hP
  have hD : va_D A [(h0, .inr (8, f0)), (h1, .inr (2, f1)), (h2, .inl (cI, 13312, .inl (upd g0 12289 43)))] := hD
  refine lv_aload_n hx hb dX8_step_16 rfl (lv_at hl 0 rfl) ?_
  refine lv_dup hx hb dX8_step_17 rfl ?_
  refine k_get (D := D) (ci := 8) (v := .int 1) (N := 15) hx hb hts hin8 hown hK hP 0 rfl rfl (by decide) f9_8_13 (hts (.fieldLink RX8 170 "IntegerHouse$Reader" "steps" "I") (o9_X8_step _ (List.mem_of_getElem? (i := 2) rfl))) e2 dX8_step_18 ?_
  refine lv_iconst (v := 1) hx hb dX8_step_21 (by decide) ?_
  refine lv_iadd hx hb dX8_step_22 ?_
  refine k_topi (y := 2) (by decide) ?_
  refine k_put (D := D) (ci := 8) (v := .int 2) (ty := .int) (N := 15) hx hb hts hin8 tyX8 tyX8_ok nmX8 hown hK hP hD hS 0 rfl rfl (by decide) f9_8_13 (hts (.fieldLink RX8 170 "IntegerHouse$Reader" "steps" "I") (o9_X8_step _ (List.mem_of_getElem? (i := 2) rfl))) rfl pd_2 rfl rfl (k_len e2) dX8_step_23 (fun H locs hP hD hS => ?_)
  have hP : va_P D vwCl [(h0, .inr (8, (f0.set 13 (.int 2)))), (h1, .inr (2, f1)), (h2, .inl (cI, 13312, .inl (upd g0 12289 43)))] H := hP
  have hD : va_D A [(h0, .inr (8, (f0.set 13 (.int 2)))), (h1, .inr (2, f1)), (h2, .inl (cI, 13312, .inl (upd g0 12289 43)))] := hD
  exact W.vret hx hb hr (fun t ht hW => ⟨⟨(), rfl, trivial, kB_mk ht hW hP hK hD⟩, hS.F ht⟩) hS.2.2 dX8_step_26
set_option maxHeartbeats 400000000 in
set_option maxRecDepth 100000 in
theorem c_X8_term_0 (l : Launch) (E : kE) (D : va_G) (cI cJ cB cZ : ClassId) (h0 : Nat) (f0 : List Value) (h1 : Nat) (f1 : List Value) (h2 : Nat) (f2 : List Value) (h3 : Nat) (g0 : Nat → Int32) (e0 : f0[7]? = some (.int 0)) (e1 : f0[0]? = some (.ref h1)) (e2 : f0[6]? = some (.int 0)) (e3 : f1[5]? = some (.int 0)) (e4 : f0[1]? = some (.ref h2)) (e5 : f2[10]? = some (.int 0)) (e6 : f0[3]? = some (.int 0)) (e7 : f0[8]? = some (.int 0)) (e8 : f0[4]? = some (.int 0)) (e9 : f0[11]? = some (.int 24)) (e10 : f0[13]? = some (.int 0)) (e11 : f2[3]? = some (.ref h3)) : kV l E D (kT cI cJ cB cZ) yX8_term vW_X8_term ({ frames := 3, cells := 0, slots := 0, locals := 69 }) [.ref h0] [(h0, .inr (8, f0)), (h1, .inr (3, f1)), (h2, .inr (2, f2)), (h3, .inl (cI, 13312, .inl g0))] (fun _ : Unit => [(h0, .inr (8, (((((f0.set 3 (.int 2)).set 4 (.int 0)).set 7 (.int 44)).set 13 (.int 1)).set 13 (.int 2)))), (h1, .inr (3, f1)), (h2, .inr (2, f2)), (h3, .inl (cI, 13312, .inl (upd (upd g0 12288 43) 12289 43)))]) 0 0 := by
  intro sz
  refine Met.ofW (cc := cX8_term) (maxL := 3) (ret := none) (by decide) rfl ?_
  intro p e s m args below meth c s₁ B hml hv
  obtain ⟨rfl, hsz, hP, hK, hD0, hN, hX⟩ := hv
  have hx := B.exec
  have hb := B.bytes
  have hr := B.returns
  have hts := atoms_spec (ws := vW_X8_term) B.pre
  have hown : s.vm.findClass RX8 = some m.cls := findClass_of_methodNamed B.named
  have hlocks := B.notSynchronized
  have hin8 : ∀ w ∈ wsX80, w ∈ vW_X8_term := u9_X8_term_wsX80
  subst hsz
  have hD := hD0.self (sz := s.heap.size)
  have hAE := k_AE hD0 hX
  generalize hAe : va_A [(h0, .inr (8, f0)), (h1, .inr (3, f1)), (h2, .inr (2, f2)), (h3, .inl (cI, 13312, .inl g0))] s.heap.size = A at hD hAE ⊢
  have hA : ∀ q : Nat, s.heap.size ≤ q → A q := fun q h => by rw [← hAe]; exact Or.inr h
  have hS : va_S A s.heap s.heap [] := va_S.rf
  have hP : va_P D vwCl [(h0, .inr (8, f0)), (h1, .inr (3, f1)), (h2, .inr (2, f2)), (h3, .inl (cI, 13312, .inl g0))] s.heap := hP
  have hl := lv_entry ([.ref h0] : List Value) (n := 3) (Nat.le_of_ble_eq_true rfl)
  rw [lg_entry_eq]
  generalize (lg_sl ([.ref h0]) ++ List.replicate (3 - (lg_sl ([.ref h0])).length) Slot.unset).toArray = ls at hl ⊢
  have hl : lv_has ls 3 [(0, .ref h0)] := hl
  refine lv_aload_n hx hb dX8_term_0 rfl (lv_at hl 0 rfl) ?_
  refine k_get (D := D) (ci := 8) (v := .int 0) (N := 15) hx hb hts hin8 hown hK hP 0 rfl rfl (by decide) f9_8_7 (hts (.fieldLink RX8 39 "IntegerHouse$Reader" "kind" "I") (o9_X8_term _ (List.mem_of_getElem? (i := 0) rfl))) e0 dX8_term_1 ?_
  refine lv_bipush (v := 12) hx hb dX8_term_4 (by decide) ?_
  refine lv_icmp_ne (tgt := 13) hx hb dX8_term_6 (by decide) (fun _ => ?_) (fun c9 => absurd c9 (by decide))
  refine lv_iconst (v := 0) hx hb dX8_term_13 (by decide) ?_
  refine lv_istore_n (lv' := [(1, .int 0), (0, .ref h0)]) hx hb dX8_term_14 rfl hl (by decide) rfl (fun ls hl => ?_)
  refine lv_iload_n hx hb dX8_term_15 rfl (lv_at hl 0 rfl) ?_
  refine lv_if_eq (tgt := 27) hx hb dX8_term_16 (by decide) (fun _ => ?_) (fun c9 => absurd (by decide) c9)
  refine lv_aload_n hx hb dX8_term_27 rfl (lv_at hl 1 rfl) ?_
  refine lv_iload_n hx hb dX8_term_28 rfl (lv_at hl 0 rfl) ?_
  refine k_cVv (As := [.int 0]) (rest := []) (wc := [(h0, .inr (8, f0)), (h1, .inr (3, f1)), (h2, .inr (2, f2)), (h3, .inl (cI, 13312, .inl g0))]) (wr := []) (w1 := (fun _ : Unit => [(h0, .inr (8, ((((f0.set 3 (.int 2)).set 4 (.int 0)).set 7 (.int 44)).set 13 (.int 1)))), (h1, .inr (3, f1)), (h2, .inr (2, f2)), (h3, .inl (cI, 13312, .inl (upd g0 12288 43)))])) ⟨hx, hb, hml, hown, hts⟩ hN hX hAE hK hP hD hS hA [0, 1, 2, 3] [] (ci := 8) rfl rfl rfl rfl (by decide +kernel) (by decide +kernel) (by decide +kernel) (c_X8_part_0 l E D cI cJ cB cZ h0 f0 h1 f1 h2 f2 h3 g0 e1 e2 e3 e0 e4 e5 e6 e7 e8 e9 e10 e11) (cwV 1 hts g9_X8_term_X8_part_219 rfl rfl rfl (by decide +kernel) ⟨Nat.le_of_ble_eq_true rfl, Nat.le_of_ble_eq_true rfl⟩) rfl hl.1 (Nat.le_of_ble_eq_true rfl) dX8_term_29 ⟨Nat.le_of_ble_eq_true rfl, Nat.le_of_ble_eq_true rfl⟩ (fun _ H locs hP hD hS => ?_)
  have hP : va_P D vwCl [(h0, .inr (8, ((((f0.set 3 (.int 2)).set 4 (.int 0)).set 7 (.int 44)).set 13 (.int 1)))), (h1, .inr (3, f1)), (h2, .inr (2, f2)), (h3, .inl (cI, 13312, .inl (upd g0 12288 43)))] H := hP
  have hD : va_D A [(h0, .inr (8, ((((f0.set 3 (.int 2)).set 4 (.int 0)).set 7 (.int 44)).set 13 (.int 1)))), (h1, .inr (3, f1)), (h2, .inr (2, f2)), (h3, .inl (cI, 13312, .inl (upd g0 12288 43)))] := hD
  refine lv_iconst (v := 0) hx hb dX8_term_32 (by decide) ?_
  refine lv_istore_n (lv' := [(2, .int 0), (1, .int 0), (0, .ref h0)]) hx hb dX8_term_33 rfl hl (by decide) rfl (fun ls hl => ?_)
  refine lv_iload_n hx hb dX8_term_34 rfl (lv_at hl 0 rfl) ?_
  refine lv_bipush (v := 120) hx hb dX8_term_35 (by decide) ?_
  refine lv_icmp_ge (tgt := 102) hx hb dX8_term_37 (by decide) (fun c9 => absurd c9 (by decide)) (fun _ => ?_)
  refine lv_aload_n hx hb dX8_term_40 rfl (lv_at hl 2 rfl) ?_
  refine k_get (D := D) (ci := 8) (v := .int 44) (N := 15) hx hb hts hin8 hown hK hP 0 rfl rfl (by decide) f9_8_7 (hts (.fieldLink RX8 39 "IntegerHouse$Reader" "kind" "I") (o9_X8_term _ (List.mem_of_getElem? (i := 0) rfl))) (k_ne (by decide) (k_set (k_ne (by decide) (k_ne (by decide) e0)))) dX8_term_41 ?_
  refine lv_bipush (v := 11) hx hb dX8_term_44 (by decide) ?_
  refine lv_icmp_eq (tgt := 58) hx hb dX8_term_46 (by decide) (fun c9 => absurd c9 (by decide)) (fun _ => ?_)
  refine lv_aload_n hx hb dX8_term_49 rfl (lv_at hl 2 rfl) ?_
  refine k_get (D := D) (ci := 8) (v := .int 44) (N := 15) hx hb hts hin8 hown hK hP 0 rfl rfl (by decide) f9_8_7 (hts (.fieldLink RX8 39 "IntegerHouse$Reader" "kind" "I") (o9_X8_term _ (List.mem_of_getElem? (i := 0) rfl))) (k_ne (by decide) (k_set (k_ne (by decide) (k_ne (by decide) e0)))) dX8_term_50 ?_
  refine lv_bipush (v := 12) hx hb dX8_term_53 (by decide) ?_
  refine lv_icmp_ne (tgt := 102) hx hb dX8_term_55 (by decide) (fun _ => ?_) (fun c9 => absurd c9 (by decide))
  refine lv_aload_n hx hb dX8_term_102 rfl (lv_at hl 2 rfl) ?_
  refine lv_bipush (v := 43) hx hb dX8_term_103 (by decide) ?_
  refine k_cVv (As := [.int 43]) (rest := []) (wc := [(h0, .inr (8, ((((f0.set 3 (.int 2)).set 4 (.int 0)).set 7 (.int 44)).set 13 (.int 1)))), (h2, .inr (2, f2)), (h3, .inl (cI, 13312, .inl (upd g0 12288 43)))]) (wr := [(h1, .inr (3, f1))]) (w1 := (fun _ : Unit => [(h0, .inr (8, (((((f0.set 3 (.int 2)).set 4 (.int 0)).set 7 (.int 44)).set 13 (.int 1)).set 13 (.int 2)))), (h2, .inr (2, f2)), (h3, .inl (cI, 13312, .inl (upd (upd g0 12288 43) 12289 43)))])) ⟨hx, hb, hml, hown, hts⟩ hN hX hAE hK hP hD hS hA [0, 2, 3] [1] (ci := 8) rfl rfl rfl rfl (by decide +kernel) (by decide +kernel) (by decide +kernel) (c_X8_step_1 l E D cI cJ cB cZ h0 (((((f0.set 3 (.int 2)).set 4 (.int 0)).set 7 (.int 44)).set 13 (.int 1))) h2 f2 h3 ((upd g0 12288 43)) (k_ne (by decide) (k_ne (by decide) (k_ne (by decide) (k_ne (by decide) e4)))) (k_ne (by decide) (k_ne (by decide) (k_ne (by decide) (k_ne (by decide) e9)))) (k_set (k_ne (by decide) (k_ne (by decide) (k_ne (by decide) e10)))) e11) (cwV 1 hts g9_X8_term_X8_step_194 rfl rfl rfl (by decide +kernel) ⟨Nat.le_of_ble_eq_true rfl, Nat.le_of_ble_eq_true rfl⟩) rfl hl.1 (Nat.le_of_ble_eq_true rfl) dX8_term_105 ⟨Nat.le_of_ble_eq_true rfl, Nat.le_of_ble_eq_true rfl⟩ (fun _ H locs hP hD hS => ?_)
  have hP : va_P D vwCl [(h1, .inr (3, f1)), (h0, .inr (8, (((((f0.set 3 (.int 2)).set 4 (.int 0)).set 7 (.int 44)).set 13 (.int 1)).set 13 (.int 2)))), (h2, .inr (2, f2)), (h3, .inl (cI, 13312, .inl (upd (upd g0 12288 43) 12289 43)))] H := hP
  have hD : va_D A [(h1, .inr (3, f1)), (h0, .inr (8, (((((f0.set 3 (.int 2)).set 4 (.int 0)).set 7 (.int 44)).set 13 (.int 1)).set 13 (.int 2)))), (h2, .inr (2, f2)), (h3, .inl (cI, 13312, .inl (upd (upd g0 12288 43) 12289 43)))] := hD
  have hP := hP.sub (ws' := [(h0, .inr (8, (((((f0.set 3 (.int 2)).set 4 (.int 0)).set 7 (.int 44)).set 13 (.int 1)).set 13 (.int 2)))), (h1, .inr (3, f1)), (h2, .inr (2, f2)), (h3, .inl (cI, 13312, .inl (upd (upd g0 12288 43) 12289 43)))]) [1, 0, 2, 3] rfl
  have hD := hD.sub (ws' := [(h0, .inr (8, (((((f0.set 3 (.int 2)).set 4 (.int 0)).set 7 (.int 44)).set 13 (.int 1)).set 13 (.int 2)))), (h1, .inr (3, f1)), (h2, .inr (2, f2)), (h3, .inl (cI, 13312, .inl (upd (upd g0 12288 43) 12289 43)))]) [1, 0, 2, 3] (by decide +kernel) rfl
  exact W.vret hx hb hr (fun t ht hW => ⟨⟨(), rfl, trivial, kB_mk ht hW hP hK hD⟩, hS.F ht⟩) hS.2.2 dX8_term_108
set_option maxHeartbeats 400000000 in
set_option maxRecDepth 100000 in
theorem c_X11_isComparison_0 (l : Launch) (E : kE) (D : va_G) (cI cJ cB cZ : ClassId)   : kI l E D (kT cI cJ cB cZ) yX11_isComparison vW_X11_isComparison ({ frames := 0, cells := 0, slots := 0, locals := 0 }) [.int 44] [] (0) [] 0 0 := by
  intro sz
  refine Met.ofW (cc := cX11_isComparison) (maxL := 1) (ret := (some .boolean)) (by decide) rfl ?_
  intro p e s m args below meth c s₁ B hml hv
  obtain ⟨rfl, hsz, hP, hK, hD0, hN, hX⟩ := hv
  have hx := B.exec
  have hb := B.bytes
  have hr := B.returns
  have hts := atoms_spec (ws := vW_X11_isComparison) B.pre
  have hown : s.vm.findClass RX11 = some m.cls := findClass_of_methodNamed B.named
  have hlocks := B.notSynchronized
  subst hsz
  have hD := hD0.self (sz := s.heap.size)
  have hAE := k_AE hD0 hX
  generalize hAe : va_A [] s.heap.size = A at hD hAE ⊢
  have hA : ∀ q : Nat, s.heap.size ≤ q → A q := fun q h => by rw [← hAe]; exact Or.inr h
  have hS : va_S A s.heap s.heap [] := va_S.rf
  have hP : va_P D vwCl [] s.heap := hP
  have hl := lv_entry ([.int 44] : List Value) (n := 1) (Nat.le_of_ble_eq_true rfl)
  rw [lg_entry_eq]
  generalize (lg_sl ([.int 44]) ++ List.replicate (1 - (lg_sl ([.int 44])).length) Slot.unset).toArray = ls at hl ⊢
  have hl : lv_has ls 1 [(0, .int 44)] := hl
  refine lv_iload_n hx hb dX11_isComparison_0 rfl (lv_at hl 0 rfl) ?_
  refine lv_bipush (v := 10) hx hb dX11_isComparison_1 (by decide) ?_
  refine lv_icmp_eq (tgt := 18) hx hb dX11_isComparison_3 (by decide) (fun c9 => absurd c9 (by decide)) (fun _ => ?_)
  refine lv_iload_n hx hb dX11_isComparison_6 rfl (lv_at hl 0 rfl) ?_
  refine lv_bipush (v := 14) hx hb dX11_isComparison_7 (by decide) ?_
  refine lv_icmp_lt (tgt := 22) hx hb dX11_isComparison_9 (by decide) (fun c9 => absurd c9 (by decide)) (fun _ => ?_)
  refine lv_iload_n hx hb dX11_isComparison_12 rfl (lv_at hl 0 rfl) ?_
  refine lv_bipush (v := 18) hx hb dX11_isComparison_13 (by decide) ?_
  refine lv_icmp_gt (tgt := 22) hx hb dX11_isComparison_15 (by decide) (fun _ => ?_) (fun c9 => absurd (by decide) c9)
  refine lv_iconst (v := 0) hx hb dX11_isComparison_22 (by decide) ?_
  exact W.zret (v := 0) hx hb hr rfl (fun t ht hW => ⟨⟨0, (), rfl, rfl, kB_mk ht hW hP hK hD⟩, hS.F ht⟩) hS.2.2 dX11_isComparison_23
set_option maxHeartbeats 400000000 in
set_option maxRecDepth 100000 in
theorem c_X8_accept_0 (l : Launch) (E : kE) (D : va_G) (cI cJ cB cZ : ClassId) (h0 : Nat) (f0 : List Value) (e0 : f0[7]? = some (.int 44)) (e1 : f0[3]? = some (.int 2)) : kV l E D (kT cI cJ cB cZ) yX8_accept vW_X8_accept ({ frames := 1, cells := 0, slots := 0, locals := 21 }) [.ref h0, .int 10, .int 44] [(h0, .inr (8, f0))] (fun _ : Unit => [(h0, .inr (8, (f0.set 7 (.int 44))))]) 0 0 := by
  intro sz
  refine Met.ofW (cc := cX8_accept) (maxL := 4) (ret := none) (by decide) rfl ?_
  intro p e s m args below meth c s₁ B hml hv
  obtain ⟨rfl, hsz, hP, hK, hD0, hN, hX⟩ := hv
  have hx := B.exec
  have hb := B.bytes
  have hr := B.returns
  have hts := atoms_spec (ws := vW_X8_accept) B.pre
  have hown : s.vm.findClass RX8 = some m.cls := findClass_of_methodNamed B.named
  have hlocks := B.notSynchronized
  have hin8 : ∀ w ∈ wsX80, w ∈ vW_X8_accept := u9_X8_accept_wsX80
  subst hsz
  have hD := hD0.self (sz := s.heap.size)
  have hAE := k_AE hD0 hX
  generalize hAe : va_A [(h0, .inr (8, f0))] s.heap.size = A at hD hAE ⊢
  have hA : ∀ q : Nat, s.heap.size ≤ q → A q := fun q h => by rw [← hAe]; exact Or.inr h
  have hS : va_S A s.heap s.heap [] := va_S.rf
  have hP : va_P D vwCl [(h0, .inr (8, f0))] s.heap := hP
  have hl := lv_entry ([.ref h0, .int 10, .int 44] : List Value) (n := 4) (Nat.le_of_ble_eq_true rfl)
  rw [lg_entry_eq]
  generalize (lg_sl ([.ref h0, .int 10, .int 44]) ++ List.replicate (4 - (lg_sl ([.ref h0, .int 10, .int 44])).length) Slot.unset).toArray = ls at hl ⊢
  have hl : lv_has ls 4 [(0, .ref h0), (1, .int 10), (2, .int 44)] := hl
  refine lv_iload_n hx hb dX8_accept_0 rfl (lv_at hl 1 rfl) ?_
  refine lv_bipush (v := 25) hx hb dX8_accept_1 (by decide) ?_
  refine lv_icmp_eq (tgt := 17) hx hb dX8_accept_3 (by decide) (fun c9 => absurd c9 (by decide)) (fun _ => ?_)
  refine lv_iload_n hx hb dX8_accept_6 rfl (lv_at hl 1 rfl) ?_
  refine lv_iconst (v := 4) hx hb dX8_accept_7 (by decide) ?_
  refine lv_icmp_eq (tgt := 17) hx hb dX8_accept_8 (by decide) (fun c9 => absurd c9 (by decide)) (fun _ => ?_)
  refine lv_iload_n hx hb dX8_accept_11 rfl (lv_at hl 1 rfl) ?_
  refine lv_bipush (v := 6) hx hb dX8_accept_12 (by decide) ?_
  refine lv_icmp_ne (tgt := 21) hx hb dX8_accept_14 (by decide) (fun _ => ?_) (fun c9 => absurd c9 (by decide))
  refine lv_iconst (v := 0) hx hb dX8_accept_21 (by decide) ?_
  refine lv_istore_n (lv' := [(3, .int 0), (0, .ref h0), (1, .int 10), (2, .int 44)]) hx hb dX8_accept_22 rfl hl (by decide) rfl (fun ls hl => ?_)
  refine lv_aload_n hx hb dX8_accept_23 rfl (lv_at hl 1 rfl) ?_
  refine k_get (D := D) (ci := 8) (v := .int 44) (N := 15) hx hb hts hin8 hown hK hP 0 rfl rfl (by decide) f9_8_7 (hts (.fieldLink RX8 39 "IntegerHouse$Reader" "kind" "I") (o9_X8_accept _ (List.mem_of_getElem? (i := 0) rfl))) e0 dX8_accept_24 ?_
  refine lv_iload_n hx hb dX8_accept_27 rfl (lv_at hl 2 rfl) ?_
  refine lv_icmp_eq (tgt := 39) hx hb dX8_accept_28 (by decide) (fun c9 => absurd c9 (by decide)) (fun _ => ?_)
  refine lv_aload_n hx hb dX8_accept_31 rfl (lv_at hl 1 rfl) ?_
  refine lv_iconst (v := 2) hx hb dX8_accept_32 (by decide) ?_
  refine k_cVv (As := [.int 2]) (rest := []) (wc := [(h0, .inr (8, f0))]) (wr := []) (w1 := (fun _ : Unit => [(h0, .inr (8, (f0.set 7 (.int 44))))])) ⟨hx, hb, hml, hown, hts⟩ hN hX hAE hK hP hD hS hA [0] [] (ci := 8) rfl rfl rfl rfl (by decide +kernel) (by decide +kernel) (by decide +kernel) (c_X8_fail_1 l E D cI cJ cB cZ h0 f0 e1 e0) (cwV 1 hts g9_X8_accept_X8_fail_95 rfl rfl rfl (by decide +kernel) ⟨Nat.le_of_ble_eq_true rfl, Nat.le_of_ble_eq_true rfl⟩) rfl hl.1 (Nat.le_of_ble_eq_true rfl) dX8_accept_33 ⟨Nat.le_of_ble_eq_true rfl, Nat.le_of_ble_eq_true rfl⟩ (fun _ H locs hP hD hS => ?_)
  have hP : va_P D vwCl [(h0, .inr (8, (f0.set 7 (.int 44))))] H := hP
  have hD : va_D A [(h0, .inr (8, (f0.set 7 (.int 44))))] := hD
  refine lv_goto (tgt := 132) hx hb dX8_accept_36 (by decide) ?_
  exact W.vret hx hb hr (fun t ht hW => ⟨⟨(), rfl, trivial, kB_mk ht hW hP hK hD⟩, hS.F ht⟩) hS.2.2 dX8_accept_132
set_option maxHeartbeats 400000000 in
set_option maxRecDepth 100000 in
theorem c_X8_factor_1 (l : Launch) (E : kE) (D : va_G) (cI cJ cB cZ : ClassId) (h0 : Nat) (f0 : List Value) (h1 : Nat) (h2 : Nat) (f1 : List Value) (f2 : List Value) (e0 : f0[7]? = some (.int 44)) (e1 : f0[1]? = some (.ref h1)) (e2 : f0[0]? = some (.ref h2)) (e3 : f0[6]? = some (.int 0)) (e4 : f1[5]? = some (.int 0)) (e5 : f2[10]? = some (.int 0)) (e6 : f0[3]? = some (.int 2)) : kV l E D (kT cI cJ cB cZ) yX8_factor vW_X8_factor ({ frames := 1, cells := 0, slots := 0, locals := 23 }) [.ref h0] [(h0, .inr (8, f0)), (h2, .inr (3, f1)), (h1, .inr (2, f2))] (fun _ : Unit => [(h0, .inr (8, (f0.set 7 (.int 44)))), (h2, .inr (3, f1)), (h1, .inr (2, f2))]) 0 0 := by
  intro sz
  refine Met.ofW (cc := cX8_factor) (maxL := 3) (ret := none) (by decide) rfl ?_
  intro p e s m args below meth c s₁ B hml hv
  obtain ⟨rfl, hsz, hP, hK, hD0, hN, hX⟩ := hv
  have hx := B.exec
  have hb := B.bytes
  have hr := B.returns
  have hts := atoms_spec (ws := vW_X8_factor) B.pre
  have hown : s.vm.findClass RX8 = some m.cls := findClass_of_methodNamed B.named
  have hlocks := B.notSynchronized
  have hin8 : ∀ w ∈ wsX80, w ∈ vW_X8_factor := u9_X8_factor_wsX80
  subst hsz
  have hD := hD0.self (sz := s.heap.size)
  have hAE := k_AE hD0 hX
  generalize hAe : va_A [(h0, .inr (8, f0)), (h2, .inr (3, f1)), (h1, .inr (2, f2))] s.heap.size = A at hD hAE ⊢
  have hA : ∀ q : Nat, s.heap.size ≤ q → A q := fun q h => by rw [← hAe]; exact Or.inr h
  have hS : va_S A s.heap s.heap [] := va_S.rf
  have hP : va_P D vwCl [(h0, .inr (8, f0)), (h2, .inr (3, f1)), (h1, .inr (2, f2))] s.heap := hP
  have hl := lv_entry ([.ref h0] : List Value) (n := 3) (Nat.le_of_ble_eq_true rfl)
  rw [lg_entry_eq]
  generalize (lg_sl ([.ref h0]) ++ List.replicate (3 - (lg_sl ([.ref h0])).length) Slot.unset).toArray = ls at hl ⊢
  have hl : lv_has ls 3 [(0, .ref h0)] := hl
  refine lv_aload_n hx hb dX8_factor_0 rfl (lv_at hl 0 rfl) ?_
  refine k_get (D := D) (ci := 8) (v := .int 44) (N := 15) hx hb hts hin8 hown hK hP 0 rfl rfl (by decide) f9_8_7 (hts (.fieldLink RX8 39 "IntegerHouse$Reader" "kind" "I") (o9_X8_factor _ (List.mem_of_getElem? (i := 0) rfl))) e0 dX8_factor_1 ?_
  refine lv_istore_n (lv' := [(1, .int 44), (0, .ref h0)]) hx hb dX8_factor_4 rfl hl (by decide) rfl (fun ls hl => ?_)
  refine lv_aload_n hx hb dX8_factor_5 rfl (lv_at hl 1 rfl) ?_
  refine k_get (D := D) (ci := 8) (v := .ref h1) (N := 15) hx hb hts hin8 hown hK hP 0 rfl rfl (by decide) f9_8_1 (hts (.fieldLink RX8 15 "IntegerHouse$Reader" "house" "LIntegerHouse$House;") (o9_X8_factor _ (List.mem_of_getElem? (i := 1) rfl))) e1 dX8_factor_6 ?_
  refine lv_aload_n hx hb dX8_factor_9 rfl (lv_at hl 1 rfl) ?_
  refine k_get (D := D) (ci := 8) (v := .ref h2) (N := 15) hx hb hts hin8 hown hK hP 0 rfl rfl (by decide) f9_8_0 (hts (.fieldLink RX8 9 "IntegerHouse$Reader" "lexer" "LIntegerHouse$Lexer;") (o9_X8_factor _ (List.mem_of_getElem? (i := 2) rfl))) e2 dX8_factor_10 ?_
  refine lv_aload_n hx hb dX8_factor_13 rfl (lv_at hl 1 rfl) ?_
  refine k_get (D := D) (ci := 8) (v := .int 0) (N := 15) hx hb hts hin8 hown hK hP 0 rfl rfl (by decide) f9_8_6 (hts (.fieldLink RX8 79 "IntegerHouse$Reader" "at" "I") (o9_X8_factor _ (List.mem_of_getElem? (i := 3) rfl))) e3 dX8_factor_14 ?_
  refine k_cVl (As := [.int 0]) (rest := [.ref h1]) (wc := [(h2, .inr (3, f1))]) (wr := [(h0, .inr (8, f0)), (h1, .inr (2, f2))]) (w1 := [(h2, .inr (3, f1))]) ⟨hx, hb, hml, hown, hts⟩ hN hX hAE hK hP hD hS hA [1] [0, 2] (ci := 3) rfl rfl rfl rfl (by decide +kernel) (by decide +kernel) (by decide +kernel) (c_X3_nameAt_0 l E D cI cJ cB cZ h2 f1 e4) (cwV 1 hts g9_X8_factor_X3_nameAt_82 rfl rfl rfl (by decide +kernel) ⟨Nat.le_of_ble_eq_true rfl, Nat.le_of_ble_eq_true rfl⟩) rfl hl.1 (Nat.le_of_ble_eq_true rfl) dX8_factor_17 ⟨Nat.le_of_ble_eq_true rfl, Nat.le_of_ble_eq_true rfl⟩ (fun H locs hP hD hS => ?_)
  have hP : va_P D vwCl [(h0, .inr (8, f0)), (h1, .inr (2, f2)), (h2, .inr (3, f1))] H := hP
  have hD : va_D A [(h0, .inr (8, f0)), (h1, .inr (2, f2)), (h2, .inr (3, f1))] := hD
  refine k_cVi (As := [.long 0]) (rest := []) (wc := [(h1, .inr (2, f2))]) (wr := [(h0, .inr (8, f0)), (h2, .inr (3, f1))]) (w1 := [(h1, .inr (2, f2))]) ⟨hx, hb, hml, hown, hts⟩ hN hX hAE hK hP hD hS hA [1] [0, 2] (ci := 2) rfl rfl rfl rfl (by decide +kernel) (by decide +kernel) (by decide +kernel) (c_X2_variableOf_0 l E D cI cJ cB cZ h1 f2 e5) (cwV 1 hts g9_X8_factor_X2_variableOf_92 rfl rfl rfl (by decide +kernel) ⟨Nat.le_of_ble_eq_true rfl, Nat.le_of_ble_eq_true rfl⟩) rfl hl.1 (Nat.le_of_ble_eq_true rfl) dX8_factor_20 ⟨Nat.le_of_ble_eq_true rfl, Nat.le_of_ble_eq_true rfl⟩ (fun H locs hP hD hS => ?_)
  have hP : va_P D vwCl [(h0, .inr (8, f0)), (h2, .inr (3, f1)), (h1, .inr (2, f2))] H := hP
  have hD : va_D A [(h0, .inr (8, f0)), (h2, .inr (3, f1)), (h1, .inr (2, f2))] := hD
  refine lv_istore_n (lv' := [(2, .int (-1)), (1, .int 44), (0, .ref h0)]) hx hb dX8_factor_23 rfl hl (by decide) rfl (fun ls hl => ?_)
  refine lv_iload_n hx hb dX8_factor_24 rfl (lv_at hl 1 rfl) ?_
  refine lv_iconst (v := 1) hx hb dX8_factor_25 (by decide) ?_
  refine lv_icmp_ne (tgt := 60) hx hb dX8_factor_26 (by decide) (fun _ => ?_) (fun c9 => absurd c9 (by decide))
  refine lv_iload_n hx hb dX8_factor_60 rfl (lv_at hl 1 rfl) ?_
  refine lv_iconst (v := 1) hx hb dX8_factor_61 (by decide) ?_
  refine lv_icmp_ne (tgt := 99) hx hb dX8_factor_62 (by decide) (fun _ => ?_) (fun c9 => absurd c9 (by decide))
  refine lv_iload_n hx hb dX8_factor_99 rfl (lv_at hl 1 rfl) ?_
  refine lv_bipush (v := 6) hx hb dX8_factor_100 (by decide) ?_
  refine lv_icmp_ne (tgt := 114) hx hb dX8_factor_102 (by decide) (fun _ => ?_) (fun c9 => absurd c9 (by decide))
  refine lv_iload_n hx hb dX8_factor_114 rfl (lv_at hl 1 rfl) ?_
  refine lv_bipush (v := 28) hx hb dX8_factor_115 (by decide) ?_
  refine lv_icmp_lt (tgt := 149) hx hb dX8_factor_117 (by decide) (fun c9 => absurd c9 (by decide)) (fun _ => ?_)
  refine lv_iload_n hx hb dX8_factor_120 rfl (lv_at hl 1 rfl) ?_
  refine lv_bipush (v := 32) hx hb dX8_factor_121 (by decide) ?_
  refine lv_icmp_gt (tgt := 149) hx hb dX8_factor_123 (by decide) (fun _ => ?_) (fun c9 => absurd (by decide) c9)
  refine lv_aload_n hx hb dX8_factor_149 rfl (lv_at hl 2 rfl) ?_
  refine lv_iconst (v := 2) hx hb dX8_factor_150 (by decide) ?_
  refine k_cVv (As := [.int 2]) (rest := []) (wc := [(h0, .inr (8, f0))]) (wr := [(h2, .inr (3, f1)), (h1, .inr (2, f2))]) (w1 := (fun _ : Unit => [(h0, .inr (8, (f0.set 7 (.int 44))))])) ⟨hx, hb, hml, hown, hts⟩ hN hX hAE hK hP hD hS hA [0] [1, 2] (ci := 8) rfl rfl rfl rfl (by decide +kernel) (by decide +kernel) (by decide +kernel) (c_X8_fail_1 l E D cI cJ cB cZ h0 f0 e6 e0) (cwV 1 hts g9_X8_factor_X8_fail_95 rfl rfl rfl (by decide +kernel) ⟨Nat.le_of_ble_eq_true rfl, Nat.le_of_ble_eq_true rfl⟩) rfl hl.1 (Nat.le_of_ble_eq_true rfl) dX8_factor_151 ⟨Nat.le_of_ble_eq_true rfl, Nat.le_of_ble_eq_true rfl⟩ (fun _ H locs hP hD hS => ?_)
  have hP : va_P D vwCl [(h2, .inr (3, f1)), (h1, .inr (2, f2)), (h0, .inr (8, (f0.set 7 (.int 44))))] H := hP
  have hD : va_D A [(h2, .inr (3, f1)), (h1, .inr (2, f2)), (h0, .inr (8, (f0.set 7 (.int 44))))] := hD
  have hP := hP.sub (ws' := [(h0, .inr (8, (f0.set 7 (.int 44)))), (h2, .inr (3, f1)), (h1, .inr (2, f2))]) [2, 0, 1] rfl
  have hD := hD.sub (ws' := [(h0, .inr (8, (f0.set 7 (.int 44)))), (h2, .inr (3, f1)), (h1, .inr (2, f2))]) [2, 0, 1] (by decide +kernel) rfl
  exact W.vret hx hb hr (fun t ht hW => ⟨⟨(), rfl, trivial, kB_mk ht hW hP hK hD⟩, hS.F ht⟩) hS.2.2 dX8_factor_154
set_option maxHeartbeats 400000000 in
set_option maxRecDepth 100000 in
theorem c_X2_setStep_2 (l : Launch) (E : kE) (D : va_G) (cI cJ cB cZ : ClassId) (h0 : Nat) (f0 : List Value) (h1 : Nat) (g0 : Nat → Int32) (e0 : f0[3]? = some (.ref h1)) : kV l E D (kT cI cJ cB cZ) yX2_setStep vW_X2_setStep ({ frames := 0, cells := 0, slots := 0, locals := 0 }) [.ref h0, .int 24, .int 2, .int 43] [(h0, .inr (2, f0)), (h1, .inl (cI, 13312, .inl g0))] (fun _ : Unit => [(h0, .inr (2, f0)), (h1, .inl (cI, 13312, .inl (upd g0 12290 43)))]) 0 0 := by
  intro sz
  refine Met.ofW (cc := cX2_setStep) (maxL := 4) (ret := none) (by decide) rfl ?_
  intro p e s m args below meth c s₁ B hml hv
  obtain ⟨rfl, hsz, hP, hK, hD0, hN, hX⟩ := hv
  have hx := B.exec
  have hb := B.bytes
  have hr := B.returns
  have hts := atoms_spec (ws := vW_X2_setStep) B.pre
  have hown : s.vm.findClass RX2 = some m.cls := findClass_of_methodNamed B.named
  have hlocks := B.notSynchronized
  have hin2 : ∀ w ∈ wsX20, w ∈ vW_X2_setStep := u9_X2_setStep_wsX20
  subst hsz
  have hD := hD0.self (sz := s.heap.size)
  have hAE := k_AE hD0 hX
  generalize hAe : va_A [(h0, .inr (2, f0)), (h1, .inl (cI, 13312, .inl g0))] s.heap.size = A at hD hAE ⊢
  have hA : ∀ q : Nat, s.heap.size ≤ q → A q := fun q h => by rw [← hAe]; exact Or.inr h
  have hS : va_S A s.heap s.heap [] := va_S.rf
  have hP : va_P D vwCl [(h0, .inr (2, f0)), (h1, .inl (cI, 13312, .inl g0))] s.heap := hP
  have hl := lv_entry ([.ref h0, .int 24, .int 2, .int 43] : List Value) (n := 4) (Nat.le_of_ble_eq_true rfl)
  rw [lg_entry_eq]
  generalize (lg_sl ([.ref h0, .int 24, .int 2, .int 43]) ++ List.replicate (4 - (lg_sl ([.ref h0, .int 24, .int 2, .int 43])).length) Slot.unset).toArray = ls at hl ⊢
  have hl : lv_has ls 4 [(0, .ref h0), (1, .int 24), (2, .int 2), (3, .int 43)] := hl
  refine lv_iload_n hx hb dX2_setStep_0 rfl (lv_at hl 1 rfl) ?_
  refine lv_if_lt (tgt := 34) hx hb dX2_setStep_1 (by decide) (fun c9 => absurd c9 (by decide)) (fun _ => ?_)
  refine lv_iload_n hx hb dX2_setStep_4 rfl (lv_at hl 1 rfl) ?_
  refine lv_bipush (v := 26) hx hb dX2_setStep_5 (by decide) ?_
  refine lv_icmp_ge (tgt := 34) hx hb dX2_setStep_7 (by decide) (fun c9 => absurd c9 (by decide)) (fun _ => ?_)
  refine lv_iload_n hx hb dX2_setStep_10 rfl (lv_at hl 2 rfl) ?_
  refine lv_if_lt (tgt := 34) hx hb dX2_setStep_11 (by decide) (fun c9 => absurd c9 (by decide)) (fun _ => ?_)
  refine lv_iload_n hx hb dX2_setStep_14 rfl (lv_at hl 2 rfl) ?_
  refine lv_sipush (v := 512) hx hb dX2_setStep_15 (by decide) ?_
  refine lv_icmp_ge (tgt := 34) hx hb dX2_setStep_18 (by decide) (fun c9 => absurd c9 (by decide)) (fun _ => ?_)
  refine lv_aload_n hx hb dX2_setStep_21 rfl (lv_at hl 0 rfl) ?_
  refine k_get (D := D) (ci := 2) (v := .ref h1) (N := 16) hx hb hts hin2 hown hK hP 0 rfl rfl (by decide) f9_2_3 (hts (.fieldLink RX2 22 "IntegerHouse$House" "steps" "[I") (o9_X2_setStep _ (List.mem_of_getElem? (i := 0) rfl))) e0 dX2_setStep_22 ?_
  refine lv_iload_n hx hb dX2_setStep_25 rfl (lv_at hl 1 rfl) ?_
  refine lv_sipush (v := 512) hx hb dX2_setStep_26 (by decide) ?_
  refine lv_imul hx hb dX2_setStep_29 ?_
  refine k_topi (y := 12288) (by decide) ?_
  refine lv_iload_n hx hb dX2_setStep_30 rfl (lv_at hl 2 rfl) ?_
  refine lv_iadd hx hb dX2_setStep_31 ?_
  refine k_topi (y := 12290) (by decide) ?_
  refine lv_iload_n hx hb dX2_setStep_32 rfl (lv_at hl 3 rfl) ?_
  refine va_iast hx hb hK hP hD hS 1 0 rfl rfl (k_in (by decide)) dX2_setStep_33 (fun H locs hP hD hS => ?_)
  have hP : va_P D vwCl [(h0, .inr (2, f0)), (h1, .inl (cI, 13312, .inl (upd g0 12290 43)))] H := hP
  have hD : va_D A [(h0, .inr (2, f0)), (h1, .inl (cI, 13312, .inl (upd g0 12290 43)))] := hD
  exact W.vret hx hb hr (fun t ht hW => ⟨⟨(), rfl, trivial, kB_mk ht hW hP hK hD⟩, hS.F ht⟩) hS.2.2 dX2_setStep_34
set_option maxHeartbeats 400000000 in
set_option maxRecDepth 100000 in
theorem c_X8_step_2 (l : Launch) (E : kE) (D : va_G) (cI cJ cB cZ : ClassId) (h0 : Nat) (f0 : List Value) (h1 : Nat) (f1 : List Value) (h2 : Nat) (g0 : Nat → Int32) (e0 : f0[1]? = some (.ref h1)) (e1 : f0[11]? = some (.int 24)) (e2 : f0[13]? = some (.int 2)) (e3 : f1[3]? = some (.ref h2)) : kV l E D (kT cI cJ cB cZ) yX8_step vW_X8_step ({ frames := 1, cells := 0, slots := 0, locals := 23 }) [.ref h0, .int 43] [(h0, .inr (8, f0)), (h1, .inr (2, f1)), (h2, .inl (cI, 13312, .inl g0))] (fun _ : Unit => [(h0, .inr (8, (f0.set 13 (.int 3)))), (h1, .inr (2, f1)), (h2, .inl (cI, 13312, .inl (upd g0 12290 43)))]) 0 0 := by
  intro sz
  refine Met.ofW (cc := cX8_step) (maxL := 2) (ret := none) (by decide) rfl ?_
  intro p e s m args below meth c s₁ B hml hv
  obtain ⟨rfl, hsz, hP, hK, hD0, hN, hX⟩ := hv
  have hx := B.exec
  have hb := B.bytes
  have hr := B.returns
  have hts := atoms_spec (ws := vW_X8_step) B.pre
  have hown : s.vm.findClass RX8 = some m.cls := findClass_of_methodNamed B.named
  have hlocks := B.notSynchronized
  have hin8 : ∀ w ∈ wsX80, w ∈ vW_X8_step := u9_X8_step_wsX80
  subst hsz
  have hD := hD0.self (sz := s.heap.size)
  have hAE := k_AE hD0 hX
  generalize hAe : va_A [(h0, .inr (8, f0)), (h1, .inr (2, f1)), (h2, .inl (cI, 13312, .inl g0))] s.heap.size = A at hD hAE ⊢
  have hA : ∀ q : Nat, s.heap.size ≤ q → A q := fun q h => by rw [← hAe]; exact Or.inr h
  have hS : va_S A s.heap s.heap [] := va_S.rf
  have hP : va_P D vwCl [(h0, .inr (8, f0)), (h1, .inr (2, f1)), (h2, .inl (cI, 13312, .inl g0))] s.heap := hP
  have hl := lv_entry ([.ref h0, .int 43] : List Value) (n := 2) (Nat.le_of_ble_eq_true rfl)
  rw [lg_entry_eq]
  generalize (lg_sl ([.ref h0, .int 43]) ++ List.replicate (2 - (lg_sl ([.ref h0, .int 43])).length) Slot.unset).toArray = ls at hl ⊢
  have hl : lv_has ls 2 [(0, .ref h0), (1, .int 43)] := hl
  refine lv_aload_n hx hb dX8_step_0 rfl (lv_at hl 0 rfl) ?_
  refine k_get (D := D) (ci := 8) (v := .ref h1) (N := 15) hx hb hts hin8 hown hK hP 0 rfl rfl (by decide) f9_8_1 (hts (.fieldLink RX8 15 "IntegerHouse$Reader" "house" "LIntegerHouse$House;") (o9_X8_step _ (List.mem_of_getElem? (i := 0) rfl))) e0 dX8_step_1 ?_
  refine lv_aload_n hx hb dX8_step_4 rfl (lv_at hl 0 rfl) ?_
  refine k_get (D := D) (ci := 8) (v := .int 24) (N := 15) hx hb hts hin8 hown hK hP 0 rfl rfl (by decide) f9_8_11 (hts (.fieldLink RX8 164 "IntegerHouse$Reader" "slot" "I") (o9_X8_step _ (List.mem_of_getElem? (i := 1) rfl))) e1 dX8_step_5 ?_
  refine lv_aload_n hx hb dX8_step_8 rfl (lv_at hl 0 rfl) ?_
  refine k_get (D := D) (ci := 8) (v := .int 2) (N := 15) hx hb hts hin8 hown hK hP 0 rfl rfl (by decide) f9_8_13 (hts (.fieldLink RX8 170 "IntegerHouse$Reader" "steps" "I") (o9_X8_step _ (List.mem_of_getElem? (i := 2) rfl))) e2 dX8_step_9 ?_
  refine lv_iload_n hx hb dX8_step_12 rfl (lv_at hl 1 rfl) ?_
  refine k_cVv (As := [.int 24, .int 2, .int 43]) (rest := []) (wc := [(h1, .inr (2, f1)), (h2, .inl (cI, 13312, .inl g0))]) (wr := [(h0, .inr (8, f0))]) (w1 := (fun _ : Unit => [(h1, .inr (2, f1)), (h2, .inl (cI, 13312, .inl (upd g0 12290 43)))])) ⟨hx, hb, hml, hown, hts⟩ hN hX hAE hK hP hD hS hA [1, 2] [0] (ci := 2) rfl rfl rfl rfl (by decide +kernel) (by decide +kernel) (by decide +kernel) (c_X2_setStep_2 l E D cI cJ cB cZ h1 f1 h2 g0 e3) (cwV 3 hts g9_X8_step_X2_setStep_182 rfl rfl rfl (by decide +kernel) ⟨Nat.le_of_ble_eq_true rfl, Nat.le_of_ble_eq_true rfl⟩) rfl hl.1 (Nat.le_of_ble_eq_true rfl) dX8_step_13 ⟨Nat.le_of_ble_eq_true rfl, Nat.le_of_ble_eq_true rfl⟩ (fun _ H locs hP hD hS => ?_)
  have hP : va_P D vwCl [(h0, .inr (8, f0)), (h1, .inr (2, f1)), (h2, .inl (cI, 13312, .inl (upd g0 12290 43)))] H := hP
  have hD : va_D A [(h0, .inr (8, f0)), (h1, .inr (2, f1)), (h2, .inl (cI, 13312, .inl (upd g0 12290 43)))] := hD
  refine lv_aload_n hx hb dX8_step_16 rfl (lv_at hl 0 rfl) ?_
  refine lv_dup hx hb dX8_step_17 rfl ?_
  refine k_get (D := D) (ci := 8) (v := .int 2) (N := 15) hx hb hts hin8 hown hK hP 0 rfl rfl (by decide) f9_8_13 (hts (.fieldLink RX8 170 "IntegerHouse$Reader" "steps" "I") (o9_X8_step _ (List.mem_of_getElem? (i := 2) rfl))) e2 dX8_step_18 ?_
  refine lv_iconst (v := 1) hx hb dX8_step_21 (by decide) ?_
  refine lv_iadd hx hb dX8_step_22 ?_
  refine k_topi (y := 3) (by decide) ?_
  refine k_put (D := D) (ci := 8) (v := .int 3) (ty := .int) (N := 15) hx hb hts hin8 tyX8 tyX8_ok nmX8 hown hK hP hD hS 0 rfl rfl (by decide) f9_8_13 (hts (.fieldLink RX8 170 "IntegerHouse$Reader" "steps" "I") (o9_X8_step _ (List.mem_of_getElem? (i := 2) rfl))) rfl pd_2 rfl rfl (k_len e2) dX8_step_23 (fun H locs hP hD hS => ?_)
  have hP : va_P D vwCl [(h0, .inr (8, (f0.set 13 (.int 3)))), (h1, .inr (2, f1)), (h2, .inl (cI, 13312, .inl (upd g0 12290 43)))] H := hP
  have hD : va_D A [(h0, .inr (8, (f0.set 13 (.int 3)))), (h1, .inr (2, f1)), (h2, .inl (cI, 13312, .inl (upd g0 12290 43)))] := hD
  exact W.vret hx hb hr (fun t ht hW => ⟨⟨(), rfl, trivial, kB_mk ht hW hP hK hD⟩, hS.F ht⟩) hS.2.2 dX8_step_26
set_option maxHeartbeats 400000000 in
set_option maxRecDepth 100000 in
theorem c_X8_part_1 (l : Launch) (E : kE) (D : va_G) (cI cJ cB cZ : ClassId) (h0 : Nat) (f0 : List Value) (h1 : Nat) (f1 : List Value) (h2 : Nat) (f2 : List Value) (h3 : Nat) (g0 : Nat → Int32) (e0 : f0[0]? = some (.ref h1)) (e1 : f0[6]? = some (.int 0)) (e2 : f1[5]? = some (.int 0)) (e3 : f0[7]? = some (.int 44)) (e4 : f0[1]? = some (.ref h2)) (e5 : f2[10]? = some (.int 0)) (e6 : f0[3]? = some (.int 2)) (e7 : f0[11]? = some (.int 24)) (e8 : f0[13]? = some (.int 2)) (e9 : f2[3]? = some (.ref h3)) : kV l E D (kT cI cJ cB cZ) yX8_part vW_X8_part ({ frames := 2, cells := 0, slots := 0, locals := 45 }) [.ref h0, .int 0] [(h0, .inr (8, f0)), (h1, .inr (3, f1)), (h2, .inr (2, f2)), (h3, .inl (cI, 13312, .inl g0))] (fun _ : Unit => [(h0, .inr (8, ((f0.set 7 (.int 44)).set 13 (.int 3)))), (h1, .inr (3, f1)), (h2, .inr (2, f2)), (h3, .inl (cI, 13312, .inl (upd g0 12290 43)))]) 0 0 := by
  intro sz
  refine Met.ofW (cc := cX8_part) (maxL := 5) (ret := none) (by decide) rfl ?_
  intro p e s m args below meth c s₁ B hml hv
  obtain ⟨rfl, hsz, hP, hK, hD0, hN, hX⟩ := hv
  have hx := B.exec
  have hb := B.bytes
  have hr := B.returns
  have hts := atoms_spec (ws := vW_X8_part) B.pre
  have hown : s.vm.findClass RX8 = some m.cls := findClass_of_methodNamed B.named
  have hlocks := B.notSynchronized
  have hin8 : ∀ w ∈ wsX80, w ∈ vW_X8_part := u9_X8_part_wsX80
  subst hsz
  have hD := hD0.self (sz := s.heap.size)
  have hAE := k_AE hD0 hX
  generalize hAe : va_A [(h0, .inr (8, f0)), (h1, .inr (3, f1)), (h2, .inr (2, f2)), (h3, .inl (cI, 13312, .inl g0))] s.heap.size = A at hD hAE ⊢
  have hA : ∀ q : Nat, s.heap.size ≤ q → A q := fun q h => by rw [← hAe]; exact Or.inr h
  have hS : va_S A s.heap s.heap [] := va_S.rf
  have hP : va_P D vwCl [(h0, .inr (8, f0)), (h1, .inr (3, f1)), (h2, .inr (2, f2)), (h3, .inl (cI, 13312, .inl g0))] s.heap := hP
  have hl := lv_entry ([.ref h0, .int 0] : List Value) (n := 5) (Nat.le_of_ble_eq_true rfl)
  rw [lg_entry_eq]
  generalize (lg_sl ([.ref h0, .int 0]) ++ List.replicate (5 - (lg_sl ([.ref h0, .int 0])).length) Slot.unset).toArray = ls at hl ⊢
  have hl : lv_has ls 5 [(0, .ref h0), (1, .int 0)] := hl
  refine lv_aload_n hx hb dX8_part_0 rfl (lv_at hl 0 rfl) ?_
  refine k_get (D := D) (ci := 8) (v := .ref h1) (N := 15) hx hb hts hin8 hown hK hP 0 rfl rfl (by decide) f9_8_0 (hts (.fieldLink RX8 9 "IntegerHouse$Reader" "lexer" "LIntegerHouse$Lexer;") (o9_X8_part _ (List.mem_of_getElem? (i := 0) rfl))) e0 dX8_part_1 ?_
  refine lv_aload_n hx hb dX8_part_4 rfl (lv_at hl 0 rfl) ?_
  refine k_get (D := D) (ci := 8) (v := .int 0) (N := 15) hx hb hts hin8 hown hK hP 0 rfl rfl (by decide) f9_8_6 (hts (.fieldLink RX8 79 "IntegerHouse$Reader" "at" "I") (o9_X8_part _ (List.mem_of_getElem? (i := 1) rfl))) e1 dX8_part_5 ?_
  refine k_cVi (As := [.int 0]) (rest := []) (wc := [(h1, .inr (3, f1))]) (wr := [(h0, .inr (8, f0)), (h2, .inr (2, f2)), (h3, .inl (cI, 13312, .inl g0))]) (w1 := [(h1, .inr (3, f1))]) ⟨hx, hb, hml, hown, hts⟩ hN hX hAE hK hP hD hS hA [1] [0, 2, 3] (ci := 3) rfl rfl rfl rfl (by decide +kernel) (by decide +kernel) (by decide +kernel) (c_X3_numberAt_0 l E D cI cJ cB cZ h1 f1 e2) (cwV 1 hts g9_X8_part_X3_numberAt_206 rfl rfl rfl (by decide +kernel) ⟨Nat.le_of_ble_eq_true rfl, Nat.le_of_ble_eq_true rfl⟩) rfl hl.1 (Nat.le_of_ble_eq_true rfl) dX8_part_8 ⟨Nat.le_of_ble_eq_true rfl, Nat.le_of_ble_eq_true rfl⟩ (fun H locs hP hD hS => ?_)
  have hP : va_P D vwCl [(h0, .inr (8, f0)), (h2, .inr (2, f2)), (h3, .inl (cI, 13312, .inl g0)), (h1, .inr (3, f1))] H := hP
  have hD : va_D A [(h0, .inr (8, f0)), (h2, .inr (2, f2)), (h3, .inl (cI, 13312, .inl g0)), (h1, .inr (3, f1))] := hD
  refine lv_istore_n (lv' := [(2, .int 0), (0, .ref h0), (1, .int 0)]) hx hb dX8_part_11 rfl hl (by decide) rfl (fun ls hl => ?_)
  refine lv_aload_n hx hb dX8_part_12 rfl (lv_at hl 1 rfl) ?_
  refine k_get (D := D) (ci := 8) (v := .int 44) (N := 15) hx hb hts hin8 hown hK hP 0 rfl rfl (by decide) f9_8_7 (hts (.fieldLink RX8 39 "IntegerHouse$Reader" "kind" "I") (o9_X8_part _ (List.mem_of_getElem? (i := 6) rfl))) e3 dX8_part_13 ?_
  refine lv_iconst (v := 2) hx hb dX8_part_16 (by decide) ?_
  refine lv_icmp_ne (tgt := 24) hx hb dX8_part_17 (by decide) (fun _ => ?_) (fun c9 => absurd c9 (by decide))
  refine lv_iconst (v := 0) hx hb dX8_part_24 (by decide) ?_
  refine lv_istore_n (lv' := [(3, .int 0), (2, .int 0), (0, .ref h0), (1, .int 0)]) hx hb dX8_part_25 rfl hl (by decide) rfl (fun ls hl => ?_)
  refine lv_iload_n hx hb dX8_part_26 rfl (lv_at hl 0 rfl) ?_
  refine lv_if_eq (tgt := 51) hx hb dX8_part_27 (by decide) (fun _ => ?_) (fun c9 => absurd (by decide) c9)
  refine lv_iload_n hx hb dX8_part_51 rfl (lv_at hl 0 rfl) ?_
  refine lv_if_eq (tgt := 68) hx hb dX8_part_52 (by decide) (fun _ => ?_) (fun c9 => absurd (by decide) c9)
  refine lv_iconst (v := 0) hx hb dX8_part_68 (by decide) ?_
  refine lv_istore (lv' := [(4, .int 0), (3, .int 0), (2, .int 0), (0, .ref h0), (1, .int 0)]) hx hb dX8_part_69 hl (by decide) rfl (fun ls hl => ?_)
  refine lv_iload hx hb dX8_part_71 (lv_at hl 0 rfl) ?_
  refine lv_if_eq (tgt := 84) hx hb dX8_part_73 (by decide) (fun _ => ?_) (fun c9 => absurd (by decide) c9)
  refine lv_iload hx hb dX8_part_84 (lv_at hl 0 rfl) ?_
  refine lv_if_ne (tgt := 93) hx hb dX8_part_86 (by decide) (fun c9 => absurd (by decide) c9) (fun _ => ?_)
  refine lv_iload_n hx hb dX8_part_89 rfl (lv_at hl 1 rfl) ?_
  refine lv_if_ne (tgt := 97) hx hb dX8_part_90 (by decide) (fun c9 => absurd (by decide) c9) (fun _ => ?_)
  refine lv_aload_n hx hb dX8_part_93 rfl (lv_at hl 3 rfl) ?_
  refine k_cVv (As := []) (rest := []) (wc := [(h0, .inr (8, f0)), (h1, .inr (3, f1)), (h2, .inr (2, f2))]) (wr := [(h3, .inl (cI, 13312, .inl g0))]) (w1 := (fun _ : Unit => [(h0, .inr (8, (f0.set 7 (.int 44)))), (h1, .inr (3, f1)), (h2, .inr (2, f2))])) ⟨hx, hb, hml, hown, hts⟩ hN hX hAE hK hP hD hS hA [0, 3, 1] [2] (ci := 8) rfl rfl rfl rfl (by decide +kernel) (by decide +kernel) (by decide +kernel) (c_X8_factor_1 l E D cI cJ cB cZ h0 f0 h2 h1 f1 f2 e3 e4 e0 e1 e2 e5 e6) (cwV 0 hts g9_X8_part_X8_factor_223 rfl rfl rfl (by decide +kernel) ⟨Nat.le_of_ble_eq_true rfl, Nat.le_of_ble_eq_true rfl⟩) rfl hl.1 (Nat.le_of_ble_eq_true rfl) dX8_part_94 ⟨Nat.le_of_ble_eq_true rfl, Nat.le_of_ble_eq_true rfl⟩ (fun _ H locs hP hD hS => ?_)
  have hP : va_P D vwCl [(h3, .inl (cI, 13312, .inl g0)), (h0, .inr (8, (f0.set 7 (.int 44)))), (h1, .inr (3, f1)), (h2, .inr (2, f2))] H := hP
  have hD : va_D A [(h3, .inl (cI, 13312, .inl g0)), (h0, .inr (8, (f0.set 7 (.int 44)))), (h1, .inr (3, f1)), (h2, .inr (2, f2))] := hD
  refine lv_iload_n hx hb dX8_part_97 rfl (lv_at hl 1 rfl) ?_
  refine lv_if_eq (tgt := 121) hx hb dX8_part_98 (by decide) (fun _ => ?_) (fun c9 => absurd (by decide) c9)
  refine lv_iload_n hx hb dX8_part_121 rfl (lv_at hl 4 rfl) ?_
  refine lv_if_eq (tgt := 131) hx hb dX8_part_122 (by decide) (fun _ => ?_) (fun c9 => absurd (by decide) c9)
  refine lv_aload_n hx hb dX8_part_131 rfl (lv_at hl 3 rfl) ?_
  refine lv_bipush (v := 43) hx hb dX8_part_132 (by decide) ?_
  refine k_cVv (As := [.int 43]) (rest := []) (wc := [(h0, .inr (8, (f0.set 7 (.int 44)))), (h2, .inr (2, f2)), (h3, .inl (cI, 13312, .inl g0))]) (wr := [(h1, .inr (3, f1))]) (w1 := (fun _ : Unit => [(h0, .inr (8, ((f0.set 7 (.int 44)).set 13 (.int 3)))), (h2, .inr (2, f2)), (h3, .inl (cI, 13312, .inl (upd g0 12290 43)))])) ⟨hx, hb, hml, hown, hts⟩ hN hX hAE hK hP hD hS hA [1, 3, 0] [2] (ci := 8) rfl rfl rfl rfl (by decide +kernel) (by decide +kernel) (by decide +kernel) (c_X8_step_2 l E D cI cJ cB cZ h0 ((f0.set 7 (.int 44))) h2 f2 h3 g0 (k_ne (by decide) e4) (k_ne (by decide) e7) (k_ne (by decide) e8) e9) (cwV 1 hts g9_X8_part_X8_step_194 rfl rfl rfl (by decide +kernel) ⟨Nat.le_of_ble_eq_true rfl, Nat.le_of_ble_eq_true rfl⟩) rfl hl.1 (Nat.le_of_ble_eq_true rfl) dX8_part_134 ⟨Nat.le_of_ble_eq_true rfl, Nat.le_of_ble_eq_true rfl⟩ (fun _ H locs hP hD hS => ?_)
  have hP : va_P D vwCl [(h1, .inr (3, f1)), (h0, .inr (8, ((f0.set 7 (.int 44)).set 13 (.int 3)))), (h2, .inr (2, f2)), (h3, .inl (cI, 13312, .inl (upd g0 12290 43)))] H := hP
  have hD : va_D A [(h1, .inr (3, f1)), (h0, .inr (8, ((f0.set 7 (.int 44)).set 13 (.int 3)))), (h2, .inr (2, f2)), (h3, .inl (cI, 13312, .inl (upd g0 12290 43)))] := hD
  have hP := hP.sub (ws' := [(h0, .inr (8, ((f0.set 7 (.int 44)).set 13 (.int 3)))), (h1, .inr (3, f1)), (h2, .inr (2, f2)), (h3, .inl (cI, 13312, .inl (upd g0 12290 43)))]) [1, 0, 2, 3] rfl
  have hD := hD.sub (ws' := [(h0, .inr (8, ((f0.set 7 (.int 44)).set 13 (.int 3)))), (h1, .inr (3, f1)), (h2, .inr (2, f2)), (h3, .inl (cI, 13312, .inl (upd g0 12290 43)))]) [1, 0, 2, 3] (by decide +kernel) rfl
  exact W.vret hx hb hr (fun t ht hW => ⟨⟨(), rfl, trivial, kB_mk ht hW hP hK hD⟩, hS.F ht⟩) hS.2.2 dX8_part_137
set_option maxHeartbeats 400000000 in
set_option maxRecDepth 100000 in
theorem c_X2_setStep_3 (l : Launch) (E : kE) (D : va_G) (cI cJ cB cZ : ClassId) (h0 : Nat) (f0 : List Value) (h1 : Nat) (g0 : Nat → Int32) (e0 : f0[3]? = some (.ref h1)) : kV l E D (kT cI cJ cB cZ) yX2_setStep vW_X2_setStep ({ frames := 0, cells := 0, slots := 0, locals := 0 }) [.ref h0, .int 24, .int 3, .int 43] [(h0, .inr (2, f0)), (h1, .inl (cI, 13312, .inl g0))] (fun _ : Unit => [(h0, .inr (2, f0)), (h1, .inl (cI, 13312, .inl (upd g0 12291 43)))]) 0 0 := by
  intro sz
  refine Met.ofW (cc := cX2_setStep) (maxL := 4) (ret := none) (by decide) rfl ?_
  intro p e s m args below meth c s₁ B hml hv
  obtain ⟨rfl, hsz, hP, hK, hD0, hN, hX⟩ := hv
  have hx := B.exec
  have hb := B.bytes
  have hr := B.returns
  have hts := atoms_spec (ws := vW_X2_setStep) B.pre
  have hown : s.vm.findClass RX2 = some m.cls := findClass_of_methodNamed B.named
  have hlocks := B.notSynchronized
  have hin2 : ∀ w ∈ wsX20, w ∈ vW_X2_setStep := u9_X2_setStep_wsX20
  subst hsz
  have hD := hD0.self (sz := s.heap.size)
  have hAE := k_AE hD0 hX
  generalize hAe : va_A [(h0, .inr (2, f0)), (h1, .inl (cI, 13312, .inl g0))] s.heap.size = A at hD hAE ⊢
  have hA : ∀ q : Nat, s.heap.size ≤ q → A q := fun q h => by rw [← hAe]; exact Or.inr h
  have hS : va_S A s.heap s.heap [] := va_S.rf
  have hP : va_P D vwCl [(h0, .inr (2, f0)), (h1, .inl (cI, 13312, .inl g0))] s.heap := hP
  have hl := lv_entry ([.ref h0, .int 24, .int 3, .int 43] : List Value) (n := 4) (Nat.le_of_ble_eq_true rfl)
  rw [lg_entry_eq]
  generalize (lg_sl ([.ref h0, .int 24, .int 3, .int 43]) ++ List.replicate (4 - (lg_sl ([.ref h0, .int 24, .int 3, .int 43])).length) Slot.unset).toArray = ls at hl ⊢
  have hl : lv_has ls 4 [(0, .ref h0), (1, .int 24), (2, .int 3), (3, .int 43)] := hl
  refine lv_iload_n hx hb dX2_setStep_0 rfl (lv_at hl 1 rfl) ?_
  refine lv_if_lt (tgt := 34) hx hb dX2_setStep_1 (by decide) (fun c9 => absurd c9 (by decide)) (fun _ => ?_)
  refine lv_iload_n hx hb dX2_setStep_4 rfl (lv_at hl 1 rfl) ?_
  refine lv_bipush (v := 26) hx hb dX2_setStep_5 (by decide) ?_
  refine lv_icmp_ge (tgt := 34) hx hb dX2_setStep_7 (by decide) (fun c9 => absurd c9 (by decide)) (fun _ => ?_)
  refine lv_iload_n hx hb dX2_setStep_10 rfl (lv_at hl 2 rfl) ?_
  refine lv_if_lt (tgt := 34) hx hb dX2_setStep_11 (by decide) (fun c9 => absurd c9 (by decide)) (fun _ => ?_)
  refine lv_iload_n hx hb dX2_setStep_14 rfl (lv_at hl 2 rfl) ?_
  refine lv_sipush (v := 512) hx hb dX2_setStep_15 (by decide) ?_
  refine lv_icmp_ge (tgt := 34) hx hb dX2_setStep_18 (by decide) (fun c9 => absurd c9 (by decide)) (fun _ => ?_)
  refine lv_aload_n hx hb dX2_setStep_21 rfl (lv_at hl 0 rfl) ?_
  refine k_get (D := D) (ci := 2) (v := .ref h1) (N := 16) hx hb hts hin2 hown hK hP 0 rfl rfl (by decide) f9_2_3 (hts (.fieldLink RX2 22 "IntegerHouse$House" "steps" "[I") (o9_X2_setStep _ (List.mem_of_getElem? (i := 0) rfl))) e0 dX2_setStep_22 ?_
  refine lv_iload_n hx hb dX2_setStep_25 rfl (lv_at hl 1 rfl) ?_
  refine lv_sipush (v := 512) hx hb dX2_setStep_26 (by decide) ?_
  refine lv_imul hx hb dX2_setStep_29 ?_
  refine k_topi (y := 12288) (by decide) ?_
  refine lv_iload_n hx hb dX2_setStep_30 rfl (lv_at hl 2 rfl) ?_
  refine lv_iadd hx hb dX2_setStep_31 ?_
  refine k_topi (y := 12291) (by decide) ?_
  refine lv_iload_n hx hb dX2_setStep_32 rfl (lv_at hl 3 rfl) ?_
  refine va_iast hx hb hK hP hD hS 1 0 rfl rfl (k_in (by decide)) dX2_setStep_33 (fun H locs hP hD hS => ?_)
  have hP : va_P D vwCl [(h0, .inr (2, f0)), (h1, .inl (cI, 13312, .inl (upd g0 12291 43)))] H := hP
  have hD : va_D A [(h0, .inr (2, f0)), (h1, .inl (cI, 13312, .inl (upd g0 12291 43)))] := hD
  exact W.vret hx hb hr (fun t ht hW => ⟨⟨(), rfl, trivial, kB_mk ht hW hP hK hD⟩, hS.F ht⟩) hS.2.2 dX2_setStep_34
set_option maxHeartbeats 400000000 in
set_option maxRecDepth 100000 in
theorem c_X8_step_3 (l : Launch) (E : kE) (D : va_G) (cI cJ cB cZ : ClassId) (h0 : Nat) (f0 : List Value) (h1 : Nat) (f1 : List Value) (h2 : Nat) (g0 : Nat → Int32) (e0 : f0[1]? = some (.ref h1)) (e1 : f0[11]? = some (.int 24)) (e2 : f0[13]? = some (.int 3)) (e3 : f1[3]? = some (.ref h2)) : kV l E D (kT cI cJ cB cZ) yX8_step vW_X8_step ({ frames := 1, cells := 0, slots := 0, locals := 23 }) [.ref h0, .int 43] [(h0, .inr (8, f0)), (h1, .inr (2, f1)), (h2, .inl (cI, 13312, .inl g0))] (fun _ : Unit => [(h0, .inr (8, (f0.set 13 (.int 4)))), (h1, .inr (2, f1)), (h2, .inl (cI, 13312, .inl (upd g0 12291 43)))]) 0 0 := by
  intro sz
  refine Met.ofW (cc := cX8_step) (maxL := 2) (ret := none) (by decide) rfl ?_
  intro p e s m args below meth c s₁ B hml hv
  obtain ⟨rfl, hsz, hP, hK, hD0, hN, hX⟩ := hv
  have hx := B.exec
  have hb := B.bytes
  have hr := B.returns
  have hts := atoms_spec (ws := vW_X8_step) B.pre
  have hown : s.vm.findClass RX8 = some m.cls := findClass_of_methodNamed B.named
  have hlocks := B.notSynchronized
  have hin8 : ∀ w ∈ wsX80, w ∈ vW_X8_step := u9_X8_step_wsX80
  subst hsz
  have hD := hD0.self (sz := s.heap.size)
  have hAE := k_AE hD0 hX
  generalize hAe : va_A [(h0, .inr (8, f0)), (h1, .inr (2, f1)), (h2, .inl (cI, 13312, .inl g0))] s.heap.size = A at hD hAE ⊢
  have hA : ∀ q : Nat, s.heap.size ≤ q → A q := fun q h => by rw [← hAe]; exact Or.inr h
  have hS : va_S A s.heap s.heap [] := va_S.rf
  have hP : va_P D vwCl [(h0, .inr (8, f0)), (h1, .inr (2, f1)), (h2, .inl (cI, 13312, .inl g0))] s.heap := hP
  have hl := lv_entry ([.ref h0, .int 43] : List Value) (n := 2) (Nat.le_of_ble_eq_true rfl)
  rw [lg_entry_eq]
  generalize (lg_sl ([.ref h0, .int 43]) ++ List.replicate (2 - (lg_sl ([.ref h0, .int 43])).length) Slot.unset).toArray = ls at hl ⊢
  have hl : lv_has ls 2 [(0, .ref h0), (1, .int 43)] := hl
  refine lv_aload_n hx hb dX8_step_0 rfl (lv_at hl 0 rfl) ?_
  refine k_get (D := D) (ci := 8) (v := .ref h1) (N := 15) hx hb hts hin8 hown hK hP 0 rfl rfl (by decide) f9_8_1 (hts (.fieldLink RX8 15 "IntegerHouse$Reader" "house" "LIntegerHouse$House;") (o9_X8_step _ (List.mem_of_getElem? (i := 0) rfl))) e0 dX8_step_1 ?_
  refine lv_aload_n hx hb dX8_step_4 rfl (lv_at hl 0 rfl) ?_
  refine k_get (D := D) (ci := 8) (v := .int 24) (N := 15) hx hb hts hin8 hown hK hP 0 rfl rfl (by decide) f9_8_11 (hts (.fieldLink RX8 164 "IntegerHouse$Reader" "slot" "I") (o9_X8_step _ (List.mem_of_getElem? (i := 1) rfl))) e1 dX8_step_5 ?_
  refine lv_aload_n hx hb dX8_step_8 rfl (lv_at hl 0 rfl) ?_
  refine k_get (D := D) (ci := 8) (v := .int 3) (N := 15) hx hb hts hin8 hown hK hP 0 rfl rfl (by decide) f9_8_13 (hts (.fieldLink RX8 170 "IntegerHouse$Reader" "steps" "I") (o9_X8_step _ (List.mem_of_getElem? (i := 2) rfl))) e2 dX8_step_9 ?_
  refine lv_iload_n hx hb dX8_step_12 rfl (lv_at hl 1 rfl) ?_
  refine k_cVv (As := [.int 24, .int 3, .int 43]) (rest := []) (wc := [(h1, .inr (2, f1)), (h2, .inl (cI, 13312, .inl g0))]) (wr := [(h0, .inr (8, f0))]) (w1 := (fun _ : Unit => [(h1, .inr (2, f1)), (h2, .inl (cI, 13312, .inl (upd g0 12291 43)))])) ⟨hx, hb, hml, hown, hts⟩ hN hX hAE hK hP hD hS hA [1, 2] [0] (ci := 2) rfl rfl rfl rfl (by decide +kernel) (by decide +kernel) (by decide +kernel) (c_X2_setStep_3 l E D cI cJ cB cZ h1 f1 h2 g0 e3) (cwV 3 hts g9_X8_step_X2_setStep_182 rfl rfl rfl (by decide +kernel) ⟨Nat.le_of_ble_eq_true rfl, Nat.le_of_ble_eq_true rfl⟩) rfl hl.1 (Nat.le_of_ble_eq_true rfl) dX8_step_13 ⟨Nat.le_of_ble_eq_true rfl, Nat.le_of_ble_eq_true rfl⟩ (fun _ H locs hP hD hS => ?_)
  have hP : va_P D vwCl [(h0, .inr (8, f0)), (h1, .inr (2, f1)), (h2, .inl (cI, 13312, .inl (upd g0 12291 43)))] H := hP
  have hD : va_D A [(h0, .inr (8, f0)), (h1, .inr (2, f1)), (h2, .inl (cI, 13312, .inl (upd g0 12291 43)))] := hD
  refine lv_aload_n hx hb dX8_step_16 rfl (lv_at hl 0 rfl) ?_
  refine lv_dup hx hb dX8_step_17 rfl ?_
  refine k_get (D := D) (ci := 8) (v := .int 3) (N := 15) hx hb hts hin8 hown hK hP 0 rfl rfl (by decide) f9_8_13 (hts (.fieldLink RX8 170 "IntegerHouse$Reader" "steps" "I") (o9_X8_step _ (List.mem_of_getElem? (i := 2) rfl))) e2 dX8_step_18 ?_
  refine lv_iconst (v := 1) hx hb dX8_step_21 (by decide) ?_
  refine lv_iadd hx hb dX8_step_22 ?_
  refine k_topi (y := 4) (by decide) ?_
  refine k_put (D := D) (ci := 8) (v := .int 4) (ty := .int) (N := 15) hx hb hts hin8 tyX8 tyX8_ok nmX8 hown hK hP hD hS 0 rfl rfl (by decide) f9_8_13 (hts (.fieldLink RX8 170 "IntegerHouse$Reader" "steps" "I") (o9_X8_step _ (List.mem_of_getElem? (i := 2) rfl))) rfl pd_2 rfl rfl (k_len e2) dX8_step_23 (fun H locs hP hD hS => ?_)
  have hP : va_P D vwCl [(h0, .inr (8, (f0.set 13 (.int 4)))), (h1, .inr (2, f1)), (h2, .inl (cI, 13312, .inl (upd g0 12291 43)))] H := hP
  have hD : va_D A [(h0, .inr (8, (f0.set 13 (.int 4)))), (h1, .inr (2, f1)), (h2, .inl (cI, 13312, .inl (upd g0 12291 43)))] := hD
  exact W.vret hx hb hr (fun t ht hW => ⟨⟨(), rfl, trivial, kB_mk ht hW hP hK hD⟩, hS.F ht⟩) hS.2.2 dX8_step_26
set_option maxHeartbeats 400000000 in
set_option maxRecDepth 100000 in
theorem c_X8_term_1 (l : Launch) (E : kE) (D : va_G) (cI cJ cB cZ : ClassId) (h0 : Nat) (f0 : List Value) (h1 : Nat) (f1 : List Value) (h2 : Nat) (f2 : List Value) (h3 : Nat) (g0 : Nat → Int32) (e0 : f0[7]? = some (.int 44)) (e1 : f0[0]? = some (.ref h1)) (e2 : f0[6]? = some (.int 0)) (e3 : f1[5]? = some (.int 0)) (e4 : f0[1]? = some (.ref h2)) (e5 : f2[10]? = some (.int 0)) (e6 : f0[3]? = some (.int 2)) (e7 : f0[11]? = some (.int 24)) (e8 : f0[13]? = some (.int 2)) (e9 : f2[3]? = some (.ref h3)) : kV l E D (kT cI cJ cB cZ) yX8_term vW_X8_term ({ frames := 3, cells := 0, slots := 0, locals := 69 }) [.ref h0] [(h0, .inr (8, f0)), (h1, .inr (3, f1)), (h2, .inr (2, f2)), (h3, .inl (cI, 13312, .inl g0))] (fun _ : Unit => [(h0, .inr (8, (((f0.set 7 (.int 44)).set 13 (.int 3)).set 13 (.int 4)))), (h1, .inr (3, f1)), (h2, .inr (2, f2)), (h3, .inl (cI, 13312, .inl (upd (upd g0 12290 43) 12291 43)))]) 0 0 := by
  intro sz
  refine Met.ofW (cc := cX8_term) (maxL := 3) (ret := none) (by decide) rfl ?_
  intro p e s m args below meth c s₁ B hml hv
  obtain ⟨rfl, hsz, hP, hK, hD0, hN, hX⟩ := hv
  have hx := B.exec
  have hb := B.bytes
  have hr := B.returns
  have hts := atoms_spec (ws := vW_X8_term) B.pre
  have hown : s.vm.findClass RX8 = some m.cls := findClass_of_methodNamed B.named
  have hlocks := B.notSynchronized
  have hin8 : ∀ w ∈ wsX80, w ∈ vW_X8_term := u9_X8_term_wsX80
  subst hsz
  have hD := hD0.self (sz := s.heap.size)
  have hAE := k_AE hD0 hX
  generalize hAe : va_A [(h0, .inr (8, f0)), (h1, .inr (3, f1)), (h2, .inr (2, f2)), (h3, .inl (cI, 13312, .inl g0))] s.heap.size = A at hD hAE ⊢
  have hA : ∀ q : Nat, s.heap.size ≤ q → A q := fun q h => by rw [← hAe]; exact Or.inr h
  have hS : va_S A s.heap s.heap [] := va_S.rf
  have hP : va_P D vwCl [(h0, .inr (8, f0)), (h1, .inr (3, f1)), (h2, .inr (2, f2)), (h3, .inl (cI, 13312, .inl g0))] s.heap := hP
  have hl := lv_entry ([.ref h0] : List Value) (n := 3) (Nat.le_of_ble_eq_true rfl)
  rw [lg_entry_eq]
  generalize (lg_sl ([.ref h0]) ++ List.replicate (3 - (lg_sl ([.ref h0])).length) Slot.unset).toArray = ls at hl ⊢
  have hl : lv_has ls 3 [(0, .ref h0)] := hl
  refine lv_aload_n hx hb dX8_term_0 rfl (lv_at hl 0 rfl) ?_
  refine k_get (D := D) (ci := 8) (v := .int 44) (N := 15) hx hb hts hin8 hown hK hP 0 rfl rfl (by decide) f9_8_7 (hts (.fieldLink RX8 39 "IntegerHouse$Reader" "kind" "I") (o9_X8_term _ (List.mem_of_getElem? (i := 0) rfl))) e0 dX8_term_1 ?_
  refine lv_bipush (v := 12) hx hb dX8_term_4 (by decide) ?_
  refine lv_icmp_ne (tgt := 13) hx hb dX8_term_6 (by decide) (fun _ => ?_) (fun c9 => absurd c9 (by decide))
  refine lv_iconst (v := 0) hx hb dX8_term_13 (by decide) ?_
  refine lv_istore_n (lv' := [(1, .int 0), (0, .ref h0)]) hx hb dX8_term_14 rfl hl (by decide) rfl (fun ls hl => ?_)
  refine lv_iload_n hx hb dX8_term_15 rfl (lv_at hl 0 rfl) ?_
  refine lv_if_eq (tgt := 27) hx hb dX8_term_16 (by decide) (fun _ => ?_) (fun c9 => absurd (by decide) c9)
  refine lv_aload_n hx hb dX8_term_27 rfl (lv_at hl 1 rfl) ?_
  refine lv_iload_n hx hb dX8_term_28 rfl (lv_at hl 0 rfl) ?_
  refine k_cVv (As := [.int 0]) (rest := []) (wc := [(h0, .inr (8, f0)), (h1, .inr (3, f1)), (h2, .inr (2, f2)), (h3, .inl (cI, 13312, .inl g0))]) (wr := []) (w1 := (fun _ : Unit => [(h0, .inr (8, ((f0.set 7 (.int 44)).set 13 (.int 3)))), (h1, .inr (3, f1)), (h2, .inr (2, f2)), (h3, .inl (cI, 13312, .inl (upd g0 12290 43)))])) ⟨hx, hb, hml, hown, hts⟩ hN hX hAE hK hP hD hS hA [0, 1, 2, 3] [] (ci := 8) rfl rfl rfl rfl (by decide +kernel) (by decide +kernel) (by decide +kernel) (c_X8_part_1 l E D cI cJ cB cZ h0 f0 h1 f1 h2 f2 h3 g0 e1 e2 e3 e0 e4 e5 e6 e7 e8 e9) (cwV 1 hts g9_X8_term_X8_part_219 rfl rfl rfl (by decide +kernel) ⟨Nat.le_of_ble_eq_true rfl, Nat.le_of_ble_eq_true rfl⟩) rfl hl.1 (Nat.le_of_ble_eq_true rfl) dX8_term_29 ⟨Nat.le_of_ble_eq_true rfl, Nat.le_of_ble_eq_true rfl⟩ (fun _ H locs hP hD hS => ?_)
  have hP : va_P D vwCl [(h0, .inr (8, ((f0.set 7 (.int 44)).set 13 (.int 3)))), (h1, .inr (3, f1)), (h2, .inr (2, f2)), (h3, .inl (cI, 13312, .inl (upd g0 12290 43)))] H := hP
  have hD : va_D A [(h0, .inr (8, ((f0.set 7 (.int 44)).set 13 (.int 3)))), (h1, .inr (3, f1)), (h2, .inr (2, f2)), (h3, .inl (cI, 13312, .inl (upd g0 12290 43)))] := hD
  refine lv_iconst (v := 0) hx hb dX8_term_32 (by decide) ?_
  refine lv_istore_n (lv' := [(2, .int 0), (1, .int 0), (0, .ref h0)]) hx hb dX8_term_33 rfl hl (by decide) rfl (fun ls hl => ?_)
  refine lv_iload_n hx hb dX8_term_34 rfl (lv_at hl 0 rfl) ?_
  refine lv_bipush (v := 120) hx hb dX8_term_35 (by decide) ?_
  refine lv_icmp_ge (tgt := 102) hx hb dX8_term_37 (by decide) (fun c9 => absurd c9 (by decide)) (fun _ => ?_)
  refine lv_aload_n hx hb dX8_term_40 rfl (lv_at hl 2 rfl) ?_
  refine k_get (D := D) (ci := 8) (v := .int 44) (N := 15) hx hb hts hin8 hown hK hP 0 rfl rfl (by decide) f9_8_7 (hts (.fieldLink RX8 39 "IntegerHouse$Reader" "kind" "I") (o9_X8_term _ (List.mem_of_getElem? (i := 0) rfl))) (k_ne (by decide) (k_set e0)) dX8_term_41 ?_
  refine lv_bipush (v := 11) hx hb dX8_term_44 (by decide) ?_
  refine lv_icmp_eq (tgt := 58) hx hb dX8_term_46 (by decide) (fun c9 => absurd c9 (by decide)) (fun _ => ?_)
  refine lv_aload_n hx hb dX8_term_49 rfl (lv_at hl 2 rfl) ?_
  refine k_get (D := D) (ci := 8) (v := .int 44) (N := 15) hx hb hts hin8 hown hK hP 0 rfl rfl (by decide) f9_8_7 (hts (.fieldLink RX8 39 "IntegerHouse$Reader" "kind" "I") (o9_X8_term _ (List.mem_of_getElem? (i := 0) rfl))) (k_ne (by decide) (k_set e0)) dX8_term_50 ?_
  refine lv_bipush (v := 12) hx hb dX8_term_53 (by decide) ?_
  refine lv_icmp_ne (tgt := 102) hx hb dX8_term_55 (by decide) (fun _ => ?_) (fun c9 => absurd c9 (by decide))
  refine lv_aload_n hx hb dX8_term_102 rfl (lv_at hl 2 rfl) ?_
  refine lv_bipush (v := 43) hx hb dX8_term_103 (by decide) ?_
  refine k_cVv (As := [.int 43]) (rest := []) (wc := [(h0, .inr (8, ((f0.set 7 (.int 44)).set 13 (.int 3)))), (h2, .inr (2, f2)), (h3, .inl (cI, 13312, .inl (upd g0 12290 43)))]) (wr := [(h1, .inr (3, f1))]) (w1 := (fun _ : Unit => [(h0, .inr (8, (((f0.set 7 (.int 44)).set 13 (.int 3)).set 13 (.int 4)))), (h2, .inr (2, f2)), (h3, .inl (cI, 13312, .inl (upd (upd g0 12290 43) 12291 43)))])) ⟨hx, hb, hml, hown, hts⟩ hN hX hAE hK hP hD hS hA [0, 2, 3] [1] (ci := 8) rfl rfl rfl rfl (by decide +kernel) (by decide +kernel) (by decide +kernel) (c_X8_step_3 l E D cI cJ cB cZ h0 (((f0.set 7 (.int 44)).set 13 (.int 3))) h2 f2 h3 ((upd g0 12290 43)) (k_ne (by decide) (k_ne (by decide) e4)) (k_ne (by decide) (k_ne (by decide) e7)) (k_set (k_ne (by decide) e8)) e9) (cwV 1 hts g9_X8_term_X8_step_194 rfl rfl rfl (by decide +kernel) ⟨Nat.le_of_ble_eq_true rfl, Nat.le_of_ble_eq_true rfl⟩) rfl hl.1 (Nat.le_of_ble_eq_true rfl) dX8_term_105 ⟨Nat.le_of_ble_eq_true rfl, Nat.le_of_ble_eq_true rfl⟩ (fun _ H locs hP hD hS => ?_)
  have hP : va_P D vwCl [(h1, .inr (3, f1)), (h0, .inr (8, (((f0.set 7 (.int 44)).set 13 (.int 3)).set 13 (.int 4)))), (h2, .inr (2, f2)), (h3, .inl (cI, 13312, .inl (upd (upd g0 12290 43) 12291 43)))] H := hP
  have hD : va_D A [(h1, .inr (3, f1)), (h0, .inr (8, (((f0.set 7 (.int 44)).set 13 (.int 3)).set 13 (.int 4)))), (h2, .inr (2, f2)), (h3, .inl (cI, 13312, .inl (upd (upd g0 12290 43) 12291 43)))] := hD
  have hP := hP.sub (ws' := [(h0, .inr (8, (((f0.set 7 (.int 44)).set 13 (.int 3)).set 13 (.int 4)))), (h1, .inr (3, f1)), (h2, .inr (2, f2)), (h3, .inl (cI, 13312, .inl (upd (upd g0 12290 43) 12291 43)))]) [1, 0, 2, 3] rfl
  have hD := hD.sub (ws' := [(h0, .inr (8, (((f0.set 7 (.int 44)).set 13 (.int 3)).set 13 (.int 4)))), (h1, .inr (3, f1)), (h2, .inr (2, f2)), (h3, .inl (cI, 13312, .inl (upd (upd g0 12290 43) 12291 43)))]) [1, 0, 2, 3] (by decide +kernel) rfl
  exact W.vret hx hb hr (fun t ht hW => ⟨⟨(), rfl, trivial, kB_mk ht hW hP hK hD⟩, hS.F ht⟩) hS.2.2 dX8_term_108
set_option maxHeartbeats 400000000 in
set_option maxRecDepth 100000 in
theorem c_X2_setStep_4 (l : Launch) (E : kE) (D : va_G) (cI cJ cB cZ : ClassId) (h0 : Nat) (f0 : List Value) (h1 : Nat) (g0 : Nat → Int32) (e0 : f0[3]? = some (.ref h1)) : kV l E D (kT cI cJ cB cZ) yX2_setStep vW_X2_setStep ({ frames := 0, cells := 0, slots := 0, locals := 0 }) [.ref h0, .int 24, .int 4, .int 44] [(h0, .inr (2, f0)), (h1, .inl (cI, 13312, .inl g0))] (fun _ : Unit => [(h0, .inr (2, f0)), (h1, .inl (cI, 13312, .inl (upd g0 12292 44)))]) 0 0 := by
  intro sz
  refine Met.ofW (cc := cX2_setStep) (maxL := 4) (ret := none) (by decide) rfl ?_
  intro p e s m args below meth c s₁ B hml hv
  obtain ⟨rfl, hsz, hP, hK, hD0, hN, hX⟩ := hv
  have hx := B.exec
  have hb := B.bytes
  have hr := B.returns
  have hts := atoms_spec (ws := vW_X2_setStep) B.pre
  have hown : s.vm.findClass RX2 = some m.cls := findClass_of_methodNamed B.named
  have hlocks := B.notSynchronized
  have hin2 : ∀ w ∈ wsX20, w ∈ vW_X2_setStep := u9_X2_setStep_wsX20
  subst hsz
  have hD := hD0.self (sz := s.heap.size)
  have hAE := k_AE hD0 hX
  generalize hAe : va_A [(h0, .inr (2, f0)), (h1, .inl (cI, 13312, .inl g0))] s.heap.size = A at hD hAE ⊢
  have hA : ∀ q : Nat, s.heap.size ≤ q → A q := fun q h => by rw [← hAe]; exact Or.inr h
  have hS : va_S A s.heap s.heap [] := va_S.rf
  have hP : va_P D vwCl [(h0, .inr (2, f0)), (h1, .inl (cI, 13312, .inl g0))] s.heap := hP
  have hl := lv_entry ([.ref h0, .int 24, .int 4, .int 44] : List Value) (n := 4) (Nat.le_of_ble_eq_true rfl)
  rw [lg_entry_eq]
  generalize (lg_sl ([.ref h0, .int 24, .int 4, .int 44]) ++ List.replicate (4 - (lg_sl ([.ref h0, .int 24, .int 4, .int 44])).length) Slot.unset).toArray = ls at hl ⊢
  have hl : lv_has ls 4 [(0, .ref h0), (1, .int 24), (2, .int 4), (3, .int 44)] := hl
  refine lv_iload_n hx hb dX2_setStep_0 rfl (lv_at hl 1 rfl) ?_
  refine lv_if_lt (tgt := 34) hx hb dX2_setStep_1 (by decide) (fun c9 => absurd c9 (by decide)) (fun _ => ?_)
  refine lv_iload_n hx hb dX2_setStep_4 rfl (lv_at hl 1 rfl) ?_
  refine lv_bipush (v := 26) hx hb dX2_setStep_5 (by decide) ?_
  refine lv_icmp_ge (tgt := 34) hx hb dX2_setStep_7 (by decide) (fun c9 => absurd c9 (by decide)) (fun _ => ?_)
  refine lv_iload_n hx hb dX2_setStep_10 rfl (lv_at hl 2 rfl) ?_
  refine lv_if_lt (tgt := 34) hx hb dX2_setStep_11 (by decide) (fun c9 => absurd c9 (by decide)) (fun _ => ?_)
  refine lv_iload_n hx hb dX2_setStep_14 rfl (lv_at hl 2 rfl) ?_
  refine lv_sipush (v := 512) hx hb dX2_setStep_15 (by decide) ?_
  refine lv_icmp_ge (tgt := 34) hx hb dX2_setStep_18 (by decide) (fun c9 => absurd c9 (by decide)) (fun _ => ?_)
  refine lv_aload_n hx hb dX2_setStep_21 rfl (lv_at hl 0 rfl) ?_
  refine k_get (D := D) (ci := 2) (v := .ref h1) (N := 16) hx hb hts hin2 hown hK hP 0 rfl rfl (by decide) f9_2_3 (hts (.fieldLink RX2 22 "IntegerHouse$House" "steps" "[I") (o9_X2_setStep _ (List.mem_of_getElem? (i := 0) rfl))) e0 dX2_setStep_22 ?_
  refine lv_iload_n hx hb dX2_setStep_25 rfl (lv_at hl 1 rfl) ?_
  refine lv_sipush (v := 512) hx hb dX2_setStep_26 (by decide) ?_
  refine lv_imul hx hb dX2_setStep_29 ?_
  refine k_topi (y := 12288) (by decide) ?_
  refine lv_iload_n hx hb dX2_setStep_30 rfl (lv_at hl 2 rfl) ?_
  refine lv_iadd hx hb dX2_setStep_31 ?_
  refine k_topi (y := 12292) (by decide) ?_
  refine lv_iload_n hx hb dX2_setStep_32 rfl (lv_at hl 3 rfl) ?_
  refine va_iast hx hb hK hP hD hS 1 0 rfl rfl (k_in (by decide)) dX2_setStep_33 (fun H locs hP hD hS => ?_)
  have hP : va_P D vwCl [(h0, .inr (2, f0)), (h1, .inl (cI, 13312, .inl (upd g0 12292 44)))] H := hP
  have hD : va_D A [(h0, .inr (2, f0)), (h1, .inl (cI, 13312, .inl (upd g0 12292 44)))] := hD
  exact W.vret hx hb hr (fun t ht hW => ⟨⟨(), rfl, trivial, kB_mk ht hW hP hK hD⟩, hS.F ht⟩) hS.2.2 dX2_setStep_34
set_option maxHeartbeats 400000000 in
set_option maxRecDepth 100000 in
theorem c_X8_step_4 (l : Launch) (E : kE) (D : va_G) (cI cJ cB cZ : ClassId) (h0 : Nat) (f0 : List Value) (h1 : Nat) (f1 : List Value) (h2 : Nat) (g0 : Nat → Int32) (e0 : f0[1]? = some (.ref h1)) (e1 : f0[11]? = some (.int 24)) (e2 : f0[13]? = some (.int 4)) (e3 : f1[3]? = some (.ref h2)) : kV l E D (kT cI cJ cB cZ) yX8_step vW_X8_step ({ frames := 1, cells := 0, slots := 0, locals := 23 }) [.ref h0, .int 44] [(h0, .inr (8, f0)), (h1, .inr (2, f1)), (h2, .inl (cI, 13312, .inl g0))] (fun _ : Unit => [(h0, .inr (8, (f0.set 13 (.int 5)))), (h1, .inr (2, f1)), (h2, .inl (cI, 13312, .inl (upd g0 12292 44)))]) 0 0 := by
  intro sz
  refine Met.ofW (cc := cX8_step) (maxL := 2) (ret := none) (by decide) rfl ?_
  intro p e s m args below meth c s₁ B hml hv
  obtain ⟨rfl, hsz, hP, hK, hD0, hN, hX⟩ := hv
  have hx := B.exec
  have hb := B.bytes
  have hr := B.returns
  have hts := atoms_spec (ws := vW_X8_step) B.pre
  have hown : s.vm.findClass RX8 = some m.cls := findClass_of_methodNamed B.named
  have hlocks := B.notSynchronized
  have hin8 : ∀ w ∈ wsX80, w ∈ vW_X8_step := u9_X8_step_wsX80
  subst hsz
  have hD := hD0.self (sz := s.heap.size)
  have hAE := k_AE hD0 hX
  generalize hAe : va_A [(h0, .inr (8, f0)), (h1, .inr (2, f1)), (h2, .inl (cI, 13312, .inl g0))] s.heap.size = A at hD hAE ⊢
  have hA : ∀ q : Nat, s.heap.size ≤ q → A q := fun q h => by rw [← hAe]; exact Or.inr h
  have hS : va_S A s.heap s.heap [] := va_S.rf
  have hP : va_P D vwCl [(h0, .inr (8, f0)), (h1, .inr (2, f1)), (h2, .inl (cI, 13312, .inl g0))] s.heap := hP
  have hl := lv_entry ([.ref h0, .int 44] : List Value) (n := 2) (Nat.le_of_ble_eq_true rfl)
  rw [lg_entry_eq]
  generalize (lg_sl ([.ref h0, .int 44]) ++ List.replicate (2 - (lg_sl ([.ref h0, .int 44])).length) Slot.unset).toArray = ls at hl ⊢
  have hl : lv_has ls 2 [(0, .ref h0), (1, .int 44)] := hl
  refine lv_aload_n hx hb dX8_step_0 rfl (lv_at hl 0 rfl) ?_
  refine k_get (D := D) (ci := 8) (v := .ref h1) (N := 15) hx hb hts hin8 hown hK hP 0 rfl rfl (by decide) f9_8_1 (hts (.fieldLink RX8 15 "IntegerHouse$Reader" "house" "LIntegerHouse$House;") (o9_X8_step _ (List.mem_of_getElem? (i := 0) rfl))) e0 dX8_step_1 ?_
  refine lv_aload_n hx hb dX8_step_4 rfl (lv_at hl 0 rfl) ?_
  refine k_get (D := D) (ci := 8) (v := .int 24) (N := 15) hx hb hts hin8 hown hK hP 0 rfl rfl (by decide) f9_8_11 (hts (.fieldLink RX8 164 "IntegerHouse$Reader" "slot" "I") (o9_X8_step _ (List.mem_of_getElem? (i := 1) rfl))) e1 dX8_step_5 ?_
  refine lv_aload_n hx hb dX8_step_8 rfl (lv_at hl 0 rfl) ?_
  refine k_get (D := D) (ci := 8) (v := .int 4) (N := 15) hx hb hts hin8 hown hK hP 0 rfl rfl (by decide) f9_8_13 (hts (.fieldLink RX8 170 "IntegerHouse$Reader" "steps" "I") (o9_X8_step _ (List.mem_of_getElem? (i := 2) rfl))) e2 dX8_step_9 ?_
  refine lv_iload_n hx hb dX8_step_12 rfl (lv_at hl 1 rfl) ?_
  refine k_cVv (As := [.int 24, .int 4, .int 44]) (rest := []) (wc := [(h1, .inr (2, f1)), (h2, .inl (cI, 13312, .inl g0))]) (wr := [(h0, .inr (8, f0))]) (w1 := (fun _ : Unit => [(h1, .inr (2, f1)), (h2, .inl (cI, 13312, .inl (upd g0 12292 44)))])) ⟨hx, hb, hml, hown, hts⟩ hN hX hAE hK hP hD hS hA [1, 2] [0] (ci := 2) rfl rfl rfl rfl (by decide +kernel) (by decide +kernel) (by decide +kernel) (c_X2_setStep_4 l E D cI cJ cB cZ h1 f1 h2 g0 e3) (cwV 3 hts g9_X8_step_X2_setStep_182 rfl rfl rfl (by decide +kernel) ⟨Nat.le_of_ble_eq_true rfl, Nat.le_of_ble_eq_true rfl⟩) rfl hl.1 (Nat.le_of_ble_eq_true rfl) dX8_step_13 ⟨Nat.le_of_ble_eq_true rfl, Nat.le_of_ble_eq_true rfl⟩ (fun _ H locs hP hD hS => ?_)
  have hP : va_P D vwCl [(h0, .inr (8, f0)), (h1, .inr (2, f1)), (h2, .inl (cI, 13312, .inl (upd g0 12292 44)))] H := hP
  have hD : va_D A [(h0, .inr (8, f0)), (h1, .inr (2, f1)), (h2, .inl (cI, 13312, .inl (upd g0 12292 44)))] := hD
  refine lv_aload_n hx hb dX8_step_16 rfl (lv_at hl 0 rfl) ?_
  refine lv_dup hx hb dX8_step_17 rfl ?_
  refine k_get (D := D) (ci := 8) (v := .int 4) (N := 15) hx hb hts hin8 hown hK hP 0 rfl rfl (by decide) f9_8_13 (hts (.fieldLink RX8 170 "IntegerHouse$Reader" "steps" "I") (o9_X8_step _ (List.mem_of_getElem? (i := 2) rfl))) e2 dX8_step_18 ?_
  refine lv_iconst (v := 1) hx hb dX8_step_21 (by decide) ?_
  refine lv_iadd hx hb dX8_step_22 ?_
  refine k_topi (y := 5) (by decide) ?_
  refine k_put (D := D) (ci := 8) (v := .int 5) (ty := .int) (N := 15) hx hb hts hin8 tyX8 tyX8_ok nmX8 hown hK hP hD hS 0 rfl rfl (by decide) f9_8_13 (hts (.fieldLink RX8 170 "IntegerHouse$Reader" "steps" "I") (o9_X8_step _ (List.mem_of_getElem? (i := 2) rfl))) rfl pd_2 rfl rfl (k_len e2) dX8_step_23 (fun H locs hP hD hS => ?_)
  have hP : va_P D vwCl [(h0, .inr (8, (f0.set 13 (.int 5)))), (h1, .inr (2, f1)), (h2, .inl (cI, 13312, .inl (upd g0 12292 44)))] H := hP
  have hD : va_D A [(h0, .inr (8, (f0.set 13 (.int 5)))), (h1, .inr (2, f1)), (h2, .inl (cI, 13312, .inl (upd g0 12292 44)))] := hD
  exact W.vret hx hb hr (fun t ht hW => ⟨⟨(), rfl, trivial, kB_mk ht hW hP hK hD⟩, hS.F ht⟩) hS.2.2 dX8_step_26
set_option maxHeartbeats 400000000 in
set_option maxRecDepth 100000 in
theorem c_X8_one_0 (l : Launch) (E : kE) (D : va_G) (cI cJ cB cZ : ClassId) (h0 : Nat) (f0 : List Value) (h1 : Nat) (f1 : List Value) (h2 : Nat) (f2 : List Value) (h3 : Nat) (g0 : Nat → Int32) (e0 : f0[7]? = some (.int 0)) (e1 : f0[0]? = some (.ref h1)) (e2 : f0[6]? = some (.int 0)) (e3 : f1[5]? = some (.int 0)) (e4 : f0[1]? = some (.ref h2)) (e5 : f2[10]? = some (.int 0)) (e6 : f0[3]? = some (.int 0)) (e7 : f0[8]? = some (.int 0)) (e8 : f0[4]? = some (.int 0)) (e9 : f0[11]? = some (.int 24)) (e10 : f0[13]? = some (.int 0)) (e11 : f2[3]? = some (.ref h3)) : kV l E D (kT cI cJ cB cZ) yX8_one vW_X8_one ({ frames := 4, cells := 0, slots := 0, locals := 91 }) [.ref h0] [(h0, .inr (8, f0)), (h1, .inr (3, f1)), (h2, .inr (2, f2)), (h3, .inl (cI, 13312, .inl g0))] (fun _ : Unit => [(h0, .inr (8, ((((((((((f0.set 3 (.int 2)).set 4 (.int 0)).set 7 (.int 44)).set 13 (.int 1)).set 13 (.int 2)).set 7 (.int 44)).set 7 (.int 44)).set 13 (.int 3)).set 13 (.int 4)).set 13 (.int 5)))), (h1, .inr (3, f1)), (h2, .inr (2, f2)), (h3, .inl (cI, 13312, .inl (upd (upd (upd (upd (upd g0 12288 43) 12289 43) 12290 43) 12291 43) 12292 44)))]) 0 0 := by
  intro sz
  refine Met.ofW (cc := cX8_one) (maxL := 4) (ret := none) (by decide) rfl ?_
  intro p e s m args below meth c s₁ B hml hv
  obtain ⟨rfl, hsz, hP, hK, hD0, hN, hX⟩ := hv
  have hx := B.exec
  have hb := B.bytes
  have hr := B.returns
  have hts := atoms_spec (ws := vW_X8_one) B.pre
  have hown : s.vm.findClass RX8 = some m.cls := findClass_of_methodNamed B.named
  have hlocks := B.notSynchronized
  have hin8 : ∀ w ∈ wsX80, w ∈ vW_X8_one := u9_X8_one_wsX80
  subst hsz
  have hD := hD0.self (sz := s.heap.size)
  have hAE := k_AE hD0 hX
  generalize hAe : va_A [(h0, .inr (8, f0)), (h1, .inr (3, f1)), (h2, .inr (2, f2)), (h3, .inl (cI, 13312, .inl g0))] s.heap.size = A at hD hAE ⊢
  have hA : ∀ q : Nat, s.heap.size ≤ q → A q := fun q h => by rw [← hAe]; exact Or.inr h
  have hS : va_S A s.heap s.heap [] := va_S.rf
  have hP : va_P D vwCl [(h0, .inr (8, f0)), (h1, .inr (3, f1)), (h2, .inr (2, f2)), (h3, .inl (cI, 13312, .inl g0))] s.heap := hP
  have hl := lv_entry ([.ref h0] : List Value) (n := 4) (Nat.le_of_ble_eq_true rfl)
  rw [lg_entry_eq]
  generalize (lg_sl ([.ref h0]) ++ List.replicate (4 - (lg_sl ([.ref h0])).length) Slot.unset).toArray = ls at hl ⊢
  have hl : lv_has ls 4 [(0, .ref h0)] := hl
  refine lv_aload_n hx hb dX8_one_0 rfl (lv_at hl 0 rfl) ?_
  refine k_get (D := D) (ci := 8) (v := .int 0) (N := 15) hx hb hts hin8 hown hK hP 0 rfl rfl (by decide) f9_8_7 (hts (.fieldLink RX8 39 "IntegerHouse$Reader" "kind" "I") (o9_X8_one _ (List.mem_of_getElem? (i := 0) rfl))) e0 dX8_one_1 ?_
  refine lv_istore_n (lv' := [(1, .int 0), (0, .ref h0)]) hx hb dX8_one_4 rfl hl (by decide) rfl (fun ls hl => ?_)
  refine lv_iload_n hx hb dX8_one_5 rfl (lv_at hl 0 rfl) ?_
  refine lv_iconst (v := 1) hx hb dX8_one_6 (by decide) ?_
  refine lv_icmp_ne (tgt := 31) hx hb dX8_one_7 (by decide) (fun _ => ?_) (fun c9 => absurd c9 (by decide))
  refine lv_iconst (v := (-1)) hx hb dX8_one_31 (by decide) ?_
  refine lv_istore_n (lv' := [(2, .int (-1)), (1, .int 0), (0, .ref h0)]) hx hb dX8_one_32 rfl hl (by decide) rfl (fun ls hl => ?_)
  refine lv_iload_n hx hb dX8_one_33 rfl (lv_at hl 1 rfl) ?_
  refine lv_bipush (v := 25) hx hb dX8_one_34 (by decide) ?_
  refine lv_icmp_ne (tgt := 70) hx hb dX8_one_36 (by decide) (fun _ => ?_) (fun c9 => absurd c9 (by decide))
  refine lv_iload_n hx hb dX8_one_70 rfl (lv_at hl 1 rfl) ?_
  refine lv_iconst (v := 4) hx hb dX8_one_71 (by decide) ?_
  refine lv_icmp_ne (tgt := 94) hx hb dX8_one_72 (by decide) (fun _ => ?_) (fun c9 => absurd c9 (by decide))
  refine lv_iload_n hx hb dX8_one_94 rfl (lv_at hl 1 rfl) ?_
  refine lv_bipush (v := 26) hx hb dX8_one_95 (by decide) ?_
  refine lv_icmp_eq (tgt := 106) hx hb dX8_one_97 (by decide) (fun c9 => absurd c9 (by decide)) (fun _ => ?_)
  refine lv_iload_n hx hb dX8_one_100 rfl (lv_at hl 1 rfl) ?_
  refine lv_bipush (v := 27) hx hb dX8_one_101 (by decide) ?_
  refine lv_icmp_ne (tgt := 120) hx hb dX8_one_103 (by decide) (fun _ => ?_) (fun c9 => absurd c9 (by decide))
  refine lv_iload_n hx hb dX8_one_120 rfl (lv_at hl 0 rfl) ?_
  refine lv_iconst (v := (-1)) hx hb dX8_one_121 (by decide) ?_
  refine lv_icmp_eq (tgt := 151) hx hb dX8_one_122 (by decide) (fun _ => ?_) (fun c9 => absurd (by decide) c9)
  refine lv_iload_n hx hb dX8_one_151 rfl (lv_at hl 1 rfl) ?_
  refine lv_iconst (v := 2) hx hb dX8_one_152 (by decide) ?_
  refine lv_icmp_ne (tgt := 237) hx hb dX8_one_153 (by decide) (fun _ => ?_) (fun c9 => absurd c9 (by decide))
  refine lv_aload_n hx hb dX8_one_237 rfl (lv_at hl 2 rfl) ?_
  refine k_cVv (As := []) (rest := []) (wc := [(h0, .inr (8, f0)), (h1, .inr (3, f1)), (h2, .inr (2, f2)), (h3, .inl (cI, 13312, .inl g0))]) (wr := []) (w1 := (fun _ : Unit => [(h0, .inr (8, (((((f0.set 3 (.int 2)).set 4 (.int 0)).set 7 (.int 44)).set 13 (.int 1)).set 13 (.int 2)))), (h1, .inr (3, f1)), (h2, .inr (2, f2)), (h3, .inl (cI, 13312, .inl (upd (upd g0 12288 43) 12289 43)))])) ⟨hx, hb, hml, hown, hts⟩ hN hX hAE hK hP hD hS hA [0, 1, 2, 3] [] (ci := 8) rfl rfl rfl rfl (by decide +kernel) (by decide +kernel) (by decide +kernel) (c_X8_term_0 l E D cI cJ cB cZ h0 f0 h1 f1 h2 f2 h3 g0 e0 e1 e2 e3 e4 e5 e6 e7 e8 e9 e10 e11) (cwV 0 hts g9_X8_one_X8_term_176 rfl rfl rfl (by decide +kernel) ⟨Nat.le_of_ble_eq_true rfl, Nat.le_of_ble_eq_true rfl⟩) rfl hl.1 (Nat.le_of_ble_eq_true rfl) dX8_one_238 ⟨Nat.le_of_ble_eq_true rfl, Nat.le_of_ble_eq_true rfl⟩ (fun _ H locs hP hD hS => ?_)
  have hP : va_P D vwCl [(h0, .inr (8, (((((f0.set 3 (.int 2)).set 4 (.int 0)).set 7 (.int 44)).set 13 (.int 1)).set 13 (.int 2)))), (h1, .inr (3, f1)), (h2, .inr (2, f2)), (h3, .inl (cI, 13312, .inl (upd (upd g0 12288 43) 12289 43)))] H := hP
  have hD : va_D A [(h0, .inr (8, (((((f0.set 3 (.int 2)).set 4 (.int 0)).set 7 (.int 44)).set 13 (.int 1)).set 13 (.int 2)))), (h1, .inr (3, f1)), (h2, .inr (2, f2)), (h3, .inl (cI, 13312, .inl (upd (upd g0 12288 43) 12289 43)))] := hD
  refine lv_aload_n hx hb dX8_one_241 rfl (lv_at hl 2 rfl) ?_
  refine k_get (D := D) (ci := 8) (v := .int 44) (N := 15) hx hb hts hin8 hown hK hP 0 rfl rfl (by decide) f9_8_7 (hts (.fieldLink RX8 39 "IntegerHouse$Reader" "kind" "I") (o9_X8_one _ (List.mem_of_getElem? (i := 0) rfl))) (k_ne (by decide) (k_ne (by decide) (k_set (k_ne (by decide) (k_ne (by decide) e0))))) dX8_one_242 ?_
  refine lv_istore_n (lv' := [(3, .int 44), (2, .int (-1)), (1, .int 0), (0, .ref h0)]) hx hb dX8_one_245 rfl hl (by decide) rfl (fun ls hl => ?_)
  refine lv_aload_n hx hb dX8_one_246 rfl (lv_at hl 3 rfl) ?_
  refine lv_iload_n hx hb dX8_one_247 rfl (lv_at hl 0 rfl) ?_
  refine k_cSNi (As := [.int 44]) (rest := [.ref h0]) (wc := []) (wr := [(h0, .inr (8, (((((f0.set 3 (.int 2)).set 4 (.int 0)).set 7 (.int 44)).set 13 (.int 1)).set 13 (.int 2)))), (h1, .inr (3, f1)), (h2, .inr (2, f2)), (h3, .inl (cI, 13312, .inl (upd (upd g0 12288 43) 12289 43)))]) (w1 := []) ⟨hx, hb, hml, hown, hts⟩ hN hX hAE hK hP hD hS hA [] [0, 1, 2, 3] rfl rfl (by decide +kernel) (by decide +kernel) (by decide +kernel) (c_X11_isComparison_0 l E D cI cJ cB cZ  ) ⟨(va_cnB (host := "IntegerHouse") 1 hts g9_X8_one_X11_isComparison_215 rfl rfl rfl (hN.2 ("IntegerHouse$Reader", 215, ⟨"IntegerHouse", "isComparison", "(I)Z"⟩, "IntegerHouse") (List.mem_of_getElem? (i := 3) rfl)) (hts (.initialized RX11) (o9_X8_one _ (List.mem_of_getElem? (i := 11) rfl))) (by decide +kernel) ⟨Nat.le_of_ble_eq_true rfl, Nat.le_of_ble_eq_true rfl⟩), (hts (.static yX11_isComparison) (o9_X8_one _ (List.mem_of_getElem? (i := 12) rfl))), trivial⟩ rfl hl.1 (Nat.le_of_ble_eq_true rfl) dX8_one_248 ⟨Nat.le_of_ble_eq_true rfl, Nat.le_of_ble_eq_true rfl⟩ (fun H locs hP hD hS => ?_)
  have hP : va_P D vwCl [(h0, .inr (8, (((((f0.set 3 (.int 2)).set 4 (.int 0)).set 7 (.int 44)).set 13 (.int 1)).set 13 (.int 2)))), (h1, .inr (3, f1)), (h2, .inr (2, f2)), (h3, .inl (cI, 13312, .inl (upd (upd g0 12288 43) 12289 43)))] H := hP
  have hD : va_D A [(h0, .inr (8, (((((f0.set 3 (.int 2)).set 4 (.int 0)).set 7 (.int 44)).set 13 (.int 1)).set 13 (.int 2)))), (h1, .inr (3, f1)), (h2, .inr (2, f2)), (h3, .inl (cI, 13312, .inl (upd (upd g0 12288 43) 12289 43)))] := hD
  refine lv_if_eq (tgt := 258) hx hb dX8_one_251 (by decide) (fun _ => ?_) (fun c9 => absurd (by decide) c9)
  refine lv_bipush (v := 10) hx hb dX8_one_258 (by decide) ?_
  refine lv_iload_n hx hb dX8_one_260 rfl (lv_at hl 0 rfl) ?_
  refine k_cVv (As := [.int 10, .int 44]) (rest := []) (wc := [(h0, .inr (8, (((((f0.set 3 (.int 2)).set 4 (.int 0)).set 7 (.int 44)).set 13 (.int 1)).set 13 (.int 2))))]) (wr := [(h1, .inr (3, f1)), (h2, .inr (2, f2)), (h3, .inl (cI, 13312, .inl (upd (upd g0 12288 43) 12289 43)))]) (w1 := (fun _ : Unit => [(h0, .inr (8, ((((((f0.set 3 (.int 2)).set 4 (.int 0)).set 7 (.int 44)).set 13 (.int 1)).set 13 (.int 2)).set 7 (.int 44))))])) ⟨hx, hb, hml, hown, hts⟩ hN hX hAE hK hP hD hS hA [0] [1, 2, 3] (ci := 8) rfl rfl rfl rfl (by decide +kernel) (by decide +kernel) (by decide +kernel) (c_X8_accept_0 l E D cI cJ cB cZ h0 ((((((f0.set 3 (.int 2)).set 4 (.int 0)).set 7 (.int 44)).set 13 (.int 1)).set 13 (.int 2))) (k_ne (by decide) (k_ne (by decide) (k_set (k_ne (by decide) (k_ne (by decide) e0))))) (k_ne (by decide) (k_ne (by decide) (k_ne (by decide) (k_ne (by decide) (k_set e6)))))) (cwV 2 hts g9_X8_one_X8_accept_191 rfl rfl rfl (by decide +kernel) ⟨Nat.le_of_ble_eq_true rfl, Nat.le_of_ble_eq_true rfl⟩) rfl hl.1 (Nat.le_of_ble_eq_true rfl) dX8_one_261 ⟨Nat.le_of_ble_eq_true rfl, Nat.le_of_ble_eq_true rfl⟩ (fun _ H locs hP hD hS => ?_)
  have hP : va_P D vwCl [(h1, .inr (3, f1)), (h2, .inr (2, f2)), (h3, .inl (cI, 13312, .inl (upd (upd g0 12288 43) 12289 43))), (h0, .inr (8, ((((((f0.set 3 (.int 2)).set 4 (.int 0)).set 7 (.int 44)).set 13 (.int 1)).set 13 (.int 2)).set 7 (.int 44))))] H := hP
  have hD : va_D A [(h1, .inr (3, f1)), (h2, .inr (2, f2)), (h3, .inl (cI, 13312, .inl (upd (upd g0 12288 43) 12289 43))), (h0, .inr (8, ((((((f0.set 3 (.int 2)).set 4 (.int 0)).set 7 (.int 44)).set 13 (.int 1)).set 13 (.int 2)).set 7 (.int 44))))] := hD
  refine lv_aload_n hx hb dX8_one_264 rfl (lv_at hl 3 rfl) ?_
  refine k_cVv (As := []) (rest := []) (wc := [(h0, .inr (8, ((((((f0.set 3 (.int 2)).set 4 (.int 0)).set 7 (.int 44)).set 13 (.int 1)).set 13 (.int 2)).set 7 (.int 44)))), (h1, .inr (3, f1)), (h2, .inr (2, f2)), (h3, .inl (cI, 13312, .inl (upd (upd g0 12288 43) 12289 43)))]) (wr := []) (w1 := (fun _ : Unit => [(h0, .inr (8, (((((((((f0.set 3 (.int 2)).set 4 (.int 0)).set 7 (.int 44)).set 13 (.int 1)).set 13 (.int 2)).set 7 (.int 44)).set 7 (.int 44)).set 13 (.int 3)).set 13 (.int 4)))), (h1, .inr (3, f1)), (h2, .inr (2, f2)), (h3, .inl (cI, 13312, .inl (upd (upd (upd (upd g0 12288 43) 12289 43) 12290 43) 12291 43)))])) ⟨hx, hb, hml, hown, hts⟩ hN hX hAE hK hP hD hS hA [3, 0, 1, 2] [] (ci := 8) rfl rfl rfl rfl (by decide +kernel) (by decide +kernel) (by decide +kernel) (c_X8_term_1 l E D cI cJ cB cZ h0 (((((((f0.set 3 (.int 2)).set 4 (.int 0)).set 7 (.int 44)).set 13 (.int 1)).set 13 (.int 2)).set 7 (.int 44))) h1 f1 h2 f2 h3 ((upd (upd g0 12288 43) 12289 43)) (k_set (k_ne (by decide) (k_ne (by decide) (k_set (k_ne (by decide) (k_ne (by decide) e0)))))) (k_ne (by decide) (k_ne (by decide) (k_ne (by decide) (k_ne (by decide) (k_ne (by decide) (k_ne (by decide) e1)))))) (k_ne (by decide) (k_ne (by decide) (k_ne (by decide) (k_ne (by decide) (k_ne (by decide) (k_ne (by decide) e2)))))) e3 (k_ne (by decide) (k_ne (by decide) (k_ne (by decide) (k_ne (by decide) (k_ne (by decide) (k_ne (by decide) e4)))))) e5 (k_ne (by decide) (k_ne (by decide) (k_ne (by decide) (k_ne (by decide) (k_ne (by decide) (k_set e6)))))) (k_ne (by decide) (k_ne (by decide) (k_ne (by decide) (k_ne (by decide) (k_ne (by decide) (k_ne (by decide) e9)))))) (k_ne (by decide) (k_set (k_set (k_ne (by decide) (k_ne (by decide) (k_ne (by decide) e10)))))) e11) (cwV 0 hts g9_X8_one_X8_term_176 rfl rfl rfl (by decide +kernel) ⟨Nat.le_of_ble_eq_true rfl, Nat.le_of_ble_eq_true rfl⟩) rfl hl.1 (Nat.le_of_ble_eq_true rfl) dX8_one_265 ⟨Nat.le_of_ble_eq_true rfl, Nat.le_of_ble_eq_true rfl⟩ (fun _ H locs hP hD hS => ?_)
  have hP : va_P D vwCl [(h0, .inr (8, (((((((((f0.set 3 (.int 2)).set 4 (.int 0)).set 7 (.int 44)).set 13 (.int 1)).set 13 (.int 2)).set 7 (.int 44)).set 7 (.int 44)).set 13 (.int 3)).set 13 (.int 4)))), (h1, .inr (3, f1)), (h2, .inr (2, f2)), (h3, .inl (cI, 13312, .inl (upd (upd (upd (upd g0 12288 43) 12289 43) 12290 43) 12291 43)))] H := hP
  have hD : va_D A [(h0, .inr (8, (((((((((f0.set 3 (.int 2)).set 4 (.int 0)).set 7 (.int 44)).set 13 (.int 1)).set 13 (.int 2)).set 7 (.int 44)).set 7 (.int 44)).set 13 (.int 3)).set 13 (.int 4)))), (h1, .inr (3, f1)), (h2, .inr (2, f2)), (h3, .inl (cI, 13312, .inl (upd (upd (upd (upd g0 12288 43) 12289 43) 12290 43) 12291 43)))] := hD
  refine lv_aload_n hx hb dX8_one_268 rfl (lv_at hl 3 rfl) ?_
  refine lv_iload_n hx hb dX8_one_269 rfl (lv_at hl 0 rfl) ?_
  refine lv_bipush (v := 63) hx hb dX8_one_270 (by decide) ?_
  refine lv_iand hx hb dX8_one_272 ?_
  refine k_topi (y := 44) (by decide) ?_
  refine k_cVv (As := [.int 44]) (rest := []) (wc := [(h0, .inr (8, (((((((((f0.set 3 (.int 2)).set 4 (.int 0)).set 7 (.int 44)).set 13 (.int 1)).set 13 (.int 2)).set 7 (.int 44)).set 7 (.int 44)).set 13 (.int 3)).set 13 (.int 4)))), (h2, .inr (2, f2)), (h3, .inl (cI, 13312, .inl (upd (upd (upd (upd g0 12288 43) 12289 43) 12290 43) 12291 43)))]) (wr := [(h1, .inr (3, f1))]) (w1 := (fun _ : Unit => [(h0, .inr (8, ((((((((((f0.set 3 (.int 2)).set 4 (.int 0)).set 7 (.int 44)).set 13 (.int 1)).set 13 (.int 2)).set 7 (.int 44)).set 7 (.int 44)).set 13 (.int 3)).set 13 (.int 4)).set 13 (.int 5)))), (h2, .inr (2, f2)), (h3, .inl (cI, 13312, .inl (upd (upd (upd (upd (upd g0 12288 43) 12289 43) 12290 43) 12291 43) 12292 44)))])) ⟨hx, hb, hml, hown, hts⟩ hN hX hAE hK hP hD hS hA [0, 2, 3] [1] (ci := 8) rfl rfl rfl rfl (by decide +kernel) (by decide +kernel) (by decide +kernel) (c_X8_step_4 l E D cI cJ cB cZ h0 ((((((((((f0.set 3 (.int 2)).set 4 (.int 0)).set 7 (.int 44)).set 13 (.int 1)).set 13 (.int 2)).set 7 (.int 44)).set 7 (.int 44)).set 13 (.int 3)).set 13 (.int 4))) h2 f2 h3 ((upd (upd (upd (upd g0 12288 43) 12289 43) 12290 43) 12291 43)) (k_ne (by decide) (k_ne (by decide) (k_ne (by decide) (k_ne (by decide) (k_ne (by decide) (k_ne (by decide) (k_ne (by decide) (k_ne (by decide) (k_ne (by decide) e4))))))))) (k_ne (by decide) (k_ne (by decide) (k_ne (by decide) (k_ne (by decide) (k_ne (by decide) (k_ne (by decide) (k_ne (by decide) (k_ne (by decide) (k_ne (by decide) e9))))))))) (k_set (k_set (k_ne (by decide) (k_ne (by decide) (k_set (k_set (k_ne (by decide) (k_ne (by decide) (k_ne (by decide) e10))))))))) e11) (cwV 1 hts g9_X8_one_X8_step_194 rfl rfl rfl (by decide +kernel) ⟨Nat.le_of_ble_eq_true rfl, Nat.le_of_ble_eq_true rfl⟩) rfl hl.1 (Nat.le_of_ble_eq_true rfl) dX8_one_273 ⟨Nat.le_of_ble_eq_true rfl, Nat.le_of_ble_eq_true rfl⟩ (fun _ H locs hP hD hS => ?_)
  have hP : va_P D vwCl [(h1, .inr (3, f1)), (h0, .inr (8, ((((((((((f0.set 3 (.int 2)).set 4 (.int 0)).set 7 (.int 44)).set 13 (.int 1)).set 13 (.int 2)).set 7 (.int 44)).set 7 (.int 44)).set 13 (.int 3)).set 13 (.int 4)).set 13 (.int 5)))), (h2, .inr (2, f2)), (h3, .inl (cI, 13312, .inl (upd (upd (upd (upd (upd g0 12288 43) 12289 43) 12290 43) 12291 43) 12292 44)))] H := hP
  have hD : va_D A [(h1, .inr (3, f1)), (h0, .inr (8, ((((((((((f0.set 3 (.int 2)).set 4 (.int 0)).set 7 (.int 44)).set 13 (.int 1)).set 13 (.int 2)).set 7 (.int 44)).set 7 (.int 44)).set 13 (.int 3)).set 13 (.int 4)).set 13 (.int 5)))), (h2, .inr (2, f2)), (h3, .inl (cI, 13312, .inl (upd (upd (upd (upd (upd g0 12288 43) 12289 43) 12290 43) 12291 43) 12292 44)))] := hD
  have hP := hP.sub (ws' := [(h0, .inr (8, ((((((((((f0.set 3 (.int 2)).set 4 (.int 0)).set 7 (.int 44)).set 13 (.int 1)).set 13 (.int 2)).set 7 (.int 44)).set 7 (.int 44)).set 13 (.int 3)).set 13 (.int 4)).set 13 (.int 5)))), (h1, .inr (3, f1)), (h2, .inr (2, f2)), (h3, .inl (cI, 13312, .inl (upd (upd (upd (upd (upd g0 12288 43) 12289 43) 12290 43) 12291 43) 12292 44)))]) [1, 0, 2, 3] rfl
  have hD := hD.sub (ws' := [(h0, .inr (8, ((((((((((f0.set 3 (.int 2)).set 4 (.int 0)).set 7 (.int 44)).set 13 (.int 1)).set 13 (.int 2)).set 7 (.int 44)).set 7 (.int 44)).set 13 (.int 3)).set 13 (.int 4)).set 13 (.int 5)))), (h1, .inr (3, f1)), (h2, .inr (2, f2)), (h3, .inl (cI, 13312, .inl (upd (upd (upd (upd (upd g0 12288 43) 12289 43) 12290 43) 12291 43) 12292 44)))]) [1, 0, 2, 3] (by decide +kernel) rfl
  exact W.vret hx hb hr (fun t ht hW => ⟨⟨(), rfl, trivial, kB_mk ht hW hP hK hD⟩, hS.F ht⟩) hS.2.2 dX8_one_276
