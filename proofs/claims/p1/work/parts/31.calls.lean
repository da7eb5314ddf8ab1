theorem dX8_readFormula_0 : decode cX8_readFormula 0 = .ok (.aload_n 0, 1) := by decide +kernel
theorem dX8_readFormula_1 : decode cX8_readFormula 1 = .ok (.aload_n 1, 1) := by decide +kernel
theorem dX8_readFormula_2 : decode cX8_readFormula 2 = .ok (.iconst 0, 1) := by decide +kernel
theorem dX8_readFormula_3 : decode cX8_readFormula 3 = .ok (.iload_n 2, 1) := by decide +kernel
theorem dX8_readFormula_4 : decode cX8_readFormula 4 = .ok (.invokevirtual 23, 3) := by decide +kernel
theorem dX8_readFormula_7 : decode cX8_readFormula 7 = .ok (.aload_n 0, 1) := by decide +kernel
theorem dX8_readFormula_8 : decode cX8_readFormula 8 = .ok (.bipush 24, 2) := by decide +kernel
theorem dX8_readFormula_10 : decode cX8_readFormula 10 = .ok (.invokevirtual 49, 3) := by decide +kernel
theorem dX8_readFormula_13 : decode cX8_readFormula 13 = .ok (.aload_n 0, 1) := by decide +kernel
theorem dX8_readFormula_14 : decode cX8_readFormula 14 = .ok (.invokevirtual 59, 3) := by decide +kernel
theorem dX8_readFormula_17 : decode cX8_readFormula 17 = .ok (.aload_n 0, 1) := by decide +kernel
theorem dX8_readFormula_18 : decode cX8_readFormula 18 = .ok (.getfield 62, 3) := by decide +kernel
theorem dX8_readFormula_21 : decode cX8_readFormula 21 = .ok (.ifCond .ne 18, 3) := by decide +kernel
theorem dX8_readFormula_39 : decode cX8_readFormula 39 = .ok (.aload_n 0, 1) := by decide +kernel
theorem dX8_readFormula_40 : decode cX8_readFormula 40 = .ok (.getfield 62, 3) := by decide +kernel
theorem dX8_readFormula_43 : decode cX8_readFormula 43 = .ok (.ifCond .ne 7, 3) := by decide +kernel
theorem dX8_readFormula_50 : decode cX8_readFormula 50 = .ok (.iconst 0, 1) := by decide +kernel
theorem dX8_readFormula_51 : decode cX8_readFormula 51 = .ok (.ireturn, 1) := by decide +kernel
theorem dX8_readInto_0 : decode cX8_readInto 0 = .ok (.aload_n 0, 1) := by decide +kernel
theorem dX8_readInto_1 : decode cX8_readInto 1 = .ok (.iload_n 1, 1) := by decide +kernel
theorem dX8_readInto_2 : decode cX8_readInto 2 = .ok (.putfield 164, 3) := by decide +kernel
theorem dX8_readInto_5 : decode cX8_readInto 5 = .ok (.aload_n 0, 1) := by decide +kernel
theorem dX8_readInto_6 : decode cX8_readInto 6 = .ok (.iconst 0, 1) := by decide +kernel
theorem dX8_readInto_7 : decode cX8_readInto 7 = .ok (.putfield 167, 3) := by decide +kernel
theorem dX8_readInto_10 : decode cX8_readInto 10 = .ok (.aload_n 0, 1) := by decide +kernel
theorem dX8_readInto_11 : decode cX8_readInto 11 = .ok (.iconst 0, 1) := by decide +kernel
theorem dX8_readInto_12 : decode cX8_readInto 12 = .ok (.putfield 170, 3) := by decide +kernel
theorem dX8_readInto_15 : decode cX8_readInto 15 = .ok (.aload_n 0, 1) := by decide +kernel
theorem dX8_readInto_16 : decode cX8_readInto 16 = .ok (.iconst 0, 1) := by decide +kernel
theorem dX8_readInto_17 : decode cX8_readInto 17 = .ok (.putfield 173, 3) := by decide +kernel
theorem dX8_readInto_20 : decode cX8_readInto 20 = .ok (.aload_n 0, 1) := by decide +kernel
theorem dX8_readInto_21 : decode cX8_readInto 21 = .ok (.getfield 15, 3) := by decide +kernel
theorem dX8_readInto_24 : decode cX8_readInto 24 = .ok (.iload_n 1, 1) := by decide +kernel
theorem dX8_readInto_25 : decode cX8_readInto 25 = .ok (.bipush 9, 2) := by decide +kernel
theorem dX8_readInto_27 : decode cX8_readInto 27 = .ok (.aload_n 0, 1) := by decide +kernel
theorem dX8_readInto_28 : decode cX8_readInto 28 = .ok (.getfield 136, 3) := by decide +kernel
theorem dX8_readInto_31 : decode cX8_readInto 31 = .ok (.invokevirtual 157, 3) := by decide +kernel
theorem dX8_readInto_34 : decode cX8_readInto 34 = .ok (.iload_n 1, 1) := by decide +kernel
theorem dX8_readInto_35 : decode cX8_readInto 35 = .ok (.bipush 25, 2) := by decide +kernel
theorem dX8_readInto_37 : decode cX8_readInto 37 = .ok (.if_icmp .ne 10, 3) := by decide +kernel
theorem dX8_readInto_47 : decode cX8_readInto 47 = .ok (.aload_n 0, 1) := by decide +kernel
theorem dX8_readInto_48 : decode cX8_readInto 48 = .ok (.invokevirtual 179, 3) := by decide +kernel
theorem dX8_readInto_51 : decode cX8_readInto 51 = .ok (.aload_n 0, 1) := by decide +kernel
theorem dX8_readInto_52 : decode cX8_readInto 52 = .ok (.getfield 15, 3) := by decide +kernel
theorem dX8_readInto_55 : decode cX8_readInto 55 = .ok (.iload_n 1, 1) := by decide +kernel
theorem dX8_readInto_56 : decode cX8_readInto 56 = .ok (.iconst 0, 1) := by decide +kernel
theorem dX8_readInto_57 : decode cX8_readInto 57 = .ok (.aload_n 0, 1) := by decide +kernel
theorem dX8_readInto_58 : decode cX8_readInto 58 = .ok (.getfield 167, 3) := by decide +kernel
theorem dX8_readInto_61 : decode cX8_readInto 61 = .ok (.invokevirtual 157, 3) := by decide +kernel
theorem dX8_readInto_64 : decode cX8_readInto 64 = .ok (.aload_n 0, 1) := by decide +kernel
theorem dX8_readInto_65 : decode cX8_readInto 65 = .ok (.getfield 15, 3) := by decide +kernel
theorem dX8_readInto_68 : decode cX8_readInto 68 = .ok (.iload_n 1, 1) := by decide +kernel
theorem dX8_readInto_69 : decode cX8_readInto 69 = .ok (.iconst 1, 1) := by decide +kernel
theorem dX8_readInto_70 : decode cX8_readInto 70 = .ok (.aload_n 0, 1) := by decide +kernel
theorem dX8_readInto_71 : decode cX8_readInto 71 = .ok (.getfield 170, 3) := by decide +kernel
theorem dX8_readInto_74 : decode cX8_readInto 74 = .ok (.invokevirtual 157, 3) := by decide +kernel
theorem dX8_readInto_77 : decode cX8_readInto 77 = .ok (.return_, 1) := by decide +kernel
theorem dX8_formula_0 : decode cX8_formula 0 = .ok (.aload_n 0, 1) := by decide +kernel
theorem dX8_formula_1 : decode cX8_formula 1 = .ok (.invokevirtual 188, 3) := by decide +kernel
theorem dX8_formula_4 : decode cX8_formula 4 = .ok (.aload_n 0, 1) := by decide +kernel
theorem dX8_formula_5 : decode cX8_formula 5 = .ok (.getfield 39, 3) := by decide +kernel
theorem dX8_formula_8 : decode cX8_formula 8 = .ok (.istore_n 1, 1) := by decide +kernel
theorem dX8_formula_9 : decode cX8_formula 9 = .ok (.iload_n 1, 1) := by decide +kernel
theorem dX8_formula_10 : decode cX8_formula 10 = .ok (.bipush 19, 2) := by decide +kernel
theorem dX8_formula_12 : decode cX8_formula 12 = .ok (.if_icmp .eq 9, 3) := by decide +kernel
theorem dX8_formula_15 : decode cX8_formula 15 = .ok (.iload_n 1, 1) := by decide +kernel
theorem dX8_formula_16 : decode cX8_formula 16 = .ok (.bipush 20, 2) := by decide +kernel
theorem dX8_formula_18 : decode cX8_formula 18 = .ok (.if_icmp .ne 18, 3) := by decide +kernel
theorem dX8_formula_36 : decode cX8_formula 36 = .ok (.return_, 1) := by decide +kernel
theorem dX8_side_0 : decode cX8_side 0 = .ok (.aload_n 0, 1) := by decide +kernel
theorem dX8_side_1 : decode cX8_side 1 = .ok (.invokevirtual 197, 3) := by decide +kernel
theorem dX8_side_4 : decode cX8_side 4 = .ok (.iconst 0, 1) := by decide +kernel
theorem dX8_side_5 : decode cX8_side 5 = .ok (.istore_n 1, 1) := by decide +kernel
theorem dX8_side_6 : decode cX8_side 6 = .ok (.iload_n 1, 1) := by decide +kernel
theorem dX8_side_7 : decode cX8_side 7 = .ok (.bipush 120, 2) := by decide +kernel
theorem dX8_side_9 : decode cX8_side 9 = .ok (.if_icmp .ge 36, 3) := by decide +kernel
theorem dX8_side_12 : decode cX8_side 12 = .ok (.aload_n 0, 1) := by decide +kernel
theorem dX8_side_13 : decode cX8_side 13 = .ok (.getfield 39, 3) := by decide +kernel
theorem dX8_side_16 : decode cX8_side 16 = .ok (.bipush 24, 2) := by decide +kernel
theorem dX8_side_18 : decode cX8_side 18 = .ok (.if_icmp .ne 27, 3) := by decide +kernel
theorem dX8_side_45 : decode cX8_side 45 = .ok (.return_, 1) := by decide +kernel
theorem dX8_both_0 : decode cX8_both 0 = .ok (.aload_n 0, 1) := by decide +kernel
theorem dX8_both_1 : decode cX8_both 1 = .ok (.invokevirtual 200, 3) := by decide +kernel
theorem dX8_both_4 : decode cX8_both 4 = .ok (.iconst 0, 1) := by decide +kernel
theorem dX8_both_5 : decode cX8_both 5 = .ok (.istore_n 1, 1) := by decide +kernel
theorem dX8_both_6 : decode cX8_both 6 = .ok (.iload_n 1, 1) := by decide +kernel
theorem dX8_both_7 : decode cX8_both 7 = .ok (.bipush 120, 2) := by decide +kernel
theorem dX8_both_9 : decode cX8_both 9 = .ok (.if_icmp .ge 36, 3) := by decide +kernel
theorem dX8_both_12 : decode cX8_both 12 = .ok (.aload_n 0, 1) := by decide +kernel
theorem dX8_both_13 : decode cX8_both 13 = .ok (.getfield 39, 3) := by decide +kernel
theorem dX8_both_16 : decode cX8_both 16 = .ok (.bipush 23, 2) := by decide +kernel
theorem dX8_both_18 : decode cX8_both 18 = .ok (.if_icmp .ne 27, 3) := by decide +kernel
theorem dX8_both_45 : decode cX8_both 45 = .ok (.return_, 1) := by decide +kernel
theorem dX11_follows_0 : decode cX11_follows 0 = .ok (.aload_n 0, 1) := by decide +kernel
theorem dX11_follows_1 : decode cX11_follows 1 = .ok (.getfield 16, 3) := by decide +kernel
theorem dX11_follows_4 : decode cX11_follows 4 = .ok (.getfield 122, 3) := by decide +kernel
theorem dX11_follows_7 : decode cX11_follows 7 = .ok (.ifCond .eq 6, 3) := by decide +kernel
theorem dX11_follows_13 : decode cX11_follows 13 = .ok (.aload_n 0, 1) := by decide +kernel
theorem dX11_follows_14 : decode cX11_follows 14 = .ok (.getfield 23, 3) := by decide +kernel
theorem dX11_follows_17 : decode cX11_follows 17 = .ok (.getfield 233, 3) := by decide +kernel
theorem dX11_follows_20 : decode cX11_follows 20 = .ok (.istore_n 1, 1) := by decide +kernel
theorem dX11_follows_21 : decode cX11_follows 21 = .ok (.aload_n 0, 1) := by decide +kernel
theorem dX11_follows_22 : decode cX11_follows 22 = .ok (.getfield 48, 3) := by decide +kernel
theorem dX11_follows_25 : decode cX11_follows 25 = .ok (.aload_n 0, 1) := by decide +kernel
theorem dX11_follows_26 : decode cX11_follows 26 = .ok (.getfield 9, 3) := by decide +kernel
theorem dX11_follows_29 : decode cX11_follows 29 = .ok (.aload_n 0, 1) := by decide +kernel
theorem dX11_follows_30 : decode cX11_follows 30 = .ok (.invokevirtual 230, 3) := by decide +kernel
theorem dX11_follows_33 : decode cX11_follows 33 = .ok (.invokevirtual 304, 3) := by decide +kernel
theorem dX11_follows_36 : decode cX11_follows 36 = .ok (.ifCond .ne 11, 3) := by decide +kernel
theorem dX11_follows_39 : decode cX11_follows 39 = .ok (.aload_n 0, 1) := by decide +kernel
theorem dX11_follows_40 : decode cX11_follows 40 = .ok (.invokevirtual 236, 3) := by decide +kernel
theorem dX11_follows_43 : decode cX11_follows 43 = .ok (.istore_n 2, 1) := by decide +kernel
theorem dX11_follows_44 : decode cX11_follows 44 = .ok (.goto 56, 3) := by decide +kernel
theorem dX11_follows_100 : decode cX11_follows 100 = .ok (.aload_n 0, 1) := by decide +kernel
theorem dX11_follows_101 : decode cX11_follows 101 = .ok (.getfield 23, 3) := by decide +kernel
theorem dX11_follows_104 : decode cX11_follows 104 = .ok (.iload_n 1, 1) := by decide +kernel
theorem dX11_follows_105 : decode cX11_follows 105 = .ok (.putfield 233, 3) := by decide +kernel
theorem dX11_follows_108 : decode cX11_follows 108 = .ok (.iload_n 2, 1) := by decide +kernel
theorem dX11_follows_109 : decode cX11_follows 109 = .ok (.ireturn, 1) := by decide +kernel
set_option maxHeartbeats 400000000 in
set_option maxRecDepth 100000 in
theorem c_X8_both_0 (l : Launch) (E : kE) (D : va_G) (cI cJ cB cZ : ClassId) (h0 : Nat) (f0 : List Value) (h1 : Nat) (f1 : List Value) (h2 : Nat) (f2 : List Value) (h3 : Nat) (g0 : Nat → Int32) (e0 : f0[7]? = some (.int 0)) (e1 : f0[0]? = some (.ref h1)) (e2 : f0[6]? = some (.int 0)) (e3 : f1[5]? = some (.int 0)) (e4 : f0[1]? = some (.ref h2)) (e5 : f2[10]? = some (.int 0)) (e6 : f0[3]? = some (.int 0)) (e7 : f0[8]? = some (.int 0)) (e8 : f0[4]? = some (.int 0)) (e9 : f0[11]? = some (.int 24)) (e10 : f0[13]? = some (.int 0)) (e11 : f2[3]? = some (.ref h3)) : kV l E D (kT cI cJ cB cZ) yX8_both vW_X8_both ({ frames := 5, cells := 0, slots := 0, locals := 114 }) [.ref h0] [(h0, .inr (8, f0)), (h1, .inr (3, f1)), (h2, .inr (2, f2)), (h3, .inl (cI, 13312, .inl g0))] (fun _ : Unit => [(h0, .inr (8, ((((((((((f0.set 3 (.int 2)).set 4 (.int 0)).set 7 (.int 44)).set 13 (.int 1)).set 13 (.int 2)).set 7 (.int 44)).set 7 (.int 44)).set 13 (.int 3)).set 13 (.int 4)).set 13 (.int 5)))), (h1, .inr (3, f1)), (h2, .inr (2, f2)), (h3, .inl (cI, 13312, .inl (upd (upd (upd (upd (upd g0 12288 43) 12289 43) 12290 43) 12291 43) 12292 44)))]) 0 0 := by
  intro sz
  refine Met.ofW (cc := cX8_both) (maxL := 2) (ret := none) (by decide) rfl ?_
  intro p e s m args below meth c s₁ B hml hv
  obtain ⟨rfl, hsz, hP, hK, hD0, hN, hX⟩ := hv
  have hx := B.exec
  have hb := B.bytes
  have hr := B.returns
  have hts := atoms_spec (ws := vW_X8_both) B.pre
  have hown : s.vm.findClass RX8 = some m.cls := findClass_of_methodNamed B.named
  have hlocks := B.notSynchronized
  have hin8 : ∀ w ∈ wsX80, w ∈ vW_X8_both := u9_X8_both_wsX80
  subst hsz
  have hD := hD0.self (sz := s.heap.size)
  have hAE := k_AE hD0 hX
  generalize hAe : va_A [(h0, .inr (8, f0)), (h1, .inr (3, f1)), (h2, .inr (2, f2)), (h3, .inl (cI, 13312, .inl g0))] s.heap.size = A at hD hAE ⊢
  have hA : ∀ q : Nat, s.heap.size ≤ q → A q := fun q h => by rw [← hAe]; exact Or.inr h
  have hS : va_S A s.heap s.heap [] := va_S.rf
  have hP : va_P D vwCl [(h0, .inr (8, f0)), (h1, .inr (3, f1)), (h2, .inr (2, f2)), (h3, .inl (cI, 13312, .inl g0))] s.heap := hP
  have hl := lv_entry ([.ref h0] : List Value) (n := 2) (Nat.le_of_ble_eq_true rfl)
  rw [lg_entry_eq]
  generalize (lg_sl ([.ref h0]) ++ List.replicate (2 - (lg_sl ([.ref h0])).length) Slot.unset).toArray = ls at hl ⊢
  have hl : lv_has ls 2 [(0, .ref h0)] := hl
  refine lv_aload_n hx hb dX8_both_0 rfl (lv_at hl 0 rfl) ?_
  refine k_cVv (As := []) (rest := []) (wc := [(h0, .inr (8, f0)), (h1, .inr (3, f1)), (h2, .inr (2, f2)), (h3, .inl (cI, 13312, .inl g0))]) (wr := []) (w1 := (fun _ : Unit => [(h0, .inr (8, ((((((((((f0.set 3 (.int 2)).set 4 (.int 0)).set 7 (.int 44)).set 13 (.int 1)).set 13 (.int 2)).set 7 (.int 44)).set 7 (.int 44)).set 13 (.int 3)).set 13 (.int 4)).set 13 (.int 5)))), (h1, .inr (3, f1)), (h2, .inr (2, f2)), (h3, .inl (cI, 13312, .inl (upd (upd (upd (upd (upd g0 12288 43) 12289 43) 12290 43) 12291 43) 12292 44)))])) ⟨hx, hb, hml, hown, hts⟩ hN hX hAE hK hP hD hS hA [0, 1, 2, 3] [] (ci := 8) rfl rfl rfl rfl (by decide +kernel) (by decide +kernel) (by decide +kernel) (c_X8_one_0 l E D cI cJ cB cZ h0 f0 h1 f1 h2 f2 h3 g0 e0 e1 e2 e3 e4 e5 e6 e7 e8 e9 e10 e11) (cwV 0 hts g9_X8_both_X8_one_200 rfl rfl rfl (by decide +kernel) ⟨Nat.le_of_ble_eq_true rfl, Nat.le_of_ble_eq_true rfl⟩) rfl hl.1 (Nat.le_of_ble_eq_true rfl) dX8_both_1 ⟨Nat.le_of_ble_eq_true rfl, Nat.le_of_ble_eq_true rfl⟩ (fun _ H locs hP hD hS => ?_)
  have hP : va_P D vwCl [(h0, .inr (8, ((((((((((f0.set 3 (.int 2)).set 4 (.int 0)).set 7 (.int 44)).set 13 (.int 1)).set 13 (.int 2)).set 7 (.int 44)).set 7 (.int 44)).set 13 (.int 3)).set 13 (.int 4)).set 13 (.int 5)))), (h1, .inr (3, f1)), (h2, .inr (2, f2)), (h3, .inl (cI, 13312, .inl (upd (upd (upd (upd (upd g0 12288 43) 12289 43) 12290 43) 12291 43) 12292 44)))] H := hP
  have hD : va_D A [(h0, .inr (8, ((((((((((f0.set 3 (.int 2)).set 4 (.int 0)).set 7 (.int 44)).set 13 (.int 1)).set 13 (.int 2)).set 7 (.int 44)).set 7 (.int 44)).set 13 (.int 3)).set 13 (.int 4)).set 13 (.int 5)))), (h1, .inr (3, f1)), (h2, .inr (2, f2)), (h3, .inl (cI, 13312, .inl (upd (upd (upd (upd (upd g0 12288 43) 12289 43) 12290 43) 12291 43) 12292 44)))] := hD
  refine lv_iconst (v := 0) hx hb dX8_both_4 (by decide) ?_
  refine lv_istore_n (lv' := [(1, .int 0), (0, .ref h0)]) hx hb dX8_both_5 rfl hl (by decide) rfl (fun ls hl => ?_)
  refine lv_iload_n hx hb dX8_both_6 rfl (lv_at hl 0 rfl) ?_
  refine lv_bipush (v := 120) hx hb dX8_both_7 (by decide) ?_
  refine lv_icmp_ge (tgt := 45) hx hb dX8_both_9 (by decide) (fun c9 => absurd c9 (by decide)) (fun _ => ?_)
  refine lv_aload_n hx hb dX8_both_12 rfl (lv_at hl 1 rfl) ?_
  refine k_get (D := D) (ci := 8) (v := .int 44) (N := 15) hx hb hts hin8 hown hK hP 0 rfl rfl (by decide) f9_8_7 (hts (.fieldLink RX8 39 "IntegerHouse$Reader" "kind" "I") (o9_X8_both _ (List.mem_of_getElem? (i := 4) rfl))) (k_ne (by decide) (k_ne (by decide) (k_ne (by decide) (k_set (k_set (k_ne (by decide) (k_ne (by decide) (k_set (k_ne (by decide) (k_ne (by decide) e0)))))))))) dX8_both_13 ?_
  refine lv_bipush (v := 23) hx hb dX8_both_16 (by decide) ?_
  refine lv_icmp_ne (tgt := 45) hx hb dX8_both_18 (by decide) (fun _ => ?_) (fun c9 => absurd c9 (by decide))
  exact W.vret hx hb hr (fun t ht hW => ⟨⟨(), rfl, trivial, kB_mk ht hW hP hK hD⟩, hS.F ht⟩) hS.2.2 dX8_both_45
set_option maxHeartbeats 400000000 in
set_option maxRecDepth 100000 in
theorem c_X8_side_0 (l : Launch) (E : kE) (D : va_G) (cI cJ cB cZ : ClassId) (h0 : Nat) (f0 : List Value) (h1 : Nat) (f1 : List Value) (h2 : Nat) (f2 : List Value) (h3 : Nat) (g0 : Nat → Int32) (e0 : f0[7]? = some (.int 0)) (e1 : f0[0]? = some (.ref h1)) (e2 : f0[6]? = some (.int 0)) (e3 : f1[5]? = some (.int 0)) (e4 : f0[1]? = some (.ref h2)) (e5 : f2[10]? = some (.int 0)) (e6 : f0[3]? = some (.int 0)) (e7 : f0[8]? = some (.int 0)) (e8 : f0[4]? = some (.int 0)) (e9 : f0[11]? = some (.int 24)) (e10 : f0[13]? = some (.int 0)) (e11 : f2[3]? = some (.ref h3)) : kV l E D (kT cI cJ cB cZ) yX8_side vW_X8_side ({ frames := 6, cells := 0, slots := 0, locals := 135 }) [.ref h0] [(h0, .inr (8, f0)), (h1, .inr (3, f1)), (h2, .inr (2, f2)), (h3, .inl (cI, 13312, .inl g0))] (fun _ : Unit => [(h0, .inr (8, ((((((((((f0.set 3 (.int 2)).set 4 (.int 0)).set 7 (.int 44)).set 13 (.int 1)).set 13 (.int 2)).set 7 (.int 44)).set 7 (.int 44)).set 13 (.int 3)).set 13 (.int 4)).set 13 (.int 5)))), (h1, .inr (3, f1)), (h2, .inr (2, f2)), (h3, .inl (cI, 13312, .inl (upd (upd (upd (upd (upd g0 12288 43) 12289 43) 12290 43) 12291 43) 12292 44)))]) 0 0 := by
  intro sz
  refine Met.ofW (cc := cX8_side) (maxL := 2) (ret := none) (by decide) rfl ?_
  intro p e s m args below meth c s₁ B hml hv
  obtain ⟨rfl, hsz, hP, hK, hD0, hN, hX⟩ := hv
  have hx := B.exec
  have hb := B.bytes
  have hr := B.returns
  have hts := atoms_spec (ws := vW_X8_side) B.pre
  have hown : s.vm.findClass RX8 = some m.cls := findClass_of_methodNamed B.named
  have hlocks := B.notSynchronized
  have hin8 : ∀ w ∈ wsX80, w ∈ vW_X8_side := u9_X8_side_wsX80
  subst hsz
  have hD := hD0.self (sz := s.heap.size)
  have hAE := k_AE hD0 hX
  generalize hAe : va_A [(h0, .inr (8, f0)), (h1, .inr (3, f1)), (h2, .inr (2, f2)), (h3, .inl (cI, 13312, .inl g0))] s.heap.size = A at hD hAE ⊢
  have hA : ∀ q : Nat, s.heap.size ≤ q → A q := fun q h => by rw [← hAe]; exact Or.inr h
  have hS : va_S A s.heap s.heap [] := va_S.rf
  have hP : va_P D vwCl [(h0, .inr (8, f0)), (h1, .inr (3, f1)), (h2, .inr (2, f2)), (h3, .inl (cI, 13312, .inl g0))] s.heap := hP
  have hl := lv_entry ([.ref h0] : List Value) (n := 2) (Nat.le_of_ble_eq_true rfl)
  rw [lg_entry_eq]
  generalize (lg_sl ([.ref h0]) ++ List.replicate (2 - (lg_sl ([.ref h0])).length) Slot.unset).toArray = ls at hl ⊢
  have hl : lv_has ls 2 [(0, .ref h0)] := hl
  refine lv_aload_n hx hb dX8_side_0 rfl (lv_at hl 0 rfl) ?_
  refine k_cVv (As := []) (rest := []) (wc := [(h0, .inr (8, f0)), (h1, .inr (3, f1)), (h2, .inr (2, f2)), (h3, .inl (cI, 13312, .inl g0))]) (wr := []) (w1 := (fun _ : Unit => [(h0, .inr (8, ((((((((((f0.set 3 (.int 2)).set 4 (.int 0)).set 7 (.int 44)).set 13 (.int 1)).set 13 (.int 2)).set 7 (.int 44)).set 7 (.int 44)).set 13 (.int 3)).set 13 (.int 4)).set 13 (.int 5)))), (h1, .inr (3, f1)), (h2, .inr (2, f2)), (h3, .inl (cI, 13312, .inl (upd (upd (upd (upd (upd g0 12288 43) 12289 43) 12290 43) 12291 43) 12292 44)))])) ⟨hx, hb, hml, hown, hts⟩ hN hX hAE hK hP hD hS hA [0, 1, 2, 3] [] (ci := 8) rfl rfl rfl rfl (by decide +kernel) (by decide +kernel) (by decide +kernel) (c_X8_both_0 l E D cI cJ cB cZ h0 f0 h1 f1 h2 f2 h3 g0 e0 e1 e2 e3 e4 e5 e6 e7 e8 e9 e10 e11) (cwV 0 hts g9_X8_side_X8_both_197 rfl rfl rfl (by decide +kernel) ⟨Nat.le_of_ble_eq_true rfl, Nat.le_of_ble_eq_true rfl⟩) rfl hl.1 (Nat.le_of_ble_eq_true rfl) dX8_side_1 ⟨Nat.le_of_ble_eq_true rfl, Nat.le_of_ble_eq_true rfl⟩ (fun _ H locs hP hD hS => ?_)
  have hP : va_P D vwCl [(h0, .inr (8, ((((((((((f0.set 3 (.int 2)).set 4 (.int 0)).set 7 (.int 44)).set 13 (.int 1)).set 13 (.int 2)).set 7 (.int 44)).set 7 (.int 44)).set 13 (.int 3)).set 13 (.int 4)).set 13 (.int 5)))), (h1, .inr (3, f1)), (h2, .inr (2, f2)), (h3, .inl (cI, 13312, .inl (upd (upd (upd (upd (upd g0 12288 43) 12289 43) 12290 43) 12291 43) 12292 44)))] H := hP
  have hD : va_D A [(h0, .inr (8, ((((((((((f0.set 3 (.int 2)).set 4 (.int 0)).set 7 (.int 44)).set 13 (.int 1)).set 13 (.int 2)).set 7 (.int 44)).set 7 (.int 44)).set 13 (.int 3)).set 13 (.int 4)).set 13 (.int 5)))), (h1, .inr (3, f1)), (h2, .inr (2, f2)), (h3, .inl (cI, 13312, .inl (upd (upd (upd (upd (upd g0 12288 43) 12289 43) 12290 43) 12291 43) 12292 44)))] := hD
  refine lv_iconst (v := 0) hx hb dX8_side_4 (by decide) ?_
  refine lv_istore_n (lv' := [(1, .int 0), (0, .ref h0)]) hx hb dX8_side_5 rfl hl (by decide) rfl (fun ls hl => ?_)
  refine lv_iload_n hx hb dX8_side_6 rfl (lv_at hl 0 rfl) ?_
  refine lv_bipush (v := 120) hx hb dX8_side_7 (by decide) ?_
  refine lv_icmp_ge (tgt := 45) hx hb dX8_side_9 (by decide) (fun c9 => absurd c9 (by decide)) (fun _ => ?_)
  refine lv_aload_n hx hb dX8_side_12 rfl (lv_at hl 1 rfl) ?_
  refine k_get (D := D) (ci := 8) (v := .int 44) (N := 15) hx hb hts hin8 hown hK hP 0 rfl rfl (by decide) f9_8_7 (hts (.fieldLink RX8 39 "IntegerHouse$Reader" "kind" "I") (o9_X8_side _ (List.mem_of_getElem? (i := 4) rfl))) (k_ne (by decide) (k_ne (by decide) (k_ne (by decide) (k_set (k_set (k_ne (by decide) (k_ne (by decide) (k_set (k_ne (by decide) (k_ne (by decide) e0)))))))))) dX8_side_13 ?_
  refine lv_bipush (v := 24) hx hb dX8_side_16 (by decide) ?_
  refine lv_icmp_ne (tgt := 45) hx hb dX8_side_18 (by decide) (fun _ => ?_) (fun c9 => absurd c9 (by decide))
  exact W.vret hx hb hr (fun t ht hW => ⟨⟨(), rfl, trivial, kB_mk ht hW hP hK hD⟩, hS.F ht⟩) hS.2.2 dX8_side_45
set_option maxHeartbeats 400000000 in
set_option maxRecDepth 100000 in
theorem c_X8_formula_0 (l : Launch) (E : kE) (D : va_G) (cI cJ cB cZ : ClassId) (h0 : Nat) (f0 : List Value) (h1 : Nat) (f1 : List Value) (h2 : Nat) (f2 : List Value) (h3 : Nat) (g0 : Nat → Int32) (e0 : f0[7]? = some (.int 0)) (e1 : f0[0]? = some (.ref h1)) (e2 : f0[6]? = some (.int 0)) (e3 : f1[5]? = some (.int 0)) (e4 : f0[1]? = some (.ref h2)) (e5 : f2[10]? = some (.int 0)) (e6 : f0[3]? = some (.int 0)) (e7 : f0[8]? = some (.int 0)) (e8 : f0[4]? = some (.int 0)) (e9 : f0[11]? = some (.int 24)) (e10 : f0[13]? = some (.int 0)) (e11 : f2[3]? = some (.ref h3)) : kV l E D (kT cI cJ cB cZ) yX8_formula vW_X8_formula ({ frames := 7, cells := 0, slots := 0, locals := 156 }) [.ref h0] [(h0, .inr (8, f0)), (h1, .inr (3, f1)), (h2, .inr (2, f2)), (h3, .inl (cI, 13312, .inl g0))] (fun _ : Unit => [(h0, .inr (8, ((((((((((f0.set 3 (.int 2)).set 4 (.int 0)).set 7 (.int 44)).set 13 (.int 1)).set 13 (.int 2)).set 7 (.int 44)).set 7 (.int 44)).set 13 (.int 3)).set 13 (.int 4)).set 13 (.int 5)))), (h1, .inr (3, f1)), (h2, .inr (2, f2)), (h3, .inl (cI, 13312, .inl (upd (upd (upd (upd (upd g0 12288 43) 12289 43) 12290 43) 12291 43) 12292 44)))]) 0 0 := by
  intro sz
  refine Met.ofW (cc := cX8_formula) (maxL := 2) (ret := none) (by decide) rfl ?_
  intro p e s m args below meth c s₁ B hml hv
  obtain ⟨rfl, hsz, hP, hK, hD0, hN, hX⟩ := hv
  have hx := B.exec
  have hb := B.bytes
  have hr := B.returns
  have hts := atoms_spec (ws := vW_X8_formula) B.pre
  have hown : s.vm.findClass RX8 = some m.cls := findClass_of_methodNamed B.named
  have hlocks := B.notSynchronized
  have hin8 : ∀ w ∈ wsX80, w ∈ vW_X8_formula := u9_X8_formula_wsX80
  subst hsz
  have hD := hD0.self (sz := s.heap.size)
  have hAE := k_AE hD0 hX
  generalize hAe : va_A [(h0, .inr (8, f0)), (h1, .inr (3, f1)), (h2, .inr (2, f2)), (h3, .inl (cI, 13312, .inl g0))] s.heap.size = A at hD hAE ⊢
  have hA : ∀ q : Nat, s.heap.size ≤ q → A q := fun q h => by rw [← hAe]; exact Or.inr h
  have hS : va_S A s.heap s.heap [] := va_S.rf
  have hP : va_P D vwCl [(h0, .inr (8, f0)), (h1, .inr (3, f1)), (h2, .inr (2, f2)), (h3, .inl (cI, 13312, .inl g0))] s.heap := hP
  have hl := lv_entry ([.ref h0] : List Value) (n := 2) (Nat.le_of_ble_eq_true rfl)
  rw [lg_entry_eq]
  generalize (lg_sl ([.ref h0]) ++ List.replicate (2 - (lg_sl ([.ref h0])).length) Slot.unset).toArray = ls at hl ⊢
  have hl : lv_has ls 2 [(0, .ref h0)] := hl
  refine lv_aload_n hx hb dX8_formula_0 rfl (lv_at hl 0 rfl) ?_
  refine k_cVv (As := []) (rest := []) (wc := [(h0, .inr (8, f0)), (h1, .inr (3, f1)), (h2, .inr (2, f2)), (h3, .inl (cI, 13312, .inl g0))]) (wr := []) (w1 := (fun _ : Unit => [(h0, .inr (8, ((((((((((f0.set 3 (.int 2)).set 4 (.int 0)).set 7 (.int 44)).set 13 (.int 1)).set 13 (.int 2)).set 7 (.int 44)).set 7 (.int 44)).set 13 (.int 3)).set 13 (.int 4)).set 13 (.int 5)))), (h1, .inr (3, f1)), (h2, .inr (2, f2)), (h3, .inl (cI, 13312, .inl (upd (upd (upd (upd (upd g0 12288 43) 12289 43) 12290 43) 12291 43) 12292 44)))])) ⟨hx, hb, hml, hown, hts⟩ hN hX hAE hK hP hD hS hA [0, 1, 2, 3] [] (ci := 8) rfl rfl rfl rfl (by decide +kernel) (by decide +kernel) (by decide +kernel) (c_X8_side_0 l E D cI cJ cB cZ h0 f0 h1 f1 h2 f2 h3 g0 e0 e1 e2 e3 e4 e5 e6 e7 e8 e9 e10 e11) (cwV 0 hts g9_X8_formula_X8_side_188 rfl rfl rfl (by decide +kernel) ⟨Nat.le_of_ble_eq_true rfl, Nat.le_of_ble_eq_true rfl⟩) rfl hl.1 (Nat.le_of_ble_eq_true rfl) dX8_formula_1 ⟨Nat.le_of_ble_eq_true rfl, Nat.le_of_ble_eq_true rfl⟩ (fun _ H locs hP hD hS => ?_)
  have hP : va_P D vwCl [(h0, .inr (8, ((((((((((f0.set 3 (.int 2)).set 4 (.int 0)).set 7 (.int 44)).set 13 (.int 1)).set 13 (.int 2)).set 7 (.int 44)).set 7 (.int 44)).set 13 (.int 3)).set 13 (.int 4)).set 13 (.int 5)))), (h1, .inr (3, f1)), (h2, .inr (2, f2)), (h3, .inl (cI, 13312, .inl (upd (upd (upd (upd (upd g0 12288 43) 12289 43) 12290 43) 12291 43) 12292 44)))] H := hP
  have hD : va_D A [(h0, .inr (8, ((((((((((f0.set 3 (.int 2)).set 4 (.int 0)).set 7 (.int 44)).set 13 (.int 1)).set 13 (.int 2)).set 7 (.int 44)).set 7 (.int 44)).set 13 (.int 3)).set 13 (.int 4)).set 13 (.int 5)))), (h1, .inr (3, f1)), (h2, .inr (2, f2)), (h3, .inl (cI, 13312, .inl (upd (upd (upd (upd (upd g0 12288 43) 12289 43) 12290 43) 12291 43) 12292 44)))] := hD
  refine lv_aload_n hx hb dX8_formula_4 rfl (lv_at hl 0 rfl) ?_
  refine k_get (D := D) (ci := 8) (v := .int 44) (N := 15) hx hb hts hin8 hown hK hP 0 rfl rfl (by decide) f9_8_7 (hts (.fieldLink RX8 39 "IntegerHouse$Reader" "kind" "I") (o9_X8_formula _ (List.mem_of_getElem? (i := 4) rfl))) (k_ne (by decide) (k_ne (by decide) (k_ne (by decide) (k_set (k_set (k_ne (by decide) (k_ne (by decide) (k_set (k_ne (by decide) (k_ne (by decide) e0)))))))))) dX8_formula_5 ?_
  refine lv_istore_n (lv' := [(1, .int 44), (0, .ref h0)]) hx hb dX8_formula_8 rfl hl (by decide) rfl (fun ls hl => ?_)
  refine lv_iload_n hx hb dX8_formula_9 rfl (lv_at hl 0 rfl) ?_
  refine lv_bipush (v := 19) hx hb dX8_formula_10 (by decide) ?_
  refine lv_icmp_eq (tgt := 21) hx hb dX8_formula_12 (by decide) (fun c9 => absurd c9 (by decide)) (fun _ => ?_)
  refine lv_iload_n hx hb dX8_formula_15 rfl (lv_at hl 0 rfl) ?_
  refine lv_bipush (v := 20) hx hb dX8_formula_16 (by decide) ?_
  refine lv_icmp_ne (tgt := 36) hx hb dX8_formula_18 (by decide) (fun _ => ?_) (fun c9 => absurd c9 (by decide))
  exact W.vret hx hb hr (fun t ht hW => ⟨⟨(), rfl, trivial, kB_mk ht hW hP hK hD⟩, hS.F ht⟩) hS.2.2 dX8_formula_36
set_option maxHeartbeats 400000000 in
set_option maxRecDepth 100000 in
theorem c_X2_setFact_1 (l : Launch) (E : kE) (D : va_G) (cI cJ cB cZ : ClassId) (h0 : Nat) (f0 : List Value) (h1 : Nat) (g0 : Nat → Int32) (e0 : f0[5]? = some (.ref h1)) : kV l E D (kT cI cJ cB cZ) yX2_setFact vW_X2_setFact ({ frames := 0, cells := 0, slots := 0, locals := 0 }) [.ref h0, .int 24, .int 0, .int 0] [(h0, .inr (2, f0)), (h1, .inl (cI, 260, .inl g0))] (fun _ : Unit => [(h0, .inr (2, f0)), (h1, .inl (cI, 260, .inl (upd g0 240 0)))]) 0 0 := by
  intro sz
  refine Met.ofW (cc := cX2_setFact) (maxL := 4) (ret := none) (by decide) rfl ?_
  intro p e s m args below meth c s₁ B hml hv
  obtain ⟨rfl, hsz, hP, hK, hD0, hN, hX⟩ := hv
  have hx := B.exec
  have hb := B.bytes
  have hr := B.returns
  have hts := atoms_spec (ws := vW_X2_setFact) B.pre
  have hown : s.vm.findClass RX2 = some m.cls := findClass_of_methodNamed B.named
  have hlocks := B.notSynchronized
  have hin2 : ∀ w ∈ wsX20, w ∈ vW_X2_setFact := u9_X2_setFact_wsX20
  subst hsz
  have hD := hD0.self (sz := s.heap.size)
  have hAE := k_AE hD0 hX
  generalize hAe : va_A [(h0, .inr (2, f0)), (h1, .inl (cI, 260, .inl g0))] s.heap.size = A at hD hAE ⊢
  have hA : ∀ q : Nat, s.heap.size ≤ q → A q := fun q h => by rw [← hAe]; exact Or.inr h
  have hS : va_S A s.heap s.heap [] := va_S.rf
  have hP : va_P D vwCl [(h0, .inr (2, f0)), (h1, .inl (cI, 260, .inl g0))] s.heap := hP
  have hl := lv_entry ([.ref h0, .int 24, .int 0, .int 0] : List Value) (n := 4) (Nat.le_of_ble_eq_true rfl)
  rw [lg_entry_eq]
  generalize (lg_sl ([.ref h0, .int 24, .int 0, .int 0]) ++ List.replicate (4 - (lg_sl ([.ref h0, .int 24, .int 0, .int 0])).length) Slot.unset).toArray = ls at hl ⊢
  have hl : lv_has ls 4 [(0, .ref h0), (1, .int 24), (2, .int 0), (3, .int 0)] := hl
  refine lv_iload_n hx hb dX2_setFact_0 rfl (lv_at hl 1 rfl) ?_
  refine lv_if_lt (tgt := 32) hx hb dX2_setFact_1 (by decide) (fun c9 => absurd c9 (by decide)) (fun _ => ?_)
  refine lv_iload_n hx hb dX2_setFact_4 rfl (lv_at hl 1 rfl) ?_
  refine lv_bipush (v := 26) hx hb dX2_setFact_5 (by decide) ?_
  refine lv_icmp_ge (tgt := 32) hx hb dX2_setFact_7 (by decide) (fun c9 => absurd c9 (by decide)) (fun _ => ?_)
  refine lv_iload_n hx hb dX2_setFact_10 rfl (lv_at hl 2 rfl) ?_
  refine lv_if_lt (tgt := 32) hx hb dX2_setFact_11 (by decide) (fun c9 => absurd c9 (by decide)) (fun _ => ?_)
  refine lv_iload_n hx hb dX2_setFact_14 rfl (lv_at hl 2 rfl) ?_
  refine lv_bipush (v := 10) hx hb dX2_setFact_15 (by decide) ?_
  refine lv_icmp_ge (tgt := 32) hx hb dX2_setFact_17 (by decide) (fun c9 => absurd c9 (by decide)) (fun _ => ?_)
  refine lv_aload_n hx hb dX2_setFact_20 rfl (lv_at hl 0 rfl) ?_
  refine k_get (D := D) (ci := 2) (v := .ref h1) (N := 16) hx hb hts hin2 hown hK hP 0 rfl rfl (by decide) f9_2_5 (hts (.fieldLink RX2 28 "IntegerHouse$House" "facts" "[I") (o9_X2_setFact _ (List.mem_of_getElem? (i := 0) rfl))) e0 dX2_setFact_21 ?_
  refine lv_iload_n hx hb dX2_setFact_24 rfl (lv_at hl 1 rfl) ?_
  refine lv_bipush (v := 10) hx hb dX2_setFact_25 (by decide) ?_
  refine lv_imul hx hb dX2_setFact_27 ?_
  refine k_topi (y := 240) (by decide) ?_
  refine lv_iload_n hx hb dX2_setFact_28 rfl (lv_at hl 2 rfl) ?_
  refine lv_iadd hx hb dX2_setFact_29 ?_
  refine k_topi (y := 240) (by decide) ?_
  refine lv_iload_n hx hb dX2_setFact_30 rfl (lv_at hl 3 rfl) ?_
  refine va_iast hx hb hK hP hD hS 1 0 rfl rfl (k_in (by decide)) dX2_setFact_31 (fun H locs hP hD hS => ?_)
  have hP : va_P D vwCl [(h0, .inr (2, f0)), (h1, .inl (cI, 260, .inl (upd g0 240 0)))] H := hP
  have hD : va_D A [(h0, .inr (2, f0)), (h1, .inl (cI, 260, .inl (upd g0 240 0)))] := hD
  exact W.vret hx hb hr (fun t ht hW => ⟨⟨(), rfl, trivial, kB_mk ht hW hP hK hD⟩, hS.F ht⟩) hS.2.2 dX2_setFact_32
set_option maxHeartbeats 400000000 in
set_option maxRecDepth 100000 in
theorem c_X2_setFact_2 (l : Launch) (E : kE) (D : va_G) (cI cJ cB cZ : ClassId) (h0 : Nat) (f0 : List Value) (h1 : Nat) (g0 : Nat → Int32) (e0 : f0[5]? = some (.ref h1)) : kV l E D (kT cI cJ cB cZ) yX2_setFact vW_X2_setFact ({ frames := 0, cells := 0, slots := 0, locals := 0 }) [.ref h0, .int 24, .int 1, .int 5] [(h0, .inr (2, f0)), (h1, .inl (cI, 260, .inl g0))] (fun _ : Unit => [(h0, .inr (2, f0)), (h1, .inl (cI, 260, .inl (upd g0 241 5)))]) 0 0 := by
  intro sz
  refine Met.ofW (cc := cX2_setFact) (maxL := 4) (ret := none) (by decide) rfl ?_
  intro p e s m args below meth c s₁ B hml hv
  obtain ⟨rfl, hsz, hP, hK, hD0, hN, hX⟩ := hv
  have hx := B.exec
  have hb := B.bytes
  have hr := B.returns
  have hts := atoms_spec (ws := vW_X2_setFact) B.pre
  have hown : s.vm.findClass RX2 = some m.cls := findClass_of_methodNamed B.named
  have hlocks := B.notSynchronized
  have hin2 : ∀ w ∈ wsX20, w ∈ vW_X2_setFact := u9_X2_setFact_wsX20
  subst hsz
  have hD := hD0.self (sz := s.heap.size)
  have hAE := k_AE hD0 hX
  generalize hAe : va_A [(h0, .inr (2, f0)), (h1, .inl (cI, 260, .inl g0))] s.heap.size = A at hD hAE ⊢
  have hA : ∀ q : Nat, s.heap.size ≤ q → A q := fun q h => by rw [← hAe]; exact Or.inr h
  have hS : va_S A s.heap s.heap [] := va_S.rf
  have hP : va_P D vwCl [(h0, .inr (2, f0)), (h1, .inl (cI, 260, .inl g0))] s.heap := hP
  have hl := lv_entry ([.ref h0, .int 24, .int 1, .int 5] : List Value) (n := 4) (Nat.le_of_ble_eq_true rfl)
  rw [lg_entry_eq]
  generalize (lg_sl ([.ref h0, .int 24, .int 1, .int 5]) ++ List.replicate (4 - (lg_sl ([.ref h0, .int 24, .int 1, .int 5])).length) Slot.unset).toArray = ls at hl ⊢
  have hl : lv_has ls 4 [(0, .ref h0), (1, .int 24), (2, .int 1), (3, .int 5)] := hl
  refine lv_iload_n hx hb dX2_setFact_0 rfl (lv_at hl 1 rfl) ?_
  refine lv_if_lt (tgt := 32) hx hb dX2_setFact_1 (by decide) (fun c9 => absurd c9 (by decide)) (fun _ => ?_)
  refine lv_iload_n hx hb dX2_setFact_4 rfl (lv_at hl 1 rfl) ?_
  refine lv_bipush (v := 26) hx hb dX2_setFact_5 (by decide) ?_
  refine lv_icmp_ge (tgt := 32) hx hb dX2_setFact_7 (by decide) (fun c9 => absurd c9 (by decide)) (fun _ => ?_)
  refine lv_iload_n hx hb dX2_setFact_10 rfl (lv_at hl 2 rfl) ?_
  refine lv_if_lt (tgt := 32) hx hb dX2_setFact_11 (by decide) (fun c9 => absurd c9 (by decide)) (fun _ => ?_)
  refine lv_iload_n hx hb dX2_setFact_14 rfl (lv_at hl 2 rfl) ?_
  refine lv_bipush (v := 10) hx hb dX2_setFact_15 (by decide) ?_
  refine lv_icmp_ge (tgt := 32) hx hb dX2_setFact_17 (by decide) (fun c9 => absurd c9 (by decide)) (fun _ => ?_)
  refine lv_aload_n hx hb dX2_setFact_20 rfl (lv_at hl 0 rfl) ?_
  refine k_get (D := D) (ci := 2) (v := .ref h1) (N := 16) hx hb hts hin2 hown hK hP 0 rfl rfl (by decide) f9_2_5 (hts (.fieldLink RX2 28 "IntegerHouse$House" "facts" "[I") (o9_X2_setFact _ (List.mem_of_getElem? (i := 0) rfl))) e0 dX2_setFact_21 ?_
  refine lv_iload_n hx hb dX2_setFact_24 rfl (lv_at hl 1 rfl) ?_
  refine lv_bipush (v := 10) hx hb dX2_setFact_25 (by decide) ?_
  refine lv_imul hx hb dX2_setFact_27 ?_
  refine k_topi (y := 240) (by decide) ?_
  refine lv_iload_n hx hb dX2_setFact_28 rfl (lv_at hl 2 rfl) ?_
  refine lv_iadd hx hb dX2_setFact_29 ?_
  refine k_topi (y := 241) (by decide) ?_
  refine lv_iload_n hx hb dX2_setFact_30 rfl (lv_at hl 3 rfl) ?_
  refine va_iast hx hb hK hP hD hS 1 0 rfl rfl (k_in (by decide)) dX2_setFact_31 (fun H locs hP hD hS => ?_)
  have hP : va_P D vwCl [(h0, .inr (2, f0)), (h1, .inl (cI, 260, .inl (upd g0 241 5)))] H := hP
  have hD : va_D A [(h0, .inr (2, f0)), (h1, .inl (cI, 260, .inl (upd g0 241 5)))] := hD
  exact W.vret hx hb hr (fun t ht hW => ⟨⟨(), rfl, trivial, kB_mk ht hW hP hK hD⟩, hS.F ht⟩) hS.2.2 dX2_setFact_32
set_option maxHeartbeats 400000000 in
set_option maxRecDepth 100000 in
theorem c_X8_readInto_0 (l : Launch) (E : kE) (D : va_G) (cI cJ cB cZ : ClassId) (h0 : Nat) (f0 : List Value) (h1 : Nat) (f1 : List Value) (h2 : Nat) (g0 : Nat → Int32) (h3 : Nat) (f2 : List Value) (h4 : Nat) (g1 : Nat → Int32) (e0 : f0[11]? = some (.int 0)) (e1 : f0[12]? = some (.int 0)) (e2 : f0[13]? = some (.int 0)) (e3 : f0[14]? = some (.int 0)) (e4 : f0[1]? = some (.ref h1)) (e5 : f0[8]? = some (.int 0)) (e6 : f1[5]? = some (.ref h2)) (e7 : f0[7]? = some (.int 0)) (e8 : f0[0]? = some (.ref h3)) (e9 : f0[6]? = some (.int 0)) (e10 : f2[5]? = some (.int 0)) (e11 : f1[10]? = some (.int 0)) (e12 : f0[3]? = some (.int 0)) (e13 : f0[4]? = some (.int 0)) (e14 : f1[3]? = some (.ref h4)) : kV l E D (kT cI cJ cB cZ) yX8_readInto vW_X8_readInto ({ frames := 8, cells := 0, slots := 0, locals := 177 }) [.ref h0, .int 24] [(h0, .inr (8, f0)), (h1, .inr (2, f1)), (h2, .inl (cI, 260, .inl g0)), (h3, .inr (3, f2)), (h4, .inl (cI, 13312, .inl g1))] (fun _ : Unit => [(h0, .inr (8, ((((((((((((((f0.set 11 (.int 24)).set 12 (.int 0)).set 13 (.int 0)).set 14 (.int 0)).set 3 (.int 2)).set 4 (.int 0)).set 7 (.int 44)).set 13 (.int 1)).set 13 (.int 2)).set 7 (.int 44)).set 7 (.int 44)).set 13 (.int 3)).set 13 (.int 4)).set 13 (.int 5)))), (h1, .inr (2, f1)), (h2, .inl (cI, 260, .inl (upd (upd (upd g0 249 0) 240 0) 241 5))), (h3, .inr (3, f2)), (h4, .inl (cI, 13312, .inl (upd (upd (upd (upd (upd g1 12288 43) 12289 43) 12290 43) 12291 43) 12292 44)))]) 0 0 := by
  intro sz
  refine Met.ofW (cc := cX8_readInto) (maxL := 2) (ret := none) (by decide) rfl ?_
  intro p e s m args below meth c s₁ B hml hv
  obtain ⟨rfl, hsz, hP, hK, hD0, hN, hX⟩ := hv
  have hx := B.exec
  have hb := B.bytes
  have hr := B.returns
  have hts := atoms_spec (ws := vW_X8_readInto) B.pre
  have hown : s.vm.findClass RX8 = some m.cls := findClass_of_methodNamed B.named
  have hlocks := B.notSynchronized
  have hin8 : ∀ w ∈ wsX80, w ∈ vW_X8_readInto := u9_X8_readInto_wsX80
  subst hsz
  have hD := hD0.self (sz := s.heap.size)
  have hAE := k_AE hD0 hX
  generalize hAe : va_A [(h0, .inr (8, f0)), (h1, .inr (2, f1)), (h2, .inl (cI, 260, .inl g0)), (h3, .inr (3, f2)), (h4, .inl (cI, 13312, .inl g1))] s.heap.size = A at hD hAE ⊢
  have hA : ∀ q : Nat, s.heap.size ≤ q → A q := fun q h => by rw [← hAe]; exact Or.inr h
  have hS : va_S A s.heap s.heap [] := va_S.rf
  have hP : va_P D vwCl [(h0, .inr (8, f0)), (h1, .inr (2, f1)), (h2, .inl (cI, 260, .inl g0)), (h3, .inr (3, f2)), (h4, .inl (cI, 13312, .inl g1))] s.heap := hP
  have hl := lv_entry ([.ref h0, .int 24] : List Value) (n := 2) (Nat.le_of_ble_eq_true rfl)
  rw [lg_entry_eq]
  generalize (lg_sl ([.ref h0, .int 24]) ++ List.replicate (2 - (lg_sl ([.ref h0, .int 24])).length) Slot.unset).toArray = ls at hl ⊢
  have hl : lv_has ls 2 [(0, .ref h0), (1, .int 24)] := hl
  refine lv_aload_n hx hb dX8_readInto_0 rfl (lv_at hl 0 rfl) ?_
  refine lv_iload_n hx hb dX8_readInto_1 rfl (lv_at hl 1 rfl) ?_
  refine k_put (D := D) (ci := 8) (v := .int 24) (ty := .int) (N := 15) hx hb hts hin8 tyX8 tyX8_ok nmX8 hown hK hP hD hS 0 rfl rfl (by decide) f9_8_11 (hts (.fieldLink RX8 164 "IntegerHouse$Reader" "slot" "I") (o9_X8_readInto _ (List.mem_of_getElem? (i := 0) rfl))) rfl pd_2 rfl rfl (k_len e0) dX8_readInto_2 (fun H locs hP hD hS => ?_)
  have hP : va_P D vwCl [(h0, .inr (8, (f0.set 11 (.int 24)))), (h1, .inr (2, f1)), (h2, .inl (cI, 260, .inl g0)), (h3, .inr (3, f2)), (h4, .inl (cI, 13312, .inl g1))] H := hP
  have hD : va_D A [(h0, .inr (8, (f0.set 11 (.int 24)))), (h1, .inr (2, f1)), (h2, .inl (cI, 260, .inl g0)), (h3, .inr (3, f2)), (h4, .inl (cI, 13312, .inl g1))] := hD
  refine lv_aload_n hx hb dX8_readInto_5 rfl (lv_at hl 0 rfl) ?_
  refine lv_iconst (v := 0) hx hb dX8_readInto_6 (by decide) ?_
  refine k_put (D := D) (ci := 8) (v := .int 0) (ty := .int) (N := 15) hx hb hts hin8 tyX8 tyX8_ok nmX8 hown hK hP hD hS 0 rfl rfl (by decide) f9_8_12 (hts (.fieldLink RX8 167 "IntegerHouse$Reader" "tokens" "I") (o9_X8_readInto _ (List.mem_of_getElem? (i := 1) rfl))) rfl pd_2 rfl rfl (k_len (k_ne (by decide) e1)) dX8_readInto_7 (fun H locs hP hD hS => ?_)
  have hP : va_P D vwCl [(h0, .inr (8, ((f0.set 11 (.int 24)).set 12 (.int 0)))), (h1, .inr (2, f1)), (h2, .inl (cI, 260, .inl g0)), (h3, .inr (3, f2)), (h4, .inl (cI, 13312, .inl g1))] H := hP
  have hD : va_D A [(h0, .inr (8, ((f0.set 11 (.int 24)).set 12 (.int 0)))), (h1, .inr (2, f1)), (h2, .inl (cI, 260, .inl g0)), (h3, .inr (3, f2)), (h4, .inl (cI, 13312, .inl g1))] := hD
  refine lv_aload_n hx hb dX8_readInto_10 rfl (lv_at hl 0 rfl) ?_
  refine lv_iconst (v := 0) hx hb dX8_readInto_11 (by decide) ?_
  refine k_put (D := D) (ci := 8) (v := .int 0) (ty := .int) (N := 15) hx hb hts hin8 tyX8 tyX8_ok nmX8 hown hK hP hD hS 0 rfl rfl (by decide) f9_8_13 (hts (.fieldLink RX8 170 "IntegerHouse$Reader" "steps" "I") (o9_X8_readInto _ (List.mem_of_getElem? (i := 2) rfl))) rfl pd_2 rfl rfl (k_len (k_ne (by decide) (k_ne (by decide) e2))) dX8_readInto_12 (fun H locs hP hD hS => ?_)
  have hP : va_P D vwCl [(h0, .inr (8, (((f0.set 11 (.int 24)).set 12 (.int 0)).set 13 (.int 0)))), (h1, .inr (2, f1)), (h2, .inl (cI, 260, .inl g0)), (h3, .inr (3, f2)), (h4, .inl (cI, 13312, .inl g1))] H := hP
  have hD : va_D A [(h0, .inr (8, (((f0.set 11 (.int 24)).set 12 (.int 0)).set 13 (.int 0)))), (h1, .inr (2, f1)), (h2, .inl (cI, 260, .inl g0)), (h3, .inr (3, f2)), (h4, .inl (cI, 13312, .inl g1))] := hD
  refine lv_aload_n hx hb dX8_readInto_15 rfl (lv_at hl 0 rfl) ?_
  refine lv_iconst (v := 0) hx hb dX8_readInto_16 (by decide) ?_
  refine k_put (D := D) (ci := 8) (v := .int 0) (ty := .int) (N := 15) hx hb hts hin8 tyX8 tyX8_ok nmX8 hown hK hP hD hS 0 rfl rfl (by decide) f9_8_14 (hts (.fieldLink RX8 173 "IntegerHouse$Reader" "open" "I") (o9_X8_readInto _ (List.mem_of_getElem? (i := 3) rfl))) rfl pd_2 rfl rfl (k_len (k_ne (by decide) (k_ne (by decide) (k_ne (by decide) e3)))) dX8_readInto_17 (fun H locs hP hD hS => ?_)
  have hP : va_P D vwCl [(h0, .inr (8, ((((f0.set 11 (.int 24)).set 12 (.int 0)).set 13 (.int 0)).set 14 (.int 0)))), (h1, .inr (2, f1)), (h2, .inl (cI, 260, .inl g0)), (h3, .inr (3, f2)), (h4, .inl (cI, 13312, .inl g1))] H := hP
  have hD : va_D A [(h0, .inr (8, ((((f0.set 11 (.int 24)).set 12 (.int 0)).set 13 (.int 0)).set 14 (.int 0)))), (h1, .inr (2, f1)), (h2, .inl (cI, 260, .inl g0)), (h3, .inr (3, f2)), (h4, .inl (cI, 13312, .inl g1))] := hD
  refine lv_aload_n hx hb dX8_readInto_20 rfl (lv_at hl 0 rfl) ?_
  refine k_get (D := D) (ci := 8) (v := .ref h1) (N := 15) hx hb hts hin8 hown hK hP 0 rfl rfl (by decide) f9_8_1 (hts (.fieldLink RX8 15 "IntegerHouse$Reader" "house" "LIntegerHouse$House;") (o9_X8_readInto _ (List.mem_of_getElem? (i := 4) rfl))) (k_ne (by decide) (k_ne (by decide) (k_ne (by decide) (k_ne (by decide) e4)))) dX8_readInto_21 ?_
  refine lv_iload_n hx hb dX8_readInto_24 rfl (lv_at hl 1 rfl) ?_
  refine lv_bipush (v := 9) hx hb dX8_readInto_25 (by decide) ?_
  refine lv_aload_n hx hb dX8_readInto_27 rfl (lv_at hl 0 rfl) ?_
  refine k_get (D := D) (ci := 8) (v := .int 0) (N := 15) hx hb hts hin8 hown hK hP 0 rfl rfl (by decide) f9_8_8 (hts (.fieldLink RX8 136 "IntegerHouse$Reader" "place" "I") (o9_X8_readInto _ (List.mem_of_getElem? (i := 5) rfl))) (k_ne (by decide) (k_ne (by decide) (k_ne (by decide) (k_ne (by decide) e5)))) dX8_readInto_28 ?_
  refine k_cVv (As := [.int 24, .int 9, .int 0]) (rest := []) (wc := [(h1, .inr (2, f1)), (h2, .inl (cI, 260, .inl g0))]) (wr := [(h0, .inr (8, ((((f0.set 11 (.int 24)).set 12 (.int 0)).set 13 (.int 0)).set 14 (.int 0)))), (h3, .inr (3, f2)), (h4, .inl (cI, 13312, .inl g1))]) (w1 := (fun _ : Unit => [(h1, .inr (2, f1)), (h2, .inl (cI, 260, .inl (upd g0 249 0)))])) ⟨hx, hb, hml, hown, hts⟩ hN hX hAE hK hP hD hS hA [1, 2] [0, 3, 4] (ci := 2) rfl rfl rfl rfl (by decide +kernel) (by decide +kernel) (by decide +kernel) (c_X2_setFact_0 l E D cI cJ cB cZ h1 f1 h2 g0 e6) (cwV 3 hts g9_X8_readInto_X2_setFact_157 rfl rfl rfl (by decide +kernel) ⟨Nat.le_of_ble_eq_true rfl, Nat.le_of_ble_eq_true rfl⟩) rfl hl.1 (Nat.le_of_ble_eq_true rfl) dX8_readInto_31 ⟨Nat.le_of_ble_eq_true rfl, Nat.le_of_ble_eq_true rfl⟩ (fun _ H locs hP hD hS => ?_)
  have hP : va_P D vwCl [(h0, .inr (8, ((((f0.set 11 (.int 24)).set 12 (.int 0)).set 13 (.int 0)).set 14 (.int 0)))), (h3, .inr (3, f2)), (h4, .inl (cI, 13312, .inl g1)), (h1, .inr (2, f1)), (h2, .inl (cI, 260, .inl (upd g0 249 0)))] H := hP
  have hD : va_D A [(h0, .inr (8, ((((f0.set 11 (.int 24)).set 12 (.int 0)).set 13 (.int 0)).set 14 (.int 0)))), (h3, .inr (3, f2)), (h4, .inl (cI, 13312, .inl g1)), (h1, .inr (2, f1)), (h2, .inl (cI, 260, .inl (upd g0 249 0)))] := hD
  refine lv_iload_n hx hb dX8_readInto_34 rfl (lv_at hl 1 rfl) ?_
  refine lv_bipush (v := 25) hx hb dX8_readInto_35 (by decide) ?_
  refine lv_icmp_ne (tgt := 47) hx hb dX8_readInto_37 (by decide) (fun _ => ?_) (fun c9 => absurd c9 (by decide))
  refine lv_aload_n hx hb dX8_readInto_47 rfl (lv_at hl 0 rfl) ?_
  refine k_cVv (As := []) (rest := []) (wc := [(h0, .inr (8, ((((f0.set 11 (.int 24)).set 12 (.int 0)).set 13 (.int 0)).set 14 (.int 0)))), (h3, .inr (3, f2)), (h1, .inr (2, f1)), (h4, .inl (cI, 13312, .inl g1))]) (wr := [(h2, .inl (cI, 260, .inl (upd g0 249 0)))]) (w1 := (fun _ : Unit => [(h0, .inr (8, ((((((((((((((f0.set 11 (.int 24)).set 12 (.int 0)).set 13 (.int 0)).set 14 (.int 0)).set 3 (.int 2)).set 4 (.int 0)).set 7 (.int 44)).set 13 (.int 1)).set 13 (.int 2)).set 7 (.int 44)).set 7 (.int 44)).set 13 (.int 3)).set 13 (.int 4)).set 13 (.int 5)))), (h3, .inr (3, f2)), (h1, .inr (2, f1)), (h4, .inl (cI, 13312, .inl (upd (upd (upd (upd (upd g1 12288 43) 12289 43) 12290 43) 12291 43) 12292 44)))])) ⟨hx, hb, hml, hown, hts⟩ hN hX hAE hK hP hD hS hA [0, 1, 3, 2] [4] (ci := 8) rfl rfl rfl rfl (by decide +kernel) (by decide +kernel) (by decide +kernel) (c_X8_formula_0 l E D cI cJ cB cZ h0 (((((f0.set 11 (.int 24)).set 12 (.int 0)).set 13 (.int 0)).set 14 (.int 0))) h3 f2 h1 f1 h4 g1 (k_ne (by decide) (k_ne (by decide) (k_ne (by decide) (k_ne (by decide) e7)))) (k_ne (by decide) (k_ne (by decide) (k_ne (by decide) (k_ne (by decide) e8)))) (k_ne (by decide) (k_ne (by decide) (k_ne (by decide) (k_ne (by decide) e9)))) e10 (k_ne (by decide) (k_ne (by decide) (k_ne (by decide) (k_ne (by decide) e4)))) e11 (k_ne (by decide) (k_ne (by decide) (k_ne (by decide) (k_ne (by decide) e12)))) (k_ne (by decide) (k_ne (by decide) (k_ne (by decide) (k_ne (by decide) e5)))) (k_ne (by decide) (k_ne (by decide) (k_ne (by decide) (k_ne (by decide) e13)))) (k_ne (by decide) (k_ne (by decide) (k_ne (by decide) (k_set e0)))) (k_ne (by decide) (k_set (k_ne (by decide) (k_ne (by decide) e2)))) e14) (cwV 0 hts g9_X8_readInto_X8_formula_179 rfl rfl rfl (by decide +kernel) ⟨Nat.le_of_ble_eq_true rfl, Nat.le_of_ble_eq_true rfl⟩) rfl hl.1 (Nat.le_of_ble_eq_true rfl) dX8_readInto_48 ⟨Nat.le_of_ble_eq_true rfl, Nat.le_of_ble_eq_true rfl⟩ (fun _ H locs hP hD hS => ?_)
  have hP : va_P D vwCl [(h2, .inl (cI, 260, .inl (upd g0 249 0))), (h0, .inr (8, ((((((((((((((f0.set 11 (.int 24)).set 12 (.int 0)).set 13 (.int 0)).set 14 (.int 0)).set 3 (.int 2)).set 4 (.int 0)).set 7 (.int 44)).set 13 (.int 1)).set 13 (.int 2)).set 7 (.int 44)).set 7 (.int 44)).set 13 (.int 3)).set 13 (.int 4)).set 13 (.int 5)))), (h3, .inr (3, f2)), (h1, .inr (2, f1)), (h4, .inl (cI, 13312, .inl (upd (upd (upd (upd (upd g1 12288 43) 12289 43) 12290 43) 12291 43) 12292 44)))] H := hP
  have hD : va_D A [(h2, .inl (cI, 260, .inl (upd g0 249 0))), (h0, .inr (8, ((((((((((((((f0.set 11 (.int 24)).set 12 (.int 0)).set 13 (.int 0)).set 14 (.int 0)).set 3 (.int 2)).set 4 (.int 0)).set 7 (.int 44)).set 13 (.int 1)).set 13 (.int 2)).set 7 (.int 44)).set 7 (.int 44)).set 13 (.int 3)).set 13 (.int 4)).set 13 (.int 5)))), (h3, .inr (3, f2)), (h1, .inr (2, f1)), (h4, .inl (cI, 13312, .inl (upd (upd (upd (upd (upd g1 12288 43) 12289 43) 12290 43) 12291 43) 12292 44)))] := hD
  refine lv_aload_n hx hb dX8_readInto_51 rfl (lv_at hl 0 rfl) ?_
  refine k_get (D := D) (ci := 8) (v := .ref h1) (N := 15) hx hb hts hin8 hown hK hP 1 rfl rfl (by decide) f9_8_1 (hts (.fieldLink RX8 15 "IntegerHouse$Reader" "house" "LIntegerHouse$House;") (o9_X8_readInto _ (List.mem_of_getElem? (i := 4) rfl))) (k_ne (by decide) (k_ne (by decide) (k_ne (by decide) (k_ne (by decide) (k_ne (by decide) (k_ne (by decide) (k_ne (by decide) (k_ne (by decide) (k_ne (by decide) (k_ne (by decide) (k_ne (by decide) (k_ne (by decide) (k_ne (by decide) (k_ne (by decide) e4)))))))))))))) dX8_readInto_52 ?_
  refine lv_iload_n hx hb dX8_readInto_55 rfl (lv_at hl 1 rfl) ?_
  refine lv_iconst (v := 0) hx hb dX8_readInto_56 (by decide) ?_
  refine lv_aload_n hx hb dX8_readInto_57 rfl (lv_at hl 0 rfl) ?_
  refine k_get (D := D) (ci := 8) (v := .int 0) (N := 15) hx hb hts hin8 hown hK hP 1 rfl rfl (by decide) f9_8_12 (hts (.fieldLink RX8 167 "IntegerHouse$Reader" "tokens" "I") (o9_X8_readInto _ (List.mem_of_getElem? (i := 1) rfl))) (k_ne (by decide) (k_ne (by decide) (k_ne (by decide) (k_ne (by decide) (k_ne (by decide) (k_ne (by decide) (k_ne (by decide) (k_ne (by decide) (k_ne (by decide) (k_ne (by decide) (k_ne (by decide) (k_ne (by decide) (k_set (k_ne (by decide) e1)))))))))))))) dX8_readInto_58 ?_
  refine k_cVv (As := [.int 24, .int 0, .int 0]) (rest := []) (wc := [(h1, .inr (2, f1)), (h2, .inl (cI, 260, .inl (upd g0 249 0)))]) (wr := [(h0, .inr (8, ((((((((((((((f0.set 11 (.int 24)).set 12 (.int 0)).set 13 (.int 0)).set 14 (.int 0)).set 3 (.int 2)).set 4 (.int 0)).set 7 (.int 44)).set 13 (.int 1)).set 13 (.int 2)).set 7 (.int 44)).set 7 (.int 44)).set 13 (.int 3)).set 13 (.int 4)).set 13 (.int 5)))), (h3, .inr (3, f2)), (h4, .inl (cI, 13312, .inl (upd (upd (upd (upd (upd g1 12288 43) 12289 43) 12290 43) 12291 43) 12292 44)))]) (w1 := (fun _ : Unit => [(h1, .inr (2, f1)), (h2, .inl (cI, 260, .inl (upd (upd g0 249 0) 240 0)))])) ⟨hx, hb, hml, hown, hts⟩ hN hX hAE hK hP hD hS hA [3, 0] [1, 2, 4] (ci := 2) rfl rfl rfl rfl (by decide +kernel) (by decide +kernel) (by decide +kernel) (c_X2_setFact_1 l E D cI cJ cB cZ h1 f1 h2 ((upd g0 249 0)) e6) (cwV 3 hts g9_X8_readInto_X2_setFact_157 rfl rfl rfl (by decide +kernel) ⟨Nat.le_of_ble_eq_true rfl, Nat.le_of_ble_eq_true rfl⟩) rfl hl.1 (Nat.le_of_ble_eq_true rfl) dX8_readInto_61 ⟨Nat.le_of_ble_eq_true rfl, Nat.le_of_ble_eq_true rfl⟩ (fun _ H locs hP hD hS => ?_)
  have hP : va_P D vwCl [(h0, .inr (8, ((((((((((((((f0.set 11 (.int 24)).set 12 (.int 0)).set 13 (.int 0)).set 14 (.int 0)).set 3 (.int 2)).set 4 (.int 0)).set 7 (.int 44)).set 13 (.int 1)).set 13 (.int 2)).set 7 (.int 44)).set 7 (.int 44)).set 13 (.int 3)).set 13 (.int 4)).set 13 (.int 5)))), (h3, .inr (3, f2)), (h4, .inl (cI, 13312, .inl (upd (upd (upd (upd (upd g1 12288 43) 12289 43) 12290 43) 12291 43) 12292 44))), (h1, .inr (2, f1)), (h2, .inl (cI, 260, .inl (upd (upd g0 249 0) 240 0)))] H := hP
  have hD : va_D A [(h0, .inr (8, ((((((((((((((f0.set 11 (.int 24)).set 12 (.int 0)).set 13 (.int 0)).set 14 (.int 0)).set 3 (.int 2)).set 4 (.int 0)).set 7 (.int 44)).set 13 (.int 1)).set 13 (.int 2)).set 7 (.int 44)).set 7 (.int 44)).set 13 (.int 3)).set 13 (.int 4)).set 13 (.int 5)))), (h3, .inr (3, f2)), (h4, .inl (cI, 13312, .inl (upd (upd (upd (upd (upd g1 12288 43) 12289 43) 12290 43) 12291 43) 12292 44))), (h1, .inr (2, f1)), (h2, .inl (cI, 260, .inl (upd (upd g0 249 0) 240 0)))] := hD
  refine lv_aload_n hx hb dX8_readInto_64 rfl (lv_at hl 0 rfl) ?_
  refine k_get (D := D) (ci := 8) (v := .ref h1) (N := 15) hx hb hts hin8 hown hK hP 0 rfl rfl (by decide) f9_8_1 (hts (.fieldLink RX8 15 "IntegerHouse$Reader" "house" "LIntegerHouse$House;") (o9_X8_readInto _ (List.mem_of_getElem? (i := 4) rfl))) (k_ne (by decide) (k_ne (by decide) (k_ne (by decide) (k_ne (by decide) (k_ne (by decide) (k_ne (by decide) (k_ne (by decide) (k_ne (by decide) (k_ne (by decide) (k_ne (by decide) (k_ne (by decide) (k_ne (by decide) (k_ne (by decide) (k_ne (by decide) e4)))))))))))))) dX8_readInto_65 ?_
  refine lv_iload_n hx hb dX8_readInto_68 rfl (lv_at hl 1 rfl) ?_
  refine lv_iconst (v := 1) hx hb dX8_readInto_69 (by decide) ?_
  refine lv_aload_n hx hb dX8_readInto_70 rfl (lv_at hl 0 rfl) ?_
  refine k_get (D := D) (ci := 8) (v := .int 5) (N := 15) hx hb hts hin8 hown hK hP 0 rfl rfl (by decide) f9_8_13 (hts (.fieldLink RX8 170 "IntegerHouse$Reader" "steps" "I") (o9_X8_readInto _ (List.mem_of_getElem? (i := 2) rfl))) (k_set (k_set (k_set (k_ne (by decide) (k_ne (by decide) (k_set (k_set (k_ne (by decide) (k_ne (by decide) (k_ne (by decide) (k_ne (by decide) (k_set (k_ne (by decide) (k_ne (by decide) e2)))))))))))))) dX8_readInto_71 ?_
  refine k_cVv (As := [.int 24, .int 1, .int 5]) (rest := []) (wc := [(h1, .inr (2, f1)), (h2, .inl (cI, 260, .inl (upd (upd g0 249 0) 240 0)))]) (wr := [(h0, .inr (8, ((((((((((((((f0.set 11 (.int 24)).set 12 (.int 0)).set 13 (.int 0)).set 14 (.int 0)).set 3 (.int 2)).set 4 (.int 0)).set 7 (.int 44)).set 13 (.int 1)).set 13 (.int 2)).set 7 (.int 44)).set 7 (.int 44)).set 13 (.int 3)).set 13 (.int 4)).set 13 (.int 5)))), (h3, .inr (3, f2)), (h4, .inl (cI, 13312, .inl (upd (upd (upd (upd (upd g1 12288 43) 12289 43) 12290 43) 12291 43) 12292 44)))]) (w1 := (fun _ : Unit => [(h1, .inr (2, f1)), (h2, .inl (cI, 260, .inl (upd (upd (upd g0 249 0) 240 0) 241 5)))])) ⟨hx, hb, hml, hown, hts⟩ hN hX hAE hK hP hD hS hA [3, 4] [0, 1, 2] (ci := 2) rfl rfl rfl rfl (by decide +kernel) (by decide +kernel) (by decide +kernel) (c_X2_setFact_2 l E D cI cJ cB cZ h1 f1 h2 ((upd (upd g0 249 0) 240 0)) e6) (cwV 3 hts g9_X8_readInto_X2_setFact_157 rfl rfl rfl (by decide +kernel) ⟨Nat.le_of_ble_eq_true rfl, Nat.le_of_ble_eq_true rfl⟩) rfl hl.1 (Nat.le_of_ble_eq_true rfl) dX8_readInto_74 ⟨Nat.le_of_ble_eq_true rfl, Nat.le_of_ble_eq_true rfl⟩ (fun _ H locs hP hD hS => ?_)
  have hP : va_P D vwCl [(h0, .inr (8, ((((((((((((((f0.set 11 (.int 24)).set 12 (.int 0)).set 13 (.int 0)).set 14 (.int 0)).set 3 (.int 2)).set 4 (.int 0)).set 7 (.int 44)).set 13 (.int 1)).set 13 (.int 2)).set 7 (.int 44)).set 7 (.int 44)).set 13 (.int 3)).set 13 (.int 4)).set 13 (.int 5)))), (h3, .inr (3, f2)), (h4, .inl (cI, 13312, .inl (upd (upd (upd (upd (upd g1 12288 43) 12289 43) 12290 43) 12291 43) 12292 44))), (h1, .inr (2, f1)), (h2, .inl (cI, 260, .inl (upd (upd (upd g0 249 0) 240 0) 241 5)))] H := hP
  have hD : va_D A [(h0, .inr (8, ((((((((((((((f0.set 11 (.int 24)).set 12 (.int 0)).set 13 (.int 0)).set 14 (.int 0)).set 3 (.int 2)).set 4 (.int 0)).set 7 (.int 44)).set 13 (.int 1)).set 13 (.int 2)).set 7 (.int 44)).set 7 (.int 44)).set 13 (.int 3)).set 13 (.int 4)).set 13 (.int 5)))), (h3, .inr (3, f2)), (h4, .inl (cI, 13312, .inl (upd (upd (upd (upd (upd g1 12288 43) 12289 43) 12290 43) 12291 43) 12292 44))), (h1, .inr (2, f1)), (h2, .inl (cI, 260, .inl (upd (upd (upd g0 249 0) 240 0) 241 5)))] := hD
  have hP := hP.sub (ws' := [(h0, .inr (8, ((((((((((((((f0.set 11 (.int 24)).set 12 (.int 0)).set 13 (.int 0)).set 14 (.int 0)).set 3 (.int 2)).set 4 (.int 0)).set 7 (.int 44)).set 13 (.int 1)).set 13 (.int 2)).set 7 (.int 44)).set 7 (.int 44)).set 13 (.int 3)).set 13 (.int 4)).set 13 (.int 5)))), (h1, .inr (2, f1)), (h2, .inl (cI, 260, .inl (upd (upd (upd g0 249 0) 240 0) 241 5))), (h3, .inr (3, f2)), (h4, .inl (cI, 13312, .inl (upd (upd (upd (upd (upd g1 12288 43) 12289 43) 12290 43) 12291 43) 12292 44)))]) [0, 3, 4, 1, 2] rfl
  have hD := hD.sub (ws' := [(h0, .inr (8, ((((((((((((((f0.set 11 (.int 24)).set 12 (.int 0)).set 13 (.int 0)).set 14 (.int 0)).set 3 (.int 2)).set 4 (.int 0)).set 7 (.int 44)).set 13 (.int 1)).set 13 (.int 2)).set 7 (.int 44)).set 7 (.int 44)).set 13 (.int 3)).set 13 (.int 4)).set 13 (.int 5)))), (h1, .inr (2, f1)), (h2, .inl (cI, 260, .inl (upd (upd (upd g0 249 0) 240 0) 241 5))), (h3, .inr (3, f2)), (h4, .inl (cI, 13312, .inl (upd (upd (upd (upd (upd g1 12288 43) 12289 43) 12290 43) 12291 43) 12292 44)))]) [0, 3, 4, 1, 2] (by decide +kernel) rfl
  exact W.vret hx hb hr (fun t ht hW => ⟨⟨(), rfl, trivial, kB_mk ht hW hP hK hD⟩, hS.F ht⟩) hS.2.2 dX8_readInto_77
set_option maxHeartbeats 400000000 in
set_option maxRecDepth 100000 in
theorem c_X8_readFormula_0 (l : Launch) (E : kE) (D : va_G) (cI cJ cB cZ : ClassId) (h0 : Nat) (h1 : Nat) (f0 : List Value) (h2 : Nat) (f1 : List Value) (h3 : Nat) (h4 : Nat) (h5 : Nat) (g0 : Nat → Int32) (g1 : Nat → Int32) (h6 : Nat) (f2 : List Value) (h7 : Nat) (h8 : Nat) (g2 : Nat → Int32) (g3 : Nat → Int32) (e0 : f0[0]? = some (.ref h2)) (e1 : f1[6]? = some (.ref h3)) (e2 : f1[7]? = some (.int 0)) (e3 : f1[8]? = some (.int 0)) (e4 : f1[5]? = some (.int 0)) (e5 : f1[1]? = some (.ref h4)) (e6 : f1[2]? = some (.ref h5)) (e7 : f0[3]? = some (.int 0)) (e8 : f0[4]? = some (.int 0)) (e9 : f0[5]? = some (.int 0)) (e10 : f0[6]? = some (.int 0)) (e11 : f0[7]? = some (.int 0)) (e12 : f0[8]? = some (.int 0)) (e13 : f0[11]? = some (.int 0)) (e14 : f0[12]? = some (.int 0)) (e15 : f0[13]? = some (.int 0)) (e16 : f0[14]? = some (.int 0)) (e17 : f0[1]? = some (.ref h6)) (e18 : f2[5]? = some (.ref h7)) (e19 : f2[10]? = some (.int 0)) (e20 : f2[3]? = some (.ref h8)) : kI l E D (kT cI cJ cB cZ) yX8_readFormula vW_X8_readFormula ({ frames := 9, cells := 0, slots := 0, locals := 198 }) [.ref h0, .ref h1, .int 0] [(h0, .inr (8, f0)), (h2, .inr (3, f1)), (h4, .inl (cI, 2001, .inl g0)), (h5, .inl (cI, 2001, .inl g1)), (h6, .inr (2, f2)), (h7, .inl (cI, 260, .inl g2)), (h8, .inl (cI, 13312, .inl g3))] (0) [(h0, .inr (8, ((((((((((((((((((((((f0.set 3 (.int 0)).set 4 (.int 0)).set 5 (.int 0)).set 6 (.int (-1))).set 6 (.int 0)).set 7 (.int 0)).set 8 (.int 0)).set 11 (.int 24)).set 12 (.int 0)).set 13 (.int 0)).set 14 (.int 0)).set 3 (.int 2)).set 4 (.int 0)).set 7 (.int 44)).set 13 (.int 1)).set 13 (.int 2)).set 7 (.int 44)).set 7 (.int 44)).set 13 (.int 3)).set 13 (.int 4)).set 13 (.int 5)).set 7 (.int 44)))), (h2, .inr (3, ((((f1.set 6 (.ref h1)).set 7 (.int 0)).set 8 (.int 0)).set 5 (.int 0)))), (h4, .inl (cI, 2001, .inl (upd g0 0 0))), (h5, .inl (cI, 2001, .inl (upd g1 0 0))), (h6, .inr (2, f2)), (h7, .inl (cI, 260, .inl (upd (upd (upd g2 249 0) 240 0) 241 5))), (h8, .inl (cI, 13312, .inl (upd (upd (upd (upd (upd g3 12288 43) 12289 43) 12290 43) 12291 43) 12292 44)))] 0 0 := by
  intro sz
  refine Met.ofW (cc := cX8_readFormula) (maxL := 3) (ret := (some .boolean)) (by decide) rfl ?_
  intro p e s m args below meth c s₁ B hml hv
  obtain ⟨rfl, hsz, hP, hK, hD0, hN, hX⟩ := hv
  have hx := B.exec
  have hb := B.bytes
  have hr := B.returns
  have hts := atoms_spec (ws := vW_X8_readFormula) B.pre
  have hown : s.vm.findClass RX8 = some m.cls := findClass_of_methodNamed B.named
  have hlocks := B.notSynchronized
  have hin8 : ∀ w ∈ wsX80, w ∈ vW_X8_readFormula := u9_X8_readFormula_wsX80
  subst hsz
  have hD := hD0.self (sz := s.heap.size)
  have hAE := k_AE hD0 hX
  generalize hAe : va_A [(h0, .inr (8, f0)), (h2, .inr (3, f1)), (h4, .inl (cI, 2001, .inl g0)), (h5, .inl (cI, 2001, .inl g1)), (h6, .inr (2, f2)), (h7, .inl (cI, 260, .inl g2)), (h8, .inl (cI, 13312, .inl g3))] s.heap.size = A at hD hAE ⊢
  have hA : ∀ q : Nat, s.heap.size ≤ q → A q := fun q h => by rw [← hAe]; exact Or.inr h
  have hS : va_S A s.heap s.heap [] := va_S.rf
  have hP : va_P D vwCl [(h0, .inr (8, f0)), (h2, .inr (3, f1)), (h4, .inl (cI, 2001, .inl g0)), (h5, .inl (cI, 2001, .inl g1)), (h6, .inr (2, f2)), (h7, .inl (cI, 260, .inl g2)), (h8, .inl (cI, 13312, .inl g3))] s.heap := hP
  have hl := lv_entry ([.ref h0, .ref h1, .int 0] : List Value) (n := 3) (Nat.le_of_ble_eq_true rfl)
  rw [lg_entry_eq]
  generalize (lg_sl ([.ref h0, .ref h1, .int 0]) ++ List.replicate (3 - (lg_sl ([.ref h0, .ref h1, .int 0])).length) Slot.unset).toArray = ls at hl ⊢
  have hl : lv_has ls 3 [(0, .ref h0), (1, .ref h1), (2, .int 0)] := hl
  refine lv_aload_n hx hb dX8_readFormula_0 rfl (lv_at hl 0 rfl) ?_
  refine lv_aload_n hx hb dX8_readFormula_1 rfl (lv_at hl 1 rfl) ?_
  refine lv_iconst (v := 0) hx hb dX8_readFormula_2 (by decide) ?_
  refine lv_iload_n hx hb dX8_readFormula_3 rfl (lv_at hl 2 rfl) ?_
  refine k_cVv (As := [.ref h1, .int 0, .int 0]) (rest := []) (wc := [(h0, .inr (8, f0)), (h2, .inr (3, f1)), (h4, .inl (cI, 2001, .inl g0)), (h5, .inl (cI, 2001, .inl g1))]) (wr := [(h6, .inr (2, f2)), (h7, .inl (cI, 260, .inl g2)), (h8, .inl (cI, 13312, .inl g3))]) (w1 := (fun _ : Unit => [(h0, .inr (8, (((((((f0.set 3 (.int 0)).set 4 (.int 0)).set 5 (.int 0)).set 6 (.int (-1))).set 6 (.int 0)).set 7 (.int 0)).set 8 (.int 0)))), (h2, .inr (3, ((((f1.set 6 (.ref h1)).set 7 (.int 0)).set 8 (.int 0)).set 5 (.int 0)))), (h4, .inl (cI, 2001, .inl (upd g0 0 0))), (h5, .inl (cI, 2001, .inl (upd g1 0 0)))])) ⟨hx, hb, hml, hown, hts⟩ hN hX hAE hK hP hD hS hA [0, 1, 2, 3] [4, 5, 6] (ci := 8) rfl rfl rfl rfl (by decide +kernel) (by decide +kernel) (by decide +kernel) (c_X8_begin_0 l E D cI cJ cB cZ h0 h1 f0 h2 f1 h3 h4 h5 g0 g1 e0 e1 e2 e3 e4 e5 e6 e7 e8 e9 e10 e11 e12) (cwV 3 hts g9_X8_readFormula_X8_begin_23 rfl rfl rfl (by decide +kernel) ⟨Nat.le_of_ble_eq_true rfl, Nat.le_of_ble_eq_true rfl⟩) rfl hl.1 (Nat.le_of_ble_eq_true rfl) dX8_readFormula_4 ⟨Nat.le_of_ble_eq_true rfl, Nat.le_of_ble_eq_true rfl⟩ (fun _ H locs hP hD hS => ?_)
  have hP : va_P D vwCl [(h6, .inr (2, f2)), (h7, .inl (cI, 260, .inl g2)), (h8, .inl (cI, 13312, .inl g3)), (h0, .inr (8, (((((((f0.set 3 (.int 0)).set 4 (.int 0)).set 5 (.int 0)).set 6 (.int (-1))).set 6 (.int 0)).set 7 (.int 0)).set 8 (.int 0)))), (h2, .inr (3, ((((f1.set 6 (.ref h1)).set 7 (.int 0)).set 8 (.int 0)).set 5 (.int 0)))), (h4, .inl (cI, 2001, .inl (upd g0 0 0))), (h5, .inl (cI, 2001, .inl (upd g1 0 0)))] H := hP
  have hD : va_D A [(h6, .inr (2, f2)), (h7, .inl (cI, 260, .inl g2)), (h8, .inl (cI, 13312, .inl g3)), (h0, .inr (8, (((((((f0.set 3 (.int 0)).set 4 (.int 0)).set 5 (.int 0)).set 6 (.int (-1))).set 6 (.int 0)).set 7 (.int 0)).set 8 (.int 0)))), (h2, .inr (3, ((((f1.set 6 (.ref h1)).set 7 (.int 0)).set 8 (.int 0)).set 5 (.int 0)))), (h4, .inl (cI, 2001, .inl (upd g0 0 0))), (h5, .inl (cI, 2001, .inl (upd g1 0 0)))] := hD
  refine lv_aload_n hx hb dX8_readFormula_7 rfl (lv_at hl 0 rfl) ?_
  refine lv_bipush (v := 24) hx hb dX8_readFormula_8 (by decide) ?_
  refine k_cVv (As := [.int 24]) (rest := []) (wc := [(h0, .inr (8, (((((((f0.set 3 (.int 0)).set 4 (.int 0)).set 5 (.int 0)).set 6 (.int (-1))).set 6 (.int 0)).set 7 (.int 0)).set 8 (.int 0)))), (h6, .inr (2, f2)), (h7, .inl (cI, 260, .inl g2)), (h2, .inr (3, ((((f1.set 6 (.ref h1)).set 7 (.int 0)).set 8 (.int 0)).set 5 (.int 0)))), (h8, .inl (cI, 13312, .inl g3))]) (wr := [(h4, .inl (cI, 2001, .inl (upd g0 0 0))), (h5, .inl (cI, 2001, .inl (upd g1 0 0)))]) (w1 := (fun _ : Unit => [(h0, .inr (8, (((((((((((((((((((((f0.set 3 (.int 0)).set 4 (.int 0)).set 5 (.int 0)).set 6 (.int (-1))).set 6 (.int 0)).set 7 (.int 0)).set 8 (.int 0)).set 11 (.int 24)).set 12 (.int 0)).set 13 (.int 0)).set 14 (.int 0)).set 3 (.int 2)).set 4 (.int 0)).set 7 (.int 44)).set 13 (.int 1)).set 13 (.int 2)).set 7 (.int 44)).set 7 (.int 44)).set 13 (.int 3)).set 13 (.int 4)).set 13 (.int 5)))), (h6, .inr (2, f2)), (h7, .inl (cI, 260, .inl (upd (upd (upd g2 249 0) 240 0) 241 5))), (h2, .inr (3, ((((f1.set 6 (.ref h1)).set 7 (.int 0)).set 8 (.int 0)).set 5 (.int 0)))), (h8, .inl (cI, 13312, .inl (upd (upd (upd (upd (upd g3 12288 43) 12289 43) 12290 43) 12291 43) 12292 44)))])) ⟨hx, hb, hml, hown, hts⟩ hN hX hAE hK hP hD hS hA [3, 0, 1, 4, 2] [5, 6] (ci := 8) rfl rfl rfl rfl (by decide +kernel) (by decide +kernel) (by decide +kernel) (c_X8_readInto_0 l E D cI cJ cB cZ h0 ((((((((f0.set 3 (.int 0)).set 4 (.int 0)).set 5 (.int 0)).set 6 (.int (-1))).set 6 (.int 0)).set 7 (.int 0)).set 8 (.int 0))) h6 f2 h7 g2 h2 (((((f1.set 6 (.ref h1)).set 7 (.int 0)).set 8 (.int 0)).set 5 (.int 0))) h8 g3 (k_ne (by decide) (k_ne (by decide) (k_ne (by decide) (k_ne (by decide) (k_ne (by decide) (k_ne (by decide) (k_ne (by decide) e13))))))) (k_ne (by decide) (k_ne (by decide) (k_ne (by decide) (k_ne (by decide) (k_ne (by decide) (k_ne (by decide) (k_ne (by decide) e14))))))) (k_ne (by decide) (k_ne (by decide) (k_ne (by decide) (k_ne (by decide) (k_ne (by decide) (k_ne (by decide) (k_ne (by decide) e15))))))) (k_ne (by decide) (k_ne (by decide) (k_ne (by decide) (k_ne (by decide) (k_ne (by decide) (k_ne (by decide) (k_ne (by decide) e16))))))) (k_ne (by decide) (k_ne (by decide) (k_ne (by decide) (k_ne (by decide) (k_ne (by decide) (k_ne (by decide) (k_ne (by decide) e17))))))) (k_set (k_ne (by decide) (k_ne (by decide) (k_ne (by decide) (k_ne (by decide) (k_ne (by decide) (k_ne (by decide) e12))))))) e18 (k_ne (by decide) (k_set (k_ne (by decide) (k_ne (by decide) (k_ne (by decide) (k_ne (by decide) (k_ne (by decide) e11))))))) (k_ne (by decide) (k_ne (by decide) (k_ne (by decide) (k_ne (by decide) (k_ne (by decide) (k_ne (by decide) (k_ne (by decide) e0))))))) (k_ne (by decide) (k_ne (by decide) (k_set (k_set (k_ne (by decide) (k_ne (by decide) (k_ne (by decide) e10))))))) (k_set (k_ne (by decide) (k_ne (by decide) (k_ne (by decide) e4)))) e19 (k_ne (by decide) (k_ne (by decide) (k_ne (by decide) (k_ne (by decide) (k_ne (by decide) (k_ne (by decide) (k_set e7))))))) (k_ne (by decide) (k_ne (by decide) (k_ne (by decide) (k_ne (by decide) (k_ne (by decide) (k_set (k_ne (by decide) e8))))))) e20) (cwV 1 hts g9_X8_readFormula_X8_readInto_49 rfl rfl rfl (by decide +kernel) ⟨Nat.le_of_ble_eq_true rfl, Nat.le_of_ble_eq_true rfl⟩) rfl hl.1 (Nat.le_of_ble_eq_true rfl) dX8_readFormula_10 ⟨Nat.le_of_ble_eq_true rfl, Nat.le_of_ble_eq_true rfl⟩ (fun _ H locs hP hD hS => ?_)
  have hP : va_P D vwCl [(h4, .inl (cI, 2001, .inl (upd g0 0 0))), (h5, .inl (cI, 2001, .inl (upd g1 0 0))), (h0, .inr (8, (((((((((((((((((((((f0.set 3 (.int 0)).set 4 (.int 0)).set 5 (.int 0)).set 6 (.int (-1))).set 6 (.int 0)).set 7 (.int 0)).set 8 (.int 0)).set 11 (.int 24)).set 12 (.int 0)).set 13 (.int 0)).set 14 (.int 0)).set 3 (.int 2)).set 4 (.int 0)).set 7 (.int 44)).set 13 (.int 1)).set 13 (.int 2)).set 7 (.int 44)).set 7 (.int 44)).set 13 (.int 3)).set 13 (.int 4)).set 13 (.int 5)))), (h6, .inr (2, f2)), (h7, .inl (cI, 260, .inl (upd (upd (upd g2 249 0) 240 0) 241 5))), (h2, .inr (3, ((((f1.set 6 (.ref h1)).set 7 (.int 0)).set 8 (.int 0)).set 5 (.int 0)))), (h8, .inl (cI, 13312, .inl (upd (upd (upd (upd (upd g3 12288 43) 12289 43) 12290 43) 12291 43) 12292 44)))] H := hP
  have hD : va_D A [(h4, .inl (cI, 2001, .inl (upd g0 0 0))), (h5, .inl (cI, 2001, .inl (upd g1 0 0))), (h0, .inr (8, (((((((((((((((((((((f0.set 3 (.int 0)).set 4 (.int 0)).set 5 (.int 0)).set 6 (.int (-1))).set 6 (.int 0)).set 7 (.int 0)).set 8 (.int 0)).set 11 (.int 24)).set 12 (.int 0)).set 13 (.int 0)).set 14 (.int 0)).set 3 (.int 2)).set 4 (.int 0)).set 7 (.int 44)).set 13 (.int 1)).set 13 (.int 2)).set 7 (.int 44)).set 7 (.int 44)).set 13 (.int 3)).set 13 (.int 4)).set 13 (.int 5)))), (h6, .inr (2, f2)), (h7, .inl (cI, 260, .inl (upd (upd (upd g2 249 0) 240 0) 241 5))), (h2, .inr (3, ((((f1.set 6 (.ref h1)).set 7 (.int 0)).set 8 (.int 0)).set 5 (.int 0)))), (h8, .inl (cI, 13312, .inl (upd (upd (upd (upd (upd g3 12288 43) 12289 43) 12290 43) 12291 43) 12292 44)))] := hD
  refine lv_aload_n hx hb dX8_readFormula_13 rfl (lv_at hl 0 rfl) ?_
  refine k_cVv (As := []) (rest := []) (wc := [(h0, .inr (8, (((((((((((((((((((((f0.set 3 (.int 0)).set 4 (.int 0)).set 5 (.int 0)).set 6 (.int (-1))).set 6 (.int 0)).set 7 (.int 0)).set 8 (.int 0)).set 11 (.int 24)).set 12 (.int 0)).set 13 (.int 0)).set 14 (.int 0)).set 3 (.int 2)).set 4 (.int 0)).set 7 (.int 44)).set 13 (.int 1)).set 13 (.int 2)).set 7 (.int 44)).set 7 (.int 44)).set 13 (.int 3)).set 13 (.int 4)).set 13 (.int 5))))]) (wr := [(h4, .inl (cI, 2001, .inl (upd g0 0 0))), (h5, .inl (cI, 2001, .inl (upd g1 0 0))), (h6, .inr (2, f2)), (h7, .inl (cI, 260, .inl (upd (upd (upd g2 249 0) 240 0) 241 5))), (h2, .inr (3, ((((f1.set 6 (.ref h1)).set 7 (.int 0)).set 8 (.int 0)).set 5 (.int 0)))), (h8, .inl (cI, 13312, .inl (upd (upd (upd (upd (upd g3 12288 43) 12289 43) 12290 43) 12291 43) 12292 44)))]) (w1 := (fun _ : Unit => [(h0, .inr (8, ((((((((((((((((((((((f0.set 3 (.int 0)).set 4 (.int 0)).set 5 (.int 0)).set 6 (.int (-1))).set 6 (.int 0)).set 7 (.int 0)).set 8 (.int 0)).set 11 (.int 24)).set 12 (.int 0)).set 13 (.int 0)).set 14 (.int 0)).set 3 (.int 2)).set 4 (.int 0)).set 7 (.int 44)).set 13 (.int 1)).set 13 (.int 2)).set 7 (.int 44)).set 7 (.int 44)).set 13 (.int 3)).set 13 (.int 4)).set 13 (.int 5)).set 7 (.int 44))))])) ⟨hx, hb, hml, hown, hts⟩ hN hX hAE hK hP hD hS hA [2] [0, 1, 3, 4, 5, 6] (ci := 8) rfl rfl rfl rfl (by decide +kernel) (by decide +kernel) (by decide +kernel) (c_X8_expectEnd_1 l E D cI cJ cB cZ h0 ((((((((((((((((((((((f0.set 3 (.int 0)).set 4 (.int 0)).set 5 (.int 0)).set 6 (.int (-1))).set 6 (.int 0)).set 7 (.int 0)).set 8 (.int 0)).set 11 (.int 24)).set 12 (.int 0)).set 13 (.int 0)).set 14 (.int 0)).set 3 (.int 2)).set 4 (.int 0)).set 7 (.int 44)).set 13 (.int 1)).set 13 (.int 2)).set 7 (.int 44)).set 7 (.int 44)).set 13 (.int 3)).set 13 (.int 4)).set 13 (.int 5))) (k_ne (by decide) (k_ne (by decide) (k_ne (by decide) (k_set (k_set (k_ne (by decide) (k_ne (by decide) (k_set (k_ne (by decide) (k_ne (by decide) (k_ne (by decide) (k_ne (by decide) (k_ne (by decide) (k_ne (by decide) (k_ne (by decide) (k_set (k_ne (by decide) (k_ne (by decide) (k_ne (by decide) (k_ne (by decide) (k_ne (by decide) e11))))))))))))))))))))) (k_ne (by decide) (k_ne (by decide) (k_ne (by decide) (k_ne (by decide) (k_ne (by decide) (k_ne (by decide) (k_ne (by decide) (k_ne (by decide) (k_ne (by decide) (k_set (k_ne (by decide) (k_ne (by decide) (k_ne (by decide) (k_ne (by decide) (k_ne (by decide) (k_ne (by decide) (k_ne (by decide) (k_ne (by decide) (k_ne (by decide) (k_ne (by decide) (k_set e7)))))))))))))))))))))) (cwV 0 hts g9_X8_readFormula_X8_expectEnd_59 rfl rfl rfl (by decide +kernel) ⟨Nat.le_of_ble_eq_true rfl, Nat.le_of_ble_eq_true rfl⟩) rfl hl.1 (Nat.le_of_ble_eq_true rfl) dX8_readFormula_14 ⟨Nat.le_of_ble_eq_true rfl, Nat.le_of_ble_eq_true rfl⟩ (fun _ H locs hP hD hS => ?_)
  have hP : va_P D vwCl [(h4, .inl (cI, 2001, .inl (upd g0 0 0))), (h5, .inl (cI, 2001, .inl (upd g1 0 0))), (h6, .inr (2, f2)), (h7, .inl (cI, 260, .inl (upd (upd (upd g2 249 0) 240 0) 241 5))), (h2, .inr (3, ((((f1.set 6 (.ref h1)).set 7 (.int 0)).set 8 (.int 0)).set 5 (.int 0)))), (h8, .inl (cI, 13312, .inl (upd (upd (upd (upd (upd g3 12288 43) 12289 43) 12290 43) 12291 43) 12292 44))), (h0, .inr (8, ((((((((((((((((((((((f0.set 3 (.int 0)).set 4 (.int 0)).set 5 (.int 0)).set 6 (.int (-1))).set 6 (.int 0)).set 7 (.int 0)).set 8 (.int 0)).set 11 (.int 24)).set 12 (.int 0)).set 13 (.int 0)).set 14 (.int 0)).set 3 (.int 2)).set 4 (.int 0)).set 7 (.int 44)).set 13 (.int 1)).set 13 (.int 2)).set 7 (.int 44)).set 7 (.int 44)).set 13 (.int 3)).set 13 (.int 4)).set 13 (.int 5)).set 7 (.int 44))))] H := hP
  have hD : va_D A [(h4, .inl (cI, 2001, .inl (upd g0 0 0))), (h5, .inl (cI, 2001, .inl (upd g1 0 0))), (h6, .inr (2, f2)), (h7, .inl (cI, 260, .inl (upd (upd (upd g2 249 0) 240 0) 241 5))), (h2, .inr (3, ((((f1.set 6 (.ref h1)).set 7 (.int 0)).set 8 (.int 0)).set 5 (.int 0)))), (h8, .inl (cI, 13312, .inl (upd (upd (upd (upd (upd g3 12288 43) 12289 43) 12290 43) 12291 43) 12292 44))), (h0, .inr (8, ((((((((((((((((((((((f0.set 3 (.int 0)).set 4 (.int 0)).set 5 (.int 0)).set 6 (.int (-1))).set 6 (.int 0)).set 7 (.int 0)).set 8 (.int 0)).set 11 (.int 24)).set 12 (.int 0)).set 13 (.int 0)).set 14 (.int 0)).set 3 (.int 2)).set 4 (.int 0)).set 7 (.int 44)).set 13 (.int 1)).set 13 (.int 2)).set 7 (.int 44)).set 7 (.int 44)).set 13 (.int 3)).set 13 (.int 4)).set 13 (.int 5)).set 7 (.int 44))))] := hD
  refine lv_aload_n hx hb dX8_readFormula_17 rfl (lv_at hl 0 rfl) ?_
  refine k_get (D := D) (ci := 8) (v := .int 2) (N := 15) hx hb hts hin8 hown hK hP 6 rfl rfl (by decide) f9_8_3 (hts (.fieldLink RX8 62 "IntegerHouse$Reader" "faultKind" "I") (o9_X8_readFormula _ (List.mem_of_getElem? (i := 10) rfl))) (k_ne (by decide) (k_ne (by decide) (k_ne (by decide) (k_ne (by decide) (k_ne (by decide) (k_ne (by decide) (k_ne (by decide) (k_ne (by decide) (k_ne (by decide) (k_ne (by decide) (k_set (k_ne (by decide) (k_ne (by decide) (k_ne (by decide) (k_ne (by decide) (k_ne (by decide) (k_ne (by decide) (k_ne (by decide) (k_ne (by decide) (k_ne (by decide) (k_ne (by decide) (k_set e7)))))))))))))))))))))) dX8_readFormula_18 ?_
  refine lv_if_ne (tgt := 39) hx hb dX8_readFormula_21 (by decide) (fun _ => ?_) (fun c9 => absurd c9 (by decide))
  refine lv_aload_n hx hb dX8_readFormula_39 rfl (lv_at hl 0 rfl) ?_
  refine k_get (D := D) (ci := 8) (v := .int 2) (N := 15) hx hb hts hin8 hown hK hP 6 rfl rfl (by decide) f9_8_3 (hts (.fieldLink RX8 62 "IntegerHouse$Reader" "faultKind" "I") (o9_X8_readFormula _ (List.mem_of_getElem? (i := 10) rfl))) (k_ne (by decide) (k_ne (by decide) (k_ne (by decide) (k_ne (by decide) (k_ne (by decide) (k_ne (by decide) (k_ne (by decide) (k_ne (by decide) (k_ne (by decide) (k_ne (by decide) (k_set (k_ne (by decide) (k_ne (by decide) (k_ne (by decide) (k_ne (by decide) (k_ne (by decide) (k_ne (by decide) (k_ne (by decide) (k_ne (by decide) (k_ne (by decide) (k_ne (by decide) (k_set e7)))))))))))))))))))))) dX8_readFormula_40 ?_
  refine lv_if_ne (tgt := 50) hx hb dX8_readFormula_43 (by decide) (fun _ => ?_) (fun c9 => absurd c9 (by decide))
  refine lv_iconst (v := 0) hx hb dX8_readFormula_50 (by decide) ?_
  have hP := hP.sub (ws' := [(h0, .inr (8, ((((((((((((((((((((((f0.set 3 (.int 0)).set 4 (.int 0)).set 5 (.int 0)).set 6 (.int (-1))).set 6 (.int 0)).set 7 (.int 0)).set 8 (.int 0)).set 11 (.int 24)).set 12 (.int 0)).set 13 (.int 0)).set 14 (.int 0)).set 3 (.int 2)).set 4 (.int 0)).set 7 (.int 44)).set 13 (.int 1)).set 13 (.int 2)).set 7 (.int 44)).set 7 (.int 44)).set 13 (.int 3)).set 13 (.int 4)).set 13 (.int 5)).set 7 (.int 44)))), (h2, .inr (3, ((((f1.set 6 (.ref h1)).set 7 (.int 0)).set 8 (.int 0)).set 5 (.int 0)))), (h4, .inl (cI, 2001, .inl (upd g0 0 0))), (h5, .inl (cI, 2001, .inl (upd g1 0 0))), (h6, .inr (2, f2)), (h7, .inl (cI, 260, .inl (upd (upd (upd g2 249 0) 240 0) 241 5))), (h8, .inl (cI, 13312, .inl (upd (upd (upd (upd (upd g3 12288 43) 12289 43) 12290 43) 12291 43) 12292 44)))]) [6, 4, 0, 1, 2, 3, 5] rfl
  have hD := hD.sub (ws' := [(h0, .inr (8, ((((((((((((((((((((((f0.set 3 (.int 0)).set 4 (.int 0)).set 5 (.int 0)).set 6 (.int (-1))).set 6 (.int 0)).set 7 (.int 0)).set 8 (.int 0)).set 11 (.int 24)).set 12 (.int 0)).set 13 (.int 0)).set 14 (.int 0)).set 3 (.int 2)).set 4 (.int 0)).set 7 (.int 44)).set 13 (.int 1)).set 13 (.int 2)).set 7 (.int 44)).set 7 (.int 44)).set 13 (.int 3)).set 13 (.int 4)).set 13 (.int 5)).set 7 (.int 44)))), (h2, .inr (3, ((((f1.set 6 (.ref h1)).set 7 (.int 0)).set 8 (.int 0)).set 5 (.int 0)))), (h4, .inl (cI, 2001, .inl (upd g0 0 0))), (h5, .inl (cI, 2001, .inl (upd g1 0 0))), (h6, .inr (2, f2)), (h7, .inl (cI, 260, .inl (upd (upd (upd g2 249 0) 240 0) 241 5))), (h8, .inl (cI, 13312, .inl (upd (upd (upd (upd (upd g3 12288 43) 12289 43) 12290 43) 12291 43) 12292 44)))]) [6, 4, 0, 1, 2, 3, 5] (by decide +kernel) rfl
  exact W.zret (v := 0) hx hb hr rfl (fun t ht hW => ⟨⟨0, (), rfl, rfl, kB_mk ht hW hP hK hD⟩, hS.F ht⟩) hS.2.2 dX8_readFormula_51
set_option maxHeartbeats 400000000 in
set_option maxRecDepth 100000 in
theorem c_X11_follows_0 (l : Launch) (E : kE) (D : va_G) (cI cJ cB cZ : ClassId) (h0 : Nat) (f0 : List Value) (h1 : Nat) (f1 : List Value) (h2 : Nat) (f2 : List Value) (h3 : Nat) (h4 : Nat) (f3 : List Value) (h5 : Nat) (f4 : List Value) (h6 : Nat) (h7 : Nat) (h8 : Nat) (h9 : Nat) (h10 : Nat) (g0 : Nat → Int32) (g1 : Nat → Int32) (g2 : Nat → Int32) (g3 : Nat → Int32) (e0 : f0[1]? = some (.ref h1)) (e1 : f1[8]? = some (.int 0)) (e2 : f0[2]? = some (.ref h2)) (e3 : f2[12]? = some (.int 0)) (e4 : f0[5]? = some (.ref h3)) (e5 : f0[0]? = some (.ref h4)) (e6 : f0[12]? = some (.int 0)) (e7 : f3[0]? = some (.ref h5)) (e8 : f4[6]? = some (.ref h6)) (e9 : f4[7]? = some (.int 0)) (e10 : f4[8]? = some (.int 0)) (e11 : f4[5]? = some (.int 0)) (e12 : f4[1]? = some (.ref h7)) (e13 : f4[2]? = some (.ref h8)) (e14 : f3[3]? = some (.int 0)) (e15 : f3[4]? = some (.int 0)) (e16 : f3[5]? = some (.int 0)) (e17 : f3[6]? = some (.int 0)) (e18 : f3[7]? = some (.int 0)) (e19 : f3[8]? = some (.int 0)) (e20 : f3[11]? = some (.int 0)) (e21 : f3[12]? = some (.int 0)) (e22 : f3[13]? = some (.int 0)) (e23 : f3[14]? = some (.int 0)) (e24 : f3[1]? = some (.ref h2)) (e25 : f2[5]? = some (.ref h9)) (e26 : f2[10]? = some (.int 0)) (e27 : f2[3]? = some (.ref h10)) (e28 : f0[13]? = some (.int 0)) : kI l E D (kT cI cJ cB cZ) yX11_follows vW_X11_follows ({ frames := 10, cells := 0, slots := 0, locals := 220 }) [.ref h0] [(h0, .inr (11, f0)), (h1, .inr (1, f1)), (h2, .inr (2, f2)), (h3, .inr (8, f3)), (h5, .inr (3, f4)), (h7, .inl (cI, 2001, .inl g0)), (h8, .inl (cI, 2001, .inl g1)), (h9, .inl (cI, 260, .inl g2)), (h10, .inl (cI, 13312, .inl g3))] ((-1000)) [(h0, .inr (11, ((f0.set 12 (.int 0)).set 13 (.int 2)))), (h1, .inr (1, f1)), (h2, .inr (2, (f2.set 12 (.int 0)))), (h3, .inr (8, ((((((((((((((((((((((f3.set 3 (.int 0)).set 4 (.int 0)).set 5 (.int 0)).set 6 (.int (-1))).set 6 (.int 0)).set 7 (.int 0)).set 8 (.int 0)).set 11 (.int 24)).set 12 (.int 0)).set 13 (.int 0)).set 14 (.int 0)).set 3 (.int 2)).set 4 (.int 0)).set 7 (.int 44)).set 13 (.int 1)).set 13 (.int 2)).set 7 (.int 44)).set 7 (.int 44)).set 13 (.int 3)).set 13 (.int 4)).set 13 (.int 5)).set 7 (.int 44)))), (h5, .inr (3, ((((f4.set 6 (.ref h4)).set 7 (.int 0)).set 8 (.int 0)).set 5 (.int 0)))), (h7, .inl (cI, 2001, .inl (upd g0 0 0))), (h8, .inl (cI, 2001, .inl (upd g1 0 0))), (h9, .inl (cI, 260, .inl (upd (upd (upd g2 249 0) 240 0) 241 5))), (h10, .inl (cI, 13312, .inl (upd (upd (upd (upd (upd g3 12288 43) 12289 43) 12290 43) 12291 43) 12292 44)))] 0 0 := by
  intro sz
  refine Met.ofW (cc := cX11_follows) (maxL := 3) (ret := (some .int)) (by decide) rfl ?_
  intro p e s m args below meth c s₁ B hml hv
  obtain ⟨rfl, hsz, hP, hK, hD0, hN, hX⟩ := hv
  have hx := B.exec
  have hb := B.bytes
  have hr := B.returns
  have hts := atoms_spec (ws := vW_X11_follows) B.pre
  have hown : s.vm.findClass RX11 = some m.cls := findClass_of_methodNamed B.named
  have hlocks := B.notSynchronized
  have hin11 : ∀ w ∈ wsX110, w ∈ vW_X11_follows := u9_X11_follows_wsX110
  have hin1 : ∀ w ∈ wsX10, w ∈ vW_X11_follows := u9_X11_follows_wsX10
  have hin2 : ∀ w ∈ wsX20, w ∈ vW_X11_follows := u9_X11_follows_wsX20
  subst hsz
  have hD := hD0.self (sz := s.heap.size)
  have hAE := k_AE hD0 hX
  generalize hAe : va_A [(h0, .inr (11, f0)), (h1, .inr (1, f1)), (h2, .inr (2, f2)), (h3, .inr (8, f3)), (h5, .inr (3, f4)), (h7, .inl (cI, 2001, .inl g0)), (h8, .inl (cI, 2001, .inl g1)), (h9, .inl (cI, 260, .inl g2)), (h10, .inl (cI, 13312, .inl g3))] s.heap.size = A at hD hAE ⊢
  have hA : ∀ q : Nat, s.heap.size ≤ q → A q := fun q h => by rw [← hAe]; exact Or.inr h
  have hS : va_S A s.heap s.heap [] := va_S.rf
  have hP : va_P D vwCl [(h0, .inr (11, f0)), (h1, .inr (1, f1)), (h2, .inr (2, f2)), (h3, .inr (8, f3)), (h5, .inr (3, f4)), (h7, .inl (cI, 2001, .inl g0)), (h8, .inl (cI, 2001, .inl g1)), (h9, .inl (cI, 260, .inl g2)), (h10, .inl (cI, 13312, .inl g3))] s.heap := hP
  have hl := lv_entry ([.ref h0] : List Value) (n := 3) (Nat.le_of_ble_eq_true rfl)
  rw [lg_entry_eq]
  generalize (lg_sl ([.ref h0]) ++ List.replicate (3 - (lg_sl ([.ref h0])).length) Slot.unset).toArray = ls at hl ⊢
  have hl : lv_has ls 3 [(0, .ref h0)] := hl
  refine lv_aload_n hx hb dX11_follows_0 rfl (lv_at hl 0 rfl) ?_
  refine k_get (D := D) (ci := 11) (v := .ref h1) (N := 15) hx hb hts hin11 hown hK hP 0 rfl rfl (by decide) f9_11_1 (hts (.fieldLink RX11 16 "IntegerHouse" "disk" "LIntegerHouse$Disk;") (o9_X11_follows _ (List.mem_of_getElem? (i := 0) rfl))) e0 dX11_follows_1 ?_
  refine k_getN (host := "IntegerHouse") (D := D) (ci := 1) (v := .int 0) (N := 9) hx hb hts hin1 hown hK hP 1 rfl rfl (by decide) f9_1_8 (va_Nw.use rfl (hN.1 ("IntegerHouse", 122, "IntegerHouse$Disk", "down", "Z", "IntegerHouse") (List.mem_of_getElem? (i := 3) rfl))) e1 dX11_follows_4 ?_
  refine lv_if_eq (tgt := 13) hx hb dX11_follows_7 (by decide) (fun _ => ?_) (fun c9 => absurd (by decide) c9)
  refine lv_aload_n hx hb dX11_follows_13 rfl (lv_at hl 0 rfl) ?_
  refine k_get (D := D) (ci := 11) (v := .ref h2) (N := 15) hx hb hts hin11 hown hK hP 0 rfl rfl (by decide) f9_11_2 (hts (.fieldLink RX11 23 "IntegerHouse" "house" "LIntegerHouse$House;") (o9_X11_follows _ (List.mem_of_getElem? (i := 1) rfl))) e2 dX11_follows_14 ?_
  refine k_getN (host := "IntegerHouse") (D := D) (ci := 2) (v := .int 0) (N := 16) hx hb hts hin2 hown hK hP 2 rfl rfl (by decide) f9_2_12 (va_Nw.use rfl (hN.1 ("IntegerHouse", 233, "IntegerHouse$House", "poolSize", "I", "IntegerHouse") (List.mem_of_getElem? (i := 16) rfl))) e3 dX11_follows_17 ?_
  refine lv_istore_n (lv' := [(1, .int 0), (0, .ref h0)]) hx hb dX11_follows_20 rfl hl (by decide) rfl (fun ls hl => ?_)
  refine lv_aload_n hx hb dX11_follows_21 rfl (lv_at hl 1 rfl) ?_
  refine k_get (D := D) (ci := 11) (v := .ref h3) (N := 15) hx hb hts hin11 hown hK hP 0 rfl rfl (by decide) f9_11_5 (hts (.fieldLink RX11 48 "IntegerHouse" "reader" "LIntegerHouse$Reader;") (o9_X11_follows _ (List.mem_of_getElem? (i := 2) rfl))) e4 dX11_follows_22 ?_
  refine lv_aload_n hx hb dX11_follows_25 rfl (lv_at hl 1 rfl) ?_
  refine k_get (D := D) (ci := 11) (v := .ref h4) (N := 15) hx hb hts hin11 hown hK hP 0 rfl rfl (by decide) f9_11_0 (hts (.fieldLink RX11 9 "IntegerHouse" "tape" "[B") (o9_X11_follows _ (List.mem_of_getElem? (i := 3) rfl))) e5 dX11_follows_26 ?_
  refine lv_aload_n hx hb dX11_follows_29 rfl (lv_at hl 1 rfl) ?_
  refine k_cVi (As := []) (rest := [.ref h4, .ref h3]) (wc := [(h0, .inr (11, f0))]) (wr := [(h1, .inr (1, f1)), (h2, .inr (2, f2)), (h3, .inr (8, f3)), (h5, .inr (3, f4)), (h7, .inl (cI, 2001, .inl g0)), (h8, .inl (cI, 2001, .inl g1)), (h9, .inl (cI, 260, .inl g2)), (h10, .inl (cI, 13312, .inl g3))]) (w1 := [(h0, .inr (11, (f0.set 12 (.int 0))))]) ⟨hx, hb, hml, hown, hts⟩ hN hX hAE hK hP hD hS hA [0] [1, 2, 3, 4, 5, 6, 7, 8] (ci := 11) rfl rfl rfl rfl (by decide +kernel) (by decide +kernel) (by decide +kernel) (c_X11_useTape_0 l E D cI cJ cB cZ h0 f0 e6) (cwV 0 hts g9_X11_follows_X11_useTape_230 rfl rfl rfl (by decide +kernel) ⟨Nat.le_of_ble_eq_true rfl, Nat.le_of_ble_eq_true rfl⟩) rfl hl.1 (Nat.le_of_ble_eq_true rfl) dX11_follows_30 ⟨Nat.le_of_ble_eq_true rfl, Nat.le_of_ble_eq_true rfl⟩ (fun H locs hP hD hS => ?_)
  have hP : va_P D vwCl [(h1, .inr (1, f1)), (h2, .inr (2, f2)), (h3, .inr (8, f3)), (h5, .inr (3, f4)), (h7, .inl (cI, 2001, .inl g0)), (h8, .inl (cI, 2001, .inl g1)), (h9, .inl (cI, 260, .inl g2)), (h10, .inl (cI, 13312, .inl g3)), (h0, .inr (11, (f0.set 12 (.int 0))))] H := hP
  have hD : va_D A [(h1, .inr (1, f1)), (h2, .inr (2, f2)), (h3, .inr (8, f3)), (h5, .inr (3, f4)), (h7, .inl (cI, 2001, .inl g0)), (h8, .inl (cI, 2001, .inl g1)), (h9, .inl (cI, 260, .inl g2)), (h10, .inl (cI, 13312, .inl g3)), (h0, .inr (11, (f0.set 12 (.int 0))))] := hD
  refine k_cVi (As := [.ref h4, .int 0]) (rest := []) (wc := [(h3, .inr (8, f3)), (h5, .inr (3, f4)), (h7, .inl (cI, 2001, .inl g0)), (h8, .inl (cI, 2001, .inl g1)), (h2, .inr (2, f2)), (h9, .inl (cI, 260, .inl g2)), (h10, .inl (cI, 13312, .inl g3))]) (wr := [(h1, .inr (1, f1)), (h0, .inr (11, (f0.set 12 (.int 0))))]) (w1 := [(h3, .inr (8, ((((((((((((((((((((((f3.set 3 (.int 0)).set 4 (.int 0)).set 5 (.int 0)).set 6 (.int (-1))).set 6 (.int 0)).set 7 (.int 0)).set 8 (.int 0)).set 11 (.int 24)).set 12 (.int 0)).set 13 (.int 0)).set 14 (.int 0)).set 3 (.int 2)).set 4 (.int 0)).set 7 (.int 44)).set 13 (.int 1)).set 13 (.int 2)).set 7 (.int 44)).set 7 (.int 44)).set 13 (.int 3)).set 13 (.int 4)).set 13 (.int 5)).set 7 (.int 44)))), (h5, .inr (3, ((((f4.set 6 (.ref h4)).set 7 (.int 0)).set 8 (.int 0)).set 5 (.int 0)))), (h7, .inl (cI, 2001, .inl (upd g0 0 0))), (h8, .inl (cI, 2001, .inl (upd g1 0 0))), (h2, .inr (2, f2)), (h9, .inl (cI, 260, .inl (upd (upd (upd g2 249 0) 240 0) 241 5))), (h10, .inl (cI, 13312, .inl (upd (upd (upd (upd (upd g3 12288 43) 12289 43) 12290 43) 12291 43) 12292 44)))]) ⟨hx, hb, hml, hown, hts⟩ hN hX hAE hK hP hD hS hA [2, 3, 4, 5, 1, 6, 7] [0, 8] (ci := 8) rfl rfl rfl rfl (by decide +kernel) (by decide +kernel) (by decide +kernel) (c_X8_readFormula_0 l E D cI cJ cB cZ h3 h4 f3 h5 f4 h6 h7 h8 g0 g1 h2 f2 h9 h10 g2 g3 e7 e8 e9 e10 e11 e12 e13 e14 e15 e16 e17 e18 e19 e20 e21 e22 e23 e24 e25 e26 e27) (cwV 2 hts g9_X11_follows_X8_readFormula_304 rfl rfl rfl (by decide +kernel) ⟨Nat.le_of_ble_eq_true rfl, Nat.le_of_ble_eq_true rfl⟩) rfl hl.1 (Nat.le_of_ble_eq_true rfl) dX11_follows_33 ⟨Nat.le_of_ble_eq_true rfl, Nat.le_of_ble_eq_true rfl⟩ (fun H locs hP hD hS => ?_)
  have hP : va_P D vwCl [(h1, .inr (1, f1)), (h0, .inr (11, (f0.set 12 (.int 0)))), (h3, .inr (8, ((((((((((((((((((((((f3.set 3 (.int 0)).set 4 (.int 0)).set 5 (.int 0)).set 6 (.int (-1))).set 6 (.int 0)).set 7 (.int 0)).set 8 (.int 0)).set 11 (.int 24)).set 12 (.int 0)).set 13 (.int 0)).set 14 (.int 0)).set 3 (.int 2)).set 4 (.int 0)).set 7 (.int 44)).set 13 (.int 1)).set 13 (.int 2)).set 7 (.int 44)).set 7 (.int 44)).set 13 (.int 3)).set 13 (.int 4)).set 13 (.int 5)).set 7 (.int 44)))), (h5, .inr (3, ((((f4.set 6 (.ref h4)).set 7 (.int 0)).set 8 (.int 0)).set 5 (.int 0)))), (h7, .inl (cI, 2001, .inl (upd g0 0 0))), (h8, .inl (cI, 2001, .inl (upd g1 0 0))), (h2, .inr (2, f2)), (h9, .inl (cI, 260, .inl (upd (upd (upd g2 249 0) 240 0) 241 5))), (h10, .inl (cI, 13312, .inl (upd (upd (upd (upd (upd g3 12288 43) 12289 43) 12290 43) 12291 43) 12292 44)))] H := hP
  have hD : va_D A [(h1, .inr (1, f1)), (h0, .inr (11, (f0.set 12 (.int 0)))), (h3, .inr (8, ((((((((((((((((((((((f3.set 3 (.int 0)).set 4 (.int 0)).set 5 (.int 0)).set 6 (.int (-1))).set 6 (.int 0)).set 7 (.int 0)).set 8 (.int 0)).set 11 (.int 24)).set 12 (.int 0)).set 13 (.int 0)).set 14 (.int 0)).set 3 (.int 2)).set 4 (.int 0)).set 7 (.int 44)).set 13 (.int 1)).set 13 (.int 2)).set 7 (.int 44)).set 7 (.int 44)).set 13 (.int 3)).set 13 (.int 4)).set 13 (.int 5)).set 7 (.int 44)))), (h5, .inr (3, ((((f4.set 6 (.ref h4)).set 7 (.int 0)).set 8 (.int 0)).set 5 (.int 0)))), (h7, .inl (cI, 2001, .inl (upd g0 0 0))), (h8, .inl (cI, 2001, .inl (upd g1 0 0))), (h2, .inr (2, f2)), (h9, .inl (cI, 260, .inl (upd (upd (upd g2 249 0) 240 0) 241 5))), (h10, .inl (cI, 13312, .inl (upd (upd (upd (upd (upd g3 12288 43) 12289 43) 12290 43) 12291 43) 12292 44)))] := hD
  refine lv_if_ne (tgt := 47) hx hb dX11_follows_36 (by decide) (fun c9 => absurd (by decide) c9) (fun _ => ?_)
  refine lv_aload_n hx hb dX11_follows_39 rfl (lv_at hl 1 rfl) ?_
  refine k_cVi (As := []) (rest := []) (wc := [(h0, .inr (11, (f0.set 12 (.int 0)))), (h3, .inr (8, ((((((((((((((((((((((f3.set 3 (.int 0)).set 4 (.int 0)).set 5 (.int 0)).set 6 (.int (-1))).set 6 (.int 0)).set 7 (.int 0)).set 8 (.int 0)).set 11 (.int 24)).set 12 (.int 0)).set 13 (.int 0)).set 14 (.int 0)).set 3 (.int 2)).set 4 (.int 0)).set 7 (.int 44)).set 13 (.int 1)).set 13 (.int 2)).set 7 (.int 44)).set 7 (.int 44)).set 13 (.int 3)).set 13 (.int 4)).set 13 (.int 5)).set 7 (.int 44))))]) (wr := [(h1, .inr (1, f1)), (h5, .inr (3, ((((f4.set 6 (.ref h4)).set 7 (.int 0)).set 8 (.int 0)).set 5 (.int 0)))), (h7, .inl (cI, 2001, .inl (upd g0 0 0))), (h8, .inl (cI, 2001, .inl (upd g1 0 0))), (h2, .inr (2, f2)), (h9, .inl (cI, 260, .inl (upd (upd (upd g2 249 0) 240 0) 241 5))), (h10, .inl (cI, 13312, .inl (upd (upd (upd (upd (upd g3 12288 43) 12289 43) 12290 43) 12291 43) 12292 44)))]) (w1 := [(h0, .inr (11, ((f0.set 12 (.int 0)).set 13 (.int 2)))), (h3, .inr (8, ((((((((((((((((((((((f3.set 3 (.int 0)).set 4 (.int 0)).set 5 (.int 0)).set 6 (.int (-1))).set 6 (.int 0)).set 7 (.int 0)).set 8 (.int 0)).set 11 (.int 24)).set 12 (.int 0)).set 13 (.int 0)).set 14 (.int 0)).set 3 (.int 2)).set 4 (.int 0)).set 7 (.int 44)).set 13 (.int 1)).set 13 (.int 2)).set 7 (.int 44)).set 7 (.int 44)).set 13 (.int 3)).set 13 (.int 4)).set 13 (.int 5)).set 7 (.int 44))))]) ⟨hx, hb, hml, hown, hts⟩ hN hX hAE hK hP hD hS hA [1, 2] [0, 3, 4, 5, 6, 7, 8] (ci := 11) rfl rfl rfl rfl (by decide +kernel) (by decide +kernel) (by decide +kernel) (c_X11_faulted_0 l E D cI cJ cB cZ h0 ((f0.set 12 (.int 0))) h3 (((((((((((((((((((((((f3.set 3 (.int 0)).set 4 (.int 0)).set 5 (.int 0)).set 6 (.int (-1))).set 6 (.int 0)).set 7 (.int 0)).set 8 (.int 0)).set 11 (.int 24)).set 12 (.int 0)).set 13 (.int 0)).set 14 (.int 0)).set 3 (.int 2)).set 4 (.int 0)).set 7 (.int 44)).set 13 (.int 1)).set 13 (.int 2)).set 7 (.int 44)).set 7 (.int 44)).set 13 (.int 3)).set 13 (.int 4)).set 13 (.int 5)).set 7 (.int 44))) (k_ne (by decide) e4) (k_ne (by decide) (k_ne (by decide) (k_ne (by decide) (k_ne (by decide) (k_ne (by decide) (k_ne (by decide) (k_ne (by decide) (k_ne (by decide) (k_ne (by decide) (k_ne (by decide) (k_set (k_ne (by decide) (k_ne (by decide) (k_ne (by decide) (k_ne (by decide) (k_ne (by decide) (k_ne (by decide) (k_ne (by decide) (k_ne (by decide) (k_ne (by decide) (k_ne (by decide) (k_set e14)))))))))))))))))))))) (k_ne (by decide) e28) (k_ne (by decide) (k_ne (by decide) (k_ne (by decide) (k_ne (by decide) (k_ne (by decide) (k_ne (by decide) (k_ne (by decide) (k_ne (by decide) (k_ne (by decide) (k_set (k_ne (by decide) (k_ne (by decide) (k_ne (by decide) (k_ne (by decide) (k_ne (by decide) (k_ne (by decide) (k_ne (by decide) (k_ne (by decide) (k_ne (by decide) (k_ne (by decide) (k_set (k_ne (by decide) e15))))))))))))))))))))))) (cwV 0 hts g9_X11_follows_X11_faulted_236 rfl rfl rfl (by decide +kernel) ⟨Nat.le_of_ble_eq_true rfl, Nat.le_of_ble_eq_true rfl⟩) rfl hl.1 (Nat.le_of_ble_eq_true rfl) dX11_follows_40 ⟨Nat.le_of_ble_eq_true rfl, Nat.le_of_ble_eq_true rfl⟩ (fun H locs hP hD hS => ?_)
  have hP : va_P D vwCl [(h1, .inr (1, f1)), (h5, .inr (3, ((((f4.set 6 (.ref h4)).set 7 (.int 0)).set 8 (.int 0)).set 5 (.int 0)))), (h7, .inl (cI, 2001, .inl (upd g0 0 0))), (h8, .inl (cI, 2001, .inl (upd g1 0 0))), (h2, .inr (2, f2)), (h9, .inl (cI, 260, .inl (upd (upd (upd g2 249 0) 240 0) 241 5))), (h10, .inl (cI, 13312, .inl (upd (upd (upd (upd (upd g3 12288 43) 12289 43) 12290 43) 12291 43) 12292 44))), (h0, .inr (11, ((f0.set 12 (.int 0)).set 13 (.int 2)))), (h3, .inr (8, ((((((((((((((((((((((f3.set 3 (.int 0)).set 4 (.int 0)).set 5 (.int 0)).set 6 (.int (-1))).set 6 (.int 0)).set 7 (.int 0)).set 8 (.int 0)).set 11 (.int 24)).set 12 (.int 0)).set 13 (.int 0)).set 14 (.int 0)).set 3 (.int 2)).set 4 (.int 0)).set 7 (.int 44)).set 13 (.int 1)).set 13 (.int 2)).set 7 (.int 44)).set 7 (.int 44)).set 13 (.int 3)).set 13 (.int 4)).set 13 (.int 5)).set 7 (.int 44))))] H := hP
  have hD : va_D A [(h1, .inr (1, f1)), (h5, .inr (3, ((((f4.set 6 (.ref h4)).set 7 (.int 0)).set 8 (.int 0)).set 5 (.int 0)))), (h7, .inl (cI, 2001, .inl (upd g0 0 0))), (h8, .inl (cI, 2001, .inl (upd g1 0 0))), (h2, .inr (2, f2)), (h9, .inl (cI, 260, .inl (upd (upd (upd g2 249 0) 240 0) 241 5))), (h10, .inl (cI, 13312, .inl (upd (upd (upd (upd (upd g3 12288 43) 12289 43) 12290 43) 12291 43) 12292 44))), (h0, .inr (11, ((f0.set 12 (.int 0)).set 13 (.int 2)))), (h3, .inr (8, ((((((((((((((((((((((f3.set 3 (.int 0)).set 4 (.int 0)).set 5 (.int 0)).set 6 (.int (-1))).set 6 (.int 0)).set 7 (.int 0)).set 8 (.int 0)).set 11 (.int 24)).set 12 (.int 0)).set 13 (.int 0)).set 14 (.int 0)).set 3 (.int 2)).set 4 (.int 0)).set 7 (.int 44)).set 13 (.int 1)).set 13 (.int 2)).set 7 (.int 44)).set 7 (.int 44)).set 13 (.int 3)).set 13 (.int 4)).set 13 (.int 5)).set 7 (.int 44))))] := hD
  refine lv_istore_n (lv' := [(2, .int (-1000)), (1, .int 0), (0, .ref h0)]) hx hb dX11_follows_43 rfl hl (by decide) rfl (fun ls hl => ?_)
  refine lv_goto (tgt := 100) hx hb dX11_follows_44 (by decide) ?_
  refine lv_aload_n hx hb dX11_follows_100 rfl (lv_at hl 2 rfl) ?_
  refine k_get (D := D) (ci := 11) (v := .ref h2) (N := 15) hx hb hts hin11 hown hK hP 7 rfl rfl (by decide) f9_11_2 (hts (.fieldLink RX11 23 "IntegerHouse" "house" "LIntegerHouse$House;") (o9_X11_follows _ (List.mem_of_getElem? (i := 1) rfl))) (k_ne (by decide) (k_ne (by decide) e2)) dX11_follows_101 ?_
  refine lv_iload_n hx hb dX11_follows_104 rfl (lv_at hl 1 rfl) ?_
  refine k_putN (host := "IntegerHouse") (D := D) (ci := 2) (v := .int 0) (ty := .int) (N := 16) hx hb hts hin2 tyX2 tyX2_ok nmX2 hown hK hP hD hS 4 rfl rfl (by decide) f9_2_12 (va_Nw.use rfl (hN.1 ("IntegerHouse", 233, "IntegerHouse$House", "poolSize", "I", "IntegerHouse") (List.mem_of_getElem? (i := 16) rfl))) rfl pd_2 rfl rfl (k_len e3) dX11_follows_105 (fun H locs hP hD hS => ?_)
  have hP : va_P D vwCl [(h1, .inr (1, f1)), (h5, .inr (3, ((((f4.set 6 (.ref h4)).set 7 (.int 0)).set 8 (.int 0)).set 5 (.int 0)))), (h7, .inl (cI, 2001, .inl (upd g0 0 0))), (h8, .inl (cI, 2001, .inl (upd g1 0 0))), (h2, .inr (2, (f2.set 12 (.int 0)))), (h9, .inl (cI, 260, .inl (upd (upd (upd g2 249 0) 240 0) 241 5))), (h10, .inl (cI, 13312, .inl (upd (upd (upd (upd (upd g3 12288 43) 12289 43) 12290 43) 12291 43) 12292 44))), (h0, .inr (11, ((f0.set 12 (.int 0)).set 13 (.int 2)))), (h3, .inr (8, ((((((((((((((((((((((f3.set 3 (.int 0)).set 4 (.int 0)).set 5 (.int 0)).set 6 (.int (-1))).set 6 (.int 0)).set 7 (.int 0)).set 8 (.int 0)).set 11 (.int 24)).set 12 (.int 0)).set 13 (.int 0)).set 14 (.int 0)).set 3 (.int 2)).set 4 (.int 0)).set 7 (.int 44)).set 13 (.int 1)).set 13 (.int 2)).set 7 (.int 44)).set 7 (.int 44)).set 13 (.int 3)).set 13 (.int 4)).set 13 (.int 5)).set 7 (.int 44))))] H := hP
  have hD : va_D A [(h1, .inr (1, f1)), (h5, .inr (3, ((((f4.set 6 (.ref h4)).set 7 (.int 0)).set 8 (.int 0)).set 5 (.int 0)))), (h7, .inl (cI, 2001, .inl (upd g0 0 0))), (h8, .inl (cI, 2001, .inl (upd g1 0 0))), (h2, .inr (2, (f2.set 12 (.int 0)))), (h9, .inl (cI, 260, .inl (upd (upd (upd g2 249 0) 240 0) 241 5))), (h10, .inl (cI, 13312, .inl (upd (upd (upd (upd (upd g3 12288 43) 12289 43) 12290 43) 12291 43) 12292 44))), (h0, .inr (11, ((f0.set 12 (.int 0)).set 13 (.int 2)))), (h3, .inr (8, ((((((((((((((((((((((f3.set 3 (.int 0)).set 4 (.int 0)).set 5 (.int 0)).set 6 (.int (-1))).set 6 (.int 0)).set 7 (.int 0)).set 8 (.int 0)).set 11 (.int 24)).set 12 (.int 0)).set 13 (.int 0)).set 14 (.int 0)).set 3 (.int 2)).set 4 (.int 0)).set 7 (.int 44)).set 13 (.int 1)).set 13 (.int 2)).set 7 (.int 44)).set 7 (.int 44)).set 13 (.int 3)).set 13 (.int 4)).set 13 (.int 5)).set 7 (.int 44))))] := hD
  refine lv_iload_n hx hb dX11_follows_108 rfl (lv_at hl 0 rfl) ?_
  have hP := hP.sub (ws' := [(h0, .inr (11, ((f0.set 12 (.int 0)).set 13 (.int 2)))), (h1, .inr (1, f1)), (h2, .inr (2, (f2.set 12 (.int 0)))), (h3, .inr (8, ((((((((((((((((((((((f3.set 3 (.int 0)).set 4 (.int 0)).set 5 (.int 0)).set 6 (.int (-1))).set 6 (.int 0)).set 7 (.int 0)).set 8 (.int 0)).set 11 (.int 24)).set 12 (.int 0)).set 13 (.int 0)).set 14 (.int 0)).set 3 (.int 2)).set 4 (.int 0)).set 7 (.int 44)).set 13 (.int 1)).set 13 (.int 2)).set 7 (.int 44)).set 7 (.int 44)).set 13 (.int 3)).set 13 (.int 4)).set 13 (.int 5)).set 7 (.int 44)))), (h5, .inr (3, ((((f4.set 6 (.ref h4)).set 7 (.int 0)).set 8 (.int 0)).set 5 (.int 0)))), (h7, .inl (cI, 2001, .inl (upd g0 0 0))), (h8, .inl (cI, 2001, .inl (upd g1 0 0))), (h9, .inl (cI, 260, .inl (upd (upd (upd g2 249 0) 240 0) 241 5))), (h10, .inl (cI, 13312, .inl (upd (upd (upd (upd (upd g3 12288 43) 12289 43) 12290 43) 12291 43) 12292 44)))]) [7, 0, 4, 8, 1, 2, 3, 5, 6] rfl
  have hD := hD.sub (ws' := [(h0, .inr (11, ((f0.set 12 (.int 0)).set 13 (.int 2)))), (h1, .inr (1, f1)), (h2, .inr (2, (f2.set 12 (.int 0)))), (h3, .inr (8, ((((((((((((((((((((((f3.set 3 (.int 0)).set 4 (.int 0)).set 5 (.int 0)).set 6 (.int (-1))).set 6 (.int 0)).set 7 (.int 0)).set 8 (.int 0)).set 11 (.int 24)).set 12 (.int 0)).set 13 (.int 0)).set 14 (.int 0)).set 3 (.int 2)).set 4 (.int 0)).set 7 (.int 44)).set 13 (.int 1)).set 13 (.int 2)).set 7 (.int 44)).set 7 (.int 44)).set 13 (.int 3)).set 13 (.int 4)).set 13 (.int 5)).set 7 (.int 44)))), (h5, .inr (3, ((((f4.set 6 (.ref h4)).set 7 (.int 0)).set 8 (.int 0)).set 5 (.int 0)))), (h7, .inl (cI, 2001, .inl (upd g0 0 0))), (h8, .inl (cI, 2001, .inl (upd g1 0 0))), (h9, .inl (cI, 260, .inl (upd (upd (upd g2 249 0) 240 0) 241 5))), (h10, .inl (cI, 13312, .inl (upd (upd (upd (upd (upd g3 12288 43) 12289 43) 12290 43) 12291 43) 12292 44)))]) [7, 0, 4, 8, 1, 2, 3, 5, 6] (by decide +kernel) rfl
  exact W.iret (v := (-1000)) hx hb hr (fun t ht hW => ⟨⟨(-1000), (), rfl, rfl, kB_mk ht hW hP hK hD⟩, hS.F ht⟩) hS.2.2 dX11_follows_109
