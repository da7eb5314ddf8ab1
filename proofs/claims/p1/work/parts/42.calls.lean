theorem dX9_isTold_0 : decode cX9_isTold 0 = .ok (.iload_n 1, 1) := by decide +kernel
theorem dX9_isTold_1 : decode cX9_isTold 1 = .ok (.ifCond .lt 15, 3) := by decide +kernel
theorem dX9_isTold_4 : decode cX9_isTold 4 = .ok (.iload_n 1, 1) := by decide +kernel
theorem dX9_isTold_5 : decode cX9_isTold 5 = .ok (.aload_n 0, 1) := by decide +kernel
theorem dX9_isTold_6 : decode cX9_isTold 6 = .ok (.getfield 107, 3) := by decide +kernel
theorem dX9_isTold_9 : decode cX9_isTold 9 = .ok (.if_icmp .ge 7, 3) := by decide +kernel
theorem dX9_isTold_16 : decode cX9_isTold 16 = .ok (.iconst 0, 1) := by decide +kernel
theorem dX9_isTold_17 : decode cX9_isTold 17 = .ok (.ireturn, 1) := by decide +kernel
theorem dX11_fraction_0 : decode cX11_fraction 0 = .ok (.aload_n 0, 1) := by decide +kernel
theorem dX11_fraction_1 : decode cX11_fraction 1 = .ok (.getfield 80, 3) := by decide +kernel
theorem dX11_fraction_4 : decode cX11_fraction 4 = .ok (.iload_n 1, 1) := by decide +kernel
theorem dX11_fraction_5 : decode cX11_fraction 5 = .ok (.invokevirtual 382, 3) := by decide +kernel
theorem dX11_fraction_8 : decode cX11_fraction 8 = .ok (.ifCond .ne 14, 3) := by decide +kernel
theorem dX11_fraction_11 : decode cX11_fraction 11 = .ok (.new 197, 3) := by decide +kernel
theorem dX11_fraction_14 : decode cX11_fraction 14 = .ok (.dup, 1) := by decide +kernel
theorem dX11_fraction_15 : decode cX11_fraction 15 = .ok (.ldc_w 383, 3) := by decide +kernel
theorem dX11_fraction_18 : decode cX11_fraction 18 = .ok (.invokespecial 201, 3) := by decide +kernel
theorem dX11_fraction_21 : decode cX11_fraction 21 = .ok (.athrow, 1) := by decide +kernel
theorem dX11_search_0 : decode cX11_search 0 = .ok (.aload_n 0, 1) := by decide +kernel
theorem dX11_search_1 : decode cX11_search 1 = .ok (.getfield 16, 3) := by decide +kernel
theorem dX11_search_4 : decode cX11_search 4 = .ok (.getfield 122, 3) := by decide +kernel
theorem dX11_search_7 : decode cX11_search 7 = .ok (.ifCond .eq 6, 3) := by decide +kernel
theorem dX11_search_13 : decode cX11_search 13 = .ok (.aload_n 0, 1) := by decide +kernel
theorem dX11_search_14 : decode cX11_search 14 = .ok (.invokevirtual 230, 3) := by decide +kernel
theorem dX11_search_17 : decode cX11_search 17 = .ok (.istore_n 3, 1) := by decide +kernel
theorem dX11_search_18 : decode cX11_search 18 = .ok (.iload_n 1, 1) := by decide +kernel
theorem dX11_search_19 : decode cX11_search 19 = .ok (.ifCond .lt 19, 3) := by decide +kernel
theorem dX11_search_22 : decode cX11_search 22 = .ok (.iload_n 1, 1) := by decide +kernel
theorem dX11_search_23 : decode cX11_search 23 = .ok (.iconst 1, 1) := by decide +kernel
theorem dX11_search_24 : decode cX11_search 24 = .ok (.if_icmp .gt 14, 3) := by decide +kernel
theorem dX11_search_27 : decode cX11_search 27 = .ok (.iload_n 2, 1) := by decide +kernel
theorem dX11_search_28 : decode cX11_search 28 = .ok (.iconst 1, 1) := by decide +kernel
theorem dX11_search_29 : decode cX11_search 29 = .ok (.if_icmp .lt 9, 3) := by decide +kernel
theorem dX11_search_32 : decode cX11_search 32 = .ok (.iload_n 2, 1) := by decide +kernel
theorem dX11_search_33 : decode cX11_search 33 = .ok (.bipush 100, 2) := by decide +kernel
theorem dX11_search_35 : decode cX11_search 35 = .ok (.if_icmp .le 6, 3) := by decide +kernel
theorem dX11_search_41 : decode cX11_search 41 = .ok (.aload_n 0, 1) := by decide +kernel
theorem dX11_search_42 : decode cX11_search 42 = .ok (.getfield 23, 3) := by decide +kernel
theorem dX11_search_45 : decode cX11_search 45 = .ok (.invokevirtual 370, 3) := by decide +kernel
theorem dX11_search_48 : decode cX11_search 48 = .ok (.ifCond .ne 6, 3) := by decide +kernel
theorem dX11_search_54 : decode cX11_search 54 = .ok (.aload_n 0, 1) := by decide +kernel
theorem dX11_search_55 : decode cX11_search 55 = .ok (.getfield 48, 3) := by decide +kernel
theorem dX11_search_58 : decode cX11_search 58 = .ok (.aload_n 0, 1) := by decide +kernel
theorem dX11_search_59 : decode cX11_search 59 = .ok (.getfield 9, 3) := by decide +kernel
theorem dX11_search_62 : decode cX11_search 62 = .ok (.iload_n 3, 1) := by decide +kernel
theorem dX11_search_63 : decode cX11_search 63 = .ok (.invokevirtual 373, 3) := by decide +kernel
theorem dX11_search_66 : decode cX11_search 66 = .ok (.ifCond .ne 8, 3) := by decide +kernel
theorem dX11_search_69 : decode cX11_search 69 = .ok (.aload_n 0, 1) := by decide +kernel
theorem dX11_search_70 : decode cX11_search 70 = .ok (.invokevirtual 236, 3) := by decide +kernel
theorem dX11_search_73 : decode cX11_search 73 = .ok (.ireturn, 1) := by decide +kernel
theorem dX12_isAllPlain_0 : decode cX12_isAllPlain 0 = .ok (.iconst 1, 1) := by decide +kernel
theorem dX12_isAllPlain_1 : decode cX12_isAllPlain 1 = .ok (.istore_n 1, 1) := by decide +kernel
theorem dX12_isAllPlain_2 : decode cX12_isAllPlain 2 = .ok (.iconst 0, 1) := by decide +kernel
theorem dX12_isAllPlain_3 : decode cX12_isAllPlain 3 = .ok (.istore_n 2, 1) := by decide +kernel
theorem dX12_isAllPlain_4 : decode cX12_isAllPlain 4 = .ok (.iload_n 2, 1) := by decide +kernel
theorem dX12_isAllPlain_5 : decode cX12_isAllPlain 5 = .ok (.aload_n 0, 1) := by decide +kernel
theorem dX12_isAllPlain_6 : decode cX12_isAllPlain 6 = .ok (.getfield 818, 3) := by decide +kernel
theorem dX12_isAllPlain_9 : decode cX12_isAllPlain 9 = .ok (.if_icmp .ge 37, 3) := by decide +kernel
theorem dX12_isAllPlain_46 : decode cX12_isAllPlain 46 = .ok (.iload_n 1, 1) := by decide +kernel
theorem dX12_isAllPlain_47 : decode cX12_isAllPlain 47 = .ok (.ireturn, 1) := by decide +kernel
theorem dX12_readsLineTerm_0 : decode cX12_readsLineTerm 0 = .ok (.aload_n 0, 1) := by decide +kernel
theorem dX12_readsLineTerm_1 : decode cX12_readsLineTerm 1 = .ok (.bipush 25, 2) := by decide +kernel
theorem dX12_readsLineTerm_3 : decode cX12_readsLineTerm 3 = .ok (.invokevirtual 842, 3) := by decide +kernel
theorem dX12_readsLineTerm_6 : decode cX12_readsLineTerm 6 = .ok (.aload_n 0, 1) := by decide +kernel
theorem dX12_readsLineTerm_7 : decode cX12_readsLineTerm 7 = .ok (.invokevirtual 1020, 3) := by decide +kernel
theorem dX12_readsLineTerm_10 : decode cX12_readsLineTerm 10 = .ok (.istore_n 1, 1) := by decide +kernel
theorem dX12_readsLineTerm_11 : decode cX12_readsLineTerm 11 = .ok (.aload_n 0, 1) := by decide +kernel
theorem dX12_readsLineTerm_12 : decode cX12_readsLineTerm 12 = .ok (.getfield 562, 3) := by decide +kernel
theorem dX12_readsLineTerm_15 : decode cX12_readsLineTerm 15 = .ok (.ifCond .ne 19, 3) := by decide +kernel
theorem dX12_readsLineTerm_34 : decode cX12_readsLineTerm 34 = .ok (.aload_n 0, 1) := by decide +kernel
theorem dX12_readsLineTerm_35 : decode cX12_readsLineTerm 35 = .ok (.getfield 562, 3) := by decide +kernel
theorem dX12_readsLineTerm_38 : decode cX12_readsLineTerm 38 = .ok (.ifCond .ne 21, 3) := by decide +kernel
theorem dX12_readsLineTerm_59 : decode cX12_readsLineTerm 59 = .ok (.iconst 0, 1) := by decide +kernel
theorem dX12_readsLineTerm_60 : decode cX12_readsLineTerm 60 = .ok (.ireturn, 1) := by decide +kernel
theorem dX12_relaxed_0 : decode cX12_relaxed 0 = .ok (.aload_n 0, 1) := by decide +kernel
theorem dX12_relaxed_1 : decode cX12_relaxed 1 = .ok (.invokevirtual 871, 3) := by decide +kernel
theorem dX12_relaxed_4 : decode cX12_relaxed 4 = .ok (.ifCond .ne 6, 3) := by decide +kernel
theorem dX12_relaxed_10 : decode cX12_relaxed 10 = .ok (.aload_n 0, 1) := by decide +kernel
theorem dX12_relaxed_11 : decode cX12_relaxed 11 = .ok (.invokevirtual 874, 3) := by decide +kernel
theorem dX12_relaxed_14 : decode cX12_relaxed 14 = .ok (.aload_n 0, 1) := by decide +kernel
theorem dX12_relaxed_15 : decode cX12_relaxed 15 = .ok (.invokevirtual 1141, 3) := by decide +kernel
theorem dX12_relaxed_18 : decode cX12_relaxed 18 = .ok (.ifCond .ne 6, 3) := by decide +kernel
theorem dX12_relaxed_24 : decode cX12_relaxed 24 = .ok (.aload_n 0, 1) := by decide +kernel
theorem dX12_relaxed_25 : decode cX12_relaxed 25 = .ok (.invokevirtual 1144, 3) := by decide +kernel
theorem dX12_relaxed_28 : decode cX12_relaxed 28 = .ok (.ifCond .ne 8, 3) := by decide +kernel
theorem dX12_relaxed_31 : decode cX12_relaxed 31 = .ok (.aload_n 0, 1) := by decide +kernel
theorem dX12_relaxed_32 : decode cX12_relaxed 32 = .ok (.invokevirtual 860, 3) := by decide +kernel
theorem dX12_relaxed_35 : decode cX12_relaxed 35 = .ok (.ireturn, 1) := by decide +kernel
theorem dX12_fraction_0 : decode cX12_fraction 0 = .ok (.aload_n 0, 1) := by decide +kernel
theorem dX12_fraction_1 : decode cX12_fraction 1 = .ok (.iload_n 1, 1) := by decide +kernel
theorem dX12_fraction_2 : decode cX12_fraction 2 = .ok (.i2l, 1) := by decide +kernel
theorem dX12_fraction_3 : decode cX12_fraction 3 = .ok (.lconst 0, 1) := by decide +kernel
theorem dX12_fraction_4 : decode cX12_fraction 4 = .ok (.aload_n 0, 1) := by decide +kernel
theorem dX12_fraction_5 : decode cX12_fraction 5 = .ok (.getfield 1160, 3) := by decide +kernel
theorem dX12_fraction_8 : decode cX12_fraction 8 = .ok (.iconst 1, 1) := by decide +kernel
theorem dX12_fraction_9 : decode cX12_fraction 9 = .ok (.isub, 1) := by decide +kernel
theorem dX12_fraction_10 : decode cX12_fraction 10 = .ok (.i2l, 1) := by decide +kernel
theorem dX12_fraction_11 : decode cX12_fraction 11 = .ok (.invokestatic 504, 3) := by decide +kernel
theorem dX12_fraction_14 : decode cX12_fraction 14 = .ok (.ifCond .eq 7, 3) := by decide +kernel
theorem dX12_fraction_21 : decode cX12_fraction 21 = .ok (.iconst 1, 1) := by decide +kernel
theorem dX12_fraction_22 : decode cX12_fraction 22 = .ok (.putfield 3, 3) := by decide +kernel
theorem dX12_fraction_25 : decode cX12_fraction 25 = .ok (.aload_n 0, 1) := by decide +kernel
theorem dX12_fraction_26 : decode cX12_fraction 26 = .ok (.getfield 3, 3) := by decide +kernel
theorem dX12_fraction_29 : decode cX12_fraction 29 = .ok (.ifCond .le 7, 3) := by decide +kernel
theorem dX12_fraction_32 : decode cX12_fraction 32 = .ok (.lconst 0, 1) := by decide +kernel
theorem dX12_fraction_33 : decode cX12_fraction 33 = .ok (.goto 9, 3) := by decide +kernel
theorem dX12_fraction_42 : decode cX12_fraction 42 = .ok (.lreturn, 1) := by decide +kernel
theorem dL_fraction_0 : decode cL_fraction 0 = .ok (.aload_n 2, 1) := by decide +kernel
theorem dL_fraction_1 : decode cL_fraction 1 = .ok (.iconst 0, 1) := by decide +kernel
theorem dL_fraction_2 : decode cL_fraction 2 = .ok (.aload_n 0, 1) := by decide +kernel
theorem dL_fraction_3 : decode cL_fraction 3 = .ok (.iload_n 1, 1) := by decide +kernel
theorem dL_fraction_4 : decode cL_fraction 4 = .ok (.invokevirtual 41, 3) := by decide +kernel
theorem dL_fraction_11 : decode cL_fraction 11 = .ok (.astore_n 3, 1) := by decide +kernel
theorem dL_fraction_12 : decode cL_fraction 12 = .ok (.iconst 1, 1) := by decide +kernel
theorem dL_fraction_13 : decode cL_fraction 13 = .ok (.ireturn, 1) := by decide +kernel
set_option maxHeartbeats 400000000 in
set_option maxRecDepth 100000 in
theorem c_X12_isAllPlain_0 (l : Launch) (E : kE) (D : va_G) (cI cJ cB cZ : ClassId) (h0 : Nat) (f0 : List Value) (e0 : f0[33]? = some (.int 0)) : kI l E D (kT cI cJ cB cZ) yX12_isAllPlain vW_X12_isAllPlain ({ frames := 0, cells := 0, slots := 0, locals := 0 }) [.ref h0] [(h0, .inr (12, f0))] (1) [(h0, .inr (12, f0))] 0 0 := by
  intro sz
  refine Met.ofW (cc := cX12_isAllPlain) (maxL := 3) (ret := (some .boolean)) (by decide) rfl ?_
  intro p e s m args below meth c s₁ B hml hv
  obtain ⟨rfl, hsz, hP, hK, hD0, hN, hX⟩ := hv
  have hx := B.exec
  have hb := B.bytes
  have hr := B.returns
  have hts := atoms_spec (ws := vW_X12_isAllPlain) B.pre
  have hown : s.vm.findClass RX12 = some m.cls := findClass_of_methodNamed B.named
  have hlocks := B.notSynchronized
  have hin12 : ∀ w ∈ wsX120, w ∈ vW_X12_isAllPlain := u9_X12_isAllPlain_wsX120
  subst hsz
  have hD := hD0.self (sz := s.heap.size)
  have hAE := k_AE hD0 hX
  generalize hAe : va_A [(h0, .inr (12, f0))] s.heap.size = A at hD hAE ⊢
  have hA : ∀ q : Nat, s.heap.size ≤ q → A q := fun q h => by rw [← hAe]; exact Or.inr h
  have hS : va_S A s.heap s.heap [] := va_S.rf
  have hP : va_P D vwCl [(h0, .inr (12, f0))] s.heap := hP
  have hl := lv_entry ([.ref h0] : List Value) (n := 3) (Nat.le_of_ble_eq_true rfl)
  rw [lg_entry_eq]
  generalize (lg_sl ([.ref h0]) ++ List.replicate (3 - (lg_sl ([.ref h0])).length) Slot.unset).toArray = ls at hl ⊢
  have hl : lv_has ls 3 [(0, .ref h0)] := hl
  refine lv_iconst (v := 1) hx hb dX12_isAllPlain_0 (by decide) ?_
  refine lv_istore_n (lv' := [(1, .int 1), (0, .ref h0)]) hx hb dX12_isAllPlain_1 rfl hl (by decide) rfl (fun ls hl => ?_)
  refine lv_iconst (v := 0) hx hb dX12_isAllPlain_2 (by decide) ?_
  refine lv_istore_n (lv' := [(2, .int 0), (1, .int 1), (0, .ref h0)]) hx hb dX12_isAllPlain_3 rfl hl (by decide) rfl (fun ls hl => ?_)
  refine lv_iload_n hx hb dX12_isAllPlain_4 rfl (lv_at hl 0 rfl) ?_
  refine lv_aload_n hx hb dX12_isAllPlain_5 rfl (lv_at hl 2 rfl) ?_
  refine k_get (D := D) (ci := 12) (v := .int 0) (N := 195) hx hb hts hin12 hown hK hP 0 rfl rfl (by decide) f9_12_33 (hts (.fieldLink RX12 818 "IntegerHouseModel" "claims" "I") (o9_X12_isAllPlain _ (List.mem_of_getElem? (i := 0) rfl))) e0 dX12_isAllPlain_6 ?_
  refine lv_icmp_ge (tgt := 46) hx hb dX12_isAllPlain_9 (by decide) (fun _ => ?_) (fun c9 => absurd (by decide) c9)
  refine lv_iload_n hx hb dX12_isAllPlain_46 rfl (lv_at hl 1 rfl) ?_
  exact W.zret (v := 1) hx hb hr rfl (fun t ht hW => ⟨⟨1, (), rfl, rfl, kB_mk ht hW hP hK hD⟩, hS.F ht⟩) hS.2.2 dX12_isAllPlain_47
set_option maxHeartbeats 400000000 in
set_option maxRecDepth 100000 in
theorem c_X12_readsLineTerm_0 (l : Launch) (E : kE) (D : va_G) (cI cJ cB cZ : ClassId) (h0 : Nat) (f0 : List Value) (h1 : Nat) (h2 : Nat) (h3 : Nat) (h4 : Nat) (h5 : Nat) (g0 : Nat → Int32) (g1 : Nat → Int32) (g2 : Nat → Int32) (g3 : Nat → Int32) (g4 : Nat → Int32) (h6 : Nat) (h7 : Nat) (h8 : Nat) (h9 : Nat) (h10 : Nat) (h11 : Nat) (g5 : Nat → Int32) (h12 : Nat) (g6 : Nat → Int32) (g7 : Nat → Int32) (g8 : Nat → Int32) (g9 : Nat → Int32) (g10 : Nat → Int64) (g11 : Nat → Int32) (e0 : f0[66]? = some (.int 0)) (e1 : f0[67]? = some (.int 0)) (e2 : f0[40]? = some (.ref h1)) (e3 : f0[45]? = some (.ref h2)) (e4 : f0[56]? = some (.ref h3)) (e5 : f0[60]? = some (.ref h4)) (e6 : f0[65]? = some (.ref h5)) (e7 : f0[76]? = some (.int 0)) (e8 : f0[83]? = some (.int 0)) (e9 : f0[77]? = some (.ref h6)) (e10 : f0[78]? = some (.ref h7)) (e11 : f0[80]? = some (.ref h8)) (e12 : f0[81]? = some (.ref h9)) (e13 : f0[82]? = some (.ref h10)) (e14 : f0[84]? = some (.int 0)) (e15 : f0[31]? = some (.int 0)) (e16 : f0[25]? = some (.ref h11)) (e17 : f0[28]? = some (.int 0)) (e18 : g5 0 = 0) (e19 : f0[29]? = some (.int 0)) (e20 : f0[23]? = some (.ref h12)) (e21 : g6 0 = 0) (e22 : f0[30]? = some (.int 0)) (e23 : f0[85]? = some (.int 0)) : kI l E D (kT cI cJ cB cZ) yX12_readsLineTerm vW_X12_readsLineTerm ({ frames := 5, cells := 0, slots := 0, locals := 104 }) [.ref h0] [(h0, .inr (12, f0)), (h1, .inl (cI, 26, .inl g0)), (h2, .inl (cI, 26, .inl g1)), (h3, .inl (cI, 26, .inl g2)), (h4, .inl (cI, 26, .inl g3)), (h5, .inl (cI, 26, .inl g4)), (h11, .inl (cI, 2001, .inl g5)), (h12, .inl (cI, 2001, .inl g6)), (h6, .inl (cI, 16, .inl g7)), (h7, .inl (cI, 16, .inl g8)), (h8, .inl (cI, 16, .inl g9)), (h9, .inl (cJ, 16, .inr (.inl g10))), (h10, .inl (cI, 16, .inl g11))] (0) [(h0, .inr (12, (((((((((((f0.set 66 (.int 25)).set 67 (.int 0)).set 76 (.int (-1))).set 83 (.int (-1))).set 83 (.int 0)).set 84 (.int 3)).set 84 (.int 4)).set 84 (.int 5)).set 31 (.int 1)).set 29 (.int 2)).set 30 (.int 0)))), (h1, .inl (cI, 26, .inl (upd g0 25 0))), (h2, .inl (cI, 26, .inl (upd g1 25 0))), (h3, .inl (cI, 26, .inl (upd g2 25 0))), (h4, .inl (cI, 26, .inl (upd g3 25 0))), (h5, .inl (cI, 26, .inl (upd g4 25 0))), (h11, .inl (cI, 2001, .inl g5)), (h12, .inl (cI, 2001, .inl g6)), (h6, .inl (cI, 16, .inl (upd g7 0 33))), (h7, .inl (cI, 16, .inl (upd g8 0 (-1)))), (h8, .inl (cI, 16, .inl (upd (upd g9 0 1) 0 1))), (h9, .inl (cJ, 16, .inr (.inl (vp_updL (vp_updL g10 0 1) 0 1)))), (h10, .inl (cI, 16, .inl (upd g11 0 (-1))))] 0 0 := by
  intro sz
  refine Met.ofW (cc := cX12_readsLineTerm) (maxL := 2) (ret := (some .boolean)) (by decide) rfl ?_
  intro p e s m args below meth c s₁ B hml hv
  obtain ⟨rfl, hsz, hP, hK, hD0, hN, hX⟩ := hv
  have hx := B.exec
  have hb := B.bytes
  have hr := B.returns
  have hts := atoms_spec (ws := vW_X12_readsLineTerm) B.pre
  have hown : s.vm.findClass RX12 = some m.cls := findClass_of_methodNamed B.named
  have hlocks := B.notSynchronized
  have hin12 : ∀ w ∈ wsX120, w ∈ vW_X12_readsLineTerm := u9_X12_readsLineTerm_wsX120
  subst hsz
  have hD := hD0.self (sz := s.heap.size)
  have hAE := k_AE hD0 hX
  generalize hAe : va_A [(h0, .inr (12, f0)), (h1, .inl (cI, 26, .inl g0)), (h2, .inl (cI, 26, .inl g1)), (h3, .inl (cI, 26, .inl g2)), (h4, .inl (cI, 26, .inl g3)), (h5, .inl (cI, 26, .inl g4)), (h11, .inl (cI, 2001, .inl g5)), (h12, .inl (cI, 2001, .inl g6)), (h6, .inl (cI, 16, .inl g7)), (h7, .inl (cI, 16, .inl g8)), (h8, .inl (cI, 16, .inl g9)), (h9, .inl (cJ, 16, .inr (.inl g10))), (h10, .inl (cI, 16, .inl g11))] s.heap.size = A at hD hAE ⊢
  have hA : ∀ q : Nat, s.heap.size ≤ q → A q := fun q h => by rw [← hAe]; exact Or.inr h
  have hS : va_S A s.heap s.heap [] := va_S.rf
  have hP : va_P D vwCl [(h0, .inr (12, f0)), (h1, .inl (cI, 26, .inl g0)), (h2, .inl (cI, 26, .inl g1)), (h3, .inl (cI, 26, .inl g2)), (h4, .inl (cI, 26, .inl g3)), (h5, .inl (cI, 26, .inl g4)), (h11, .inl (cI, 2001, .inl g5)), (h12, .inl (cI, 2001, .inl g6)), (h6, .inl (cI, 16, .inl g7)), (h7, .inl (cI, 16, .inl g8)), (h8, .inl (cI, 16, .inl g9)), (h9, .inl (cJ, 16, .inr (.inl g10))), (h10, .inl (cI, 16, .inl g11))] s.heap := hP
  have hl := lv_entry ([.ref h0] : List Value) (n := 2) (Nat.le_of_ble_eq_true rfl)
  rw [lg_entry_eq]
  generalize (lg_sl ([.ref h0]) ++ List.replicate (2 - (lg_sl ([.ref h0])).length) Slot.unset).toArray = ls at hl ⊢
  have hl : lv_has ls 2 [(0, .ref h0)] := hl
  refine lv_aload_n hx hb dX12_readsLineTerm_0 rfl (lv_at hl 0 rfl) ?_
  refine lv_bipush (v := 25) hx hb dX12_readsLineTerm_1 (by decide) ?_
  refine k_cVv (As := [.int 25]) (rest := []) (wc := [(h0, .inr (12, f0)), (h1, .inl (cI, 26, .inl g0)), (h2, .inl (cI, 26, .inl g1)), (h3, .inl (cI, 26, .inl g2)), (h4, .inl (cI, 26, .inl g3)), (h5, .inl (cI, 26, .inl g4))]) (wr := [(h11, .inl (cI, 2001, .inl g5)), (h12, .inl (cI, 2001, .inl g6)), (h6, .inl (cI, 16, .inl g7)), (h7, .inl (cI, 16, .inl g8)), (h8, .inl (cI, 16, .inl g9)), (h9, .inl (cJ, 16, .inr (.inl g10))), (h10, .inl (cI, 16, .inl g11))]) (w1 := (fun _ : Unit => [(h0, .inr (12, ((f0.set 66 (.int 25)).set 67 (.int 0)))), (h1, .inl (cI, 26, .inl (upd g0 25 0))), (h2, .inl (cI, 26, .inl (upd g1 25 0))), (h3, .inl (cI, 26, .inl (upd g2 25 0))), (h4, .inl (cI, 26, .inl (upd g3 25 0))), (h5, .inl (cI, 26, .inl (upd g4 25 0)))])) ⟨hx, hb, hml, hown, hts⟩ hN hX hAE hK hP hD hS hA [0, 1, 2, 3, 4, 5] [6, 7, 8, 9, 10, 11, 12] (ci := 12) rfl rfl rfl rfl (by decide +kernel) (by decide +kernel) (by decide +kernel) (c_X12_beginSlot_1 l E D cI cJ cB cZ h0 f0 h1 g0 h2 g1 h3 g2 h4 g3 h5 g4 e0 e1 e2 e3 e4 e5 e6) (cwV 1 hts g9_X12_readsLineTerm_X12_beginSlot_842 rfl rfl rfl (by decide +kernel) ⟨Nat.le_of_ble_eq_true rfl, Nat.le_of_ble_eq_true rfl⟩) rfl hl.1 (Nat.le_of_ble_eq_true rfl) dX12_readsLineTerm_3 ⟨Nat.le_of_ble_eq_true rfl, Nat.le_of_ble_eq_true rfl⟩ (fun _ H locs hP hD hS => ?_)
  have hP : va_P D vwCl [(h11, .inl (cI, 2001, .inl g5)), (h12, .inl (cI, 2001, .inl g6)), (h6, .inl (cI, 16, .inl g7)), (h7, .inl (cI, 16, .inl g8)), (h8, .inl (cI, 16, .inl g9)), (h9, .inl (cJ, 16, .inr (.inl g10))), (h10, .inl (cI, 16, .inl g11)), (h0, .inr (12, ((f0.set 66 (.int 25)).set 67 (.int 0)))), (h1, .inl (cI, 26, .inl (upd g0 25 0))), (h2, .inl (cI, 26, .inl (upd g1 25 0))), (h3, .inl (cI, 26, .inl (upd g2 25 0))), (h4, .inl (cI, 26, .inl (upd g3 25 0))), (h5, .inl (cI, 26, .inl (upd g4 25 0)))] H := hP
  have hD : va_D A [(h11, .inl (cI, 2001, .inl g5)), (h12, .inl (cI, 2001, .inl g6)), (h6, .inl (cI, 16, .inl g7)), (h7, .inl (cI, 16, .inl g8)), (h8, .inl (cI, 16, .inl g9)), (h9, .inl (cJ, 16, .inr (.inl g10))), (h10, .inl (cI, 16, .inl g11)), (h0, .inr (12, ((f0.set 66 (.int 25)).set 67 (.int 0)))), (h1, .inl (cI, 26, .inl (upd g0 25 0))), (h2, .inl (cI, 26, .inl (upd g1 25 0))), (h3, .inl (cI, 26, .inl (upd g2 25 0))), (h4, .inl (cI, 26, .inl (upd g3 25 0))), (h5, .inl (cI, 26, .inl (upd g4 25 0)))] := hD
  refine lv_aload_n hx hb dX12_readsLineTerm_6 rfl (lv_at hl 0 rfl) ?_
  refine k_cVi (As := []) (rest := []) (wc := [(h0, .inr (12, ((f0.set 66 (.int 25)).set 67 (.int 0)))), (h6, .inl (cI, 16, .inl g7)), (h7, .inl (cI, 16, .inl g8)), (h8, .inl (cI, 16, .inl g9)), (h9, .inl (cJ, 16, .inr (.inl g10))), (h10, .inl (cI, 16, .inl g11)), (h11, .inl (cI, 2001, .inl g5)), (h12, .inl (cI, 2001, .inl g6))]) (wr := [(h1, .inl (cI, 26, .inl (upd g0 25 0))), (h2, .inl (cI, 26, .inl (upd g1 25 0))), (h3, .inl (cI, 26, .inl (upd g2 25 0))), (h4, .inl (cI, 26, .inl (upd g3 25 0))), (h5, .inl (cI, 26, .inl (upd g4 25 0)))]) (w1 := [(h0, .inr (12, (((((((((((f0.set 66 (.int 25)).set 67 (.int 0)).set 76 (.int (-1))).set 83 (.int (-1))).set 83 (.int 0)).set 84 (.int 3)).set 84 (.int 4)).set 84 (.int 5)).set 31 (.int 1)).set 29 (.int 2)).set 30 (.int 0)))), (h6, .inl (cI, 16, .inl (upd g7 0 33))), (h7, .inl (cI, 16, .inl (upd g8 0 (-1)))), (h8, .inl (cI, 16, .inl (upd (upd g9 0 1) 0 1))), (h9, .inl (cJ, 16, .inr (.inl (vp_updL (vp_updL g10 0 1) 0 1)))), (h10, .inl (cI, 16, .inl (upd g11 0 (-1)))), (h11, .inl (cI, 2001, .inl g5)), (h12, .inl (cI, 2001, .inl g6))]) ⟨hx, hb, hml, hown, hts⟩ hN hX hAE hK hP hD hS hA [7, 2, 3, 4, 5, 6, 0, 1] [8, 9, 10, 11, 12] (ci := 12) rfl rfl rfl rfl (by decide +kernel) (by decide +kernel) (by decide +kernel) (c_X12_readTerm_0 l E D cI cJ cB cZ h0 (((f0.set 66 (.int 25)).set 67 (.int 0))) h6 h7 h8 h9 h10 g7 g8 g9 g10 g11 h11 g5 h12 g6 (k_ne (by decide) (k_ne (by decide) e7)) (k_ne (by decide) (k_ne (by decide) e8)) (k_ne (by decide) (k_ne (by decide) e9)) (k_ne (by decide) (k_ne (by decide) e10)) (k_ne (by decide) (k_ne (by decide) e11)) (k_ne (by decide) (k_ne (by decide) e12)) (k_ne (by decide) (k_ne (by decide) e13)) (k_ne (by decide) (k_ne (by decide) e14)) (k_ne (by decide) (k_ne (by decide) e15)) (k_ne (by decide) (k_ne (by decide) e16)) (k_ne (by decide) (k_ne (by decide) e17)) e18 (k_ne (by decide) (k_set e0)) (k_ne (by decide) (k_ne (by decide) e19)) (k_ne (by decide) (k_ne (by decide) e20)) e21 (k_ne (by decide) (k_ne (by decide) e22)) (k_ne (by decide) (k_ne (by decide) e23))) (cwV 0 hts g9_X12_readsLineTerm_X12_readTerm_1020 rfl rfl rfl (by decide +kernel) ⟨Nat.le_of_ble_eq_true rfl, Nat.le_of_ble_eq_true rfl⟩) rfl hl.1 (Nat.le_of_ble_eq_true rfl) dX12_readsLineTerm_7 ⟨Nat.le_of_ble_eq_true rfl, Nat.le_of_ble_eq_true rfl⟩ (fun H locs hP hD hS => ?_)
  have hP : va_P D vwCl [(h1, .inl (cI, 26, .inl (upd g0 25 0))), (h2, .inl (cI, 26, .inl (upd g1 25 0))), (h3, .inl (cI, 26, .inl (upd g2 25 0))), (h4, .inl (cI, 26, .inl (upd g3 25 0))), (h5, .inl (cI, 26, .inl (upd g4 25 0))), (h0, .inr (12, (((((((((((f0.set 66 (.int 25)).set 67 (.int 0)).set 76 (.int (-1))).set 83 (.int (-1))).set 83 (.int 0)).set 84 (.int 3)).set 84 (.int 4)).set 84 (.int 5)).set 31 (.int 1)).set 29 (.int 2)).set 30 (.int 0)))), (h6, .inl (cI, 16, .inl (upd g7 0 33))), (h7, .inl (cI, 16, .inl (upd g8 0 (-1)))), (h8, .inl (cI, 16, .inl (upd (upd g9 0 1) 0 1))), (h9, .inl (cJ, 16, .inr (.inl (vp_updL (vp_updL g10 0 1) 0 1)))), (h10, .inl (cI, 16, .inl (upd g11 0 (-1)))), (h11, .inl (cI, 2001, .inl g5)), (h12, .inl (cI, 2001, .inl g6))] H := hP
  have hD : va_D A [(h1, .inl (cI, 26, .inl (upd g0 25 0))), (h2, .inl (cI, 26, .inl (upd g1 25 0))), (h3, .inl (cI, 26, .inl (upd g2 25 0))), (h4, .inl (cI, 26, .inl (upd g3 25 0))), (h5, .inl (cI, 26, .inl (upd g4 25 0))), (h0, .inr (12, (((((((((((f0.set 66 (.int 25)).set 67 (.int 0)).set 76 (.int (-1))).set 83 (.int (-1))).set 83 (.int 0)).set 84 (.int 3)).set 84 (.int 4)).set 84 (.int 5)).set 31 (.int 1)).set 29 (.int 2)).set 30 (.int 0)))), (h6, .inl (cI, 16, .inl (upd g7 0 33))), (h7, .inl (cI, 16, .inl (upd g8 0 (-1)))), (h8, .inl (cI, 16, .inl (upd (upd g9 0 1) 0 1))), (h9, .inl (cJ, 16, .inr (.inl (vp_updL (vp_updL g10 0 1) 0 1)))), (h10, .inl (cI, 16, .inl (upd g11 0 (-1)))), (h11, .inl (cI, 2001, .inl g5)), (h12, .inl (cI, 2001, .inl g6))] := hD
  refine lv_istore_n (lv' := [(1, .int 0), (0, .ref h0)]) hx hb dX12_readsLineTerm_10 rfl hl (by decide) rfl (fun ls hl => ?_)
  refine lv_aload_n hx hb dX12_readsLineTerm_11 rfl (lv_at hl 1 rfl) ?_
  refine k_get (D := D) (ci := 12) (v := .int 1) (N := 195) hx hb hts hin12 hown hK hP 5 rfl rfl (by decide) f9_12_31 (hts (.fieldLink RX12 562 "IntegerHouseModel" "faulty" "Z") (o9_X12_readsLineTerm _ (List.mem_of_getElem? (i := 7) rfl))) (k_ne (by decide) (k_ne (by decide) (k_set (k_ne (by decide) (k_ne (by decide) (k_ne (by decide) (k_ne (by decide) (k_ne (by decide) (k_ne (by decide) (k_ne (by decide) (k_ne (by decide) e15))))))))))) dX12_readsLineTerm_12 ?_
  refine lv_if_ne (tgt := 34) hx hb dX12_readsLineTerm_15 (by decide) (fun _ => ?_) (fun c9 => absurd c9 (by decide))
  refine lv_aload_n hx hb dX12_readsLineTerm_34 rfl (lv_at hl 1 rfl) ?_
  refine k_get (D := D) (ci := 12) (v := .int 1) (N := 195) hx hb hts hin12 hown hK hP 5 rfl rfl (by decide) f9_12_31 (hts (.fieldLink RX12 562 "IntegerHouseModel" "faulty" "Z") (o9_X12_readsLineTerm _ (List.mem_of_getElem? (i := 7) rfl))) (k_ne (by decide) (k_ne (by decide) (k_set (k_ne (by decide) (k_ne (by decide) (k_ne (by decide) (k_ne (by decide) (k_ne (by decide) (k_ne (by decide) (k_ne (by decide) (k_ne (by decide) e15))))))))))) dX12_readsLineTerm_35 ?_
  refine lv_if_ne (tgt := 59) hx hb dX12_readsLineTerm_38 (by decide) (fun _ => ?_) (fun c9 => absurd c9 (by decide))
  refine lv_iconst (v := 0) hx hb dX12_readsLineTerm_59 (by decide) ?_
  have hP := hP.sub (ws' := [(h0, .inr (12, (((((((((((f0.set 66 (.int 25)).set 67 (.int 0)).set 76 (.int (-1))).set 83 (.int (-1))).set 83 (.int 0)).set 84 (.int 3)).set 84 (.int 4)).set 84 (.int 5)).set 31 (.int 1)).set 29 (.int 2)).set 30 (.int 0)))), (h1, .inl (cI, 26, .inl (upd g0 25 0))), (h2, .inl (cI, 26, .inl (upd g1 25 0))), (h3, .inl (cI, 26, .inl (upd g2 25 0))), (h4, .inl (cI, 26, .inl (upd g3 25 0))), (h5, .inl (cI, 26, .inl (upd g4 25 0))), (h11, .inl (cI, 2001, .inl g5)), (h12, .inl (cI, 2001, .inl g6)), (h6, .inl (cI, 16, .inl (upd g7 0 33))), (h7, .inl (cI, 16, .inl (upd g8 0 (-1)))), (h8, .inl (cI, 16, .inl (upd (upd g9 0 1) 0 1))), (h9, .inl (cJ, 16, .inr (.inl (vp_updL (vp_updL g10 0 1) 0 1)))), (h10, .inl (cI, 16, .inl (upd g11 0 (-1))))]) [5, 0, 1, 2, 3, 4, 11, 12, 6, 7, 8, 9, 10] rfl
  have hD := hD.sub (ws' := [(h0, .inr (12, (((((((((((f0.set 66 (.int 25)).set 67 (.int 0)).set 76 (.int (-1))).set 83 (.int (-1))).set 83 (.int 0)).set 84 (.int 3)).set 84 (.int 4)).set 84 (.int 5)).set 31 (.int 1)).set 29 (.int 2)).set 30 (.int 0)))), (h1, .inl (cI, 26, .inl (upd g0 25 0))), (h2, .inl (cI, 26, .inl (upd g1 25 0))), (h3, .inl (cI, 26, .inl (upd g2 25 0))), (h4, .inl (cI, 26, .inl (upd g3 25 0))), (h5, .inl (cI, 26, .inl (upd g4 25 0))), (h11, .inl (cI, 2001, .inl g5)), (h12, .inl (cI, 2001, .inl g6)), (h6, .inl (cI, 16, .inl (upd g7 0 33))), (h7, .inl (cI, 16, .inl (upd g8 0 (-1)))), (h8, .inl (cI, 16, .inl (upd (upd g9 0 1) 0 1))), (h9, .inl (cJ, 16, .inr (.inl (vp_updL (vp_updL g10 0 1) 0 1)))), (h10, .inl (cI, 16, .inl (upd g11 0 (-1))))]) [5, 0, 1, 2, 3, 4, 11, 12, 6, 7, 8, 9, 10] (by decide +kernel) rfl
  exact W.zret (v := 0) hx hb hr rfl (fun t ht hW => ⟨⟨0, (), rfl, rfl, kB_mk ht hW hP hK hD⟩, hS.F ht⟩) hS.2.2 dX12_readsLineTerm_60
set_option maxHeartbeats 400000000 in
set_option maxRecDepth 100000 in
theorem c_X12_relaxed_0 (l : Launch) (E : kE) (D : va_G) (cI cJ cB cZ : ClassId) (h0 : Nat) (f0 : List Value) (h1 : Nat) (h2 : Nat) (h3 : Nat) (h4 : Nat) (g0 : Nat → Int32) (g1 : Nat → Int32) (g2 : Nat → Int32) (g3 : Nat → Int32) (h5 : Nat) (h6 : Nat) (h7 : Nat) (h8 : Nat) (h9 : Nat) (h10 : Nat) (h11 : Nat) (h12 : Nat) (h13 : Nat) (h14 : Nat) (g4 : Nat → Int32) (g5 : Nat → Int32) (g6 : Nat → Int32) (g7 : Nat → Int32) (g8 : Nat → Int32) (g9 : Nat → Int32) (g10 : Nat → Int32) (g11 : Nat → Int32) (g12 : Nat → Int64) (g13 : Nat → Int32) (e0 : f0[0]? = some (.int 0)) (e1 : f0[5]? = some (.int 0)) (e2 : f0[2]? = some (.int 0)) (e3 : f0[12]? = some (.int 0)) (e4 : f0[32]? = some (.int 0)) (e5 : f0[36]? = some (.int 0)) (e6 : f0[33]? = some (.int 0)) (e7 : f0[37]? = some (.int 0)) (e8 : f0[27]? = some (.int 0)) (e9 : f0[31]? = some (.int 0)) (e10 : f0[28]? = some (.int 0)) (e11 : f0[23]? = some (.ref h1)) (e12 : f0[24]? = some (.ref h2)) (e13 : f0[25]? = some (.ref h3)) (e14 : f0[26]? = some (.ref h4)) (e15 : f0[66]? = some (.int 0)) (e16 : f0[67]? = some (.int 0)) (e17 : f0[40]? = some (.ref h5)) (e18 : f0[45]? = some (.ref h6)) (e19 : f0[56]? = some (.ref h7)) (e20 : f0[60]? = some (.ref h8)) (e21 : f0[65]? = some (.ref h9)) (e22 : f0[76]? = some (.int 0)) (e23 : f0[83]? = some (.int 0)) (e24 : f0[77]? = some (.ref h10)) (e25 : f0[78]? = some (.ref h11)) (e26 : f0[80]? = some (.ref h12)) (e27 : f0[81]? = some (.ref h13)) (e28 : f0[82]? = some (.ref h14)) (e29 : f0[84]? = some (.int 0)) (e30 : f0[29]? = some (.int 0)) (e31 : f0[30]? = some (.int 0)) (e32 : f0[85]? = some (.int 0)) (e33 : f0[13]? = some (.int 0)) (e34 : f0[109]? = some (.int 0)) : kI l E D (kT cI cJ cB cZ) yX12_relaxed vW_X12_relaxed ({ frames := 6, cells := 0, slots := 0, locals := 125 }) [.ref h0] [(h0, .inr (12, f0)), (h1, .inl (cI, 2001, .inl g0)), (h2, .inl (cI, 2001, .inl g1)), (h3, .inl (cI, 2001, .inl g2)), (h4, .inl (cI, 2001, .inl g3)), (h5, .inl (cI, 26, .inl g4)), (h6, .inl (cI, 26, .inl g5)), (h7, .inl (cI, 26, .inl g6)), (h8, .inl (cI, 26, .inl g7)), (h9, .inl (cI, 26, .inl g8)), (h10, .inl (cI, 16, .inl g9)), (h11, .inl (cI, 16, .inl g10)), (h12, .inl (cI, 16, .inl g11)), (h13, .inl (cJ, 16, .inr (.inl g12))), (h14, .inl (cI, 16, .inl g13))] ((-1000)) [(h0, .inr (12, ((((((((((((((((((((f0.set 0 (.int 0)).set 12 (.int 0)).set 2 (.int 0)).set 36 (.int 0)).set 37 (.int 0)).set 27 (.int 0)).set 31 (.int 0)).set 28 (.int 0)).set 66 (.int 25)).set 67 (.int 0)).set 76 (.int (-1))).set 83 (.int (-1))).set 83 (.int 0)).set 84 (.int 3)).set 84 (.int 4)).set 84 (.int 5)).set 31 (.int 1)).set 29 (.int 2)).set 30 (.int 0)).set 109 (.int 2)))), (h1, .inl (cI, 2001, .inl (upd g0 0 0))), (h2, .inl (cI, 2001, .inl (upd g1 0 0))), (h3, .inl (cI, 2001, .inl (upd g2 0 0))), (h4, .inl (cI, 2001, .inl (upd g3 0 0))), (h5, .inl (cI, 26, .inl (upd g4 25 0))), (h6, .inl (cI, 26, .inl (upd g5 25 0))), (h7, .inl (cI, 26, .inl (upd g6 25 0))), (h8, .inl (cI, 26, .inl (upd g7 25 0))), (h9, .inl (cI, 26, .inl (upd g8 25 0))), (h10, .inl (cI, 16, .inl (upd g9 0 33))), (h11, .inl (cI, 16, .inl (upd g10 0 (-1)))), (h12, .inl (cI, 16, .inl (upd (upd g11 0 1) 0 1))), (h13, .inl (cJ, 16, .inr (.inl (vp_updL (vp_updL g12 0 1) 0 1)))), (h14, .inl (cI, 16, .inl (upd g13 0 (-1))))] 0 0 := by
  intro sz
  refine Met.ofW (cc := cX12_relaxed) (maxL := 2) (ret := (some .int)) (by decide) rfl ?_
  intro p e s m args below meth c s₁ B hml hv
  obtain ⟨rfl, hsz, hP, hK, hD0, hN, hX⟩ := hv
  have hx := B.exec
  have hb := B.bytes
  have hr := B.returns
  have hts := atoms_spec (ws := vW_X12_relaxed) B.pre
  have hown : s.vm.findClass RX12 = some m.cls := findClass_of_methodNamed B.named
  have hlocks := B.notSynchronized
  subst hsz
  have hD := hD0.self (sz := s.heap.size)
  have hAE := k_AE hD0 hX
  generalize hAe : va_A [(h0, .inr (12, f0)), (h1, .inl (cI, 2001, .inl g0)), (h2, .inl (cI, 2001, .inl g1)), (h3, .inl (cI, 2001, .inl g2)), (h4, .inl (cI, 2001, .inl g3)), (h5, .inl (cI, 26, .inl g4)), (h6, .inl (cI, 26, .inl g5)), (h7, .inl (cI, 26, .inl g6)), (h8, .inl (cI, 26, .inl g7)), (h9, .inl (cI, 26, .inl g8)), (h10, .inl (cI, 16, .inl g9)), (h11, .inl (cI, 16, .inl g10)), (h12, .inl (cI, 16, .inl g11)), (h13, .inl (cJ, 16, .inr (.inl g12))), (h14, .inl (cI, 16, .inl g13))] s.heap.size = A at hD hAE ⊢
  have hA : ∀ q : Nat, s.heap.size ≤ q → A q := fun q h => by rw [← hAe]; exact Or.inr h
  have hS : va_S A s.heap s.heap [] := va_S.rf
  have hP : va_P D vwCl [(h0, .inr (12, f0)), (h1, .inl (cI, 2001, .inl g0)), (h2, .inl (cI, 2001, .inl g1)), (h3, .inl (cI, 2001, .inl g2)), (h4, .inl (cI, 2001, .inl g3)), (h5, .inl (cI, 26, .inl g4)), (h6, .inl (cI, 26, .inl g5)), (h7, .inl (cI, 26, .inl g6)), (h8, .inl (cI, 26, .inl g7)), (h9, .inl (cI, 26, .inl g8)), (h10, .inl (cI, 16, .inl g9)), (h11, .inl (cI, 16, .inl g10)), (h12, .inl (cI, 16, .inl g11)), (h13, .inl (cJ, 16, .inr (.inl g12))), (h14, .inl (cI, 16, .inl g13))] s.heap := hP
  have hl := lv_entry ([.ref h0] : List Value) (n := 2) (Nat.le_of_ble_eq_true rfl)
  rw [lg_entry_eq]
  generalize (lg_sl ([.ref h0]) ++ List.replicate (2 - (lg_sl ([.ref h0])).length) Slot.unset).toArray = ls at hl ⊢
  have hl : lv_has ls 2 [(0, .ref h0)] := hl
  refine lv_aload_n hx hb dX12_relaxed_0 rfl (lv_at hl 0 rfl) ?_
  refine k_cVi (As := []) (rest := []) (wc := [(h0, .inr (12, f0))]) (wr := [(h1, .inl (cI, 2001, .inl g0)), (h2, .inl (cI, 2001, .inl g1)), (h3, .inl (cI, 2001, .inl g2)), (h4, .inl (cI, 2001, .inl g3)), (h5, .inl (cI, 26, .inl g4)), (h6, .inl (cI, 26, .inl g5)), (h7, .inl (cI, 26, .inl g6)), (h8, .inl (cI, 26, .inl g7)), (h9, .inl (cI, 26, .inl g8)), (h10, .inl (cI, 16, .inl g9)), (h11, .inl (cI, 16, .inl g10)), (h12, .inl (cI, 16, .inl g11)), (h13, .inl (cJ, 16, .inr (.inl g12))), (h14, .inl (cI, 16, .inl g13))]) (w1 := [(h0, .inr (12, (f0.set 0 (.int 0))))]) ⟨hx, hb, hml, hown, hts⟩ hN hX hAE hK hP hD hS hA [0] [1, 2, 3, 4, 5, 6, 7, 8, 9, 10, 11, 12, 13, 14] (ci := 12) rfl rfl rfl rfl (by decide +kernel) (by decide +kernel) (by decide +kernel) (c_X12_asks_0 l E D cI cJ cB cZ h0 f0 e0 e1) (cwV 0 hts g9_X12_relaxed_X12_asks_871 rfl rfl rfl (by decide +kernel) ⟨Nat.le_of_ble_eq_true rfl, Nat.le_of_ble_eq_true rfl⟩) rfl hl.1 (Nat.le_of_ble_eq_true rfl) dX12_relaxed_1 ⟨Nat.le_of_ble_eq_true rfl, Nat.le_of_ble_eq_true rfl⟩ (fun H locs hP hD hS => ?_)
  have hP : va_P D vwCl [(h1, .inl (cI, 2001, .inl g0)), (h2, .inl (cI, 2001, .inl g1)), (h3, .inl (cI, 2001, .inl g2)), (h4, .inl (cI, 2001, .inl g3)), (h5, .inl (cI, 26, .inl g4)), (h6, .inl (cI, 26, .inl g5)), (h7, .inl (cI, 26, .inl g6)), (h8, .inl (cI, 26, .inl g7)), (h9, .inl (cI, 26, .inl g8)), (h10, .inl (cI, 16, .inl g9)), (h11, .inl (cI, 16, .inl g10)), (h12, .inl (cI, 16, .inl g11)), (h13, .inl (cJ, 16, .inr (.inl g12))), (h14, .inl (cI, 16, .inl g13)), (h0, .inr (12, (f0.set 0 (.int 0))))] H := hP
  have hD : va_D A [(h1, .inl (cI, 2001, .inl g0)), (h2, .inl (cI, 2001, .inl g1)), (h3, .inl (cI, 2001, .inl g2)), (h4, .inl (cI, 2001, .inl g3)), (h5, .inl (cI, 26, .inl g4)), (h6, .inl (cI, 26, .inl g5)), (h7, .inl (cI, 26, .inl g6)), (h8, .inl (cI, 26, .inl g7)), (h9, .inl (cI, 26, .inl g8)), (h10, .inl (cI, 16, .inl g9)), (h11, .inl (cI, 16, .inl g10)), (h12, .inl (cI, 16, .inl g11)), (h13, .inl (cJ, 16, .inr (.inl g12))), (h14, .inl (cI, 16, .inl g13)), (h0, .inr (12, (f0.set 0 (.int 0))))] := hD
  refine lv_if_ne (tgt := 10) hx hb dX12_relaxed_4 (by decide) (fun _ => ?_) (fun c9 => absurd c9 (by decide))
  refine lv_aload_n hx hb dX12_relaxed_10 rfl (lv_at hl 0 rfl) ?_
  refine k_cVv (As := []) (rest := []) (wc := [(h0, .inr (12, (f0.set 0 (.int 0)))), (h1, .inl (cI, 2001, .inl g0)), (h2, .inl (cI, 2001, .inl g1)), (h3, .inl (cI, 2001, .inl g2)), (h4, .inl (cI, 2001, .inl g3))]) (wr := [(h5, .inl (cI, 26, .inl g4)), (h6, .inl (cI, 26, .inl g5)), (h7, .inl (cI, 26, .inl g6)), (h8, .inl (cI, 26, .inl g7)), (h9, .inl (cI, 26, .inl g8)), (h10, .inl (cI, 16, .inl g9)), (h11, .inl (cI, 16, .inl g10)), (h12, .inl (cI, 16, .inl g11)), (h13, .inl (cJ, 16, .inr (.inl g12))), (h14, .inl (cI, 16, .inl g13))]) (w1 := (fun _ : Unit => [(h0, .inr (12, ((((((((f0.set 0 (.int 0)).set 12 (.int 0)).set 2 (.int 0)).set 36 (.int 0)).set 37 (.int 0)).set 27 (.int 0)).set 31 (.int 0)).set 28 (.int 0)))), (h1, .inl (cI, 2001, .inl (upd g0 0 0))), (h2, .inl (cI, 2001, .inl (upd g1 0 0))), (h3, .inl (cI, 2001, .inl (upd g2 0 0))), (h4, .inl (cI, 2001, .inl (upd g3 0 0)))])) ⟨hx, hb, hml, hown, hts⟩ hN hX hAE hK hP hD hS hA [14, 0, 1, 2, 3] [4, 5, 6, 7, 8, 9, 10, 11, 12, 13] (ci := 12) rfl rfl rfl rfl (by decide +kernel) (by decide +kernel) (by decide +kernel) (c_X12_begin_0 l E D cI cJ cB cZ h0 ((f0.set 0 (.int 0))) h1 h2 h3 h4 g0 g1 g2 g3 (k_ne (by decide) e2) (k_ne (by decide) e3) (k_ne (by decide) e4) (k_ne (by decide) e5) (k_ne (by decide) e6) (k_ne (by decide) e7) (k_ne (by decide) e8) (k_ne (by decide) e9) (k_ne (by decide) e10) (k_ne (by decide) e11) (k_ne (by decide) e12) (k_ne (by decide) e13) (k_ne (by decide) e14)) (cwV 0 hts g9_X12_relaxed_X12_begin_874 rfl rfl rfl (by decide +kernel) ⟨Nat.le_of_ble_eq_true rfl, Nat.le_of_ble_eq_true rfl⟩) rfl hl.1 (Nat.le_of_ble_eq_true rfl) dX12_relaxed_11 ⟨Nat.le_of_ble_eq_true rfl, Nat.le_of_ble_eq_true rfl⟩ (fun _ H locs hP hD hS => ?_)
  have hP : va_P D vwCl [(h5, .inl (cI, 26, .inl g4)), (h6, .inl (cI, 26, .inl g5)), (h7, .inl (cI, 26, .inl g6)), (h8, .inl (cI, 26, .inl g7)), (h9, .inl (cI, 26, .inl g8)), (h10, .inl (cI, 16, .inl g9)), (h11, .inl (cI, 16, .inl g10)), (h12, .inl (cI, 16, .inl g11)), (h13, .inl (cJ, 16, .inr (.inl g12))), (h14, .inl (cI, 16, .inl g13)), (h0, .inr (12, ((((((((f0.set 0 (.int 0)).set 12 (.int 0)).set 2 (.int 0)).set 36 (.int 0)).set 37 (.int 0)).set 27 (.int 0)).set 31 (.int 0)).set 28 (.int 0)))), (h1, .inl (cI, 2001, .inl (upd g0 0 0))), (h2, .inl (cI, 2001, .inl (upd g1 0 0))), (h3, .inl (cI, 2001, .inl (upd g2 0 0))), (h4, .inl (cI, 2001, .inl (upd g3 0 0)))] H := hP
  have hD : va_D A [(h5, .inl (cI, 26, .inl g4)), (h6, .inl (cI, 26, .inl g5)), (h7, .inl (cI, 26, .inl g6)), (h8, .inl (cI, 26, .inl g7)), (h9, .inl (cI, 26, .inl g8)), (h10, .inl (cI, 16, .inl g9)), (h11, .inl (cI, 16, .inl g10)), (h12, .inl (cI, 16, .inl g11)), (h13, .inl (cJ, 16, .inr (.inl g12))), (h14, .inl (cI, 16, .inl g13)), (h0, .inr (12, ((((((((f0.set 0 (.int 0)).set 12 (.int 0)).set 2 (.int 0)).set 36 (.int 0)).set 37 (.int 0)).set 27 (.int 0)).set 31 (.int 0)).set 28 (.int 0)))), (h1, .inl (cI, 2001, .inl (upd g0 0 0))), (h2, .inl (cI, 2001, .inl (upd g1 0 0))), (h3, .inl (cI, 2001, .inl (upd g2 0 0))), (h4, .inl (cI, 2001, .inl (upd g3 0 0)))] := hD
  refine lv_aload_n hx hb dX12_relaxed_14 rfl (lv_at hl 0 rfl) ?_
  refine k_cVi (As := []) (rest := []) (wc := [(h0, .inr (12, ((((((((f0.set 0 (.int 0)).set 12 (.int 0)).set 2 (.int 0)).set 36 (.int 0)).set 37 (.int 0)).set 27 (.int 0)).set 31 (.int 0)).set 28 (.int 0))))]) (wr := [(h5, .inl (cI, 26, .inl g4)), (h6, .inl (cI, 26, .inl g5)), (h7, .inl (cI, 26, .inl g6)), (h8, .inl (cI, 26, .inl g7)), (h9, .inl (cI, 26, .inl g8)), (h10, .inl (cI, 16, .inl g9)), (h11, .inl (cI, 16, .inl g10)), (h12, .inl (cI, 16, .inl g11)), (h13, .inl (cJ, 16, .inr (.inl g12))), (h14, .inl (cI, 16, .inl g13)), (h1, .inl (cI, 2001, .inl (upd g0 0 0))), (h2, .inl (cI, 2001, .inl (upd g1 0 0))), (h3, .inl (cI, 2001, .inl (upd g2 0 0))), (h4, .inl (cI, 2001, .inl (upd g3 0 0)))]) (w1 := [(h0, .inr (12, ((((((((f0.set 0 (.int 0)).set 12 (.int 0)).set 2 (.int 0)).set 36 (.int 0)).set 37 (.int 0)).set 27 (.int 0)).set 31 (.int 0)).set 28 (.int 0))))]) ⟨hx, hb, hml, hown, hts⟩ hN hX hAE hK hP hD hS hA [10] [0, 1, 2, 3, 4, 5, 6, 7, 8, 9, 11, 12, 13, 14] (ci := 12) rfl rfl rfl rfl (by decide +kernel) (by decide +kernel) (by decide +kernel) (c_X12_isAllPlain_0 l E D cI cJ cB cZ h0 (((((((((f0.set 0 (.int 0)).set 12 (.int 0)).set 2 (.int 0)).set 36 (.int 0)).set 37 (.int 0)).set 27 (.int 0)).set 31 (.int 0)).set 28 (.int 0))) (k_ne (by decide) (k_ne (by decide) (k_ne (by decide) (k_ne (by decide) (k_ne (by decide) (k_ne (by decide) (k_ne (by decide) (k_ne (by decide) e6))))))))) (cwV 0 hts g9_X12_relaxed_X12_isAllPlain_1141 rfl rfl rfl (by decide +kernel) ⟨Nat.le_of_ble_eq_true rfl, Nat.le_of_ble_eq_true rfl⟩) rfl hl.1 (Nat.le_of_ble_eq_true rfl) dX12_relaxed_15 ⟨Nat.le_of_ble_eq_true rfl, Nat.le_of_ble_eq_true rfl⟩ (fun H locs hP hD hS => ?_)
  have hP : va_P D vwCl [(h5, .inl (cI, 26, .inl g4)), (h6, .inl (cI, 26, .inl g5)), (h7, .inl (cI, 26, .inl g6)), (h8, .inl (cI, 26, .inl g7)), (h9, .inl (cI, 26, .inl g8)), (h10, .inl (cI, 16, .inl g9)), (h11, .inl (cI, 16, .inl g10)), (h12, .inl (cI, 16, .inl g11)), (h13, .inl (cJ, 16, .inr (.inl g12))), (h14, .inl (cI, 16, .inl g13)), (h1, .inl (cI, 2001, .inl (upd g0 0 0))), (h2, .inl (cI, 2001, .inl (upd g1 0 0))), (h3, .inl (cI, 2001, .inl (upd g2 0 0))), (h4, .inl (cI, 2001, .inl (upd g3 0 0))), (h0, .inr (12, ((((((((f0.set 0 (.int 0)).set 12 (.int 0)).set 2 (.int 0)).set 36 (.int 0)).set 37 (.int 0)).set 27 (.int 0)).set 31 (.int 0)).set 28 (.int 0))))] H := hP
  have hD : va_D A [(h5, .inl (cI, 26, .inl g4)), (h6, .inl (cI, 26, .inl g5)), (h7, .inl (cI, 26, .inl g6)), (h8, .inl (cI, 26, .inl g7)), (h9, .inl (cI, 26, .inl g8)), (h10, .inl (cI, 16, .inl g9)), (h11, .inl (cI, 16, .inl g10)), (h12, .inl (cI, 16, .inl g11)), (h13, .inl (cJ, 16, .inr (.inl g12))), (h14, .inl (cI, 16, .inl g13)), (h1, .inl (cI, 2001, .inl (upd g0 0 0))), (h2, .inl (cI, 2001, .inl (upd g1 0 0))), (h3, .inl (cI, 2001, .inl (upd g2 0 0))), (h4, .inl (cI, 2001, .inl (upd g3 0 0))), (h0, .inr (12, ((((((((f0.set 0 (.int 0)).set 12 (.int 0)).set 2 (.int 0)).set 36 (.int 0)).set 37 (.int 0)).set 27 (.int 0)).set 31 (.int 0)).set 28 (.int 0))))] := hD
  refine lv_if_ne (tgt := 24) hx hb dX12_relaxed_18 (by decide) (fun _ => ?_) (fun c9 => absurd c9 (by decide))
  refine lv_aload_n hx hb dX12_relaxed_24 rfl (lv_at hl 0 rfl) ?_
  refine k_cVi (As := []) (rest := []) (wc := [(h0, .inr (12, ((((((((f0.set 0 (.int 0)).set 12 (.int 0)).set 2 (.int 0)).set 36 (.int 0)).set 37 (.int 0)).set 27 (.int 0)).set 31 (.int 0)).set 28 (.int 0)))), (h5, .inl (cI, 26, .inl g4)), (h6, .inl (cI, 26, .inl g5)), (h7, .inl (cI, 26, .inl g6)), (h8, .inl (cI, 26, .inl g7)), (h9, .inl (cI, 26, .inl g8)), (h3, .inl (cI, 2001, .inl (upd g2 0 0))), (h1, .inl (cI, 2001, .inl (upd g0 0 0))), (h10, .inl (cI, 16, .inl g9)), (h11, .inl (cI, 16, .inl g10)), (h12, .inl (cI, 16, .inl g11)), (h13, .inl (cJ, 16, .inr (.inl g12))), (h14, .inl (cI, 16, .inl g13))]) (wr := [(h2, .inl (cI, 2001, .inl (upd g1 0 0))), (h4, .inl (cI, 2001, .inl (upd g3 0 0)))]) (w1 := [(h0, .inr (12, (((((((((((((((((((f0.set 0 (.int 0)).set 12 (.int 0)).set 2 (.int 0)).set 36 (.int 0)).set 37 (.int 0)).set 27 (.int 0)).set 31 (.int 0)).set 28 (.int 0)).set 66 (.int 25)).set 67 (.int 0)).set 76 (.int (-1))).set 83 (.int (-1))).set 83 (.int 0)).set 84 (.int 3)).set 84 (.int 4)).set 84 (.int 5)).set 31 (.int 1)).set 29 (.int 2)).set 30 (.int 0)))), (h5, .inl (cI, 26, .inl (upd g4 25 0))), (h6, .inl (cI, 26, .inl (upd g5 25 0))), (h7, .inl (cI, 26, .inl (upd g6 25 0))), (h8, .inl (cI, 26, .inl (upd g7 25 0))), (h9, .inl (cI, 26, .inl (upd g8 25 0))), (h3, .inl (cI, 2001, .inl (upd g2 0 0))), (h1, .inl (cI, 2001, .inl (upd g0 0 0))), (h10, .inl (cI, 16, .inl (upd g9 0 33))), (h11, .inl (cI, 16, .inl (upd g10 0 (-1)))), (h12, .inl (cI, 16, .inl (upd (upd g11 0 1) 0 1))), (h13, .inl (cJ, 16, .inr (.inl (vp_updL (vp_updL g12 0 1) 0 1)))), (h14, .inl (cI, 16, .inl (upd g13 0 (-1))))]) ⟨hx, hb, hml, hown, hts⟩ hN hX hAE hK hP hD hS hA [14, 0, 1, 2, 3, 4, 12, 10, 5, 6, 7, 8, 9] [11, 13] (ci := 12) rfl rfl rfl rfl (by decide +kernel) (by decide +kernel) (by decide +kernel) (c_X12_readsLineTerm_0 l E D cI cJ cB cZ h0 (((((((((f0.set 0 (.int 0)).set 12 (.int 0)).set 2 (.int 0)).set 36 (.int 0)).set 37 (.int 0)).set 27 (.int 0)).set 31 (.int 0)).set 28 (.int 0))) h5 h6 h7 h8 h9 g4 g5 g6 g7 g8 h10 h11 h12 h13 h14 h3 ((upd g2 0 0)) h1 ((upd g0 0 0)) g9 g10 g11 g12 g13 (k_ne (by decide) (k_ne (by decide) (k_ne (by decide) (k_ne (by decide) (k_ne (by decide) (k_ne (by decide) (k_ne (by decide) (k_ne (by decide) e15)))))))) (k_ne (by decide) (k_ne (by decide) (k_ne (by decide) (k_ne (by decide) (k_ne (by decide) (k_ne (by decide) (k_ne (by decide) (k_ne (by decide) e16)))))))) (k_ne (by decide) (k_ne (by decide) (k_ne (by decide) (k_ne (by decide) (k_ne (by decide) (k_ne (by decide) (k_ne (by decide) (k_ne (by decide) e17)))))))) (k_ne (by decide) (k_ne (by decide) (k_ne (by decide) (k_ne (by decide) (k_ne (by decide) (k_ne (by decide) (k_ne (by decide) (k_ne (by decide) e18)))))))) (k_ne (by decide) (k_ne (by decide) (k_ne (by decide) (k_ne (by decide) (k_ne (by decide) (k_ne (by decide) (k_ne (by decide) (k_ne (by decide) e19)))))))) (k_ne (by decide) (k_ne (by decide) (k_ne (by decide) (k_ne (by decide) (k_ne (by decide) (k_ne (by decide) (k_ne (by decide) (k_ne (by decide) e20)))))))) (k_ne (by decide) (k_ne (by decide) (k_ne (by decide) (k_ne (by decide) (k_ne (by decide) (k_ne (by decide) (k_ne (by decide) (k_ne (by decide) e21)))))))) (k_ne (by decide) (k_ne (by decide) (k_ne (by decide) (k_ne (by decide) (k_ne (by decide) (k_ne (by decide) (k_ne (by decide) (k_ne (by decide) e22)))))))) (k_ne (by decide) (k_ne (by decide) (k_ne (by decide) (k_ne (by decide) (k_ne (by decide) (k_ne (by decide) (k_ne (by decide) (k_ne (by decide) e23)))))))) (k_ne (by decide) (k_ne (by decide) (k_ne (by decide) (k_ne (by decide) (k_ne (by decide) (k_ne (by decide) (k_ne (by decide) (k_ne (by decide) e24)))))))) (k_ne (by decide) (k_ne (by decide) (k_ne (by decide) (k_ne (by decide) (k_ne (by decide) (k_ne (by decide) (k_ne (by decide) (k_ne (by decide) e25)))))))) (k_ne (by decide) (k_ne (by decide) (k_ne (by decide) (k_ne (by decide) (k_ne (by decide) (k_ne (by decide) (k_ne (by decide) (k_ne (by decide) e26)))))))) (k_ne (by decide) (k_ne (by decide) (k_ne (by decide) (k_ne (by decide) (k_ne (by decide) (k_ne (by decide) (k_ne (by decide) (k_ne (by decide) e27)))))))) (k_ne (by decide) (k_ne (by decide) (k_ne (by decide) (k_ne (by decide) (k_ne (by decide) (k_ne (by decide) (k_ne (by decide) (k_ne (by decide) e28)))))))) (k_ne (by decide) (k_ne (by decide) (k_ne (by decide) (k_ne (by decide) (k_ne (by decide) (k_ne (by decide) (k_ne (by decide) (k_ne (by decide) e29)))))))) (k_ne (by decide) (k_set (k_ne (by decide) (k_ne (by decide) (k_ne (by decide) (k_ne (by decide) (k_ne (by decide) (k_ne (by decide) e9)))))))) (k_ne (by decide) (k_ne (by decide) (k_ne (by decide) (k_ne (by decide) (k_ne (by decide) (k_ne (by decide) (k_ne (by decide) (k_ne (by decide) e13)))))))) (k_set (k_ne (by decide) (k_ne (by decide) (k_ne (by decide) (k_ne (by decide) (k_ne (by decide) (k_ne (by decide) (k_ne (by decide) e10)))))))) rfl (k_ne (by decide) (k_ne (by decide) (k_ne (by decide) (k_ne (by decide) (k_ne (by decide) (k_ne (by decide) (k_ne (by decide) (k_ne (by decide) e30)))))))) (k_ne (by decide) (k_ne (by decide) (k_ne (by decide) (k_ne (by decide) (k_ne (by decide) (k_ne (by decide) (k_ne (by decide) (k_ne (by decide) e11)))))))) rfl (k_ne (by decide) (k_ne (by decide) (k_ne (by decide) (k_ne (by decide) (k_ne (by decide) (k_ne (by decide) (k_ne (by decide) (k_ne (by decide) e31)))))))) (k_ne (by decide) (k_ne (by decide) (k_ne (by decide) (k_ne (by decide) (k_ne (by decide) (k_ne (by decide) (k_ne (by decide) (k_ne (by decide) e32))))))))) (cwV 0 hts g9_X12_relaxed_X12_readsLineTerm_1144 rfl rfl rfl (by decide +kernel) ⟨Nat.le_of_ble_eq_true rfl, Nat.le_of_ble_eq_true rfl⟩) rfl hl.1 (Nat.le_of_ble_eq_true rfl) dX12_relaxed_25 ⟨Nat.le_of_ble_eq_true rfl, Nat.le_of_ble_eq_true rfl⟩ (fun H locs hP hD hS => ?_)
  have hP : va_P D vwCl [(h2, .inl (cI, 2001, .inl (upd g1 0 0))), (h4, .inl (cI, 2001, .inl (upd g3 0 0))), (h0, .inr (12, (((((((((((((((((((f0.set 0 (.int 0)).set 12 (.int 0)).set 2 (.int 0)).set 36 (.int 0)).set 37 (.int 0)).set 27 (.int 0)).set 31 (.int 0)).set 28 (.int 0)).set 66 (.int 25)).set 67 (.int 0)).set 76 (.int (-1))).set 83 (.int (-1))).set 83 (.int 0)).set 84 (.int 3)).set 84 (.int 4)).set 84 (.int 5)).set 31 (.int 1)).set 29 (.int 2)).set 30 (.int 0)))), (h5, .inl (cI, 26, .inl (upd g4 25 0))), (h6, .inl (cI, 26, .inl (upd g5 25 0))), (h7, .inl (cI, 26, .inl (upd g6 25 0))), (h8, .inl (cI, 26, .inl (upd g7 25 0))), (h9, .inl (cI, 26, .inl (upd g8 25 0))), (h3, .inl (cI, 2001, .inl (upd g2 0 0))), (h1, .inl (cI, 2001, .inl (upd g0 0 0))), (h10, .inl (cI, 16, .inl (upd g9 0 33))), (h11, .inl (cI, 16, .inl (upd g10 0 (-1)))), (h12, .inl (cI, 16, .inl (upd (upd g11 0 1) 0 1))), (h13, .inl (cJ, 16, .inr (.inl (vp_updL (vp_updL g12 0 1) 0 1)))), (h14, .inl (cI, 16, .inl (upd g13 0 (-1))))] H := hP
  have hD : va_D A [(h2, .inl (cI, 2001, .inl (upd g1 0 0))), (h4, .inl (cI, 2001, .inl (upd g3 0 0))), (h0, .inr (12, (((((((((((((((((((f0.set 0 (.int 0)).set 12 (.int 0)).set 2 (.int 0)).set 36 (.int 0)).set 37 (.int 0)).set 27 (.int 0)).set 31 (.int 0)).set 28 (.int 0)).set 66 (.int 25)).set 67 (.int 0)).set 76 (.int (-1))).set 83 (.int (-1))).set 83 (.int 0)).set 84 (.int 3)).set 84 (.int 4)).set 84 (.int 5)).set 31 (.int 1)).set 29 (.int 2)).set 30 (.int 0)))), (h5, .inl (cI, 26, .inl (upd g4 25 0))), (h6, .inl (cI, 26, .inl (upd g5 25 0))), (h7, .inl (cI, 26, .inl (upd g6 25 0))), (h8, .inl (cI, 26, .inl (upd g7 25 0))), (h9, .inl (cI, 26, .inl (upd g8 25 0))), (h3, .inl (cI, 2001, .inl (upd g2 0 0))), (h1, .inl (cI, 2001, .inl (upd g0 0 0))), (h10, .inl (cI, 16, .inl (upd g9 0 33))), (h11, .inl (cI, 16, .inl (upd g10 0 (-1)))), (h12, .inl (cI, 16, .inl (upd (upd g11 0 1) 0 1))), (h13, .inl (cJ, 16, .inr (.inl (vp_updL (vp_updL g12 0 1) 0 1)))), (h14, .inl (cI, 16, .inl (upd g13 0 (-1))))] := hD
  refine lv_if_ne (tgt := 36) hx hb dX12_relaxed_28 (by decide) (fun c9 => absurd (by decide) c9) (fun _ => ?_)
  refine lv_aload_n hx hb dX12_relaxed_31 rfl (lv_at hl 0 rfl) ?_
  refine k_cVi (As := []) (rest := []) (wc := [(h0, .inr (12, (((((((((((((((((((f0.set 0 (.int 0)).set 12 (.int 0)).set 2 (.int 0)).set 36 (.int 0)).set 37 (.int 0)).set 27 (.int 0)).set 31 (.int 0)).set 28 (.int 0)).set 66 (.int 25)).set 67 (.int 0)).set 76 (.int (-1))).set 83 (.int (-1))).set 83 (.int 0)).set 84 (.int 3)).set 84 (.int 4)).set 84 (.int 5)).set 31 (.int 1)).set 29 (.int 2)).set 30 (.int 0))))]) (wr := [(h2, .inl (cI, 2001, .inl (upd g1 0 0))), (h4, .inl (cI, 2001, .inl (upd g3 0 0))), (h5, .inl (cI, 26, .inl (upd g4 25 0))), (h6, .inl (cI, 26, .inl (upd g5 25 0))), (h7, .inl (cI, 26, .inl (upd g6 25 0))), (h8, .inl (cI, 26, .inl (upd g7 25 0))), (h9, .inl (cI, 26, .inl (upd g8 25 0))), (h3, .inl (cI, 2001, .inl (upd g2 0 0))), (h1, .inl (cI, 2001, .inl (upd g0 0 0))), (h10, .inl (cI, 16, .inl (upd g9 0 33))), (h11, .inl (cI, 16, .inl (upd g10 0 (-1)))), (h12, .inl (cI, 16, .inl (upd (upd g11 0 1) 0 1))), (h13, .inl (cJ, 16, .inr (.inl (vp_updL (vp_updL g12 0 1) 0 1)))), (h14, .inl (cI, 16, .inl (upd g13 0 (-1))))]) (w1 := [(h0, .inr (12, ((((((((((((((((((((f0.set 0 (.int 0)).set 12 (.int 0)).set 2 (.int 0)).set 36 (.int 0)).set 37 (.int 0)).set 27 (.int 0)).set 31 (.int 0)).set 28 (.int 0)).set 66 (.int 25)).set 67 (.int 0)).set 76 (.int (-1))).set 83 (.int (-1))).set 83 (.int 0)).set 84 (.int 3)).set 84 (.int 4)).set 84 (.int 5)).set 31 (.int 1)).set 29 (.int 2)).set 30 (.int 0)).set 109 (.int 2))))]) ⟨hx, hb, hml, hown, hts⟩ hN hX hAE hK hP hD hS hA [2] [0, 1, 3, 4, 5, 6, 7, 8, 9, 10, 11, 12, 13, 14] (ci := 12) rfl rfl rfl rfl (by decide +kernel) (by decide +kernel) (by decide +kernel) (c_X12_told_0 l E D cI cJ cB cZ h0 ((((((((((((((((((((f0.set 0 (.int 0)).set 12 (.int 0)).set 2 (.int 0)).set 36 (.int 0)).set 37 (.int 0)).set 27 (.int 0)).set 31 (.int 0)).set 28 (.int 0)).set 66 (.int 25)).set 67 (.int 0)).set 76 (.int (-1))).set 83 (.int (-1))).set 83 (.int 0)).set 84 (.int 3)).set 84 (.int 4)).set 84 (.int 5)).set 31 (.int 1)).set 29 (.int 2)).set 30 (.int 0))) (k_ne (by decide) (k_ne (by decide) (k_ne (by decide) (k_ne (by decide) (k_ne (by decide) (k_ne (by decide) (k_ne (by decide) (k_ne (by decide) (k_ne (by decide) (k_ne (by decide) (k_ne (by decide) (k_ne (by decide) (k_ne (by decide) (k_ne (by decide) (k_ne (by decide) (k_ne (by decide) (k_ne (by decide) (k_ne (by decide) (k_ne (by decide) e33))))))))))))))))))) (k_ne (by decide) (k_set (k_ne (by decide) (k_ne (by decide) (k_ne (by decide) (k_ne (by decide) (k_ne (by decide) (k_ne (by decide) (k_ne (by decide) (k_ne (by decide) (k_ne (by decide) (k_ne (by decide) (k_ne (by decide) (k_ne (by decide) (k_ne (by decide) (k_ne (by decide) (k_ne (by decide) (k_ne (by decide) (k_ne (by decide) e30))))))))))))))))))) (k_ne (by decide) (k_ne (by decide) (k_ne (by decide) (k_ne (by decide) (k_ne (by decide) (k_ne (by decide) (k_ne (by decide) (k_ne (by decide) (k_ne (by decide) (k_ne (by decide) (k_ne (by decide) (k_ne (by decide) (k_ne (by decide) (k_ne (by decide) (k_ne (by decide) (k_ne (by decide) (k_ne (by decide) (k_ne (by decide) (k_ne (by decide) e34))))))))))))))))))) (k_set (k_ne (by decide) (k_ne (by decide) (k_ne (by decide) (k_ne (by decide) (k_ne (by decide) (k_ne (by decide) (k_ne (by decide) (k_ne (by decide) (k_ne (by decide) (k_ne (by decide) (k_ne (by decide) (k_ne (by decide) (k_ne (by decide) (k_ne (by decide) (k_ne (by decide) (k_ne (by decide) (k_ne (by decide) (k_ne (by decide) e31)))))))))))))))))))) (cwV 0 hts g9_X12_relaxed_X12_told_860 rfl rfl rfl (by decide +kernel) ⟨Nat.le_of_ble_eq_true rfl, Nat.le_of_ble_eq_true rfl⟩) rfl hl.1 (Nat.le_of_ble_eq_true rfl) dX12_relaxed_32 ⟨Nat.le_of_ble_eq_true rfl, Nat.le_of_ble_eq_true rfl⟩ (fun H locs hP hD hS => ?_)
  have hP : va_P D vwCl [(h2, .inl (cI, 2001, .inl (upd g1 0 0))), (h4, .inl (cI, 2001, .inl (upd g3 0 0))), (h5, .inl (cI, 26, .inl (upd g4 25 0))), (h6, .inl (cI, 26, .inl (upd g5 25 0))), (h7, .inl (cI, 26, .inl (upd g6 25 0))), (h8, .inl (cI, 26, .inl (upd g7 25 0))), (h9, .inl (cI, 26, .inl (upd g8 25 0))), (h3, .inl (cI, 2001, .inl (upd g2 0 0))), (h1, .inl (cI, 2001, .inl (upd g0 0 0))), (h10, .inl (cI, 16, .inl (upd g9 0 33))), (h11, .inl (cI, 16, .inl (upd g10 0 (-1)))), (h12, .inl (cI, 16, .inl (upd (upd g11 0 1) 0 1))), (h13, .inl (cJ, 16, .inr (.inl (vp_updL (vp_updL g12 0 1) 0 1)))), (h14, .inl (cI, 16, .inl (upd g13 0 (-1)))), (h0, .inr (12, ((((((((((((((((((((f0.set 0 (.int 0)).set 12 (.int 0)).set 2 (.int 0)).set 36 (.int 0)).set 37 (.int 0)).set 27 (.int 0)).set 31 (.int 0)).set 28 (.int 0)).set 66 (.int 25)).set 67 (.int 0)).set 76 (.int (-1))).set 83 (.int (-1))).set 83 (.int 0)).set 84 (.int 3)).set 84 (.int 4)).set 84 (.int 5)).set 31 (.int 1)).set 29 (.int 2)).set 30 (.int 0)).set 109 (.int 2))))] H := hP
  have hD : va_D A [(h2, .inl (cI, 2001, .inl (upd g1 0 0))), (h4, .inl (cI, 2001, .inl (upd g3 0 0))), (h5, .inl (cI, 26, .inl (upd g4 25 0))), (h6, .inl (cI, 26, .inl (upd g5 25 0))), (h7, .inl (cI, 26, .inl (upd g6 25 0))), (h8, .inl (cI, 26, .inl (upd g7 25 0))), (h9, .inl (cI, 26, .inl (upd g8 25 0))), (h3, .inl (cI, 2001, .inl (upd g2 0 0))), (h1, .inl (cI, 2001, .inl (upd g0 0 0))), (h10, .inl (cI, 16, .inl (upd g9 0 33))), (h11, .inl (cI, 16, .inl (upd g10 0 (-1)))), (h12, .inl (cI, 16, .inl (upd (upd g11 0 1) 0 1))), (h13, .inl (cJ, 16, .inr (.inl (vp_updL (vp_updL g12 0 1) 0 1)))), (h14, .inl (cI, 16, .inl (upd g13 0 (-1)))), (h0, .inr (12, ((((((((((((((((((((f0.set 0 (.int 0)).set 12 (.int 0)).set 2 (.int 0)).set 36 (.int 0)).set 37 (.int 0)).set 27 (.int 0)).set 31 (.int 0)).set 28 (.int 0)).set 66 (.int 25)).set 67 (.int 0)).set 76 (.int (-1))).set 83 (.int (-1))).set 83 (.int 0)).set 84 (.int 3)).set 84 (.int 4)).set 84 (.int 5)).set 31 (.int 1)).set 29 (.int 2)).set 30 (.int 0)).set 109 (.int 2))))] := hD
  have hP := hP.sub (ws' := [(h0, .inr (12, ((((((((((((((((((((f0.set 0 (.int 0)).set 12 (.int 0)).set 2 (.int 0)).set 36 (.int 0)).set 37 (.int 0)).set 27 (.int 0)).set 31 (.int 0)).set 28 (.int 0)).set 66 (.int 25)).set 67 (.int 0)).set 76 (.int (-1))).set 83 (.int (-1))).set 83 (.int 0)).set 84 (.int 3)).set 84 (.int 4)).set 84 (.int 5)).set 31 (.int 1)).set 29 (.int 2)).set 30 (.int 0)).set 109 (.int 2)))), (h1, .inl (cI, 2001, .inl (upd g0 0 0))), (h2, .inl (cI, 2001, .inl (upd g1 0 0))), (h3, .inl (cI, 2001, .inl (upd g2 0 0))), (h4, .inl (cI, 2001, .inl (upd g3 0 0))), (h5, .inl (cI, 26, .inl (upd g4 25 0))), (h6, .inl (cI, 26, .inl (upd g5 25 0))), (h7, .inl (cI, 26, .inl (upd g6 25 0))), (h8, .inl (cI, 26, .inl (upd g7 25 0))), (h9, .inl (cI, 26, .inl (upd g8 25 0))), (h10, .inl (cI, 16, .inl (upd g9 0 33))), (h11, .inl (cI, 16, .inl (upd g10 0 (-1)))), (h12, .inl (cI, 16, .inl (upd (upd g11 0 1) 0 1))), (h13, .inl (cJ, 16, .inr (.inl (vp_updL (vp_updL g12 0 1) 0 1)))), (h14, .inl (cI, 16, .inl (upd g13 0 (-1))))]) [14, 8, 0, 7, 1, 2, 3, 4, 5, 6, 9, 10, 11, 12, 13] rfl
  have hD := hD.sub (ws' := [(h0, .inr (12, ((((((((((((((((((((f0.set 0 (.int 0)).set 12 (.int 0)).set 2 (.int 0)).set 36 (.int 0)).set 37 (.int 0)).set 27 (.int 0)).set 31 (.int 0)).set 28 (.int 0)).set 66 (.int 25)).set 67 (.int 0)).set 76 (.int (-1))).set 83 (.int (-1))).set 83 (.int 0)).set 84 (.int 3)).set 84 (.int 4)).set 84 (.int 5)).set 31 (.int 1)).set 29 (.int 2)).set 30 (.int 0)).set 109 (.int 2)))), (h1, .inl (cI, 2001, .inl (upd g0 0 0))), (h2, .inl (cI, 2001, .inl (upd g1 0 0))), (h3, .inl (cI, 2001, .inl (upd g2 0 0))), (h4, .inl (cI, 2001, .inl (upd g3 0 0))), (h5, .inl (cI, 26, .inl (upd g4 25 0))), (h6, .inl (cI, 26, .inl (upd g5 25 0))), (h7, .inl (cI, 26, .inl (upd g6 25 0))), (h8, .inl (cI, 26, .inl (upd g7 25 0))), (h9, .inl (cI, 26, .inl (upd g8 25 0))), (h10, .inl (cI, 16, .inl (upd g9 0 33))), (h11, .inl (cI, 16, .inl (upd g10 0 (-1)))), (h12, .inl (cI, 16, .inl (upd (upd g11 0 1) 0 1))), (h13, .inl (cJ, 16, .inr (.inl (vp_updL (vp_updL g12 0 1) 0 1)))), (h14, .inl (cI, 16, .inl (upd g13 0 (-1))))]) [14, 8, 0, 7, 1, 2, 3, 4, 5, 6, 9, 10, 11, 12, 13] (by decide +kernel) rfl
  exact W.iret (v := (-1000)) hx hb hr (fun t ht hW => ⟨⟨(-1000), (), rfl, rfl, kB_mk ht hW hP hK hD⟩, hS.F ht⟩) hS.2.2 dX12_relaxed_35
set_option maxHeartbeats 400000000 in
set_option maxRecDepth 100000 in
theorem c_X9_isTold_0 (l : Launch) (E : kE) (D : va_G) (cI cJ cB cZ : ClassId) (h0 : Nat) (x0 : Int32) (f0 : List Value) (e0 : ¬ ((x0 : Int32) < 0)) (e1 : f0[13]? = some (.int 0)) : kI l E D (kT cI cJ cB cZ) yX9_isTold vW_X9_isTold ({ frames := 0, cells := 0, slots := 0, locals := 0 }) [.ref h0, .int x0] [(h0, .inr (9, f0))] (0) [(h0, .inr (9, f0))] 0 0 := by
  intro sz
  refine Met.ofW (cc := cX9_isTold) (maxL := 2) (ret := (some .boolean)) (by decide) rfl ?_
  intro p e s m args below meth c s₁ B hml hv
  obtain ⟨rfl, hsz, hP, hK, hD0, hN, hX⟩ := hv
  have hx := B.exec
  have hb := B.bytes
  have hr := B.returns
  have hts := atoms_spec (ws := vW_X9_isTold) B.pre
  have hown : s.vm.findClass RX9 = some m.cls := findClass_of_methodNamed B.named
  have hlocks := B.notSynchronized
  have hin9 : ∀ w ∈ wsX90, w ∈ vW_X9_isTold := u9_X9_isTold_wsX90
  subst hsz
  have hD := hD0.self (sz := s.heap.size)
  have hAE := k_AE hD0 hX
  generalize hAe : va_A [(h0, .inr (9, f0))] s.heap.size = A at hD hAE ⊢
  have hA : ∀ q : Nat, s.heap.size ≤ q → A q := fun q h => by rw [← hAe]; exact Or.inr h
  have hS : va_S A s.heap s.heap [] := va_S.rf
  have hP : va_P D vwCl [(h0, .inr (9, f0))] s.heap := hP
  have hl := lv_entry ([.ref h0, .int x0] : List Value) (n := 2) (Nat.le_of_ble_eq_true rfl)
  rw [lg_entry_eq]
  generalize (lg_sl ([.ref h0, .int x0]) ++ List.replicate (2 - (lg_sl ([.ref h0, .int x0])).length) Slot.unset).toArray = ls at hl ⊢
  have hl : lv_has ls 2 [(0, .ref h0), (1, .int x0)] := hl
  refine lv_iload_n hx hb dX9_isTold_0 rfl (lv_at hl 1 rfl) ?_
  refine lv_if_lt (tgt := 16) hx hb dX9_isTold_1 (by decide) (fun c9 => absurd c9 e0) (fun _ => ?_)
  refine lv_iload_n hx hb dX9_isTold_4 rfl (lv_at hl 1 rfl) ?_
  refine lv_aload_n hx hb dX9_isTold_5 rfl (lv_at hl 0 rfl) ?_
  refine k_get (D := D) (ci := 9) (v := .int 0) (N := 14) hx hb hts hin9 hown hK hP 0 rfl rfl (by decide) f9_9_13 (hts (.fieldLink RX9 107 "IntegerHouse$Relaxer" "toldSize" "I") (o9_X9_isTold _ (List.mem_of_getElem? (i := 0) rfl))) e1 dX9_isTold_6 ?_
  refine lv_icmp_ge (tgt := 16) hx hb dX9_isTold_9 (by decide) (fun _ => ?_) (fun c9 => absurd ((k_n2 (x := x0) (c := 0)).mpr e0) c9)
  refine lv_iconst (v := 0) hx hb dX9_isTold_16 (by decide) ?_
  exact W.zret (v := 0) hx hb hr rfl (fun t ht hW => ⟨⟨0, (), rfl, rfl, kB_mk ht hW hP hK hD⟩, hS.F ht⟩) hS.2.2 dX9_isTold_17
set_option maxHeartbeats 400000000 in
set_option maxRecDepth 100000 in
theorem c_X11_fraction_0 (l : Launch) (E : kE) (D : va_G) (cI cJ cB cZ : ClassId) (h0 : Nat) (x0 : Int32) (f0 : List Value) (h1 : Nat) (f1 : List Value) (e0 : f0[9]? = some (.ref h1)) (e1 : f1[13]? = some (.int 0)) (e2 : ¬ ((x0 : Int32) < 0)) (hl9 : l.stackTraces = false) : kTJ l E D (kT cI cJ cB cZ) yX11_fraction vW_X11_fraction ({ frames := 6, cells := 1, slots := 6, locals := 82 }) [.ref h0, .int x0] [(h0, .inr (11, f0)), (h1, .inr (9, f1))] "java/lang/IndexOutOfBoundsException" 1 6 := by
  intro sz
  refine vx_ofW (cc := cX11_fraction) (maxL := 2) (ret := (some .long)) (by decide) rfl ?_
  intro p e s m args below meth c s₁ B hml ht9 hv
  obtain ⟨rfl, hsz, hP, hK, hD0, hN, hX⟩ := hv
  have hx := B.exec
  have hb := B.bytes
  have hr := B.returns
  have hts := atoms_spec (ws := vW_X11_fraction) B.pre
  have hown : s.vm.findClass RX11 = some m.cls := findClass_of_methodNamed B.named
  have hlocks := B.notSynchronized
  have hin11 : ∀ w ∈ wsX110, w ∈ vW_X11_fraction := u9_X11_fraction_wsX110
  subst hsz
  have hD := hD0.self (sz := s.heap.size)
  have hAE := k_AE hD0 hX
  generalize hAe : va_A [(h0, .inr (11, f0)), (h1, .inr (9, f1))] s.heap.size = A at hD hAE ⊢
  have hA : ∀ q : Nat, s.heap.size ≤ q → A q := fun q h => by rw [← hAe]; exact Or.inr h
  have hS : va_S A s.heap s.heap [] := va_S.rf
  have hP : va_P D vwCl [(h0, .inr (11, f0)), (h1, .inr (9, f1))] s.heap := hP
  have hl := lv_entry ([.ref h0, .int x0] : List Value) (n := 2) (Nat.le_of_ble_eq_true rfl)
  rw [lg_entry_eq]
  generalize (lg_sl ([.ref h0, .int x0]) ++ List.replicate (2 - (lg_sl ([.ref h0, .int x0])).length) Slot.unset).toArray = ls at hl ⊢
  have hl : lv_has ls 2 [(0, .ref h0), (1, .int x0)] := hl
  refine lv_aload_n hx hb dX11_fraction_0 rfl (lv_at hl 0 rfl) ?_
  refine k_get (D := D) (ci := 11) (v := .ref h1) (N := 15) hx hb hts hin11 hown hK hP 0 rfl rfl (by decide) f9_11_9 (hts (.fieldLink RX11 80 "IntegerHouse" "relaxer" "LIntegerHouse$Relaxer;") (o9_X11_fraction _ (List.mem_of_getElem? (i := 0) rfl))) e0 dX11_fraction_1 ?_
  refine lv_iload_n hx hb dX11_fraction_4 rfl (lv_at hl 1 rfl) ?_
  refine k_cVi (As := [.int x0]) (rest := []) (wc := [(h1, .inr (9, f1))]) (wr := [(h0, .inr (11, f0))]) (w1 := [(h1, .inr (9, f1))]) ⟨hx, hb, hml, hown, hts⟩ hN hX hAE hK hP hD hS hA [1] [0] (ci := 9) rfl rfl rfl rfl (by decide +kernel) (by decide +kernel) (by decide +kernel) (c_X9_isTold_0 l E D cI cJ cB cZ h1 x0 f1 e2 e1) (cwV 1 hts g9_X11_fraction_X9_isTold_382 rfl rfl rfl (by decide +kernel) ⟨Nat.le_of_ble_eq_true rfl, Nat.le_of_ble_eq_true rfl⟩) rfl hl.1 (Nat.le_of_ble_eq_true rfl) dX11_fraction_5 ⟨Nat.le_of_ble_eq_true rfl, Nat.le_of_ble_eq_true rfl⟩ (fun H locs hP hD hS => ?_)
  have hP : va_P D vwCl [(h0, .inr (11, f0)), (h1, .inr (9, f1))] H := hP
  have hD : va_D A [(h0, .inr (11, f0)), (h1, .inr (9, f1))] := hD
  refine lv_if_ne (tgt := 22) hx hb dX11_fraction_8 (by decide) (fun c9 => absurd (by decide) c9) (fun _ => ?_)
  obtain ⟨a9, a9r, a9o⟩ := kX.st hX hAE ("IntegerHouse", 383, "no such number was told") (List.mem_of_getElem? (i := 8) rfl)
  exact vx_throwSW (names := ["java/lang/RuntimeException", "java/lang/Exception"]) (A := A) hx hb hl9 hown (by decide +kernel) (by decide +kernel) (hts (.classLink RX11 197 "java/lang/IndexOutOfBoundsException") (o9_X11_fraction _ (List.mem_of_getElem? (i := 5) rfl))) (hts (.initialized "java/lang/IndexOutOfBoundsException") (o9_X11_fraction _ (List.mem_of_getElem? (i := 6) rfl))) a9r (vx_hat (L := vx_atS RX11 201 "java/lang/IndexOutOfBoundsException" ["java/lang/RuntimeException", "java/lang/Exception"]) (B := [.castable "java/lang/IndexOutOfBoundsException" "java/lang/IndexOutOfBoundsException", .declares (Bundle.initS "java/lang/RuntimeException"), .declares (Bundle.initS "java/lang/Exception"), .declares (Bundle.initS "java/lang/Throwable")]) (fun w h => hts w (x9_X11_fraction_0 w h)) (by decide +kernel) (vx_c (va_Nw.use rfl (kX.cast hX "java/lang/IndexOutOfBoundsException" (by decide))) (vx_c (va_Nw.use rfl (kX.decl hX "java/lang/RuntimeException" (by decide))) (vx_c (va_Nw.use rfl (kX.decl hX "java/lang/Exception" (by decide))) (vx_c (va_Nw.use rfl (kX.decl hX "java/lang/Throwable" (by decide))) vx_n))))) (by decide +kernel) (kX.us hX hAE) (kX.ss hX hAE) hS (by rw [hml]; exact hl.1) dX11_fraction_11 dX11_fraction_14 dX11_fraction_15 dX11_fraction_18 dX11_fraction_21 (fun x hx => (ht9 x hx).elim) (Nat.le_of_ble_eq_true rfl) (Nat.le_of_ble_eq_true rfl) (Nat.le_of_ble_eq_true rfl) (Nat.le_of_ble_eq_true rfl) hlocks (fun t h1 h2 h3 => k_tx hP hK hD hS t h1 h2 h3) hS.2.2 (Nat.le_of_ble_eq_true rfl) (Nat.le_of_ble_eq_true rfl)
set_option maxHeartbeats 400000000 in
set_option maxRecDepth 100000 in
theorem c_L_fraction_0 (l : Launch) (E : kE) (D : va_G) (cI cJ cB cZ : ClassId) (h0 : Nat) (x0 : Int32) (h1 : Nat) (f0 : List Value) (h2 : Nat) (f1 : List Value) (e0 : f0[9]? = some (.ref h2)) (e1 : f1[13]? = some (.int 0)) (e2 : ¬ ((x0 : Int32) < 0)) (hl9 : l.stackTraces = false) : kI l E D (kT cI cJ cB cZ) yL_fraction vW_L_fraction ({ frames := 7, cells := 1, slots := 6, locals := 103 }) [.ref h0, .int x0, .ref h1] [(h0, .inr (11, f0)), (h2, .inr (9, f1))] (1) [(h0, .inr (11, f0)), (h2, .inr (9, f1))] 1 6 := by
  intro sz
  refine k_metH (cc := cL_fraction) (maxL := 4) (ret := (some .int)) (hh := [(0, 8, 11, 25)]) (by decide) rfl ?_
  intro p e s m args below meth c s₁ B hml hv
  obtain ⟨rfl, hsz, hP, hK, hD0, hN, hX⟩ := hv
  have hx := B.exec
  have hb := B.bytes
  have hr := B.returns
  have hts := atoms_spec (ws := vW_L_fraction) B.pre
  have hown : s.vm.findClass RL = some m.cls := findClass_of_methodNamed B.named
  have hlocks := B.notSynchronized
  subst hsz
  have hD := hD0.self (sz := s.heap.size)
  have hAE := k_AE hD0 hX
  generalize hAe : va_A [(h0, .inr (11, f0)), (h2, .inr (9, f1))] s.heap.size = A at hD hAE ⊢
  have hA : ∀ q : Nat, s.heap.size ≤ q → A q := fun q h => by rw [← hAe]; exact Or.inr h
  have hS : va_S A s.heap s.heap [] := va_S.rf
  have hP : va_P D vwCl [(h0, .inr (11, f0)), (h2, .inr (9, f1))] s.heap := hP
  have hl := lv_entry ([.ref h0, .int x0, .ref h1] : List Value) (n := 4) (Nat.le_of_ble_eq_true rfl)
  rw [lg_entry_eq]
  generalize (lg_sl ([.ref h0, .int x0, .ref h1]) ++ List.replicate (4 - (lg_sl ([.ref h0, .int x0, .ref h1])).length) Slot.unset).toArray = ls at hl ⊢
  have hl : lv_has ls 4 [(0, .ref h0), (1, .int x0), (2, .ref h1)] := hl
  refine lv_aload_n hx hb dL_fraction_0 rfl (lv_at hl 2 rfl) ?_
  refine lv_iconst (v := 0) hx hb dL_fraction_1 (by decide) ?_
  refine lv_aload_n hx hb dL_fraction_2 rfl (lv_at hl 0 rfl) ?_
  refine lv_iload_n hx hb dL_fraction_3 rfl (lv_at hl 1 rfl) ?_
  refine k_cTl (As := [.int x0]) (rest := [.int 0, .ref h1]) (wc := [(h0, .inr (11, f0)), (h2, .inr (9, f1))]) (wr := []) ⟨hx, hb, hml, hown, hts⟩ hN hX hAE hK hP hD hS hA [0, 1] [] (ci := 11) rfl rfl rfl rfl (by decide +kernel) (by decide +kernel) (by decide +kernel) (c_X11_fraction_0 l E D cI cJ cB cZ h0 x0 f0 h2 f1 e0 e1 e2 hl9) (cwV 1 hts g9_L_fraction_X11_fraction_41 rfl rfl rfl (by decide +kernel) ⟨Nat.le_of_ble_eq_true rfl, Nat.le_of_ble_eq_true rfl⟩) rfl hl.1 (Nat.le_of_ble_eq_true rfl) dL_fraction_4 ⟨Nat.le_of_ble_eq_true rfl, Nat.le_of_ble_eq_true rfl⟩ (fun q9 ce H locs hP hD hS hce hcv hcl => ?_)
  have hP : va_P D vwCl [(h0, .inr (11, f0)), (h2, .inr (9, f1))] H := hP
  have hD : va_D A [(h0, .inr (11, f0)), (h2, .inr (9, f1))] := hD
  refine vx_catch (own := RL) (name := "java/lang/IndexOutOfBoundsException") hown [] ⟨0, 8, 11, 25⟩ [] (vx_table (x := yL_fraction) B (hts _ List.mem_cons_self)) (fun z hz => absurd hz List.not_mem_nil) (by decide) (by decide) (hts (.classLink RL 25 "java/lang/IndexOutOfBoundsException") (o9_L_fraction _ (List.mem_of_getElem? (i := 4) rfl))) (va_Nw.use rfl (kX.cast hX "java/lang/IndexOutOfBoundsException" (by decide))) hce hcv hcl ?_
  refine W.eq (g2 := F0 m 11 ls [.ref q9]) rfl ?_
  refine W.widen (k := 1) (n := 6) (Nat.le_of_ble_eq_true rfl) (Nat.le_of_ble_eq_true rfl) ?_
  refine lv_astore_n (lv' := [(3, .ref q9), (0, .ref h0), (1, .int x0), (2, .ref h1)]) hx hb dL_fraction_11 rfl hl (by decide) rfl (fun ls hl => ?_)
  refine lv_iconst (v := 1) hx hb dL_fraction_12 (by decide) ?_
  exact W.iret (v := 1) hx hb hr (fun t ht hW => ⟨⟨1, (), rfl, rfl, kB_mk ht hW hP hK hD⟩, hS.F ht⟩) hS.2.2 dL_fraction_13
set_option maxHeartbeats 400000000 in
set_option maxRecDepth 100000 in
theorem c_X12_fraction_0 (l : Launch) (E : kE) (D : va_G) (cI cJ cB cZ : ClassId) (h0 : Nat) (x0 : Int32) (f0 : List Value) (e0 : f0[171]? = some (.int 0)) (e1 : ¬ ((x0 : Int32) < 0)) (e2 : f0[0]? = some (.int 0)) : kJ l E D (kT cI cJ cB cZ) yX12_fraction vW_X12_fraction ({ frames := 1, cells := 0, slots := 0, locals := 25 }) [.ref h0, .int x0] [(h0, .inr (12, f0))] (0) [(h0, .inr (12, (f0.set 0 (.int 1))))] 0 0 := by
  intro sz
  refine Met.ofW (cc := cX12_fraction) (maxL := 2) (ret := (some .long)) (by decide) rfl ?_
  intro p e s m args below meth c s₁ B hml hv
  obtain ⟨rfl, hsz, hP, hK, hD0, hN, hX⟩ := hv
  have hx := B.exec
  have hb := B.bytes
  have hr := B.returns
  have hts := atoms_spec (ws := vW_X12_fraction) B.pre
  have hown : s.vm.findClass RX12 = some m.cls := findClass_of_methodNamed B.named
  have hlocks := B.notSynchronized
  have hin12 : ∀ w ∈ wsX120, w ∈ vW_X12_fraction := u9_X12_fraction_wsX120
  subst hsz
  have hD := hD0.self (sz := s.heap.size)
  have hAE := k_AE hD0 hX
  generalize hAe : va_A [(h0, .inr (12, f0))] s.heap.size = A at hD hAE ⊢
  have hA : ∀ q : Nat, s.heap.size ≤ q → A q := fun q h => by rw [← hAe]; exact Or.inr h
  have hS : va_S A s.heap s.heap [] := va_S.rf
  have hP : va_P D vwCl [(h0, .inr (12, f0))] s.heap := hP
  have hl := lv_entry ([.ref h0, .int x0] : List Value) (n := 2) (Nat.le_of_ble_eq_true rfl)
  rw [lg_entry_eq]
  generalize (lg_sl ([.ref h0, .int x0]) ++ List.replicate (2 - (lg_sl ([.ref h0, .int x0])).length) Slot.unset).toArray = ls at hl ⊢
  have hl : lv_has ls 2 [(0, .ref h0), (1, .int x0)] := hl
  refine lv_aload_n hx hb dX12_fraction_0 rfl (lv_at hl 0 rfl) ?_
  refine lv_iload_n hx hb dX12_fraction_1 rfl (lv_at hl 1 rfl) ?_
  refine lv_i2l (v := (Int32.toInt64 x0)) hx hb dX12_fraction_2 rfl ?_
  refine lv_lconst (v := 0) hx hb dX12_fraction_3 (by decide) ?_
  refine lv_aload_n hx hb dX12_fraction_4 rfl (lv_at hl 0 rfl) ?_
  refine k_get (D := D) (ci := 12) (v := .int 0) (N := 195) hx hb hts hin12 hown hK hP 0 rfl rfl (by decide) f9_12_171 (hts (.fieldLink RX12 1160 "IntegerHouseModel" "fractionCount" "I") (o9_X12_fraction _ (List.mem_of_getElem? (i := 0) rfl))) e0 dX12_fraction_5 ?_
  refine lv_iconst (v := 1) hx hb dX12_fraction_8 (by decide) ?_
  refine lv_isub hx hb dX12_fraction_9 ?_
  refine k_topi (y := (-1)) (by decide) ?_
  refine lv_i2l (v := (-1)) hx hb dX12_fraction_10 (by decide) ?_
  refine k_cSi (As := [.long (Int32.toInt64 x0), .long 0, .long (-1)]) (rest := [.ref h0]) (wc := []) (wr := [(h0, .inr (12, f0))]) (w1 := []) ⟨hx, hb, hml, hown, hts⟩ hN hX hAE hK hP hD hS hA [] [0] rfl rfl (by decide +kernel) (by decide +kernel) (by decide +kernel) (c_X12_in_12 l E D cI cJ cB cZ (Int32.toInt64 x0) (fun z9 => e1 ((k_n4 (x := x0) (c := 0) (C := 0) (by decide)).mp z9)) ((k_n5 (x := x0) (c := (-1)) (d := 0) (C := (-1)) (by decide) (by decide)).mpr e1)) (va_cwS 3 hts g9_X12_fraction_X12_in_504 rfl rfl rfl (by decide +kernel) ⟨Nat.le_of_ble_eq_true rfl, Nat.le_of_ble_eq_true rfl⟩) rfl hl.1 (Nat.le_of_ble_eq_true rfl) dX12_fraction_11 ⟨Nat.le_of_ble_eq_true rfl, Nat.le_of_ble_eq_true rfl⟩ (fun H locs hP hD hS => ?_)
  have hP : va_P D vwCl [(h0, .inr (12, f0))] H := hP
  have hD : va_D A [(h0, .inr (12, f0))] := hD
  refine lv_if_eq (tgt := 21) hx hb dX12_fraction_14 (by decide) (fun _ => ?_) (fun c9 => absurd (by decide) c9)
  refine lv_iconst (v := 1) hx hb dX12_fraction_21 (by decide) ?_
  refine k_put (D := D) (ci := 12) (v := .int 1) (ty := .int) (N := 195) hx hb hts hin12 tyX12 tyX12_ok nmX12 hown hK hP hD hS 0 rfl rfl (by decide) f9_12_0 (hts (.fieldLink RX12 3 "IntegerHouseModel" "thrown" "I") (o9_X12_fraction _ (List.mem_of_getElem? (i := 4) rfl))) rfl pd_2 rfl rfl (k_len e2) dX12_fraction_22 (fun H locs hP hD hS => ?_)
  have hP : va_P D vwCl [(h0, .inr (12, (f0.set 0 (.int 1))))] H := hP
  have hD : va_D A [(h0, .inr (12, (f0.set 0 (.int 1))))] := hD
  refine lv_aload_n hx hb dX12_fraction_25 rfl (lv_at hl 0 rfl) ?_
  refine k_get (D := D) (ci := 12) (v := .int 1) (N := 195) hx hb hts hin12 hown hK hP 0 rfl rfl (by decide) f9_12_0 (hts (.fieldLink RX12 3 "IntegerHouseModel" "thrown" "I") (o9_X12_fraction _ (List.mem_of_getElem? (i := 4) rfl))) (k_set e2) dX12_fraction_26 ?_
  refine lv_if_le (tgt := 36) hx hb dX12_fraction_29 (by decide) (fun c9 => absurd c9 (by decide)) (fun _ => ?_)
  refine lv_lconst (v := 0) hx hb dX12_fraction_32 (by decide) ?_
  refine lv_goto (tgt := 42) hx hb dX12_fraction_33 (by decide) ?_
  exact W.lret (v := 0) hx hb hr (fun t ht hW => ⟨⟨0, (), rfl, rfl, kB_mk ht hW hP hK hD⟩, hS.F ht⟩) hS.2.2 dX12_fraction_42
set_option maxHeartbeats 400000000 in
set_option maxRecDepth 100000 in
theorem c_X9_isTold_1 (l : Launch) (E : kE) (D : va_G) (cI cJ cB cZ : ClassId) (h0 : Nat) (x0 : Int32) (f0 : List Value) (e0 : (x0 : Int32) < 0) : kI l E D (kT cI cJ cB cZ) yX9_isTold vW_X9_isTold ({ frames := 0, cells := 0, slots := 0, locals := 0 }) [.ref h0, .int x0] [(h0, .inr (9, f0))] (0) [(h0, .inr (9, f0))] 0 0 := by
  intro sz
  refine Met.ofW (cc := cX9_isTold) (maxL := 2) (ret := (some .boolean)) (by decide) rfl ?_
  intro p e s m args below meth c s₁ B hml hv
  obtain ⟨rfl, hsz, hP, hK, hD0, hN, hX⟩ := hv
  have hx := B.exec
  have hb := B.bytes
  have hr := B.returns
  have hts := atoms_spec (ws := vW_X9_isTold) B.pre
  have hown : s.vm.findClass RX9 = some m.cls := findClass_of_methodNamed B.named
  have hlocks := B.notSynchronized
  subst hsz
  have hD := hD0.self (sz := s.heap.size)
  have hAE := k_AE hD0 hX
  generalize hAe : va_A [(h0, .inr (9, f0))] s.heap.size = A at hD hAE ⊢
  have hA : ∀ q : Nat, s.heap.size ≤ q → A q := fun q h => by rw [← hAe]; exact Or.inr h
  have hS : va_S A s.heap s.heap [] := va_S.rf
  have hP : va_P D vwCl [(h0, .inr (9, f0))] s.heap := hP
  have hl := lv_entry ([.ref h0, .int x0] : List Value) (n := 2) (Nat.le_of_ble_eq_true rfl)
  rw [lg_entry_eq]
  generalize (lg_sl ([.ref h0, .int x0]) ++ List.replicate (2 - (lg_sl ([.ref h0, .int x0])).length) Slot.unset).toArray = ls at hl ⊢
  have hl : lv_has ls 2 [(0, .ref h0), (1, .int x0)] := hl
  refine lv_iload_n hx hb dX9_isTold_0 rfl (lv_at hl 1 rfl) ?_
  refine lv_if_lt (tgt := 16) hx hb dX9_isTold_1 (by decide) (fun _ => ?_) (fun c9 => absurd e0 c9)
  refine lv_iconst (v := 0) hx hb dX9_isTold_16 (by decide) ?_
  exact W.zret (v := 0) hx hb hr rfl (fun t ht hW => ⟨⟨0, (), rfl, rfl, kB_mk ht hW hP hK hD⟩, hS.F ht⟩) hS.2.2 dX9_isTold_17
set_option maxHeartbeats 400000000 in
set_option maxRecDepth 100000 in
theorem c_X11_fraction_1 (l : Launch) (E : kE) (D : va_G) (cI cJ cB cZ : ClassId) (h0 : Nat) (x0 : Int32) (f0 : List Value) (h1 : Nat) (f1 : List Value) (e0 : f0[9]? = some (.ref h1)) (e1 : (x0 : Int32) < 0) (hl9 : l.stackTraces = false) : kTJ l E D (kT cI cJ cB cZ) yX11_fraction vW_X11_fraction ({ frames := 6, cells := 1, slots := 6, locals := 82 }) [.ref h0, .int x0] [(h0, .inr (11, f0)), (h1, .inr (9, f1))] "java/lang/IndexOutOfBoundsException" 1 6 := by
  intro sz
  refine vx_ofW (cc := cX11_fraction) (maxL := 2) (ret := (some .long)) (by decide) rfl ?_
  intro p e s m args below meth c s₁ B hml ht9 hv
  obtain ⟨rfl, hsz, hP, hK, hD0, hN, hX⟩ := hv
  have hx := B.exec
  have hb := B.bytes
  have hr := B.returns
  have hts := atoms_spec (ws := vW_X11_fraction) B.pre
  have hown : s.vm.findClass RX11 = some m.cls := findClass_of_methodNamed B.named
  have hlocks := B.notSynchronized
  have hin11 : ∀ w ∈ wsX110, w ∈ vW_X11_fraction := u9_X11_fraction_wsX110
  subst hsz
  have hD := hD0.self (sz := s.heap.size)
  have hAE := k_AE hD0 hX
  generalize hAe : va_A [(h0, .inr (11, f0)), (h1, .inr (9, f1))] s.heap.size = A at hD hAE ⊢
  have hA : ∀ q : Nat, s.heap.size ≤ q → A q := fun q h => by rw [← hAe]; exact Or.inr h
  have hS : va_S A s.heap s.heap [] := va_S.rf
  have hP : va_P D vwCl [(h0, .inr (11, f0)), (h1, .inr (9, f1))] s.heap := hP
  have hl := lv_entry ([.ref h0, .int x0] : List Value) (n := 2) (Nat.le_of_ble_eq_true rfl)
  rw [lg_entry_eq]
  generalize (lg_sl ([.ref h0, .int x0]) ++ List.replicate (2 - (lg_sl ([.ref h0, .int x0])).length) Slot.unset).toArray = ls at hl ⊢
  have hl : lv_has ls 2 [(0, .ref h0), (1, .int x0)] := hl
  refine lv_aload_n hx hb dX11_fraction_0 rfl (lv_at hl 0 rfl) ?_
  refine k_get (D := D) (ci := 11) (v := .ref h1) (N := 15) hx hb hts hin11 hown hK hP 0 rfl rfl (by decide) f9_11_9 (hts (.fieldLink RX11 80 "IntegerHouse" "relaxer" "LIntegerHouse$Relaxer;") (o9_X11_fraction _ (List.mem_of_getElem? (i := 0) rfl))) e0 dX11_fraction_1 ?_
  refine lv_iload_n hx hb dX11_fraction_4 rfl (lv_at hl 1 rfl) ?_
  refine k_cVi (As := [.int x0]) (rest := []) (wc := [(h1, .inr (9, f1))]) (wr := [(h0, .inr (11, f0))]) (w1 := [(h1, .inr (9, f1))]) ⟨hx, hb, hml, hown, hts⟩ hN hX hAE hK hP hD hS hA [1] [0] (ci := 9) rfl rfl rfl rfl (by decide +kernel) (by decide +kernel) (by decide +kernel) (c_X9_isTold_1 l E D cI cJ cB cZ h1 x0 f1 e1) (cwV 1 hts g9_X11_fraction_X9_isTold_382 rfl rfl rfl (by decide +kernel) ⟨Nat.le_of_ble_eq_true rfl, Nat.le_of_ble_eq_true rfl⟩) rfl hl.1 (Nat.le_of_ble_eq_true rfl) dX11_fraction_5 ⟨Nat.le_of_ble_eq_true rfl, Nat.le_of_ble_eq_true rfl⟩ (fun H locs hP hD hS => ?_)
  have hP : va_P D vwCl [(h0, .inr (11, f0)), (h1, .inr (9, f1))] H := hP
  have hD : va_D A [(h0, .inr (11, f0)), (h1, .inr (9, f1))] := hD
  refine lv_if_ne (tgt := 22) hx hb dX11_fraction_8 (by decide) (fun c9 => absurd (by decide) c9) (fun _ => ?_)
  obtain ⟨a9, a9r, a9o⟩ := kX.st hX hAE ("IntegerHouse", 383, "no such number was told") (List.mem_of_getElem? (i := 8) rfl)
  exact vx_throwSW (names := ["java/lang/RuntimeException", "java/lang/Exception"]) (A := A) hx hb hl9 hown (by decide +kernel) (by decide +kernel) (hts (.classLink RX11 197 "java/lang/IndexOutOfBoundsException") (o9_X11_fraction _ (List.mem_of_getElem? (i := 5) rfl))) (hts (.initialized "java/lang/IndexOutOfBoundsException") (o9_X11_fraction _ (List.mem_of_getElem? (i := 6) rfl))) a9r (vx_hat (L := vx_atS RX11 201 "java/lang/IndexOutOfBoundsException" ["java/lang/RuntimeException", "java/lang/Exception"]) (B := [.castable "java/lang/IndexOutOfBoundsException" "java/lang/IndexOutOfBoundsException", .declares (Bundle.initS "java/lang/RuntimeException"), .declares (Bundle.initS "java/lang/Exception"), .declares (Bundle.initS "java/lang/Throwable")]) (fun w h => hts w (x9_X11_fraction_0 w h)) (by decide +kernel) (vx_c (va_Nw.use rfl (kX.cast hX "java/lang/IndexOutOfBoundsException" (by decide))) (vx_c (va_Nw.use rfl (kX.decl hX "java/lang/RuntimeException" (by decide))) (vx_c (va_Nw.use rfl (kX.decl hX "java/lang/Exception" (by decide))) (vx_c (va_Nw.use rfl (kX.decl hX "java/lang/Throwable" (by decide))) vx_n))))) (by decide +kernel) (kX.us hX hAE) (kX.ss hX hAE) hS (by rw [hml]; exact hl.1) dX11_fraction_11 dX11_fraction_14 dX11_fraction_15 dX11_fraction_18 dX11_fraction_21 (fun x hx => (ht9 x hx).elim) (Nat.le_of_ble_eq_true rfl) (Nat.le_of_ble_eq_true rfl) (Nat.le_of_ble_eq_true rfl) (Nat.le_of_ble_eq_true rfl) hlocks (fun t h1 h2 h3 => k_tx hP hK hD hS t h1 h2 h3) hS.2.2 (Nat.le_of_ble_eq_true rfl) (Nat.le_of_ble_eq_true rfl)
set_option maxHeartbeats 400000000 in
set_option maxRecDepth 100000 in
theorem c_L_fraction_1 (l : Launch) (E : kE) (D : va_G) (cI cJ cB cZ : ClassId) (h0 : Nat) (x0 : Int32) (h1 : Nat) (f0 : List Value) (h2 : Nat) (f1 : List Value) (e0 : f0[9]? = some (.ref h2)) (e1 : (x0 : Int32) < 0) (hl9 : l.stackTraces = false) : kI l E D (kT cI cJ cB cZ) yL_fraction vW_L_fraction ({ frames := 7, cells := 1, slots := 6, locals := 103 }) [.ref h0, .int x0, .ref h1] [(h0, .inr (11, f0)), (h2, .inr (9, f1))] (1) [(h0, .inr (11, f0)), (h2, .inr (9, f1))] 1 6 := by
  intro sz
  refine k_metH (cc := cL_fraction) (maxL := 4) (ret := (some .int)) (hh := [(0, 8, 11, 25)]) (by decide) rfl ?_
  intro p e s m args below meth c s₁ B hml hv
  obtain ⟨rfl, hsz, hP, hK, hD0, hN, hX⟩ := hv
  have hx := B.exec
  have hb := B.bytes
  have hr := B.returns
  have hts := atoms_spec (ws := vW_L_fraction) B.pre
  have hown : s.vm.findClass RL = some m.cls := findClass_of_methodNamed B.named
  have hlocks := B.notSynchronized
  subst hsz
  have hD := hD0.self (sz := s.heap.size)
  have hAE := k_AE hD0 hX
  generalize hAe : va_A [(h0, .inr (11, f0)), (h2, .inr (9, f1))] s.heap.size = A at hD hAE ⊢
  have hA : ∀ q : Nat, s.heap.size ≤ q → A q := fun q h => by rw [← hAe]; exact Or.inr h
  have hS : va_S A s.heap s.heap [] := va_S.rf
  have hP : va_P D vwCl [(h0, .inr (11, f0)), (h2, .inr (9, f1))] s.heap := hP
  have hl := lv_entry ([.ref h0, .int x0, .ref h1] : List Value) (n := 4) (Nat.le_of_ble_eq_true rfl)
  rw [lg_entry_eq]
  generalize (lg_sl ([.ref h0, .int x0, .ref h1]) ++ List.replicate (4 - (lg_sl ([.ref h0, .int x0, .ref h1])).length) Slot.unset).toArray = ls at hl ⊢
  have hl : lv_has ls 4 [(0, .ref h0), (1, .int x0), (2, .ref h1)] := hl
  refine lv_aload_n hx hb dL_fraction_0 rfl (lv_at hl 2 rfl) ?_
  refine lv_iconst (v := 0) hx hb dL_fraction_1 (by decide) ?_
  refine lv_aload_n hx hb dL_fraction_2 rfl (lv_at hl 0 rfl) ?_
  refine lv_iload_n hx hb dL_fraction_3 rfl (lv_at hl 1 rfl) ?_
  refine k_cTl (As := [.int x0]) (rest := [.int 0, .ref h1]) (wc := [(h0, .inr (11, f0)), (h2, .inr (9, f1))]) (wr := []) ⟨hx, hb, hml, hown, hts⟩ hN hX hAE hK hP hD hS hA [0, 1] [] (ci := 11) rfl rfl rfl rfl (by decide +kernel) (by decide +kernel) (by decide +kernel) (c_X11_fraction_1 l E D cI cJ cB cZ h0 x0 f0 h2 f1 e0 e1 hl9) (cwV 1 hts g9_L_fraction_X11_fraction_41 rfl rfl rfl (by decide +kernel) ⟨Nat.le_of_ble_eq_true rfl, Nat.le_of_ble_eq_true rfl⟩) rfl hl.1 (Nat.le_of_ble_eq_true rfl) dL_fraction_4 ⟨Nat.le_of_ble_eq_true rfl, Nat.le_of_ble_eq_true rfl⟩ (fun q9 ce H locs hP hD hS hce hcv hcl => ?_)
  have hP : va_P D vwCl [(h0, .inr (11, f0)), (h2, .inr (9, f1))] H := hP
  have hD : va_D A [(h0, .inr (11, f0)), (h2, .inr (9, f1))] := hD
  refine vx_catch (own := RL) (name := "java/lang/IndexOutOfBoundsException") hown [] ⟨0, 8, 11, 25⟩ [] (vx_table (x := yL_fraction) B (hts _ List.mem_cons_self)) (fun z hz => absurd hz List.not_mem_nil) (by decide) (by decide) (hts (.classLink RL 25 "java/lang/IndexOutOfBoundsException") (o9_L_fraction _ (List.mem_of_getElem? (i := 4) rfl))) (va_Nw.use rfl (kX.cast hX "java/lang/IndexOutOfBoundsException" (by decide))) hce hcv hcl ?_
  refine W.eq (g2 := F0 m 11 ls [.ref q9]) rfl ?_
  refine W.widen (k := 1) (n := 6) (Nat.le_of_ble_eq_true rfl) (Nat.le_of_ble_eq_true rfl) ?_
  refine lv_astore_n (lv' := [(3, .ref q9), (0, .ref h0), (1, .int x0), (2, .ref h1)]) hx hb dL_fraction_11 rfl hl (by decide) rfl (fun ls hl => ?_)
  refine lv_iconst (v := 1) hx hb dL_fraction_12 (by decide) ?_
  exact W.iret (v := 1) hx hb hr (fun t ht hW => ⟨⟨1, (), rfl, rfl, kB_mk ht hW hP hK hD⟩, hS.F ht⟩) hS.2.2 dL_fraction_13
set_option maxHeartbeats 400000000 in
set_option maxRecDepth 100000 in
theorem c_X12_fraction_1 (l : Launch) (E : kE) (D : va_G) (cI cJ cB cZ : ClassId) (h0 : Nat) (x0 : Int32) (f0 : List Value) (e0 : f0[171]? = some (.int 0)) (e1 : (x0 : Int32) < 0) (e2 : f0[0]? = some (.int 0)) : kJ l E D (kT cI cJ cB cZ) yX12_fraction vW_X12_fraction ({ frames := 1, cells := 0, slots := 0, locals := 25 }) [.ref h0, .int x0] [(h0, .inr (12, f0))] (0) [(h0, .inr (12, (f0.set 0 (.int 1))))] 0 0 := by
  intro sz
  refine Met.ofW (cc := cX12_fraction) (maxL := 2) (ret := (some .long)) (by decide) rfl ?_
  intro p e s m args below meth c s₁ B hml hv
  obtain ⟨rfl, hsz, hP, hK, hD0, hN, hX⟩ := hv
  have hx := B.exec
  have hb := B.bytes
  have hr := B.returns
  have hts := atoms_spec (ws := vW_X12_fraction) B.pre
  have hown : s.vm.findClass RX12 = some m.cls := findClass_of_methodNamed B.named
  have hlocks := B.notSynchronized
  have hin12 : ∀ w ∈ wsX120, w ∈ vW_X12_fraction := u9_X12_fraction_wsX120
  subst hsz
  have hD := hD0.self (sz := s.heap.size)
  have hAE := k_AE hD0 hX
  generalize hAe : va_A [(h0, .inr (12, f0))] s.heap.size = A at hD hAE ⊢
  have hA : ∀ q : Nat, s.heap.size ≤ q → A q := fun q h => by rw [← hAe]; exact Or.inr h
  have hS : va_S A s.heap s.heap [] := va_S.rf
  have hP : va_P D vwCl [(h0, .inr (12, f0))] s.heap := hP
  have hl := lv_entry ([.ref h0, .int x0] : List Value) (n := 2) (Nat.le_of_ble_eq_true rfl)
  rw [lg_entry_eq]
  generalize (lg_sl ([.ref h0, .int x0]) ++ List.replicate (2 - (lg_sl ([.ref h0, .int x0])).length) Slot.unset).toArray = ls at hl ⊢
  have hl : lv_has ls 2 [(0, .ref h0), (1, .int x0)] := hl
  refine lv_aload_n hx hb dX12_fraction_0 rfl (lv_at hl 0 rfl) ?_
  refine lv_iload_n hx hb dX12_fraction_1 rfl (lv_at hl 1 rfl) ?_
  refine lv_i2l (v := (Int32.toInt64 x0)) hx hb dX12_fraction_2 rfl ?_
  refine lv_lconst (v := 0) hx hb dX12_fraction_3 (by decide) ?_
  refine lv_aload_n hx hb dX12_fraction_4 rfl (lv_at hl 0 rfl) ?_
  refine k_get (D := D) (ci := 12) (v := .int 0) (N := 195) hx hb hts hin12 hown hK hP 0 rfl rfl (by decide) f9_12_171 (hts (.fieldLink RX12 1160 "IntegerHouseModel" "fractionCount" "I") (o9_X12_fraction _ (List.mem_of_getElem? (i := 0) rfl))) e0 dX12_fraction_5 ?_
  refine lv_iconst (v := 1) hx hb dX12_fraction_8 (by decide) ?_
  refine lv_isub hx hb dX12_fraction_9 ?_
  refine k_topi (y := (-1)) (by decide) ?_
  refine lv_i2l (v := (-1)) hx hb dX12_fraction_10 (by decide) ?_
  refine k_cSi (As := [.long (Int32.toInt64 x0), .long 0, .long (-1)]) (rest := [.ref h0]) (wc := []) (wr := [(h0, .inr (12, f0))]) (w1 := []) ⟨hx, hb, hml, hown, hts⟩ hN hX hAE hK hP hD hS hA [] [0] rfl rfl (by decide +kernel) (by decide +kernel) (by decide +kernel) (c_X12_in_13 l E D cI cJ cB cZ (Int32.toInt64 x0) ((k_n4 (x := x0) (c := 0) (C := 0) (by decide)).mpr e1)) (va_cwS 3 hts g9_X12_fraction_X12_in_504 rfl rfl rfl (by decide +kernel) ⟨Nat.le_of_ble_eq_true rfl, Nat.le_of_ble_eq_true rfl⟩) rfl hl.1 (Nat.le_of_ble_eq_true rfl) dX12_fraction_11 ⟨Nat.le_of_ble_eq_true rfl, Nat.le_of_ble_eq_true rfl⟩ (fun H locs hP hD hS => ?_)
  have hP : va_P D vwCl [(h0, .inr (12, f0))] H := hP
  have hD : va_D A [(h0, .inr (12, f0))] := hD
  refine lv_if_eq (tgt := 21) hx hb dX12_fraction_14 (by decide) (fun _ => ?_) (fun c9 => absurd (by decide) c9)
  refine lv_iconst (v := 1) hx hb dX12_fraction_21 (by decide) ?_
  refine k_put (D := D) (ci := 12) (v := .int 1) (ty := .int) (N := 195) hx hb hts hin12 tyX12 tyX12_ok nmX12 hown hK hP hD hS 0 rfl rfl (by decide) f9_12_0 (hts (.fieldLink RX12 3 "IntegerHouseModel" "thrown" "I") (o9_X12_fraction _ (List.mem_of_getElem? (i := 4) rfl))) rfl pd_2 rfl rfl (k_len e2) dX12_fraction_22 (fun H locs hP hD hS => ?_)
  have hP : va_P D vwCl [(h0, .inr (12, (f0.set 0 (.int 1))))] H := hP
  have hD : va_D A [(h0, .inr (12, (f0.set 0 (.int 1))))] := hD
  refine lv_aload_n hx hb dX12_fraction_25 rfl (lv_at hl 0 rfl) ?_
  refine k_get (D := D) (ci := 12) (v := .int 1) (N := 195) hx hb hts hin12 hown hK hP 0 rfl rfl (by decide) f9_12_0 (hts (.fieldLink RX12 3 "IntegerHouseModel" "thrown" "I") (o9_X12_fraction _ (List.mem_of_getElem? (i := 4) rfl))) (k_set e2) dX12_fraction_26 ?_
  refine lv_if_le (tgt := 36) hx hb dX12_fraction_29 (by decide) (fun c9 => absurd c9 (by decide)) (fun _ => ?_)
  refine lv_lconst (v := 0) hx hb dX12_fraction_32 (by decide) ?_
  refine lv_goto (tgt := 42) hx hb dX12_fraction_33 (by decide) ?_
  exact W.lret (v := 0) hx hb hr (fun t ht hW => ⟨⟨0, (), rfl, rfl, kB_mk ht hW hP hK hD⟩, hS.F ht⟩) hS.2.2 dX12_fraction_42
set_option maxHeartbeats 400000000 in
set_option maxRecDepth 100000 in
theorem c_X11_search_0 (l : Launch) (E : kE) (D : va_G) (cI cJ cB cZ : ClassId) (h0 : Nat) (x0 : Int32) (x1 : Int32) (f0 : List Value) (h1 : Nat) (f1 : List Value) (h2 : Nat) (f2 : List Value) (h3 : Nat) (h4 : Nat) (f3 : List Value) (h5 : Nat) (f4 : List Value) (h6 : Nat) (h7 : Nat) (h8 : Nat) (h9 : Nat) (h10 : Nat) (g0 : Nat → Int32) (g1 : Nat → Int32) (g2 : Nat → Int32) (g3 : Nat → Int32) (e0 : f0[1]? = some (.ref h1)) (e1 : f1[8]? = some (.int 0)) (e2 : f0[12]? = some (.int 0)) (e3 : ¬ ((x0 : Int32) < 0)) (e4 : (x0 : Int32) < 2) (e5 : ¬ ((x1 : Int32) < 1)) (e6 : (x1 : Int32) < 101) (e7 : f0[2]? = some (.ref h2)) (e8 : f2[11]? = some (.int 0)) (e9 : f0[5]? = some (.ref h3)) (e10 : f0[0]? = some (.ref h4)) (e11 : f3[0]? = some (.ref h5)) (e12 : f4[6]? = some (.ref h6)) (e13 : f4[7]? = some (.int 0)) (e14 : f4[8]? = some (.int 0)) (e15 : f4[5]? = some (.int 0)) (e16 : f4[1]? = some (.ref h7)) (e17 : f4[2]? = some (.ref h8)) (e18 : f3[3]? = some (.int 0)) (e19 : f3[4]? = some (.int 0)) (e20 : f3[5]? = some (.int 0)) (e21 : f3[6]? = some (.int 0)) (e22 : f3[7]? = some (.int 0)) (e23 : f3[8]? = some (.int 0)) (e24 : f3[11]? = some (.int 0)) (e25 : f3[12]? = some (.int 0)) (e26 : f3[13]? = some (.int 0)) (e27 : f3[14]? = some (.int 0)) (e28 : f3[1]? = some (.ref h2)) (e29 : f2[5]? = some (.ref h9)) (e30 : f2[10]? = some (.int 0)) (e31 : f2[3]? = some (.ref h10)) (e32 : f0[13]? = some (.int 0)) : kI l E D (kT cI cJ cB cZ) yX11_search vW_X11_search ({ frames := 6, cells := 0, slots := 0, locals := 134 }) [.ref h0, .int x0, .int x1] [(h0, .inr (11, f0)), (h1, .inr (1, f1)), (h2, .inr (2, f2)), (h3, .inr (8, f3)), (h5, .inr (3, f4)), (h7, .inl (cI, 2001, .inl g0)), (h8, .inl (cI, 2001, .inl g1)), (h9, .inl (cI, 260, .inl g2)), (h10, .inl (cI, 13312, .inl g3))] ((-1000)) [(h0, .inr (11, ((f0.set 12 (.int 0)).set 13 (.int 2)))), (h1, .inr (1, f1)), (h2, .inr (2, f2)), (h3, .inr (8, (((((((((((((((((f3.set 3 (.int 0)).set 4 (.int 0)).set 5 (.int 0)).set 6 (.int (-1))).set 6 (.int 0)).set 7 (.int 0)).set 8 (.int 0)).set 11 (.int 25)).set 12 (.int 0)).set 13 (.int 0)).set 14 (.int 0)).set 3 (.int 2)).set 4 (.int 0)).set 7 (.int 44)).set 13 (.int 1)).set 13 (.int 2)).set 7 (.int 44)))), (h5, .inr (3, ((((f4.set 6 (.ref h4)).set 7 (.int 0)).set 8 (.int 0)).set 5 (.int 0)))), (h7, .inl (cI, 2001, .inl (upd g0 0 0))), (h8, .inl (cI, 2001, .inl (upd g1 0 0))), (h9, .inl (cI, 260, .inl (upd (upd (upd g2 259 0) 250 0) 251 2))), (h10, .inl (cI, 13312, .inl (upd (upd g3 12800 43) 12801 43)))] 0 0 := by
  intro sz
  refine Met.ofW (cc := cX11_search) (maxL := 4) (ret := (some .int)) (by decide) rfl ?_
  intro p e s m args below meth c s₁ B hml hv
  obtain ⟨rfl, hsz, hP, hK, hD0, hN, hX⟩ := hv
  have hx := B.exec
  have hb := B.bytes
  have hr := B.returns
  have hts := atoms_spec (ws := vW_X11_search) B.pre
  have hown : s.vm.findClass RX11 = some m.cls := findClass_of_methodNamed B.named
  have hlocks := B.notSynchronized
  have hin11 : ∀ w ∈ wsX110, w ∈ vW_X11_search := u9_X11_search_wsX110
  have hin1 : ∀ w ∈ wsX10, w ∈ vW_X11_search := u9_X11_search_wsX10
  subst hsz
  have hD := hD0.self (sz := s.heap.size)
  have hAE := k_AE hD0 hX
  generalize hAe : va_A [(h0, .inr (11, f0)), (h1, .inr (1, f1)), (h2, .inr (2, f2)), (h3, .inr (8, f3)), (h5, .inr (3, f4)), (h7, .inl (cI, 2001, .inl g0)), (h8, .inl (cI, 2001, .inl g1)), (h9, .inl (cI, 260, .inl g2)), (h10, .inl (cI, 13312, .inl g3))] s.heap.size = A at hD hAE ⊢
  have hA : ∀ q : Nat, s.heap.size ≤ q → A q := fun q h => by rw [← hAe]; exact Or.inr h
  have hS : va_S A s.heap s.heap [] := va_S.rf
  have hP : va_P D vwCl [(h0, .inr (11, f0)), (h1, .inr (1, f1)), (h2, .inr (2, f2)), (h3, .inr (8, f3)), (h5, .inr (3, f4)), (h7, .inl (cI, 2001, .inl g0)), (h8, .inl (cI, 2001, .inl g1)), (h9, .inl (cI, 260, .inl g2)), (h10, .inl (cI, 13312, .inl g3))] s.heap := hP
  have hl := lv_entry ([.ref h0, .int x0, .int x1] : List Value) (n := 4) (Nat.le_of_ble_eq_true rfl)
  rw [lg_entry_eq]
  generalize (lg_sl ([.ref h0, .int x0, .int x1]) ++ List.replicate (4 - (lg_sl ([.ref h0, .int x0, .int x1])).length) Slot.unset).toArray = ls at hl ⊢
  have hl : lv_has ls 4 [(0, .ref h0), (1, .int x0), (2, .int x1)] := hl
  refine lv_aload_n hx hb dX11_search_0 rfl (lv_at hl 0 rfl) ?_
  refine k_get (D := D) (ci := 11) (v := .ref h1) (N := 15) hx hb hts hin11 hown hK hP 0 rfl rfl (by decide) f9_11_1 (hts (.fieldLink RX11 16 "IntegerHouse" "disk" "LIntegerHouse$Disk;") (o9_X11_search _ (List.mem_of_getElem? (i := 0) rfl))) e0 dX11_search_1 ?_
  refine k_getN (host := "IntegerHouse") (D := D) (ci := 1) (v := .int 0) (N := 9) hx hb hts hin1 hown hK hP 1 rfl rfl (by decide) f9_1_8 (va_Nw.use rfl (hN.1 ("IntegerHouse", 122, "IntegerHouse$Disk", "down", "Z", "IntegerHouse") (List.mem_of_getElem? (i := 3) rfl))) e1 dX11_search_4 ?_
  refine lv_if_eq (tgt := 13) hx hb dX11_search_7 (by decide) (fun _ => ?_) (fun c9 => absurd (by decide) c9)
  refine lv_aload_n hx hb dX11_search_13 rfl (lv_at hl 0 rfl) ?_
  refine k_cVi (As := []) (rest := []) (wc := [(h0, .inr (11, f0))]) (wr := [(h1, .inr (1, f1)), (h2, .inr (2, f2)), (h3, .inr (8, f3)), (h5, .inr (3, f4)), (h7, .inl (cI, 2001, .inl g0)), (h8, .inl (cI, 2001, .inl g1)), (h9, .inl (cI, 260, .inl g2)), (h10, .inl (cI, 13312, .inl g3))]) (w1 := [(h0, .inr (11, (f0.set 12 (.int 0))))]) ⟨hx, hb, hml, hown, hts⟩ hN hX hAE hK hP hD hS hA [0] [1, 2, 3, 4, 5, 6, 7, 8] (ci := 11) rfl rfl rfl rfl (by decide +kernel) (by decide +kernel) (by decide +kernel) (c_X11_useTape_0 l E D cI cJ cB cZ h0 f0 e2) (cwV 0 hts g9_X11_search_X11_useTape_230 rfl rfl rfl (by decide +kernel) ⟨Nat.le_of_ble_eq_true rfl, Nat.le_of_ble_eq_true rfl⟩) rfl hl.1 (Nat.le_of_ble_eq_true rfl) dX11_search_14 ⟨Nat.le_of_ble_eq_true rfl, Nat.le_of_ble_eq_true rfl⟩ (fun H locs hP hD hS => ?_)
  have hP : va_P D vwCl [(h1, .inr (1, f1)), (h2, .inr (2, f2)), (h3, .inr (8, f3)), (h5, .inr (3, f4)), (h7, .inl (cI, 2001, .inl g0)), (h8, .inl (cI, 2001, .inl g1)), (h9, .inl (cI, 260, .inl g2)), (h10, .inl (cI, 13312, .inl g3)), (h0, .inr (11, (f0.set 12 (.int 0))))] H := hP
  have hD : va_D A [(h1, .inr (1, f1)), (h2, .inr (2, f2)), (h3, .inr (8, f3)), (h5, .inr (3, f4)), (h7, .inl (cI, 2001, .inl g0)), (h8, .inl (cI, 2001, .inl g1)), (h9, .inl (cI, 260, .inl g2)), (h10, .inl (cI, 13312, .inl g3)), (h0, .inr (11, (f0.set 12 (.int 0))))] := hD
  refine lv_istore_n (lv' := [(3, .int 0), (0, .ref h0), (1, .int x0), (2, .int x1)]) hx hb dX11_search_17 rfl hl (by decide) rfl (fun ls hl => ?_)
  refine lv_iload_n hx hb dX11_search_18 rfl (lv_at hl 2 rfl) ?_
  refine lv_if_lt (tgt := 38) hx hb dX11_search_19 (by decide) (fun c9 => absurd c9 e3) (fun _ => ?_)
  refine lv_iload_n hx hb dX11_search_22 rfl (lv_at hl 2 rfl) ?_
  refine lv_iconst (v := 1) hx hb dX11_search_23 (by decide) ?_
  refine lv_icmp_gt (tgt := 38) hx hb dX11_search_24 (by decide) (fun c9 => absurd c9 (fun z9 => (k_n3 (x := x0) (c := 1) (d := 2) (by decide)).mp z9 e4)) (fun _ => ?_)
  refine lv_iload_n hx hb dX11_search_27 rfl (lv_at hl 3 rfl) ?_
  refine lv_iconst (v := 1) hx hb dX11_search_28 (by decide) ?_
  refine lv_icmp_lt (tgt := 38) hx hb dX11_search_29 (by decide) (fun c9 => absurd c9 e5) (fun _ => ?_)
  refine lv_iload_n hx hb dX11_search_32 rfl (lv_at hl 3 rfl) ?_
  refine lv_bipush (v := 100) hx hb dX11_search_33 (by decide) ?_
  refine lv_icmp_le (tgt := 41) hx hb dX11_search_35 (by decide) (fun _ => ?_) (fun c9 => absurd ((k_n1 (x := x1) (c := 100) (d := 101) (by decide)).mpr e6) c9)
  refine lv_aload_n hx hb dX11_search_41 rfl (lv_at hl 1 rfl) ?_
  refine k_get (D := D) (ci := 11) (v := .ref h2) (N := 15) hx hb hts hin11 hown hK hP 8 rfl rfl (by decide) f9_11_2 (hts (.fieldLink RX11 23 "IntegerHouse" "house" "LIntegerHouse$House;") (o9_X11_search _ (List.mem_of_getElem? (i := 5) rfl))) (k_ne (by decide) e7) dX11_search_42 ?_
  refine k_cVi (As := []) (rest := []) (wc := [(h2, .inr (2, f2))]) (wr := [(h1, .inr (1, f1)), (h3, .inr (8, f3)), (h5, .inr (3, f4)), (h7, .inl (cI, 2001, .inl g0)), (h8, .inl (cI, 2001, .inl g1)), (h9, .inl (cI, 260, .inl g2)), (h10, .inl (cI, 13312, .inl g3)), (h0, .inr (11, (f0.set 12 (.int 0))))]) (w1 := [(h2, .inr (2, f2))]) ⟨hx, hb, hml, hown, hts⟩ hN hX hAE hK hP hD hS hA [1] [0, 2, 3, 4, 5, 6, 7, 8] (ci := 2) rfl rfl rfl rfl (by decide +kernel) (by decide +kernel) (by decide +kernel) (c_X2_allPlain_0 l E D cI cJ cB cZ h2 f2 e8) (cwV 0 hts g9_X11_search_X2_allPlain_370 rfl rfl rfl (by decide +kernel) ⟨Nat.le_of_ble_eq_true rfl, Nat.le_of_ble_eq_true rfl⟩) rfl hl.1 (Nat.le_of_ble_eq_true rfl) dX11_search_45 ⟨Nat.le_of_ble_eq_true rfl, Nat.le_of_ble_eq_true rfl⟩ (fun H locs hP hD hS => ?_)
  have hP : va_P D vwCl [(h1, .inr (1, f1)), (h3, .inr (8, f3)), (h5, .inr (3, f4)), (h7, .inl (cI, 2001, .inl g0)), (h8, .inl (cI, 2001, .inl g1)), (h9, .inl (cI, 260, .inl g2)), (h10, .inl (cI, 13312, .inl g3)), (h0, .inr (11, (f0.set 12 (.int 0)))), (h2, .inr (2, f2))] H := hP
  have hD : va_D A [(h1, .inr (1, f1)), (h3, .inr (8, f3)), (h5, .inr (3, f4)), (h7, .inl (cI, 2001, .inl g0)), (h8, .inl (cI, 2001, .inl g1)), (h9, .inl (cI, 260, .inl g2)), (h10, .inl (cI, 13312, .inl g3)), (h0, .inr (11, (f0.set 12 (.int 0)))), (h2, .inr (2, f2))] := hD
  refine lv_if_ne (tgt := 54) hx hb dX11_search_48 (by decide) (fun _ => ?_) (fun c9 => absurd c9 (by decide))
  refine lv_aload_n hx hb dX11_search_54 rfl (lv_at hl 1 rfl) ?_
  refine k_get (D := D) (ci := 11) (v := .ref h3) (N := 15) hx hb hts hin11 hown hK hP 7 rfl rfl (by decide) f9_11_5 (hts (.fieldLink RX11 48 "IntegerHouse" "reader" "LIntegerHouse$Reader;") (o9_X11_search _ (List.mem_of_getElem? (i := 10) rfl))) (k_ne (by decide) e9) dX11_search_55 ?_
  refine lv_aload_n hx hb dX11_search_58 rfl (lv_at hl 1 rfl) ?_
  refine k_get (D := D) (ci := 11) (v := .ref h4) (N := 15) hx hb hts hin11 hown hK hP 7 rfl rfl (by decide) f9_11_0 (hts (.fieldLink RX11 9 "IntegerHouse" "tape" "[B") (o9_X11_search _ (List.mem_of_getElem? (i := 11) rfl))) (k_ne (by decide) e10) dX11_search_59 ?_
  refine lv_iload_n hx hb dX11_search_62 rfl (lv_at hl 0 rfl) ?_
  refine k_cVi (As := [.ref h4, .int 0]) (rest := []) (wc := [(h3, .inr (8, f3)), (h5, .inr (3, f4)), (h7, .inl (cI, 2001, .inl g0)), (h8, .inl (cI, 2001, .inl g1)), (h2, .inr (2, f2)), (h9, .inl (cI, 260, .inl g2)), (h10, .inl (cI, 13312, .inl g3))]) (wr := [(h1, .inr (1, f1)), (h0, .inr (11, (f0.set 12 (.int 0))))]) (w1 := [(h3, .inr (8, (((((((((((((((((f3.set 3 (.int 0)).set 4 (.int 0)).set 5 (.int 0)).set 6 (.int (-1))).set 6 (.int 0)).set 7 (.int 0)).set 8 (.int 0)).set 11 (.int 25)).set 12 (.int 0)).set 13 (.int 0)).set 14 (.int 0)).set 3 (.int 2)).set 4 (.int 0)).set 7 (.int 44)).set 13 (.int 1)).set 13 (.int 2)).set 7 (.int 44)))), (h5, .inr (3, ((((f4.set 6 (.ref h4)).set 7 (.int 0)).set 8 (.int 0)).set 5 (.int 0)))), (h7, .inl (cI, 2001, .inl (upd g0 0 0))), (h8, .inl (cI, 2001, .inl (upd g1 0 0))), (h2, .inr (2, f2)), (h9, .inl (cI, 260, .inl (upd (upd (upd g2 259 0) 250 0) 251 2))), (h10, .inl (cI, 13312, .inl (upd (upd g3 12800 43) 12801 43)))]) ⟨hx, hb, hml, hown, hts⟩ hN hX hAE hK hP hD hS hA [1, 2, 3, 4, 8, 5, 6] [0, 7] (ci := 8) rfl rfl rfl rfl (by decide +kernel) (by decide +kernel) (by decide +kernel) (c_X8_readTerm_0 l E D cI cJ cB cZ h3 h4 f3 h5 f4 h6 h7 h8 g0 g1 h2 f2 h9 h10 g2 g3 e11 e12 e13 e14 e15 e16 e17 e18 e19 e20 e21 e22 e23 e24 e25 e26 e27 e28 e29 e30 e31) (cwV 2 hts g9_X11_search_X8_readTerm_373 rfl rfl rfl (by decide +kernel) ⟨Nat.le_of_ble_eq_true rfl, Nat.le_of_ble_eq_true rfl⟩) rfl hl.1 (Nat.le_of_ble_eq_true rfl) dX11_search_63 ⟨Nat.le_of_ble_eq_true rfl, Nat.le_of_ble_eq_true rfl⟩ (fun H locs hP hD hS => ?_)
  have hP : va_P D vwCl [(h1, .inr (1, f1)), (h0, .inr (11, (f0.set 12 (.int 0)))), (h3, .inr (8, (((((((((((((((((f3.set 3 (.int 0)).set 4 (.int 0)).set 5 (.int 0)).set 6 (.int (-1))).set 6 (.int 0)).set 7 (.int 0)).set 8 (.int 0)).set 11 (.int 25)).set 12 (.int 0)).set 13 (.int 0)).set 14 (.int 0)).set 3 (.int 2)).set 4 (.int 0)).set 7 (.int 44)).set 13 (.int 1)).set 13 (.int 2)).set 7 (.int 44)))), (h5, .inr (3, ((((f4.set 6 (.ref h4)).set 7 (.int 0)).set 8 (.int 0)).set 5 (.int 0)))), (h7, .inl (cI, 2001, .inl (upd g0 0 0))), (h8, .inl (cI, 2001, .inl (upd g1 0 0))), (h2, .inr (2, f2)), (h9, .inl (cI, 260, .inl (upd (upd (upd g2 259 0) 250 0) 251 2))), (h10, .inl (cI, 13312, .inl (upd (upd g3 12800 43) 12801 43)))] H := hP
  have hD : va_D A [(h1, .inr (1, f1)), (h0, .inr (11, (f0.set 12 (.int 0)))), (h3, .inr (8, (((((((((((((((((f3.set 3 (.int 0)).set 4 (.int 0)).set 5 (.int 0)).set 6 (.int (-1))).set 6 (.int 0)).set 7 (.int 0)).set 8 (.int 0)).set 11 (.int 25)).set 12 (.int 0)).set 13 (.int 0)).set 14 (.int 0)).set 3 (.int 2)).set 4 (.int 0)).set 7 (.int 44)).set 13 (.int 1)).set 13 (.int 2)).set 7 (.int 44)))), (h5, .inr (3, ((((f4.set 6 (.ref h4)).set 7 (.int 0)).set 8 (.int 0)).set 5 (.int 0)))), (h7, .inl (cI, 2001, .inl (upd g0 0 0))), (h8, .inl (cI, 2001, .inl (upd g1 0 0))), (h2, .inr (2, f2)), (h9, .inl (cI, 260, .inl (upd (upd (upd g2 259 0) 250 0) 251 2))), (h10, .inl (cI, 13312, .inl (upd (upd g3 12800 43) 12801 43)))] := hD
  refine lv_if_ne (tgt := 74) hx hb dX11_search_66 (by decide) (fun c9 => absurd (by decide) c9) (fun _ => ?_)
  refine lv_aload_n hx hb dX11_search_69 rfl (lv_at hl 1 rfl) ?_
  refine k_cVi (As := []) (rest := []) (wc := [(h0, .inr (11, (f0.set 12 (.int 0)))), (h3, .inr (8, (((((((((((((((((f3.set 3 (.int 0)).set 4 (.int 0)).set 5 (.int 0)).set 6 (.int (-1))).set 6 (.int 0)).set 7 (.int 0)).set 8 (.int 0)).set 11 (.int 25)).set 12 (.int 0)).set 13 (.int 0)).set 14 (.int 0)).set 3 (.int 2)).set 4 (.int 0)).set 7 (.int 44)).set 13 (.int 1)).set 13 (.int 2)).set 7 (.int 44))))]) (wr := [(h1, .inr (1, f1)), (h5, .inr (3, ((((f4.set 6 (.ref h4)).set 7 (.int 0)).set 8 (.int 0)).set 5 (.int 0)))), (h7, .inl (cI, 2001, .inl (upd g0 0 0))), (h8, .inl (cI, 2001, .inl (upd g1 0 0))), (h2, .inr (2, f2)), (h9, .inl (cI, 260, .inl (upd (upd (upd g2 259 0) 250 0) 251 2))), (h10, .inl (cI, 13312, .inl (upd (upd g3 12800 43) 12801 43)))]) (w1 := [(h0, .inr (11, ((f0.set 12 (.int 0)).set 13 (.int 2)))), (h3, .inr (8, (((((((((((((((((f3.set 3 (.int 0)).set 4 (.int 0)).set 5 (.int 0)).set 6 (.int (-1))).set 6 (.int 0)).set 7 (.int 0)).set 8 (.int 0)).set 11 (.int 25)).set 12 (.int 0)).set 13 (.int 0)).set 14 (.int 0)).set 3 (.int 2)).set 4 (.int 0)).set 7 (.int 44)).set 13 (.int 1)).set 13 (.int 2)).set 7 (.int 44))))]) ⟨hx, hb, hml, hown, hts⟩ hN hX hAE hK hP hD hS hA [1, 2] [0, 3, 4, 5, 6, 7, 8] (ci := 11) rfl rfl rfl rfl (by decide +kernel) (by decide +kernel) (by decide +kernel) (c_X11_faulted_0 l E D cI cJ cB cZ h0 ((f0.set 12 (.int 0))) h3 ((((((((((((((((((f3.set 3 (.int 0)).set 4 (.int 0)).set 5 (.int 0)).set 6 (.int (-1))).set 6 (.int 0)).set 7 (.int 0)).set 8 (.int 0)).set 11 (.int 25)).set 12 (.int 0)).set 13 (.int 0)).set 14 (.int 0)).set 3 (.int 2)).set 4 (.int 0)).set 7 (.int 44)).set 13 (.int 1)).set 13 (.int 2)).set 7 (.int 44))) (k_ne (by decide) e9) (k_ne (by decide) (k_ne (by decide) (k_ne (by decide) (k_ne (by decide) (k_ne (by decide) (k_set (k_ne (by decide) (k_ne (by decide) (k_ne (by decide) (k_ne (by decide) (k_ne (by decide) (k_ne (by decide) (k_ne (by decide) (k_ne (by decide) (k_ne (by decide) (k_ne (by decide) (k_set e18))))))))))))))))) (k_ne (by decide) e32) (k_ne (by decide) (k_ne (by decide) (k_ne (by decide) (k_ne (by decide) (k_set (k_ne (by decide) (k_ne (by decide) (k_ne (by decide) (k_ne (by decide) (k_ne (by decide) (k_ne (by decide) (k_ne (by decide) (k_ne (by decide) (k_ne (by decide) (k_ne (by decide) (k_set (k_ne (by decide) e19)))))))))))))))))) (cwV 0 hts g9_X11_search_X11_faulted_236 rfl rfl rfl (by decide +kernel) ⟨Nat.le_of_ble_eq_true rfl, Nat.le_of_ble_eq_true rfl⟩) rfl hl.1 (Nat.le_of_ble_eq_true rfl) dX11_search_70 ⟨Nat.le_of_ble_eq_true rfl, Nat.le_of_ble_eq_true rfl⟩ (fun H locs hP hD hS => ?_)
  have hP : va_P D vwCl [(h1, .inr (1, f1)), (h5, .inr (3, ((((f4.set 6 (.ref h4)).set 7 (.int 0)).set 8 (.int 0)).set 5 (.int 0)))), (h7, .inl (cI, 2001, .inl (upd g0 0 0))), (h8, .inl (cI, 2001, .inl (upd g1 0 0))), (h2, .inr (2, f2)), (h9, .inl (cI, 260, .inl (upd (upd (upd g2 259 0) 250 0) 251 2))), (h10, .inl (cI, 13312, .inl (upd (upd g3 12800 43) 12801 43))), (h0, .inr (11, ((f0.set 12 (.int 0)).set 13 (.int 2)))), (h3, .inr (8, (((((((((((((((((f3.set 3 (.int 0)).set 4 (.int 0)).set 5 (.int 0)).set 6 (.int (-1))).set 6 (.int 0)).set 7 (.int 0)).set 8 (.int 0)).set 11 (.int 25)).set 12 (.int 0)).set 13 (.int 0)).set 14 (.int 0)).set 3 (.int 2)).set 4 (.int 0)).set 7 (.int 44)).set 13 (.int 1)).set 13 (.int 2)).set 7 (.int 44))))] H := hP
  have hD : va_D A [(h1, .inr (1, f1)), (h5, .inr (3, ((((f4.set 6 (.ref h4)).set 7 (.int 0)).set 8 (.int 0)).set 5 (.int 0)))), (h7, .inl (cI, 2001, .inl (upd g0 0 0))), (h8, .inl (cI, 2001, .inl (upd g1 0 0))), (h2, .inr (2, f2)), (h9, .inl (cI, 260, .inl (upd (upd (upd g2 259 0) 250 0) 251 2))), (h10, .inl (cI, 13312, .inl (upd (upd g3 12800 43) 12801 43))), (h0, .inr (11, ((f0.set 12 (.int 0)).set 13 (.int 2)))), (h3, .inr (8, (((((((((((((((((f3.set 3 (.int 0)).set 4 (.int 0)).set 5 (.int 0)).set 6 (.int (-1))).set 6 (.int 0)).set 7 (.int 0)).set 8 (.int 0)).set 11 (.int 25)).set 12 (.int 0)).set 13 (.int 0)).set 14 (.int 0)).set 3 (.int 2)).set 4 (.int 0)).set 7 (.int 44)).set 13 (.int 1)).set 13 (.int 2)).set 7 (.int 44))))] := hD
  have hP := hP.sub (ws' := [(h0, .inr (11, ((f0.set 12 (.int 0)).set 13 (.int 2)))), (h1, .inr (1, f1)), (h2, .inr (2, f2)), (h3, .inr (8, (((((((((((((((((f3.set 3 (.int 0)).set 4 (.int 0)).set 5 (.int 0)).set 6 (.int (-1))).set 6 (.int 0)).set 7 (.int 0)).set 8 (.int 0)).set 11 (.int 25)).set 12 (.int 0)).set 13 (.int 0)).set 14 (.int 0)).set 3 (.int 2)).set 4 (.int 0)).set 7 (.int 44)).set 13 (.int 1)).set 13 (.int 2)).set 7 (.int 44)))), (h5, .inr (3, ((((f4.set 6 (.ref h4)).set 7 (.int 0)).set 8 (.int 0)).set 5 (.int 0)))), (h7, .inl (cI, 2001, .inl (upd g0 0 0))), (h8, .inl (cI, 2001, .inl (upd g1 0 0))), (h9, .inl (cI, 260, .inl (upd (upd (upd g2 259 0) 250 0) 251 2))), (h10, .inl (cI, 13312, .inl (upd (upd g3 12800 43) 12801 43)))]) [7, 0, 4, 8, 1, 2, 3, 5, 6] rfl
  have hD := hD.sub (ws' := [(h0, .inr (11, ((f0.set 12 (.int 0)).set 13 (.int 2)))), (h1, .inr (1, f1)), (h2, .inr (2, f2)), (h3, .inr (8, (((((((((((((((((f3.set 3 (.int 0)).set 4 (.int 0)).set 5 (.int 0)).set 6 (.int (-1))).set 6 (.int 0)).set 7 (.int 0)).set 8 (.int 0)).set 11 (.int 25)).set 12 (.int 0)).set 13 (.int 0)).set 14 (.int 0)).set 3 (.int 2)).set 4 (.int 0)).set 7 (.int 44)).set 13 (.int 1)).set 13 (.int 2)).set 7 (.int 44)))), (h5, .inr (3, ((((f4.set 6 (.ref h4)).set 7 (.int 0)).set 8 (.int 0)).set 5 (.int 0)))), (h7, .inl (cI, 2001, .inl (upd g0 0 0))), (h8, .inl (cI, 2001, .inl (upd g1 0 0))), (h9, .inl (cI, 260, .inl (upd (upd (upd g2 259 0) 250 0) 251 2))), (h10, .inl (cI, 13312, .inl (upd (upd g3 12800 43) 12801 43)))]) [7, 0, 4, 8, 1, 2, 3, 5, 6] (by decide +kernel) rfl
  exact W.iret (v := (-1000)) hx hb hr (fun t ht hW => ⟨⟨(-1000), (), rfl, rfl, kB_mk ht hW hP hK hD⟩, hS.F ht⟩) hS.2.2 dX11_search_73
