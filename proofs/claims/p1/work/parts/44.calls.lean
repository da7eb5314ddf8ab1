theorem dX3_kindAt_0 : decode cX3_kindAt 0 = .ok (.iload_n 1, 1) := by decide +kernel
theorem dX3_kindAt_1 : decode cX3_kindAt 1 = .ok (.ifCond .lt 20, 3) := by decide +kernel
theorem dX3_kindAt_4 : decode cX3_kindAt 4 = .ok (.iload_n 1, 1) := by decide +kernel
theorem dX3_kindAt_5 : decode cX3_kindAt 5 = .ok (.aload_n 0, 1) := by decide +kernel
theorem dX3_kindAt_6 : decode cX3_kindAt 6 = .ok (.getfield 48, 3) := by decide +kernel
theorem dX3_kindAt_9 : decode cX3_kindAt 9 = .ok (.if_icmp .ge 12, 3) := by decide +kernel
theorem dX3_kindAt_21 : decode cX3_kindAt 21 = .ok (.iconst 0, 1) := by decide +kernel
theorem dX3_kindAt_22 : decode cX3_kindAt 22 = .ok (.ireturn, 1) := by decide +kernel
theorem dX3_scan_34 : decode cX3_scan 34 = .ok (.bipush 20, 2) := by decide +kernel
theorem dX3_scan_36 : decode cX3_scan 36 = .ok (.goto 5, 3) := by decide +kernel
theorem dX7_lineNumber_0 : decode cX7_lineNumber 0 = .ok (.iload_n 1, 1) := by decide +kernel
theorem dX7_lineNumber_1 : decode cX7_lineNumber 1 = .ok (.iconst 1, 1) := by decide +kernel
theorem dX7_lineNumber_2 : decode cX7_lineNumber 2 = .ok (.if_icmp .lt 34, 3) := by decide +kernel
theorem dX7_lineNumber_36 : decode cX7_lineNumber 36 = .ok (.lconst 0, 1) := by decide +kernel
theorem dX7_lineNumber_37 : decode cX7_lineNumber 37 = .ok (.lreturn, 1) := by decide +kernel
theorem dX7_check_0 : decode cX7_check 0 = .ok (.aload_n 0, 1) := by decide +kernel
theorem dX7_check_1 : decode cX7_check 1 = .ok (.getfield 38, 3) := by decide +kernel
theorem dX7_check_4 : decode cX7_check 4 = .ok (.aload_n 1, 1) := by decide +kernel
theorem dX7_check_5 : decode cX7_check 5 = .ok (.iconst 0, 1) := by decide +kernel
theorem dX7_check_6 : decode cX7_check 6 = .ok (.iload_n 2, 1) := by decide +kernel
theorem dX7_check_7 : decode cX7_check 7 = .ok (.iconst 1, 1) := by decide +kernel
theorem dX7_check_8 : decode cX7_check 8 = .ok (.invokevirtual 50, 3) := by decide +kernel
theorem dX7_check_11 : decode cX7_check 11 = .ok (.aload_n 0, 1) := by decide +kernel
theorem dX7_check_12 : decode cX7_check 12 = .ok (.iconst 0, 1) := by decide +kernel
theorem dX7_check_13 : decode cX7_check 13 = .ok (.putfield 46, 3) := by decide +kernel
theorem dX7_check_16 : decode cX7_check 16 = .ok (.aload_n 0, 1) := by decide +kernel
theorem dX7_check_17 : decode cX7_check 17 = .ok (.iconst 0, 1) := by decide +kernel
theorem dX7_check_18 : decode cX7_check 18 = .ok (.putfield 56, 3) := by decide +kernel
theorem dX7_check_21 : decode cX7_check 21 = .ok (.aload_n 0, 1) := by decide +kernel
theorem dX7_check_22 : decode cX7_check 22 = .ok (.iconst 0, 1) := by decide +kernel
theorem dX7_check_23 : decode cX7_check 23 = .ok (.putfield 59, 3) := by decide +kernel
theorem dX7_check_26 : decode cX7_check 26 = .ok (.aload_n 0, 1) := by decide +kernel
theorem dX7_check_27 : decode cX7_check 27 = .ok (.iconst 0, 1) := by decide +kernel
theorem dX7_check_28 : decode cX7_check 28 = .ok (.putfield 62, 3) := by decide +kernel
theorem dX7_check_31 : decode cX7_check 31 = .ok (.aload_n 0, 1) := by decide +kernel
theorem dX7_check_32 : decode cX7_check 32 = .ok (.iconst 0, 1) := by decide +kernel
theorem dX7_check_33 : decode cX7_check 33 = .ok (.putfield 65, 3) := by decide +kernel
theorem dX7_check_36 : decode cX7_check 36 = .ok (.iconst 0, 1) := by decide +kernel
theorem dX7_check_37 : decode cX7_check 37 = .ok (.istore_n 3, 1) := by decide +kernel
theorem dX7_check_38 : decode cX7_check 38 = .ok (.iload_n 3, 1) := by decide +kernel
theorem dX7_check_39 : decode cX7_check 39 = .ok (.sipush 2000, 3) := by decide +kernel
theorem dX7_check_42 : decode cX7_check 42 = .ok (.if_icmp .ge 34, 3) := by decide +kernel
theorem dX7_check_45 : decode cX7_check 45 = .ok (.aload_n 0, 1) := by decide +kernel
theorem dX7_check_46 : decode cX7_check 46 = .ok (.getfield 62, 3) := by decide +kernel
theorem dX7_check_49 : decode cX7_check 49 = .ok (.ifCond .ne 27, 3) := by decide +kernel
theorem dX7_check_52 : decode cX7_check 52 = .ok (.aload_n 0, 1) := by decide +kernel
theorem dX7_check_53 : decode cX7_check 53 = .ok (.getfield 38, 3) := by decide +kernel
theorem dX7_check_56 : decode cX7_check 56 = .ok (.aload_n 0, 1) := by decide +kernel
theorem dX7_check_57 : decode cX7_check 57 = .ok (.getfield 59, 3) := by decide +kernel
theorem dX7_check_60 : decode cX7_check 60 = .ok (.invokevirtual 68, 3) := by decide +kernel
theorem dX7_check_63 : decode cX7_check 63 = .ok (.ifCond .eq 13, 3) := by decide +kernel
theorem dX7_check_76 : decode cX7_check 76 = .ok (.aload_n 0, 1) := by decide +kernel
theorem dX7_check_77 : decode cX7_check 77 = .ok (.getfield 62, 3) := by decide +kernel
theorem dX7_check_80 : decode cX7_check 80 = .ok (.ifCond .eq 5, 3) := by decide +kernel
theorem dX7_check_85 : decode cX7_check 85 = .ok (.aload_n 0, 1) := by decide +kernel
theorem dX7_check_86 : decode cX7_check 86 = .ok (.getfield 56, 3) := by decide +kernel
theorem dX7_check_89 : decode cX7_check 89 = .ok (.ifCond .ne 14, 3) := by decide +kernel
theorem dX7_check_92 : decode cX7_check 92 = .ok (.aload_n 0, 1) := by decide +kernel
theorem dX7_check_93 : decode cX7_check 93 = .ok (.invokevirtual 75, 3) := by decide +kernel
theorem dX7_check_96 : decode cX7_check 96 = .ok (.ifCond .eq 7, 3) := by decide +kernel
theorem dX7_check_103 : decode cX7_check 103 = .ok (.iconst 0, 1) := by decide +kernel
theorem dX7_check_104 : decode cX7_check 104 = .ok (.ireturn, 1) := by decide +kernel
theorem dX7_isLatestFalse_0 : decode cX7_isLatestFalse 0 = .ok (.aload_n 0, 1) := by decide +kernel
theorem dX7_isLatestFalse_1 : decode cX7_isLatestFalse 1 = .ok (.getfield 46, 3) := by decide +kernel
theorem dX7_isLatestFalse_4 : decode cX7_isLatestFalse 4 = .ok (.ifCond .le 21, 3) := by decide +kernel
theorem dX7_isLatestFalse_25 : decode cX7_isLatestFalse 25 = .ok (.iconst 0, 1) := by decide +kernel
theorem dX7_isLatestFalse_26 : decode cX7_isLatestFalse 26 = .ok (.istore_n 1, 1) := by decide +kernel
theorem dX7_isLatestFalse_27 : decode cX7_isLatestFalse 27 = .ok (.iconst 0, 1) := by decide +kernel
theorem dX7_isLatestFalse_28 : decode cX7_isLatestFalse 28 = .ok (.istore_n 2, 1) := by decide +kernel
theorem dX7_isLatestFalse_29 : decode cX7_isLatestFalse 29 = .ok (.iload_n 2, 1) := by decide +kernel
theorem dX7_isLatestFalse_30 : decode cX7_isLatestFalse 30 = .ok (.iconst 4, 1) := by decide +kernel
theorem dX7_isLatestFalse_31 : decode cX7_isLatestFalse 31 = .ok (.if_icmp .ge 31, 3) := by decide +kernel
theorem dX7_isLatestFalse_34 : decode cX7_isLatestFalse 34 = .ok (.iload_n 1, 1) := by decide +kernel
theorem dX7_isLatestFalse_35 : decode cX7_isLatestFalse 35 = .ok (.aload_n 0, 1) := by decide +kernel
theorem dX7_isLatestFalse_36 : decode cX7_isLatestFalse 36 = .ok (.aload_n 0, 1) := by decide +kernel
theorem dX7_isLatestFalse_37 : decode cX7_isLatestFalse 37 = .ok (.getfield 46, 3) := by decide +kernel
theorem dX7_isLatestFalse_40 : decode cX7_isLatestFalse 40 = .ok (.iload_n 2, 1) := by decide +kernel
theorem dX7_isLatestFalse_41 : decode cX7_isLatestFalse 41 = .ok (.invokevirtual 165, 3) := by decide +kernel
theorem dX7_isLatestFalse_44 : decode cX7_isLatestFalse 44 = .ok (.lconst 0, 1) := by decide +kernel
theorem dX7_isLatestFalse_45 : decode cX7_isLatestFalse 45 = .ok (.lcmp, 1) := by decide +kernel
theorem dX7_isLatestFalse_46 : decode cX7_isLatestFalse 46 = .ok (.ifCond .ne 7, 3) := by decide +kernel
theorem dX7_isLatestFalse_49 : decode cX7_isLatestFalse 49 = .ok (.iconst 1, 1) := by decide +kernel
theorem dX7_isLatestFalse_50 : decode cX7_isLatestFalse 50 = .ok (.goto 4, 3) := by decide +kernel
theorem dX7_isLatestFalse_54 : decode cX7_isLatestFalse 54 = .ok (.iand, 1) := by decide +kernel
theorem dX7_isLatestFalse_55 : decode cX7_isLatestFalse 55 = .ok (.istore_n 1, 1) := by decide +kernel
theorem dX7_isLatestFalse_56 : decode cX7_isLatestFalse 56 = .ok (.iinc 2 1, 3) := by decide +kernel
theorem dX7_isLatestFalse_59 : decode cX7_isLatestFalse 59 = .ok (.goto (-30), 3) := by decide +kernel
theorem dX7_isLatestFalse_62 : decode cX7_isLatestFalse 62 = .ok (.iload_n 1, 1) := by decide +kernel
theorem dX7_isLatestFalse_63 : decode cX7_isLatestFalse 63 = .ok (.ireturn, 1) := by decide +kernel
theorem dX10_isTold_0 : decode cX10_isTold 0 = .ok (.aload_n 0, 1) := by decide +kernel
theorem dX10_isTold_1 : decode cX10_isTold 1 = .ok (.getfield 32, 3) := by decide +kernel
theorem dX10_isTold_4 : decode cX10_isTold 4 = .ok (.ifCond .eq 17, 3) := by decide +kernel
theorem dX10_isTold_21 : decode cX10_isTold 21 = .ok (.iconst 0, 1) := by decide +kernel
theorem dX10_isTold_22 : decode cX10_isTold 22 = .ok (.ireturn, 1) := by decide +kernel
theorem dX11_best_0 : decode cX11_best 0 = .ok (.aload_n 0, 1) := by decide +kernel
theorem dX11_best_1 : decode cX11_best 1 = .ok (.getfield 89, 3) := by decide +kernel
theorem dX11_best_4 : decode cX11_best 4 = .ok (.iload_n 1, 1) := by decide +kernel
theorem dX11_best_5 : decode cX11_best 5 = .ok (.invokevirtual 391, 3) := by decide +kernel
theorem dX11_best_8 : decode cX11_best 8 = .ok (.ifCond .ne 14, 3) := by decide +kernel
theorem dX11_best_11 : decode cX11_best 11 = .ok (.new 197, 3) := by decide +kernel
theorem dX11_best_14 : decode cX11_best 14 = .ok (.dup, 1) := by decide +kernel
theorem dX11_best_15 : decode cX11_best 15 = .ok (.ldc_w 383, 3) := by decide +kernel
theorem dX11_best_18 : decode cX11_best 18 = .ok (.invokespecial 201, 3) := by decide +kernel
theorem dX11_best_21 : decode cX11_best 21 = .ok (.athrow, 1) := by decide +kernel
theorem dX12_best_0 : decode cX12_best 0 = .ok (.aload_n 0, 1) := by decide +kernel
theorem dX12_best_1 : decode cX12_best 1 = .ok (.aload_n 0, 1) := by decide +kernel
theorem dX12_best_2 : decode cX12_best 2 = .ok (.getfield 1214, 3) := by decide +kernel
theorem dX12_best_5 : decode cX12_best 5 = .ok (.ifCond .eq 19, 3) := by decide +kernel
theorem dX12_best_24 : decode cX12_best 24 = .ok (.iconst 1, 1) := by decide +kernel
theorem dX12_best_25 : decode cX12_best 25 = .ok (.putfield 3, 3) := by decide +kernel
theorem dX12_best_28 : decode cX12_best 28 = .ok (.aload_n 0, 1) := by decide +kernel
theorem dX12_best_29 : decode cX12_best 29 = .ok (.getfield 3, 3) := by decide +kernel
theorem dX12_best_32 : decode cX12_best 32 = .ok (.ifCond .le 5, 3) := by decide +kernel
theorem dX12_best_35 : decode cX12_best 35 = .ok (.lconst 0, 1) := by decide +kernel
theorem dX12_best_36 : decode cX12_best 36 = .ok (.lreturn, 1) := by decide +kernel
theorem dL_best_0 : decode cL_best 0 = .ok (.aload_n 2, 1) := by decide +kernel
theorem dL_best_1 : decode cL_best 1 = .ok (.iconst 0, 1) := by decide +kernel
theorem dL_best_2 : decode cL_best 2 = .ok (.aload_n 0, 1) := by decide +kernel
theorem dL_best_3 : decode cL_best 3 = .ok (.iload_n 1, 1) := by decide +kernel
theorem dL_best_4 : decode cL_best 4 = .ok (.invokevirtual 44, 3) := by decide +kernel
theorem dL_best_11 : decode cL_best 11 = .ok (.astore_n 3, 1) := by decide +kernel
theorem dL_best_12 : decode cL_best 12 = .ok (.iconst 1, 1) := by decide +kernel
theorem dL_best_13 : decode cL_best 13 = .ok (.ireturn, 1) := by decide +kernel
set_option maxHeartbeats 400000000 in
set_option maxRecDepth 100000 in
theorem c_X11_search_4 (l : Launch) (E : kE) (D : va_G) (cI cJ cB cZ : ClassId) (h0 : Nat) (x0 : Int32) (x1 : Int32) (f0 : List Value) (h1 : Nat) (f1 : List Value) (e0 : f0[1]? = some (.ref h1)) (e1 : f1[8]? = some (.int 0)) (e2 : f0[12]? = some (.int 0)) (e3 : ¬ ((x0 : Int32) < 0)) (e4 : ¬ ((x0 : Int32) < 2)) : kI l E D (kT cI cJ cB cZ) yX11_search vW_X11_search ({ frames := 1, cells := 0, slots := 0, locals := 21 }) [.ref h0, .int x0, .int x1] [(h0, .inr (11, f0)), (h1, .inr (1, f1))] ((-102)) [(h0, .inr (11, (f0.set 12 (.int 0)))), (h1, .inr (1, f1))] 0 0 := by
  intro sz
  refine Met.ofW (cc := cX11_search) (maxL := 4) (ret := (some .int)) (by decide) rfl ?_
  intro p e s m args below meth c s₁ B hml hv
  obtain ⟨rfl, hsz, hP, hK, hD0, hN, hX⟩ := hv
  have hx := B.exec
  have hb := B.bytes
  have hr := B.returns
  have hts := atoms_spec (ws := vW_X11_search) B.pre
  have hown : s.vm.findClass RX11 = some m.cls := findClass_of_methodNamed B.named
  have hlocks := B.notSynchronized
  have hin11 : ∀ w ∈ wsX110, w ∈ vW_X11_search := u9_X11_search_wsX110
  have hin1 : ∀ w ∈ wsX10, w ∈ vW_X11_search := u9_X11_search_wsX10
  subst hsz
  have hD := hD0.self (sz := s.heap.size)
  have hAE := k_AE hD0 hX
  generalize hAe : va_A [(h0, .inr (11, f0)), (h1, .inr (1, f1))] s.heap.size = A at hD hAE ⊢
  have hA : ∀ q : Nat, s.heap.size ≤ q → A q := fun q h => by rw [← hAe]; exact Or.inr h
  have hS : va_S A s.heap s.heap [] := va_S.rf
  have hP : va_P D vwCl [(h0, .inr (11, f0)), (h1, .inr (1, f1))] s.heap := hP
  have hl := lv_entry ([.ref h0, .int x0, .int x1] : List Value) (n := 4) (Nat.le_of_ble_eq_true rfl)
  rw [lg_entry_eq]
  generalize (lg_sl ([.ref h0, .int x0, .int x1]) ++ List.replicate (4 - (lg_sl ([.ref h0, .int x0, .int x1])).length) Slot.unset).toArray = ls at hl ⊢
  have hl : lv_has ls 4 [(0, .ref h0), (1, .int x0), (2, .int x1)] := hl
  refine lv_aload_n hx hb dX11_search_0 rfl (lv_at hl 0 rfl) ?_
  refine k_get (D := D) (ci := 11) (v := .ref h1) (N := 15) hx hb hts hin11 hown hK hP 0 rfl rfl (by decide) f9_11_1 (hts (.fieldLink RX11 16 "IntegerHouse" "disk" "LIntegerHouse$Disk;") (o9_X11_search _ (List.mem_of_getElem? (i := 0) rfl))) e0 dX11_search_1 ?_
  refine k_getN (host := "IntegerHouse") (D := D) (ci := 1) (v := .int 0) (N := 9) hx hb hts hin1 hown hK hP 1 rfl rfl (by decide) f9_1_8 (va_Nw.use rfl (hN.1 ("IntegerHouse", 122, "IntegerHouse$Disk", "down", "Z", "IntegerHouse") (List.mem_of_getElem? (i := 3) rfl))) e1 dX11_search_4 ?_
  refine lv_if_eq (tgt := 13) hx hb dX11_search_7 (by decide) (fun _ => ?_) (fun c9 => absurd (by decide) c9)
  refine lv_aload_n hx hb dX11_search_13 rfl (lv_at hl 0 rfl) ?_
  refine k_cVi (As := []) (rest := []) (wc := [(h0, .inr (11, f0))]) (wr := [(h1, .inr (1, f1))]) (w1 := [(h0, .inr (11, (f0.set 12 (.int 0))))]) ⟨hx, hb, hml, hown, hts⟩ hN hX hAE hK hP hD hS hA [0] [1] (ci := 11) rfl rfl rfl rfl (by decide +kernel) (by decide +kernel) (by decide +kernel) (c_X11_useTape_0 l E D cI cJ cB cZ h0 f0 e2) (cwV 0 hts g9_X11_search_X11_useTape_230 rfl rfl rfl (by decide +kernel) ⟨Nat.le_of_ble_eq_true rfl, Nat.le_of_ble_eq_true rfl⟩) rfl hl.1 (Nat.le_of_ble_eq_true rfl) dX11_search_14 ⟨Nat.le_of_ble_eq_true rfl, Nat.le_of_ble_eq_true rfl⟩ (fun H locs hP hD hS => ?_)
  have hP : va_P D vwCl [(h1, .inr (1, f1)), (h0, .inr (11, (f0.set 12 (.int 0))))] H := hP
  have hD : va_D A [(h1, .inr (1, f1)), (h0, .inr (11, (f0.set 12 (.int 0))))] := hD
  refine lv_istore_n (lv' := [(3, .int 0), (0, .ref h0), (1, .int x0), (2, .int x1)]) hx hb dX11_search_17 rfl hl (by decide) rfl (fun ls hl => ?_)
  refine lv_iload_n hx hb dX11_search_18 rfl (lv_at hl 2 rfl) ?_
  refine lv_if_lt (tgt := 38) hx hb dX11_search_19 (by decide) (fun c9 => absurd c9 e3) (fun _ => ?_)
  refine lv_iload_n hx hb dX11_search_22 rfl (lv_at hl 2 rfl) ?_
  refine lv_iconst (v := 1) hx hb dX11_search_23 (by decide) ?_
  refine lv_icmp_gt (tgt := 38) hx hb dX11_search_24 (by decide) (fun _ => ?_) (fun c9 => absurd ((k_n3 (x := x0) (c := 1) (d := 2) (by decide)).mpr e4) c9)
  refine lv_bipush (v := (-102)) hx hb dX11_search_38 (by decide) ?_
  have hP := hP.sub (ws' := [(h0, .inr (11, (f0.set 12 (.int 0)))), (h1, .inr (1, f1))]) [1, 0] rfl
  have hD := hD.sub (ws' := [(h0, .inr (11, (f0.set 12 (.int 0)))), (h1, .inr (1, f1))]) [1, 0] (by decide +kernel) rfl
  exact W.iret (v := (-102)) hx hb hr (fun t ht hW => ⟨⟨(-102), (), rfl, rfl, kB_mk ht hW hP hK hD⟩, hS.F ht⟩) hS.2.2 dX11_search_40
set_option maxHeartbeats 400000000 in
set_option maxRecDepth 100000 in
theorem c_X12_in_16 (l : Launch) (E : kE) (D : va_G) (cI cJ cB cZ : ClassId) (y0 : Int64) (e0 : ¬ (((lg_cmp y0 0) : Int32) < 0)) (e1 : (0 : Int32) < (lg_cmp y0 1)) : kI l E D (kT cI cJ cB cZ) yX12_in vW_X12_in ({ frames := 0, cells := 0, slots := 0, locals := 0 }) [.long y0, .long 0, .long 1] [] (0) [] 0 0 := by
  intro sz
  refine Met.ofW (cc := cX12_in) (maxL := 6) (ret := (some .boolean)) (by decide) rfl ?_
  intro p e s m args below meth c s₁ B hml hv
  obtain ⟨rfl, hsz, hP, hK, hD0, hN, hX⟩ := hv
  have hx := B.exec
  have hb := B.bytes
  have hr := B.returns
  have hts := atoms_spec (ws := vW_X12_in) B.pre
  have hown : s.vm.findClass RX12 = some m.cls := findClass_of_methodNamed B.named
  have hlocks := B.notSynchronized
  subst hsz
  have hD := hD0.self (sz := s.heap.size)
  have hAE := k_AE hD0 hX
  generalize hAe : va_A [] s.heap.size = A at hD hAE ⊢
  have hA : ∀ q : Nat, s.heap.size ≤ q → A q := fun q h => by rw [← hAe]; exact Or.inr h
  have hS : va_S A s.heap s.heap [] := va_S.rf
  have hP : va_P D vwCl [] s.heap := hP
  have hl := lv_entry ([.long y0, .long 0, .long 1] : List Value) (n := 6) (Nat.le_of_ble_eq_true rfl)
  rw [lg_entry_eq]
  generalize (lg_sl ([.long y0, .long 0, .long 1]) ++ List.replicate (6 - (lg_sl ([.long y0, .long 0, .long 1])).length) Slot.unset).toArray = ls at hl ⊢
  have hl : lv_has ls 6 [(0, .long y0), (2, .long 0), (4, .long 1)] := hl
  refine lv_lload_n hx hb dX12_in_0 rfl (lv_at hl 0 rfl) ?_
  refine lv_lload_n hx hb dX12_in_1 rfl (lv_at hl 1 rfl) ?_
  refine W.lcmp hx hb dX12_in_2 ?_
  refine lv_if_lt (tgt := 17) hx hb dX12_in_3 (by decide) (fun c9 => absurd c9 e0) (fun _ => ?_)
  refine lv_lload_n hx hb dX12_in_6 rfl (lv_at hl 0 rfl) ?_
  refine lv_lload hx hb dX12_in_7 (lv_at hl 2 rfl) ?_
  refine W.lcmp hx hb dX12_in_9 ?_
  refine lv_if_gt (tgt := 17) hx hb dX12_in_10 (by decide) (fun _ => ?_) (fun c9 => absurd e1 c9)
  refine lv_iconst (v := 0) hx hb dX12_in_17 (by decide) ?_
  exact W.zret (v := 0) hx hb hr rfl (fun t ht hW => ⟨⟨0, (), rfl, rfl, kB_mk ht hW hP hK hD⟩, hS.F ht⟩) hS.2.2 dX12_in_18
set_option maxHeartbeats 400000000 in
set_option maxRecDepth 100000 in
theorem c_X12_search_4 (l : Launch) (E : kE) (D : va_G) (cI cJ cB cZ : ClassId) (h0 : Nat) (x0 : Int32) (x1 : Int32) (f0 : List Value) (h1 : Nat) (h2 : Nat) (h3 : Nat) (h4 : Nat) (g0 : Nat → Int32) (g1 : Nat → Int32) (g2 : Nat → Int32) (g3 : Nat → Int32) (e0 : f0[0]? = some (.int 0)) (e1 : f0[5]? = some (.int 0)) (e2 : f0[2]? = some (.int 0)) (e3 : f0[12]? = some (.int 0)) (e4 : f0[32]? = some (.int 0)) (e5 : f0[36]? = some (.int 0)) (e6 : f0[33]? = some (.int 0)) (e7 : f0[37]? = some (.int 0)) (e8 : f0[27]? = some (.int 0)) (e9 : f0[31]? = some (.int 0)) (e10 : f0[28]? = some (.int 0)) (e11 : f0[23]? = some (.ref h1)) (e12 : f0[24]? = some (.ref h2)) (e13 : f0[25]? = some (.ref h3)) (e14 : f0[26]? = some (.ref h4)) (e15 : ¬ ((x0 : Int32) < 0)) (e16 : ¬ ((x0 : Int32) < 2)) : kI l E D (kT cI cJ cB cZ) yX12_search vW_X12_search ({ frames := 3, cells := 0, slots := 0, locals := 68 }) [.ref h0, .int x0, .int x1] [(h0, .inr (12, f0)), (h1, .inl (cI, 2001, .inl g0)), (h2, .inl (cI, 2001, .inl g1)), (h3, .inl (cI, 2001, .inl g2)), (h4, .inl (cI, 2001, .inl g3))] ((-102)) [(h0, .inr (12, ((((((((f0.set 0 (.int 0)).set 12 (.int 0)).set 2 (.int 0)).set 36 (.int 0)).set 37 (.int 0)).set 27 (.int 0)).set 31 (.int 0)).set 28 (.int 0)))), (h1, .inl (cI, 2001, .inl (upd g0 0 0))), (h2, .inl (cI, 2001, .inl (upd g1 0 0))), (h3, .inl (cI, 2001, .inl (upd g2 0 0))), (h4, .inl (cI, 2001, .inl (upd g3 0 0)))] 0 0 := by
  intro sz
  refine Met.ofW (cc := cX12_search) (maxL := 4) (ret := (some .int)) (by decide) rfl ?_
  intro p e s m args below meth c s₁ B hml hv
  obtain ⟨rfl, hsz, hP, hK, hD0, hN, hX⟩ := hv
  have hx := B.exec
  have hb := B.bytes
  have hr := B.returns
  have hts := atoms_spec (ws := vW_X12_search) B.pre
  have hown : s.vm.findClass RX12 = some m.cls := findClass_of_methodNamed B.named
  have hlocks := B.notSynchronized
  subst hsz
  have hD := hD0.self (sz := s.heap.size)
  have hAE := k_AE hD0 hX
  generalize hAe : va_A [(h0, .inr (12, f0)), (h1, .inl (cI, 2001, .inl g0)), (h2, .inl (cI, 2001, .inl g1)), (h3, .inl (cI, 2001, .inl g2)), (h4, .inl (cI, 2001, .inl g3))] s.heap.size = A at hD hAE ⊢
  have hA : ∀ q : Nat, s.heap.size ≤ q → A q := fun q h => by rw [← hAe]; exact Or.inr h
  have hS : va_S A s.heap s.heap [] := va_S.rf
  have hP : va_P D vwCl [(h0, .inr (12, f0)), (h1, .inl (cI, 2001, .inl g0)), (h2, .inl (cI, 2001, .inl g1)), (h3, .inl (cI, 2001, .inl g2)), (h4, .inl (cI, 2001, .inl g3))] s.heap := hP
  have hl := lv_entry ([.ref h0, .int x0, .int x1] : List Value) (n := 4) (Nat.le_of_ble_eq_true rfl)
  rw [lg_entry_eq]
  generalize (lg_sl ([.ref h0, .int x0, .int x1]) ++ List.replicate (4 - (lg_sl ([.ref h0, .int x0, .int x1])).length) Slot.unset).toArray = ls at hl ⊢
  have hl : lv_has ls 4 [(0, .ref h0), (1, .int x0), (2, .int x1)] := hl
  refine lv_aload_n hx hb dX12_search_0 rfl (lv_at hl 0 rfl) ?_
  refine k_cVi (As := []) (rest := []) (wc := [(h0, .inr (12, f0))]) (wr := [(h1, .inl (cI, 2001, .inl g0)), (h2, .inl (cI, 2001, .inl g1)), (h3, .inl (cI, 2001, .inl g2)), (h4, .inl (cI, 2001, .inl g3))]) (w1 := [(h0, .inr (12, (f0.set 0 (.int 0))))]) ⟨hx, hb, hml, hown, hts⟩ hN hX hAE hK hP hD hS hA [0] [1, 2, 3, 4] (ci := 12) rfl rfl rfl rfl (by decide +kernel) (by decide +kernel) (by decide +kernel) (c_X12_asks_0 l E D cI cJ cB cZ h0 f0 e0 e1) (cwV 0 hts g9_X12_search_X12_asks_871 rfl rfl rfl (by decide +kernel) ⟨Nat.le_of_ble_eq_true rfl, Nat.le_of_ble_eq_true rfl⟩) rfl hl.1 (Nat.le_of_ble_eq_true rfl) dX12_search_1 ⟨Nat.le_of_ble_eq_true rfl, Nat.le_of_ble_eq_true rfl⟩ (fun H locs hP hD hS => ?_)
  have hP : va_P D vwCl [(h1, .inl (cI, 2001, .inl g0)), (h2, .inl (cI, 2001, .inl g1)), (h3, .inl (cI, 2001, .inl g2)), (h4, .inl (cI, 2001, .inl g3)), (h0, .inr (12, (f0.set 0 (.int 0))))] H := hP
  have hD : va_D A [(h1, .inl (cI, 2001, .inl g0)), (h2, .inl (cI, 2001, .inl g1)), (h3, .inl (cI, 2001, .inl g2)), (h4, .inl (cI, 2001, .inl g3)), (h0, .inr (12, (f0.set 0 (.int 0))))] := hD
  refine lv_if_ne (tgt := 10) hx hb dX12_search_4 (by decide) (fun _ => ?_) (fun c9 => absurd c9 (by decide))
  refine lv_aload_n hx hb dX12_search_10 rfl (lv_at hl 0 rfl) ?_
  refine k_cVv (As := []) (rest := []) (wc := [(h0, .inr (12, (f0.set 0 (.int 0)))), (h1, .inl (cI, 2001, .inl g0)), (h2, .inl (cI, 2001, .inl g1)), (h3, .inl (cI, 2001, .inl g2)), (h4, .inl (cI, 2001, .inl g3))]) (wr := []) (w1 := (fun _ : Unit => [(h0, .inr (12, ((((((((f0.set 0 (.int 0)).set 12 (.int 0)).set 2 (.int 0)).set 36 (.int 0)).set 37 (.int 0)).set 27 (.int 0)).set 31 (.int 0)).set 28 (.int 0)))), (h1, .inl (cI, 2001, .inl (upd g0 0 0))), (h2, .inl (cI, 2001, .inl (upd g1 0 0))), (h3, .inl (cI, 2001, .inl (upd g2 0 0))), (h4, .inl (cI, 2001, .inl (upd g3 0 0)))])) ⟨hx, hb, hml, hown, hts⟩ hN hX hAE hK hP hD hS hA [4, 0, 1, 2, 3] [] (ci := 12) rfl rfl rfl rfl (by decide +kernel) (by decide +kernel) (by decide +kernel) (c_X12_begin_0 l E D cI cJ cB cZ h0 ((f0.set 0 (.int 0))) h1 h2 h3 h4 g0 g1 g2 g3 (k_ne (by decide) e2) (k_ne (by decide) e3) (k_ne (by decide) e4) (k_ne (by decide) e5) (k_ne (by decide) e6) (k_ne (by decide) e7) (k_ne (by decide) e8) (k_ne (by decide) e9) (k_ne (by decide) e10) (k_ne (by decide) e11) (k_ne (by decide) e12) (k_ne (by decide) e13) (k_ne (by decide) e14)) (cwV 0 hts g9_X12_search_X12_begin_874 rfl rfl rfl (by decide +kernel) ⟨Nat.le_of_ble_eq_true rfl, Nat.le_of_ble_eq_true rfl⟩) rfl hl.1 (Nat.le_of_ble_eq_true rfl) dX12_search_11 ⟨Nat.le_of_ble_eq_true rfl, Nat.le_of_ble_eq_true rfl⟩ (fun _ H locs hP hD hS => ?_)
  have hP : va_P D vwCl [(h0, .inr (12, ((((((((f0.set 0 (.int 0)).set 12 (.int 0)).set 2 (.int 0)).set 36 (.int 0)).set 37 (.int 0)).set 27 (.int 0)).set 31 (.int 0)).set 28 (.int 0)))), (h1, .inl (cI, 2001, .inl (upd g0 0 0))), (h2, .inl (cI, 2001, .inl (upd g1 0 0))), (h3, .inl (cI, 2001, .inl (upd g2 0 0))), (h4, .inl (cI, 2001, .inl (upd g3 0 0)))] H := hP
  have hD : va_D A [(h0, .inr (12, ((((((((f0.set 0 (.int 0)).set 12 (.int 0)).set 2 (.int 0)).set 36 (.int 0)).set 37 (.int 0)).set 27 (.int 0)).set 31 (.int 0)).set 28 (.int 0)))), (h1, .inl (cI, 2001, .inl (upd g0 0 0))), (h2, .inl (cI, 2001, .inl (upd g1 0 0))), (h3, .inl (cI, 2001, .inl (upd g2 0 0))), (h4, .inl (cI, 2001, .inl (upd g3 0 0)))] := hD
  refine lv_iload_n hx hb dX12_search_14 rfl (lv_at hl 1 rfl) ?_
  refine lv_i2l (v := (Int32.toInt64 x0)) hx hb dX12_search_15 rfl ?_
  refine lv_lconst (v := 0) hx hb dX12_search_16 (by decide) ?_
  refine lv_lconst (v := 1) hx hb dX12_search_17 (by decide) ?_
  refine k_cSi (As := [.long (Int32.toInt64 x0), .long 0, .long 1]) (rest := []) (wc := []) (wr := [(h0, .inr (12, ((((((((f0.set 0 (.int 0)).set 12 (.int 0)).set 2 (.int 0)).set 36 (.int 0)).set 37 (.int 0)).set 27 (.int 0)).set 31 (.int 0)).set 28 (.int 0)))), (h1, .inl (cI, 2001, .inl (upd g0 0 0))), (h2, .inl (cI, 2001, .inl (upd g1 0 0))), (h3, .inl (cI, 2001, .inl (upd g2 0 0))), (h4, .inl (cI, 2001, .inl (upd g3 0 0)))]) (w1 := []) ⟨hx, hb, hml, hown, hts⟩ hN hX hAE hK hP hD hS hA [] [0, 1, 2, 3, 4] rfl rfl (by decide +kernel) (by decide +kernel) (by decide +kernel) (c_X12_in_16 l E D cI cJ cB cZ (Int32.toInt64 x0) (fun z9 => e15 ((k_n4 (x := x0) (c := 0) (C := 0) (by decide)).mp z9)) ((k_n5 (x := x0) (c := 1) (d := 2) (C := 1) (by decide) (by decide)).mpr e16)) (va_cwS 3 hts g9_X12_search_X12_in_504 rfl rfl rfl (by decide +kernel) ⟨Nat.le_of_ble_eq_true rfl, Nat.le_of_ble_eq_true rfl⟩) rfl hl.1 (Nat.le_of_ble_eq_true rfl) dX12_search_18 ⟨Nat.le_of_ble_eq_true rfl, Nat.le_of_ble_eq_true rfl⟩ (fun H locs hP hD hS => ?_)
  have hP : va_P D vwCl [(h0, .inr (12, ((((((((f0.set 0 (.int 0)).set 12 (.int 0)).set 2 (.int 0)).set 36 (.int 0)).set 37 (.int 0)).set 27 (.int 0)).set 31 (.int 0)).set 28 (.int 0)))), (h1, .inl (cI, 2001, .inl (upd g0 0 0))), (h2, .inl (cI, 2001, .inl (upd g1 0 0))), (h3, .inl (cI, 2001, .inl (upd g2 0 0))), (h4, .inl (cI, 2001, .inl (upd g3 0 0)))] H := hP
  have hD : va_D A [(h0, .inr (12, ((((((((f0.set 0 (.int 0)).set 12 (.int 0)).set 2 (.int 0)).set 36 (.int 0)).set 37 (.int 0)).set 27 (.int 0)).set 31 (.int 0)).set 28 (.int 0)))), (h1, .inl (cI, 2001, .inl (upd g0 0 0))), (h2, .inl (cI, 2001, .inl (upd g1 0 0))), (h3, .inl (cI, 2001, .inl (upd g2 0 0))), (h4, .inl (cI, 2001, .inl (upd g3 0 0)))] := hD
  refine lv_if_eq (tgt := 36) hx hb dX12_search_21 (by decide) (fun _ => ?_) (fun c9 => absurd (by decide) c9)
  refine lv_bipush (v := (-102)) hx hb dX12_search_36 (by decide) ?_
  exact W.iret (v := (-102)) hx hb hr (fun t ht hW => ⟨⟨(-102), (), rfl, rfl, kB_mk ht hW hP hK hD⟩, hS.F ht⟩) hS.2.2 dX12_search_38
set_option maxHeartbeats 400000000 in
set_option maxRecDepth 100000 in
theorem c_X10_isTold_0 (l : Launch) (E : kE) (D : va_G) (cI cJ cB cZ : ClassId) (h0 : Nat) (x0 : Int32) (f0 : List Value) (e0 : f0[11]? = some (.int 0)) : kI l E D (kT cI cJ cB cZ) yX10_isTold vW_X10_isTold ({ frames := 0, cells := 0, slots := 0, locals := 0 }) [.ref h0, .int x0] [(h0, .inr (10, f0))] (0) [(h0, .inr (10, f0))] 0 0 := by
  intro sz
  refine Met.ofW (cc := cX10_isTold) (maxL := 2) (ret := (some .boolean)) (by decide) rfl ?_
  intro p e s m args below meth c s₁ B hml hv
  obtain ⟨rfl, hsz, hP, hK, hD0, hN, hX⟩ := hv
  have hx := B.exec
  have hb := B.bytes
  have hr := B.returns
  have hts := atoms_spec (ws := vW_X10_isTold) B.pre
  have hown : s.vm.findClass RX10 = some m.cls := findClass_of_methodNamed B.named
  have hlocks := B.notSynchronized
  have hin10 : ∀ w ∈ wsX100, w ∈ vW_X10_isTold := u9_X10_isTold_wsX100
  subst hsz
  have hD := hD0.self (sz := s.heap.size)
  have hAE := k_AE hD0 hX
  generalize hAe : va_A [(h0, .inr (10, f0))] s.heap.size = A at hD hAE ⊢
  have hA : ∀ q : Nat, s.heap.size ≤ q → A q := fun q h => by rw [← hAe]; exact Or.inr h
  have hS : va_S A s.heap s.heap [] := va_S.rf
  have hP : va_P D vwCl [(h0, .inr (10, f0))] s.heap := hP
  have hl := lv_entry ([.ref h0, .int x0] : List Value) (n := 2) (Nat.le_of_ble_eq_true rfl)
  rw [lg_entry_eq]
  generalize (lg_sl ([.ref h0, .int x0]) ++ List.replicate (2 - (lg_sl ([.ref h0, .int x0])).length) Slot.unset).toArray = ls at hl ⊢
  have hl : lv_has ls 2 [(0, .ref h0), (1, .int x0)] := hl
  refine lv_aload_n hx hb dX10_isTold_0 rfl (lv_at hl 0 rfl) ?_
  refine k_get (D := D) (ci := 10) (v := .int 0) (N := 12) hx hb hts hin10 hown hK hP 0 rfl rfl (by decide) f9_10_11 (hts (.fieldLink RX10 32 "IntegerHouse$Searcher" "told" "Z") (o9_X10_isTold _ (List.mem_of_getElem? (i := 0) rfl))) e0 dX10_isTold_1 ?_
  refine lv_if_eq (tgt := 21) hx hb dX10_isTold_4 (by decide) (fun _ => ?_) (fun c9 => absurd (by decide) c9)
  refine lv_iconst (v := 0) hx hb dX10_isTold_21 (by decide) ?_
  exact W.zret (v := 0) hx hb hr rfl (fun t ht hW => ⟨⟨0, (), rfl, rfl, kB_mk ht hW hP hK hD⟩, hS.F ht⟩) hS.2.2 dX10_isTold_22
set_option maxHeartbeats 400000000 in
set_option maxRecDepth 100000 in
theorem c_X11_best_0 (l : Launch) (E : kE) (D : va_G) (cI cJ cB cZ : ClassId) (h0 : Nat) (x0 : Int32) (f0 : List Value) (h1 : Nat) (f1 : List Value) (e0 : f0[10]? = some (.ref h1)) (e1 : f1[11]? = some (.int 0)) (hl9 : l.stackTraces = false) : kTJ l E D (kT cI cJ cB cZ) yX11_best vW_X11_best ({ frames := 6, cells := 1, slots := 6, locals := 82 }) [.ref h0, .int x0] [(h0, .inr (11, f0)), (h1, .inr (10, f1))] "java/lang/IndexOutOfBoundsException" 1 6 := by
  intro sz
  refine vx_ofW (cc := cX11_best) (maxL := 2) (ret := (some .long)) (by decide) rfl ?_
  intro p e s m args below meth c s₁ B hml ht9 hv
  obtain ⟨rfl, hsz, hP, hK, hD0, hN, hX⟩ := hv
  have hx := B.exec
  have hb := B.bytes
  have hr := B.returns
  have hts := atoms_spec (ws := vW_X11_best) B.pre
  have hown : s.vm.findClass RX11 = some m.cls := findClass_of_methodNamed B.named
  have hlocks := B.notSynchronized
  have hin11 : ∀ w ∈ wsX110, w ∈ vW_X11_best := u9_X11_best_wsX110
  subst hsz
  have hD := hD0.self (sz := s.heap.size)
  have hAE := k_AE hD0 hX
  generalize hAe : va_A [(h0, .inr (11, f0)), (h1, .inr (10, f1))] s.heap.size = A at hD hAE ⊢
  have hA : ∀ q : Nat, s.heap.size ≤ q → A q := fun q h => by rw [← hAe]; exact Or.inr h
  have hS : va_S A s.heap s.heap [] := va_S.rf
  have hP : va_P D vwCl [(h0, .inr (11, f0)), (h1, .inr (10, f1))] s.heap := hP
  have hl := lv_entry ([.ref h0, .int x0] : List Value) (n := 2) (Nat.le_of_ble_eq_true rfl)
  rw [lg_entry_eq]
  generalize (lg_sl ([.ref h0, .int x0]) ++ List.replicate (2 - (lg_sl ([.ref h0, .int x0])).length) Slot.unset).toArray = ls at hl ⊢
  have hl : lv_has ls 2 [(0, .ref h0), (1, .int x0)] := hl
  refine lv_aload_n hx hb dX11_best_0 rfl (lv_at hl 0 rfl) ?_
  refine k_get (D := D) (ci := 11) (v := .ref h1) (N := 15) hx hb hts hin11 hown hK hP 0 rfl rfl (by decide) f9_11_10 (hts (.fieldLink RX11 89 "IntegerHouse" "searcher" "LIntegerHouse$Searcher;") (o9_X11_best _ (List.mem_of_getElem? (i := 0) rfl))) e0 dX11_best_1 ?_
  refine lv_iload_n hx hb dX11_best_4 rfl (lv_at hl 1 rfl) ?_
  refine k_cVi (As := [.int x0]) (rest := []) (wc := [(h1, .inr (10, f1))]) (wr := [(h0, .inr (11, f0))]) (w1 := [(h1, .inr (10, f1))]) ⟨hx, hb, hml, hown, hts⟩ hN hX hAE hK hP hD hS hA [1] [0] (ci := 10) rfl rfl rfl rfl (by decide +kernel) (by decide +kernel) (by decide +kernel) (c_X10_isTold_0 l E D cI cJ cB cZ h1 x0 f1 e1) (cwV 1 hts g9_X11_best_X10_isTold_391 rfl rfl rfl (by decide +kernel) ⟨Nat.le_of_ble_eq_true rfl, Nat.le_of_ble_eq_true rfl⟩) rfl hl.1 (Nat.le_of_ble_eq_true rfl) dX11_best_5 ⟨Nat.le_of_ble_eq_true rfl, Nat.le_of_ble_eq_true rfl⟩ (fun H locs hP hD hS => ?_)
  have hP : va_P D vwCl [(h0, .inr (11, f0)), (h1, .inr (10, f1))] H := hP
  have hD : va_D A [(h0, .inr (11, f0)), (h1, .inr (10, f1))] := hD
  refine lv_if_ne (tgt := 22) hx hb dX11_best_8 (by decide) (fun c9 => absurd (by decide) c9) (fun _ => ?_)
  obtain ⟨a9, a9r, a9o⟩ := kX.st hX hAE ("IntegerHouse", 383, "no such number was told") (List.mem_of_getElem? (i := 8) rfl)
  exact vx_throwSW (names := ["java/lang/RuntimeException", "java/lang/Exception"]) (A := A) hx hb hl9 hown (by decide +kernel) (by decide +kernel) (hts (.classLink RX11 197 "java/lang/IndexOutOfBoundsException") (o9_X11_best _ (List.mem_of_getElem? (i := 5) rfl))) (hts (.initialized "java/lang/IndexOutOfBoundsException") (o9_X11_best _ (List.mem_of_getElem? (i := 6) rfl))) a9r (vx_hat (L := vx_atS RX11 201 "java/lang/IndexOutOfBoundsException" ["java/lang/RuntimeException", "java/lang/Exception"]) (B := [.castable "java/lang/IndexOutOfBoundsException" "java/lang/IndexOutOfBoundsException", .declares (Bundle.initS "java/lang/RuntimeException"), .declares (Bundle.initS "java/lang/Exception"), .declares (Bundle.initS "java/lang/Throwable")]) (fun w h => hts w (x9_X11_best_0 w h)) (by decide +kernel) (vx_c (va_Nw.use rfl (kX.cast hX "java/lang/IndexOutOfBoundsException" (by decide))) (vx_c (va_Nw.use rfl (kX.decl hX "java/lang/RuntimeException" (by decide))) (vx_c (va_Nw.use rfl (kX.decl hX "java/lang/Exception" (by decide))) (vx_c (va_Nw.use rfl (kX.decl hX "java/lang/Throwable" (by decide))) vx_n))))) (by decide +kernel) (kX.us hX hAE) (kX.ss hX hAE) hS (by rw [hml]; exact hl.1) dX11_best_11 dX11_best_14 dX11_best_15 dX11_best_18 dX11_best_21 (fun x hx => (ht9 x hx).elim) (Nat.le_of_ble_eq_true rfl) (Nat.le_of_ble_eq_true rfl) (Nat.le_of_ble_eq_true rfl) (Nat.le_of_ble_eq_true rfl) hlocks (fun t h1 h2 h3 => k_tx hP hK hD hS t h1 h2 h3) hS.2.2 (Nat.le_of_ble_eq_true rfl) (Nat.le_of_ble_eq_true rfl)
set_option maxHeartbeats 400000000 in
set_option maxRecDepth 100000 in
theorem c_L_best_0 (l : Launch) (E : kE) (D : va_G) (cI cJ cB cZ : ClassId) (h0 : Nat) (x0 : Int32) (h1 : Nat) (f0 : List Value) (h2 : Nat) (f1 : List Value) (e0 : f0[10]? = some (.ref h2)) (e1 : f1[11]? = some (.int 0)) (hl9 : l.stackTraces = false) : kI l E D (kT cI cJ cB cZ) yL_best vW_L_best ({ frames := 7, cells := 1, slots := 6, locals := 103 }) [.ref h0, .int x0, .ref h1] [(h0, .inr (11, f0)), (h2, .inr (10, f1))] (1) [(h0, .inr (11, f0)), (h2, .inr (10, f1))] 1 6 := by
  intro sz
  refine k_metH (cc := cL_best) (maxL := 4) (ret := (some .int)) (hh := [(0, 8, 11, 25)]) (by decide) rfl ?_
  intro p e s m args below meth c s₁ B hml hv
  obtain ⟨rfl, hsz, hP, hK, hD0, hN, hX⟩ := hv
  have hx := B.exec
  have hb := B.bytes
  have hr := B.returns
  have hts := atoms_spec (ws := vW_L_best) B.pre
  have hown : s.vm.findClass RL = some m.cls := findClass_of_methodNamed B.named
  have hlocks := B.notSynchronized
  subst hsz
  have hD := hD0.self (sz := s.heap.size)
  have hAE := k_AE hD0 hX
  generalize hAe : va_A [(h0, .inr (11, f0)), (h2, .inr (10, f1))] s.heap.size = A at hD hAE ⊢
  have hA : ∀ q : Nat, s.heap.size ≤ q → A q := fun q h => by rw [← hAe]; exact Or.inr h
  have hS : va_S A s.heap s.heap [] := va_S.rf
  have hP : va_P D vwCl [(h0, .inr (11, f0)), (h2, .inr (10, f1))] s.heap := hP
  have hl := lv_entry ([.ref h0, .int x0, .ref h1] : List Value) (n := 4) (Nat.le_of_ble_eq_true rfl)
  rw [lg_entry_eq]
  generalize (lg_sl ([.ref h0, .int x0, .ref h1]) ++ List.replicate (4 - (lg_sl ([.ref h0, .int x0, .ref h1])).length) Slot.unset).toArray = ls at hl ⊢
  have hl : lv_has ls 4 [(0, .ref h0), (1, .int x0), (2, .ref h1)] := hl
  refine lv_aload_n hx hb dL_best_0 rfl (lv_at hl 2 rfl) ?_
  refine lv_iconst (v := 0) hx hb dL_best_1 (by decide) ?_
  refine lv_aload_n hx hb dL_best_2 rfl (lv_at hl 0 rfl) ?_
  refine lv_iload_n hx hb dL_best_3 rfl (lv_at hl 1 rfl) ?_
  refine k_cTl (As := [.int x0]) (rest := [.int 0, .ref h1]) (wc := [(h0, .inr (11, f0)), (h2, .inr (10, f1))]) (wr := []) ⟨hx, hb, hml, hown, hts⟩ hN hX hAE hK hP hD hS hA [0, 1] [] (ci := 11) rfl rfl rfl rfl (by decide +kernel) (by decide +kernel) (by decide +kernel) (c_X11_best_0 l E D cI cJ cB cZ h0 x0 f0 h2 f1 e0 e1 hl9) (cwV 1 hts g9_L_best_X11_best_44 rfl rfl rfl (by decide +kernel) ⟨Nat.le_of_ble_eq_true rfl, Nat.le_of_ble_eq_true rfl⟩) rfl hl.1 (Nat.le_of_ble_eq_true rfl) dL_best_4 ⟨Nat.le_of_ble_eq_true rfl, Nat.le_of_ble_eq_true rfl⟩ (fun q9 ce H locs hP hD hS hce hcv hcl => ?_)
  have hP : va_P D vwCl [(h0, .inr (11, f0)), (h2, .inr (10, f1))] H := hP
  have hD : va_D A [(h0, .inr (11, f0)), (h2, .inr (10, f1))] := hD
  refine vx_catch (own := RL) (name := "java/lang/IndexOutOfBoundsException") hown [] ⟨0, 8, 11, 25⟩ [] (vx_table (x := yL_best) B (hts _ List.mem_cons_self)) (fun z hz => absurd hz List.not_mem_nil) (by decide) (by decide) (hts (.classLink RL 25 "java/lang/IndexOutOfBoundsException") (o9_L_best _ (List.mem_of_getElem? (i := 4) rfl))) (va_Nw.use rfl (kX.cast hX "java/lang/IndexOutOfBoundsException" (by decide))) hce hcv hcl ?_
  refine W.eq (g2 := F0 m 11 ls [.ref q9]) rfl ?_
  refine W.widen (k := 1) (n := 6) (Nat.le_of_ble_eq_true rfl) (Nat.le_of_ble_eq_true rfl) ?_
  refine lv_astore_n (lv' := [(3, .ref q9), (0, .ref h0), (1, .int x0), (2, .ref h1)]) hx hb dL_best_11 rfl hl (by decide) rfl (fun ls hl => ?_)
  refine lv_iconst (v := 1) hx hb dL_best_12 (by decide) ?_
  exact W.iret (v := 1) hx hb hr (fun t ht hW => ⟨⟨1, (), rfl, rfl, kB_mk ht hW hP hK hD⟩, hS.F ht⟩) hS.2.2 dL_best_13
set_option maxHeartbeats 400000000 in
set_option maxRecDepth 100000 in
theorem c_X12_best_0 (l : Launch) (E : kE) (D : va_G) (cI cJ cB cZ : ClassId) (h0 : Nat) (x0 : Int32) (f0 : List Value) (e0 : f0[176]? = some (.int 0)) (e1 : f0[0]? = some (.int 0)) : kJ l E D (kT cI cJ cB cZ) yX12_best vW_X12_best ({ frames := 0, cells := 0, slots := 0, locals := 0 }) [.ref h0, .int x0] [(h0, .inr (12, f0))] (0) [(h0, .inr (12, (f0.set 0 (.int 1))))] 0 0 := by
  intro sz
  refine Met.ofW (cc := cX12_best) (maxL := 2) (ret := (some .long)) (by decide) rfl ?_
  intro p e s m args below meth c s₁ B hml hv
  obtain ⟨rfl, hsz, hP, hK, hD0, hN, hX⟩ := hv
  have hx := B.exec
  have hb := B.bytes
  have hr := B.returns
  have hts := atoms_spec (ws := vW_X12_best) B.pre
  have hown : s.vm.findClass RX12 = some m.cls := findClass_of_methodNamed B.named
  have hlocks := B.notSynchronized
  have hin12 : ∀ w ∈ wsX120, w ∈ vW_X12_best := u9_X12_best_wsX120
  subst hsz
  have hD := hD0.self (sz := s.heap.size)
  have hAE := k_AE hD0 hX
  generalize hAe : va_A [(h0, .inr (12, f0))] s.heap.size = A at hD hAE ⊢
  have hA : ∀ q : Nat, s.heap.size ≤ q → A q := fun q h => by rw [← hAe]; exact Or.inr h
  have hS : va_S A s.heap s.heap [] := va_S.rf
  have hP : va_P D vwCl [(h0, .inr (12, f0))] s.heap := hP
  have hl := lv_entry ([.ref h0, .int x0] : List Value) (n := 2) (Nat.le_of_ble_eq_true rfl)
  rw [lg_entry_eq]
  generalize (lg_sl ([.ref h0, .int x0]) ++ List.replicate (2 - (lg_sl ([.ref h0, .int x0])).length) Slot.unset).toArray = ls at hl ⊢
  have hl : lv_has ls 2 [(0, .ref h0), (1, .int x0)] := hl
  refine lv_aload_n hx hb dX12_best_0 rfl (lv_at hl 0 rfl) ?_
  refine lv_aload_n hx hb dX12_best_1 rfl (lv_at hl 0 rfl) ?_
  refine k_get (D := D) (ci := 12) (v := .int 0) (N := 195) hx hb hts hin12 hown hK hP 0 rfl rfl (by decide) f9_12_176 (hts (.fieldLink RX12 1214 "IntegerHouseModel" "searched" "Z") (o9_X12_best _ (List.mem_of_getElem? (i := 0) rfl))) e0 dX12_best_2 ?_
  refine lv_if_eq (tgt := 24) hx hb dX12_best_5 (by decide) (fun _ => ?_) (fun c9 => absurd (by decide) c9)
  refine lv_iconst (v := 1) hx hb dX12_best_24 (by decide) ?_
  refine k_put (D := D) (ci := 12) (v := .int 1) (ty := .int) (N := 195) hx hb hts hin12 tyX12 tyX12_ok nmX12 hown hK hP hD hS 0 rfl rfl (by decide) f9_12_0 (hts (.fieldLink RX12 3 "IntegerHouseModel" "thrown" "I") (o9_X12_best _ (List.mem_of_getElem? (i := 1) rfl))) rfl pd_2 rfl rfl (k_len e1) dX12_best_25 (fun H locs hP hD hS => ?_)
  have hP : va_P D vwCl [(h0, .inr (12, (f0.set 0 (.int 1))))] H := hP
  have hD : va_D A [(h0, .inr (12, (f0.set 0 (.int 1))))] := hD
  refine lv_aload_n hx hb dX12_best_28 rfl (lv_at hl 0 rfl) ?_
  refine k_get (D := D) (ci := 12) (v := .int 1) (N := 195) hx hb hts hin12 hown hK hP 0 rfl rfl (by decide) f9_12_0 (hts (.fieldLink RX12 3 "IntegerHouseModel" "thrown" "I") (o9_X12_best _ (List.mem_of_getElem? (i := 1) rfl))) (k_set e1) dX12_best_29 ?_
  refine lv_if_le (tgt := 37) hx hb dX12_best_32 (by decide) (fun c9 => absurd c9 (by decide)) (fun _ => ?_)
  refine lv_lconst (v := 0) hx hb dX12_best_35 (by decide) ?_
  exact W.lret (v := 0) hx hb hr (fun t ht hW => ⟨⟨0, (), rfl, rfl, kB_mk ht hW hP hK hD⟩, hS.F ht⟩) hS.2.2 dX12_best_36
set_option maxHeartbeats 400000000 in
set_option maxRecDepth 100000 in
theorem c_X3_scan_1 (l : Launch) (E : kE) (D : va_G) (cI cJ cB cZ : ClassId) (h0 : Nat) (h1 : Nat) (f0 : List Value) (h2 : Nat) (h3 : Nat) (g0 : Nat → Int32) (h4 : Nat) (g1 : Nat → Int32) (e0 : f0[6]? = some (.ref h2)) (e1 : f0[7]? = some (.int 0)) (e2 : f0[8]? = some (.int 0)) (e3 : f0[5]? = some (.int 0)) (e4 : f0[1]? = some (.ref h3)) (e5 : f0[2]? = some (.ref h4)) : kV l E D (kT cI cJ cB cZ) yX3_scan vW_X3_scan ({ frames := 1, cells := 0, slots := 0, locals := 22 }) [.ref h0, .ref h1, .int 0, .int 0, .int 1] [(h0, .inr (3, f0)), (h3, .inl (cI, 2001, .inl g0)), (h4, .inl (cI, 2001, .inl g1))] (fun _ : Unit => [(h0, .inr (3, ((((f0.set 6 (.ref h1)).set 7 (.int 0)).set 8 (.int 0)).set 5 (.int 0)))), (h3, .inl (cI, 2001, .inl (upd g0 0 0))), (h4, .inl (cI, 2001, .inl (upd g1 0 0)))]) 0 0 := by
  intro sz
  refine Met.ofW (cc := cX3_scan) (maxL := 9) (ret := none) (by decide) rfl ?_
  intro p e s m args below meth c s₁ B hml hv
  obtain ⟨rfl, hsz, hP, hK, hD0, hN, hX⟩ := hv
  have hx := B.exec
  have hb := B.bytes
  have hr := B.returns
  have hts := atoms_spec (ws := vW_X3_scan) B.pre
  have hown : s.vm.findClass RX3 = some m.cls := findClass_of_methodNamed B.named
  have hlocks := B.notSynchronized
  have hin3 : ∀ w ∈ wsX30, w ∈ vW_X3_scan := u9_X3_scan_wsX30
  subst hsz
  have hD := hD0.self (sz := s.heap.size)
  have hAE := k_AE hD0 hX
  generalize hAe : va_A [(h0, .inr (3, f0)), (h3, .inl (cI, 2001, .inl g0)), (h4, .inl (cI, 2001, .inl g1))] s.heap.size = A at hD hAE ⊢
  have hA : ∀ q : Nat, s.heap.size ≤ q → A q := fun q h => by rw [← hAe]; exact Or.inr h
  have hS : va_S A s.heap s.heap [] := va_S.rf
  have hP : va_P D vwCl [(h0, .inr (3, f0)), (h3, .inl (cI, 2001, .inl g0)), (h4, .inl (cI, 2001, .inl g1))] s.heap := hP
  have hl := lv_entry ([.ref h0, .ref h1, .int 0, .int 0, .int 1] : List Value) (n := 9) (Nat.le_of_ble_eq_true rfl)
  rw [lg_entry_eq]
  generalize (lg_sl ([.ref h0, .ref h1, .int 0, .int 0, .int 1]) ++ List.replicate (9 - (lg_sl ([.ref h0, .ref h1, .int 0, .int 0, .int 1])).length) Slot.unset).toArray = ls at hl ⊢
  have hl : lv_has ls 9 [(0, .ref h0), (1, .ref h1), (2, .int 0), (3, .int 0), (4, .int 1)] := hl
  refine lv_aload_n hx hb dX3_scan_0 rfl (lv_at hl 0 rfl) ?_
  refine lv_aload_n hx hb dX3_scan_1 rfl (lv_at hl 1 rfl) ?_
  refine k_put (D := D) (ci := 3) (v := .ref h1) (ty := (.array .byte)) (N := 9) hx hb hts hin3 tyX3 tyX3_ok nmX3 hown hK hP hD hS 0 rfl rfl (by decide) f9_3_6 (hts (.fieldLink RX3 28 "IntegerHouse$Lexer" "source" "[B") (o9_X3_scan _ (List.mem_of_getElem? (i := 0) rfl))) rfl pd_0 rfl rfl (k_len e0) dX3_scan_2 (fun H locs hP hD hS => ?_)
  have hP : va_P D vwCl [(h0, .inr (3, (f0.set 6 (.ref h1)))), (h3, .inl (cI, 2001, .inl g0)), (h4, .inl (cI, 2001, .inl g1))] H := hP
  have hD : va_D A [(h0, .inr (3, (f0.set 6 (.ref h1)))), (h3, .inl (cI, 2001, .inl g0)), (h4, .inl (cI, 2001, .inl g1))] := hD
  refine lv_aload_n hx hb dX3_scan_5 rfl (lv_at hl 0 rfl) ?_
  refine lv_iload_n hx hb dX3_scan_6 rfl (lv_at hl 2 rfl) ?_
  refine k_put (D := D) (ci := 3) (v := .int 0) (ty := .int) (N := 9) hx hb hts hin3 tyX3 tyX3_ok nmX3 hown hK hP hD hS 0 rfl rfl (by decide) f9_3_7 (hts (.fieldLink RX3 55 "IntegerHouse$Lexer" "begin" "I") (o9_X3_scan _ (List.mem_of_getElem? (i := 1) rfl))) rfl pd_2 rfl rfl (k_len (k_ne (by decide) e1)) dX3_scan_7 (fun H locs hP hD hS => ?_)
  have hP : va_P D vwCl [(h0, .inr (3, ((f0.set 6 (.ref h1)).set 7 (.int 0)))), (h3, .inl (cI, 2001, .inl g0)), (h4, .inl (cI, 2001, .inl g1))] H := hP
  have hD : va_D A [(h0, .inr (3, ((f0.set 6 (.ref h1)).set 7 (.int 0)))), (h3, .inl (cI, 2001, .inl g0)), (h4, .inl (cI, 2001, .inl g1))] := hD
  refine lv_aload_n hx hb dX3_scan_10 rfl (lv_at hl 0 rfl) ?_
  refine lv_iload_n hx hb dX3_scan_11 rfl (lv_at hl 2 rfl) ?_
  refine lv_iload_n hx hb dX3_scan_12 rfl (lv_at hl 3 rfl) ?_
  refine lv_iadd hx hb dX3_scan_13 ?_
  refine k_topi (y := 0) (by decide) ?_
  refine k_put (D := D) (ci := 3) (v := .int 0) (ty := .int) (N := 9) hx hb hts hin3 tyX3 tyX3_ok nmX3 hown hK hP hD hS 0 rfl rfl (by decide) f9_3_8 (hts (.fieldLink RX3 52 "IntegerHouse$Lexer" "stop" "I") (o9_X3_scan _ (List.mem_of_getElem? (i := 2) rfl))) rfl pd_2 rfl rfl (k_len (k_ne (by decide) (k_ne (by decide) e2))) dX3_scan_14 (fun H locs hP hD hS => ?_)
  have hP : va_P D vwCl [(h0, .inr (3, (((f0.set 6 (.ref h1)).set 7 (.int 0)).set 8 (.int 0)))), (h3, .inl (cI, 2001, .inl g0)), (h4, .inl (cI, 2001, .inl g1))] H := hP
  have hD : va_D A [(h0, .inr (3, (((f0.set 6 (.ref h1)).set 7 (.int 0)).set 8 (.int 0)))), (h3, .inl (cI, 2001, .inl g0)), (h4, .inl (cI, 2001, .inl g1))] := hD
  refine lv_aload_n hx hb dX3_scan_17 rfl (lv_at hl 0 rfl) ?_
  refine lv_iconst (v := 0) hx hb dX3_scan_18 (by decide) ?_
  refine k_put (D := D) (ci := 3) (v := .int 0) (ty := .int) (N := 9) hx hb hts hin3 tyX3 tyX3_ok nmX3 hown hK hP hD hS 0 rfl rfl (by decide) f9_3_5 (hts (.fieldLink RX3 48 "IntegerHouse$Lexer" "size" "I") (o9_X3_scan _ (List.mem_of_getElem? (i := 3) rfl))) rfl pd_2 rfl rfl (k_len (k_ne (by decide) (k_ne (by decide) (k_ne (by decide) e3)))) dX3_scan_19 (fun H locs hP hD hS => ?_)
  have hP : va_P D vwCl [(h0, .inr (3, ((((f0.set 6 (.ref h1)).set 7 (.int 0)).set 8 (.int 0)).set 5 (.int 0)))), (h3, .inl (cI, 2001, .inl g0)), (h4, .inl (cI, 2001, .inl g1))] H := hP
  have hD : va_D A [(h0, .inr (3, ((((f0.set 6 (.ref h1)).set 7 (.int 0)).set 8 (.int 0)).set 5 (.int 0)))), (h3, .inl (cI, 2001, .inl g0)), (h4, .inl (cI, 2001, .inl g1))] := hD
  refine lv_aload_n hx hb dX3_scan_22 rfl (lv_at hl 0 rfl) ?_
  refine lv_iload_n hx hb dX3_scan_23 rfl (lv_at hl 2 rfl) ?_
  refine k_cVi (As := [.int 0]) (rest := []) (wc := [(h0, .inr (3, ((((f0.set 6 (.ref h1)).set 7 (.int 0)).set 8 (.int 0)).set 5 (.int 0))))]) (wr := [(h3, .inl (cI, 2001, .inl g0)), (h4, .inl (cI, 2001, .inl g1))]) (w1 := [(h0, .inr (3, ((((f0.set 6 (.ref h1)).set 7 (.int 0)).set 8 (.int 0)).set 5 (.int 0))))]) ⟨hx, hb, hml, hown, hts⟩ hN hX hAE hK hP hD hS hA [0] [1, 2] (ci := 3) rfl rfl rfl rfl (by decide +kernel) (by decide +kernel) (by decide +kernel) (c_X3_behindBlanks_0 l E D cI cJ cB cZ h0 (((((f0.set 6 (.ref h1)).set 7 (.int 0)).set 8 (.int 0)).set 5 (.int 0))) (k_ne (by decide) (k_set (k_ne (by decide) (k_ne (by decide) e2))))) (cwV 1 hts g9_X3_scan_X3_behindBlanks_59 rfl rfl rfl (by decide +kernel) ⟨Nat.le_of_ble_eq_true rfl, Nat.le_of_ble_eq_true rfl⟩) rfl hl.1 (Nat.le_of_ble_eq_true rfl) dX3_scan_24 ⟨Nat.le_of_ble_eq_true rfl, Nat.le_of_ble_eq_true rfl⟩ (fun H locs hP hD hS => ?_)
  have hP : va_P D vwCl [(h3, .inl (cI, 2001, .inl g0)), (h4, .inl (cI, 2001, .inl g1)), (h0, .inr (3, ((((f0.set 6 (.ref h1)).set 7 (.int 0)).set 8 (.int 0)).set 5 (.int 0))))] H := hP
  have hD : va_D A [(h3, .inl (cI, 2001, .inl g0)), (h4, .inl (cI, 2001, .inl g1)), (h0, .inr (3, ((((f0.set 6 (.ref h1)).set 7 (.int 0)).set 8 (.int 0)).set 5 (.int 0))))] := hD
  refine lv_istore (lv' := [(5, .int 0), (0, .ref h0), (1, .ref h1), (2, .int 0), (3, .int 0), (4, .int 1)]) hx hb dX3_scan_27 hl (by decide) rfl (fun ls hl => ?_)
  refine lv_iload hx hb dX3_scan_29 (lv_at hl 5 rfl) ?_
  refine lv_if_eq (tgt := 39) hx hb dX3_scan_31 (by decide) (fun c9 => absurd c9 (by decide)) (fun _ => ?_)
  refine lv_bipush (v := 20) hx hb dX3_scan_34 (by decide) ?_
  refine lv_goto (tgt := 41) hx hb dX3_scan_36 (by decide) ?_
  refine lv_istore (lv' := [(6, .int 20), (5, .int 0), (0, .ref h0), (1, .ref h1), (2, .int 0), (3, .int 0), (4, .int 1)]) hx hb dX3_scan_41 hl (by decide) rfl (fun ls hl => ?_)
  refine lv_iconst (v := 0) hx hb dX3_scan_43 (by decide) ?_
  refine lv_istore (lv' := [(7, .int 0), (6, .int 20), (5, .int 0), (0, .ref h0), (1, .ref h1), (2, .int 0), (3, .int 0), (4, .int 1)]) hx hb dX3_scan_44 hl (by decide) rfl (fun ls hl => ?_)
  refine lv_iload hx hb dX3_scan_46 (lv_at hl 0 rfl) ?_
  refine lv_sipush (v := 2000) hx hb dX3_scan_48 (by decide) ?_
  refine lv_icmp_ge (tgt := 179) hx hb dX3_scan_51 (by decide) (fun c9 => absurd c9 (by decide)) (fun _ => ?_)
  refine lv_iload hx hb dX3_scan_54 (lv_at hl 2 rfl) ?_
  refine lv_aload_n hx hb dX3_scan_56 rfl (lv_at hl 3 rfl) ?_
  refine k_get (D := D) (ci := 3) (v := .int 0) (N := 9) hx hb hts hin3 hown hK hP 2 rfl rfl (by decide) f9_3_8 (hts (.fieldLink RX3 52 "IntegerHouse$Lexer" "stop" "I") (o9_X3_scan _ (List.mem_of_getElem? (i := 2) rfl))) (k_ne (by decide) (k_set (k_ne (by decide) (k_ne (by decide) e2)))) dX3_scan_57 ?_
  refine lv_icmp_ge (tgt := 179) hx hb dX3_scan_60 (by decide) (fun _ => ?_) (fun c9 => absurd (by decide) c9)
  refine lv_aload_n hx hb dX3_scan_179 rfl (lv_at hl 3 rfl) ?_
  refine k_get (D := D) (ci := 3) (v := .ref h3) (N := 9) hx hb hts hin3 hown hK hP 2 rfl rfl (by decide) f9_3_1 (hts (.fieldLink RX3 15 "IntegerHouse$Lexer" "kinds" "[I") (o9_X3_scan _ (List.mem_of_getElem? (i := 8) rfl))) (k_ne (by decide) (k_ne (by decide) (k_ne (by decide) (k_ne (by decide) e4)))) dX3_scan_180 ?_
  refine lv_aload_n hx hb dX3_scan_183 rfl (lv_at hl 3 rfl) ?_
  refine k_get (D := D) (ci := 3) (v := .int 0) (N := 9) hx hb hts hin3 hown hK hP 2 rfl rfl (by decide) f9_3_5 (hts (.fieldLink RX3 48 "IntegerHouse$Lexer" "size" "I") (o9_X3_scan _ (List.mem_of_getElem? (i := 3) rfl))) (k_set (k_ne (by decide) (k_ne (by decide) (k_ne (by decide) e3)))) dX3_scan_184 ?_
  refine lv_iconst (v := 0) hx hb dX3_scan_187 (by decide) ?_
  refine va_iast hx hb hK hP hD hS 0 0 rfl rfl (k_in (by decide)) dX3_scan_188 (fun H locs hP hD hS => ?_)
  have hP : va_P D vwCl [(h3, .inl (cI, 2001, .inl (upd g0 0 0))), (h4, .inl (cI, 2001, .inl g1)), (h0, .inr (3, ((((f0.set 6 (.ref h1)).set 7 (.int 0)).set 8 (.int 0)).set 5 (.int 0))))] H := hP
  have hD : va_D A [(h3, .inl (cI, 2001, .inl (upd g0 0 0))), (h4, .inl (cI, 2001, .inl g1)), (h0, .inr (3, ((((f0.set 6 (.ref h1)).set 7 (.int 0)).set 8 (.int 0)).set 5 (.int 0))))] := hD
  refine lv_aload_n hx hb dX3_scan_189 rfl (lv_at hl 3 rfl) ?_
  refine k_get (D := D) (ci := 3) (v := .ref h4) (N := 9) hx hb hts hin3 hown hK hP 2 rfl rfl (by decide) f9_3_2 (hts (.fieldLink RX3 19 "IntegerHouse$Lexer" "spots" "[I") (o9_X3_scan _ (List.mem_of_getElem? (i := 9) rfl))) (k_ne (by decide) (k_ne (by decide) (k_ne (by decide) (k_ne (by decide) e5)))) dX3_scan_190 ?_
  refine lv_aload_n hx hb dX3_scan_193 rfl (lv_at hl 3 rfl) ?_
  refine k_get (D := D) (ci := 3) (v := .int 0) (N := 9) hx hb hts hin3 hown hK hP 2 rfl rfl (by decide) f9_3_5 (hts (.fieldLink RX3 48 "IntegerHouse$Lexer" "size" "I") (o9_X3_scan _ (List.mem_of_getElem? (i := 3) rfl))) (k_set (k_ne (by decide) (k_ne (by decide) (k_ne (by decide) e3)))) dX3_scan_194 ?_
  refine lv_iload_n hx hb dX3_scan_197 rfl (lv_at hl 6 rfl) ?_
  refine va_iast hx hb hK hP hD hS 1 0 rfl rfl (k_in (by decide)) dX3_scan_198 (fun H locs hP hD hS => ?_)
  have hP : va_P D vwCl [(h3, .inl (cI, 2001, .inl (upd g0 0 0))), (h4, .inl (cI, 2001, .inl (upd g1 0 0))), (h0, .inr (3, ((((f0.set 6 (.ref h1)).set 7 (.int 0)).set 8 (.int 0)).set 5 (.int 0))))] H := hP
  have hD : va_D A [(h3, .inl (cI, 2001, .inl (upd g0 0 0))), (h4, .inl (cI, 2001, .inl (upd g1 0 0))), (h0, .inr (3, ((((f0.set 6 (.ref h1)).set 7 (.int 0)).set 8 (.int 0)).set 5 (.int 0))))] := hD
  have hP := hP.sub (ws' := [(h0, .inr (3, ((((f0.set 6 (.ref h1)).set 7 (.int 0)).set 8 (.int 0)).set 5 (.int 0)))), (h3, .inl (cI, 2001, .inl (upd g0 0 0))), (h4, .inl (cI, 2001, .inl (upd g1 0 0)))]) [2, 0, 1] rfl
  have hD := hD.sub (ws' := [(h0, .inr (3, ((((f0.set 6 (.ref h1)).set 7 (.int 0)).set 8 (.int 0)).set 5 (.int 0)))), (h3, .inl (cI, 2001, .inl (upd g0 0 0))), (h4, .inl (cI, 2001, .inl (upd g1 0 0)))]) [2, 0, 1] (by decide +kernel) rfl
  exact W.vret hx hb hr (fun t ht hW => ⟨⟨(), rfl, trivial, kB_mk ht hW hP hK hD⟩, hS.F ht⟩) hS.2.2 dX3_scan_199
set_option maxHeartbeats 400000000 in
set_option maxRecDepth 100000 in
theorem c_X3_kindAt_0 (l : Launch) (E : kE) (D : va_G) (cI cJ cB cZ : ClassId) (h0 : Nat) (f0 : List Value) (e0 : f0[5]? = some (.int 0)) : kI l E D (kT cI cJ cB cZ) yX3_kindAt vW_X3_kindAt ({ frames := 0, cells := 0, slots := 0, locals := 0 }) [.ref h0, .int 0] [(h0, .inr (3, f0))] (0) [(h0, .inr (3, f0))] 0 0 := by
  intro sz
  refine Met.ofW (cc := cX3_kindAt) (maxL := 2) (ret := (some .int)) (by decide) rfl ?_
  intro p e s m args below meth c s₁ B hml hv
  obtain ⟨rfl, hsz, hP, hK, hD0, hN, hX⟩ := hv
  have hx := B.exec
  have hb := B.bytes
  have hr := B.returns
  have hts := atoms_spec (ws := vW_X3_kindAt) B.pre
  have hown : s.vm.findClass RX3 = some m.cls := findClass_of_methodNamed B.named
  have hlocks := B.notSynchronized
  have hin3 : ∀ w ∈ wsX30, w ∈ vW_X3_kindAt := u9_X3_kindAt_wsX30
  subst hsz
  have hD := hD0.self (sz := s.heap.size)
  have hAE := k_AE hD0 hX
  generalize hAe : va_A [(h0, .inr (3, f0))] s.heap.size = A at hD hAE ⊢
  have hA : ∀ q : Nat, s.heap.size ≤ q → A q := fun q h => by rw [← hAe]; exact Or.inr h
  have hS : va_S A s.heap s.heap [] := va_S.rf
  have hP : va_P D vwCl [(h0, .inr (3, f0))] s.heap := hP
  have hl := lv_entry ([.ref h0, .int 0] : List Value) (n := 2) (Nat.le_of_ble_eq_true rfl)
  rw [lg_entry_eq]
  generalize (lg_sl ([.ref h0, .int 0]) ++ List.replicate (2 - (lg_sl ([.ref h0, .int 0])).length) Slot.unset).toArray = ls at hl ⊢
  have hl : lv_has ls 2 [(0, .ref h0), (1, .int 0)] := hl
  refine lv_iload_n hx hb dX3_kindAt_0 rfl (lv_at hl 1 rfl) ?_
  refine lv_if_lt (tgt := 21) hx hb dX3_kindAt_1 (by decide) (fun c9 => absurd c9 (by decide)) (fun _ => ?_)
  refine lv_iload_n hx hb dX3_kindAt_4 rfl (lv_at hl 1 rfl) ?_
  refine lv_aload_n hx hb dX3_kindAt_5 rfl (lv_at hl 0 rfl) ?_
  refine k_get (D := D) (ci := 3) (v := .int 0) (N := 9) hx hb hts hin3 hown hK hP 0 rfl rfl (by decide) f9_3_5 (hts (.fieldLink RX3 48 "IntegerHouse$Lexer" "size" "I") (o9_X3_kindAt _ (List.mem_of_getElem? (i := 0) rfl))) e0 dX3_kindAt_6 ?_
  refine lv_icmp_ge (tgt := 21) hx hb dX3_kindAt_9 (by decide) (fun _ => ?_) (fun c9 => absurd (by decide) c9)
  refine lv_iconst (v := 0) hx hb dX3_kindAt_21 (by decide) ?_
  exact W.iret (v := 0) hx hb hr (fun t ht hW => ⟨⟨0, (), rfl, rfl, kB_mk ht hW hP hK hD⟩, hS.F ht⟩) hS.2.2 dX3_kindAt_22
set_option maxHeartbeats 400000000 in
set_option maxRecDepth 100000 in
theorem c_X7_lineNumber_0 (l : Launch) (E : kE) (D : va_G) (cI cJ cB cZ : ClassId) (h0 : Nat) (f0 : List Value)  : kJ l E D (kT cI cJ cB cZ) yX7_lineNumber vW_X7_lineNumber ({ frames := 0, cells := 0, slots := 0, locals := 0 }) [.ref h0, .int 0, .int 0] [(h0, .inr (7, f0))] (0) [(h0, .inr (7, f0))] 0 0 := by
  intro sz
  refine Met.ofW (cc := cX7_lineNumber) (maxL := 3) (ret := (some .long)) (by decide) rfl ?_
  intro p e s m args below meth c s₁ B hml hv
  obtain ⟨rfl, hsz, hP, hK, hD0, hN, hX⟩ := hv
  have hx := B.exec
  have hb := B.bytes
  have hr := B.returns
  have hts := atoms_spec (ws := vW_X7_lineNumber) B.pre
  have hown : s.vm.findClass RX7 = some m.cls := findClass_of_methodNamed B.named
  have hlocks := B.notSynchronized
  subst hsz
  have hD := hD0.self (sz := s.heap.size)
  have hAE := k_AE hD0 hX
  generalize hAe : va_A [(h0, .inr (7, f0))] s.heap.size = A at hD hAE ⊢
  have hA : ∀ q : Nat, s.heap.size ≤ q → A q := fun q h => by rw [← hAe]; exact Or.inr h
  have hS : va_S A s.heap s.heap [] := va_S.rf
  have hP : va_P D vwCl [(h0, .inr (7, f0))] s.heap := hP
  have hl := lv_entry ([.ref h0, .int 0, .int 0] : List Value) (n := 3) (Nat.le_of_ble_eq_true rfl)
  rw [lg_entry_eq]
  generalize (lg_sl ([.ref h0, .int 0, .int 0]) ++ List.replicate (3 - (lg_sl ([.ref h0, .int 0, .int 0])).length) Slot.unset).toArray = ls at hl ⊢
  have hl : lv_has ls 3 [(0, .ref h0), (1, .int 0), (2, .int 0)] := hl
  refine lv_iload_n hx hb dX7_lineNumber_0 rfl (lv_at hl 1 rfl) ?_
  refine lv_iconst (v := 1) hx hb dX7_lineNumber_1 (by decide) ?_
  refine lv_icmp_lt (tgt := 36) hx hb dX7_lineNumber_2 (by decide) (fun _ => ?_) (fun c9 => absurd (by decide) c9)
  refine lv_lconst (v := 0) hx hb dX7_lineNumber_36 (by decide) ?_
  exact W.lret (v := 0) hx hb hr (fun t ht hW => ⟨⟨0, (), rfl, rfl, kB_mk ht hW hP hK hD⟩, hS.F ht⟩) hS.2.2 dX7_lineNumber_37
set_option maxHeartbeats 400000000 in
set_option maxRecDepth 100000 in
theorem c_X7_lineNumber_1 (l : Launch) (E : kE) (D : va_G) (cI cJ cB cZ : ClassId) (h0 : Nat) (f0 : List Value)  : kJ l E D (kT cI cJ cB cZ) yX7_lineNumber vW_X7_lineNumber ({ frames := 0, cells := 0, slots := 0, locals := 0 }) [.ref h0, .int 0, .int 1] [(h0, .inr (7, f0))] (0) [(h0, .inr (7, f0))] 0 0 := by
  intro sz
  refine Met.ofW (cc := cX7_lineNumber) (maxL := 3) (ret := (some .long)) (by decide) rfl ?_
  intro p e s m args below meth c s₁ B hml hv
  obtain ⟨rfl, hsz, hP, hK, hD0, hN, hX⟩ := hv
  have hx := B.exec
  have hb := B.bytes
  have hr := B.returns
  have hts := atoms_spec (ws := vW_X7_lineNumber) B.pre
  have hown : s.vm.findClass RX7 = some m.cls := findClass_of_methodNamed B.named
  have hlocks := B.notSynchronized
  subst hsz
  have hD := hD0.self (sz := s.heap.size)
  have hAE := k_AE hD0 hX
  generalize hAe : va_A [(h0, .inr (7, f0))] s.heap.size = A at hD hAE ⊢
  have hA : ∀ q : Nat, s.heap.size ≤ q → A q := fun q h => by rw [← hAe]; exact Or.inr h
  have hS : va_S A s.heap s.heap [] := va_S.rf
  have hP : va_P D vwCl [(h0, .inr (7, f0))] s.heap := hP
  have hl := lv_entry ([.ref h0, .int 0, .int 1] : List Value) (n := 3) (Nat.le_of_ble_eq_true rfl)
  rw [lg_entry_eq]
  generalize (lg_sl ([.ref h0, .int 0, .int 1]) ++ List.replicate (3 - (lg_sl ([.ref h0, .int 0, .int 1])).length) Slot.unset).toArray = ls at hl ⊢
  have hl : lv_has ls 3 [(0, .ref h0), (1, .int 0), (2, .int 1)] := hl
  refine lv_iload_n hx hb dX7_lineNumber_0 rfl (lv_at hl 1 rfl) ?_
  refine lv_iconst (v := 1) hx hb dX7_lineNumber_1 (by decide) ?_
  refine lv_icmp_lt (tgt := 36) hx hb dX7_lineNumber_2 (by decide) (fun _ => ?_) (fun c9 => absurd (by decide) c9)
  refine lv_lconst (v := 0) hx hb dX7_lineNumber_36 (by decide) ?_
  exact W.lret (v := 0) hx hb hr (fun t ht hW => ⟨⟨0, (), rfl, rfl, kB_mk ht hW hP hK hD⟩, hS.F ht⟩) hS.2.2 dX7_lineNumber_37
set_option maxHeartbeats 400000000 in
set_option maxRecDepth 100000 in
theorem c_X7_lineNumber_2 (l : Launch) (E : kE) (D : va_G) (cI cJ cB cZ : ClassId) (h0 : Nat) (f0 : List Value)  : kJ l E D (kT cI cJ cB cZ) yX7_lineNumber vW_X7_lineNumber ({ frames := 0, cells := 0, slots := 0, locals := 0 }) [.ref h0, .int 0, .int 2] [(h0, .inr (7, f0))] (0) [(h0, .inr (7, f0))] 0 0 := by
  intro sz
  refine Met.ofW (cc := cX7_lineNumber) (maxL := 3) (ret := (some .long)) (by decide) rfl ?_
  intro p e s m args below meth c s₁ B hml hv
  obtain ⟨rfl, hsz, hP, hK, hD0, hN, hX⟩ := hv
  have hx := B.exec
  have hb := B.bytes
  have hr := B.returns
  have hts := atoms_spec (ws := vW_X7_lineNumber) B.pre
  have hown : s.vm.findClass RX7 = some m.cls := findClass_of_methodNamed B.named
  have hlocks := B.notSynchronized
  subst hsz
  have hD := hD0.self (sz := s.heap.size)
  have hAE := k_AE hD0 hX
  generalize hAe : va_A [(h0, .inr (7, f0))] s.heap.size = A at hD hAE ⊢
  have hA : ∀ q : Nat, s.heap.size ≤ q → A q := fun q h => by rw [← hAe]; exact Or.inr h
  have hS : va_S A s.heap s.heap [] := va_S.rf
  have hP : va_P D vwCl [(h0, .inr (7, f0))] s.heap := hP
  have hl := lv_entry ([.ref h0, .int 0, .int 2] : List Value) (n := 3) (Nat.le_of_ble_eq_true rfl)
  rw [lg_entry_eq]
  generalize (lg_sl ([.ref h0, .int 0, .int 2]) ++ List.replicate (3 - (lg_sl ([.ref h0, .int 0, .int 2])).length) Slot.unset).toArray = ls at hl ⊢
  have hl : lv_has ls 3 [(0, .ref h0), (1, .int 0), (2, .int 2)] := hl
  refine lv_iload_n hx hb dX7_lineNumber_0 rfl (lv_at hl 1 rfl) ?_
  refine lv_iconst (v := 1) hx hb dX7_lineNumber_1 (by decide) ?_
  refine lv_icmp_lt (tgt := 36) hx hb dX7_lineNumber_2 (by decide) (fun _ => ?_) (fun c9 => absurd (by decide) c9)
  refine lv_lconst (v := 0) hx hb dX7_lineNumber_36 (by decide) ?_
  exact W.lret (v := 0) hx hb hr (fun t ht hW => ⟨⟨0, (), rfl, rfl, kB_mk ht hW hP hK hD⟩, hS.F ht⟩) hS.2.2 dX7_lineNumber_37
set_option maxHeartbeats 400000000 in
set_option maxRecDepth 100000 in
theorem c_X7_lineNumber_3 (l : Launch) (E : kE) (D : va_G) (cI cJ cB cZ : ClassId) (h0 : Nat) (f0 : List Value)  : kJ l E D (kT cI cJ cB cZ) yX7_lineNumber vW_X7_lineNumber ({ frames := 0, cells := 0, slots := 0, locals := 0 }) [.ref h0, .int 0, .int 3] [(h0, .inr (7, f0))] (0) [(h0, .inr (7, f0))] 0 0 := by
  intro sz
  refine Met.ofW (cc := cX7_lineNumber) (maxL := 3) (ret := (some .long)) (by decide) rfl ?_
  intro p e s m args below meth c s₁ B hml hv
  obtain ⟨rfl, hsz, hP, hK, hD0, hN, hX⟩ := hv
  have hx := B.exec
  have hb := B.bytes
  have hr := B.returns
  have hts := atoms_spec (ws := vW_X7_lineNumber) B.pre
  have hown : s.vm.findClass RX7 = some m.cls := findClass_of_methodNamed B.named
  have hlocks := B.notSynchronized
  subst hsz
  have hD := hD0.self (sz := s.heap.size)
  have hAE := k_AE hD0 hX
  generalize hAe : va_A [(h0, .inr (7, f0))] s.heap.size = A at hD hAE ⊢
  have hA : ∀ q : Nat, s.heap.size ≤ q → A q := fun q h => by rw [← hAe]; exact Or.inr h
  have hS : va_S A s.heap s.heap [] := va_S.rf
  have hP : va_P D vwCl [(h0, .inr (7, f0))] s.heap := hP
  have hl := lv_entry ([.ref h0, .int 0, .int 3] : List Value) (n := 3) (Nat.le_of_ble_eq_true rfl)
  rw [lg_entry_eq]
  generalize (lg_sl ([.ref h0, .int 0, .int 3]) ++ List.replicate (3 - (lg_sl ([.ref h0, .int 0, .int 3])).length) Slot.unset).toArray = ls at hl ⊢
  have hl : lv_has ls 3 [(0, .ref h0), (1, .int 0), (2, .int 3)] := hl
  refine lv_iload_n hx hb dX7_lineNumber_0 rfl (lv_at hl 1 rfl) ?_
  refine lv_iconst (v := 1) hx hb dX7_lineNumber_1 (by decide) ?_
  refine lv_icmp_lt (tgt := 36) hx hb dX7_lineNumber_2 (by decide) (fun _ => ?_) (fun c9 => absurd (by decide) c9)
  refine lv_lconst (v := 0) hx hb dX7_lineNumber_36 (by decide) ?_
  exact W.lret (v := 0) hx hb hr (fun t ht hW => ⟨⟨0, (), rfl, rfl, kB_mk ht hW hP hK hD⟩, hS.F ht⟩) hS.2.2 dX7_lineNumber_37
set_option maxHeartbeats 400000000 in
set_option maxRecDepth 100000 in
theorem c_X7_isLatestFalse_0 (l : Launch) (E : kE) (D : va_G) (cI cJ cB cZ : ClassId) (h0 : Nat) (f0 : List Value) (e0 : f0[10]? = some (.int 0)) : kI l E D (kT cI cJ cB cZ) yX7_isLatestFalse vW_X7_isLatestFalse ({ frames := 1, cells := 0, slots := 0, locals := 22 }) [.ref h0] [(h0, .inr (7, f0))] (0) [(h0, .inr (7, f0))] 0 0 := by
  intro sz
  refine Met.ofW (cc := cX7_isLatestFalse) (maxL := 3) (ret := (some .boolean)) (by decide) rfl ?_
  intro p e s m args below meth c s₁ B hml hv
  obtain ⟨rfl, hsz, hP, hK, hD0, hN, hX⟩ := hv
  have hx := B.exec
  have hb := B.bytes
  have hr := B.returns
  have hts := atoms_spec (ws := vW_X7_isLatestFalse) B.pre
  have hown : s.vm.findClass RX7 = some m.cls := findClass_of_methodNamed B.named
  have hlocks := B.notSynchronized
  have hin7 : ∀ w ∈ wsX70, w ∈ vW_X7_isLatestFalse := u9_X7_isLatestFalse_wsX70
  subst hsz
  have hD := hD0.self (sz := s.heap.size)
  have hAE := k_AE hD0 hX
  generalize hAe : va_A [(h0, .inr (7, f0))] s.heap.size = A at hD hAE ⊢
  have hA : ∀ q : Nat, s.heap.size ≤ q → A q := fun q h => by rw [← hAe]; exact Or.inr h
  have hS : va_S A s.heap s.heap [] := va_S.rf
  have hP : va_P D vwCl [(h0, .inr (7, f0))] s.heap := hP
  have hl := lv_entry ([.ref h0] : List Value) (n := 3) (Nat.le_of_ble_eq_true rfl)
  rw [lg_entry_eq]
  generalize (lg_sl ([.ref h0]) ++ List.replicate (3 - (lg_sl ([.ref h0])).length) Slot.unset).toArray = ls at hl ⊢
  have hl : lv_has ls 3 [(0, .ref h0)] := hl
  refine lv_aload_n hx hb dX7_isLatestFalse_0 rfl (lv_at hl 0 rfl) ?_
  refine k_get (D := D) (ci := 7) (v := .int 0) (N := 17) hx hb hts hin7 hown hK hP 0 rfl rfl (by decide) f9_7_10 (hts (.fieldLink RX7 46 "IntegerHouse$Prover" "size" "I") (o9_X7_isLatestFalse _ (List.mem_of_getElem? (i := 0) rfl))) e0 dX7_isLatestFalse_1 ?_
  refine lv_if_le (tgt := 25) hx hb dX7_isLatestFalse_4 (by decide) (fun _ => ?_) (fun c9 => absurd (by decide) c9)
  refine lv_iconst (v := 0) hx hb dX7_isLatestFalse_25 (by decide) ?_
  refine lv_istore_n (lv' := [(1, .int 0), (0, .ref h0)]) hx hb dX7_isLatestFalse_26 rfl hl (by decide) rfl (fun ls hl => ?_)
  refine lv_iconst (v := 0) hx hb dX7_isLatestFalse_27 (by decide) ?_
  refine lv_istore_n (lv' := [(2, .int 0), (1, .int 0), (0, .ref h0)]) hx hb dX7_isLatestFalse_28 rfl hl (by decide) rfl (fun ls hl => ?_)
  refine lv_iload_n hx hb dX7_isLatestFalse_29 rfl (lv_at hl 0 rfl) ?_
  refine lv_iconst (v := 4) hx hb dX7_isLatestFalse_30 (by decide) ?_
  refine lv_icmp_ge (tgt := 62) hx hb dX7_isLatestFalse_31 (by decide) (fun c9 => absurd c9 (by decide)) (fun _ => ?_)
  refine lv_iload_n hx hb dX7_isLatestFalse_34 rfl (lv_at hl 1 rfl) ?_
  refine lv_aload_n hx hb dX7_isLatestFalse_35 rfl (lv_at hl 2 rfl) ?_
  refine lv_aload_n hx hb dX7_isLatestFalse_36 rfl (lv_at hl 2 rfl) ?_
  refine k_get (D := D) (ci := 7) (v := .int 0) (N := 17) hx hb hts hin7 hown hK hP 0 rfl rfl (by decide) f9_7_10 (hts (.fieldLink RX7 46 "IntegerHouse$Prover" "size" "I") (o9_X7_isLatestFalse _ (List.mem_of_getElem? (i := 0) rfl))) e0 dX7_isLatestFalse_37 ?_
  refine lv_iload_n hx hb dX7_isLatestFalse_40 rfl (lv_at hl 0 rfl) ?_
  refine k_cVl (As := [.int 0, .int 0]) (rest := [.int 0]) (wc := [(h0, .inr (7, f0))]) (wr := []) (w1 := [(h0, .inr (7, f0))]) ⟨hx, hb, hml, hown, hts⟩ hN hX hAE hK hP hD hS hA [0] [] (ci := 7) rfl rfl rfl rfl (by decide +kernel) (by decide +kernel) (by decide +kernel) (c_X7_lineNumber_0 l E D cI cJ cB cZ h0 f0 ) (cwV 2 hts g9_X7_isLatestFalse_X7_lineNumber_165 rfl rfl rfl (by decide +kernel) ⟨Nat.le_of_ble_eq_true rfl, Nat.le_of_ble_eq_true rfl⟩) rfl hl.1 (Nat.le_of_ble_eq_true rfl) dX7_isLatestFalse_41 ⟨Nat.le_of_ble_eq_true rfl, Nat.le_of_ble_eq_true rfl⟩ (fun H locs hP hD hS => ?_)
  have hP : va_P D vwCl [(h0, .inr (7, f0))] H := hP
  have hD : va_D A [(h0, .inr (7, f0))] := hD
  refine lv_lconst (v := 0) hx hb dX7_isLatestFalse_44 (by decide) ?_
  refine W.lcmp hx hb dX7_isLatestFalse_45 ?_
  refine k_topi (y := 0) (by decide) ?_
  refine lv_if_ne (tgt := 53) hx hb dX7_isLatestFalse_46 (by decide) (fun c9 => absurd (by decide) c9) (fun _ => ?_)
  refine lv_iconst (v := 1) hx hb dX7_isLatestFalse_49 (by decide) ?_
  refine lv_goto (tgt := 54) hx hb dX7_isLatestFalse_50 (by decide) ?_
  refine lv_iand hx hb dX7_isLatestFalse_54 ?_
  refine k_topi (y := 0) (by decide) ?_
  refine lv_istore_n (lv' := [(1, .int 0), (2, .int 0), (0, .ref h0)]) hx hb dX7_isLatestFalse_55 rfl hl (by decide) rfl (fun ls hl => ?_)
  refine lv_iinc (v := 1) (lv' := [(2, .int 1), (1, .int 0), (0, .ref h0)]) hx hb dX7_isLatestFalse_56 hl (k := 1) rfl (by decide) (by decide) rfl (fun ls hl => ?_)
  refine lv_goto (tgt := 29) hx hb dX7_isLatestFalse_59 (by decide) ?_
  refine lv_iload_n hx hb dX7_isLatestFalse_29 rfl (lv_at hl 0 rfl) ?_
  refine lv_iconst (v := 4) hx hb dX7_isLatestFalse_30 (by decide) ?_
  refine lv_icmp_ge (tgt := 62) hx hb dX7_isLatestFalse_31 (by decide) (fun c9 => absurd c9 (by decide)) (fun _ => ?_)
  refine lv_iload_n hx hb dX7_isLatestFalse_34 rfl (lv_at hl 1 rfl) ?_
  refine lv_aload_n hx hb dX7_isLatestFalse_35 rfl (lv_at hl 2 rfl) ?_
  refine lv_aload_n hx hb dX7_isLatestFalse_36 rfl (lv_at hl 2 rfl) ?_
  refine k_get (D := D) (ci := 7) (v := .int 0) (N := 17) hx hb hts hin7 hown hK hP 0 rfl rfl (by decide) f9_7_10 (hts (.fieldLink RX7 46 "IntegerHouse$Prover" "size" "I") (o9_X7_isLatestFalse _ (List.mem_of_getElem? (i := 0) rfl))) e0 dX7_isLatestFalse_37 ?_
  refine lv_iload_n hx hb dX7_isLatestFalse_40 rfl (lv_at hl 0 rfl) ?_
  refine k_cVl (As := [.int 0, .int 1]) (rest := [.int 0]) (wc := [(h0, .inr (7, f0))]) (wr := []) (w1 := [(h0, .inr (7, f0))]) ⟨hx, hb, hml, hown, hts⟩ hN hX hAE hK hP hD hS hA [0] [] (ci := 7) rfl rfl rfl rfl (by decide +kernel) (by decide +kernel) (by decide +kernel) (c_X7_lineNumber_1 l E D cI cJ cB cZ h0 f0 ) (cwV 2 hts g9_X7_isLatestFalse_X7_lineNumber_165 rfl rfl rfl (by decide +kernel) ⟨Nat.le_of_ble_eq_true rfl, Nat.le_of_ble_eq_true rfl⟩) rfl hl.1 (Nat.le_of_ble_eq_true rfl) dX7_isLatestFalse_41 ⟨Nat.le_of_ble_eq_true rfl, Nat.le_of_ble_eq_true rfl⟩ (fun H locs hP hD hS => ?_)
  have hP : va_P D vwCl [(h0, .inr (7, f0))] H := hP
  have hD : va_D A [(h0, .inr (7, f0))] := hD
  refine lv_lconst (v := 0) hx hb dX7_isLatestFalse_44 (by decide) ?_
  refine W.lcmp hx hb dX7_isLatestFalse_45 ?_
  refine k_topi (y := 0) (by decide) ?_
  refine lv_if_ne (tgt := 53) hx hb dX7_isLatestFalse_46 (by decide) (fun c9 => absurd (by decide) c9) (fun _ => ?_)
  refine lv_iconst (v := 1) hx hb dX7_isLatestFalse_49 (by decide) ?_
  refine lv_goto (tgt := 54) hx hb dX7_isLatestFalse_50 (by decide) ?_
  refine lv_iand hx hb dX7_isLatestFalse_54 ?_
  refine k_topi (y := 0) (by decide) ?_
  refine lv_istore_n (lv' := [(1, .int 0), (2, .int 1), (0, .ref h0)]) hx hb dX7_isLatestFalse_55 rfl hl (by decide) rfl (fun ls hl => ?_)
  refine lv_iinc (v := 2) (lv' := [(2, .int 2), (1, .int 0), (0, .ref h0)]) hx hb dX7_isLatestFalse_56 hl (k := 1) rfl (by decide) (by decide) rfl (fun ls hl => ?_)
  refine lv_goto (tgt := 29) hx hb dX7_isLatestFalse_59 (by decide) ?_
  refine lv_iload_n hx hb dX7_isLatestFalse_29 rfl (lv_at hl 0 rfl) ?_
  refine lv_iconst (v := 4) hx hb dX7_isLatestFalse_30 (by decide) ?_
  refine lv_icmp_ge (tgt := 62) hx hb dX7_isLatestFalse_31 (by decide) (fun c9 => absurd c9 (by decide)) (fun _ => ?_)
  refine lv_iload_n hx hb dX7_isLatestFalse_34 rfl (lv_at hl 1 rfl) ?_
  refine lv_aload_n hx hb dX7_isLatestFalse_35 rfl (lv_at hl 2 rfl) ?_
  refine lv_aload_n hx hb dX7_isLatestFalse_36 rfl (lv_at hl 2 rfl) ?_
  refine k_get (D := D) (ci := 7) (v := .int 0) (N := 17) hx hb hts hin7 hown hK hP 0 rfl rfl (by decide) f9_7_10 (hts (.fieldLink RX7 46 "IntegerHouse$Prover" "size" "I") (o9_X7_isLatestFalse _ (List.mem_of_getElem? (i := 0) rfl))) e0 dX7_isLatestFalse_37 ?_
  refine lv_iload_n hx hb dX7_isLatestFalse_40 rfl (lv_at hl 0 rfl) ?_
  refine k_cVl (As := [.int 0, .int 2]) (rest := [.int 0]) (wc := [(h0, .inr (7, f0))]) (wr := []) (w1 := [(h0, .inr (7, f0))]) ⟨hx, hb, hml, hown, hts⟩ hN hX hAE hK hP hD hS hA [0] [] (ci := 7) rfl rfl rfl rfl (by decide +kernel) (by decide +kernel) (by decide +kernel) (c_X7_lineNumber_2 l E D cI cJ cB cZ h0 f0 ) (cwV 2 hts g9_X7_isLatestFalse_X7_lineNumber_165 rfl rfl rfl (by decide +kernel) ⟨Nat.le_of_ble_eq_true rfl, Nat.le_of_ble_eq_true rfl⟩) rfl hl.1 (Nat.le_of_ble_eq_true rfl) dX7_isLatestFalse_41 ⟨Nat.le_of_ble_eq_true rfl, Nat.le_of_ble_eq_true rfl⟩ (fun H locs hP hD hS => ?_)
  have hP : va_P D vwCl [(h0, .inr (7, f0))] H := hP
  have hD : va_D A [(h0, .inr (7, f0))] := hD
  refine lv_lconst (v := 0) hx hb dX7_isLatestFalse_44 (by decide) ?_
  refine W.lcmp hx hb dX7_isLatestFalse_45 ?_
  refine k_topi (y := 0) (by decide) ?_
  refine lv_if_ne (tgt := 53) hx hb dX7_isLatestFalse_46 (by decide) (fun c9 => absurd (by decide) c9) (fun _ => ?_)
  refine lv_iconst (v := 1) hx hb dX7_isLatestFalse_49 (by decide) ?_
  refine lv_goto (tgt := 54) hx hb dX7_isLatestFalse_50 (by decide) ?_
  refine lv_iand hx hb dX7_isLatestFalse_54 ?_
  refine k_topi (y := 0) (by decide) ?_
  refine lv_istore_n (lv' := [(1, .int 0), (2, .int 2), (0, .ref h0)]) hx hb dX7_isLatestFalse_55 rfl hl (by decide) rfl (fun ls hl => ?_)
  refine lv_iinc (v := 3) (lv' := [(2, .int 3), (1, .int 0), (0, .ref h0)]) hx hb dX7_isLatestFalse_56 hl (k := 1) rfl (by decide) (by decide) rfl (fun ls hl => ?_)
  refine lv_goto (tgt := 29) hx hb dX7_isLatestFalse_59 (by decide) ?_
  refine lv_iload_n hx hb dX7_isLatestFalse_29 rfl (lv_at hl 0 rfl) ?_
  refine lv_iconst (v := 4) hx hb dX7_isLatestFalse_30 (by decide) ?_
  refine lv_icmp_ge (tgt := 62) hx hb dX7_isLatestFalse_31 (by decide) (fun c9 => absurd c9 (by decide)) (fun _ => ?_)
  refine lv_iload_n hx hb dX7_isLatestFalse_34 rfl (lv_at hl 1 rfl) ?_
  refine lv_aload_n hx hb dX7_isLatestFalse_35 rfl (lv_at hl 2 rfl) ?_
  refine lv_aload_n hx hb dX7_isLatestFalse_36 rfl (lv_at hl 2 rfl) ?_
  refine k_get (D := D) (ci := 7) (v := .int 0) (N := 17) hx hb hts hin7 hown hK hP 0 rfl rfl (by decide) f9_7_10 (hts (.fieldLink RX7 46 "IntegerHouse$Prover" "size" "I") (o9_X7_isLatestFalse _ (List.mem_of_getElem? (i := 0) rfl))) e0 dX7_isLatestFalse_37 ?_
  refine lv_iload_n hx hb dX7_isLatestFalse_40 rfl (lv_at hl 0 rfl) ?_
  refine k_cVl (As := [.int 0, .int 3]) (rest := [.int 0]) (wc := [(h0, .inr (7, f0))]) (wr := []) (w1 := [(h0, .inr (7, f0))]) ⟨hx, hb, hml, hown, hts⟩ hN hX hAE hK hP hD hS hA [0] [] (ci := 7) rfl rfl rfl rfl (by decide +kernel) (by decide +kernel) (by decide +kernel) (c_X7_lineNumber_3 l E D cI cJ cB cZ h0 f0 ) (cwV 2 hts g9_X7_isLatestFalse_X7_lineNumber_165 rfl rfl rfl (by decide +kernel) ⟨Nat.le_of_ble_eq_true rfl, Nat.le_of_ble_eq_true rfl⟩) rfl hl.1 (Nat.le_of_ble_eq_true rfl) dX7_isLatestFalse_41 ⟨Nat.le_of_ble_eq_true rfl, Nat.le_of_ble_eq_true rfl⟩ (fun H locs hP hD hS => ?_)
  have hP : va_P D vwCl [(h0, .inr (7, f0))] H := hP
  have hD : va_D A [(h0, .inr (7, f0))] := hD
  refine lv_lconst (v := 0) hx hb dX7_isLatestFalse_44 (by decide) ?_
  refine W.lcmp hx hb dX7_isLatestFalse_45 ?_
  refine k_topi (y := 0) (by decide) ?_
  refine lv_if_ne (tgt := 53) hx hb dX7_isLatestFalse_46 (by decide) (fun c9 => absurd (by decide) c9) (fun _ => ?_)
  refine lv_iconst (v := 1) hx hb dX7_isLatestFalse_49 (by decide) ?_
  refine lv_goto (tgt := 54) hx hb dX7_isLatestFalse_50 (by decide) ?_
  refine lv_iand hx hb dX7_isLatestFalse_54 ?_
  refine k_topi (y := 0) (by decide) ?_
  refine lv_istore_n (lv' := [(1, .int 0), (2, .int 3), (0, .ref h0)]) hx hb dX7_isLatestFalse_55 rfl hl (by decide) rfl (fun ls hl => ?_)
  refine lv_iinc (v := 4) (lv' := [(2, .int 4), (1, .int 0), (0, .ref h0)]) hx hb dX7_isLatestFalse_56 hl (k := 1) rfl (by decide) (by decide) rfl (fun ls hl => ?_)
  refine lv_goto (tgt := 29) hx hb dX7_isLatestFalse_59 (by decide) ?_
  refine lv_iload_n hx hb dX7_isLatestFalse_29 rfl (lv_at hl 0 rfl) ?_
  refine lv_iconst (v := 4) hx hb dX7_isLatestFalse_30 (by decide) ?_
  refine lv_icmp_ge (tgt := 62) hx hb dX7_isLatestFalse_31 (by decide) (fun _ => ?_) (fun c9 => absurd (by decide) c9)
  refine lv_iload_n hx hb dX7_isLatestFalse_62 rfl (lv_at hl 1 rfl) ?_
  exact W.zret (v := 0) hx hb hr rfl (fun t ht hW => ⟨⟨0, (), rfl, rfl, kB_mk ht hW hP hK hD⟩, hS.F ht⟩) hS.2.2 dX7_isLatestFalse_63
set_option maxHeartbeats 400000000 in
set_option maxRecDepth 100000 in
theorem c_X7_check_0 (l : Launch) (E : kE) (D : va_G) (cI cJ cB cZ : ClassId) (h0 : Nat) (h1 : Nat) (f0 : List Value) (h2 : Nat) (f1 : List Value) (h3 : Nat) (h4 : Nat) (h5 : Nat) (g0 : Nat → Int32) (g1 : Nat → Int32) (e0 : f0[0]? = some (.ref h2)) (e1 : f1[6]? = some (.ref h3)) (e2 : f1[7]? = some (.int 0)) (e3 : f1[8]? = some (.int 0)) (e4 : f1[5]? = some (.int 0)) (e5 : f1[1]? = some (.ref h4)) (e6 : f1[2]? = some (.ref h5)) (e7 : f0[10]? = some (.int 0)) (e8 : f0[11]? = some (.int 0)) (e9 : f0[14]? = some (.int 0)) (e10 : f0[12]? = some (.int 0)) (e11 : f0[13]? = some (.int 0)) : kI l E D (kT cI cJ cB cZ) yX7_check vW_X7_check ({ frames := 2, cells := 0, slots := 0, locals := 50 }) [.ref h0, .ref h1, .int 0] [(h0, .inr (7, f0)), (h2, .inr (3, f1)), (h4, .inl (cI, 2001, .inl g0)), (h5, .inl (cI, 2001, .inl g1))] (0) [(h0, .inr (7, (((((f0.set 10 (.int 0)).set 11 (.int 0)).set 14 (.int 0)).set 12 (.int 0)).set 13 (.int 0)))), (h2, .inr (3, ((((f1.set 6 (.ref h1)).set 7 (.int 0)).set 8 (.int 0)).set 5 (.int 0)))), (h4, .inl (cI, 2001, .inl (upd g0 0 0))), (h5, .inl (cI, 2001, .inl (upd g1 0 0)))] 0 0 := by
  intro sz
  refine Met.ofW (cc := cX7_check) (maxL := 4) (ret := (some .int)) (by decide) rfl ?_
  intro p e s m args below meth c s₁ B hml hv
  obtain ⟨rfl, hsz, hP, hK, hD0, hN, hX⟩ := hv
  have hx := B.exec
  have hb := B.bytes
  have hr := B.returns
  have hts := atoms_spec (ws := vW_X7_check) B.pre
  have hown : s.vm.findClass RX7 = some m.cls := findClass_of_methodNamed B.named
  have hlocks := B.notSynchronized
  have hin7 : ∀ w ∈ wsX70, w ∈ vW_X7_check := u9_X7_check_wsX70
  subst hsz
  have hD := hD0.self (sz := s.heap.size)
  have hAE := k_AE hD0 hX
  generalize hAe : va_A [(h0, .inr (7, f0)), (h2, .inr (3, f1)), (h4, .inl (cI, 2001, .inl g0)), (h5, .inl (cI, 2001, .inl g1))] s.heap.size = A at hD hAE ⊢
  have hA : ∀ q : Nat, s.heap.size ≤ q → A q := fun q h => by rw [← hAe]; exact Or.inr h
  have hS : va_S A s.heap s.heap [] := va_S.rf
  have hP : va_P D vwCl [(h0, .inr (7, f0)), (h2, .inr (3, f1)), (h4, .inl (cI, 2001, .inl g0)), (h5, .inl (cI, 2001, .inl g1))] s.heap := hP
  have hl := lv_entry ([.ref h0, .ref h1, .int 0] : List Value) (n := 4) (Nat.le_of_ble_eq_true rfl)
  rw [lg_entry_eq]
  generalize (lg_sl ([.ref h0, .ref h1, .int 0]) ++ List.replicate (4 - (lg_sl ([.ref h0, .ref h1, .int 0])).length) Slot.unset).toArray = ls at hl ⊢
  have hl : lv_has ls 4 [(0, .ref h0), (1, .ref h1), (2, .int 0)] := hl
  refine lv_aload_n hx hb dX7_check_0 rfl (lv_at hl 0 rfl) ?_
  refine k_get (D := D) (ci := 7) (v := .ref h2) (N := 17) hx hb hts hin7 hown hK hP 0 rfl rfl (by decide) f9_7_0 (hts (.fieldLink RX7 38 "IntegerHouse$Prover" "lexer" "LIntegerHouse$Lexer;") (o9_X7_check _ (List.mem_of_getElem? (i := 0) rfl))) e0 dX7_check_1 ?_
  refine lv_aload_n hx hb dX7_check_4 rfl (lv_at hl 1 rfl) ?_
  refine lv_iconst (v := 0) hx hb dX7_check_5 (by decide) ?_
  refine lv_iload_n hx hb dX7_check_6 rfl (lv_at hl 2 rfl) ?_
  refine lv_iconst (v := 1) hx hb dX7_check_7 (by decide) ?_
  refine k_cVv (As := [.ref h1, .int 0, .int 0, .int 1]) (rest := []) (wc := [(h2, .inr (3, f1)), (h4, .inl (cI, 2001, .inl g0)), (h5, .inl (cI, 2001, .inl g1))]) (wr := [(h0, .inr (7, f0))]) (w1 := (fun _ : Unit => [(h2, .inr (3, ((((f1.set 6 (.ref h1)).set 7 (.int 0)).set 8 (.int 0)).set 5 (.int 0)))), (h4, .inl (cI, 2001, .inl (upd g0 0 0))), (h5, .inl (cI, 2001, .inl (upd g1 0 0)))])) ⟨hx, hb, hml, hown, hts⟩ hN hX hAE hK hP hD hS hA [1, 2, 3] [0] (ci := 3) rfl rfl rfl rfl (by decide +kernel) (by decide +kernel) (by decide +kernel) (c_X3_scan_1 l E D cI cJ cB cZ h2 h1 f1 h3 h4 g0 h5 g1 e1 e2 e3 e4 e5 e6) (cwV 4 hts g9_X7_check_X3_scan_50 rfl rfl rfl (by decide +kernel) ⟨Nat.le_of_ble_eq_true rfl, Nat.le_of_ble_eq_true rfl⟩) rfl hl.1 (Nat.le_of_ble_eq_true rfl) dX7_check_8 ⟨Nat.le_of_ble_eq_true rfl, Nat.le_of_ble_eq_true rfl⟩ (fun _ H locs hP hD hS => ?_)
  have hP : va_P D vwCl [(h0, .inr (7, f0)), (h2, .inr (3, ((((f1.set 6 (.ref h1)).set 7 (.int 0)).set 8 (.int 0)).set 5 (.int 0)))), (h4, .inl (cI, 2001, .inl (upd g0 0 0))), (h5, .inl (cI, 2001, .inl (upd g1 0 0)))] H := hP
  have hD : va_D A [(h0, .inr (7, f0)), (h2, .inr (3, ((((f1.set 6 (.ref h1)).set 7 (.int 0)).set 8 (.int 0)).set 5 (.int 0)))), (h4, .inl (cI, 2001, .inl (upd g0 0 0))), (h5, .inl (cI, 2001, .inl (upd g1 0 0)))] := hD
  refine lv_aload_n hx hb dX7_check_11 rfl (lv_at hl 0 rfl) ?_
  refine lv_iconst (v := 0) hx hb dX7_check_12 (by decide) ?_
  refine k_put (D := D) (ci := 7) (v := .int 0) (ty := .int) (N := 17) hx hb hts hin7 tyX7 tyX7_ok nmX7 hown hK hP hD hS 0 rfl rfl (by decide) f9_7_10 (hts (.fieldLink RX7 46 "IntegerHouse$Prover" "size" "I") (o9_X7_check _ (List.mem_of_getElem? (i := 5) rfl))) rfl pd_2 rfl rfl (k_len e7) dX7_check_13 (fun H locs hP hD hS => ?_)
  have hP : va_P D vwCl [(h0, .inr (7, (f0.set 10 (.int 0)))), (h2, .inr (3, ((((f1.set 6 (.ref h1)).set 7 (.int 0)).set 8 (.int 0)).set 5 (.int 0)))), (h4, .inl (cI, 2001, .inl (upd g0 0 0))), (h5, .inl (cI, 2001, .inl (upd g1 0 0)))] H := hP
  have hD : va_D A [(h0, .inr (7, (f0.set 10 (.int 0)))), (h2, .inr (3, ((((f1.set 6 (.ref h1)).set 7 (.int 0)).set 8 (.int 0)).set 5 (.int 0)))), (h4, .inl (cI, 2001, .inl (upd g0 0 0))), (h5, .inl (cI, 2001, .inl (upd g1 0 0)))] := hD
  refine lv_aload_n hx hb dX7_check_16 rfl (lv_at hl 0 rfl) ?_
  refine lv_iconst (v := 0) hx hb dX7_check_17 (by decide) ?_
  refine k_put (D := D) (ci := 7) (v := .int 0) (ty := .int) (N := 17) hx hb hts hin7 tyX7 tyX7_ok nmX7 hown hK hP hD hS 0 rfl rfl (by decide) f9_7_11 (hts (.fieldLink RX7 56 "IntegerHouse$Prover" "open" "I") (o9_X7_check _ (List.mem_of_getElem? (i := 6) rfl))) rfl pd_2 rfl rfl (k_len (k_ne (by decide) e8)) dX7_check_18 (fun H locs hP hD hS => ?_)
  have hP : va_P D vwCl [(h0, .inr (7, ((f0.set 10 (.int 0)).set 11 (.int 0)))), (h2, .inr (3, ((((f1.set 6 (.ref h1)).set 7 (.int 0)).set 8 (.int 0)).set 5 (.int 0)))), (h4, .inl (cI, 2001, .inl (upd g0 0 0))), (h5, .inl (cI, 2001, .inl (upd g1 0 0)))] H := hP
  have hD : va_D A [(h0, .inr (7, ((f0.set 10 (.int 0)).set 11 (.int 0)))), (h2, .inr (3, ((((f1.set 6 (.ref h1)).set 7 (.int 0)).set 8 (.int 0)).set 5 (.int 0)))), (h4, .inl (cI, 2001, .inl (upd g0 0 0))), (h5, .inl (cI, 2001, .inl (upd g1 0 0)))] := hD
  refine lv_aload_n hx hb dX7_check_21 rfl (lv_at hl 0 rfl) ?_
  refine lv_iconst (v := 0) hx hb dX7_check_22 (by decide) ?_
  refine k_put (D := D) (ci := 7) (v := .int 0) (ty := .int) (N := 17) hx hb hts hin7 tyX7 tyX7_ok nmX7 hown hK hP hD hS 0 rfl rfl (by decide) f9_7_14 (hts (.fieldLink RX7 59 "IntegerHouse$Prover" "at" "I") (o9_X7_check _ (List.mem_of_getElem? (i := 7) rfl))) rfl pd_2 rfl rfl (k_len (k_ne (by decide) (k_ne (by decide) e9))) dX7_check_23 (fun H locs hP hD hS => ?_)
  have hP : va_P D vwCl [(h0, .inr (7, (((f0.set 10 (.int 0)).set 11 (.int 0)).set 14 (.int 0)))), (h2, .inr (3, ((((f1.set 6 (.ref h1)).set 7 (.int 0)).set 8 (.int 0)).set 5 (.int 0)))), (h4, .inl (cI, 2001, .inl (upd g0 0 0))), (h5, .inl (cI, 2001, .inl (upd g1 0 0)))] H := hP
  have hD : va_D A [(h0, .inr (7, (((f0.set 10 (.int 0)).set 11 (.int 0)).set 14 (.int 0)))), (h2, .inr (3, ((((f1.set 6 (.ref h1)).set 7 (.int 0)).set 8 (.int 0)).set 5 (.int 0)))), (h4, .inl (cI, 2001, .inl (upd g0 0 0))), (h5, .inl (cI, 2001, .inl (upd g1 0 0)))] := hD
  refine lv_aload_n hx hb dX7_check_26 rfl (lv_at hl 0 rfl) ?_
  refine lv_iconst (v := 0) hx hb dX7_check_27 (by decide) ?_
  refine k_put (D := D) (ci := 7) (v := .int 0) (ty := .int) (N := 17) hx hb hts hin7 tyX7 tyX7_ok nmX7 hown hK hP hD hS 0 rfl rfl (by decide) f9_7_12 (hts (.fieldLink RX7 62 "IntegerHouse$Prover" "faultKind" "I") (o9_X7_check _ (List.mem_of_getElem? (i := 8) rfl))) rfl pd_2 rfl rfl (k_len (k_ne (by decide) (k_ne (by decide) (k_ne (by decide) e10)))) dX7_check_28 (fun H locs hP hD hS => ?_)
  have hP : va_P D vwCl [(h0, .inr (7, ((((f0.set 10 (.int 0)).set 11 (.int 0)).set 14 (.int 0)).set 12 (.int 0)))), (h2, .inr (3, ((((f1.set 6 (.ref h1)).set 7 (.int 0)).set 8 (.int 0)).set 5 (.int 0)))), (h4, .inl (cI, 2001, .inl (upd g0 0 0))), (h5, .inl (cI, 2001, .inl (upd g1 0 0)))] H := hP
  have hD : va_D A [(h0, .inr (7, ((((f0.set 10 (.int 0)).set 11 (.int 0)).set 14 (.int 0)).set 12 (.int 0)))), (h2, .inr (3, ((((f1.set 6 (.ref h1)).set 7 (.int 0)).set 8 (.int 0)).set 5 (.int 0)))), (h4, .inl (cI, 2001, .inl (upd g0 0 0))), (h5, .inl (cI, 2001, .inl (upd g1 0 0)))] := hD
  refine lv_aload_n hx hb dX7_check_31 rfl (lv_at hl 0 rfl) ?_
  refine lv_iconst (v := 0) hx hb dX7_check_32 (by decide) ?_
  refine k_put (D := D) (ci := 7) (v := .int 0) (ty := .int) (N := 17) hx hb hts hin7 tyX7 tyX7_ok nmX7 hown hK hP hD hS 0 rfl rfl (by decide) f9_7_13 (hts (.fieldLink RX7 65 "IntegerHouse$Prover" "faultPlace" "I") (o9_X7_check _ (List.mem_of_getElem? (i := 9) rfl))) rfl pd_2 rfl rfl (k_len (k_ne (by decide) (k_ne (by decide) (k_ne (by decide) (k_ne (by decide) e11))))) dX7_check_33 (fun H locs hP hD hS => ?_)
  have hP : va_P D vwCl [(h0, .inr (7, (((((f0.set 10 (.int 0)).set 11 (.int 0)).set 14 (.int 0)).set 12 (.int 0)).set 13 (.int 0)))), (h2, .inr (3, ((((f1.set 6 (.ref h1)).set 7 (.int 0)).set 8 (.int 0)).set 5 (.int 0)))), (h4, .inl (cI, 2001, .inl (upd g0 0 0))), (h5, .inl (cI, 2001, .inl (upd g1 0 0)))] H := hP
  have hD : va_D A [(h0, .inr (7, (((((f0.set 10 (.int 0)).set 11 (.int 0)).set 14 (.int 0)).set 12 (.int 0)).set 13 (.int 0)))), (h2, .inr (3, ((((f1.set 6 (.ref h1)).set 7 (.int 0)).set 8 (.int 0)).set 5 (.int 0)))), (h4, .inl (cI, 2001, .inl (upd g0 0 0))), (h5, .inl (cI, 2001, .inl (upd g1 0 0)))] := hD
  refine lv_iconst (v := 0) hx hb dX7_check_36 (by decide) ?_
  refine lv_istore_n (lv' := [(3, .int 0), (0, .ref h0), (1, .ref h1), (2, .int 0)]) hx hb dX7_check_37 rfl hl (by decide) rfl (fun ls hl => ?_)
  refine lv_iload_n hx hb dX7_check_38 rfl (lv_at hl 0 rfl) ?_
  refine lv_sipush (v := 2000) hx hb dX7_check_39 (by decide) ?_
  refine lv_icmp_ge (tgt := 76) hx hb dX7_check_42 (by decide) (fun c9 => absurd c9 (by decide)) (fun _ => ?_)
  refine lv_aload_n hx hb dX7_check_45 rfl (lv_at hl 1 rfl) ?_
  refine k_get (D := D) (ci := 7) (v := .int 0) (N := 17) hx hb hts hin7 hown hK hP 0 rfl rfl (by decide) f9_7_12 (hts (.fieldLink RX7 62 "IntegerHouse$Prover" "faultKind" "I") (o9_X7_check _ (List.mem_of_getElem? (i := 8) rfl))) (k_ne (by decide) (k_set (k_ne (by decide) (k_ne (by decide) (k_ne (by decide) e10))))) dX7_check_46 ?_
  refine lv_if_ne (tgt := 76) hx hb dX7_check_49 (by decide) (fun c9 => absurd (by decide) c9) (fun _ => ?_)
  refine lv_aload_n hx hb dX7_check_52 rfl (lv_at hl 1 rfl) ?_
  refine k_get (D := D) (ci := 7) (v := .ref h2) (N := 17) hx hb hts hin7 hown hK hP 0 rfl rfl (by decide) f9_7_0 (hts (.fieldLink RX7 38 "IntegerHouse$Prover" "lexer" "LIntegerHouse$Lexer;") (o9_X7_check _ (List.mem_of_getElem? (i := 0) rfl))) (k_ne (by decide) (k_ne (by decide) (k_ne (by decide) (k_ne (by decide) (k_ne (by decide) e0))))) dX7_check_53 ?_
  refine lv_aload_n hx hb dX7_check_56 rfl (lv_at hl 1 rfl) ?_
  refine k_get (D := D) (ci := 7) (v := .int 0) (N := 17) hx hb hts hin7 hown hK hP 0 rfl rfl (by decide) f9_7_14 (hts (.fieldLink RX7 59 "IntegerHouse$Prover" "at" "I") (o9_X7_check _ (List.mem_of_getElem? (i := 7) rfl))) (k_ne (by decide) (k_ne (by decide) (k_set (k_ne (by decide) (k_ne (by decide) e9))))) dX7_check_57 ?_
  refine k_cVi (As := [.int 0]) (rest := []) (wc := [(h2, .inr (3, ((((f1.set 6 (.ref h1)).set 7 (.int 0)).set 8 (.int 0)).set 5 (.int 0))))]) (wr := [(h0, .inr (7, (((((f0.set 10 (.int 0)).set 11 (.int 0)).set 14 (.int 0)).set 12 (.int 0)).set 13 (.int 0)))), (h4, .inl (cI, 2001, .inl (upd g0 0 0))), (h5, .inl (cI, 2001, .inl (upd g1 0 0)))]) (w1 := [(h2, .inr (3, ((((f1.set 6 (.ref h1)).set 7 (.int 0)).set 8 (.int 0)).set 5 (.int 0))))]) ⟨hx, hb, hml, hown, hts⟩ hN hX hAE hK hP hD hS hA [1] [0, 2, 3] (ci := 3) rfl rfl rfl rfl (by decide +kernel) (by decide +kernel) (by decide +kernel) (c_X3_kindAt_0 l E D cI cJ cB cZ h2 (((((f1.set 6 (.ref h1)).set 7 (.int 0)).set 8 (.int 0)).set 5 (.int 0))) (k_set (k_ne (by decide) (k_ne (by decide) (k_ne (by decide) e4))))) (cwV 1 hts g9_X7_check_X3_kindAt_68 rfl rfl rfl (by decide +kernel) ⟨Nat.le_of_ble_eq_true rfl, Nat.le_of_ble_eq_true rfl⟩) rfl hl.1 (Nat.le_of_ble_eq_true rfl) dX7_check_60 ⟨Nat.le_of_ble_eq_true rfl, Nat.le_of_ble_eq_true rfl⟩ (fun H locs hP hD hS => ?_)
  have hP : va_P D vwCl [(h0, .inr (7, (((((f0.set 10 (.int 0)).set 11 (.int 0)).set 14 (.int 0)).set 12 (.int 0)).set 13 (.int 0)))), (h4, .inl (cI, 2001, .inl (upd g0 0 0))), (h5, .inl (cI, 2001, .inl (upd g1 0 0))), (h2, .inr (3, ((((f1.set 6 (.ref h1)).set 7 (.int 0)).set 8 (.int 0)).set 5 (.int 0))))] H := hP
  have hD : va_D A [(h0, .inr (7, (((((f0.set 10 (.int 0)).set 11 (.int 0)).set 14 (.int 0)).set 12 (.int 0)).set 13 (.int 0)))), (h4, .inl (cI, 2001, .inl (upd g0 0 0))), (h5, .inl (cI, 2001, .inl (upd g1 0 0))), (h2, .inr (3, ((((f1.set 6 (.ref h1)).set 7 (.int 0)).set 8 (.int 0)).set 5 (.int 0))))] := hD
  refine lv_if_eq (tgt := 76) hx hb dX7_check_63 (by decide) (fun _ => ?_) (fun c9 => absurd (by decide) c9)
  refine lv_aload_n hx hb dX7_check_76 rfl (lv_at hl 1 rfl) ?_
  refine k_get (D := D) (ci := 7) (v := .int 0) (N := 17) hx hb hts hin7 hown hK hP 0 rfl rfl (by decide) f9_7_12 (hts (.fieldLink RX7 62 "IntegerHouse$Prover" "faultKind" "I") (o9_X7_check _ (List.mem_of_getElem? (i := 8) rfl))) (k_ne (by decide) (k_set (k_ne (by decide) (k_ne (by decide) (k_ne (by decide) e10))))) dX7_check_77 ?_
  refine lv_if_eq (tgt := 85) hx hb dX7_check_80 (by decide) (fun _ => ?_) (fun c9 => absurd (by decide) c9)
  refine lv_aload_n hx hb dX7_check_85 rfl (lv_at hl 1 rfl) ?_
  refine k_get (D := D) (ci := 7) (v := .int 0) (N := 17) hx hb hts hin7 hown hK hP 0 rfl rfl (by decide) f9_7_11 (hts (.fieldLink RX7 56 "IntegerHouse$Prover" "open" "I") (o9_X7_check _ (List.mem_of_getElem? (i := 6) rfl))) (k_ne (by decide) (k_ne (by decide) (k_ne (by decide) (k_set (k_ne (by decide) e8))))) dX7_check_86 ?_
  refine lv_if_ne (tgt := 103) hx hb dX7_check_89 (by decide) (fun c9 => absurd (by decide) c9) (fun _ => ?_)
  refine lv_aload_n hx hb dX7_check_92 rfl (lv_at hl 1 rfl) ?_
  refine k_cVi (As := []) (rest := []) (wc := [(h0, .inr (7, (((((f0.set 10 (.int 0)).set 11 (.int 0)).set 14 (.int 0)).set 12 (.int 0)).set 13 (.int 0))))]) (wr := [(h4, .inl (cI, 2001, .inl (upd g0 0 0))), (h5, .inl (cI, 2001, .inl (upd g1 0 0))), (h2, .inr (3, ((((f1.set 6 (.ref h1)).set 7 (.int 0)).set 8 (.int 0)).set 5 (.int 0))))]) (w1 := [(h0, .inr (7, (((((f0.set 10 (.int 0)).set 11 (.int 0)).set 14 (.int 0)).set 12 (.int 0)).set 13 (.int 0))))]) ⟨hx, hb, hml, hown, hts⟩ hN hX hAE hK hP hD hS hA [0] [1, 2, 3] (ci := 7) rfl rfl rfl rfl (by decide +kernel) (by decide +kernel) (by decide +kernel) (c_X7_isLatestFalse_0 l E D cI cJ cB cZ h0 ((((((f0.set 10 (.int 0)).set 11 (.int 0)).set 14 (.int 0)).set 12 (.int 0)).set 13 (.int 0))) (k_ne (by decide) (k_ne (by decide) (k_ne (by decide) (k_ne (by decide) (k_set e7)))))) (cwV 0 hts g9_X7_check_X7_isLatestFalse_75 rfl rfl rfl (by decide +kernel) ⟨Nat.le_of_ble_eq_true rfl, Nat.le_of_ble_eq_true rfl⟩) rfl hl.1 (Nat.le_of_ble_eq_true rfl) dX7_check_93 ⟨Nat.le_of_ble_eq_true rfl, Nat.le_of_ble_eq_true rfl⟩ (fun H locs hP hD hS => ?_)
  have hP : va_P D vwCl [(h4, .inl (cI, 2001, .inl (upd g0 0 0))), (h5, .inl (cI, 2001, .inl (upd g1 0 0))), (h2, .inr (3, ((((f1.set 6 (.ref h1)).set 7 (.int 0)).set 8 (.int 0)).set 5 (.int 0)))), (h0, .inr (7, (((((f0.set 10 (.int 0)).set 11 (.int 0)).set 14 (.int 0)).set 12 (.int 0)).set 13 (.int 0))))] H := hP
  have hD : va_D A [(h4, .inl (cI, 2001, .inl (upd g0 0 0))), (h5, .inl (cI, 2001, .inl (upd g1 0 0))), (h2, .inr (3, ((((f1.set 6 (.ref h1)).set 7 (.int 0)).set 8 (.int 0)).set 5 (.int 0)))), (h0, .inr (7, (((((f0.set 10 (.int 0)).set 11 (.int 0)).set 14 (.int 0)).set 12 (.int 0)).set 13 (.int 0))))] := hD
  refine lv_if_eq (tgt := 103) hx hb dX7_check_96 (by decide) (fun _ => ?_) (fun c9 => absurd (by decide) c9)
  refine lv_iconst (v := 0) hx hb dX7_check_103 (by decide) ?_
  have hP := hP.sub (ws' := [(h0, .inr (7, (((((f0.set 10 (.int 0)).set 11 (.int 0)).set 14 (.int 0)).set 12 (.int 0)).set 13 (.int 0)))), (h2, .inr (3, ((((f1.set 6 (.ref h1)).set 7 (.int 0)).set 8 (.int 0)).set 5 (.int 0)))), (h4, .inl (cI, 2001, .inl (upd g0 0 0))), (h5, .inl (cI, 2001, .inl (upd g1 0 0)))]) [3, 2, 0, 1] rfl
  have hD := hD.sub (ws' := [(h0, .inr (7, (((((f0.set 10 (.int 0)).set 11 (.int 0)).set 14 (.int 0)).set 12 (.int 0)).set 13 (.int 0)))), (h2, .inr (3, ((((f1.set 6 (.ref h1)).set 7 (.int 0)).set 8 (.int 0)).set 5 (.int 0)))), (h4, .inl (cI, 2001, .inl (upd g0 0 0))), (h5, .inl (cI, 2001, .inl (upd g1 0 0)))]) [3, 2, 0, 1] (by decide +kernel) rfl
  exact W.iret (v := 0) hx hb hr (fun t ht hW => ⟨⟨0, (), rfl, rfl, kB_mk ht hW hP hK hD⟩, hS.F ht⟩) hS.2.2 dX7_check_104
