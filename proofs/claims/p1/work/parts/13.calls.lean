theorem dX1_setCut_0 : decode cX1_setCut 0 = .ok (.aload_n 0, 1) := by decide +kernel
theorem dX1_setCut_1 : decode cX1_setCut 1 = .ok (.iload_n 1, 1) := by decide +kernel
theorem dX1_setCut_2 : decode cX1_setCut 2 = .ok (.putfield 25, 3) := by decide +kernel
theorem dX1_setCut_5 : decode cX1_setCut 5 = .ok (.aload_n 0, 1) := by decide +kernel
theorem dX1_setCut_6 : decode cX1_setCut 6 = .ok (.iload_n 2, 1) := by decide +kernel
theorem dX1_setCut_7 : decode cX1_setCut 7 = .ok (.putfield 37, 3) := by decide +kernel
theorem dX1_setCut_10 : decode cX1_setCut 10 = .ok (.return_, 1) := by decide +kernel
theorem dX1_writeAll_0 : decode cX1_writeAll 0 = .ok (.aload_n 0, 1) := by decide +kernel
theorem dX1_writeAll_1 : decode cX1_writeAll 1 = .ok (.getfield 40, 3) := by decide +kernel
theorem dX1_writeAll_4 : decode cX1_writeAll 4 = .ok (.sipush 248, 3) := by decide +kernel
theorem dX1_writeAll_7 : decode cX1_writeAll 7 = .ok (.iadd, 1) := by decide +kernel
theorem dX1_writeAll_8 : decode cX1_writeAll 8 = .ok (.iconst 1, 1) := by decide +kernel
theorem dX1_writeAll_9 : decode cX1_writeAll 9 = .ok (.isub, 1) := by decide +kernel
theorem dX1_writeAll_10 : decode cX1_writeAll 10 = .ok (.sipush 248, 3) := by decide +kernel
theorem dX1_writeAll_13 : decode cX1_writeAll 13 = .ok (.idiv, 1) := by decide +kernel
theorem dX1_writeAll_14 : decode cX1_writeAll 14 = .ok (.istore_n 1, 1) := by decide +kernel
theorem dX1_writeAll_15 : decode cX1_writeAll 15 = .ok (.iconst 0, 1) := by decide +kernel
theorem dX1_writeAll_16 : decode cX1_writeAll 16 = .ok (.istore_n 2, 1) := by decide +kernel
theorem dX1_writeAll_17 : decode cX1_writeAll 17 = .ok (.iload_n 2, 1) := by decide +kernel
theorem dX1_writeAll_18 : decode cX1_writeAll 18 = .ok (.iload_n 1, 1) := by decide +kernel
theorem dX1_writeAll_19 : decode cX1_writeAll 19 = .ok (.if_icmp .ge 49, 3) := by decide +kernel
theorem dX1_writeAll_68 : decode cX1_writeAll 68 = .ok (.aload_n 0, 1) := by decide +kernel
theorem dX1_writeAll_69 : decode cX1_writeAll 69 = .ok (.dup, 1) := by decide +kernel
theorem dX1_writeAll_70 : decode cX1_writeAll 70 = .ok (.getfield 43, 3) := by decide +kernel
theorem dX1_writeAll_73 : decode cX1_writeAll 73 = .ok (.iload_n 1, 1) := by decide +kernel
theorem dX1_writeAll_74 : decode cX1_writeAll 74 = .ok (.iadd, 1) := by decide +kernel
theorem dX1_writeAll_75 : decode cX1_writeAll 75 = .ok (.putfield 43, 3) := by decide +kernel
theorem dX1_writeAll_78 : decode cX1_writeAll 78 = .ok (.aload_n 0, 1) := by decide +kernel
theorem dX1_writeAll_79 : decode cX1_writeAll 79 = .ok (.iconst 0, 1) := by decide +kernel
theorem dX1_writeAll_80 : decode cX1_writeAll 80 = .ok (.putfield 40, 3) := by decide +kernel
theorem dX1_writeAll_83 : decode cX1_writeAll 83 = .ok (.iload_n 1, 1) := by decide +kernel
theorem dX1_writeAll_84 : decode cX1_writeAll 84 = .ok (.ireturn, 1) := by decide +kernel
theorem dX11_end_0 : decode cX11_end 0 = .ok (.iload_n 1, 1) := by decide +kernel
theorem dX11_end_1 : decode cX11_end 1 = .ok (.ifCond .lt 11, 3) := by decide +kernel
theorem dX11_end_4 : decode cX11_end 4 = .ok (.iload_n 1, 1) := by decide +kernel
theorem dX11_end_5 : decode cX11_end 5 = .ok (.aload_n 0, 1) := by decide +kernel
theorem dX11_end_6 : decode cX11_end 6 = .ok (.getfield 102, 3) := by decide +kernel
theorem dX11_end_9 : decode cX11_end 9 = .ok (.if_icmp .le 13, 3) := by decide +kernel
theorem dX11_end_12 : decode cX11_end 12 = .ok (.new 117, 3) := by decide +kernel
theorem dX11_end_15 : decode cX11_end 15 = .ok (.dup, 1) := by decide +kernel
theorem dX11_end_16 : decode cX11_end 16 = .ok (.ldc 119, 2) := by decide +kernel
theorem dX11_end_18 : decode cX11_end 18 = .ok (.invokespecial 121, 3) := by decide +kernel
theorem dX11_end_21 : decode cX11_end 21 = .ok (.athrow, 1) := by decide +kernel
theorem dX11_end_22 : decode cX11_end 22 = .ok (.aload_n 0, 1) := by decide +kernel
theorem dX11_end_23 : decode cX11_end 23 = .ok (.iload_n 1, 1) := by decide +kernel
theorem dX11_end_24 : decode cX11_end 24 = .ok (.putfield 102, 3) := by decide +kernel
theorem dX11_end_27 : decode cX11_end 27 = .ok (.return_, 1) := by decide +kernel
theorem dX11_sync_0 : decode cX11_sync 0 = .ok (.aload_n 0, 1) := by decide +kernel
theorem dX11_sync_1 : decode cX11_sync 1 = .ok (.getfield 16, 3) := by decide +kernel
theorem dX11_sync_4 : decode cX11_sync 4 = .ok (.getfield 122, 3) := by decide +kernel
theorem dX11_sync_7 : decode cX11_sync 7 = .ok (.ifCond .eq 8, 3) := by decide +kernel
theorem dX11_sync_15 : decode cX11_sync 15 = .ok (.aload_n 0, 1) := by decide +kernel
theorem dX11_sync_16 : decode cX11_sync 16 = .ok (.getfield 16, 3) := by decide +kernel
theorem dX11_sync_19 : decode cX11_sync 19 = .ok (.invokevirtual 126, 3) := by decide +kernel
theorem dX11_sync_22 : decode cX11_sync 22 = .ok (.ireturn, 1) := by decide +kernel
theorem dX11_cut_0 : decode cX11_cut 0 = .ok (.aload_n 0, 1) := by decide +kernel
theorem dX11_cut_1 : decode cX11_cut 1 = .ok (.getfield 16, 3) := by decide +kernel
theorem dX11_cut_4 : decode cX11_cut 4 = .ok (.getfield 122, 3) := by decide +kernel
theorem dX11_cut_7 : decode cX11_cut 7 = .ok (.ifCond .eq 6, 3) := by decide +kernel
theorem dX11_cut_13 : decode cX11_cut 13 = .ok (.iload_n 1, 1) := by decide +kernel
theorem dX11_cut_14 : decode cX11_cut 14 = .ok (.iconst (-1), 1) := by decide +kernel
theorem dX11_cut_15 : decode cX11_cut 15 = .ok (.if_icmp .lt 21, 3) := by decide +kernel
theorem dX11_cut_18 : decode cX11_cut 18 = .ok (.iload_n 1, 1) := by decide +kernel
theorem dX11_cut_19 : decode cX11_cut 19 = .ok (.sipush 2000, 3) := by decide +kernel
theorem dX11_cut_22 : decode cX11_cut 22 = .ok (.if_icmp .gt 14, 3) := by decide +kernel
theorem dX11_cut_25 : decode cX11_cut 25 = .ok (.iload_n 2, 1) := by decide +kernel
theorem dX11_cut_26 : decode cX11_cut 26 = .ok (.ifCond .lt 10, 3) := by decide +kernel
theorem dX11_cut_29 : decode cX11_cut 29 = .ok (.iload_n 2, 1) := by decide +kernel
theorem dX11_cut_30 : decode cX11_cut 30 = .ok (.sipush 255, 3) := by decide +kernel
theorem dX11_cut_33 : decode cX11_cut 33 = .ok (.if_icmp .le 6, 3) := by decide +kernel
theorem dX11_cut_36 : decode cX11_cut 36 = .ok (.bipush (-102), 2) := by decide +kernel
theorem dX11_cut_38 : decode cX11_cut 38 = .ok (.ireturn, 1) := by decide +kernel
theorem dX11_cut_39 : decode cX11_cut 39 = .ok (.aload_n 0, 1) := by decide +kernel
theorem dX11_cut_40 : decode cX11_cut 40 = .ok (.getfield 16, 3) := by decide +kernel
theorem dX11_cut_43 : decode cX11_cut 43 = .ok (.iload_n 1, 1) := by decide +kernel
theorem dX11_cut_44 : decode cX11_cut 44 = .ok (.iload_n 2, 1) := by decide +kernel
theorem dX11_cut_45 : decode cX11_cut 45 = .ok (.invokevirtual 130, 3) := by decide +kernel
theorem dX11_cut_48 : decode cX11_cut 48 = .ok (.iconst 1, 1) := by decide +kernel
theorem dX11_cut_49 : decode cX11_cut 49 = .ok (.ireturn, 1) := by decide +kernel
theorem dX12_thrown_0 : decode cX12_thrown 0 = .ok (.aload_n 0, 1) := by decide +kernel
theorem dX12_thrown_1 : decode cX12_thrown 1 = .ok (.getfield 3, 3) := by decide +kernel
theorem dX12_thrown_4 : decode cX12_thrown 4 = .ok (.ireturn, 1) := by decide +kernel
theorem dX12_in_0 : decode cX12_in 0 = .ok (.lload_n 0, 1) := by decide +kernel
theorem dX12_in_1 : decode cX12_in 1 = .ok (.lload_n 2, 1) := by decide +kernel
theorem dX12_in_2 : decode cX12_in 2 = .ok (.lcmp, 1) := by decide +kernel
theorem dX12_in_3 : decode cX12_in 3 = .ok (.ifCond .lt 14, 3) := by decide +kernel
theorem dX12_in_6 : decode cX12_in 6 = .ok (.lload_n 0, 1) := by decide +kernel
theorem dX12_in_7 : decode cX12_in 7 = .ok (.lload 4, 2) := by decide +kernel
theorem dX12_in_9 : decode cX12_in 9 = .ok (.lcmp, 1) := by decide +kernel
theorem dX12_in_10 : decode cX12_in 10 = .ok (.ifCond .gt 7, 3) := by decide +kernel
theorem dX12_in_13 : decode cX12_in 13 = .ok (.iconst 1, 1) := by decide +kernel
theorem dX12_in_14 : decode cX12_in 14 = .ok (.goto 4, 3) := by decide +kernel
theorem dX12_in_17 : decode cX12_in 17 = .ok (.iconst 0, 1) := by decide +kernel
theorem dX12_in_18 : decode cX12_in 18 = .ok (.ireturn, 1) := by decide +kernel
theorem dX12_end_0 : decode cX12_end 0 = .ok (.aload_n 0, 1) := by decide +kernel
theorem dX12_end_1 : decode cX12_end 1 = .ok (.iload_n 1, 1) := by decide +kernel
theorem dX12_end_2 : decode cX12_end 2 = .ok (.i2l, 1) := by decide +kernel
theorem dX12_end_3 : decode cX12_end 3 = .ok (.lconst 0, 1) := by decide +kernel
theorem dX12_end_4 : decode cX12_end 4 = .ok (.aload_n 0, 1) := by decide +kernel
theorem dX12_end_5 : decode cX12_end 5 = .ok (.getfield 485, 3) := by decide +kernel
theorem dX12_end_8 : decode cX12_end 8 = .ok (.i2l, 1) := by decide +kernel
theorem dX12_end_9 : decode cX12_end 9 = .ok (.invokestatic 504, 3) := by decide +kernel
theorem dX12_end_12 : decode cX12_end 12 = .ok (.ifCond .eq 7, 3) := by decide +kernel
theorem dX12_end_15 : decode cX12_end 15 = .ok (.iconst 0, 1) := by decide +kernel
theorem dX12_end_16 : decode cX12_end 16 = .ok (.goto 4, 3) := by decide +kernel
theorem dX12_end_19 : decode cX12_end 19 = .ok (.iconst 1, 1) := by decide +kernel
theorem dX12_end_20 : decode cX12_end 20 = .ok (.putfield 3, 3) := by decide +kernel
theorem dX12_end_23 : decode cX12_end 23 = .ok (.aload_n 0, 1) := by decide +kernel
theorem dX12_end_24 : decode cX12_end 24 = .ok (.aload_n 0, 1) := by decide +kernel
theorem dX12_end_25 : decode cX12_end 25 = .ok (.getfield 3, 3) := by decide +kernel
theorem dX12_end_28 : decode cX12_end 28 = .ok (.ifCond .le 10, 3) := by decide +kernel
theorem dX12_end_31 : decode cX12_end 31 = .ok (.aload_n 0, 1) := by decide +kernel
theorem dX12_end_32 : decode cX12_end 32 = .ok (.getfield 485, 3) := by decide +kernel
theorem dX12_end_35 : decode cX12_end 35 = .ok (.goto 4, 3) := by decide +kernel
theorem dX12_end_38 : decode cX12_end 38 = .ok (.iload_n 1, 1) := by decide +kernel
theorem dX12_end_39 : decode cX12_end 39 = .ok (.putfield 485, 3) := by decide +kernel
theorem dX12_end_42 : decode cX12_end 42 = .ok (.return_, 1) := by decide +kernel
theorem dX12_sync_0 : decode cX12_sync 0 = .ok (.aload_n 0, 1) := by decide +kernel
theorem dX12_sync_1 : decode cX12_sync 1 = .ok (.iconst 0, 1) := by decide +kernel
theorem dX12_sync_2 : decode cX12_sync 2 = .ok (.putfield 3, 3) := by decide +kernel
theorem dX12_sync_5 : decode cX12_sync 5 = .ok (.aload_n 0, 1) := by decide +kernel
theorem dX12_sync_6 : decode cX12_sync 6 = .ok (.getfield 488, 3) := by decide +kernel
theorem dX12_sync_9 : decode cX12_sync 9 = .ok (.ifCond .eq 6, 3) := by decide +kernel
theorem dX12_sync_15 : decode cX12_sync 15 = .ok (.aload_n 0, 1) := by decide +kernel
theorem dX12_sync_16 : decode cX12_sync 16 = .ok (.getfield 475, 3) := by decide +kernel
theorem dX12_sync_19 : decode cX12_sync 19 = .ok (.sipush 248, 3) := by decide +kernel
theorem dX12_sync_22 : decode cX12_sync 22 = .ok (.iadd, 1) := by decide +kernel
theorem dX12_sync_23 : decode cX12_sync 23 = .ok (.iconst 1, 1) := by decide +kernel
theorem dX12_sync_24 : decode cX12_sync 24 = .ok (.isub, 1) := by decide +kernel
theorem dX12_sync_25 : decode cX12_sync 25 = .ok (.sipush 248, 3) := by decide +kernel
theorem dX12_sync_28 : decode cX12_sync 28 = .ok (.idiv, 1) := by decide +kernel
theorem dX12_sync_29 : decode cX12_sync 29 = .ok (.istore_n 1, 1) := by decide +kernel
theorem dX12_sync_30 : decode cX12_sync 30 = .ok (.iconst 0, 1) := by decide +kernel
theorem dX12_sync_31 : decode cX12_sync 31 = .ok (.istore_n 2, 1) := by decide +kernel
theorem dX12_sync_32 : decode cX12_sync 32 = .ok (.iload_n 2, 1) := by decide +kernel
theorem dX12_sync_33 : decode cX12_sync 33 = .ok (.iload_n 1, 1) := by decide +kernel
theorem dX12_sync_34 : decode cX12_sync 34 = .ok (.if_icmp .ge 149, 3) := by decide +kernel
theorem dX12_sync_183 : decode cX12_sync 183 = .ok (.aload_n 0, 1) := by decide +kernel
theorem dX12_sync_184 : decode cX12_sync 184 = .ok (.aload_n 0, 1) := by decide +kernel
theorem dX12_sync_185 : decode cX12_sync 185 = .ok (.getfield 478, 3) := by decide +kernel
theorem dX12_sync_188 : decode cX12_sync 188 = .ok (.iload_n 1, 1) := by decide +kernel
theorem dX12_sync_189 : decode cX12_sync 189 = .ok (.iadd, 1) := by decide +kernel
theorem dX12_sync_190 : decode cX12_sync 190 = .ok (.putfield 478, 3) := by decide +kernel
theorem dX12_sync_193 : decode cX12_sync 193 = .ok (.aload_n 0, 1) := by decide +kernel
theorem dX12_sync_194 : decode cX12_sync 194 = .ok (.iconst 0, 1) := by decide +kernel
theorem dX12_sync_195 : decode cX12_sync 195 = .ok (.putfield 475, 3) := by decide +kernel
theorem dX12_sync_198 : decode cX12_sync 198 = .ok (.iload_n 1, 1) := by decide +kernel
theorem dX12_sync_199 : decode cX12_sync 199 = .ok (.ireturn, 1) := by decide +kernel
theorem dX12_cut_0 : decode cX12_cut 0 = .ok (.aload_n 0, 1) := by decide +kernel
theorem dX12_cut_1 : decode cX12_cut 1 = .ok (.iconst 0, 1) := by decide +kernel
theorem dX12_cut_2 : decode cX12_cut 2 = .ok (.putfield 3, 3) := by decide +kernel
theorem dX12_cut_5 : decode cX12_cut 5 = .ok (.aload_n 0, 1) := by decide +kernel
theorem dX12_cut_6 : decode cX12_cut 6 = .ok (.getfield 488, 3) := by decide +kernel
theorem dX12_cut_9 : decode cX12_cut 9 = .ok (.ifCond .eq 6, 3) := by decide +kernel
theorem dX12_cut_15 : decode cX12_cut 15 = .ok (.iload_n 1, 1) := by decide +kernel
theorem dX12_cut_16 : decode cX12_cut 16 = .ok (.i2l, 1) := by decide +kernel
theorem dX12_cut_17 : decode cX12_cut 17 = .ok (.ldc2_w 526, 3) := by decide +kernel
theorem dX12_cut_20 : decode cX12_cut 20 = .ok (.ldc2_w 528, 3) := by decide +kernel
theorem dX12_cut_23 : decode cX12_cut 23 = .ok (.invokestatic 504, 3) := by decide +kernel
theorem dX12_cut_26 : decode cX12_cut 26 = .ok (.ifCond .eq 15, 3) := by decide +kernel
theorem dX12_cut_29 : decode cX12_cut 29 = .ok (.iload_n 2, 1) := by decide +kernel
theorem dX12_cut_30 : decode cX12_cut 30 = .ok (.i2l, 1) := by decide +kernel
theorem dX12_cut_31 : decode cX12_cut 31 = .ok (.lconst 0, 1) := by decide +kernel
theorem dX12_cut_32 : decode cX12_cut 32 = .ok (.ldc2_w 530, 3) := by decide +kernel
theorem dX12_cut_35 : decode cX12_cut 35 = .ok (.invokestatic 504, 3) := by decide +kernel
theorem dX12_cut_38 : decode cX12_cut 38 = .ok (.ifCond .ne 6, 3) := by decide +kernel
theorem dX12_cut_44 : decode cX12_cut 44 = .ok (.aload_n 0, 1) := by decide +kernel
theorem dX12_cut_45 : decode cX12_cut 45 = .ok (.iload_n 1, 1) := by decide +kernel
theorem dX12_cut_46 : decode cX12_cut 46 = .ok (.putfield 22, 3) := by decide +kernel
theorem dX12_cut_49 : decode cX12_cut 49 = .ok (.aload_n 0, 1) := by decide +kernel
theorem dX12_cut_50 : decode cX12_cut 50 = .ok (.iload_n 2, 1) := by decide +kernel
theorem dX12_cut_51 : decode cX12_cut 51 = .ok (.putfield 523, 3) := by decide +kernel
theorem dX12_cut_54 : decode cX12_cut 54 = .ok (.iconst 1, 1) := by decide +kernel
theorem dX12_cut_55 : decode cX12_cut 55 = .ok (.ireturn, 1) := by decide +kernel
theorem dL_end_0 : decode cL_end 0 = .ok (.aload_n 0, 1) := by decide +kernel
theorem dL_end_1 : decode cL_end 1 = .ok (.iload_n 1, 1) := by decide +kernel
theorem dL_end_2 : decode cL_end 2 = .ok (.invokevirtual 15, 3) := by decide +kernel
theorem dL_end_5 : decode cL_end 5 = .ok (.goto 6, 3) := by decide +kernel
theorem dL_end_8 : decode cL_end 8 = .ok (.astore_n 2, 1) := by decide +kernel
theorem dL_end_9 : decode cL_end 9 = .ok (.iconst 1, 1) := by decide +kernel
theorem dL_end_10 : decode cL_end 10 = .ok (.ireturn, 1) := by decide +kernel
theorem dL_end_11 : decode cL_end 11 = .ok (.iconst 0, 1) := by decide +kernel
theorem dL_end_12 : decode cL_end 12 = .ok (.ireturn, 1) := by decide +kernel
set_option maxHeartbeats 400000000 in
set_option maxRecDepth 100000 in
theorem c_X12_thrown_0 (l : Launch) (E : kE) (D : va_G) (cI cJ cB cZ : ClassId) (h0 : Nat) (f0 : List Value) (e0 : f0[0]? = some (.int 0)) : kI l E D (kT cI cJ cB cZ) yX12_thrown vW_X12_thrown ({ frames := 0, cells := 0, slots := 0, locals := 0 }) [.ref h0] [(h0, .inr (12, f0))] (0) [(h0, .inr (12, f0))] 0 0 := by
  intro sz
  refine Met.ofW (cc := cX12_thrown) (maxL := 1) (ret := (some .int)) (by decide) rfl ?_
  intro p e s m args below meth c s₁ B hml hv
  obtain ⟨rfl, hsz, hP, hK, hD0, hN, hX⟩ := hv
  have hx := B.exec
  have hb := B.bytes
  have hr := B.returns
  have hts := atoms_spec (ws := vW_X12_thrown) B.pre
  have hown : s.vm.findClass RX12 = some m.cls := findClass_of_methodNamed B.named
  have hlocks := B.notSynchronized
  have hin12 : ∀ w ∈ wsX120, w ∈ vW_X12_thrown := u9_X12_thrown_wsX120
  subst hsz
  have hD := hD0.self (sz := s.heap.size)
  have hAE := k_AE hD0 hX
  generalize hAe : va_A [(h0, .inr (12, f0))] s.heap.size = A at hD hAE ⊢
  have hA : ∀ q : Nat, s.heap.size ≤ q → A q := fun q h => by rw [← hAe]; exact Or.inr h
  have hS : va_S A s.heap s.heap [] := va_S.rf
  have hP : va_P D vwCl [(h0, .inr (12, f0))] s.heap := hP
  have hl := lv_entry ([.ref h0] : List Value) (n := 1) (Nat.le_of_ble_eq_true rfl)
  rw [lg_entry_eq]
  generalize (lg_sl ([.ref h0]) ++ List.replicate (1 - (lg_sl ([.ref h0])).length) Slot.unset).toArray = ls at hl ⊢
  have hl : lv_has ls 1 [(0, .ref h0)] := hl
  refine lv_aload_n hx hb dX12_thrown_0 rfl (lv_at hl 0 rfl) ?_
  refine k_get (D := D) (ci := 12) (v := .int 0) (N := 195) hx hb hts hin12 hown hK hP 0 rfl rfl (by decide) f9_12_0 (hts (.fieldLink RX12 3 "IntegerHouseModel" "thrown" "I") (o9_X12_thrown _ (List.mem_of_getElem? (i := 0) rfl))) e0 dX12_thrown_1 ?_
  exact W.iret (v := 0) hx hb hr (fun t ht hW => ⟨⟨0, (), rfl, rfl, kB_mk ht hW hP hK hD⟩, hS.F ht⟩) hS.2.2 dX12_thrown_4
set_option maxHeartbeats 400000000 in
set_option maxRecDepth 100000 in
theorem c_X11_end_0 (l : Launch) (E : kE) (D : va_G) (cI cJ cB cZ : ClassId) (h0 : Nat) (x0 : Int32) (f0 : List Value) (e0 : ¬ ((x0 : Int32) < 0)) (e1 : f0[12]? = some (.int 0)) (e2 : ¬ ((x0 : Int32) < 1)) (hl9 : l.stackTraces = false) : kTV l E D (kT cI cJ cB cZ) yX11_end vW_X11_end ({ frames := 6, cells := 1, slots := 6, locals := 82 }) [.ref h0, .int x0] [(h0, .inr (11, f0))] "java/lang/IllegalArgumentException" 1 6 := by
  intro sz
  refine vx_ofW (cc := cX11_end) (maxL := 2) (ret := none) (by decide) rfl ?_
  intro p e s m args below meth c s₁ B hml ht9 hv
  obtain ⟨rfl, hsz, hP, hK, hD0, hN, hX⟩ := hv
  have hx := B.exec
  have hb := B.bytes
  have hr := B.returns
  have hts := atoms_spec (ws := vW_X11_end) B.pre
  have hown : s.vm.findClass RX11 = some m.cls := findClass_of_methodNamed B.named
  have hlocks := B.notSynchronized
  have hin11 : ∀ w ∈ wsX110, w ∈ vW_X11_end := u9_X11_end_wsX110
  subst hsz
  have hD := hD0.self (sz := s.heap.size)
  have hAE := k_AE hD0 hX
  generalize hAe : va_A [(h0, .inr (11, f0))] s.heap.size = A at hD hAE ⊢
  have hA : ∀ q : Nat, s.heap.size ≤ q → A q := fun q h => by rw [← hAe]; exact Or.inr h
  have hS : va_S A s.heap s.heap [] := va_S.rf
  have hP : va_P D vwCl [(h0, .inr (11, f0))] s.heap := hP
  have hl := lv_entry ([.ref h0, .int x0] : List Value) (n := 2) (Nat.le_of_ble_eq_true rfl)
  rw [lg_entry_eq]
  generalize (lg_sl ([.ref h0, .int x0]) ++ List.replicate (2 - (lg_sl ([.ref h0, .int x0])).length) Slot.unset).toArray = ls at hl ⊢
  have hl : lv_has ls 2 [(0, .ref h0), (1, .int x0)] := hl
  refine lv_iload_n hx hb dX11_end_0 rfl (lv_at hl 1 rfl) ?_
  refine lv_if_lt (tgt := 12) hx hb dX11_end_1 (by decide) (fun c9 => absurd c9 e0) (fun _ => ?_)
  refine lv_iload_n hx hb dX11_end_4 rfl (lv_at hl 1 rfl) ?_
  refine lv_aload_n hx hb dX11_end_5 rfl (lv_at hl 0 rfl) ?_
  refine k_get (D := D) (ci := 11) (v := .int 0) (N := 15) hx hb hts hin11 hown hK hP 0 rfl rfl (by decide) f9_11_12 (hts (.fieldLink RX11 102 "IntegerHouse" "tapeLength" "I") (o9_X11_end _ (List.mem_of_getElem? (i := 0) rfl))) e1 dX11_end_6 ?_
  refine lv_icmp_le (tgt := 22) hx hb dX11_end_9 (by decide) (fun c9 => absurd c9 (fun z9 => e2 ((k_n1 (x := x0) (c := 0) (d := 1) (by decide)).mp z9))) (fun _ => ?_)
  obtain ⟨a9, a9r, a9o⟩ := kX.st hX hAE ("IntegerHouse", 119, "the tape has no such length") (List.mem_of_getElem? (i := 4) rfl)
  exact vx_throwS (names := ["java/lang/RuntimeException", "java/lang/Exception"]) (A := A) hx hb hl9 hown (by decide +kernel) (by decide +kernel) (hts (.classLink RX11 117 "java/lang/IllegalArgumentException") (o9_X11_end _ (List.mem_of_getElem? (i := 1) rfl))) (hts (.initialized "java/lang/IllegalArgumentException") (o9_X11_end _ (List.mem_of_getElem? (i := 2) rfl))) a9r (vx_hat (L := vx_atS RX11 121 "java/lang/IllegalArgumentException" ["java/lang/RuntimeException", "java/lang/Exception"]) (B := [.castable "java/lang/IllegalArgumentException" "java/lang/IllegalArgumentException", .declares (Bundle.initS "java/lang/RuntimeException"), .declares (Bundle.initS "java/lang/Exception"), .declares (Bundle.initS "java/lang/Throwable")]) (fun w h => hts w (x9_X11_end_0 w h)) (by decide +kernel) (vx_c (va_Nw.use rfl (kX.cast hX "java/lang/IllegalArgumentException" (by decide))) (vx_c (va_Nw.use rfl (kX.decl hX "java/lang/RuntimeException" (by decide))) (vx_c (va_Nw.use rfl (kX.decl hX "java/lang/Exception" (by decide))) (vx_c (va_Nw.use rfl (kX.decl hX "java/lang/Throwable" (by decide))) vx_n))))) (by decide +kernel) (kX.us hX hAE) (kX.ss hX hAE) hS (by rw [hml]; exact hl.1) dX11_end_12 dX11_end_15 dX11_end_16 dX11_end_18 dX11_end_21 (fun x hx => (ht9 x hx).elim) (Nat.le_of_ble_eq_true rfl) (Nat.le_of_ble_eq_true rfl) (Nat.le_of_ble_eq_true rfl) (Nat.le_of_ble_eq_true rfl) hlocks (fun t h1 h2 h3 => k_tx hP hK hD hS t h1 h2 h3) hS.2.2 (Nat.le_of_ble_eq_true rfl) (Nat.le_of_ble_eq_true rfl)
set_option maxHeartbeats 400000000 in
set_option maxRecDepth 100000 in
theorem c_L_end_0 (l : Launch) (E : kE) (D : va_G) (cI cJ cB cZ : ClassId) (h0 : Nat) (x0 : Int32) (f0 : List Value) (e0 : f0[12]? = some (.int 0)) (e1 : ¬ ((x0 : Int32) < 0)) (e2 : ¬ ((x0 : Int32) < 1)) (hl9 : l.stackTraces = false) : kI l E D (kT cI cJ cB cZ) yL_end vW_L_end ({ frames := 7, cells := 1, slots := 6, locals := 103 }) [.ref h0, .int x0] [(h0, .inr (11, f0))] (1) [(h0, .inr (11, f0))] 1 6 := by
  intro sz
  refine k_metH (cc := cL_end) (maxL := 3) (ret := (some .int)) (hh := [(0, 5, 8, 19)]) (by decide) rfl ?_
  intro p e s m args below meth c s₁ B hml hv
  obtain ⟨rfl, hsz, hP, hK, hD0, hN, hX⟩ := hv
  have hx := B.exec
  have hb := B.bytes
  have hr := B.returns
  have hts := atoms_spec (ws := vW_L_end) B.pre
  have hown : s.vm.findClass RL = some m.cls := findClass_of_methodNamed B.named
  have hlocks := B.notSynchronized
  subst hsz
  have hD := hD0.self (sz := s.heap.size)
  have hAE := k_AE hD0 hX
  generalize hAe : va_A [(h0, .inr (11, f0))] s.heap.size = A at hD hAE ⊢
  have hA : ∀ q : Nat, s.heap.size ≤ q → A q := fun q h => by rw [← hAe]; exact Or.inr h
  have hS : va_S A s.heap s.heap [] := va_S.rf
  have hP : va_P D vwCl [(h0, .inr (11, f0))] s.heap := hP
  have hl := lv_entry ([.ref h0, .int x0] : List Value) (n := 3) (Nat.le_of_ble_eq_true rfl)
  rw [lg_entry_eq]
  generalize (lg_sl ([.ref h0, .int x0]) ++ List.replicate (3 - (lg_sl ([.ref h0, .int x0])).length) Slot.unset).toArray = ls at hl ⊢
  have hl : lv_has ls 3 [(0, .ref h0), (1, .int x0)] := hl
  refine lv_aload_n hx hb dL_end_0 rfl (lv_at hl 0 rfl) ?_
  refine lv_iload_n hx hb dL_end_1 rfl (lv_at hl 1 rfl) ?_
  refine k_cTv (As := [.int x0]) (rest := []) (wc := [(h0, .inr (11, f0))]) (wr := []) ⟨hx, hb, hml, hown, hts⟩ hN hX hAE hK hP hD hS hA [0] [] (ci := 11) rfl rfl rfl rfl (by decide +kernel) (by decide +kernel) (by decide +kernel) (c_X11_end_0 l E D cI cJ cB cZ h0 x0 f0 e1 e0 e2 hl9) (cwV 1 hts g9_L_end_X11_end_15 rfl rfl rfl (by decide +kernel) ⟨Nat.le_of_ble_eq_true rfl, Nat.le_of_ble_eq_true rfl⟩) rfl hl.1 (Nat.le_of_ble_eq_true rfl) dL_end_2 ⟨Nat.le_of_ble_eq_true rfl, Nat.le_of_ble_eq_true rfl⟩ (fun q9 ce H locs hP hD hS hce hcv hcl => ?_)
  have hP : va_P D vwCl [(h0, .inr (11, f0))] H := hP
  have hD : va_D A [(h0, .inr (11, f0))] := hD
  refine vx_catch (own := RL) (name := "java/lang/IllegalArgumentException") hown [] ⟨0, 5, 8, 19⟩ [] (vx_table (x := yL_end) B (hts _ List.mem_cons_self)) (fun z hz => absurd hz List.not_mem_nil) (by decide) (by decide) (hts (.classLink RL 19 "java/lang/IllegalArgumentException") (o9_L_end _ (List.mem_of_getElem? (i := 4) rfl))) (va_Nw.use rfl (kX.cast hX "java/lang/IllegalArgumentException" (by decide))) hce hcv hcl ?_
  refine W.eq (g2 := F0 m 8 ls [.ref q9]) rfl ?_
  refine W.widen (k := 1) (n := 6) (Nat.le_of_ble_eq_true rfl) (Nat.le_of_ble_eq_true rfl) ?_
  refine lv_astore_n (lv' := [(2, .ref q9), (0, .ref h0), (1, .int x0)]) hx hb dL_end_8 rfl hl (by decide) rfl (fun ls hl => ?_)
  refine lv_iconst (v := 1) hx hb dL_end_9 (by decide) ?_
  exact W.iret (v := 1) hx hb hr (fun t ht hW => ⟨⟨1, (), rfl, rfl, kB_mk ht hW hP hK hD⟩, hS.F ht⟩) hS.2.2 dL_end_10
set_option maxHeartbeats 400000000 in
set_option maxRecDepth 100000 in
theorem c_X12_in_0 (l : Launch) (E : kE) (D : va_G) (cI cJ cB cZ : ClassId) (y0 : Int64) (e0 : ¬ (((lg_cmp y0 0) : Int32) < 0)) (e1 : (0 : Int32) < (lg_cmp y0 0)) : kI l E D (kT cI cJ cB cZ) yX12_in vW_X12_in ({ frames := 0, cells := 0, slots := 0, locals := 0 }) [.long y0, .long 0, .long 0] [] (0) [] 0 0 := by
  intro sz
  refine Met.ofW (cc := cX12_in) (maxL := 6) (ret := (some .boolean)) (by decide) rfl ?_
  intro p e s m args below meth c s₁ B hml hv
  obtain ⟨rfl, hsz, hP, hK, hD0, hN, hX⟩ := hv
  have hx := B.exec
  have hb := B.bytes
  have hr := B.returns
  have hts := atoms_spec (ws := vW_X12_in) B.pre
  have hown : s.vm.findClass RX12 = some m.cls := findClass_of_methodNamed B.named
  have hlocks := B.notSynchronized
  subst hsz
  have hD := hD0.self (sz := s.heap.size)
  have hAE := k_AE hD0 hX
  generalize hAe : va_A [] s.heap.size = A at hD hAE ⊢
  have hA : ∀ q : Nat, s.heap.size ≤ q → A q := fun q h => by rw [← hAe]; exact Or.inr h
  have hS : va_S A s.heap s.heap [] := va_S.rf
  have hP : va_P D vwCl [] s.heap := hP
  have hl := lv_entry ([.long y0, .long 0, .long 0] : List Value) (n := 6) (Nat.le_of_ble_eq_true rfl)
  rw [lg_entry_eq]
  generalize (lg_sl ([.long y0, .long 0, .long 0]) ++ List.replicate (6 - (lg_sl ([.long y0, .long 0, .long 0])).length) Slot.unset).toArray = ls at hl ⊢
  have hl : lv_has ls 6 [(0, .long y0), (2, .long 0), (4, .long 0)] := hl
  refine lv_lload_n hx hb dX12_in_0 rfl (lv_at hl 0 rfl) ?_
  refine lv_lload_n hx hb dX12_in_1 rfl (lv_at hl 1 rfl) ?_
  refine W.lcmp hx hb dX12_in_2 ?_
  refine lv_if_lt (tgt := 17) hx hb dX12_in_3 (by decide) (fun c9 => absurd c9 e0) (fun _ => ?_)
  refine lv_lload_n hx hb dX12_in_6 rfl (lv_at hl 0 rfl) ?_
  refine lv_lload hx hb dX12_in_7 (lv_at hl 2 rfl) ?_
  refine W.lcmp hx hb dX12_in_9 ?_
  refine lv_if_gt (tgt := 17) hx hb dX12_in_10 (by decide) (fun _ => ?_) (fun c9 => absurd e1 c9)
  refine lv_iconst (v := 0) hx hb dX12_in_17 (by decide) ?_
  exact W.zret (v := 0) hx hb hr rfl (fun t ht hW => ⟨⟨0, (), rfl, rfl, kB_mk ht hW hP hK hD⟩, hS.F ht⟩) hS.2.2 dX12_in_18
set_option maxHeartbeats 400000000 in
set_option maxRecDepth 100000 in
theorem c_X12_end_0 (l : Launch) (E : kE) (D : va_G) (cI cJ cB cZ : ClassId) (h0 : Nat) (x0 : Int32) (f0 : List Value) (e0 : f0[2]? = some (.int 0)) (e1 : ¬ ((x0 : Int32) < 0)) (e2 : ¬ ((x0 : Int32) < 1)) (e3 : f0[0]? = some (.int 0)) : kV l E D (kT cI cJ cB cZ) yX12_end vW_X12_end ({ frames := 1, cells := 0, slots := 0, locals := 25 }) [.ref h0, .int x0] [(h0, .inr (12, f0))] (fun _ : Unit => [(h0, .inr (12, ((f0.set 0 (.int 1)).set 2 (.int 0))))]) 0 0 := by
  intro sz
  refine Met.ofW (cc := cX12_end) (maxL := 2) (ret := none) (by decide) rfl ?_
  intro p e s m args below meth c s₁ B hml hv
  obtain ⟨rfl, hsz, hP, hK, hD0, hN, hX⟩ := hv
  have hx := B.exec
  have hb := B.bytes
  have hr := B.returns
  have hts := atoms_spec (ws := vW_X12_end) B.pre
  have hown : s.vm.findClass RX12 = some m.cls := findClass_of_methodNamed B.named
  have hlocks := B.notSynchronized
  have hin12 : ∀ w ∈ wsX120, w ∈ vW_X12_end := u9_X12_end_wsX120
  subst hsz
  have hD := hD0.self (sz := s.heap.size)
  have hAE := k_AE hD0 hX
  generalize hAe : va_A [(h0, .inr (12, f0))] s.heap.size = A at hD hAE ⊢
  have hA : ∀ q : Nat, s.heap.size ≤ q → A q := fun q h => by rw [← hAe]; exact Or.inr h
  have hS : va_S A s.heap s.heap [] := va_S.rf
  have hP : va_P D vwCl [(h0, .inr (12, f0))] s.heap := hP
  have hl := lv_entry ([.ref h0, .int x0] : List Value) (n := 2) (Nat.le_of_ble_eq_true rfl)
  rw [lg_entry_eq]
  generalize (lg_sl ([.ref h0, .int x0]) ++ List.replicate (2 - (lg_sl ([.ref h0, .int x0])).length) Slot.unset).toArray = ls at hl ⊢
  have hl : lv_has ls 2 [(0, .ref h0), (1, .int x0)] := hl
  refine lv_aload_n hx hb dX12_end_0 rfl (lv_at hl 0 rfl) ?_
  refine lv_iload_n hx hb dX12_end_1 rfl (lv_at hl 1 rfl) ?_
  refine lv_i2l (v := (Int32.toInt64 x0)) hx hb dX12_end_2 rfl ?_
  refine lv_lconst (v := 0) hx hb dX12_end_3 (by decide) ?_
  refine lv_aload_n hx hb dX12_end_4 rfl (lv_at hl 0 rfl) ?_
  refine k_get (D := D) (ci := 12) (v := .int 0) (N := 195) hx hb hts hin12 hown hK hP 0 rfl rfl (by decide) f9_12_2 (hts (.fieldLink RX12 485 "IntegerHouseModel" "taped" "I") (o9_X12_end _ (List.mem_of_getElem? (i := 0) rfl))) e0 dX12_end_5 ?_
  refine lv_i2l (v := 0) hx hb dX12_end_8 (by decide) ?_
  refine k_cSi (As := [.long (Int32.toInt64 x0), .long 0, .long 0]) (rest := [.ref h0]) (wc := []) (wr := [(h0, .inr (12, f0))]) (w1 := []) ⟨hx, hb, hml, hown, hts⟩ hN hX hAE hK hP hD hS hA [] [0] rfl rfl (by decide +kernel) (by decide +kernel) (by decide +kernel) (c_X12_in_0 l E D cI cJ cB cZ (Int32.toInt64 x0) (fun z9 => e1 ((k_n4 (x := x0) (c := 0) (C := 0) (by decide)).mp z9)) ((k_n5 (x := x0) (c := 0) (d := 1) (C := 0) (by decide) (by decide)).mpr e2)) (va_cwS 3 hts g9_X12_end_X12_in_504 rfl rfl rfl (by decide +kernel) ⟨Nat.le_of_ble_eq_true rfl, Nat.le_of_ble_eq_true rfl⟩) rfl hl.1 (Nat.le_of_ble_eq_true rfl) dX12_end_9 ⟨Nat.le_of_ble_eq_true rfl, Nat.le_of_ble_eq_true rfl⟩ (fun H locs hP hD hS => ?_)
  have hP : va_P D vwCl [(h0, .inr (12, f0))] H := hP
  have hD : va_D A [(h0, .inr (12, f0))] := hD
  refine lv_if_eq (tgt := 19) hx hb dX12_end_12 (by decide) (fun _ => ?_) (fun c9 => absurd (by decide) c9)
  refine lv_iconst (v := 1) hx hb dX12_end_19 (by decide) ?_
  refine k_put (D := D) (ci := 12) (v := .int 1) (ty := .int) (N := 195) hx hb hts hin12 tyX12 tyX12_ok nmX12 hown hK hP hD hS 0 rfl rfl (by decide) f9_12_0 (hts (.fieldLink RX12 3 "IntegerHouseModel" "thrown" "I") (o9_X12_end _ (List.mem_of_getElem? (i := 4) rfl))) rfl pd_2 rfl rfl (k_len e3) dX12_end_20 (fun H locs hP hD hS => ?_)
  have hP : va_P D vwCl [(h0, .inr (12, (f0.set 0 (.int 1))))] H := hP
  have hD : va_D A [(h0, .inr (12, (f0.set 0 (.int 1))))] := hD
  refine lv_aload_n hx hb dX12_end_23 rfl (lv_at hl 0 rfl) ?_
  refine lv_aload_n hx hb dX12_end_24 rfl (lv_at hl 0 rfl) ?_
  refine k_get (D := D) (ci := 12) (v := .int 1) (N := 195) hx hb hts hin12 hown hK hP 0 rfl rfl (by decide) f9_12_0 (hts (.fieldLink RX12 3 "IntegerHouseModel" "thrown" "I") (o9_X12_end _ (List.mem_of_getElem? (i := 4) rfl))) (k_set e3) dX12_end_25 ?_
  refine lv_if_le (tgt := 38) hx hb dX12_end_28 (by decide) (fun c9 => absurd c9 (by decide)) (fun _ => ?_)
  refine lv_aload_n hx hb dX12_end_31 rfl (lv_at hl 0 rfl) ?_
  refine k_get (D := D) (ci := 12) (v := .int 0) (N := 195) hx hb hts hin12 hown hK hP 0 rfl rfl (by decide) f9_12_2 (hts (.fieldLink RX12 485 "IntegerHouseModel" "taped" "I") (o9_X12_end _ (List.mem_of_getElem? (i := 0) rfl))) (k_ne (by decide) e0) dX12_end_32 ?_
  refine lv_goto (tgt := 39) hx hb dX12_end_35 (by decide) ?_
  refine k_put (D := D) (ci := 12) (v := .int 0) (ty := .int) (N := 195) hx hb hts hin12 tyX12 tyX12_ok nmX12 hown hK hP hD hS 0 rfl rfl (by decide) f9_12_2 (hts (.fieldLink RX12 485 "IntegerHouseModel" "taped" "I") (o9_X12_end _ (List.mem_of_getElem? (i := 0) rfl))) rfl pd_2 rfl rfl (k_len (k_ne (by decide) e0)) dX12_end_39 (fun H locs hP hD hS => ?_)
  have hP : va_P D vwCl [(h0, .inr (12, ((f0.set 0 (.int 1)).set 2 (.int 0))))] H := hP
  have hD : va_D A [(h0, .inr (12, ((f0.set 0 (.int 1)).set 2 (.int 0))))] := hD
  exact W.vret hx hb hr (fun t ht hW => ⟨⟨(), rfl, trivial, kB_mk ht hW hP hK hD⟩, hS.F ht⟩) hS.2.2 dX12_end_42
set_option maxHeartbeats 400000000 in
set_option maxRecDepth 100000 in
theorem c_X12_thrown_1 (l : Launch) (E : kE) (D : va_G) (cI cJ cB cZ : ClassId) (h0 : Nat) (f0 : List Value) (e0 : f0[0]? = some (.int 1)) : kI l E D (kT cI cJ cB cZ) yX12_thrown vW_X12_thrown ({ frames := 0, cells := 0, slots := 0, locals := 0 }) [.ref h0] [(h0, .inr (12, f0))] (1) [(h0, .inr (12, f0))] 0 0 := by
  intro sz
  refine Met.ofW (cc := cX12_thrown) (maxL := 1) (ret := (some .int)) (by decide) rfl ?_
  intro p e s m args below meth c s₁ B hml hv
  obtain ⟨rfl, hsz, hP, hK, hD0, hN, hX⟩ := hv
  have hx := B.exec
  have hb := B.bytes
  have hr := B.returns
  have hts := atoms_spec (ws := vW_X12_thrown) B.pre
  have hown : s.vm.findClass RX12 = some m.cls := findClass_of_methodNamed B.named
  have hlocks := B.notSynchronized
  have hin12 : ∀ w ∈ wsX120, w ∈ vW_X12_thrown := u9_X12_thrown_wsX120
  subst hsz
  have hD := hD0.self (sz := s.heap.size)
  have hAE := k_AE hD0 hX
  generalize hAe : va_A [(h0, .inr (12, f0))] s.heap.size = A at hD hAE ⊢
  have hA : ∀ q : Nat, s.heap.size ≤ q → A q := fun q h => by rw [← hAe]; exact Or.inr h
  have hS : va_S A s.heap s.heap [] := va_S.rf
  have hP : va_P D vwCl [(h0, .inr (12, f0))] s.heap := hP
  have hl := lv_entry ([.ref h0] : List Value) (n := 1) (Nat.le_of_ble_eq_true rfl)
  rw [lg_entry_eq]
  generalize (lg_sl ([.ref h0]) ++ List.replicate (1 - (lg_sl ([.ref h0])).length) Slot.unset).toArray = ls at hl ⊢
  have hl : lv_has ls 1 [(0, .ref h0)] := hl
  refine lv_aload_n hx hb dX12_thrown_0 rfl (lv_at hl 0 rfl) ?_
  refine k_get (D := D) (ci := 12) (v := .int 1) (N := 195) hx hb hts hin12 hown hK hP 0 rfl rfl (by decide) f9_12_0 (hts (.fieldLink RX12 3 "IntegerHouseModel" "thrown" "I") (o9_X12_thrown _ (List.mem_of_getElem? (i := 0) rfl))) e0 dX12_thrown_1 ?_
  exact W.iret (v := 1) hx hb hr (fun t ht hW => ⟨⟨1, (), rfl, rfl, kB_mk ht hW hP hK hD⟩, hS.F ht⟩) hS.2.2 dX12_thrown_4
set_option maxHeartbeats 400000000 in
set_option maxRecDepth 100000 in
theorem c_X11_end_1 (l : Launch) (E : kE) (D : va_G) (cI cJ cB cZ : ClassId) (h0 : Nat) (x0 : Int32) (f0 : List Value) (e0 : (x0 : Int32) < 0) (hl9 : l.stackTraces = false) : kTV l E D (kT cI cJ cB cZ) yX11_end vW_X11_end ({ frames := 6, cells := 1, slots := 6, locals := 82 }) [.ref h0, .int x0] [(h0, .inr (11, f0))] "java/lang/IllegalArgumentException" 1 6 := by
  intro sz
  refine vx_ofW (cc := cX11_end) (maxL := 2) (ret := none) (by decide) rfl ?_
  intro p e s m args below meth c s₁ B hml ht9 hv
  obtain ⟨rfl, hsz, hP, hK, hD0, hN, hX⟩ := hv
  have hx := B.exec
  have hb := B.bytes
  have hr := B.returns
  have hts := atoms_spec (ws := vW_X11_end) B.pre
  have hown : s.vm.findClass RX11 = some m.cls := findClass_of_methodNamed B.named
  have hlocks := B.notSynchronized
  subst hsz
  have hD := hD0.self (sz := s.heap.size)
  have hAE := k_AE hD0 hX
  generalize hAe : va_A [(h0, .inr (11, f0))] s.heap.size = A at hD hAE ⊢
  have hA : ∀ q : Nat, s.heap.size ≤ q → A q := fun q h => by rw [← hAe]; exact Or.inr h
  have hS : va_S A s.heap s.heap [] := va_S.rf
  have hP : va_P D vwCl [(h0, .inr (11, f0))] s.heap := hP
  have hl := lv_entry ([.ref h0, .int x0] : List Value) (n := 2) (Nat.le_of_ble_eq_true rfl)
  rw [lg_entry_eq]
  generalize (lg_sl ([.ref h0, .int x0]) ++ List.replicate (2 - (lg_sl ([.ref h0, .int x0])).length) Slot.unset).toArray = ls at hl ⊢
  have hl : lv_has ls 2 [(0, .ref h0), (1, .int x0)] := hl
  refine lv_iload_n hx hb dX11_end_0 rfl (lv_at hl 1 rfl) ?_
  refine lv_if_lt (tgt := 12) hx hb dX11_end_1 (by decide) (fun _ => ?_) (fun c9 => absurd e0 c9)
  obtain ⟨a9, a9r, a9o⟩ := kX.st hX hAE ("IntegerHouse", 119, "the tape has no such length") (List.mem_of_getElem? (i := 4) rfl)
  exact vx_throwS (names := ["java/lang/RuntimeException", "java/lang/Exception"]) (A := A) hx hb hl9 hown (by decide +kernel) (by decide +kernel) (hts (.classLink RX11 117 "java/lang/IllegalArgumentException") (o9_X11_end _ (List.mem_of_getElem? (i := 1) rfl))) (hts (.initialized "java/lang/IllegalArgumentException") (o9_X11_end _ (List.mem_of_getElem? (i := 2) rfl))) a9r (vx_hat (L := vx_atS RX11 121 "java/lang/IllegalArgumentException" ["java/lang/RuntimeException", "java/lang/Exception"]) (B := [.castable "java/lang/IllegalArgumentException" "java/lang/IllegalArgumentException", .declares (Bundle.initS "java/lang/RuntimeException"), .declares (Bundle.initS "java/lang/Exception"), .declares (Bundle.initS "java/lang/Throwable")]) (fun w h => hts w (x9_X11_end_0 w h)) (by decide +kernel) (vx_c (va_Nw.use rfl (kX.cast hX "java/lang/IllegalArgumentException" (by decide))) (vx_c (va_Nw.use rfl (kX.decl hX "java/lang/RuntimeException" (by decide))) (vx_c (va_Nw.use rfl (kX.decl hX "java/lang/Exception" (by decide))) (vx_c (va_Nw.use rfl (kX.decl hX "java/lang/Throwable" (by decide))) vx_n))))) (by decide +kernel) (kX.us hX hAE) (kX.ss hX hAE) hS (by rw [hml]; exact hl.1) dX11_end_12 dX11_end_15 dX11_end_16 dX11_end_18 dX11_end_21 (fun x hx => (ht9 x hx).elim) (Nat.le_of_ble_eq_true rfl) (Nat.le_of_ble_eq_true rfl) (Nat.le_of_ble_eq_true rfl) (Nat.le_of_ble_eq_true rfl) hlocks (fun t h1 h2 h3 => k_tx hP hK hD hS t h1 h2 h3) hS.2.2 (Nat.le_of_ble_eq_true rfl) (Nat.le_of_ble_eq_true rfl)
set_option maxHeartbeats 400000000 in
set_option maxRecDepth 100000 in
theorem c_L_end_1 (l : Launch) (E : kE) (D : va_G) (cI cJ cB cZ : ClassId) (h0 : Nat) (x0 : Int32) (f0 : List Value) (e0 : (x0 : Int32) < 0) (hl9 : l.stackTraces = false) : kI l E D (kT cI cJ cB cZ) yL_end vW_L_end ({ frames := 7, cells := 1, slots := 6, locals := 103 }) [.ref h0, .int x0] [(h0, .inr (11, f0))] (1) [(h0, .inr (11, f0))] 1 6 := by
  intro sz
  refine k_metH (cc := cL_end) (maxL := 3) (ret := (some .int)) (hh := [(0, 5, 8, 19)]) (by decide) rfl ?_
  intro p e s m args below meth c s₁ B hml hv
  obtain ⟨rfl, hsz, hP, hK, hD0, hN, hX⟩ := hv
  have hx := B.exec
  have hb := B.bytes
  have hr := B.returns
  have hts := atoms_spec (ws := vW_L_end) B.pre
  have hown : s.vm.findClass RL = some m.cls := findClass_of_methodNamed B.named
  have hlocks := B.notSynchronized
  subst hsz
  have hD := hD0.self (sz := s.heap.size)
  have hAE := k_AE hD0 hX
  generalize hAe : va_A [(h0, .inr (11, f0))] s.heap.size = A at hD hAE ⊢
  have hA : ∀ q : Nat, s.heap.size ≤ q → A q := fun q h => by rw [← hAe]; exact Or.inr h
  have hS : va_S A s.heap s.heap [] := va_S.rf
  have hP : va_P D vwCl [(h0, .inr (11, f0))] s.heap := hP
  have hl := lv_entry ([.ref h0, .int x0] : List Value) (n := 3) (Nat.le_of_ble_eq_true rfl)
  rw [lg_entry_eq]
  generalize (lg_sl ([.ref h0, .int x0]) ++ List.replicate (3 - (lg_sl ([.ref h0, .int x0])).length) Slot.unset).toArray = ls at hl ⊢
  have hl : lv_has ls 3 [(0, .ref h0), (1, .int x0)] := hl
  refine lv_aload_n hx hb dL_end_0 rfl (lv_at hl 0 rfl) ?_
  refine lv_iload_n hx hb dL_end_1 rfl (lv_at hl 1 rfl) ?_
  refine k_cTv (As := [.int x0]) (rest := []) (wc := [(h0, .inr (11, f0))]) (wr := []) ⟨hx, hb, hml, hown, hts⟩ hN hX hAE hK hP hD hS hA [0] [] (ci := 11) rfl rfl rfl rfl (by decide +kernel) (by decide +kernel) (by decide +kernel) (c_X11_end_1 l E D cI cJ cB cZ h0 x0 f0 e0 hl9) (cwV 1 hts g9_L_end_X11_end_15 rfl rfl rfl (by decide +kernel) ⟨Nat.le_of_ble_eq_true rfl, Nat.le_of_ble_eq_true rfl⟩) rfl hl.1 (Nat.le_of_ble_eq_true rfl) dL_end_2 ⟨Nat.le_of_ble_eq_true rfl, Nat.le_of_ble_eq_true rfl⟩ (fun q9 ce H locs hP hD hS hce hcv hcl => ?_)
  have hP : va_P D vwCl [(h0, .inr (11, f0))] H := hP
  have hD : va_D A [(h0, .inr (11, f0))] := hD
  refine vx_catch (own := RL) (name := "java/lang/IllegalArgumentException") hown [] ⟨0, 5, 8, 19⟩ [] (vx_table (x := yL_end) B (hts _ List.mem_cons_self)) (fun z hz => absurd hz List.not_mem_nil) (by decide) (by decide) (hts (.classLink RL 19 "java/lang/IllegalArgumentException") (o9_L_end _ (List.mem_of_getElem? (i := 4) rfl))) (va_Nw.use rfl (kX.cast hX "java/lang/IllegalArgumentException" (by decide))) hce hcv hcl ?_
  refine W.eq (g2 := F0 m 8 ls [.ref q9]) rfl ?_
  refine W.widen (k := 1) (n := 6) (Nat.le_of_ble_eq_true rfl) (Nat.le_of_ble_eq_true rfl) ?_
  refine lv_astore_n (lv' := [(2, .ref q9), (0, .ref h0), (1, .int x0)]) hx hb dL_end_8 rfl hl (by decide) rfl (fun ls hl => ?_)
  refine lv_iconst (v := 1) hx hb dL_end_9 (by decide) ?_
  exact W.iret (v := 1) hx hb hr (fun t ht hW => ⟨⟨1, (), rfl, rfl, kB_mk ht hW hP hK hD⟩, hS.F ht⟩) hS.2.2 dL_end_10
set_option maxHeartbeats 400000000 in
set_option maxRecDepth 100000 in
theorem c_X12_in_1 (l : Launch) (E : kE) (D : va_G) (cI cJ cB cZ : ClassId) (y0 : Int64) (e0 : ((lg_cmp y0 0) : Int32) < 0) : kI l E D (kT cI cJ cB cZ) yX12_in vW_X12_in ({ frames := 0, cells := 0, slots := 0, locals := 0 }) [.long y0, .long 0, .long 0] [] (0) [] 0 0 := by
  intro sz
  refine Met.ofW (cc := cX12_in) (maxL := 6) (ret := (some .boolean)) (by decide) rfl ?_
  intro p e s m args below meth c s₁ B hml hv
  obtain ⟨rfl, hsz, hP, hK, hD0, hN, hX⟩ := hv
  have hx := B.exec
  have hb := B.bytes
  have hr := B.returns
  have hts := atoms_spec (ws := vW_X12_in) B.pre
  have hown : s.vm.findClass RX12 = some m.cls := findClass_of_methodNamed B.named
  have hlocks := B.notSynchronized
  subst hsz
  have hD := hD0.self (sz := s.heap.size)
  have hAE := k_AE hD0 hX
  generalize hAe : va_A [] s.heap.size = A at hD hAE ⊢
  have hA : ∀ q : Nat, s.heap.size ≤ q → A q := fun q h => by rw [← hAe]; exact Or.inr h
  have hS : va_S A s.heap s.heap [] := va_S.rf
  have hP : va_P D vwCl [] s.heap := hP
  have hl := lv_entry ([.long y0, .long 0, .long 0] : List Value) (n := 6) (Nat.le_of_ble_eq_true rfl)
  rw [lg_entry_eq]
  generalize (lg_sl ([.long y0, .long 0, .long 0]) ++ List.replicate (6 - (lg_sl ([.long y0, .long 0, .long 0])).length) Slot.unset).toArray = ls at hl ⊢
  have hl : lv_has ls 6 [(0, .long y0), (2, .long 0), (4, .long 0)] := hl
  refine lv_lload_n hx hb dX12_in_0 rfl (lv_at hl 0 rfl) ?_
  refine lv_lload_n hx hb dX12_in_1 rfl (lv_at hl 1 rfl) ?_
  refine W.lcmp hx hb dX12_in_2 ?_
  refine lv_if_lt (tgt := 17) hx hb dX12_in_3 (by decide) (fun _ => ?_) (fun c9 => absurd e0 c9)
  refine lv_iconst (v := 0) hx hb dX12_in_17 (by decide) ?_
  exact W.zret (v := 0) hx hb hr rfl (fun t ht hW => ⟨⟨0, (), rfl, rfl, kB_mk ht hW hP hK hD⟩, hS.F ht⟩) hS.2.2 dX12_in_18
set_option maxHeartbeats 400000000 in
set_option maxRecDepth 100000 in
theorem c_X12_end_1 (l : Launch) (E : kE) (D : va_G) (cI cJ cB cZ : ClassId) (h0 : Nat) (x0 : Int32) (f0 : List Value) (e0 : f0[2]? = some (.int 0)) (e1 : (x0 : Int32) < 0) (e2 : f0[0]? = some (.int 0)) : kV l E D (kT cI cJ cB cZ) yX12_end vW_X12_end ({ frames := 1, cells := 0, slots := 0, locals := 25 }) [.ref h0, .int x0] [(h0, .inr (12, f0))] (fun _ : Unit => [(h0, .inr (12, ((f0.set 0 (.int 1)).set 2 (.int 0))))]) 0 0 := by
  intro sz
  refine Met.ofW (cc := cX12_end) (maxL := 2) (ret := none) (by decide) rfl ?_
  intro p e s m args below meth c s₁ B hml hv
  obtain ⟨rfl, hsz, hP, hK, hD0, hN, hX⟩ := hv
  have hx := B.exec
  have hb := B.bytes
  have hr := B.returns
  have hts := atoms_spec (ws := vW_X12_end) B.pre
  have hown : s.vm.findClass RX12 = some m.cls := findClass_of_methodNamed B.named
  have hlocks := B.notSynchronized
  have hin12 : ∀ w ∈ wsX120, w ∈ vW_X12_end := u9_X12_end_wsX120
  subst hsz
  have hD := hD0.self (sz := s.heap.size)
  have hAE := k_AE hD0 hX
  generalize hAe : va_A [(h0, .inr (12, f0))] s.heap.size = A at hD hAE ⊢
  have hA : ∀ q : Nat, s.heap.size ≤ q → A q := fun q h => by rw [← hAe]; exact Or.inr h
  have hS : va_S A s.heap s.heap [] := va_S.rf
  have hP : va_P D vwCl [(h0, .inr (12, f0))] s.heap := hP
  have hl := lv_entry ([.ref h0, .int x0] : List Value) (n := 2) (Nat.le_of_ble_eq_true rfl)
  rw [lg_entry_eq]
  generalize (lg_sl ([.ref h0, .int x0]) ++ List.replicate (2 - (lg_sl ([.ref h0, .int x0])).length) Slot.unset).toArray = ls at hl ⊢
  have hl : lv_has ls 2 [(0, .ref h0), (1, .int x0)] := hl
  refine lv_aload_n hx hb dX12_end_0 rfl (lv_at hl 0 rfl) ?_
  refine lv_iload_n hx hb dX12_end_1 rfl (lv_at hl 1 rfl) ?_
  refine lv_i2l (v := (Int32.toInt64 x0)) hx hb dX12_end_2 rfl ?_
  refine lv_lconst (v := 0) hx hb dX12_end_3 (by decide) ?_
  refine lv_aload_n hx hb dX12_end_4 rfl (lv_at hl 0 rfl) ?_
  refine k_get (D := D) (ci := 12) (v := .int 0) (N := 195) hx hb hts hin12 hown hK hP 0 rfl rfl (by decide) f9_12_2 (hts (.fieldLink RX12 485 "IntegerHouseModel" "taped" "I") (o9_X12_end _ (List.mem_of_getElem? (i := 0) rfl))) e0 dX12_end_5 ?_
  refine lv_i2l (v := 0) hx hb dX12_end_8 (by decide) ?_
  refine k_cSi (As := [.long (Int32.toInt64 x0), .long 0, .long 0]) (rest := [.ref h0]) (wc := []) (wr := [(h0, .inr (12, f0))]) (w1 := []) ⟨hx, hb, hml, hown, hts⟩ hN hX hAE hK hP hD hS hA [] [0] rfl rfl (by decide +kernel) (by decide +kernel) (by decide +kernel) (c_X12_in_1 l E D cI cJ cB cZ (Int32.toInt64 x0) ((k_n4 (x := x0) (c := 0) (C := 0) (by decide)).mpr e1)) (va_cwS 3 hts g9_X12_end_X12_in_504 rfl rfl rfl (by decide +kernel) ⟨Nat.le_of_ble_eq_true rfl, Nat.le_of_ble_eq_true rfl⟩) rfl hl.1 (Nat.le_of_ble_eq_true rfl) dX12_end_9 ⟨Nat.le_of_ble_eq_true rfl, Nat.le_of_ble_eq_true rfl⟩ (fun H locs hP hD hS => ?_)
  have hP : va_P D vwCl [(h0, .inr (12, f0))] H := hP
  have hD : va_D A [(h0, .inr (12, f0))] := hD
  refine lv_if_eq (tgt := 19) hx hb dX12_end_12 (by decide) (fun _ => ?_) (fun c9 => absurd (by decide) c9)
  refine lv_iconst (v := 1) hx hb dX12_end_19 (by decide) ?_
  refine k_put (D := D) (ci := 12) (v := .int 1) (ty := .int) (N := 195) hx hb hts hin12 tyX12 tyX12_ok nmX12 hown hK hP hD hS 0 rfl rfl (by decide) f9_12_0 (hts (.fieldLink RX12 3 "IntegerHouseModel" "thrown" "I") (o9_X12_end _ (List.mem_of_getElem? (i := 4) rfl))) rfl pd_2 rfl rfl (k_len e2) dX12_end_20 (fun H locs hP hD hS => ?_)
  have hP : va_P D vwCl [(h0, .inr (12, (f0.set 0 (.int 1))))] H := hP
  have hD : va_D A [(h0, .inr (12, (f0.set 0 (.int 1))))] := hD
  refine lv_aload_n hx hb dX12_end_23 rfl (lv_at hl 0 rfl) ?_
  refine lv_aload_n hx hb dX12_end_24 rfl (lv_at hl 0 rfl) ?_
  refine k_get (D := D) (ci := 12) (v := .int 1) (N := 195) hx hb hts hin12 hown hK hP 0 rfl rfl (by decide) f9_12_0 (hts (.fieldLink RX12 3 "IntegerHouseModel" "thrown" "I") (o9_X12_end _ (List.mem_of_getElem? (i := 4) rfl))) (k_set e2) dX12_end_25 ?_
  refine lv_if_le (tgt := 38) hx hb dX12_end_28 (by decide) (fun c9 => absurd c9 (by decide)) (fun _ => ?_)
  refine lv_aload_n hx hb dX12_end_31 rfl (lv_at hl 0 rfl) ?_
  refine k_get (D := D) (ci := 12) (v := .int 0) (N := 195) hx hb hts hin12 hown hK hP 0 rfl rfl (by decide) f9_12_2 (hts (.fieldLink RX12 485 "IntegerHouseModel" "taped" "I") (o9_X12_end _ (List.mem_of_getElem? (i := 0) rfl))) (k_ne (by decide) e0) dX12_end_32 ?_
  refine lv_goto (tgt := 39) hx hb dX12_end_35 (by decide) ?_
  refine k_put (D := D) (ci := 12) (v := .int 0) (ty := .int) (N := 195) hx hb hts hin12 tyX12 tyX12_ok nmX12 hown hK hP hD hS 0 rfl rfl (by decide) f9_12_2 (hts (.fieldLink RX12 485 "IntegerHouseModel" "taped" "I") (o9_X12_end _ (List.mem_of_getElem? (i := 0) rfl))) rfl pd_2 rfl rfl (k_len (k_ne (by decide) e0)) dX12_end_39 (fun H locs hP hD hS => ?_)
  have hP : va_P D vwCl [(h0, .inr (12, ((f0.set 0 (.int 1)).set 2 (.int 0))))] H := hP
  have hD : va_D A [(h0, .inr (12, ((f0.set 0 (.int 1)).set 2 (.int 0))))] := hD
  exact W.vret hx hb hr (fun t ht hW => ⟨⟨(), rfl, trivial, kB_mk ht hW hP hK hD⟩, hS.F ht⟩) hS.2.2 dX12_end_42
set_option maxHeartbeats 400000000 in
set_option maxRecDepth 100000 in
theorem c_X11_end_2 (l : Launch) (E : kE) (D : va_G) (cI cJ cB cZ : ClassId) (h0 : Nat) (x0 : Int32) (f0 : List Value) (e0 : ¬ ((x0 : Int32) < 0)) (e1 : f0[12]? = some (.int 0)) (e2 : (x0 : Int32) < 1) : kV l E D (kT cI cJ cB cZ) yX11_end vW_X11_end ({ frames := 0, cells := 0, slots := 0, locals := 0 }) [.ref h0, .int x0] [(h0, .inr (11, f0))] (fun _ : Unit => [(h0, .inr (11, (f0.set 12 (.int x0))))]) 0 0 := by
  intro sz
  refine Met.ofW (cc := cX11_end) (maxL := 2) (ret := none) (by decide) rfl ?_
  intro p e s m args below meth c s₁ B hml hv
  obtain ⟨rfl, hsz, hP, hK, hD0, hN, hX⟩ := hv
  have hx := B.exec
  have hb := B.bytes
  have hr := B.returns
  have hts := atoms_spec (ws := vW_X11_end) B.pre
  have hown : s.vm.findClass RX11 = some m.cls := findClass_of_methodNamed B.named
  have hlocks := B.notSynchronized
  have hin11 : ∀ w ∈ wsX110, w ∈ vW_X11_end := u9_X11_end_wsX110
  subst hsz
  have hD := hD0.self (sz := s.heap.size)
  have hAE := k_AE hD0 hX
  generalize hAe : va_A [(h0, .inr (11, f0))] s.heap.size = A at hD hAE ⊢
  have hA : ∀ q : Nat, s.heap.size ≤ q → A q := fun q h => by rw [← hAe]; exact Or.inr h
  have hS : va_S A s.heap s.heap [] := va_S.rf
  have hP : va_P D vwCl [(h0, .inr (11, f0))] s.heap := hP
  have hl := lv_entry ([.ref h0, .int x0] : List Value) (n := 2) (Nat.le_of_ble_eq_true rfl)
  rw [lg_entry_eq]
  generalize (lg_sl ([.ref h0, .int x0]) ++ List.replicate (2 - (lg_sl ([.ref h0, .int x0])).length) Slot.unset).toArray = ls at hl ⊢
  have hl : lv_has ls 2 [(0, .ref h0), (1, .int x0)] := hl
  refine lv_iload_n hx hb dX11_end_0 rfl (lv_at hl 1 rfl) ?_
  refine lv_if_lt (tgt := 12) hx hb dX11_end_1 (by decide) (fun c9 => absurd c9 e0) (fun _ => ?_)
  refine lv_iload_n hx hb dX11_end_4 rfl (lv_at hl 1 rfl) ?_
  refine lv_aload_n hx hb dX11_end_5 rfl (lv_at hl 0 rfl) ?_
  refine k_get (D := D) (ci := 11) (v := .int 0) (N := 15) hx hb hts hin11 hown hK hP 0 rfl rfl (by decide) f9_11_12 (hts (.fieldLink RX11 102 "IntegerHouse" "tapeLength" "I") (o9_X11_end _ (List.mem_of_getElem? (i := 0) rfl))) e1 dX11_end_6 ?_
  refine lv_icmp_le (tgt := 22) hx hb dX11_end_9 (by decide) (fun _ => ?_) (fun c9 => absurd ((k_n1 (x := x0) (c := 0) (d := 1) (by decide)).mpr e2) c9)
  refine lv_aload_n hx hb dX11_end_22 rfl (lv_at hl 0 rfl) ?_
  refine lv_iload_n hx hb dX11_end_23 rfl (lv_at hl 1 rfl) ?_
  refine k_put (D := D) (ci := 11) (v := .int x0) (ty := .int) (N := 15) hx hb hts hin11 tyX11 tyX11_ok nmX11 hown hK hP hD hS 0 rfl rfl (by decide) f9_11_12 (hts (.fieldLink RX11 102 "IntegerHouse" "tapeLength" "I") (o9_X11_end _ (List.mem_of_getElem? (i := 0) rfl))) rfl pd_2 rfl rfl (k_len e1) dX11_end_24 (fun H locs hP hD hS => ?_)
  have hP : va_P D vwCl [(h0, .inr (11, (f0.set 12 (.int x0))))] H := hP
  have hD : va_D A [(h0, .inr (11, (f0.set 12 (.int x0))))] := hD
  exact W.vret hx hb hr (fun t ht hW => ⟨⟨(), rfl, trivial, kB_mk ht hW hP hK hD⟩, hS.F ht⟩) hS.2.2 dX11_end_27
set_option maxHeartbeats 400000000 in
set_option maxRecDepth 100000 in
theorem c_L_end_2 (l : Launch) (E : kE) (D : va_G) (cI cJ cB cZ : ClassId) (h0 : Nat) (x0 : Int32) (f0 : List Value) (e0 : f0[12]? = some (.int 0)) (e1 : ¬ ((x0 : Int32) < 0)) (e2 : (x0 : Int32) < 1) : kI l E D (kT cI cJ cB cZ) yL_end vW_L_end ({ frames := 1, cells := 0, slots := 0, locals := 21 }) [.ref h0, .int x0] [(h0, .inr (11, f0))] (0) [(h0, .inr (11, (f0.set 12 (.int x0))))] 0 0 := by
  intro sz
  refine k_metH (cc := cL_end) (maxL := 3) (ret := (some .int)) (hh := [(0, 5, 8, 19)]) (by decide) rfl ?_
  intro p e s m args below meth c s₁ B hml hv
  obtain ⟨rfl, hsz, hP, hK, hD0, hN, hX⟩ := hv
  have hx := B.exec
  have hb := B.bytes
  have hr := B.returns
  have hts := atoms_spec (ws := vW_L_end) B.pre
  have hown : s.vm.findClass RL = some m.cls := findClass_of_methodNamed B.named
  have hlocks := B.notSynchronized
  subst hsz
  have hD := hD0.self (sz := s.heap.size)
  have hAE := k_AE hD0 hX
  generalize hAe : va_A [(h0, .inr (11, f0))] s.heap.size = A at hD hAE ⊢
  have hA : ∀ q : Nat, s.heap.size ≤ q → A q := fun q h => by rw [← hAe]; exact Or.inr h
  have hS : va_S A s.heap s.heap [] := va_S.rf
  have hP : va_P D vwCl [(h0, .inr (11, f0))] s.heap := hP
  have hl := lv_entry ([.ref h0, .int x0] : List Value) (n := 3) (Nat.le_of_ble_eq_true rfl)
  rw [lg_entry_eq]
  generalize (lg_sl ([.ref h0, .int x0]) ++ List.replicate (3 - (lg_sl ([.ref h0, .int x0])).length) Slot.unset).toArray = ls at hl ⊢
  have hl : lv_has ls 3 [(0, .ref h0), (1, .int x0)] := hl
  refine lv_aload_n hx hb dL_end_0 rfl (lv_at hl 0 rfl) ?_
  refine lv_iload_n hx hb dL_end_1 rfl (lv_at hl 1 rfl) ?_
  refine k_cVv (As := [.int x0]) (rest := []) (wc := [(h0, .inr (11, f0))]) (wr := []) (w1 := (fun _ : Unit => [(h0, .inr (11, (f0.set 12 (.int x0))))])) ⟨hx, hb, hml, hown, hts⟩ hN hX hAE hK hP hD hS hA [0] [] (ci := 11) rfl rfl rfl rfl (by decide +kernel) (by decide +kernel) (by decide +kernel) (c_X11_end_2 l E D cI cJ cB cZ h0 x0 f0 e1 e0 e2) (cwV 1 hts g9_L_end_X11_end_15 rfl rfl rfl (by decide +kernel) ⟨Nat.le_of_ble_eq_true rfl, Nat.le_of_ble_eq_true rfl⟩) rfl hl.1 (Nat.le_of_ble_eq_true rfl) dL_end_2 ⟨Nat.le_of_ble_eq_true rfl, Nat.le_of_ble_eq_true rfl⟩ (fun _ H locs hP hD hS => ?_)
  have hP : va_P D vwCl [(h0, .inr (11, (f0.set 12 (.int x0))))] H := hP
  have hD : va_D A [(h0, .inr (11, (f0.set 12 (.int x0))))] := hD
  refine lv_goto (tgt := 11) hx hb dL_end_5 (by decide) ?_
  refine lv_iconst (v := 0) hx hb dL_end_11 (by decide) ?_
  exact W.iret (v := 0) hx hb hr (fun t ht hW => ⟨⟨0, (), rfl, rfl, kB_mk ht hW hP hK hD⟩, hS.F ht⟩) hS.2.2 dL_end_12
set_option maxHeartbeats 400000000 in
set_option maxRecDepth 100000 in
theorem c_X12_in_2 (l : Launch) (E : kE) (D : va_G) (cI cJ cB cZ : ClassId) (y0 : Int64) (e0 : ¬ (((lg_cmp y0 0) : Int32) < 0)) (e1 : ¬ ((0 : Int32) < (lg_cmp y0 0))) : kI l E D (kT cI cJ cB cZ) yX12_in vW_X12_in ({ frames := 0, cells := 0, slots := 0, locals := 0 }) [.long y0, .long 0, .long 0] [] (1) [] 0 0 := by
  intro sz
  refine Met.ofW (cc := cX12_in) (maxL := 6) (ret := (some .boolean)) (by decide) rfl ?_
  intro p e s m args below meth c s₁ B hml hv
  obtain ⟨rfl, hsz, hP, hK, hD0, hN, hX⟩ := hv
  have hx := B.exec
  have hb := B.bytes
  have hr := B.returns
  have hts := atoms_spec (ws := vW_X12_in) B.pre
  have hown : s.vm.findClass RX12 = some m.cls := findClass_of_methodNamed B.named
  have hlocks := B.notSynchronized
  subst hsz
  have hD := hD0.self (sz := s.heap.size)
  have hAE := k_AE hD0 hX
  generalize hAe : va_A [] s.heap.size = A at hD hAE ⊢
  have hA : ∀ q : Nat, s.heap.size ≤ q → A q := fun q h => by rw [← hAe]; exact Or.inr h
  have hS : va_S A s.heap s.heap [] := va_S.rf
  have hP : va_P D vwCl [] s.heap := hP
  have hl := lv_entry ([.long y0, .long 0, .long 0] : List Value) (n := 6) (Nat.le_of_ble_eq_true rfl)
  rw [lg_entry_eq]
  generalize (lg_sl ([.long y0, .long 0, .long 0]) ++ List.replicate (6 - (lg_sl ([.long y0, .long 0, .long 0])).length) Slot.unset).toArray = ls at hl ⊢
  have hl : lv_has ls 6 [(0, .long y0), (2, .long 0), (4, .long 0)] := hl
  refine lv_lload_n hx hb dX12_in_0 rfl (lv_at hl 0 rfl) ?_
  refine lv_lload_n hx hb dX12_in_1 rfl (lv_at hl 1 rfl) ?_
  refine W.lcmp hx hb dX12_in_2 ?_
  refine lv_if_lt (tgt := 17) hx hb dX12_in_3 (by decide) (fun c9 => absurd c9 e0) (fun _ => ?_)
  refine lv_lload_n hx hb dX12_in_6 rfl (lv_at hl 0 rfl) ?_
  refine lv_lload hx hb dX12_in_7 (lv_at hl 2 rfl) ?_
  refine W.lcmp hx hb dX12_in_9 ?_
  refine lv_if_gt (tgt := 17) hx hb dX12_in_10 (by decide) (fun c9 => absurd c9 e1) (fun _ => ?_)
  refine lv_iconst (v := 1) hx hb dX12_in_13 (by decide) ?_
  refine lv_goto (tgt := 18) hx hb dX12_in_14 (by decide) ?_
  exact W.zret (v := 1) hx hb hr rfl (fun t ht hW => ⟨⟨1, (), rfl, rfl, kB_mk ht hW hP hK hD⟩, hS.F ht⟩) hS.2.2 dX12_in_18
set_option maxHeartbeats 400000000 in
set_option maxRecDepth 100000 in
theorem c_X12_end_2 (l : Launch) (E : kE) (D : va_G) (cI cJ cB cZ : ClassId) (h0 : Nat) (x0 : Int32) (f0 : List Value) (e0 : f0[2]? = some (.int 0)) (e1 : ¬ ((x0 : Int32) < 0)) (e2 : (x0 : Int32) < 1) (e3 : f0[0]? = some (.int 0)) : kV l E D (kT cI cJ cB cZ) yX12_end vW_X12_end ({ frames := 1, cells := 0, slots := 0, locals := 25 }) [.ref h0, .int x0] [(h0, .inr (12, f0))] (fun _ : Unit => [(h0, .inr (12, ((f0.set 0 (.int 0)).set 2 (.int x0))))]) 0 0 := by
  intro sz
  refine Met.ofW (cc := cX12_end) (maxL := 2) (ret := none) (by decide) rfl ?_
  intro p e s m args below meth c s₁ B hml hv
  obtain ⟨rfl, hsz, hP, hK, hD0, hN, hX⟩ := hv
  have hx := B.exec
  have hb := B.bytes
  have hr := B.returns
  have hts := atoms_spec (ws := vW_X12_end) B.pre
  have hown : s.vm.findClass RX12 = some m.cls := findClass_of_methodNamed B.named
  have hlocks := B.notSynchronized
  have hin12 : ∀ w ∈ wsX120, w ∈ vW_X12_end := u9_X12_end_wsX120
  subst hsz
  have hD := hD0.self (sz := s.heap.size)
  have hAE := k_AE hD0 hX
  generalize hAe : va_A [(h0, .inr (12, f0))] s.heap.size = A at hD hAE ⊢
  have hA : ∀ q : Nat, s.heap.size ≤ q → A q := fun q h => by rw [← hAe]; exact Or.inr h
  have hS : va_S A s.heap s.heap [] := va_S.rf
  have hP : va_P D vwCl [(h0, .inr (12, f0))] s.heap := hP
  have hl := lv_entry ([.ref h0, .int x0] : List Value) (n := 2) (Nat.le_of_ble_eq_true rfl)
  rw [lg_entry_eq]
  generalize (lg_sl ([.ref h0, .int x0]) ++ List.replicate (2 - (lg_sl ([.ref h0, .int x0])).length) Slot.unset).toArray = ls at hl ⊢
  have hl : lv_has ls 2 [(0, .ref h0), (1, .int x0)] := hl
  refine lv_aload_n hx hb dX12_end_0 rfl (lv_at hl 0 rfl) ?_
  refine lv_iload_n hx hb dX12_end_1 rfl (lv_at hl 1 rfl) ?_
  refine lv_i2l (v := (Int32.toInt64 x0)) hx hb dX12_end_2 rfl ?_
  refine lv_lconst (v := 0) hx hb dX12_end_3 (by decide) ?_
  refine lv_aload_n hx hb dX12_end_4 rfl (lv_at hl 0 rfl) ?_
  refine k_get (D := D) (ci := 12) (v := .int 0) (N := 195) hx hb hts hin12 hown hK hP 0 rfl rfl (by decide) f9_12_2 (hts (.fieldLink RX12 485 "IntegerHouseModel" "taped" "I") (o9_X12_end _ (List.mem_of_getElem? (i := 0) rfl))) e0 dX12_end_5 ?_
  refine lv_i2l (v := 0) hx hb dX12_end_8 (by decide) ?_
  refine k_cSi (As := [.long (Int32.toInt64 x0), .long 0, .long 0]) (rest := [.ref h0]) (wc := []) (wr := [(h0, .inr (12, f0))]) (w1 := []) ⟨hx, hb, hml, hown, hts⟩ hN hX hAE hK hP hD hS hA [] [0] rfl rfl (by decide +kernel) (by decide +kernel) (by decide +kernel) (c_X12_in_2 l E D cI cJ cB cZ (Int32.toInt64 x0) (fun z9 => e1 ((k_n4 (x := x0) (c := 0) (C := 0) (by decide)).mp z9)) (fun z9 => (k_n5 (x := x0) (c := 0) (d := 1) (C := 0) (by decide) (by decide)).mp z9 e2)) (va_cwS 3 hts g9_X12_end_X12_in_504 rfl rfl rfl (by decide +kernel) ⟨Nat.le_of_ble_eq_true rfl, Nat.le_of_ble_eq_true rfl⟩) rfl hl.1 (Nat.le_of_ble_eq_true rfl) dX12_end_9 ⟨Nat.le_of_ble_eq_true rfl, Nat.le_of_ble_eq_true rfl⟩ (fun H locs hP hD hS => ?_)
  have hP : va_P D vwCl [(h0, .inr (12, f0))] H := hP
  have hD : va_D A [(h0, .inr (12, f0))] := hD
  refine lv_if_eq (tgt := 19) hx hb dX12_end_12 (by decide) (fun c9 => absurd c9 (by decide)) (fun _ => ?_)
  refine lv_iconst (v := 0) hx hb dX12_end_15 (by decide) ?_
  refine lv_goto (tgt := 20) hx hb dX12_end_16 (by decide) ?_
  refine k_put (D := D) (ci := 12) (v := .int 0) (ty := .int) (N := 195) hx hb hts hin12 tyX12 tyX12_ok nmX12 hown hK hP hD hS 0 rfl rfl (by decide) f9_12_0 (hts (.fieldLink RX12 3 "IntegerHouseModel" "thrown" "I") (o9_X12_end _ (List.mem_of_getElem? (i := 4) rfl))) rfl pd_2 rfl rfl (k_len e3) dX12_end_20 (fun H locs hP hD hS => ?_)
  have hP : va_P D vwCl [(h0, .inr (12, (f0.set 0 (.int 0))))] H := hP
  have hD : va_D A [(h0, .inr (12, (f0.set 0 (.int 0))))] := hD
  refine lv_aload_n hx hb dX12_end_23 rfl (lv_at hl 0 rfl) ?_
  refine lv_aload_n hx hb dX12_end_24 rfl (lv_at hl 0 rfl) ?_
  refine k_get (D := D) (ci := 12) (v := .int 0) (N := 195) hx hb hts hin12 hown hK hP 0 rfl rfl (by decide) f9_12_0 (hts (.fieldLink RX12 3 "IntegerHouseModel" "thrown" "I") (o9_X12_end _ (List.mem_of_getElem? (i := 4) rfl))) (k_set e3) dX12_end_25 ?_
  refine lv_if_le (tgt := 38) hx hb dX12_end_28 (by decide) (fun _ => ?_) (fun c9 => absurd (by decide) c9)
  refine lv_iload_n hx hb dX12_end_38 rfl (lv_at hl 1 rfl) ?_
  refine k_put (D := D) (ci := 12) (v := .int x0) (ty := .int) (N := 195) hx hb hts hin12 tyX12 tyX12_ok nmX12 hown hK hP hD hS 0 rfl rfl (by decide) f9_12_2 (hts (.fieldLink RX12 485 "IntegerHouseModel" "taped" "I") (o9_X12_end _ (List.mem_of_getElem? (i := 0) rfl))) rfl pd_2 rfl rfl (k_len (k_ne (by decide) e0)) dX12_end_39 (fun H locs hP hD hS => ?_)
  have hP : va_P D vwCl [(h0, .inr (12, ((f0.set 0 (.int 0)).set 2 (.int x0))))] H := hP
  have hD : va_D A [(h0, .inr (12, ((f0.set 0 (.int 0)).set 2 (.int x0))))] := hD
  exact W.vret hx hb hr (fun t ht hW => ⟨⟨(), rfl, trivial, kB_mk ht hW hP hK hD⟩, hS.F ht⟩) hS.2.2 dX12_end_42
set_option maxHeartbeats 400000000 in
set_option maxRecDepth 100000 in
theorem c_X1_writeAll_0 (l : Launch) (E : kE) (D : va_G) (cI cJ cB cZ : ClassId) (h0 : Nat) (f0 : List Value) (e0 : f0[4]? = some (.int 0)) (e1 : f0[5]? = some (.int 0)) : kI l E D (kT cI cJ cB cZ) yX1_writeAll vW_X1_writeAll ({ frames := 0, cells := 0, slots := 0, locals := 0 }) [.ref h0] [(h0, .inr (1, f0))] (0) [(h0, .inr (1, ((f0.set 5 (.int 0)).set 4 (.int 0))))] 0 0 := by
  intro sz
  refine Met.ofW (cc := cX1_writeAll) (maxL := 3) (ret := (some .int)) (by decide) rfl ?_
  intro p e s m args below meth c s₁ B hml hv
  obtain ⟨rfl, hsz, hP, hK, hD0, hN, hX⟩ := hv
  have hx := B.exec
  have hb := B.bytes
  have hr := B.returns
  have hts := atoms_spec (ws := vW_X1_writeAll) B.pre
  have hown : s.vm.findClass RX1 = some m.cls := findClass_of_methodNamed B.named
  have hlocks := B.notSynchronized
  have hin1 : ∀ w ∈ wsX10, w ∈ vW_X1_writeAll := u9_X1_writeAll_wsX10
  subst hsz
  have hD := hD0.self (sz := s.heap.size)
  have hAE := k_AE hD0 hX
  generalize hAe : va_A [(h0, .inr (1, f0))] s.heap.size = A at hD hAE ⊢
  have hA : ∀ q : Nat, s.heap.size ≤ q → A q := fun q h => by rw [← hAe]; exact Or.inr h
  have hS : va_S A s.heap s.heap [] := va_S.rf
  have hP : va_P D vwCl [(h0, .inr (1, f0))] s.heap := hP
  have hl := lv_entry ([.ref h0] : List Value) (n := 3) (Nat.le_of_ble_eq_true rfl)
  rw [lg_entry_eq]
  generalize (lg_sl ([.ref h0]) ++ List.replicate (3 - (lg_sl ([.ref h0])).length) Slot.unset).toArray = ls at hl ⊢
  have hl : lv_has ls 3 [(0, .ref h0)] := hl
  refine lv_aload_n hx hb dX1_writeAll_0 rfl (lv_at hl 0 rfl) ?_
  refine k_get (D := D) (ci := 1) (v := .int 0) (N := 9) hx hb hts hin1 hown hK hP 0 rfl rfl (by decide) f9_1_4 (hts (.fieldLink RX1 40 "IntegerHouse$Disk" "waiting" "I") (o9_X1_writeAll _ (List.mem_of_getElem? (i := 0) rfl))) e0 dX1_writeAll_1 ?_
  refine lv_sipush (v := 248) hx hb dX1_writeAll_4 (by decide) ?_
  refine lv_iadd hx hb dX1_writeAll_7 ?_
  refine k_topi (y := 248) (by decide) ?_
  refine lv_iconst (v := 1) hx hb dX1_writeAll_8 (by decide) ?_
  refine lv_isub hx hb dX1_writeAll_9 ?_
  refine k_topi (y := 247) (by decide) ?_
  refine lv_sipush (v := 248) hx hb dX1_writeAll_10 (by decide) ?_
  refine lv_idiv hx hb dX1_writeAll_13 (by decide) ?_
  refine k_topi (y := 0) (by decide) ?_
  refine lv_istore_n (lv' := [(1, .int 0), (0, .ref h0)]) hx hb dX1_writeAll_14 rfl hl (by decide) rfl (fun ls hl => ?_)
  refine lv_iconst (v := 0) hx hb dX1_writeAll_15 (by decide) ?_
  refine lv_istore_n (lv' := [(2, .int 0), (1, .int 0), (0, .ref h0)]) hx hb dX1_writeAll_16 rfl hl (by decide) rfl (fun ls hl => ?_)
  refine lv_iload_n hx hb dX1_writeAll_17 rfl (lv_at hl 0 rfl) ?_
  refine lv_iload_n hx hb dX1_writeAll_18 rfl (lv_at hl 1 rfl) ?_
  refine lv_icmp_ge (tgt := 68) hx hb dX1_writeAll_19 (by decide) (fun _ => ?_) (fun c9 => absurd (by decide) c9)
  refine lv_aload_n hx hb dX1_writeAll_68 rfl (lv_at hl 2 rfl) ?_
  refine lv_dup hx hb dX1_writeAll_69 rfl ?_
  refine k_get (D := D) (ci := 1) (v := .int 0) (N := 9) hx hb hts hin1 hown hK hP 0 rfl rfl (by decide) f9_1_5 (hts (.fieldLink RX1 43 "IntegerHouse$Disk" "used" "I") (o9_X1_writeAll _ (List.mem_of_getElem? (i := 1) rfl))) e1 dX1_writeAll_70 ?_
  refine lv_iload_n hx hb dX1_writeAll_73 rfl (lv_at hl 1 rfl) ?_
  refine lv_iadd hx hb dX1_writeAll_74 ?_
  refine k_topi (y := 0) (by decide) ?_
  refine k_put (D := D) (ci := 1) (v := .int 0) (ty := .int) (N := 9) hx hb hts hin1 tyX1 tyX1_ok nmX1 hown hK hP hD hS 0 rfl rfl (by decide) f9_1_5 (hts (.fieldLink RX1 43 "IntegerHouse$Disk" "used" "I") (o9_X1_writeAll _ (List.mem_of_getElem? (i := 1) rfl))) rfl pd_2 rfl rfl (k_len e1) dX1_writeAll_75 (fun H locs hP hD hS => ?_)
  have hP : va_P D vwCl [(h0, .inr (1, (f0.set 5 (.int 0))))] H := hP
  have hD : va_D A [(h0, .inr (1, (f0.set 5 (.int 0))))] := hD
  refine lv_aload_n hx hb dX1_writeAll_78 rfl (lv_at hl 2 rfl) ?_
  refine lv_iconst (v := 0) hx hb dX1_writeAll_79 (by decide) ?_
  refine k_put (D := D) (ci := 1) (v := .int 0) (ty := .int) (N := 9) hx hb hts hin1 tyX1 tyX1_ok nmX1 hown hK hP hD hS 0 rfl rfl (by decide) f9_1_4 (hts (.fieldLink RX1 40 "IntegerHouse$Disk" "waiting" "I") (o9_X1_writeAll _ (List.mem_of_getElem? (i := 0) rfl))) rfl pd_2 rfl rfl (k_len (k_ne (by decide) e0)) dX1_writeAll_80 (fun H locs hP hD hS => ?_)
  have hP : va_P D vwCl [(h0, .inr (1, ((f0.set 5 (.int 0)).set 4 (.int 0))))] H := hP
  have hD : va_D A [(h0, .inr (1, ((f0.set 5 (.int 0)).set 4 (.int 0))))] := hD
  refine lv_iload_n hx hb dX1_writeAll_83 rfl (lv_at hl 1 rfl) ?_
  exact W.iret (v := 0) hx hb hr (fun t ht hW => ⟨⟨0, (), rfl, rfl, kB_mk ht hW hP hK hD⟩, hS.F ht⟩) hS.2.2 dX1_writeAll_84
set_option maxHeartbeats 400000000 in
set_option maxRecDepth 100000 in
theorem c_X11_sync_0 (l : Launch) (E : kE) (D : va_G) (cI cJ cB cZ : ClassId) (h0 : Nat) (f0 : List Value) (h1 : Nat) (f1 : List Value) (e0 : f0[1]? = some (.ref h1)) (e1 : f1[8]? = some (.int 0)) (e2 : f1[4]? = some (.int 0)) (e3 : f1[5]? = some (.int 0)) : kI l E D (kT cI cJ cB cZ) yX11_sync vW_X11_sync ({ frames := 1, cells := 0, slots := 0, locals := 22 }) [.ref h0] [(h0, .inr (11, f0)), (h1, .inr (1, f1))] (0) [(h0, .inr (11, f0)), (h1, .inr (1, ((f1.set 5 (.int 0)).set 4 (.int 0))))] 0 0 := by
  intro sz
  refine Met.ofW (cc := cX11_sync) (maxL := 1) (ret := (some .int)) (by decide) rfl ?_
  intro p e s m args below meth c s₁ B hml hv
  obtain ⟨rfl, hsz, hP, hK, hD0, hN, hX⟩ := hv
  have hx := B.exec
  have hb := B.bytes
  have hr := B.returns
  have hts := atoms_spec (ws := vW_X11_sync) B.pre
  have hown : s.vm.findClass RX11 = some m.cls := findClass_of_methodNamed B.named
  have hlocks := B.notSynchronized
  have hin11 : ∀ w ∈ wsX110, w ∈ vW_X11_sync := u9_X11_sync_wsX110
  have hin1 : ∀ w ∈ wsX10, w ∈ vW_X11_sync := u9_X11_sync_wsX10
  subst hsz
  have hD := hD0.self (sz := s.heap.size)
  have hAE := k_AE hD0 hX
  generalize hAe : va_A [(h0, .inr (11, f0)), (h1, .inr (1, f1))] s.heap.size = A at hD hAE ⊢
  have hA : ∀ q : Nat, s.heap.size ≤ q → A q := fun q h => by rw [← hAe]; exact Or.inr h
  have hS : va_S A s.heap s.heap [] := va_S.rf
  have hP : va_P D vwCl [(h0, .inr (11, f0)), (h1, .inr (1, f1))] s.heap := hP
  have hl := lv_entry ([.ref h0] : List Value) (n := 1) (Nat.le_of_ble_eq_true rfl)
  rw [lg_entry_eq]
  generalize (lg_sl ([.ref h0]) ++ List.replicate (1 - (lg_sl ([.ref h0])).length) Slot.unset).toArray = ls at hl ⊢
  have hl : lv_has ls 1 [(0, .ref h0)] := hl
  refine lv_aload_n hx hb dX11_sync_0 rfl (lv_at hl 0 rfl) ?_
  refine k_get (D := D) (ci := 11) (v := .ref h1) (N := 15) hx hb hts hin11 hown hK hP 0 rfl rfl (by decide) f9_11_1 (hts (.fieldLink RX11 16 "IntegerHouse" "disk" "LIntegerHouse$Disk;") (o9_X11_sync _ (List.mem_of_getElem? (i := 0) rfl))) e0 dX11_sync_1 ?_
  refine k_getN (host := "IntegerHouse") (D := D) (ci := 1) (v := .int 0) (N := 9) hx hb hts hin1 hown hK hP 1 rfl rfl (by decide) f9_1_8 (va_Nw.use rfl (hN.1 ("IntegerHouse", 122, "IntegerHouse$Disk", "down", "Z", "IntegerHouse") (List.mem_of_getElem? (i := 3) rfl))) e1 dX11_sync_4 ?_
  refine lv_if_eq (tgt := 15) hx hb dX11_sync_7 (by decide) (fun _ => ?_) (fun c9 => absurd (by decide) c9)
  refine lv_aload_n hx hb dX11_sync_15 rfl (lv_at hl 0 rfl) ?_
  refine k_get (D := D) (ci := 11) (v := .ref h1) (N := 15) hx hb hts hin11 hown hK hP 0 rfl rfl (by decide) f9_11_1 (hts (.fieldLink RX11 16 "IntegerHouse" "disk" "LIntegerHouse$Disk;") (o9_X11_sync _ (List.mem_of_getElem? (i := 0) rfl))) e0 dX11_sync_16 ?_
  refine k_cVi (As := []) (rest := []) (wc := [(h1, .inr (1, f1))]) (wr := [(h0, .inr (11, f0))]) (w1 := [(h1, .inr (1, ((f1.set 5 (.int 0)).set 4 (.int 0))))]) ⟨hx, hb, hml, hown, hts⟩ hN hX hAE hK hP hD hS hA [1] [0] (ci := 1) rfl rfl rfl rfl (by decide +kernel) (by decide +kernel) (by decide +kernel) (c_X1_writeAll_0 l E D cI cJ cB cZ h1 f1 e2 e3) (cwV 0 hts g9_X11_sync_X1_writeAll_126 rfl rfl rfl (by decide +kernel) ⟨Nat.le_of_ble_eq_true rfl, Nat.le_of_ble_eq_true rfl⟩) rfl hl.1 (Nat.le_of_ble_eq_true rfl) dX11_sync_19 ⟨Nat.le_of_ble_eq_true rfl, Nat.le_of_ble_eq_true rfl⟩ (fun H locs hP hD hS => ?_)
  have hP : va_P D vwCl [(h0, .inr (11, f0)), (h1, .inr (1, ((f1.set 5 (.int 0)).set 4 (.int 0))))] H := hP
  have hD : va_D A [(h0, .inr (11, f0)), (h1, .inr (1, ((f1.set 5 (.int 0)).set 4 (.int 0))))] := hD
  exact W.iret (v := 0) hx hb hr (fun t ht hW => ⟨⟨0, (), rfl, rfl, kB_mk ht hW hP hK hD⟩, hS.F ht⟩) hS.2.2 dX11_sync_22
set_option maxHeartbeats 400000000 in
set_option maxRecDepth 100000 in
theorem c_X12_sync_0 (l : Launch) (E : kE) (D : va_G) (cI cJ cB cZ : ClassId) (h0 : Nat) (f0 : List Value) (e0 : f0[0]? = some (.int 0)) (e1 : f0[5]? = some (.int 0)) (e2 : f0[9]? = some (.int 0)) (e3 : f0[4]? = some (.int 0)) : kI l E D (kT cI cJ cB cZ) yX12_sync vW_X12_sync ({ frames := 0, cells := 0, slots := 0, locals := 0 }) [.ref h0] [(h0, .inr (12, f0))] (0) [(h0, .inr (12, (((f0.set 0 (.int 0)).set 4 (.int 0)).set 9 (.int 0))))] 0 0 := by
  intro sz
  refine Met.ofW (cc := cX12_sync) (maxL := 6) (ret := (some .int)) (by decide) rfl ?_
  intro p e s m args below meth c s₁ B hml hv
  obtain ⟨rfl, hsz, hP, hK, hD0, hN, hX⟩ := hv
  have hx := B.exec
  have hb := B.bytes
  have hr := B.returns
  have hts := atoms_spec (ws := vW_X12_sync) B.pre
  have hown : s.vm.findClass RX12 = some m.cls := findClass_of_methodNamed B.named
  have hlocks := B.notSynchronized
  have hin12 : ∀ w ∈ wsX120, w ∈ vW_X12_sync := u9_X12_sync_wsX120
  subst hsz
  have hD := hD0.self (sz := s.heap.size)
  have hAE := k_AE hD0 hX
  generalize hAe : va_A [(h0, .inr (12, f0))] s.heap.size = A at hD hAE ⊢
  have hA : ∀ q : Nat, s.heap.size ≤ q → A q := fun q h => by rw [← hAe]; exact Or.inr h
  have hS : va_S A s.heap s.heap [] := va_S.rf
  have hP : va_P D vwCl [(h0, .inr (12, f0))] s.heap := hP
  have hl := lv_entry ([.ref h0] : List Value) (n := 6) (Nat.le_of_ble_eq_true rfl)
  rw [lg_entry_eq]
  generalize (lg_sl ([.ref h0]) ++ List.replicate (6 - (lg_sl ([.ref h0])).length) Slot.unset).toArray = ls at hl ⊢
  have hl : lv_has ls 6 [(0, .ref h0)] := hl
  refine lv_aload_n hx hb dX12_sync_0 rfl (lv_at hl 0 rfl) ?_
  refine lv_iconst (v := 0) hx hb dX12_sync_1 (by decide) ?_
  refine k_put (D := D) (ci := 12) (v := .int 0) (ty := .int) (N := 195) hx hb hts hin12 tyX12 tyX12_ok nmX12 hown hK hP hD hS 0 rfl rfl (by decide) f9_12_0 (hts (.fieldLink RX12 3 "IntegerHouseModel" "thrown" "I") (o9_X12_sync _ (List.mem_of_getElem? (i := 0) rfl))) rfl pd_2 rfl rfl (k_len e0) dX12_sync_2 (fun H locs hP hD hS => ?_)
  have hP : va_P D vwCl [(h0, .inr (12, (f0.set 0 (.int 0))))] H := hP
  have hD : va_D A [(h0, .inr (12, (f0.set 0 (.int 0))))] := hD
  refine lv_aload_n hx hb dX12_sync_5 rfl (lv_at hl 0 rfl) ?_
  refine k_get (D := D) (ci := 12) (v := .int 0) (N := 195) hx hb hts hin12 hown hK hP 0 rfl rfl (by decide) f9_12_5 (hts (.fieldLink RX12 488 "IntegerHouseModel" "down" "Z") (o9_X12_sync _ (List.mem_of_getElem? (i := 1) rfl))) (k_ne (by decide) e1) dX12_sync_6 ?_
  refine lv_if_eq (tgt := 15) hx hb dX12_sync_9 (by decide) (fun _ => ?_) (fun c9 => absurd (by decide) c9)
  refine lv_aload_n hx hb dX12_sync_15 rfl (lv_at hl 0 rfl) ?_
  refine k_get (D := D) (ci := 12) (v := .int 0) (N := 195) hx hb hts hin12 hown hK hP 0 rfl rfl (by decide) f9_12_9 (hts (.fieldLink RX12 475 "IntegerHouseModel" "waitBytes" "I") (o9_X12_sync _ (List.mem_of_getElem? (i := 2) rfl))) (k_ne (by decide) e2) dX12_sync_16 ?_
  refine lv_sipush (v := 248) hx hb dX12_sync_19 (by decide) ?_
  refine lv_iadd hx hb dX12_sync_22 ?_
  refine k_topi (y := 248) (by decide) ?_
  refine lv_iconst (v := 1) hx hb dX12_sync_23 (by decide) ?_
  refine lv_isub hx hb dX12_sync_24 ?_
  refine k_topi (y := 247) (by decide) ?_
  refine lv_sipush (v := 248) hx hb dX12_sync_25 (by decide) ?_
  refine lv_idiv hx hb dX12_sync_28 (by decide) ?_
  refine k_topi (y := 0) (by decide) ?_
  refine lv_istore_n (lv' := [(1, .int 0), (0, .ref h0)]) hx hb dX12_sync_29 rfl hl (by decide) rfl (fun ls hl => ?_)
  refine lv_iconst (v := 0) hx hb dX12_sync_30 (by decide) ?_
  refine lv_istore_n (lv' := [(2, .int 0), (1, .int 0), (0, .ref h0)]) hx hb dX12_sync_31 rfl hl (by decide) rfl (fun ls hl => ?_)
  refine lv_iload_n hx hb dX12_sync_32 rfl (lv_at hl 0 rfl) ?_
  refine lv_iload_n hx hb dX12_sync_33 rfl (lv_at hl 1 rfl) ?_
  refine lv_icmp_ge (tgt := 183) hx hb dX12_sync_34 (by decide) (fun _ => ?_) (fun c9 => absurd (by decide) c9)
  refine lv_aload_n hx hb dX12_sync_183 rfl (lv_at hl 2 rfl) ?_
  refine lv_aload_n hx hb dX12_sync_184 rfl (lv_at hl 2 rfl) ?_
  refine k_get (D := D) (ci := 12) (v := .int 0) (N := 195) hx hb hts hin12 hown hK hP 0 rfl rfl (by decide) f9_12_4 (hts (.fieldLink RX12 478 "IntegerHouseModel" "used" "I") (o9_X12_sync _ (List.mem_of_getElem? (i := 3) rfl))) (k_ne (by decide) e3) dX12_sync_185 ?_
  refine lv_iload_n hx hb dX12_sync_188 rfl (lv_at hl 1 rfl) ?_
  refine lv_iadd hx hb dX12_sync_189 ?_
  refine k_topi (y := 0) (by decide) ?_
  refine k_put (D := D) (ci := 12) (v := .int 0) (ty := .int) (N := 195) hx hb hts hin12 tyX12 tyX12_ok nmX12 hown hK hP hD hS 0 rfl rfl (by decide) f9_12_4 (hts (.fieldLink RX12 478 "IntegerHouseModel" "used" "I") (o9_X12_sync _ (List.mem_of_getElem? (i := 3) rfl))) rfl pd_2 rfl rfl (k_len (k_ne (by decide) e3)) dX12_sync_190 (fun H locs hP hD hS => ?_)
  have hP : va_P D vwCl [(h0, .inr (12, ((f0.set 0 (.int 0)).set 4 (.int 0))))] H := hP
  have hD : va_D A [(h0, .inr (12, ((f0.set 0 (.int 0)).set 4 (.int 0))))] := hD
  refine lv_aload_n hx hb dX12_sync_193 rfl (lv_at hl 2 rfl) ?_
  refine lv_iconst (v := 0) hx hb dX12_sync_194 (by decide) ?_
  refine k_put (D := D) (ci := 12) (v := .int 0) (ty := .int) (N := 195) hx hb hts hin12 tyX12 tyX12_ok nmX12 hown hK hP hD hS 0 rfl rfl (by decide) f9_12_9 (hts (.fieldLink RX12 475 "IntegerHouseModel" "waitBytes" "I") (o9_X12_sync _ (List.mem_of_getElem? (i := 2) rfl))) rfl pd_2 rfl rfl (k_len (k_ne (by decide) (k_ne (by decide) e2))) dX12_sync_195 (fun H locs hP hD hS => ?_)
  have hP : va_P D vwCl [(h0, .inr (12, (((f0.set 0 (.int 0)).set 4 (.int 0)).set 9 (.int 0))))] H := hP
  have hD : va_D A [(h0, .inr (12, (((f0.set 0 (.int 0)).set 4 (.int 0)).set 9 (.int 0))))] := hD
  refine lv_iload_n hx hb dX12_sync_198 rfl (lv_at hl 1 rfl) ?_
  exact W.iret (v := 0) hx hb hr (fun t ht hW => ⟨⟨0, (), rfl, rfl, kB_mk ht hW hP hK hD⟩, hS.F ht⟩) hS.2.2 dX12_sync_199
set_option maxHeartbeats 400000000 in
set_option maxRecDepth 100000 in
theorem c_X1_setCut_0 (l : Launch) (E : kE) (D : va_G) (cI cJ cB cZ : ClassId) (h0 : Nat) (x0 : Int32) (x1 : Int32) (f0 : List Value) (e0 : f0[6]? = some (.int (-1))) (e1 : f0[7]? = some (.int 0)) : kV l E D (kT cI cJ cB cZ) yX1_setCut vW_X1_setCut ({ frames := 0, cells := 0, slots := 0, locals := 0 }) [.ref h0, .int x0, .int x1] [(h0, .inr (1, f0))] (fun _ : Unit => [(h0, .inr (1, ((f0.set 6 (.int x0)).set 7 (.int x1))))]) 0 0 := by
  intro sz
  refine Met.ofW (cc := cX1_setCut) (maxL := 3) (ret := none) (by decide) rfl ?_
  intro p e s m args below meth c s₁ B hml hv
  obtain ⟨rfl, hsz, hP, hK, hD0, hN, hX⟩ := hv
  have hx := B.exec
  have hb := B.bytes
  have hr := B.returns
  have hts := atoms_spec (ws := vW_X1_setCut) B.pre
  have hown : s.vm.findClass RX1 = some m.cls := findClass_of_methodNamed B.named
  have hlocks := B.notSynchronized
  have hin1 : ∀ w ∈ wsX10, w ∈ vW_X1_setCut := u9_X1_setCut_wsX10
  subst hsz
  have hD := hD0.self (sz := s.heap.size)
  have hAE := k_AE hD0 hX
  generalize hAe : va_A [(h0, .inr (1, f0))] s.heap.size = A at hD hAE ⊢
  have hA : ∀ q : Nat, s.heap.size ≤ q → A q := fun q h => by rw [← hAe]; exact Or.inr h
  have hS : va_S A s.heap s.heap [] := va_S.rf
  have hP : va_P D vwCl [(h0, .inr (1, f0))] s.heap := hP
  have hl := lv_entry ([.ref h0, .int x0, .int x1] : List Value) (n := 3) (Nat.le_of_ble_eq_true rfl)
  rw [lg_entry_eq]
  generalize (lg_sl ([.ref h0, .int x0, .int x1]) ++ List.replicate (3 - (lg_sl ([.ref h0, .int x0, .int x1])).length) Slot.unset).toArray = ls at hl ⊢
  have hl : lv_has ls 3 [(0, .ref h0), (1, .int x0), (2, .int x1)] := hl
  refine lv_aload_n hx hb dX1_setCut_0 rfl (lv_at hl 0 rfl) ?_
  refine lv_iload_n hx hb dX1_setCut_1 rfl (lv_at hl 1 rfl) ?_
  refine k_put (D := D) (ci := 1) (v := .int x0) (ty := .int) (N := 9) hx hb hts hin1 tyX1 tyX1_ok nmX1 hown hK hP hD hS 0 rfl rfl (by decide) f9_1_6 (hts (.fieldLink RX1 25 "IntegerHouse$Disk" "cutAt" "I") (o9_X1_setCut _ (List.mem_of_getElem? (i := 0) rfl))) rfl pd_2 rfl rfl (k_len e0) dX1_setCut_2 (fun H locs hP hD hS => ?_)
  have hP : va_P D vwCl [(h0, .inr (1, (f0.set 6 (.int x0))))] H := hP
  have hD : va_D A [(h0, .inr (1, (f0.set 6 (.int x0))))] := hD
  refine lv_aload_n hx hb dX1_setCut_5 rfl (lv_at hl 0 rfl) ?_
  refine lv_iload_n hx hb dX1_setCut_6 rfl (lv_at hl 2 rfl) ?_
  refine k_put (D := D) (ci := 1) (v := .int x1) (ty := .int) (N := 9) hx hb hts hin1 tyX1 tyX1_ok nmX1 hown hK hP hD hS 0 rfl rfl (by decide) f9_1_7 (hts (.fieldLink RX1 37 "IntegerHouse$Disk" "tear" "I") (o9_X1_setCut _ (List.mem_of_getElem? (i := 1) rfl))) rfl pd_2 rfl rfl (k_len (k_ne (by decide) e1)) dX1_setCut_7 (fun H locs hP hD hS => ?_)
  have hP : va_P D vwCl [(h0, .inr (1, ((f0.set 6 (.int x0)).set 7 (.int x1))))] H := hP
  have hD : va_D A [(h0, .inr (1, ((f0.set 6 (.int x0)).set 7 (.int x1))))] := hD
  exact W.vret hx hb hr (fun t ht hW => ⟨⟨(), rfl, trivial, kB_mk ht hW hP hK hD⟩, hS.F ht⟩) hS.2.2 dX1_setCut_10
set_option maxHeartbeats 400000000 in
set_option maxRecDepth 100000 in
theorem c_X11_cut_0 (l : Launch) (E : kE) (D : va_G) (cI cJ cB cZ : ClassId) (h0 : Nat) (x0 : Int32) (x1 : Int32) (f0 : List Value) (h1 : Nat) (f1 : List Value) (e0 : f0[1]? = some (.ref h1)) (e1 : f1[8]? = some (.int 0)) (e2 : ¬ ((x0 : Int32) < (-1))) (e3 : (x0 : Int32) < 2001) (e4 : ¬ ((x1 : Int32) < 0)) (e5 : (x1 : Int32) < 256) (e6 : f1[6]? = some (.int (-1))) (e7 : f1[7]? = some (.int 0)) : kI l E D (kT cI cJ cB cZ) yX11_cut vW_X11_cut ({ frames := 1, cells := 0, slots := 0, locals := 22 }) [.ref h0, .int x0, .int x1] [(h0, .inr (11, f0)), (h1, .inr (1, f1))] (1) [(h0, .inr (11, f0)), (h1, .inr (1, ((f1.set 6 (.int x0)).set 7 (.int x1))))] 0 0 := by
  intro sz
  refine Met.ofW (cc := cX11_cut) (maxL := 3) (ret := (some .int)) (by decide) rfl ?_
  intro p e s m args below meth c s₁ B hml hv
  obtain ⟨rfl, hsz, hP, hK, hD0, hN, hX⟩ := hv
  have hx := B.exec
  have hb := B.bytes
  have hr := B.returns
  have hts := atoms_spec (ws := vW_X11_cut) B.pre
  have hown : s.vm.findClass RX11 = some m.cls := findClass_of_methodNamed B.named
  have hlocks := B.notSynchronized
  have hin11 : ∀ w ∈ wsX110, w ∈ vW_X11_cut := u9_X11_cut_wsX110
  have hin1 : ∀ w ∈ wsX10, w ∈ vW_X11_cut := u9_X11_cut_wsX10
  subst hsz
  have hD := hD0.self (sz := s.heap.size)
  have hAE := k_AE hD0 hX
  generalize hAe : va_A [(h0, .inr (11, f0)), (h1, .inr (1, f1))] s.heap.size = A at hD hAE ⊢
  have hA : ∀ q : Nat, s.heap.size ≤ q → A q := fun q h => by rw [← hAe]; exact Or.inr h
  have hS : va_S A s.heap s.heap [] := va_S.rf
  have hP : va_P D vwCl [(h0, .inr (11, f0)), (h1, .inr (1, f1))] s.heap := hP
  have hl := lv_entry ([.ref h0, .int x0, .int x1] : List Value) (n := 3) (Nat.le_of_ble_eq_true rfl)
  rw [lg_entry_eq]
  generalize (lg_sl ([.ref h0, .int x0, .int x1]) ++ List.replicate (3 - (lg_sl ([.ref h0, .int x0, .int x1])).length) Slot.unset).toArray = ls at hl ⊢
  have hl : lv_has ls 3 [(0, .ref h0), (1, .int x0), (2, .int x1)] := hl
  refine lv_aload_n hx hb dX11_cut_0 rfl (lv_at hl 0 rfl) ?_
  refine k_get (D := D) (ci := 11) (v := .ref h1) (N := 15) hx hb hts hin11 hown hK hP 0 rfl rfl (by decide) f9_11_1 (hts (.fieldLink RX11 16 "IntegerHouse" "disk" "LIntegerHouse$Disk;") (o9_X11_cut _ (List.mem_of_getElem? (i := 0) rfl))) e0 dX11_cut_1 ?_
  refine k_getN (host := "IntegerHouse") (D := D) (ci := 1) (v := .int 0) (N := 9) hx hb hts hin1 hown hK hP 1 rfl rfl (by decide) f9_1_8 (va_Nw.use rfl (hN.1 ("IntegerHouse", 122, "IntegerHouse$Disk", "down", "Z", "IntegerHouse") (List.mem_of_getElem? (i := 3) rfl))) e1 dX11_cut_4 ?_
  refine lv_if_eq (tgt := 13) hx hb dX11_cut_7 (by decide) (fun _ => ?_) (fun c9 => absurd (by decide) c9)
  refine lv_iload_n hx hb dX11_cut_13 rfl (lv_at hl 1 rfl) ?_
  refine lv_iconst (v := (-1)) hx hb dX11_cut_14 (by decide) ?_
  refine lv_icmp_lt (tgt := 36) hx hb dX11_cut_15 (by decide) (fun c9 => absurd c9 e2) (fun _ => ?_)
  refine lv_iload_n hx hb dX11_cut_18 rfl (lv_at hl 1 rfl) ?_
  refine lv_sipush (v := 2000) hx hb dX11_cut_19 (by decide) ?_
  refine lv_icmp_gt (tgt := 36) hx hb dX11_cut_22 (by decide) (fun c9 => absurd c9 (fun z9 => (k_n3 (x := x0) (c := 2000) (d := 2001) (by decide)).mp z9 e3)) (fun _ => ?_)
  refine lv_iload_n hx hb dX11_cut_25 rfl (lv_at hl 2 rfl) ?_
  refine lv_if_lt (tgt := 36) hx hb dX11_cut_26 (by decide) (fun c9 => absurd c9 e4) (fun _ => ?_)
  refine lv_iload_n hx hb dX11_cut_29 rfl (lv_at hl 2 rfl) ?_
  refine lv_sipush (v := 255) hx hb dX11_cut_30 (by decide) ?_
  refine lv_icmp_le (tgt := 39) hx hb dX11_cut_33 (by decide) (fun _ => ?_) (fun c9 => absurd ((k_n1 (x := x1) (c := 255) (d := 256) (by decide)).mpr e5) c9)
  refine lv_aload_n hx hb dX11_cut_39 rfl (lv_at hl 0 rfl) ?_
  refine k_get (D := D) (ci := 11) (v := .ref h1) (N := 15) hx hb hts hin11 hown hK hP 0 rfl rfl (by decide) f9_11_1 (hts (.fieldLink RX11 16 "IntegerHouse" "disk" "LIntegerHouse$Disk;") (o9_X11_cut _ (List.mem_of_getElem? (i := 0) rfl))) e0 dX11_cut_40 ?_
  refine lv_iload_n hx hb dX11_cut_43 rfl (lv_at hl 1 rfl) ?_
  refine lv_iload_n hx hb dX11_cut_44 rfl (lv_at hl 2 rfl) ?_
  refine k_cVv (As := [.int x0, .int x1]) (rest := []) (wc := [(h1, .inr (1, f1))]) (wr := [(h0, .inr (11, f0))]) (w1 := (fun _ : Unit => [(h1, .inr (1, ((f1.set 6 (.int x0)).set 7 (.int x1))))])) ⟨hx, hb, hml, hown, hts⟩ hN hX hAE hK hP hD hS hA [1] [0] (ci := 1) rfl rfl rfl rfl (by decide +kernel) (by decide +kernel) (by decide +kernel) (c_X1_setCut_0 l E D cI cJ cB cZ h1 x0 x1 f1 e6 e7) (cwV 2 hts g9_X11_cut_X1_setCut_130 rfl rfl rfl (by decide +kernel) ⟨Nat.le_of_ble_eq_true rfl, Nat.le_of_ble_eq_true rfl⟩) rfl hl.1 (Nat.le_of_ble_eq_true rfl) dX11_cut_45 ⟨Nat.le_of_ble_eq_true rfl, Nat.le_of_ble_eq_true rfl⟩ (fun _ H locs hP hD hS => ?_)
  have hP : va_P D vwCl [(h0, .inr (11, f0)), (h1, .inr (1, ((f1.set 6 (.int x0)).set 7 (.int x1))))] H := hP
  have hD : va_D A [(h0, .inr (11, f0)), (h1, .inr (1, ((f1.set 6 (.int x0)).set 7 (.int x1))))] := hD
  refine lv_iconst (v := 1) hx hb dX11_cut_48 (by decide) ?_
  exact W.iret (v := 1) hx hb hr (fun t ht hW => ⟨⟨1, (), rfl, rfl, kB_mk ht hW hP hK hD⟩, hS.F ht⟩) hS.2.2 dX11_cut_49
set_option maxHeartbeats 400000000 in
set_option maxRecDepth 100000 in
theorem c_X12_in_3 (l : Launch) (E : kE) (D : va_G) (cI cJ cB cZ : ClassId) (y0 : Int64) (e0 : ¬ (((lg_cmp y0 (-1)) : Int32) < 0)) (e1 : ¬ ((0 : Int32) < (lg_cmp y0 2000))) : kI l E D (kT cI cJ cB cZ) yX12_in vW_X12_in ({ frames := 0, cells := 0, slots := 0, locals := 0 }) [.long y0, .long (-1), .long 2000] [] (1) [] 0 0 := by
  intro sz
  refine Met.ofW (cc := cX12_in) (maxL := 6) (ret := (some .boolean)) (by decide) rfl ?_
  intro p e s m args below meth c s₁ B hml hv
  obtain ⟨rfl, hsz, hP, hK, hD0, hN, hX⟩ := hv
  have hx := B.exec
  have hb := B.bytes
  have hr := B.returns
  have hts := atoms_spec (ws := vW_X12_in) B.pre
  have hown : s.vm.findClass RX12 = some m.cls := findClass_of_methodNamed B.named
  have hlocks := B.notSynchronized
  subst hsz
  have hD := hD0.self (sz := s.heap.size)
  have hAE := k_AE hD0 hX
  generalize hAe : va_A [] s.heap.size = A at hD hAE ⊢
  have hA : ∀ q : Nat, s.heap.size ≤ q → A q := fun q h => by rw [← hAe]; exact Or.inr h
  have hS : va_S A s.heap s.heap [] := va_S.rf
  have hP : va_P D vwCl [] s.heap := hP
  have hl := lv_entry ([.long y0, .long (-1), .long 2000] : List Value) (n := 6) (Nat.le_of_ble_eq_true rfl)
  rw [lg_entry_eq]
  generalize (lg_sl ([.long y0, .long (-1), .long 2000]) ++ List.replicate (6 - (lg_sl ([.long y0, .long (-1), .long 2000])).length) Slot.unset).toArray = ls at hl ⊢
  have hl : lv_has ls 6 [(0, .long y0), (2, .long (-1)), (4, .long 2000)] := hl
  refine lv_lload_n hx hb dX12_in_0 rfl (lv_at hl 0 rfl) ?_
  refine lv_lload_n hx hb dX12_in_1 rfl (lv_at hl 1 rfl) ?_
  refine W.lcmp hx hb dX12_in_2 ?_
  refine lv_if_lt (tgt := 17) hx hb dX12_in_3 (by decide) (fun c9 => absurd c9 e0) (fun _ => ?_)
  refine lv_lload_n hx hb dX12_in_6 rfl (lv_at hl 0 rfl) ?_
  refine lv_lload hx hb dX12_in_7 (lv_at hl 2 rfl) ?_
  refine W.lcmp hx hb dX12_in_9 ?_
  refine lv_if_gt (tgt := 17) hx hb dX12_in_10 (by decide) (fun c9 => absurd c9 e1) (fun _ => ?_)
  refine lv_iconst (v := 1) hx hb dX12_in_13 (by decide) ?_
  refine lv_goto (tgt := 18) hx hb dX12_in_14 (by decide) ?_
  exact W.zret (v := 1) hx hb hr rfl (fun t ht hW => ⟨⟨1, (), rfl, rfl, kB_mk ht hW hP hK hD⟩, hS.F ht⟩) hS.2.2 dX12_in_18
set_option maxHeartbeats 400000000 in
set_option maxRecDepth 100000 in
theorem c_X12_in_4 (l : Launch) (E : kE) (D : va_G) (cI cJ cB cZ : ClassId) (y0 : Int64) (e0 : ¬ (((lg_cmp y0 0) : Int32) < 0)) (e1 : ¬ ((0 : Int32) < (lg_cmp y0 255))) : kI l E D (kT cI cJ cB cZ) yX12_in vW_X12_in ({ frames := 0, cells := 0, slots := 0, locals := 0 }) [.long y0, .long 0, .long 255] [] (1) [] 0 0 := by
  intro sz
  refine Met.ofW (cc := cX12_in) (maxL := 6) (ret := (some .boolean)) (by decide) rfl ?_
  intro p e s m args below meth c s₁ B hml hv
  obtain ⟨rfl, hsz, hP, hK, hD0, hN, hX⟩ := hv
  have hx := B.exec
  have hb := B.bytes
  have hr := B.returns
  have hts := atoms_spec (ws := vW_X12_in) B.pre
  have hown : s.vm.findClass RX12 = some m.cls := findClass_of_methodNamed B.named
  have hlocks := B.notSynchronized
  subst hsz
  have hD := hD0.self (sz := s.heap.size)
  have hAE := k_AE hD0 hX
  generalize hAe : va_A [] s.heap.size = A at hD hAE ⊢
  have hA : ∀ q : Nat, s.heap.size ≤ q → A q := fun q h => by rw [← hAe]; exact Or.inr h
  have hS : va_S A s.heap s.heap [] := va_S.rf
  have hP : va_P D vwCl [] s.heap := hP
  have hl := lv_entry ([.long y0, .long 0, .long 255] : List Value) (n := 6) (Nat.le_of_ble_eq_true rfl)
  rw [lg_entry_eq]
  generalize (lg_sl ([.long y0, .long 0, .long 255]) ++ List.replicate (6 - (lg_sl ([.long y0, .long 0, .long 255])).length) Slot.unset).toArray = ls at hl ⊢
  have hl : lv_has ls 6 [(0, .long y0), (2, .long 0), (4, .long 255)] := hl
  refine lv_lload_n hx hb dX12_in_0 rfl (lv_at hl 0 rfl) ?_
  refine lv_lload_n hx hb dX12_in_1 rfl (lv_at hl 1 rfl) ?_
  refine W.lcmp hx hb dX12_in_2 ?_
  refine lv_if_lt (tgt := 17) hx hb dX12_in_3 (by decide) (fun c9 => absurd c9 e0) (fun _ => ?_)
  refine lv_lload_n hx hb dX12_in_6 rfl (lv_at hl 0 rfl) ?_
  refine lv_lload hx hb dX12_in_7 (lv_at hl 2 rfl) ?_
  refine W.lcmp hx hb dX12_in_9 ?_
  refine lv_if_gt (tgt := 17) hx hb dX12_in_10 (by decide) (fun c9 => absurd c9 e1) (fun _ => ?_)
  refine lv_iconst (v := 1) hx hb dX12_in_13 (by decide) ?_
  refine lv_goto (tgt := 18) hx hb dX12_in_14 (by decide) ?_
  exact W.zret (v := 1) hx hb hr rfl (fun t ht hW => ⟨⟨1, (), rfl, rfl, kB_mk ht hW hP hK hD⟩, hS.F ht⟩) hS.2.2 dX12_in_18
set_option maxHeartbeats 400000000 in
set_option maxRecDepth 100000 in
theorem c_X12_cut_0 (l : Launch) (E : kE) (D : va_G) (cI cJ cB cZ : ClassId) (h0 : Nat) (x0 : Int32) (x1 : Int32) (f0 : List Value) (e0 : f0[0]? = some (.int 0)) (e1 : f0[5]? = some (.int 0)) (e2 : ¬ ((x0 : Int32) < (-1))) (e3 : (x0 : Int32) < 2001) (e4 : ¬ ((x1 : Int32) < 0)) (e5 : (x1 : Int32) < 256) (e6 : f0[6]? = some (.int (-1))) (e7 : f0[7]? = some (.int 0)) : kI l E D (kT cI cJ cB cZ) yX12_cut vW_X12_cut ({ frames := 1, cells := 0, slots := 0, locals := 25 }) [.ref h0, .int x0, .int x1] [(h0, .inr (12, f0))] (1) [(h0, .inr (12, (((f0.set 0 (.int 0)).set 6 (.int x0)).set 7 (.int x1))))] 0 0 := by
  intro sz
  refine Met.ofW (cc := cX12_cut) (maxL := 3) (ret := (some .int)) (by decide) rfl ?_
  intro p e s m args below meth c s₁ B hml hv
  obtain ⟨rfl, hsz, hP, hK, hD0, hN, hX⟩ := hv
  have hx := B.exec
  have hb := B.bytes
  have hr := B.returns
  have hts := atoms_spec (ws := vW_X12_cut) B.pre
  have hown : s.vm.findClass RX12 = some m.cls := findClass_of_methodNamed B.named
  have hlocks := B.notSynchronized
  have hin12 : ∀ w ∈ wsX120, w ∈ vW_X12_cut := u9_X12_cut_wsX120
  subst hsz
  have hD := hD0.self (sz := s.heap.size)
  have hAE := k_AE hD0 hX
  generalize hAe : va_A [(h0, .inr (12, f0))] s.heap.size = A at hD hAE ⊢
  have hA : ∀ q : Nat, s.heap.size ≤ q → A q := fun q h => by rw [← hAe]; exact Or.inr h
  have hS : va_S A s.heap s.heap [] := va_S.rf
  have hP : va_P D vwCl [(h0, .inr (12, f0))] s.heap := hP
  have hl := lv_entry ([.ref h0, .int x0, .int x1] : List Value) (n := 3) (Nat.le_of_ble_eq_true rfl)
  rw [lg_entry_eq]
  generalize (lg_sl ([.ref h0, .int x0, .int x1]) ++ List.replicate (3 - (lg_sl ([.ref h0, .int x0, .int x1])).length) Slot.unset).toArray = ls at hl ⊢
  have hl : lv_has ls 3 [(0, .ref h0), (1, .int x0), (2, .int x1)] := hl
  refine lv_aload_n hx hb dX12_cut_0 rfl (lv_at hl 0 rfl) ?_
  refine lv_iconst (v := 0) hx hb dX12_cut_1 (by decide) ?_
  refine k_put (D := D) (ci := 12) (v := .int 0) (ty := .int) (N := 195) hx hb hts hin12 tyX12 tyX12_ok nmX12 hown hK hP hD hS 0 rfl rfl (by decide) f9_12_0 (hts (.fieldLink RX12 3 "IntegerHouseModel" "thrown" "I") (o9_X12_cut _ (List.mem_of_getElem? (i := 0) rfl))) rfl pd_2 rfl rfl (k_len e0) dX12_cut_2 (fun H locs hP hD hS => ?_)
  have hP : va_P D vwCl [(h0, .inr (12, (f0.set 0 (.int 0))))] H := hP
  have hD : va_D A [(h0, .inr (12, (f0.set 0 (.int 0))))] := hD
  refine lv_aload_n hx hb dX12_cut_5 rfl (lv_at hl 0 rfl) ?_
  refine k_get (D := D) (ci := 12) (v := .int 0) (N := 195) hx hb hts hin12 hown hK hP 0 rfl rfl (by decide) f9_12_5 (hts (.fieldLink RX12 488 "IntegerHouseModel" "down" "Z") (o9_X12_cut _ (List.mem_of_getElem? (i := 1) rfl))) (k_ne (by decide) e1) dX12_cut_6 ?_
  refine lv_if_eq (tgt := 15) hx hb dX12_cut_9 (by decide) (fun _ => ?_) (fun c9 => absurd (by decide) c9)
  refine lv_iload_n hx hb dX12_cut_15 rfl (lv_at hl 1 rfl) ?_
  refine lv_i2l (v := (Int32.toInt64 x0)) hx hb dX12_cut_16 rfl ?_
  refine lv_ldc2 (own := RX12) (index := 526) (v := (-1)) hx hb hown (hts (.constantLong RX12 526 (-1)) (o9_X12_cut _ (List.mem_of_getElem? (i := 2) rfl))) dX12_cut_17 ?_
  refine lv_ldc2 (own := RX12) (index := 528) (v := 2000) hx hb hown (hts (.constantLong RX12 528 (2000)) (o9_X12_cut _ (List.mem_of_getElem? (i := 3) rfl))) dX12_cut_20 ?_
  refine k_cSi (As := [.long (Int32.toInt64 x0), .long (-1), .long 2000]) (rest := []) (wc := []) (wr := [(h0, .inr (12, (f0.set 0 (.int 0))))]) (w1 := []) ⟨hx, hb, hml, hown, hts⟩ hN hX hAE hK hP hD hS hA [] [0] rfl rfl (by decide +kernel) (by decide +kernel) (by decide +kernel) (c_X12_in_3 l E D cI cJ cB cZ (Int32.toInt64 x0) (fun z9 => e2 ((k_n4 (x := x0) (c := (-1)) (C := (-1)) (by decide)).mp z9)) (fun z9 => (k_n5 (x := x0) (c := 2000) (d := 2001) (C := 2000) (by decide) (by decide)).mp z9 e3)) (va_cwS 3 hts g9_X12_cut_X12_in_504 rfl rfl rfl (by decide +kernel) ⟨Nat.le_of_ble_eq_true rfl, Nat.le_of_ble_eq_true rfl⟩) rfl hl.1 (Nat.le_of_ble_eq_true rfl) dX12_cut_23 ⟨Nat.le_of_ble_eq_true rfl, Nat.le_of_ble_eq_true rfl⟩ (fun H locs hP hD hS => ?_)
  have hP : va_P D vwCl [(h0, .inr (12, (f0.set 0 (.int 0))))] H := hP
  have hD : va_D A [(h0, .inr (12, (f0.set 0 (.int 0))))] := hD
  refine lv_if_eq (tgt := 41) hx hb dX12_cut_26 (by decide) (fun c9 => absurd c9 (by decide)) (fun _ => ?_)
  refine lv_iload_n hx hb dX12_cut_29 rfl (lv_at hl 2 rfl) ?_
  refine lv_i2l (v := (Int32.toInt64 x1)) hx hb dX12_cut_30 rfl ?_
  refine lv_lconst (v := 0) hx hb dX12_cut_31 (by decide) ?_
  refine lv_ldc2 (own := RX12) (index := 530) (v := 255) hx hb hown (hts (.constantLong RX12 530 (255)) (o9_X12_cut _ (List.mem_of_getElem? (i := 7) rfl))) dX12_cut_32 ?_
  refine k_cSi (As := [.long (Int32.toInt64 x1), .long 0, .long 255]) (rest := []) (wc := []) (wr := [(h0, .inr (12, (f0.set 0 (.int 0))))]) (w1 := []) ⟨hx, hb, hml, hown, hts⟩ hN hX hAE hK hP hD hS hA [] [0] rfl rfl (by decide +kernel) (by decide +kernel) (by decide +kernel) (c_X12_in_4 l E D cI cJ cB cZ (Int32.toInt64 x1) (fun z9 => e4 ((k_n4 (x := x1) (c := 0) (C := 0) (by decide)).mp z9)) (fun z9 => (k_n5 (x := x1) (c := 255) (d := 256) (C := 255) (by decide) (by decide)).mp z9 e5)) (va_cwS 3 hts g9_X12_cut_X12_in_504 rfl rfl rfl (by decide +kernel) ⟨Nat.le_of_ble_eq_true rfl, Nat.le_of_ble_eq_true rfl⟩) rfl hl.1 (Nat.le_of_ble_eq_true rfl) dX12_cut_35 ⟨Nat.le_of_ble_eq_true rfl, Nat.le_of_ble_eq_true rfl⟩ (fun H locs hP hD hS => ?_)
  have hP : va_P D vwCl [(h0, .inr (12, (f0.set 0 (.int 0))))] H := hP
  have hD : va_D A [(h0, .inr (12, (f0.set 0 (.int 0))))] := hD
  refine lv_if_ne (tgt := 44) hx hb dX12_cut_38 (by decide) (fun _ => ?_) (fun c9 => absurd c9 (by decide))
  refine lv_aload_n hx hb dX12_cut_44 rfl (lv_at hl 0 rfl) ?_
  refine lv_iload_n hx hb dX12_cut_45 rfl (lv_at hl 1 rfl) ?_
  refine k_put (D := D) (ci := 12) (v := .int x0) (ty := .int) (N := 195) hx hb hts hin12 tyX12 tyX12_ok nmX12 hown hK hP hD hS 0 rfl rfl (by decide) f9_12_6 (hts (.fieldLink RX12 22 "IntegerHouseModel" "cutAt" "I") (o9_X12_cut _ (List.mem_of_getElem? (i := 8) rfl))) rfl pd_2 rfl rfl (k_len (k_ne (by decide) e6)) dX12_cut_46 (fun H locs hP hD hS => ?_)
  have hP : va_P D vwCl [(h0, .inr (12, ((f0.set 0 (.int 0)).set 6 (.int x0))))] H := hP
  have hD : va_D A [(h0, .inr (12, ((f0.set 0 (.int 0)).set 6 (.int x0))))] := hD
  refine lv_aload_n hx hb dX12_cut_49 rfl (lv_at hl 0 rfl) ?_
  refine lv_iload_n hx hb dX12_cut_50 rfl (lv_at hl 2 rfl) ?_
  refine k_put (D := D) (ci := 12) (v := .int x1) (ty := .int) (N := 195) hx hb hts hin12 tyX12 tyX12_ok nmX12 hown hK hP hD hS 0 rfl rfl (by decide) f9_12_7 (hts (.fieldLink RX12 523 "IntegerHouseModel" "tear" "I") (o9_X12_cut _ (List.mem_of_getElem? (i := 9) rfl))) rfl pd_2 rfl rfl (k_len (k_ne (by decide) (k_ne (by decide) e7))) dX12_cut_51 (fun H locs hP hD hS => ?_)
  have hP : va_P D vwCl [(h0, .inr (12, (((f0.set 0 (.int 0)).set 6 (.int x0)).set 7 (.int x1))))] H := hP
  have hD : va_D A [(h0, .inr (12, (((f0.set 0 (.int 0)).set 6 (.int x0)).set 7 (.int x1))))] := hD
  refine lv_iconst (v := 1) hx hb dX12_cut_54 (by decide) ?_
  exact W.iret (v := 1) hx hb hr (fun t ht hW => ⟨⟨1, (), rfl, rfl, kB_mk ht hW hP hK hD⟩, hS.F ht⟩) hS.2.2 dX12_cut_55
set_option maxHeartbeats 400000000 in
set_option maxRecDepth 100000 in
theorem c_X11_cut_1 (l : Launch) (E : kE) (D : va_G) (cI cJ cB cZ : ClassId) (h0 : Nat) (x0 : Int32) (x1 : Int32) (f0 : List Value) (h1 : Nat) (f1 : List Value) (e0 : f0[1]? = some (.ref h1)) (e1 : f1[8]? = some (.int 0)) (e2 : (x0 : Int32) < (-1)) : kI l E D (kT cI cJ cB cZ) yX11_cut vW_X11_cut ({ frames := 0, cells := 0, slots := 0, locals := 0 }) [.ref h0, .int x0, .int x1] [(h0, .inr (11, f0)), (h1, .inr (1, f1))] ((-102)) [(h0, .inr (11, f0)), (h1, .inr (1, f1))] 0 0 := by
  intro sz
  refine Met.ofW (cc := cX11_cut) (maxL := 3) (ret := (some .int)) (by decide) rfl ?_
  intro p e s m args below meth c s₁ B hml hv
  obtain ⟨rfl, hsz, hP, hK, hD0, hN, hX⟩ := hv
  have hx := B.exec
  have hb := B.bytes
  have hr := B.returns
  have hts := atoms_spec (ws := vW_X11_cut) B.pre
  have hown : s.vm.findClass RX11 = some m.cls := findClass_of_methodNamed B.named
  have hlocks := B.notSynchronized
  have hin11 : ∀ w ∈ wsX110, w ∈ vW_X11_cut := u9_X11_cut_wsX110
  have hin1 : ∀ w ∈ wsX10, w ∈ vW_X11_cut := u9_X11_cut_wsX10
  subst hsz
  have hD := hD0.self (sz := s.heap.size)
  have hAE := k_AE hD0 hX
  generalize hAe : va_A [(h0, .inr (11, f0)), (h1, .inr (1, f1))] s.heap.size = A at hD hAE ⊢
  have hA : ∀ q : Nat, s.heap.size ≤ q → A q := fun q h => by rw [← hAe]; exact Or.inr h
  have hS : va_S A s.heap s.heap [] := va_S.rf
  have hP : va_P D vwCl [(h0, .inr (11, f0)), (h1, .inr (1, f1))] s.heap := hP
  have hl := lv_entry ([.ref h0, .int x0, .int x1] : List Value) (n := 3) (Nat.le_of_ble_eq_true rfl)
  rw [lg_entry_eq]
  generalize (lg_sl ([.ref h0, .int x0, .int x1]) ++ List.replicate (3 - (lg_sl ([.ref h0, .int x0, .int x1])).length) Slot.unset).toArray = ls at hl ⊢
  have hl : lv_has ls 3 [(0, .ref h0), (1, .int x0), (2, .int x1)] := hl
  refine lv_aload_n hx hb dX11_cut_0 rfl (lv_at hl 0 rfl) ?_
  refine k_get (D := D) (ci := 11) (v := .ref h1) (N := 15) hx hb hts hin11 hown hK hP 0 rfl rfl (by decide) f9_11_1 (hts (.fieldLink RX11 16 "IntegerHouse" "disk" "LIntegerHouse$Disk;") (o9_X11_cut _ (List.mem_of_getElem? (i := 0) rfl))) e0 dX11_cut_1 ?_
  refine k_getN (host := "IntegerHouse") (D := D) (ci := 1) (v := .int 0) (N := 9) hx hb hts hin1 hown hK hP 1 rfl rfl (by decide) f9_1_8 (va_Nw.use rfl (hN.1 ("IntegerHouse", 122, "IntegerHouse$Disk", "down", "Z", "IntegerHouse") (List.mem_of_getElem? (i := 3) rfl))) e1 dX11_cut_4 ?_
  refine lv_if_eq (tgt := 13) hx hb dX11_cut_7 (by decide) (fun _ => ?_) (fun c9 => absurd (by decide) c9)
  refine lv_iload_n hx hb dX11_cut_13 rfl (lv_at hl 1 rfl) ?_
  refine lv_iconst (v := (-1)) hx hb dX11_cut_14 (by decide) ?_
  refine lv_icmp_lt (tgt := 36) hx hb dX11_cut_15 (by decide) (fun _ => ?_) (fun c9 => absurd e2 c9)
  refine lv_bipush (v := (-102)) hx hb dX11_cut_36 (by decide) ?_
  exact W.iret (v := (-102)) hx hb hr (fun t ht hW => ⟨⟨(-102), (), rfl, rfl, kB_mk ht hW hP hK hD⟩, hS.F ht⟩) hS.2.2 dX11_cut_38
