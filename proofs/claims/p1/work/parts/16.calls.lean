theorem dX11_poke_8 : decode cX11_poke 8 = .ok (.new 197, 3) := by decide +kernel
theorem dX11_poke_11 : decode cX11_poke 11 = .ok (.dup, 1) := by decide +kernel
theorem dX11_poke_12 : decode cX11_poke 12 = .ok (.ldc 199, 2) := by decide +kernel
theorem dX11_poke_14 : decode cX11_poke 14 = .ok (.invokespecial 201, 3) := by decide +kernel
theorem dX11_poke_17 : decode cX11_poke 17 = .ok (.athrow, 1) := by decide +kernel
theorem dX11_count_0 : decode cX11_count 0 = .ok (.iload_n 1, 1) := by decide +kernel
theorem dX11_count_1 : decode cX11_count 1 = .ok (.iconst 4, 1) := by decide +kernel
theorem dX11_count_2 : decode cX11_count 2 = .ok (.if_icmp .ne 8, 3) := by decide +kernel
theorem dX11_count_5 : decode cX11_count 5 = .ok (.aload_n 0, 1) := by decide +kernel
theorem dX11_count_6 : decode cX11_count 6 = .ok (.getfield 102, 3) := by decide +kernel
theorem dX11_count_9 : decode cX11_count 9 = .ok (.ireturn, 1) := by decide +kernel
theorem dX11_count_10 : decode cX11_count 10 = .ok (.aload_n 0, 1) := by decide +kernel
theorem dX11_count_11 : decode cX11_count 11 = .ok (.getfield 16, 3) := by decide +kernel
theorem dX11_count_14 : decode cX11_count 14 = .ok (.getfield 122, 3) := by decide +kernel
theorem dX11_count_17 : decode cX11_count 17 = .ok (.ifCond .eq 6, 3) := by decide +kernel
theorem dX11_count_23 : decode cX11_count 23 = .ok (.iload_n 1, 1) := by decide +kernel
theorem dX11_count_24 : decode cX11_count 24 = .ok (.tableswitch 104 0 7 #[48, 56, 64, 75, 104, 83, 91, 99], 48) := by decide +kernel
theorem dX11_count_80 : decode cX11_count 80 = .ok (.aload_n 0, 1) := by decide +kernel
theorem dX11_count_81 : decode cX11_count 81 = .ok (.getfield 23, 3) := by decide +kernel
theorem dX11_count_84 : decode cX11_count 84 = .ok (.getfield 160, 3) := by decide +kernel
theorem dX11_count_87 : decode cX11_count 87 = .ok (.ireturn, 1) := by decide +kernel
theorem dX12_poke_0 : decode cX12_poke 0 = .ok (.aload_n 0, 1) := by decide +kernel
theorem dX12_poke_1 : decode cX12_poke 1 = .ok (.iload_n 1, 1) := by decide +kernel
theorem dX12_poke_2 : decode cX12_poke 2 = .ok (.i2l, 1) := by decide +kernel
theorem dX12_poke_3 : decode cX12_poke 3 = .ok (.lconst 1, 1) := by decide +kernel
theorem dX12_poke_4 : decode cX12_poke 4 = .ok (.ldc2_w 560, 3) := by decide +kernel
theorem dX12_poke_7 : decode cX12_poke 7 = .ok (.invokestatic 504, 3) := by decide +kernel
theorem dX12_poke_10 : decode cX12_poke 10 = .ok (.ifCond .eq 19, 3) := by decide +kernel
theorem dX12_poke_13 : decode cX12_poke 13 = .ok (.iload_n 2, 1) := by decide +kernel
theorem dX12_poke_14 : decode cX12_poke 14 = .ok (.i2l, 1) := by decide +kernel
theorem dX12_poke_15 : decode cX12_poke 15 = .ok (.lconst 0, 1) := by decide +kernel
theorem dX12_poke_16 : decode cX12_poke 16 = .ok (.ldc2_w 530, 3) := by decide +kernel
theorem dX12_poke_19 : decode cX12_poke 19 = .ok (.invokestatic 504, 3) := by decide +kernel
theorem dX12_poke_22 : decode cX12_poke 22 = .ok (.ifCond .eq 7, 3) := by decide +kernel
theorem dX12_poke_25 : decode cX12_poke 25 = .ok (.iconst 0, 1) := by decide +kernel
theorem dX12_poke_26 : decode cX12_poke 26 = .ok (.goto 4, 3) := by decide +kernel
theorem dX12_poke_29 : decode cX12_poke 29 = .ok (.iconst 1, 1) := by decide +kernel
theorem dX12_poke_30 : decode cX12_poke 30 = .ok (.putfield 3, 3) := by decide +kernel
theorem dX12_poke_33 : decode cX12_poke 33 = .ok (.aload_n 0, 1) := by decide +kernel
theorem dX12_poke_34 : decode cX12_poke 34 = .ok (.getfield 3, 3) := by decide +kernel
theorem dX12_poke_37 : decode cX12_poke 37 = .ok (.ifCond .le 5, 3) := by decide +kernel
theorem dX12_poke_40 : decode cX12_poke 40 = .ok (.iconst 0, 1) := by decide +kernel
theorem dX12_poke_41 : decode cX12_poke 41 = .ok (.ireturn, 1) := by decide +kernel
theorem dX12_poke_42 : decode cX12_poke 42 = .ok (.aload_n 0, 1) := by decide +kernel
theorem dX12_poke_43 : decode cX12_poke 43 = .ok (.getfield 19, 3) := by decide +kernel
theorem dX12_poke_46 : decode cX12_poke 46 = .ok (.sipush 256, 3) := by decide +kernel
theorem dX12_poke_49 : decode cX12_poke 49 = .ok (.iload_n 1, 1) := by decide +kernel
theorem dX12_poke_50 : decode cX12_poke 50 = .ok (.imul, 1) := by decide +kernel
theorem dX12_poke_51 : decode cX12_poke 51 = .ok (.iload_n 2, 1) := by decide +kernel
theorem dX12_poke_52 : decode cX12_poke 52 = .ok (.iadd, 1) := by decide +kernel
theorem dX12_poke_53 : decode cX12_poke 53 = .ok (.aload_n 0, 1) := by decide +kernel
theorem dX12_poke_54 : decode cX12_poke 54 = .ok (.getfield 19, 3) := by decide +kernel
theorem dX12_poke_57 : decode cX12_poke 57 = .ok (.sipush 256, 3) := by decide +kernel
theorem dX12_poke_60 : decode cX12_poke 60 = .ok (.iload_n 1, 1) := by decide +kernel
theorem dX12_poke_61 : decode cX12_poke 61 = .ok (.imul, 1) := by decide +kernel
theorem dX12_poke_62 : decode cX12_poke 62 = .ok (.iload_n 2, 1) := by decide +kernel
theorem dX12_poke_63 : decode cX12_poke 63 = .ok (.iadd, 1) := by decide +kernel
theorem dX12_poke_64 : decode cX12_poke 64 = .ok (.baload, 1) := by decide +kernel
theorem dX12_poke_65 : decode cX12_poke 65 = .ok (.iload_n 3, 1) := by decide +kernel
theorem dX12_poke_66 : decode cX12_poke 66 = .ok (.ixor, 1) := by decide +kernel
theorem dX12_poke_67 : decode cX12_poke 67 = .ok (.i2b, 1) := by decide +kernel
theorem dX12_poke_68 : decode cX12_poke 68 = .ok (.bastore, 1) := by decide +kernel
theorem dX12_poke_69 : decode cX12_poke 69 = .ok (.aload_n 0, 1) := by decide +kernel
theorem dX12_poke_70 : decode cX12_poke 70 = .ok (.iload_n 1, 1) := by decide +kernel
theorem dX12_poke_71 : decode cX12_poke 71 = .ok (.iload_n 2, 1) := by decide +kernel
theorem dX12_poke_72 : decode cX12_poke 72 = .ok (.invokevirtual 509, 3) := by decide +kernel
theorem dX12_poke_75 : decode cX12_poke 75 = .ok (.ireturn, 1) := by decide +kernel
theorem dX12_count_0 : decode cX12_count 0 = .ok (.aload_n 0, 1) := by decide +kernel
theorem dX12_count_1 : decode cX12_count 1 = .ok (.iconst 0, 1) := by decide +kernel
theorem dX12_count_2 : decode cX12_count 2 = .ok (.putfield 3, 3) := by decide +kernel
theorem dX12_count_5 : decode cX12_count 5 = .ok (.iload_n 1, 1) := by decide +kernel
theorem dX12_count_6 : decode cX12_count 6 = .ok (.iconst 4, 1) := by decide +kernel
theorem dX12_count_7 : decode cX12_count 7 = .ok (.if_icmp .ne 8, 3) := by decide +kernel
theorem dX12_count_15 : decode cX12_count 15 = .ok (.aload_n 0, 1) := by decide +kernel
theorem dX12_count_16 : decode cX12_count 16 = .ok (.getfield 488, 3) := by decide +kernel
theorem dX12_count_19 : decode cX12_count 19 = .ok (.ifCond .eq 6, 3) := by decide +kernel
theorem dX12_count_25 : decode cX12_count 25 = .ok (.iconst 0, 1) := by decide +kernel
theorem dX12_count_26 : decode cX12_count 26 = .ok (.istore_n 2, 1) := by decide +kernel
theorem dX12_count_27 : decode cX12_count 27 = .ok (.iconst 0, 1) := by decide +kernel
theorem dX12_count_28 : decode cX12_count 28 = .ok (.istore_n 3, 1) := by decide +kernel
theorem dX12_count_29 : decode cX12_count 29 = .ok (.iload_n 3, 1) := by decide +kernel
theorem dX12_count_30 : decode cX12_count 30 = .ok (.aload_n 0, 1) := by decide +kernel
theorem dX12_count_31 : decode cX12_count 31 = .ok (.getfield 818, 3) := by decide +kernel
theorem dX12_count_34 : decode cX12_count 34 = .ok (.if_icmp .ge 26, 3) := by decide +kernel
theorem dX12_count_60 : decode cX12_count 60 = .ok (.iload_n 1, 1) := by decide +kernel
theorem dX12_count_61 : decode cX12_count 61 = .ok (.tableswitch 79 0 7 #[47, 52, 57, 59, 79, 64, 69, 74], 47) := by decide +kernel
theorem dX12_count_113 : decode cX12_count 113 = .ok (.aload_n 0, 1) := by decide +kernel
theorem dX12_count_114 : decode cX12_count 114 = .ok (.getfield 818, 3) := by decide +kernel
theorem dX12_count_117 : decode cX12_count 117 = .ok (.ireturn, 1) := by decide +kernel
theorem dL_poke_0 : decode cL_poke 0 = .ok (.aload 4, 2) := by decide +kernel
theorem dL_poke_2 : decode cL_poke 2 = .ok (.iconst 0, 1) := by decide +kernel
theorem dL_poke_3 : decode cL_poke 3 = .ok (.aload_n 0, 1) := by decide +kernel
theorem dL_poke_4 : decode cL_poke 4 = .ok (.iload_n 1, 1) := by decide +kernel
theorem dL_poke_5 : decode cL_poke 5 = .ok (.iload_n 2, 1) := by decide +kernel
theorem dL_poke_6 : decode cL_poke 6 = .ok (.iload_n 3, 1) := by decide +kernel
theorem dL_poke_7 : decode cL_poke 7 = .ok (.invokevirtual 27, 3) := by decide +kernel
theorem dL_poke_10 : decode cL_poke 10 = .ok (.i2l, 1) := by decide +kernel
theorem dL_poke_11 : decode cL_poke 11 = .ok (.lastore, 1) := by decide +kernel
theorem dL_poke_12 : decode cL_poke 12 = .ok (.goto 7, 3) := by decide +kernel
theorem dL_poke_15 : decode cL_poke 15 = .ok (.astore 5, 2) := by decide +kernel
theorem dL_poke_17 : decode cL_poke 17 = .ok (.iconst 1, 1) := by decide +kernel
theorem dL_poke_18 : decode cL_poke 18 = .ok (.ireturn, 1) := by decide +kernel
theorem dL_poke_19 : decode cL_poke 19 = .ok (.iconst 0, 1) := by decide +kernel
theorem dL_poke_20 : decode cL_poke 20 = .ok (.ireturn, 1) := by decide +kernel
set_option maxHeartbeats 400000000 in
set_option maxRecDepth 100000 in
theorem c_L_poke_0 (l : Launch) (E : kE) (D : va_G) (cI cJ cB cZ : ClassId) (h0 : Nat) (x0 : Int32) (x1 : Int32) (x2 : Int32) (h1 : Nat) (f0 : List Value) (h2 : Nat) (f1 : List Value) (h3 : Nat) (g0 : Nat → Int32) (g1 : Nat → Int64) (e0 : f0[1]? = some (.ref h2)) (e1 : f1[0]? = some (.ref h3)) (e2 : g0 (Int32.toNatClampNeg (((x0 - 1) * 256) + x1)) = 0) (e3 : ¬ ((x0 : Int32) < 1)) (e4 : (x0 : Int32) < 101) (e5 : ¬ ((x1 : Int32) < 0)) (e6 : (x1 : Int32) < 256) (e7 : vp_in (((x0 - 1) * 256) + x1) 25600) : kI l E D (kT cI cJ cB cZ) yL_poke vW_L_poke ({ frames := 4, cells := 0, slots := 0, locals := 89 }) [.ref h0, .int x0, .int x1, .int x2, .ref h1] [(h0, .inr (11, f0)), (h2, .inr (1, f1)), (h3, .inl (cB, 25600, .inl g0)), (h1, .inl (cJ, 1, .inr (.inl g1)))] (0) [(h0, .inr (11, f0)), (h2, .inr (1, f1)), (h3, .inl (cB, 25600, .inl (upd g0 (Int32.toNatClampNeg (((x0 - 1) * 256) + x1)) (vp_nar .byte (Int8.toInt32 (Int32.toInt8 (0 ^^^ (Int8.toInt32 (Int32.toInt8 x2))))))))), (h1, .inl (cJ, 1, .inr (.inl (vp_updL g1 0 (Int32.toInt64 ((vp_nar .byte (Int8.toInt32 (Int32.toInt8 (0 ^^^ (Int8.toInt32 (Int32.toInt8 x2)))))) &&& 255))))))] 0 0 := by
  intro sz
  refine k_metH (cc := cL_poke) (maxL := 6) (ret := (some .int)) (hh := [(0, 12, 15, 25)]) (by decide) rfl ?_
  intro p e s m args below meth c s₁ B hml hv
  obtain ⟨rfl, hsz, hP, hK, hD0, hN, hX⟩ := hv
  have hx := B.exec
  have hb := B.bytes
  have hr := B.returns
  have hts := atoms_spec (ws := vW_L_poke) B.pre
  have hown : s.vm.findClass RL = some m.cls := findClass_of_methodNamed B.named
  have hlocks := B.notSynchronized
  subst hsz
  have hD := hD0.self (sz := s.heap.size)
  have hAE := k_AE hD0 hX
  generalize hAe : va_A [(h0, .inr (11, f0)), (h2, .inr (1, f1)), (h3, .inl (cB, 25600, .inl g0)), (h1, .inl (cJ, 1, .inr (.inl g1)))] s.heap.size = A at hD hAE ⊢
  have hA : ∀ q : Nat, s.heap.size ≤ q → A q := fun q h => by rw [← hAe]; exact Or.inr h
  have hS : va_S A s.heap s.heap [] := va_S.rf
  have hP : va_P D vwCl [(h0, .inr (11, f0)), (h2, .inr (1, f1)), (h3, .inl (cB, 25600, .inl g0)), (h1, .inl (cJ, 1, .inr (.inl g1)))] s.heap := hP
  have hl := lv_entry ([.ref h0, .int x0, .int x1, .int x2, .ref h1] : List Value) (n := 6) (Nat.le_of_ble_eq_true rfl)
  rw [lg_entry_eq]
  generalize (lg_sl ([.ref h0, .int x0, .int x1, .int x2, .ref h1]) ++ List.replicate (6 - (lg_sl ([.ref h0, .int x0, .int x1, .int x2, .ref h1])).length) Slot.unset).toArray = ls at hl ⊢
  have hl : lv_has ls 6 [(0, .ref h0), (1, .int x0), (2, .int x1), (3, .int x2), (4, .ref h1)] := hl
  refine lv_aload hx hb dL_poke_0 (lv_at hl 4 rfl) ?_
  refine lv_iconst (v := 0) hx hb dL_poke_2 (by decide) ?_
  refine lv_aload_n hx hb dL_poke_3 rfl (lv_at hl 0 rfl) ?_
  refine lv_iload_n hx hb dL_poke_4 rfl (lv_at hl 1 rfl) ?_
  refine lv_iload_n hx hb dL_poke_5 rfl (lv_at hl 2 rfl) ?_
  refine lv_iload_n hx hb dL_poke_6 rfl (lv_at hl 3 rfl) ?_
  refine k_cVi (As := [.int x0, .int x1, .int x2]) (rest := [.int 0, .ref h1]) (wc := [(h0, .inr (11, f0)), (h2, .inr (1, f1)), (h3, .inl (cB, 25600, .inl g0))]) (wr := [(h1, .inl (cJ, 1, .inr (.inl g1)))]) (w1 := [(h0, .inr (11, f0)), (h2, .inr (1, f1)), (h3, .inl (cB, 25600, .inl (upd g0 (Int32.toNatClampNeg (((x0 - 1) * 256) + x1)) (vp_nar .byte (Int8.toInt32 (Int32.toInt8 (0 ^^^ (Int8.toInt32 (Int32.toInt8 x2)))))))))]) ⟨hx, hb, hml, hown, hts⟩ hN hX hAE hK hP hD hS hA [0, 1, 2] [3] (ci := 11) rfl rfl rfl rfl (by decide +kernel) (by decide +kernel) (by decide +kernel) (c_X11_poke_0 l E D cI cJ cB cZ h0 x0 x1 x2 f0 h2 f1 h3 g0 e3 e4 e5 e6 e0 e1 e2 e7) (cwV 3 hts g9_L_poke_X11_poke_27 rfl rfl rfl (by decide +kernel) ⟨Nat.le_of_ble_eq_true rfl, Nat.le_of_ble_eq_true rfl⟩) rfl hl.1 (Nat.le_of_ble_eq_true rfl) dL_poke_7 ⟨Nat.le_of_ble_eq_true rfl, Nat.le_of_ble_eq_true rfl⟩ (fun H locs hP hD hS => ?_)
  have hP : va_P D vwCl [(h1, .inl (cJ, 1, .inr (.inl g1))), (h0, .inr (11, f0)), (h2, .inr (1, f1)), (h3, .inl (cB, 25600, .inl (upd g0 (Int32.toNatClampNeg (((x0 - 1) * 256) + x1)) (vp_nar .byte (Int8.toInt32 (Int32.toInt8 (0 ^^^ (Int8.toInt32 (Int32.toInt8 x2)))))))))] H := hP
  have hD : va_D A [(h1, .inl (cJ, 1, .inr (.inl g1))), (h0, .inr (11, f0)), (h2, .inr (1, f1)), (h3, .inl (cB, 25600, .inl (upd g0 (Int32.toNatClampNeg (((x0 - 1) * 256) + x1)) (vp_nar .byte (Int8.toInt32 (Int32.toInt8 (0 ^^^ (Int8.toInt32 (Int32.toInt8 x2)))))))))] := hD
  refine lv_i2l (v := (Int32.toInt64 ((vp_nar .byte (Int8.toInt32 (Int32.toInt8 (0 ^^^ (Int8.toInt32 (Int32.toInt8 x2)))))) &&& 255))) hx hb dL_poke_10 rfl ?_
  refine va_last hx hb hK hP hD hS 0 1 rfl rfl (k_in (by decide)) dL_poke_11 (fun H locs hP hD hS => ?_)
  have hP : va_P D vwCl [(h1, .inl (cJ, 1, .inr (.inl (vp_updL g1 0 (Int32.toInt64 ((vp_nar .byte (Int8.toInt32 (Int32.toInt8 (0 ^^^ (Int8.toInt32 (Int32.toInt8 x2)))))) &&& 255)))))), (h0, .inr (11, f0)), (h2, .inr (1, f1)), (h3, .inl (cB, 25600, .inl (upd g0 (Int32.toNatClampNeg (((x0 - 1) * 256) + x1)) (vp_nar .byte (Int8.toInt32 (Int32.toInt8 (0 ^^^ (Int8.toInt32 (Int32.toInt8 x2)))))))))] H := hP
  have hD : va_D A [(h1, .inl (cJ, 1, .inr (.inl (vp_updL g1 0 (Int32.toInt64 ((vp_nar .byte (Int8.toInt32 (Int32.toInt8 (0 ^^^ (Int8.toInt32 (Int32.toInt8 x2)))))) &&& 255)))))), (h0, .inr (11, f0)), (h2, .inr (1, f1)), (h3, .inl (cB, 25600, .inl (upd g0 (Int32.toNatClampNeg (((x0 - 1) * 256) + x1)) (vp_nar .byte (Int8.toInt32 (Int32.toInt8 (0 ^^^ (Int8.toInt32 (Int32.toInt8 x2)))))))))] := hD
  refine lv_goto (tgt := 19) hx hb dL_poke_12 (by decide) ?_
  refine lv_iconst (v := 0) hx hb dL_poke_19 (by decide) ?_
  have hP := hP.sub (ws' := [(h0, .inr (11, f0)), (h2, .inr (1, f1)), (h3, .inl (cB, 25600, .inl (upd g0 (Int32.toNatClampNeg (((x0 - 1) * 256) + x1)) (vp_nar .byte (Int8.toInt32 (Int32.toInt8 (0 ^^^ (Int8.toInt32 (Int32.toInt8 x2))))))))), (h1, .inl (cJ, 1, .inr (.inl (vp_updL g1 0 (Int32.toInt64 ((vp_nar .byte (Int8.toInt32 (Int32.toInt8 (0 ^^^ (Int8.toInt32 (Int32.toInt8 x2)))))) &&& 255))))))]) [1, 2, 3, 0] rfl
  have hD := hD.sub (ws' := [(h0, .inr (11, f0)), (h2, .inr (1, f1)), (h3, .inl (cB, 25600, .inl (upd g0 (Int32.toNatClampNeg (((x0 - 1) * 256) + x1)) (vp_nar .byte (Int8.toInt32 (Int32.toInt8 (0 ^^^ (Int8.toInt32 (Int32.toInt8 x2))))))))), (h1, .inl (cJ, 1, .inr (.inl (vp_updL g1 0 (Int32.toInt64 ((vp_nar .byte (Int8.toInt32 (Int32.toInt8 (0 ^^^ (Int8.toInt32 (Int32.toInt8 x2)))))) &&& 255))))))]) [1, 2, 3, 0] (by decide +kernel) rfl
  exact W.iret (v := 0) hx hb hr (fun t ht hW => ⟨⟨0, (), rfl, rfl, kB_mk ht hW hP hK hD⟩, hS.F ht⟩) hS.2.2 dL_poke_20
set_option maxHeartbeats 400000000 in
set_option maxRecDepth 100000 in
theorem c_X12_at_1 (l : Launch) (E : kE) (D : va_G) (cI cJ cB cZ : ClassId) (h0 : Nat) (x0 : Int32) (x1 : Int32) (f0 : List Value) (h1 : Nat) (g0 : Nat → Int32) (x2 : Int32) (e0 : f0[3]? = some (.ref h1)) (e1 : vp_in ((256 * x0) + x1) 25856) (e2 : g0 (Int32.toNatClampNeg ((256 * x0) + x1)) = x2) : kI l E D (kT cI cJ cB cZ) yX12_at vW_X12_at ({ frames := 0, cells := 0, slots := 0, locals := 0 }) [.ref h0, .int x0, .int x1] [(h0, .inr (12, f0)), (h1, .inl (cB, 25856, .inl g0))] ((x2 &&& 255)) [(h0, .inr (12, f0)), (h1, .inl (cB, 25856, .inl g0))] 0 0 := by
  intro sz
  refine Met.ofW (cc := cX12_at) (maxL := 3) (ret := (some .int)) (by decide) rfl ?_
  intro p e s m args below meth c s₁ B hml hv
  obtain ⟨rfl, hsz, hP, hK, hD0, hN, hX⟩ := hv
  have hx := B.exec
  have hb := B.bytes
  have hr := B.returns
  have hts := atoms_spec (ws := vW_X12_at) B.pre
  have hown : s.vm.findClass RX12 = some m.cls := findClass_of_methodNamed B.named
  have hlocks := B.notSynchronized
  have hin12 : ∀ w ∈ wsX120, w ∈ vW_X12_at := u9_X12_at_wsX120
  subst hsz
  have hD := hD0.self (sz := s.heap.size)
  have hAE := k_AE hD0 hX
  generalize hAe : va_A [(h0, .inr (12, f0)), (h1, .inl (cB, 25856, .inl g0))] s.heap.size = A at hD hAE ⊢
  have hA : ∀ q : Nat, s.heap.size ≤ q → A q := fun q h => by rw [← hAe]; exact Or.inr h
  have hS : va_S A s.heap s.heap [] := va_S.rf
  have hP : va_P D vwCl [(h0, .inr (12, f0)), (h1, .inl (cB, 25856, .inl g0))] s.heap := hP
  have hl := lv_entry ([.ref h0, .int x0, .int x1] : List Value) (n := 3) (Nat.le_of_ble_eq_true rfl)
  rw [lg_entry_eq]
  generalize (lg_sl ([.ref h0, .int x0, .int x1]) ++ List.replicate (3 - (lg_sl ([.ref h0, .int x0, .int x1])).length) Slot.unset).toArray = ls at hl ⊢
  have hl : lv_has ls 3 [(0, .ref h0), (1, .int x0), (2, .int x1)] := hl
  refine lv_aload_n hx hb dX12_at_0 rfl (lv_at hl 0 rfl) ?_
  refine k_get (D := D) (ci := 12) (v := .ref h1) (N := 195) hx hb hts hin12 hown hK hP 0 rfl rfl (by decide) f9_12_3 (hts (.fieldLink RX12 19 "IntegerHouseModel" "disk" "[B") (o9_X12_at _ (List.mem_of_getElem? (i := 0) rfl))) e0 dX12_at_1 ?_
  refine lv_sipush (v := 256) hx hb dX12_at_4 (by decide) ?_
  refine lv_iload_n hx hb dX12_at_7 rfl (lv_at hl 1 rfl) ?_
  refine lv_imul hx hb dX12_at_8 ?_
  refine lv_iload_n hx hb dX12_at_9 rfl (lv_at hl 2 rfl) ?_
  refine lv_iadd hx hb dX12_at_10 ?_
  refine va_bald hx hb hK hP 1 2 rfl rfl e1 dX12_at_11 ?_
  refine k_topi (y := x2) e2 ?_
  refine lv_sipush (v := 255) hx hb dX12_at_12 (by decide) ?_
  refine lv_iand hx hb dX12_at_15 ?_
  exact W.iret (v := (x2 &&& 255)) hx hb hr (fun t ht hW => ⟨⟨(x2 &&& 255), (), rfl, rfl, kB_mk ht hW hP hK hD⟩, hS.F ht⟩) hS.2.2 dX12_at_16
set_option maxHeartbeats 400000000 in
set_option maxRecDepth 100000 in
theorem c_X12_poke_0 (l : Launch) (E : kE) (D : va_G) (cI cJ cB cZ : ClassId) (h0 : Nat) (x0 : Int32) (x1 : Int32) (x2 : Int32) (f0 : List Value) (h1 : Nat) (g0 : Nat → Int32) (e0 : ¬ ((x0 : Int32) < 1)) (e1 : (x0 : Int32) < 101) (e2 : ¬ ((x1 : Int32) < 0)) (e3 : (x1 : Int32) < 256) (e4 : f0[0]? = some (.int 0)) (e5 : f0[3]? = some (.ref h1)) (e6 : vp_in ((256 * x0) + x1) 25856) (e7 : g0 (Int32.toNatClampNeg ((256 * x0) + x1)) = 0) : kI l E D (kT cI cJ cB cZ) yX12_poke vW_X12_poke ({ frames := 1, cells := 0, slots := 0, locals := 25 }) [.ref h0, .int x0, .int x1, .int x2] [(h0, .inr (12, f0)), (h1, .inl (cB, 25856, .inl g0))] (((vp_nar .byte (Int8.toInt32 (Int32.toInt8 (0 ^^^ x2)))) &&& 255)) [(h0, .inr (12, (f0.set 0 (.int 0)))), (h1, .inl (cB, 25856, .inl (upd g0 (Int32.toNatClampNeg ((256 * x0) + x1)) (vp_nar .byte (Int8.toInt32 (Int32.toInt8 (0 ^^^ x2)))))))] 0 0 := by
  intro sz
  refine Met.ofW (cc := cX12_poke) (maxL := 4) (ret := (some .int)) (by decide) rfl ?_
  intro p e s m args below meth c s₁ B hml hv
  obtain ⟨rfl, hsz, hP, hK, hD0, hN, hX⟩ := hv
  have hx := B.exec
  have hb := B.bytes
  have hr := B.returns
  have hts := atoms_spec (ws := vW_X12_poke) B.pre
  have hown : s.vm.findClass RX12 = some m.cls := findClass_of_methodNamed B.named
  have hlocks := B.notSynchronized
  have hin12 : ∀ w ∈ wsX120, w ∈ vW_X12_poke := u9_X12_poke_wsX120
  subst hsz
  have hD := hD0.self (sz := s.heap.size)
  have hAE := k_AE hD0 hX
  generalize hAe : va_A [(h0, .inr (12, f0)), (h1, .inl (cB, 25856, .inl g0))] s.heap.size = A at hD hAE ⊢
  have hA : ∀ q : Nat, s.heap.size ≤ q → A q := fun q h => by rw [← hAe]; exact Or.inr h
  have hS : va_S A s.heap s.heap [] := va_S.rf
  have hP : va_P D vwCl [(h0, .inr (12, f0)), (h1, .inl (cB, 25856, .inl g0))] s.heap := hP
  have hl := lv_entry ([.ref h0, .int x0, .int x1, .int x2] : List Value) (n := 4) (Nat.le_of_ble_eq_true rfl)
  rw [lg_entry_eq]
  generalize (lg_sl ([.ref h0, .int x0, .int x1, .int x2]) ++ List.replicate (4 - (lg_sl ([.ref h0, .int x0, .int x1, .int x2])).length) Slot.unset).toArray = ls at hl ⊢
  have hl : lv_has ls 4 [(0, .ref h0), (1, .int x0), (2, .int x1), (3, .int x2)] := hl
  refine lv_aload_n hx hb dX12_poke_0 rfl (lv_at hl 0 rfl) ?_
  refine lv_iload_n hx hb dX12_poke_1 rfl (lv_at hl 1 rfl) ?_
  refine lv_i2l (v := (Int32.toInt64 x0)) hx hb dX12_poke_2 rfl ?_
  refine lv_lconst (v := 1) hx hb dX12_poke_3 (by decide) ?_
  refine lv_ldc2 (own := RX12) (index := 560) (v := 100) hx hb hown (hts (.constantLong RX12 560 (100)) (o9_X12_poke _ (List.mem_of_getElem? (i := 0) rfl))) dX12_poke_4 ?_
  refine k_cSi (As := [.long (Int32.toInt64 x0), .long 1, .long 100]) (rest := [.ref h0]) (wc := []) (wr := [(h0, .inr (12, f0)), (h1, .inl (cB, 25856, .inl g0))]) (w1 := []) ⟨hx, hb, hml, hown, hts⟩ hN hX hAE hK hP hD hS hA [] [0, 1] rfl rfl (by decide +kernel) (by decide +kernel) (by decide +kernel) (c_X12_in_9 l E D cI cJ cB cZ (Int32.toInt64 x0) (fun z9 => e0 ((k_n4 (x := x0) (c := 1) (C := 1) (by decide)).mp z9)) (fun z9 => (k_n5 (x := x0) (c := 100) (d := 101) (C := 100) (by decide) (by decide)).mp z9 e1)) (va_cwS 3 hts g9_X12_poke_X12_in_504 rfl rfl rfl (by decide +kernel) ⟨Nat.le_of_ble_eq_true rfl, Nat.le_of_ble_eq_true rfl⟩) rfl hl.1 (Nat.le_of_ble_eq_true rfl) dX12_poke_7 ⟨Nat.le_of_ble_eq_true rfl, Nat.le_of_ble_eq_true rfl⟩ (fun H locs hP hD hS => ?_)
  have hP : va_P D vwCl [(h0, .inr (12, f0)), (h1, .inl (cB, 25856, .inl g0))] H := hP
  have hD : va_D A [(h0, .inr (12, f0)), (h1, .inl (cB, 25856, .inl g0))] := hD
  refine lv_if_eq (tgt := 29) hx hb dX12_poke_10 (by decide) (fun c9 => absurd c9 (by decide)) (fun _ => ?_)
  refine lv_iload_n hx hb dX12_poke_13 rfl (lv_at hl 2 rfl) ?_
  refine lv_i2l (v := (Int32.toInt64 x1)) hx hb dX12_poke_14 rfl ?_
  refine lv_lconst (v := 0) hx hb dX12_poke_15 (by decide) ?_
  refine lv_ldc2 (own := RX12) (index := 530) (v := 255) hx hb hown (hts (.constantLong RX12 530 (255)) (o9_X12_poke _ (List.mem_of_getElem? (i := 4) rfl))) dX12_poke_16 ?_
  refine k_cSi (As := [.long (Int32.toInt64 x1), .long 0, .long 255]) (rest := [.ref h0]) (wc := []) (wr := [(h0, .inr (12, f0)), (h1, .inl (cB, 25856, .inl g0))]) (w1 := []) ⟨hx, hb, hml, hown, hts⟩ hN hX hAE hK hP hD hS hA [] [0, 1] rfl rfl (by decide +kernel) (by decide +kernel) (by decide +kernel) (c_X12_in_4 l E D cI cJ cB cZ (Int32.toInt64 x1) (fun z9 => e2 ((k_n4 (x := x1) (c := 0) (C := 0) (by decide)).mp z9)) (fun z9 => (k_n5 (x := x1) (c := 255) (d := 256) (C := 255) (by decide) (by decide)).mp z9 e3)) (va_cwS 3 hts g9_X12_poke_X12_in_504 rfl rfl rfl (by decide +kernel) ⟨Nat.le_of_ble_eq_true rfl, Nat.le_of_ble_eq_true rfl⟩) rfl hl.1 (Nat.le_of_ble_eq_true rfl) dX12_poke_19 ⟨Nat.le_of_ble_eq_true rfl, Nat.le_of_ble_eq_true rfl⟩ (fun H locs hP hD hS => ?_)
  have hP : va_P D vwCl [(h0, .inr (12, f0)), (h1, .inl (cB, 25856, .inl g0))] H := hP
  have hD : va_D A [(h0, .inr (12, f0)), (h1, .inl (cB, 25856, .inl g0))] := hD
  refine lv_if_eq (tgt := 29) hx hb dX12_poke_22 (by decide) (fun c9 => absurd c9 (by decide)) (fun _ => ?_)
  refine lv_iconst (v := 0) hx hb dX12_poke_25 (by decide) ?_
  refine lv_goto (tgt := 30) hx hb dX12_poke_26 (by decide) ?_
  refine k_put (D := D) (ci := 12) (v := .int 0) (ty := .int) (N := 195) hx hb hts hin12 tyX12 tyX12_ok nmX12 hown hK hP hD hS 0 rfl rfl (by decide) f9_12_0 (hts (.fieldLink RX12 3 "IntegerHouseModel" "thrown" "I") (o9_X12_poke _ (List.mem_of_getElem? (i := 5) rfl))) rfl pd_2 rfl rfl (k_len e4) dX12_poke_30 (fun H locs hP hD hS => ?_)
  have hP : va_P D vwCl [(h0, .inr (12, (f0.set 0 (.int 0)))), (h1, .inl (cB, 25856, .inl g0))] H := hP
  have hD : va_D A [(h0, .inr (12, (f0.set 0 (.int 0)))), (h1, .inl (cB, 25856, .inl g0))] := hD
  refine lv_aload_n hx hb dX12_poke_33 rfl (lv_at hl 0 rfl) ?_
  refine k_get (D := D) (ci := 12) (v := .int 0) (N := 195) hx hb hts hin12 hown hK hP 0 rfl rfl (by decide) f9_12_0 (hts (.fieldLink RX12 3 "IntegerHouseModel" "thrown" "I") (o9_X12_poke _ (List.mem_of_getElem? (i := 5) rfl))) (k_set e4) dX12_poke_34 ?_
  refine lv_if_le (tgt := 42) hx hb dX12_poke_37 (by decide) (fun _ => ?_) (fun c9 => absurd (by decide) c9)
  refine lv_aload_n hx hb dX12_poke_42 rfl (lv_at hl 0 rfl) ?_
  refine k_get (D := D) (ci := 12) (v := .ref h1) (N := 195) hx hb hts hin12 hown hK hP 0 rfl rfl (by decide) f9_12_3 (hts (.fieldLink RX12 19 "IntegerHouseModel" "disk" "[B") (o9_X12_poke _ (List.mem_of_getElem? (i := 6) rfl))) (k_ne (by decide) e5) dX12_poke_43 ?_
  refine lv_sipush (v := 256) hx hb dX12_poke_46 (by decide) ?_
  refine lv_iload_n hx hb dX12_poke_49 rfl (lv_at hl 1 rfl) ?_
  refine lv_imul hx hb dX12_poke_50 ?_
  refine lv_iload_n hx hb dX12_poke_51 rfl (lv_at hl 2 rfl) ?_
  refine lv_iadd hx hb dX12_poke_52 ?_
  refine lv_aload_n hx hb dX12_poke_53 rfl (lv_at hl 0 rfl) ?_
  refine k_get (D := D) (ci := 12) (v := .ref h1) (N := 195) hx hb hts hin12 hown hK hP 0 rfl rfl (by decide) f9_12_3 (hts (.fieldLink RX12 19 "IntegerHouseModel" "disk" "[B") (o9_X12_poke _ (List.mem_of_getElem? (i := 6) rfl))) (k_ne (by decide) e5) dX12_poke_54 ?_
  refine lv_sipush (v := 256) hx hb dX12_poke_57 (by decide) ?_
  refine lv_iload_n hx hb dX12_poke_60 rfl (lv_at hl 1 rfl) ?_
  refine lv_imul hx hb dX12_poke_61 ?_
  refine lv_iload_n hx hb dX12_poke_62 rfl (lv_at hl 2 rfl) ?_
  refine lv_iadd hx hb dX12_poke_63 ?_
  refine va_bald hx hb hK hP 1 2 rfl rfl e6 dX12_poke_64 ?_
  refine k_topi (y := 0) e7 ?_
  refine lv_iload_n hx hb dX12_poke_65 rfl (lv_at hl 3 rfl) ?_
  refine lv_ixor hx hb dX12_poke_66 ?_
  refine lv_i2b (v := (Int8.toInt32 (Int32.toInt8 (0 ^^^ x2)))) hx hb dX12_poke_67 rfl ?_
  refine va_bast hx hb hK hP hD hS 1 2 rfl rfl e6 dX12_poke_68 (fun H locs hP hD hS => ?_)
  have hP : va_P D vwCl [(h0, .inr (12, (f0.set 0 (.int 0)))), (h1, .inl (cB, 25856, .inl (upd g0 (Int32.toNatClampNeg ((256 * x0) + x1)) (vp_nar .byte (Int8.toInt32 (Int32.toInt8 (0 ^^^ x2)))))))] H := hP
  have hD : va_D A [(h0, .inr (12, (f0.set 0 (.int 0)))), (h1, .inl (cB, 25856, .inl (upd g0 (Int32.toNatClampNeg ((256 * x0) + x1)) (vp_nar .byte (Int8.toInt32 (Int32.toInt8 (0 ^^^ x2)))))))] := hD
  refine lv_aload_n hx hb dX12_poke_69 rfl (lv_at hl 0 rfl) ?_
  refine lv_iload_n hx hb dX12_poke_70 rfl (lv_at hl 1 rfl) ?_
  refine lv_iload_n hx hb dX12_poke_71 rfl (lv_at hl 2 rfl) ?_
  refine k_cVi (As := [.int x0, .int x1]) (rest := []) (wc := [(h0, .inr (12, (f0.set 0 (.int 0)))), (h1, .inl (cB, 25856, .inl (upd g0 (Int32.toNatClampNeg ((256 * x0) + x1)) (vp_nar .byte (Int8.toInt32 (Int32.toInt8 (0 ^^^ x2)))))))]) (wr := []) (w1 := [(h0, .inr (12, (f0.set 0 (.int 0)))), (h1, .inl (cB, 25856, .inl (upd g0 (Int32.toNatClampNeg ((256 * x0) + x1)) (vp_nar .byte (Int8.toInt32 (Int32.toInt8 (0 ^^^ x2)))))))]) ⟨hx, hb, hml, hown, hts⟩ hN hX hAE hK hP hD hS hA [0, 1] [] (ci := 12) rfl rfl rfl rfl (by decide +kernel) (by decide +kernel) (by decide +kernel) (c_X12_at_1 l E D cI cJ cB cZ h0 x0 x1 ((f0.set 0 (.int 0))) h1 ((upd g0 (Int32.toNatClampNeg ((256 * x0) + x1)) (vp_nar .byte (Int8.toInt32 (Int32.toInt8 (0 ^^^ x2)))))) (vp_nar .byte (Int8.toInt32 (Int32.toInt8 (0 ^^^ x2)))) (k_ne (by decide) e5) e6 (if_pos rfl)) (cwV 2 hts g9_X12_poke_X12_at_509 rfl rfl rfl (by decide +kernel) ⟨Nat.le_of_ble_eq_true rfl, Nat.le_of_ble_eq_true rfl⟩) rfl hl.1 (Nat.le_of_ble_eq_true rfl) dX12_poke_72 ⟨Nat.le_of_ble_eq_true rfl, Nat.le_of_ble_eq_true rfl⟩ (fun H locs hP hD hS => ?_)
  have hP : va_P D vwCl [(h0, .inr (12, (f0.set 0 (.int 0)))), (h1, .inl (cB, 25856, .inl (upd g0 (Int32.toNatClampNeg ((256 * x0) + x1)) (vp_nar .byte (Int8.toInt32 (Int32.toInt8 (0 ^^^ x2)))))))] H := hP
  have hD : va_D A [(h0, .inr (12, (f0.set 0 (.int 0)))), (h1, .inl (cB, 25856, .inl (upd g0 (Int32.toNatClampNeg ((256 * x0) + x1)) (vp_nar .byte (Int8.toInt32 (Int32.toInt8 (0 ^^^ x2)))))))] := hD
  exact W.iret (v := ((vp_nar .byte (Int8.toInt32 (Int32.toInt8 (0 ^^^ x2)))) &&& 255)) hx hb hr (fun t ht hW => ⟨⟨((vp_nar .byte (Int8.toInt32 (Int32.toInt8 (0 ^^^ x2)))) &&& 255), (), rfl, rfl, kB_mk ht hW hP hK hD⟩, hS.F ht⟩) hS.2.2 dX12_poke_75
set_option maxHeartbeats 400000000 in
set_option maxRecDepth 100000 in
theorem c_X11_poke_1 (l : Launch) (E : kE) (D : va_G) (cI cJ cB cZ : ClassId) (h0 : Nat) (x0 : Int32) (x1 : Int32) (x2 : Int32) (f0 : List Value) (e0 : (x0 : Int32) < 1) (hl9 : l.stackTraces = false) : kTI l E D (kT cI cJ cB cZ) yX11_poke vW_X11_poke ({ frames := 6, cells := 1, slots := 6, locals := 82 }) [.ref h0, .int x0, .int x1, .int x2] [(h0, .inr (11, f0))] "java/lang/IndexOutOfBoundsException" 1 6 := by
  intro sz
  refine vx_ofW (cc := cX11_poke) (maxL := 4) (ret := (some .int)) (by decide) rfl ?_
  intro p e s m args below meth c s₁ B hml ht9 hv
  obtain ⟨rfl, hsz, hP, hK, hD0, hN, hX⟩ := hv
  have hx := B.exec
  have hb := B.bytes
  have hr := B.returns
  have hts := atoms_spec (ws := vW_X11_poke) B.pre
  have hown : s.vm.findClass RX11 = some m.cls := findClass_of_methodNamed B.named
  have hlocks := B.notSynchronized
  subst hsz
  have hD := hD0.self (sz := s.heap.size)
  have hAE := k_AE hD0 hX
  generalize hAe : va_A [(h0, .inr (11, f0))] s.heap.size = A at hD hAE ⊢
  have hA : ∀ q : Nat, s.heap.size ≤ q → A q := fun q h => by rw [← hAe]; exact Or.inr h
  have hS : va_S A s.heap s.heap [] := va_S.rf
  have hP : va_P D vwCl [(h0, .inr (11, f0))] s.heap := hP
  have hl := lv_entry ([.ref h0, .int x0, .int x1, .int x2] : List Value) (n := 4) (Nat.le_of_ble_eq_true rfl)
  rw [lg_entry_eq]
  generalize (lg_sl ([.ref h0, .int x0, .int x1, .int x2]) ++ List.replicate (4 - (lg_sl ([.ref h0, .int x0, .int x1, .int x2])).length) Slot.unset).toArray = ls at hl ⊢
  have hl : lv_has ls 4 [(0, .ref h0), (1, .int x0), (2, .int x1), (3, .int x2)] := hl
  refine lv_iload_n hx hb dX11_poke_0 rfl (lv_at hl 1 rfl) ?_
  refine lv_iload_n hx hb dX11_poke_1 rfl (lv_at hl 2 rfl) ?_
  refine k_cSi (As := [.int x0, .int x1]) (rest := []) (wc := []) (wr := [(h0, .inr (11, f0))]) (w1 := []) ⟨hx, hb, hml, hown, hts⟩ hN hX hAE hK hP hD hS hA [] [0] rfl rfl (by decide +kernel) (by decide +kernel) (by decide +kernel) (c_X1_isByte_1 l E D cI cJ cB cZ x0 x1 e0) (va_cwS 2 hts g9_X11_poke_X1_isByte_194 rfl rfl rfl (by decide +kernel) ⟨Nat.le_of_ble_eq_true rfl, Nat.le_of_ble_eq_true rfl⟩) rfl hl.1 (Nat.le_of_ble_eq_true rfl) dX11_poke_2 ⟨Nat.le_of_ble_eq_true rfl, Nat.le_of_ble_eq_true rfl⟩ (fun H locs hP hD hS => ?_)
  have hP : va_P D vwCl [(h0, .inr (11, f0))] H := hP
  have hD : va_D A [(h0, .inr (11, f0))] := hD
  refine lv_if_ne (tgt := 18) hx hb dX11_poke_5 (by decide) (fun c9 => absurd (by decide) c9) (fun _ => ?_)
  obtain ⟨a9, a9r, a9o⟩ := kX.st hX hAE ("IntegerHouse", 199, "no such byte of a block") (List.mem_of_getElem? (i := 5) rfl)
  exact vx_throwS (names := ["java/lang/RuntimeException", "java/lang/Exception"]) (A := A) hx hb hl9 hown (by decide +kernel) (by decide +kernel) (hts (.classLink RX11 197 "java/lang/IndexOutOfBoundsException") (o9_X11_poke _ (List.mem_of_getElem? (i := 7) rfl))) (hts (.initialized "java/lang/IndexOutOfBoundsException") (o9_X11_poke _ (List.mem_of_getElem? (i := 8) rfl))) a9r (vx_hat (L := vx_atS RX11 201 "java/lang/IndexOutOfBoundsException" ["java/lang/RuntimeException", "java/lang/Exception"]) (B := [.castable "java/lang/IndexOutOfBoundsException" "java/lang/IndexOutOfBoundsException", .declares (Bundle.initS "java/lang/RuntimeException"), .declares (Bundle.initS "java/lang/Exception"), .declares (Bundle.initS "java/lang/Throwable")]) (fun w h => hts w (x9_X11_poke_0 w h)) (by decide +kernel) (vx_c (va_Nw.use rfl (kX.cast hX "java/lang/IndexOutOfBoundsException" (by decide))) (vx_c (va_Nw.use rfl (kX.decl hX "java/lang/RuntimeException" (by decide))) (vx_c (va_Nw.use rfl (kX.decl hX "java/lang/Exception" (by decide))) (vx_c (va_Nw.use rfl (kX.decl hX "java/lang/Throwable" (by decide))) vx_n))))) (by decide +kernel) (kX.us hX hAE) (kX.ss hX hAE) hS (by rw [hml]; exact hl.1) dX11_poke_8 dX11_poke_11 dX11_poke_12 dX11_poke_14 dX11_poke_17 (fun x hx => (ht9 x hx).elim) (Nat.le_of_ble_eq_true rfl) (Nat.le_of_ble_eq_true rfl) (Nat.le_of_ble_eq_true rfl) (Nat.le_of_ble_eq_true rfl) hlocks (fun t h1 h2 h3 => k_tx hP hK hD hS t h1 h2 h3) hS.2.2 (Nat.le_of_ble_eq_true rfl) (Nat.le_of_ble_eq_true rfl)
set_option maxHeartbeats 400000000 in
set_option maxRecDepth 100000 in
theorem c_L_poke_1 (l : Launch) (E : kE) (D : va_G) (cI cJ cB cZ : ClassId) (h0 : Nat) (x0 : Int32) (x1 : Int32) (x2 : Int32) (h1 : Nat) (f0 : List Value) (e0 : (x0 : Int32) < 1) (hl9 : l.stackTraces = false) : kI l E D (kT cI cJ cB cZ) yL_poke vW_L_poke ({ frames := 7, cells := 1, slots := 6, locals := 105 }) [.ref h0, .int x0, .int x1, .int x2, .ref h1] [(h0, .inr (11, f0))] (1) [(h0, .inr (11, f0))] 1 6 := by
  intro sz
  refine k_metH (cc := cL_poke) (maxL := 6) (ret := (some .int)) (hh := [(0, 12, 15, 25)]) (by decide) rfl ?_
  intro p e s m args below meth c s₁ B hml hv
  obtain ⟨rfl, hsz, hP, hK, hD0, hN, hX⟩ := hv
  have hx := B.exec
  have hb := B.bytes
  have hr := B.returns
  have hts := atoms_spec (ws := vW_L_poke) B.pre
  have hown : s.vm.findClass RL = some m.cls := findClass_of_methodNamed B.named
  have hlocks := B.notSynchronized
  subst hsz
  have hD := hD0.self (sz := s.heap.size)
  have hAE := k_AE hD0 hX
  generalize hAe : va_A [(h0, .inr (11, f0))] s.heap.size = A at hD hAE ⊢
  have hA : ∀ q : Nat, s.heap.size ≤ q → A q := fun q h => by rw [← hAe]; exact Or.inr h
  have hS : va_S A s.heap s.heap [] := va_S.rf
  have hP : va_P D vwCl [(h0, .inr (11, f0))] s.heap := hP
  have hl := lv_entry ([.ref h0, .int x0, .int x1, .int x2, .ref h1] : List Value) (n := 6) (Nat.le_of_ble_eq_true rfl)
  rw [lg_entry_eq]
  generalize (lg_sl ([.ref h0, .int x0, .int x1, .int x2, .ref h1]) ++ List.replicate (6 - (lg_sl ([.ref h0, .int x0, .int x1, .int x2, .ref h1])).length) Slot.unset).toArray = ls at hl ⊢
  have hl : lv_has ls 6 [(0, .ref h0), (1, .int x0), (2, .int x1), (3, .int x2), (4, .ref h1)] := hl
  refine lv_aload hx hb dL_poke_0 (lv_at hl 4 rfl) ?_
  refine lv_iconst (v := 0) hx hb dL_poke_2 (by decide) ?_
  refine lv_aload_n hx hb dL_poke_3 rfl (lv_at hl 0 rfl) ?_
  refine lv_iload_n hx hb dL_poke_4 rfl (lv_at hl 1 rfl) ?_
  refine lv_iload_n hx hb dL_poke_5 rfl (lv_at hl 2 rfl) ?_
  refine lv_iload_n hx hb dL_poke_6 rfl (lv_at hl 3 rfl) ?_
  refine k_cTi (As := [.int x0, .int x1, .int x2]) (rest := [.int 0, .ref h1]) (wc := [(h0, .inr (11, f0))]) (wr := []) ⟨hx, hb, hml, hown, hts⟩ hN hX hAE hK hP hD hS hA [0] [] (ci := 11) rfl rfl rfl rfl (by decide +kernel) (by decide +kernel) (by decide +kernel) (c_X11_poke_1 l E D cI cJ cB cZ h0 x0 x1 x2 f0 e0 hl9) (cwV 3 hts g9_L_poke_X11_poke_27 rfl rfl rfl (by decide +kernel) ⟨Nat.le_of_ble_eq_true rfl, Nat.le_of_ble_eq_true rfl⟩) rfl hl.1 (Nat.le_of_ble_eq_true rfl) dL_poke_7 ⟨Nat.le_of_ble_eq_true rfl, Nat.le_of_ble_eq_true rfl⟩ (fun q9 ce H locs hP hD hS hce hcv hcl => ?_)
  have hP : va_P D vwCl [(h0, .inr (11, f0))] H := hP
  have hD : va_D A [(h0, .inr (11, f0))] := hD
  refine vx_catch (own := RL) (name := "java/lang/IndexOutOfBoundsException") hown [] ⟨0, 12, 15, 25⟩ [] (vx_table (x := yL_poke) B (hts _ List.mem_cons_self)) (fun z hz => absurd hz List.not_mem_nil) (by decide) (by decide) (hts (.classLink RL 25 "java/lang/IndexOutOfBoundsException") (o9_L_poke _ (List.mem_of_getElem? (i := 4) rfl))) (va_Nw.use rfl (kX.cast hX "java/lang/IndexOutOfBoundsException" (by decide))) hce hcv hcl ?_
  refine W.eq (g2 := F0 m 15 ls [.ref q9]) rfl ?_
  refine W.widen (k := 1) (n := 6) (Nat.le_of_ble_eq_true rfl) (Nat.le_of_ble_eq_true rfl) ?_
  refine lv_astore (lv' := [(5, .ref q9), (0, .ref h0), (1, .int x0), (2, .int x1), (3, .int x2), (4, .ref h1)]) hx hb dL_poke_15 hl (by decide) rfl (fun ls hl => ?_)
  refine lv_iconst (v := 1) hx hb dL_poke_17 (by decide) ?_
  exact W.iret (v := 1) hx hb hr (fun t ht hW => ⟨⟨1, (), rfl, rfl, kB_mk ht hW hP hK hD⟩, hS.F ht⟩) hS.2.2 dL_poke_18
set_option maxHeartbeats 400000000 in
set_option maxRecDepth 100000 in
theorem c_X12_poke_1 (l : Launch) (E : kE) (D : va_G) (cI cJ cB cZ : ClassId) (h0 : Nat) (x0 : Int32) (x1 : Int32) (x2 : Int32) (f0 : List Value) (e0 : (x0 : Int32) < 1) (e1 : f0[0]? = some (.int 0)) : kI l E D (kT cI cJ cB cZ) yX12_poke vW_X12_poke ({ frames := 1, cells := 0, slots := 0, locals := 25 }) [.ref h0, .int x0, .int x1, .int x2] [(h0, .inr (12, f0))] (0) [(h0, .inr (12, (f0.set 0 (.int 1))))] 0 0 := by
  intro sz
  refine Met.ofW (cc := cX12_poke) (maxL := 4) (ret := (some .int)) (by decide) rfl ?_
  intro p e s m args below meth c s₁ B hml hv
  obtain ⟨rfl, hsz, hP, hK, hD0, hN, hX⟩ := hv
  have hx := B.exec
  have hb := B.bytes
  have hr := B.returns
  have hts := atoms_spec (ws := vW_X12_poke) B.pre
  have hown : s.vm.findClass RX12 = some m.cls := findClass_of_methodNamed B.named
  have hlocks := B.notSynchronized
  have hin12 : ∀ w ∈ wsX120, w ∈ vW_X12_poke := u9_X12_poke_wsX120
  subst hsz
  have hD := hD0.self (sz := s.heap.size)
  have hAE := k_AE hD0 hX
  generalize hAe : va_A [(h0, .inr (12, f0))] s.heap.size = A at hD hAE ⊢
  have hA : ∀ q : Nat, s.heap.size ≤ q → A q := fun q h => by rw [← hAe]; exact Or.inr h
  have hS : va_S A s.heap s.heap [] := va_S.rf
  have hP : va_P D vwCl [(h0, .inr (12, f0))] s.heap := hP
  have hl := lv_entry ([.ref h0, .int x0, .int x1, .int x2] : List Value) (n := 4) (Nat.le_of_ble_eq_true rfl)
  rw [lg_entry_eq]
  generalize (lg_sl ([.ref h0, .int x0, .int x1, .int x2]) ++ List.replicate (4 - (lg_sl ([.ref h0, .int x0, .int x1, .int x2])).length) Slot.unset).toArray = ls at hl ⊢
  have hl : lv_has ls 4 [(0, .ref h0), (1, .int x0), (2, .int x1), (3, .int x2)] := hl
  refine lv_aload_n hx hb dX12_poke_0 rfl (lv_at hl 0 rfl) ?_
  refine lv_iload_n hx hb dX12_poke_1 rfl (lv_at hl 1 rfl) ?_
  refine lv_i2l (v := (Int32.toInt64 x0)) hx hb dX12_poke_2 rfl ?_
  refine lv_lconst (v := 1) hx hb dX12_poke_3 (by decide) ?_
  refine lv_ldc2 (own := RX12) (index := 560) (v := 100) hx hb hown (hts (.constantLong RX12 560 (100)) (o9_X12_poke _ (List.mem_of_getElem? (i := 0) rfl))) dX12_poke_4 ?_
  refine k_cSi (As := [.long (Int32.toInt64 x0), .long 1, .long 100]) (rest := [.ref h0]) (wc := []) (wr := [(h0, .inr (12, f0))]) (w1 := []) ⟨hx, hb, hml, hown, hts⟩ hN hX hAE hK hP hD hS hA [] [0] rfl rfl (by decide +kernel) (by decide +kernel) (by decide +kernel) (c_X12_in_10 l E D cI cJ cB cZ (Int32.toInt64 x0) ((k_n4 (x := x0) (c := 1) (C := 1) (by decide)).mpr e0)) (va_cwS 3 hts g9_X12_poke_X12_in_504 rfl rfl rfl (by decide +kernel) ⟨Nat.le_of_ble_eq_true rfl, Nat.le_of_ble_eq_true rfl⟩) rfl hl.1 (Nat.le_of_ble_eq_true rfl) dX12_poke_7 ⟨Nat.le_of_ble_eq_true rfl, Nat.le_of_ble_eq_true rfl⟩ (fun H locs hP hD hS => ?_)
  have hP : va_P D vwCl [(h0, .inr (12, f0))] H := hP
  have hD : va_D A [(h0, .inr (12, f0))] := hD
  refine lv_if_eq (tgt := 29) hx hb dX12_poke_10 (by decide) (fun _ => ?_) (fun c9 => absurd (by decide) c9)
  refine lv_iconst (v := 1) hx hb dX12_poke_29 (by decide) ?_
  refine k_put (D := D) (ci := 12) (v := .int 1) (ty := .int) (N := 195) hx hb hts hin12 tyX12 tyX12_ok nmX12 hown hK hP hD hS 0 rfl rfl (by decide) f9_12_0 (hts (.fieldLink RX12 3 "IntegerHouseModel" "thrown" "I") (o9_X12_poke _ (List.mem_of_getElem? (i := 5) rfl))) rfl pd_2 rfl rfl (k_len e1) dX12_poke_30 (fun H locs hP hD hS => ?_)
  have hP : va_P D vwCl [(h0, .inr (12, (f0.set 0 (.int 1))))] H := hP
  have hD : va_D A [(h0, .inr (12, (f0.set 0 (.int 1))))] := hD
  refine lv_aload_n hx hb dX12_poke_33 rfl (lv_at hl 0 rfl) ?_
  refine k_get (D := D) (ci := 12) (v := .int 1) (N := 195) hx hb hts hin12 hown hK hP 0 rfl rfl (by decide) f9_12_0 (hts (.fieldLink RX12 3 "IntegerHouseModel" "thrown" "I") (o9_X12_poke _ (List.mem_of_getElem? (i := 5) rfl))) (k_set e1) dX12_poke_34 ?_
  refine lv_if_le (tgt := 42) hx hb dX12_poke_37 (by decide) (fun c9 => absurd c9 (by decide)) (fun _ => ?_)
  refine lv_iconst (v := 0) hx hb dX12_poke_40 (by decide) ?_
  exact W.iret (v := 0) hx hb hr (fun t ht hW => ⟨⟨0, (), rfl, rfl, kB_mk ht hW hP hK hD⟩, hS.F ht⟩) hS.2.2 dX12_poke_41
set_option maxHeartbeats 400000000 in
set_option maxRecDepth 100000 in
theorem c_X11_poke_2 (l : Launch) (E : kE) (D : va_G) (cI cJ cB cZ : ClassId) (h0 : Nat) (x0 : Int32) (x1 : Int32) (x2 : Int32) (f0 : List Value) (e0 : ¬ ((x0 : Int32) < 1)) (e1 : (x0 : Int32) < 101) (e2 : (x1 : Int32) < 0) (hl9 : l.stackTraces = false) : kTI l E D (kT cI cJ cB cZ) yX11_poke vW_X11_poke ({ frames := 6, cells := 1, slots := 6, locals := 82 }) [.ref h0, .int x0, .int x1, .int x2] [(h0, .inr (11, f0))] "java/lang/IndexOutOfBoundsException" 1 6 := by
  intro sz
  refine vx_ofW (cc := cX11_poke) (maxL := 4) (ret := (some .int)) (by decide) rfl ?_
  intro p e s m args below meth c s₁ B hml ht9 hv
  obtain ⟨rfl, hsz, hP, hK, hD0, hN, hX⟩ := hv
  have hx := B.exec
  have hb := B.bytes
  have hr := B.returns
  have hts := atoms_spec (ws := vW_X11_poke) B.pre
  have hown : s.vm.findClass RX11 = some m.cls := findClass_of_methodNamed B.named
  have hlocks := B.notSynchronized
  subst hsz
  have hD := hD0.self (sz := s.heap.size)
  have hAE := k_AE hD0 hX
  generalize hAe : va_A [(h0, .inr (11, f0))] s.heap.size = A at hD hAE ⊢
  have hA : ∀ q : Nat, s.heap.size ≤ q → A q := fun q h => by rw [← hAe]; exact Or.inr h
  have hS : va_S A s.heap s.heap [] := va_S.rf
  have hP : va_P D vwCl [(h0, .inr (11, f0))] s.heap := hP
  have hl := lv_entry ([.ref h0, .int x0, .int x1, .int x2] : List Value) (n := 4) (Nat.le_of_ble_eq_true rfl)
  rw [lg_entry_eq]
  generalize (lg_sl ([.ref h0, .int x0, .int x1, .int x2]) ++ List.replicate (4 - (lg_sl ([.ref h0, .int x0, .int x1, .int x2])).length) Slot.unset).toArray = ls at hl ⊢
  have hl : lv_has ls 4 [(0, .ref h0), (1, .int x0), (2, .int x1), (3, .int x2)] := hl
  refine lv_iload_n hx hb dX11_poke_0 rfl (lv_at hl 1 rfl) ?_
  refine lv_iload_n hx hb dX11_poke_1 rfl (lv_at hl 2 rfl) ?_
  refine k_cSi (As := [.int x0, .int x1]) (rest := []) (wc := []) (wr := [(h0, .inr (11, f0))]) (w1 := []) ⟨hx, hb, hml, hown, hts⟩ hN hX hAE hK hP hD hS hA [] [0] rfl rfl (by decide +kernel) (by decide +kernel) (by decide +kernel) (c_X1_isByte_2 l E D cI cJ cB cZ x0 x1 e0 e1 e2) (va_cwS 2 hts g9_X11_poke_X1_isByte_194 rfl rfl rfl (by decide +kernel) ⟨Nat.le_of_ble_eq_true rfl, Nat.le_of_ble_eq_true rfl⟩) rfl hl.1 (Nat.le_of_ble_eq_true rfl) dX11_poke_2 ⟨Nat.le_of_ble_eq_true rfl, Nat.le_of_ble_eq_true rfl⟩ (fun H locs hP hD hS => ?_)
  have hP : va_P D vwCl [(h0, .inr (11, f0))] H := hP
  have hD : va_D A [(h0, .inr (11, f0))] := hD
  refine lv_if_ne (tgt := 18) hx hb dX11_poke_5 (by decide) (fun c9 => absurd (by decide) c9) (fun _ => ?_)
  obtain ⟨a9, a9r, a9o⟩ := kX.st hX hAE ("IntegerHouse", 199, "no such byte of a block") (List.mem_of_getElem? (i := 5) rfl)
  exact vx_throwS (names := ["java/lang/RuntimeException", "java/lang/Exception"]) (A := A) hx hb hl9 hown (by decide +kernel) (by decide +kernel) (hts (.classLink RX11 197 "java/lang/IndexOutOfBoundsException") (o9_X11_poke _ (List.mem_of_getElem? (i := 7) rfl))) (hts (.initialized "java/lang/IndexOutOfBoundsException") (o9_X11_poke _ (List.mem_of_getElem? (i := 8) rfl))) a9r (vx_hat (L := vx_atS RX11 201 "java/lang/IndexOutOfBoundsException" ["java/lang/RuntimeException", "java/lang/Exception"]) (B := [.castable "java/lang/IndexOutOfBoundsException" "java/lang/IndexOutOfBoundsException", .declares (Bundle.initS "java/lang/RuntimeException"), .declares (Bundle.initS "java/lang/Exception"), .declares (Bundle.initS "java/lang/Throwable")]) (fun w h => hts w (x9_X11_poke_0 w h)) (by decide +kernel) (vx_c (va_Nw.use rfl (kX.cast hX "java/lang/IndexOutOfBoundsException" (by decide))) (vx_c (va_Nw.use rfl (kX.decl hX "java/lang/RuntimeException" (by decide))) (vx_c (va_Nw.use rfl (kX.decl hX "java/lang/Exception" (by decide))) (vx_c (va_Nw.use rfl (kX.decl hX "java/lang/Throwable" (by decide))) vx_n))))) (by decide +kernel) (kX.us hX hAE) (kX.ss hX hAE) hS (by rw [hml]; exact hl.1) dX11_poke_8 dX11_poke_11 dX11_poke_12 dX11_poke_14 dX11_poke_17 (fun x hx => (ht9 x hx).elim) (Nat.le_of_ble_eq_true rfl) (Nat.le_of_ble_eq_true rfl) (Nat.le_of_ble_eq_true rfl) (Nat.le_of_ble_eq_true rfl) hlocks (fun t h1 h2 h3 => k_tx hP hK hD hS t h1 h2 h3) hS.2.2 (Nat.le_of_ble_eq_true rfl) (Nat.le_of_ble_eq_true rfl)
set_option maxHeartbeats 400000000 in
set_option maxRecDepth 100000 in
theorem c_L_poke_2 (l : Launch) (E : kE) (D : va_G) (cI cJ cB cZ : ClassId) (h0 : Nat) (x0 : Int32) (x1 : Int32) (x2 : Int32) (h1 : Nat) (f0 : List Value) (e0 : ¬ ((x0 : Int32) < 1)) (e1 : (x0 : Int32) < 101) (e2 : (x1 : Int32) < 0) (hl9 : l.stackTraces = false) : kI l E D (kT cI cJ cB cZ) yL_poke vW_L_poke ({ frames := 7, cells := 1, slots := 6, locals := 105 }) [.ref h0, .int x0, .int x1, .int x2, .ref h1] [(h0, .inr (11, f0))] (1) [(h0, .inr (11, f0))] 1 6 := by
  intro sz
  refine k_metH (cc := cL_poke) (maxL := 6) (ret := (some .int)) (hh := [(0, 12, 15, 25)]) (by decide) rfl ?_
  intro p e s m args below meth c s₁ B hml hv
  obtain ⟨rfl, hsz, hP, hK, hD0, hN, hX⟩ := hv
  have hx := B.exec
  have hb := B.bytes
  have hr := B.returns
  have hts := atoms_spec (ws := vW_L_poke) B.pre
  have hown : s.vm.findClass RL = some m.cls := findClass_of_methodNamed B.named
  have hlocks := B.notSynchronized
  subst hsz
  have hD := hD0.self (sz := s.heap.size)
  have hAE := k_AE hD0 hX
  generalize hAe : va_A [(h0, .inr (11, f0))] s.heap.size = A at hD hAE ⊢
  have hA : ∀ q : Nat, s.heap.size ≤ q → A q := fun q h => by rw [← hAe]; exact Or.inr h
  have hS : va_S A s.heap s.heap [] := va_S.rf
  have hP : va_P D vwCl [(h0, .inr (11, f0))] s.heap := hP
  have hl := lv_entry ([.ref h0, .int x0, .int x1, .int x2, .ref h1] : List Value) (n := 6) (Nat.le_of_ble_eq_true rfl)
  rw [lg_entry_eq]
  generalize (lg_sl ([.ref h0, .int x0, .int x1, .int x2, .ref h1]) ++ List.replicate (6 - (lg_sl ([.ref h0, .int x0, .int x1, .int x2, .ref h1])).length) Slot.unset).toArray = ls at hl ⊢
  have hl : lv_has ls 6 [(0, .ref h0), (1, .int x0), (2, .int x1), (3, .int x2), (4, .ref h1)] := hl
  refine lv_aload hx hb dL_poke_0 (lv_at hl 4 rfl) ?_
  refine lv_iconst (v := 0) hx hb dL_poke_2 (by decide) ?_
  refine lv_aload_n hx hb dL_poke_3 rfl (lv_at hl 0 rfl) ?_
  refine lv_iload_n hx hb dL_poke_4 rfl (lv_at hl 1 rfl) ?_
  refine lv_iload_n hx hb dL_poke_5 rfl (lv_at hl 2 rfl) ?_
  refine lv_iload_n hx hb dL_poke_6 rfl (lv_at hl 3 rfl) ?_
  refine k_cTi (As := [.int x0, .int x1, .int x2]) (rest := [.int 0, .ref h1]) (wc := [(h0, .inr (11, f0))]) (wr := []) ⟨hx, hb, hml, hown, hts⟩ hN hX hAE hK hP hD hS hA [0] [] (ci := 11) rfl rfl rfl rfl (by decide +kernel) (by decide +kernel) (by decide +kernel) (c_X11_poke_2 l E D cI cJ cB cZ h0 x0 x1 x2 f0 e0 e1 e2 hl9) (cwV 3 hts g9_L_poke_X11_poke_27 rfl rfl rfl (by decide +kernel) ⟨Nat.le_of_ble_eq_true rfl, Nat.le_of_ble_eq_true rfl⟩) rfl hl.1 (Nat.le_of_ble_eq_true rfl) dL_poke_7 ⟨Nat.le_of_ble_eq_true rfl, Nat.le_of_ble_eq_true rfl⟩ (fun q9 ce H locs hP hD hS hce hcv hcl => ?_)
  have hP : va_P D vwCl [(h0, .inr (11, f0))] H := hP
  have hD : va_D A [(h0, .inr (11, f0))] := hD
  refine vx_catch (own := RL) (name := "java/lang/IndexOutOfBoundsException") hown [] ⟨0, 12, 15, 25⟩ [] (vx_table (x := yL_poke) B (hts _ List.mem_cons_self)) (fun z hz => absurd hz List.not_mem_nil) (by decide) (by decide) (hts (.classLink RL 25 "java/lang/IndexOutOfBoundsException") (o9_L_poke _ (List.mem_of_getElem? (i := 4) rfl))) (va_Nw.use rfl (kX.cast hX "java/lang/IndexOutOfBoundsException" (by decide))) hce hcv hcl ?_
  refine W.eq (g2 := F0 m 15 ls [.ref q9]) rfl ?_
  refine W.widen (k := 1) (n := 6) (Nat.le_of_ble_eq_true rfl) (Nat.le_of_ble_eq_true rfl) ?_
  refine lv_astore (lv' := [(5, .ref q9), (0, .ref h0), (1, .int x0), (2, .int x1), (3, .int x2), (4, .ref h1)]) hx hb dL_poke_15 hl (by decide) rfl (fun ls hl => ?_)
  refine lv_iconst (v := 1) hx hb dL_poke_17 (by decide) ?_
  exact W.iret (v := 1) hx hb hr (fun t ht hW => ⟨⟨1, (), rfl, rfl, kB_mk ht hW hP hK hD⟩, hS.F ht⟩) hS.2.2 dL_poke_18
set_option maxHeartbeats 400000000 in
set_option maxRecDepth 100000 in
theorem c_X12_poke_2 (l : Launch) (E : kE) (D : va_G) (cI cJ cB cZ : ClassId) (h0 : Nat) (x0 : Int32) (x1 : Int32) (x2 : Int32) (f0 : List Value) (e0 : ¬ ((x0 : Int32) < 1)) (e1 : (x0 : Int32) < 101) (e2 : (x1 : Int32) < 0) (e3 : f0[0]? = some (.int 0)) : kI l E D (kT cI cJ cB cZ) yX12_poke vW_X12_poke ({ frames := 1, cells := 0, slots := 0, locals := 25 }) [.ref h0, .int x0, .int x1, .int x2] [(h0, .inr (12, f0))] (0) [(h0, .inr (12, (f0.set 0 (.int 1))))] 0 0 := by
  intro sz
  refine Met.ofW (cc := cX12_poke) (maxL := 4) (ret := (some .int)) (by decide) rfl ?_
  intro p e s m args below meth c s₁ B hml hv
  obtain ⟨rfl, hsz, hP, hK, hD0, hN, hX⟩ := hv
  have hx := B.exec
  have hb := B.bytes
  have hr := B.returns
  have hts := atoms_spec (ws := vW_X12_poke) B.pre
  have hown : s.vm.findClass RX12 = some m.cls := findClass_of_methodNamed B.named
  have hlocks := B.notSynchronized
  have hin12 : ∀ w ∈ wsX120, w ∈ vW_X12_poke := u9_X12_poke_wsX120
  subst hsz
  have hD := hD0.self (sz := s.heap.size)
  have hAE := k_AE hD0 hX
  generalize hAe : va_A [(h0, .inr (12, f0))] s.heap.size = A at hD hAE ⊢
  have hA : ∀ q : Nat, s.heap.size ≤ q → A q := fun q h => by rw [← hAe]; exact Or.inr h
  have hS : va_S A s.heap s.heap [] := va_S.rf
  have hP : va_P D vwCl [(h0, .inr (12, f0))] s.heap := hP
  have hl := lv_entry ([.ref h0, .int x0, .int x1, .int x2] : List Value) (n := 4) (Nat.le_of_ble_eq_true rfl)
  rw [lg_entry_eq]
  generalize (lg_sl ([.ref h0, .int x0, .int x1, .int x2]) ++ List.replicate (4 - (lg_sl ([.ref h0, .int x0, .int x1, .int x2])).length) Slot.unset).toArray = ls at hl ⊢
  have hl : lv_has ls 4 [(0, .ref h0), (1, .int x0), (2, .int x1), (3, .int x2)] := hl
  refine lv_aload_n hx hb dX12_poke_0 rfl (lv_at hl 0 rfl) ?_
  refine lv_iload_n hx hb dX12_poke_1 rfl (lv_at hl 1 rfl) ?_
  refine lv_i2l (v := (Int32.toInt64 x0)) hx hb dX12_poke_2 rfl ?_
  refine lv_lconst (v := 1) hx hb dX12_poke_3 (by decide) ?_
  refine lv_ldc2 (own := RX12) (index := 560) (v := 100) hx hb hown (hts (.constantLong RX12 560 (100)) (o9_X12_poke _ (List.mem_of_getElem? (i := 0) rfl))) dX12_poke_4 ?_
  refine k_cSi (As := [.long (Int32.toInt64 x0), .long 1, .long 100]) (rest := [.ref h0]) (wc := []) (wr := [(h0, .inr (12, f0))]) (w1 := []) ⟨hx, hb, hml, hown, hts⟩ hN hX hAE hK hP hD hS hA [] [0] rfl rfl (by decide +kernel) (by decide +kernel) (by decide +kernel) (c_X12_in_9 l E D cI cJ cB cZ (Int32.toInt64 x0) (fun z9 => e0 ((k_n4 (x := x0) (c := 1) (C := 1) (by decide)).mp z9)) (fun z9 => (k_n5 (x := x0) (c := 100) (d := 101) (C := 100) (by decide) (by decide)).mp z9 e1)) (va_cwS 3 hts g9_X12_poke_X12_in_504 rfl rfl rfl (by decide +kernel) ⟨Nat.le_of_ble_eq_true rfl, Nat.le_of_ble_eq_true rfl⟩) rfl hl.1 (Nat.le_of_ble_eq_true rfl) dX12_poke_7 ⟨Nat.le_of_ble_eq_true rfl, Nat.le_of_ble_eq_true rfl⟩ (fun H locs hP hD hS => ?_)
  have hP : va_P D vwCl [(h0, .inr (12, f0))] H := hP
  have hD : va_D A [(h0, .inr (12, f0))] := hD
  refine lv_if_eq (tgt := 29) hx hb dX12_poke_10 (by decide) (fun c9 => absurd c9 (by decide)) (fun _ => ?_)
  refine lv_iload_n hx hb dX12_poke_13 rfl (lv_at hl 2 rfl) ?_
  refine lv_i2l (v := (Int32.toInt64 x1)) hx hb dX12_poke_14 rfl ?_
  refine lv_lconst (v := 0) hx hb dX12_poke_15 (by decide) ?_
  refine lv_ldc2 (own := RX12) (index := 530) (v := 255) hx hb hown (hts (.constantLong RX12 530 (255)) (o9_X12_poke _ (List.mem_of_getElem? (i := 4) rfl))) dX12_poke_16 ?_
  refine k_cSi (As := [.long (Int32.toInt64 x1), .long 0, .long 255]) (rest := [.ref h0]) (wc := []) (wr := [(h0, .inr (12, f0))]) (w1 := []) ⟨hx, hb, hml, hown, hts⟩ hN hX hAE hK hP hD hS hA [] [0] rfl rfl (by decide +kernel) (by decide +kernel) (by decide +kernel) (c_X12_in_6 l E D cI cJ cB cZ (Int32.toInt64 x1) ((k_n4 (x := x1) (c := 0) (C := 0) (by decide)).mpr e2)) (va_cwS 3 hts g9_X12_poke_X12_in_504 rfl rfl rfl (by decide +kernel) ⟨Nat.le_of_ble_eq_true rfl, Nat.le_of_ble_eq_true rfl⟩) rfl hl.1 (Nat.le_of_ble_eq_true rfl) dX12_poke_19 ⟨Nat.le_of_ble_eq_true rfl, Nat.le_of_ble_eq_true rfl⟩ (fun H locs hP hD hS => ?_)
  have hP : va_P D vwCl [(h0, .inr (12, f0))] H := hP
  have hD : va_D A [(h0, .inr (12, f0))] := hD
  refine lv_if_eq (tgt := 29) hx hb dX12_poke_22 (by decide) (fun _ => ?_) (fun c9 => absurd (by decide) c9)
  refine lv_iconst (v := 1) hx hb dX12_poke_29 (by decide) ?_
  refine k_put (D := D) (ci := 12) (v := .int 1) (ty := .int) (N := 195) hx hb hts hin12 tyX12 tyX12_ok nmX12 hown hK hP hD hS 0 rfl rfl (by decide) f9_12_0 (hts (.fieldLink RX12 3 "IntegerHouseModel" "thrown" "I") (o9_X12_poke _ (List.mem_of_getElem? (i := 5) rfl))) rfl pd_2 rfl rfl (k_len e3) dX12_poke_30 (fun H locs hP hD hS => ?_)
  have hP : va_P D vwCl [(h0, .inr (12, (f0.set 0 (.int 1))))] H := hP
  have hD : va_D A [(h0, .inr (12, (f0.set 0 (.int 1))))] := hD
  refine lv_aload_n hx hb dX12_poke_33 rfl (lv_at hl 0 rfl) ?_
  refine k_get (D := D) (ci := 12) (v := .int 1) (N := 195) hx hb hts hin12 hown hK hP 0 rfl rfl (by decide) f9_12_0 (hts (.fieldLink RX12 3 "IntegerHouseModel" "thrown" "I") (o9_X12_poke _ (List.mem_of_getElem? (i := 5) rfl))) (k_set e3) dX12_poke_34 ?_
  refine lv_if_le (tgt := 42) hx hb dX12_poke_37 (by decide) (fun c9 => absurd c9 (by decide)) (fun _ => ?_)
  refine lv_iconst (v := 0) hx hb dX12_poke_40 (by decide) ?_
  exact W.iret (v := 0) hx hb hr (fun t ht hW => ⟨⟨0, (), rfl, rfl, kB_mk ht hW hP hK hD⟩, hS.F ht⟩) hS.2.2 dX12_poke_41
set_option maxHeartbeats 400000000 in
set_option maxRecDepth 100000 in
theorem c_X11_poke_3 (l : Launch) (E : kE) (D : va_G) (cI cJ cB cZ : ClassId) (h0 : Nat) (x0 : Int32) (x1 : Int32) (x2 : Int32) (f0 : List Value) (e0 : ¬ ((x0 : Int32) < 1)) (e1 : (x0 : Int32) < 101) (e2 : ¬ ((x1 : Int32) < 0)) (e3 : ¬ ((x1 : Int32) < 256)) (hl9 : l.stackTraces = false) : kTI l E D (kT cI cJ cB cZ) yX11_poke vW_X11_poke ({ frames := 6, cells := 1, slots := 6, locals := 82 }) [.ref h0, .int x0, .int x1, .int x2] [(h0, .inr (11, f0))] "java/lang/IndexOutOfBoundsException" 1 6 := by
  intro sz
  refine vx_ofW (cc := cX11_poke) (maxL := 4) (ret := (some .int)) (by decide) rfl ?_
  intro p e s m args below meth c s₁ B hml ht9 hv
  obtain ⟨rfl, hsz, hP, hK, hD0, hN, hX⟩ := hv
  have hx := B.exec
  have hb := B.bytes
  have hr := B.returns
  have hts := atoms_spec (ws := vW_X11_poke) B.pre
  have hown : s.vm.findClass RX11 = some m.cls := findClass_of_methodNamed B.named
  have hlocks := B.notSynchronized
  subst hsz
  have hD := hD0.self (sz := s.heap.size)
  have hAE := k_AE hD0 hX
  generalize hAe : va_A [(h0, .inr (11, f0))] s.heap.size = A at hD hAE ⊢
  have hA : ∀ q : Nat, s.heap.size ≤ q → A q := fun q h => by rw [← hAe]; exact Or.inr h
  have hS : va_S A s.heap s.heap [] := va_S.rf
  have hP : va_P D vwCl [(h0, .inr (11, f0))] s.heap := hP
  have hl := lv_entry ([.ref h0, .int x0, .int x1, .int x2] : List Value) (n := 4) (Nat.le_of_ble_eq_true rfl)
  rw [lg_entry_eq]
  generalize (lg_sl ([.ref h0, .int x0, .int x1, .int x2]) ++ List.replicate (4 - (lg_sl ([.ref h0, .int x0, .int x1, .int x2])).length) Slot.unset).toArray = ls at hl ⊢
  have hl : lv_has ls 4 [(0, .ref h0), (1, .int x0), (2, .int x1), (3, .int x2)] := hl
  refine lv_iload_n hx hb dX11_poke_0 rfl (lv_at hl 1 rfl) ?_
  refine lv_iload_n hx hb dX11_poke_1 rfl (lv_at hl 2 rfl) ?_
  refine k_cSi (As := [.int x0, .int x1]) (rest := []) (wc := []) (wr := [(h0, .inr (11, f0))]) (w1 := []) ⟨hx, hb, hml, hown, hts⟩ hN hX hAE hK hP hD hS hA [] [0] rfl rfl (by decide +kernel) (by decide +kernel) (by decide +kernel) (c_X1_isByte_3 l E D cI cJ cB cZ x0 x1 e0 e1 e2 e3) (va_cwS 2 hts g9_X11_poke_X1_isByte_194 rfl rfl rfl (by decide +kernel) ⟨Nat.le_of_ble_eq_true rfl, Nat.le_of_ble_eq_true rfl⟩) rfl hl.1 (Nat.le_of_ble_eq_true rfl) dX11_poke_2 ⟨Nat.le_of_ble_eq_true rfl, Nat.le_of_ble_eq_true rfl⟩ (fun H locs hP hD hS => ?_)
  have hP : va_P D vwCl [(h0, .inr (11, f0))] H := hP
  have hD : va_D A [(h0, .inr (11, f0))] := hD
  refine lv_if_ne (tgt := 18) hx hb dX11_poke_5 (by decide) (fun c9 => absurd (by decide) c9) (fun _ => ?_)
  obtain ⟨a9, a9r, a9o⟩ := kX.st hX hAE ("IntegerHouse", 199, "no such byte of a block") (List.mem_of_getElem? (i := 5) rfl)
  exact vx_throwS (names := ["java/lang/RuntimeException", "java/lang/Exception"]) (A := A) hx hb hl9 hown (by decide +kernel) (by decide +kernel) (hts (.classLink RX11 197 "java/lang/IndexOutOfBoundsException") (o9_X11_poke _ (List.mem_of_getElem? (i := 7) rfl))) (hts (.initialized "java/lang/IndexOutOfBoundsException") (o9_X11_poke _ (List.mem_of_getElem? (i := 8) rfl))) a9r (vx_hat (L := vx_atS RX11 201 "java/lang/IndexOutOfBoundsException" ["java/lang/RuntimeException", "java/lang/Exception"]) (B := [.castable "java/lang/IndexOutOfBoundsException" "java/lang/IndexOutOfBoundsException", .declares (Bundle.initS "java/lang/RuntimeException"), .declares (Bundle.initS "java/lang/Exception"), .declares (Bundle.initS "java/lang/Throwable")]) (fun w h => hts w (x9_X11_poke_0 w h)) (by decide +kernel) (vx_c (va_Nw.use rfl (kX.cast hX "java/lang/IndexOutOfBoundsException" (by decide))) (vx_c (va_Nw.use rfl (kX.decl hX "java/lang/RuntimeException" (by decide))) (vx_c (va_Nw.use rfl (kX.decl hX "java/lang/Exception" (by decide))) (vx_c (va_Nw.use rfl (kX.decl hX "java/lang/Throwable" (by decide))) vx_n))))) (by decide +kernel) (kX.us hX hAE) (kX.ss hX hAE) hS (by rw [hml]; exact hl.1) dX11_poke_8 dX11_poke_11 dX11_poke_12 dX11_poke_14 dX11_poke_17 (fun x hx => (ht9 x hx).elim) (Nat.le_of_ble_eq_true rfl) (Nat.le_of_ble_eq_true rfl) (Nat.le_of_ble_eq_true rfl) (Nat.le_of_ble_eq_true rfl) hlocks (fun t h1 h2 h3 => k_tx hP hK hD hS t h1 h2 h3) hS.2.2 (Nat.le_of_ble_eq_true rfl) (Nat.le_of_ble_eq_true rfl)
set_option maxHeartbeats 400000000 in
set_option maxRecDepth 100000 in
theorem c_L_poke_3 (l : Launch) (E : kE) (D : va_G) (cI cJ cB cZ : ClassId) (h0 : Nat) (x0 : Int32) (x1 : Int32) (x2 : Int32) (h1 : Nat) (f0 : List Value) (e0 : ¬ ((x0 : Int32) < 1)) (e1 : (x0 : Int32) < 101) (e2 : ¬ ((x1 : Int32) < 0)) (e3 : ¬ ((x1 : Int32) < 256)) (hl9 : l.stackTraces = false) : kI l E D (kT cI cJ cB cZ) yL_poke vW_L_poke ({ frames := 7, cells := 1, slots := 6, locals := 105 }) [.ref h0, .int x0, .int x1, .int x2, .ref h1] [(h0, .inr (11, f0))] (1) [(h0, .inr (11, f0))] 1 6 := by
  intro sz
  refine k_metH (cc := cL_poke) (maxL := 6) (ret := (some .int)) (hh := [(0, 12, 15, 25)]) (by decide) rfl ?_
  intro p e s m args below meth c s₁ B hml hv
  obtain ⟨rfl, hsz, hP, hK, hD0, hN, hX⟩ := hv
  have hx := B.exec
  have hb := B.bytes
  have hr := B.returns
  have hts := atoms_spec (ws := vW_L_poke) B.pre
  have hown : s.vm.findClass RL = some m.cls := findClass_of_methodNamed B.named
  have hlocks := B.notSynchronized
  subst hsz
  have hD := hD0.self (sz := s.heap.size)
  have hAE := k_AE hD0 hX
  generalize hAe : va_A [(h0, .inr (11, f0))] s.heap.size = A at hD hAE ⊢
  have hA : ∀ q : Nat, s.heap.size ≤ q → A q := fun q h => by rw [← hAe]; exact Or.inr h
  have hS : va_S A s.heap s.heap [] := va_S.rf
  have hP : va_P D vwCl [(h0, .inr (11, f0))] s.heap := hP
  have hl := lv_entry ([.ref h0, .int x0, .int x1, .int x2, .ref h1] : List Value) (n := 6) (Nat.le_of_ble_eq_true rfl)
  rw [lg_entry_eq]
  generalize (lg_sl ([.ref h0, .int x0, .int x1, .int x2, .ref h1]) ++ List.replicate (6 - (lg_sl ([.ref h0, .int x0, .int x1, .int x2, .ref h1])).length) Slot.unset).toArray = ls at hl ⊢
  have hl : lv_has ls 6 [(0, .ref h0), (1, .int x0), (2, .int x1), (3, .int x2), (4, .ref h1)] := hl
  refine lv_aload hx hb dL_poke_0 (lv_at hl 4 rfl) ?_
  refine lv_iconst (v := 0) hx hb dL_poke_2 (by decide) ?_
  refine lv_aload_n hx hb dL_poke_3 rfl (lv_at hl 0 rfl) ?_
  refine lv_iload_n hx hb dL_poke_4 rfl (lv_at hl 1 rfl) ?_
  refine lv_iload_n hx hb dL_poke_5 rfl (lv_at hl 2 rfl) ?_
  refine lv_iload_n hx hb dL_poke_6 rfl (lv_at hl 3 rfl) ?_
  refine k_cTi (As := [.int x0, .int x1, .int x2]) (rest := [.int 0, .ref h1]) (wc := [(h0, .inr (11, f0))]) (wr := []) ⟨hx, hb, hml, hown, hts⟩ hN hX hAE hK hP hD hS hA [0] [] (ci := 11) rfl rfl rfl rfl (by decide +kernel) (by decide +kernel) (by decide +kernel) (c_X11_poke_3 l E D cI cJ cB cZ h0 x0 x1 x2 f0 e0 e1 e2 e3 hl9) (cwV 3 hts g9_L_poke_X11_poke_27 rfl rfl rfl (by decide +kernel) ⟨Nat.le_of_ble_eq_true rfl, Nat.le_of_ble_eq_true rfl⟩) rfl hl.1 (Nat.le_of_ble_eq_true rfl) dL_poke_7 ⟨Nat.le_of_ble_eq_true rfl, Nat.le_of_ble_eq_true rfl⟩ (fun q9 ce H locs hP hD hS hce hcv hcl => ?_)
  have hP : va_P D vwCl [(h0, .inr (11, f0))] H := hP
  have hD : va_D A [(h0, .inr (11, f0))] := hD
  refine vx_catch (own := RL) (name := "java/lang/IndexOutOfBoundsException") hown [] ⟨0, 12, 15, 25⟩ [] (vx_table (x := yL_poke) B (hts _ List.mem_cons_self)) (fun z hz => absurd hz List.not_mem_nil) (by decide) (by decide) (hts (.classLink RL 25 "java/lang/IndexOutOfBoundsException") (o9_L_poke _ (List.mem_of_getElem? (i := 4) rfl))) (va_Nw.use rfl (kX.cast hX "java/lang/IndexOutOfBoundsException" (by decide))) hce hcv hcl ?_
  refine W.eq (g2 := F0 m 15 ls [.ref q9]) rfl ?_
  refine W.widen (k := 1) (n := 6) (Nat.le_of_ble_eq_true rfl) (Nat.le_of_ble_eq_true rfl) ?_
  refine lv_astore (lv' := [(5, .ref q9), (0, .ref h0), (1, .int x0), (2, .int x1), (3, .int x2), (4, .ref h1)]) hx hb dL_poke_15 hl (by decide) rfl (fun ls hl => ?_)
  refine lv_iconst (v := 1) hx hb dL_poke_17 (by decide) ?_
  exact W.iret (v := 1) hx hb hr (fun t ht hW => ⟨⟨1, (), rfl, rfl, kB_mk ht hW hP hK hD⟩, hS.F ht⟩) hS.2.2 dL_poke_18
set_option maxHeartbeats 400000000 in
set_option maxRecDepth 100000 in
theorem c_X12_poke_3 (l : Launch) (E : kE) (D : va_G) (cI cJ cB cZ : ClassId) (h0 : Nat) (x0 : Int32) (x1 : Int32) (x2 : Int32) (f0 : List Value) (e0 : ¬ ((x0 : Int32) < 1)) (e1 : (x0 : Int32) < 101) (e2 : ¬ ((x1 : Int32) < 0)) (e3 : ¬ ((x1 : Int32) < 256)) (e4 : f0[0]? = some (.int 0)) : kI l E D (kT cI cJ cB cZ) yX12_poke vW_X12_poke ({ frames := 1, cells := 0, slots := 0, locals := 25 }) [.ref h0, .int x0, .int x1, .int x2] [(h0, .inr (12, f0))] (0) [(h0, .inr (12, (f0.set 0 (.int 1))))] 0 0 := by
  intro sz
  refine Met.ofW (cc := cX12_poke) (maxL := 4) (ret := (some .int)) (by decide) rfl ?_
  intro p e s m args below meth c s₁ B hml hv
  obtain ⟨rfl, hsz, hP, hK, hD0, hN, hX⟩ := hv
  have hx := B.exec
  have hb := B.bytes
  have hr := B.returns
  have hts := atoms_spec (ws := vW_X12_poke) B.pre
  have hown : s.vm.findClass RX12 = some m.cls := findClass_of_methodNamed B.named
  have hlocks := B.notSynchronized
  have hin12 : ∀ w ∈ wsX120, w ∈ vW_X12_poke := u9_X12_poke_wsX120
  subst hsz
  have hD := hD0.self (sz := s.heap.size)
  have hAE := k_AE hD0 hX
  generalize hAe : va_A [(h0, .inr (12, f0))] s.heap.size = A at hD hAE ⊢
  have hA : ∀ q : Nat, s.heap.size ≤ q → A q := fun q h => by rw [← hAe]; exact Or.inr h
  have hS : va_S A s.heap s.heap [] := va_S.rf
  have hP : va_P D vwCl [(h0, .inr (12, f0))] s.heap := hP
  have hl := lv_entry ([.ref h0, .int x0, .int x1, .int x2] : List Value) (n := 4) (Nat.le_of_ble_eq_true rfl)
  rw [lg_entry_eq]
  generalize (lg_sl ([.ref h0, .int x0, .int x1, .int x2]) ++ List.replicate (4 - (lg_sl ([.ref h0, .int x0, .int x1, .int x2])).length) Slot.unset).toArray = ls at hl ⊢
  have hl : lv_has ls 4 [(0, .ref h0), (1, .int x0), (2, .int x1), (3, .int x2)] := hl
  refine lv_aload_n hx hb dX12_poke_0 rfl (lv_at hl 0 rfl) ?_
  refine lv_iload_n hx hb dX12_poke_1 rfl (lv_at hl 1 rfl) ?_
  refine lv_i2l (v := (Int32.toInt64 x0)) hx hb dX12_poke_2 rfl ?_
  refine lv_lconst (v := 1) hx hb dX12_poke_3 (by decide) ?_
  refine lv_ldc2 (own := RX12) (index := 560) (v := 100) hx hb hown (hts (.constantLong RX12 560 (100)) (o9_X12_poke _ (List.mem_of_getElem? (i := 0) rfl))) dX12_poke_4 ?_
  refine k_cSi (As := [.long (Int32.toInt64 x0), .long 1, .long 100]) (rest := [.ref h0]) (wc := []) (wr := [(h0, .inr (12, f0))]) (w1 := []) ⟨hx, hb, hml, hown, hts⟩ hN hX hAE hK hP hD hS hA [] [0] rfl rfl (by decide +kernel) (by decide +kernel) (by decide +kernel) (c_X12_in_9 l E D cI cJ cB cZ (Int32.toInt64 x0) (fun z9 => e0 ((k_n4 (x := x0) (c := 1) (C := 1) (by decide)).mp z9)) (fun z9 => (k_n5 (x := x0) (c := 100) (d := 101) (C := 100) (by decide) (by decide)).mp z9 e1)) (va_cwS 3 hts g9_X12_poke_X12_in_504 rfl rfl rfl (by decide +kernel) ⟨Nat.le_of_ble_eq_true rfl, Nat.le_of_ble_eq_true rfl⟩) rfl hl.1 (Nat.le_of_ble_eq_true rfl) dX12_poke_7 ⟨Nat.le_of_ble_eq_true rfl, Nat.le_of_ble_eq_true rfl⟩ (fun H locs hP hD hS => ?_)
  have hP : va_P D vwCl [(h0, .inr (12, f0))] H := hP
  have hD : va_D A [(h0, .inr (12, f0))] := hD
  refine lv_if_eq (tgt := 29) hx hb dX12_poke_10 (by decide) (fun c9 => absurd c9 (by decide)) (fun _ => ?_)
  refine lv_iload_n hx hb dX12_poke_13 rfl (lv_at hl 2 rfl) ?_
  refine lv_i2l (v := (Int32.toInt64 x1)) hx hb dX12_poke_14 rfl ?_
  refine lv_lconst (v := 0) hx hb dX12_poke_15 (by decide) ?_
  refine lv_ldc2 (own := RX12) (index := 530) (v := 255) hx hb hown (hts (.constantLong RX12 530 (255)) (o9_X12_poke _ (List.mem_of_getElem? (i := 4) rfl))) dX12_poke_16 ?_
  refine k_cSi (As := [.long (Int32.toInt64 x1), .long 0, .long 255]) (rest := [.ref h0]) (wc := []) (wr := [(h0, .inr (12, f0))]) (w1 := []) ⟨hx, hb, hml, hown, hts⟩ hN hX hAE hK hP hD hS hA [] [0] rfl rfl (by decide +kernel) (by decide +kernel) (by decide +kernel) (c_X12_in_7 l E D cI cJ cB cZ (Int32.toInt64 x1) (fun z9 => e2 ((k_n4 (x := x1) (c := 0) (C := 0) (by decide)).mp z9)) ((k_n5 (x := x1) (c := 255) (d := 256) (C := 255) (by decide) (by decide)).mpr e3)) (va_cwS 3 hts g9_X12_poke_X12_in_504 rfl rfl rfl (by decide +kernel) ⟨Nat.le_of_ble_eq_true rfl, Nat.le_of_ble_eq_true rfl⟩) rfl hl.1 (Nat.le_of_ble_eq_true rfl) dX12_poke_19 ⟨Nat.le_of_ble_eq_true rfl, Nat.le_of_ble_eq_true rfl⟩ (fun H locs hP hD hS => ?_)
  have hP : va_P D vwCl [(h0, .inr (12, f0))] H := hP
  have hD : va_D A [(h0, .inr (12, f0))] := hD
  refine lv_if_eq (tgt := 29) hx hb dX12_poke_22 (by decide) (fun _ => ?_) (fun c9 => absurd (by decide) c9)
  refine lv_iconst (v := 1) hx hb dX12_poke_29 (by decide) ?_
  refine k_put (D := D) (ci := 12) (v := .int 1) (ty := .int) (N := 195) hx hb hts hin12 tyX12 tyX12_ok nmX12 hown hK hP hD hS 0 rfl rfl (by decide) f9_12_0 (hts (.fieldLink RX12 3 "IntegerHouseModel" "thrown" "I") (o9_X12_poke _ (List.mem_of_getElem? (i := 5) rfl))) rfl pd_2 rfl rfl (k_len e4) dX12_poke_30 (fun H locs hP hD hS => ?_)
  have hP : va_P D vwCl [(h0, .inr (12, (f0.set 0 (.int 1))))] H := hP
  have hD : va_D A [(h0, .inr (12, (f0.set 0 (.int 1))))] := hD
  refine lv_aload_n hx hb dX12_poke_33 rfl (lv_at hl 0 rfl) ?_
  refine k_get (D := D) (ci := 12) (v := .int 1) (N := 195) hx hb hts hin12 hown hK hP 0 rfl rfl (by decide) f9_12_0 (hts (.fieldLink RX12 3 "IntegerHouseModel" "thrown" "I") (o9_X12_poke _ (List.mem_of_getElem? (i := 5) rfl))) (k_set e4) dX12_poke_34 ?_
  refine lv_if_le (tgt := 42) hx hb dX12_poke_37 (by decide) (fun c9 => absurd c9 (by decide)) (fun _ => ?_)
  refine lv_iconst (v := 0) hx hb dX12_poke_40 (by decide) ?_
  exact W.iret (v := 0) hx hb hr (fun t ht hW => ⟨⟨0, (), rfl, rfl, kB_mk ht hW hP hK hD⟩, hS.F ht⟩) hS.2.2 dX12_poke_41
set_option maxHeartbeats 400000000 in
set_option maxRecDepth 100000 in
theorem c_X11_poke_4 (l : Launch) (E : kE) (D : va_G) (cI cJ cB cZ : ClassId) (h0 : Nat) (x0 : Int32) (x1 : Int32) (x2 : Int32) (f0 : List Value) (e0 : ¬ ((x0 : Int32) < 1)) (e1 : ¬ ((x0 : Int32) < 101)) (hl9 : l.stackTraces = false) : kTI l E D (kT cI cJ cB cZ) yX11_poke vW_X11_poke ({ frames := 6, cells := 1, slots := 6, locals := 82 }) [.ref h0, .int x0, .int x1, .int x2] [(h0, .inr (11, f0))] "java/lang/IndexOutOfBoundsException" 1 6 := by
  intro sz
  refine vx_ofW (cc := cX11_poke) (maxL := 4) (ret := (some .int)) (by decide) rfl ?_
  intro p e s m args below meth c s₁ B hml ht9 hv
  obtain ⟨rfl, hsz, hP, hK, hD0, hN, hX⟩ := hv
  have hx := B.exec
  have hb := B.bytes
  have hr := B.returns
  have hts := atoms_spec (ws := vW_X11_poke) B.pre
  have hown : s.vm.findClass RX11 = some m.cls := findClass_of_methodNamed B.named
  have hlocks := B.notSynchronized
  subst hsz
  have hD := hD0.self (sz := s.heap.size)
  have hAE := k_AE hD0 hX
  generalize hAe : va_A [(h0, .inr (11, f0))] s.heap.size = A at hD hAE ⊢
  have hA : ∀ q : Nat, s.heap.size ≤ q → A q := fun q h => by rw [← hAe]; exact Or.inr h
  have hS : va_S A s.heap s.heap [] := va_S.rf
  have hP : va_P D vwCl [(h0, .inr (11, f0))] s.heap := hP
  have hl := lv_entry ([.ref h0, .int x0, .int x1, .int x2] : List Value) (n := 4) (Nat.le_of_ble_eq_true rfl)
  rw [lg_entry_eq]
  generalize (lg_sl ([.ref h0, .int x0, .int x1, .int x2]) ++ List.replicate (4 - (lg_sl ([.ref h0, .int x0, .int x1, .int x2])).length) Slot.unset).toArray = ls at hl ⊢
  have hl : lv_has ls 4 [(0, .ref h0), (1, .int x0), (2, .int x1), (3, .int x2)] := hl
  refine lv_iload_n hx hb dX11_poke_0 rfl (lv_at hl 1 rfl) ?_
  refine lv_iload_n hx hb dX11_poke_1 rfl (lv_at hl 2 rfl) ?_
  refine k_cSi (As := [.int x0, .int x1]) (rest := []) (wc := []) (wr := [(h0, .inr (11, f0))]) (w1 := []) ⟨hx, hb, hml, hown, hts⟩ hN hX hAE hK hP hD hS hA [] [0] rfl rfl (by decide +kernel) (by decide +kernel) (by decide +kernel) (c_X1_isByte_4 l E D cI cJ cB cZ x0 x1 e0 e1) (va_cwS 2 hts g9_X11_poke_X1_isByte_194 rfl rfl rfl (by decide +kernel) ⟨Nat.le_of_ble_eq_true rfl, Nat.le_of_ble_eq_true rfl⟩) rfl hl.1 (Nat.le_of_ble_eq_true rfl) dX11_poke_2 ⟨Nat.le_of_ble_eq_true rfl, Nat.le_of_ble_eq_true rfl⟩ (fun H locs hP hD hS => ?_)
  have hP : va_P D vwCl [(h0, .inr (11, f0))] H := hP
  have hD : va_D A [(h0, .inr (11, f0))] := hD
  refine lv_if_ne (tgt := 18) hx hb dX11_poke_5 (by decide) (fun c9 => absurd (by decide) c9) (fun _ => ?_)
  obtain ⟨a9, a9r, a9o⟩ := kX.st hX hAE ("IntegerHouse", 199, "no such byte of a block") (List.mem_of_getElem? (i := 5) rfl)
  exact vx_throwS (names := ["java/lang/RuntimeException", "java/lang/Exception"]) (A := A) hx hb hl9 hown (by decide +kernel) (by decide +kernel) (hts (.classLink RX11 197 "java/lang/IndexOutOfBoundsException") (o9_X11_poke _ (List.mem_of_getElem? (i := 7) rfl))) (hts (.initialized "java/lang/IndexOutOfBoundsException") (o9_X11_poke _ (List.mem_of_getElem? (i := 8) rfl))) a9r (vx_hat (L := vx_atS RX11 201 "java/lang/IndexOutOfBoundsException" ["java/lang/RuntimeException", "java/lang/Exception"]) (B := [.castable "java/lang/IndexOutOfBoundsException" "java/lang/IndexOutOfBoundsException", .declares (Bundle.initS "java/lang/RuntimeException"), .declares (Bundle.initS "java/lang/Exception"), .declares (Bundle.initS "java/lang/Throwable")]) (fun w h => hts w (x9_X11_poke_0 w h)) (by decide +kernel) (vx_c (va_Nw.use rfl (kX.cast hX "java/lang/IndexOutOfBoundsException" (by decide))) (vx_c (va_Nw.use rfl (kX.decl hX "java/lang/RuntimeException" (by decide))) (vx_c (va_Nw.use rfl (kX.decl hX "java/lang/Exception" (by decide))) (vx_c (va_Nw.use rfl (kX.decl hX "java/lang/Throwable" (by decide))) vx_n))))) (by decide +kernel) (kX.us hX hAE) (kX.ss hX hAE) hS (by rw [hml]; exact hl.1) dX11_poke_8 dX11_poke_11 dX11_poke_12 dX11_poke_14 dX11_poke_17 (fun x hx => (ht9 x hx).elim) (Nat.le_of_ble_eq_true rfl) (Nat.le_of_ble_eq_true rfl) (Nat.le_of_ble_eq_true rfl) (Nat.le_of_ble_eq_true rfl) hlocks (fun t h1 h2 h3 => k_tx hP hK hD hS t h1 h2 h3) hS.2.2 (Nat.le_of_ble_eq_true rfl) (Nat.le_of_ble_eq_true rfl)
set_option maxHeartbeats 400000000 in
set_option maxRecDepth 100000 in
theorem c_L_poke_4 (l : Launch) (E : kE) (D : va_G) (cI cJ cB cZ : ClassId) (h0 : Nat) (x0 : Int32) (x1 : Int32) (x2 : Int32) (h1 : Nat) (f0 : List Value) (e0 : ¬ ((x0 : Int32) < 1)) (e1 : ¬ ((x0 : Int32) < 101)) (hl9 : l.stackTraces = false) : kI l E D (kT cI cJ cB cZ) yL_poke vW_L_poke ({ frames := 7, cells := 1, slots := 6, locals := 105 }) [.ref h0, .int x0, .int x1, .int x2, .ref h1] [(h0, .inr (11, f0))] (1) [(h0, .inr (11, f0))] 1 6 := by
  intro sz
  refine k_metH (cc := cL_poke) (maxL := 6) (ret := (some .int)) (hh := [(0, 12, 15, 25)]) (by decide) rfl ?_
  intro p e s m args below meth c s₁ B hml hv
  obtain ⟨rfl, hsz, hP, hK, hD0, hN, hX⟩ := hv
  have hx := B.exec
  have hb := B.bytes
  have hr := B.returns
  have hts := atoms_spec (ws := vW_L_poke) B.pre
  have hown : s.vm.findClass RL = some m.cls := findClass_of_methodNamed B.named
  have hlocks := B.notSynchronized
  subst hsz
  have hD := hD0.self (sz := s.heap.size)
  have hAE := k_AE hD0 hX
  generalize hAe : va_A [(h0, .inr (11, f0))] s.heap.size = A at hD hAE ⊢
  have hA : ∀ q : Nat, s.heap.size ≤ q → A q := fun q h => by rw [← hAe]; exact Or.inr h
  have hS : va_S A s.heap s.heap [] := va_S.rf
  have hP : va_P D vwCl [(h0, .inr (11, f0))] s.heap := hP
  have hl := lv_entry ([.ref h0, .int x0, .int x1, .int x2, .ref h1] : List Value) (n := 6) (Nat.le_of_ble_eq_true rfl)
  rw [lg_entry_eq]
  generalize (lg_sl ([.ref h0, .int x0, .int x1, .int x2, .ref h1]) ++ List.replicate (6 - (lg_sl ([.ref h0, .int x0, .int x1, .int x2, .ref h1])).length) Slot.unset).toArray = ls at hl ⊢
  have hl : lv_has ls 6 [(0, .ref h0), (1, .int x0), (2, .int x1), (3, .int x2), (4, .ref h1)] := hl
  refine lv_aload hx hb dL_poke_0 (lv_at hl 4 rfl) ?_
  refine lv_iconst (v := 0) hx hb dL_poke_2 (by decide) ?_
  refine lv_aload_n hx hb dL_poke_3 rfl (lv_at hl 0 rfl) ?_
  refine lv_iload_n hx hb dL_poke_4 rfl (lv_at hl 1 rfl) ?_
  refine lv_iload_n hx hb dL_poke_5 rfl (lv_at hl 2 rfl) ?_
  refine lv_iload_n hx hb dL_poke_6 rfl (lv_at hl 3 rfl) ?_
  refine k_cTi (As := [.int x0, .int x1, .int x2]) (rest := [.int 0, .ref h1]) (wc := [(h0, .inr (11, f0))]) (wr := []) ⟨hx, hb, hml, hown, hts⟩ hN hX hAE hK hP hD hS hA [0] [] (ci := 11) rfl rfl rfl rfl (by decide +kernel) (by decide +kernel) (by decide +kernel) (c_X11_poke_4 l E D cI cJ cB cZ h0 x0 x1 x2 f0 e0 e1 hl9) (cwV 3 hts g9_L_poke_X11_poke_27 rfl rfl rfl (by decide +kernel) ⟨Nat.le_of_ble_eq_true rfl, Nat.le_of_ble_eq_true rfl⟩) rfl hl.1 (Nat.le_of_ble_eq_true rfl) dL_poke_7 ⟨Nat.le_of_ble_eq_true rfl, Nat.le_of_ble_eq_true rfl⟩ (fun q9 ce H locs hP hD hS hce hcv hcl => ?_)
  have hP : va_P D vwCl [(h0, .inr (11, f0))] H := hP
  have hD : va_D A [(h0, .inr (11, f0))] := hD
  refine vx_catch (own := RL) (name := "java/lang/IndexOutOfBoundsException") hown [] ⟨0, 12, 15, 25⟩ [] (vx_table (x := yL_poke) B (hts _ List.mem_cons_self)) (fun z hz => absurd hz List.not_mem_nil) (by decide) (by decide) (hts (.classLink RL 25 "java/lang/IndexOutOfBoundsException") (o9_L_poke _ (List.mem_of_getElem? (i := 4) rfl))) (va_Nw.use rfl (kX.cast hX "java/lang/IndexOutOfBoundsException" (by decide))) hce hcv hcl ?_
  refine W.eq (g2 := F0 m 15 ls [.ref q9]) rfl ?_
  refine W.widen (k := 1) (n := 6) (Nat.le_of_ble_eq_true rfl) (Nat.le_of_ble_eq_true rfl) ?_
  refine lv_astore (lv' := [(5, .ref q9), (0, .ref h0), (1, .int x0), (2, .int x1), (3, .int x2), (4, .ref h1)]) hx hb dL_poke_15 hl (by decide) rfl (fun ls hl => ?_)
  refine lv_iconst (v := 1) hx hb dL_poke_17 (by decide) ?_
  exact W.iret (v := 1) hx hb hr (fun t ht hW => ⟨⟨1, (), rfl, rfl, kB_mk ht hW hP hK hD⟩, hS.F ht⟩) hS.2.2 dL_poke_18
set_option maxHeartbeats 400000000 in
set_option maxRecDepth 100000 in
theorem c_X12_poke_4 (l : Launch) (E : kE) (D : va_G) (cI cJ cB cZ : ClassId) (h0 : Nat) (x0 : Int32) (x1 : Int32) (x2 : Int32) (f0 : List Value) (e0 : ¬ ((x0 : Int32) < 1)) (e1 : ¬ ((x0 : Int32) < 101)) (e2 : f0[0]? = some (.int 0)) : kI l E D (kT cI cJ cB cZ) yX12_poke vW_X12_poke ({ frames := 1, cells := 0, slots := 0, locals := 25 }) [.ref h0, .int x0, .int x1, .int x2] [(h0, .inr (12, f0))] (0) [(h0, .inr (12, (f0.set 0 (.int 1))))] 0 0 := by
  intro sz
  refine Met.ofW (cc := cX12_poke) (maxL := 4) (ret := (some .int)) (by decide) rfl ?_
  intro p e s m args below meth c s₁ B hml hv
  obtain ⟨rfl, hsz, hP, hK, hD0, hN, hX⟩ := hv
  have hx := B.exec
  have hb := B.bytes
  have hr := B.returns
  have hts := atoms_spec (ws := vW_X12_poke) B.pre
  have hown : s.vm.findClass RX12 = some m.cls := findClass_of_methodNamed B.named
  have hlocks := B.notSynchronized
  have hin12 : ∀ w ∈ wsX120, w ∈ vW_X12_poke := u9_X12_poke_wsX120
  subst hsz
  have hD := hD0.self (sz := s.heap.size)
  have hAE := k_AE hD0 hX
  generalize hAe : va_A [(h0, .inr (12, f0))] s.heap.size = A at hD hAE ⊢
  have hA : ∀ q : Nat, s.heap.size ≤ q → A q := fun q h => by rw [← hAe]; exact Or.inr h
  have hS : va_S A s.heap s.heap [] := va_S.rf
  have hP : va_P D vwCl [(h0, .inr (12, f0))] s.heap := hP
  have hl := lv_entry ([.ref h0, .int x0, .int x1, .int x2] : List Value) (n := 4) (Nat.le_of_ble_eq_true rfl)
  rw [lg_entry_eq]
  generalize (lg_sl ([.ref h0, .int x0, .int x1, .int x2]) ++ List.replicate (4 - (lg_sl ([.ref h0, .int x0, .int x1, .int x2])).length) Slot.unset).toArray = ls at hl ⊢
  have hl : lv_has ls 4 [(0, .ref h0), (1, .int x0), (2, .int x1), (3, .int x2)] := hl
  refine lv_aload_n hx hb dX12_poke_0 rfl (lv_at hl 0 rfl) ?_
  refine lv_iload_n hx hb dX12_poke_1 rfl (lv_at hl 1 rfl) ?_
  refine lv_i2l (v := (Int32.toInt64 x0)) hx hb dX12_poke_2 rfl ?_
  refine lv_lconst (v := 1) hx hb dX12_poke_3 (by decide) ?_
  refine lv_ldc2 (own := RX12) (index := 560) (v := 100) hx hb hown (hts (.constantLong RX12 560 (100)) (o9_X12_poke _ (List.mem_of_getElem? (i := 0) rfl))) dX12_poke_4 ?_
  refine k_cSi (As := [.long (Int32.toInt64 x0), .long 1, .long 100]) (rest := [.ref h0]) (wc := []) (wr := [(h0, .inr (12, f0))]) (w1 := []) ⟨hx, hb, hml, hown, hts⟩ hN hX hAE hK hP hD hS hA [] [0] rfl rfl (by decide +kernel) (by decide +kernel) (by decide +kernel) (c_X12_in_11 l E D cI cJ cB cZ (Int32.toInt64 x0) (fun z9 => e0 ((k_n4 (x := x0) (c := 1) (C := 1) (by decide)).mp z9)) ((k_n5 (x := x0) (c := 100) (d := 101) (C := 100) (by decide) (by decide)).mpr e1)) (va_cwS 3 hts g9_X12_poke_X12_in_504 rfl rfl rfl (by decide +kernel) ⟨Nat.le_of_ble_eq_true rfl, Nat.le_of_ble_eq_true rfl⟩) rfl hl.1 (Nat.le_of_ble_eq_true rfl) dX12_poke_7 ⟨Nat.le_of_ble_eq_true rfl, Nat.le_of_ble_eq_true rfl⟩ (fun H locs hP hD hS => ?_)
  have hP : va_P D vwCl [(h0, .inr (12, f0))] H := hP
  have hD : va_D A [(h0, .inr (12, f0))] := hD
  refine lv_if_eq (tgt := 29) hx hb dX12_poke_10 (by decide) (fun _ => ?_) (fun c9 => absurd (by decide) c9)
  refine lv_iconst (v := 1) hx hb dX12_poke_29 (by decide) ?_
  refine k_put (D := D) (ci := 12) (v := .int 1) (ty := .int) (N := 195) hx hb hts hin12 tyX12 tyX12_ok nmX12 hown hK hP hD hS 0 rfl rfl (by decide) f9_12_0 (hts (.fieldLink RX12 3 "IntegerHouseModel" "thrown" "I") (o9_X12_poke _ (List.mem_of_getElem? (i := 5) rfl))) rfl pd_2 rfl rfl (k_len e2) dX12_poke_30 (fun H locs hP hD hS => ?_)
  have hP : va_P D vwCl [(h0, .inr (12, (f0.set 0 (.int 1))))] H := hP
  have hD : va_D A [(h0, .inr (12, (f0.set 0 (.int 1))))] := hD
  refine lv_aload_n hx hb dX12_poke_33 rfl (lv_at hl 0 rfl) ?_
  refine k_get (D := D) (ci := 12) (v := .int 1) (N := 195) hx hb hts hin12 hown hK hP 0 rfl rfl (by decide) f9_12_0 (hts (.fieldLink RX12 3 "IntegerHouseModel" "thrown" "I") (o9_X12_poke _ (List.mem_of_getElem? (i := 5) rfl))) (k_set e2) dX12_poke_34 ?_
  refine lv_if_le (tgt := 42) hx hb dX12_poke_37 (by decide) (fun c9 => absurd c9 (by decide)) (fun _ => ?_)
  refine lv_iconst (v := 0) hx hb dX12_poke_40 (by decide) ?_
  exact W.iret (v := 0) hx hb hr (fun t ht hW => ⟨⟨0, (), rfl, rfl, kB_mk ht hW hP hK hD⟩, hS.F ht⟩) hS.2.2 dX12_poke_41
set_option maxHeartbeats 400000000 in
set_option maxRecDepth 100000 in
theorem c_X11_count_0 (l : Launch) (E : kE) (D : va_G) (cI cJ cB cZ : ClassId) (h0 : Nat) (x0 : Int32) (f0 : List Value) (h1 : Nat) (f1 : List Value) (h2 : Nat) (f2 : List Value) (e0 : ¬ ((x0 : Int32) = 4)) (e1 : f0[1]? = some (.ref h1)) (e2 : f1[8]? = some (.int 0)) (e3 : (x0 : Int32) = 1) (e4 : f0[2]? = some (.ref h2)) (e5 : f2[11]? = some (.int 0)) : kI l E D (kT cI cJ cB cZ) yX11_count vW_X11_count ({ frames := 0, cells := 0, slots := 0, locals := 0 }) [.ref h0, .int x0] [(h0, .inr (11, f0)), (h1, .inr (1, f1)), (h2, .inr (2, f2))] (0) [(h0, .inr (11, f0)), (h1, .inr (1, f1)), (h2, .inr (2, f2))] 0 0 := by
  intro sz
  refine Met.ofW (cc := cX11_count) (maxL := 2) (ret := (some .int)) (by decide) rfl ?_
  intro p e s m args below meth c s₁ B hml hv
  obtain ⟨rfl, hsz, hP, hK, hD0, hN, hX⟩ := hv
  have hx := B.exec
  have hb := B.bytes
  have hr := B.returns
  have hts := atoms_spec (ws := vW_X11_count) B.pre
  have hown : s.vm.findClass RX11 = some m.cls := findClass_of_methodNamed B.named
  have hlocks := B.notSynchronized
  have hin11 : ∀ w ∈ wsX110, w ∈ vW_X11_count := u9_X11_count_wsX110
  have hin1 : ∀ w ∈ wsX10, w ∈ vW_X11_count := u9_X11_count_wsX10
  have hin2 : ∀ w ∈ wsX20, w ∈ vW_X11_count := u9_X11_count_wsX20
  subst hsz
  have hD := hD0.self (sz := s.heap.size)
  have hAE := k_AE hD0 hX
  generalize hAe : va_A [(h0, .inr (11, f0)), (h1, .inr (1, f1)), (h2, .inr (2, f2))] s.heap.size = A at hD hAE ⊢
  have hA : ∀ q : Nat, s.heap.size ≤ q → A q := fun q h => by rw [← hAe]; exact Or.inr h
  have hS : va_S A s.heap s.heap [] := va_S.rf
  have hP : va_P D vwCl [(h0, .inr (11, f0)), (h1, .inr (1, f1)), (h2, .inr (2, f2))] s.heap := hP
  have hl := lv_entry ([.ref h0, .int x0] : List Value) (n := 2) (Nat.le_of_ble_eq_true rfl)
  rw [lg_entry_eq]
  generalize (lg_sl ([.ref h0, .int x0]) ++ List.replicate (2 - (lg_sl ([.ref h0, .int x0])).length) Slot.unset).toArray = ls at hl ⊢
  have hl : lv_has ls 2 [(0, .ref h0), (1, .int x0)] := hl
  refine lv_iload_n hx hb dX11_count_0 rfl (lv_at hl 1 rfl) ?_
  refine lv_iconst (v := 4) hx hb dX11_count_1 (by decide) ?_
  refine lv_icmp_ne (tgt := 10) hx hb dX11_count_2 (by decide) (fun _ => ?_) (fun c9 => absurd c9 e0)
  refine lv_aload_n hx hb dX11_count_10 rfl (lv_at hl 0 rfl) ?_
  refine k_get (D := D) (ci := 11) (v := .ref h1) (N := 15) hx hb hts hin11 hown hK hP 0 rfl rfl (by decide) f9_11_1 (hts (.fieldLink RX11 16 "IntegerHouse" "disk" "LIntegerHouse$Disk;") (o9_X11_count _ (List.mem_of_getElem? (i := 0) rfl))) e1 dX11_count_11 ?_
  refine k_getN (host := "IntegerHouse") (D := D) (ci := 1) (v := .int 0) (N := 9) hx hb hts hin1 hown hK hP 1 rfl rfl (by decide) f9_1_8 (va_Nw.use rfl (hN.1 ("IntegerHouse", 122, "IntegerHouse$Disk", "down", "Z", "IntegerHouse") (List.mem_of_getElem? (i := 3) rfl))) e2 dX11_count_14 ?_
  refine lv_if_eq (tgt := 23) hx hb dX11_count_17 (by decide) (fun _ => ?_) (fun c9 => absurd (by decide) c9)
  refine lv_iload_n hx hb dX11_count_23 rfl (lv_at hl 1 rfl) ?_
  refine lv_tableIn (off := 56) (tgt := 80) hx hb dX11_count_24 (by rw [e3]; decide) (by rw [e3]; decide) (by rw [e3]; rfl) (by decide) ?_
  refine lv_aload_n hx hb dX11_count_80 rfl (lv_at hl 0 rfl) ?_
  refine k_get (D := D) (ci := 11) (v := .ref h2) (N := 15) hx hb hts hin11 hown hK hP 0 rfl rfl (by decide) f9_11_2 (hts (.fieldLink RX11 23 "IntegerHouse" "house" "LIntegerHouse$House;") (o9_X11_count _ (List.mem_of_getElem? (i := 1) rfl))) e4 dX11_count_81 ?_
  refine k_getN (host := "IntegerHouse") (D := D) (ci := 2) (v := .int 0) (N := 16) hx hb hts hin2 hown hK hP 2 rfl rfl (by decide) f9_2_11 (va_Nw.use rfl (hN.1 ("IntegerHouse", 160, "IntegerHouse$House", "claims", "I", "IntegerHouse") (List.mem_of_getElem? (i := 13) rfl))) e5 dX11_count_84 ?_
  exact W.iret (v := 0) hx hb hr (fun t ht hW => ⟨⟨0, (), rfl, rfl, kB_mk ht hW hP hK hD⟩, hS.F ht⟩) hS.2.2 dX11_count_87
set_option maxHeartbeats 400000000 in
set_option maxRecDepth 100000 in
theorem c_X12_count_0 (l : Launch) (E : kE) (D : va_G) (cI cJ cB cZ : ClassId) (h0 : Nat) (x0 : Int32) (f0 : List Value) (e0 : f0[0]? = some (.int 0)) (e1 : ¬ ((x0 : Int32) = 4)) (e2 : f0[5]? = some (.int 0)) (e3 : f0[33]? = some (.int 0)) (e4 : (x0 : Int32) = 1) : kI l E D (kT cI cJ cB cZ) yX12_count vW_X12_count ({ frames := 0, cells := 0, slots := 0, locals := 0 }) [.ref h0, .int x0] [(h0, .inr (12, f0))] (0) [(h0, .inr (12, (f0.set 0 (.int 0))))] 0 0 := by
  intro sz
  refine Met.ofW (cc := cX12_count) (maxL := 4) (ret := (some .int)) (by decide) rfl ?_
  intro p e s m args below meth c s₁ B hml hv
  obtain ⟨rfl, hsz, hP, hK, hD0, hN, hX⟩ := hv
  have hx := B.exec
  have hb := B.bytes
  have hr := B.returns
  have hts := atoms_spec (ws := vW_X12_count) B.pre
  have hown : s.vm.findClass RX12 = some m.cls := findClass_of_methodNamed B.named
  have hlocks := B.notSynchronized
  have hin12 : ∀ w ∈ wsX120, w ∈ vW_X12_count := u9_X12_count_wsX120
  subst hsz
  have hD := hD0.self (sz := s.heap.size)
  have hAE := k_AE hD0 hX
  generalize hAe : va_A [(h0, .inr (12, f0))] s.heap.size = A at hD hAE ⊢
  have hA : ∀ q : Nat, s.heap.size ≤ q → A q := fun q h => by rw [← hAe]; exact Or.inr h
  have hS : va_S A s.heap s.heap [] := va_S.rf
  have hP : va_P D vwCl [(h0, .inr (12, f0))] s.heap := hP
  have hl := lv_entry ([.ref h0, .int x0] : List Value) (n := 4) (Nat.le_of_ble_eq_true rfl)
  rw [lg_entry_eq]
  generalize (lg_sl ([.ref h0, .int x0]) ++ List.replicate (4 - (lg_sl ([.ref h0, .int x0])).length) Slot.unset).toArray = ls at hl ⊢
  have hl : lv_has ls 4 [(0, .ref h0), (1, .int x0)] := hl
  refine lv_aload_n hx hb dX12_count_0 rfl (lv_at hl 0 rfl) ?_
  refine lv_iconst (v := 0) hx hb dX12_count_1 (by decide) ?_
  refine k_put (D := D) (ci := 12) (v := .int 0) (ty := .int) (N := 195) hx hb hts hin12 tyX12 tyX12_ok nmX12 hown hK hP hD hS 0 rfl rfl (by decide) f9_12_0 (hts (.fieldLink RX12 3 "IntegerHouseModel" "thrown" "I") (o9_X12_count _ (List.mem_of_getElem? (i := 0) rfl))) rfl pd_2 rfl rfl (k_len e0) dX12_count_2 (fun H locs hP hD hS => ?_)
  have hP : va_P D vwCl [(h0, .inr (12, (f0.set 0 (.int 0))))] H := hP
  have hD : va_D A [(h0, .inr (12, (f0.set 0 (.int 0))))] := hD
  refine lv_iload_n hx hb dX12_count_5 rfl (lv_at hl 1 rfl) ?_
  refine lv_iconst (v := 4) hx hb dX12_count_6 (by decide) ?_
  refine lv_icmp_ne (tgt := 15) hx hb dX12_count_7 (by decide) (fun _ => ?_) (fun c9 => absurd c9 e1)
  refine lv_aload_n hx hb dX12_count_15 rfl (lv_at hl 0 rfl) ?_
  refine k_get (D := D) (ci := 12) (v := .int 0) (N := 195) hx hb hts hin12 hown hK hP 0 rfl rfl (by decide) f9_12_5 (hts (.fieldLink RX12 488 "IntegerHouseModel" "down" "Z") (o9_X12_count _ (List.mem_of_getElem? (i := 1) rfl))) (k_ne (by decide) e2) dX12_count_16 ?_
  refine lv_if_eq (tgt := 25) hx hb dX12_count_19 (by decide) (fun _ => ?_) (fun c9 => absurd (by decide) c9)
  refine lv_iconst (v := 0) hx hb dX12_count_25 (by decide) ?_
  refine lv_istore_n (lv' := [(2, .int 0), (0, .ref h0), (1, .int x0)]) hx hb dX12_count_26 rfl hl (by decide) rfl (fun ls hl => ?_)
  refine lv_iconst (v := 0) hx hb dX12_count_27 (by decide) ?_
  refine lv_istore_n (lv' := [(3, .int 0), (2, .int 0), (0, .ref h0), (1, .int x0)]) hx hb dX12_count_28 rfl hl (by decide) rfl (fun ls hl => ?_)
  refine lv_iload_n hx hb dX12_count_29 rfl (lv_at hl 0 rfl) ?_
  refine lv_aload_n hx hb dX12_count_30 rfl (lv_at hl 2 rfl) ?_
  refine k_get (D := D) (ci := 12) (v := .int 0) (N := 195) hx hb hts hin12 hown hK hP 0 rfl rfl (by decide) f9_12_33 (hts (.fieldLink RX12 818 "IntegerHouseModel" "claims" "I") (o9_X12_count _ (List.mem_of_getElem? (i := 2) rfl))) (k_ne (by decide) e3) dX12_count_31 ?_
  refine lv_icmp_ge (tgt := 60) hx hb dX12_count_34 (by decide) (fun _ => ?_) (fun c9 => absurd (by decide) c9)
  refine lv_iload_n hx hb dX12_count_60 rfl (lv_at hl 3 rfl) ?_
  refine lv_tableIn (off := 52) (tgt := 113) hx hb dX12_count_61 (by rw [e4]; decide) (by rw [e4]; decide) (by rw [e4]; rfl) (by decide) ?_
  refine lv_aload_n hx hb dX12_count_113 rfl (lv_at hl 2 rfl) ?_
  refine k_get (D := D) (ci := 12) (v := .int 0) (N := 195) hx hb hts hin12 hown hK hP 0 rfl rfl (by decide) f9_12_33 (hts (.fieldLink RX12 818 "IntegerHouseModel" "claims" "I") (o9_X12_count _ (List.mem_of_getElem? (i := 2) rfl))) (k_ne (by decide) e3) dX12_count_114 ?_
  exact W.iret (v := 0) hx hb hr (fun t ht hW => ⟨⟨0, (), rfl, rfl, kB_mk ht hW hP hK hD⟩, hS.F ht⟩) hS.2.2 dX12_count_117
set_option maxHeartbeats 400000000 in
set_option maxRecDepth 100000 in
theorem c_X11_count_1 (l : Launch) (E : kE) (D : va_G) (cI cJ cB cZ : ClassId) (h0 : Nat) (x0 : Int32) (f0 : List Value) (e0 : (x0 : Int32) = 4) (e1 : f0[12]? = some (.int 0)) : kI l E D (kT cI cJ cB cZ) yX11_count vW_X11_count ({ frames := 0, cells := 0, slots := 0, locals := 0 }) [.ref h0, .int x0] [(h0, .inr (11, f0))] (0) [(h0, .inr (11, f0))] 0 0 := by
  intro sz
  refine Met.ofW (cc := cX11_count) (maxL := 2) (ret := (some .int)) (by decide) rfl ?_
  intro p e s m args below meth c s₁ B hml hv
  obtain ⟨rfl, hsz, hP, hK, hD0, hN, hX⟩ := hv
  have hx := B.exec
  have hb := B.bytes
  have hr := B.returns
  have hts := atoms_spec (ws := vW_X11_count) B.pre
  have hown : s.vm.findClass RX11 = some m.cls := findClass_of_methodNamed B.named
  have hlocks := B.notSynchronized
  have hin11 : ∀ w ∈ wsX110, w ∈ vW_X11_count := u9_X11_count_wsX110
  subst hsz
  have hD := hD0.self (sz := s.heap.size)
  have hAE := k_AE hD0 hX
  generalize hAe : va_A [(h0, .inr (11, f0))] s.heap.size = A at hD hAE ⊢
  have hA : ∀ q : Nat, s.heap.size ≤ q → A q := fun q h => by rw [← hAe]; exact Or.inr h
  have hS : va_S A s.heap s.heap [] := va_S.rf
  have hP : va_P D vwCl [(h0, .inr (11, f0))] s.heap := hP
  have hl := lv_entry ([.ref h0, .int x0] : List Value) (n := 2) (Nat.le_of_ble_eq_true rfl)
  rw [lg_entry_eq]
  generalize (lg_sl ([.ref h0, .int x0]) ++ List.replicate (2 - (lg_sl ([.ref h0, .int x0])).length) Slot.unset).toArray = ls at hl ⊢
  have hl : lv_has ls 2 [(0, .ref h0), (1, .int x0)] := hl
  refine lv_iload_n hx hb dX11_count_0 rfl (lv_at hl 1 rfl) ?_
  refine lv_iconst (v := 4) hx hb dX11_count_1 (by decide) ?_
  refine lv_icmp_ne (tgt := 10) hx hb dX11_count_2 (by decide) (fun c9 => absurd e0 c9) (fun _ => ?_)
  refine lv_aload_n hx hb dX11_count_5 rfl (lv_at hl 0 rfl) ?_
  refine k_get (D := D) (ci := 11) (v := .int 0) (N := 15) hx hb hts hin11 hown hK hP 0 rfl rfl (by decide) f9_11_12 (hts (.fieldLink RX11 102 "IntegerHouse" "tapeLength" "I") (o9_X11_count _ (List.mem_of_getElem? (i := 2) rfl))) e1 dX11_count_6 ?_
  exact W.iret (v := 0) hx hb hr (fun t ht hW => ⟨⟨0, (), rfl, rfl, kB_mk ht hW hP hK hD⟩, hS.F ht⟩) hS.2.2 dX11_count_9
