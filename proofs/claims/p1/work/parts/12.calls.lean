theorem dX11_feed_0 : decode cX11_feed 0 = .ok (.aload_n 0, 1) := by decide +kernel
theorem dX11_feed_1 : decode cX11_feed 1 = .ok (.getfield 102, 3) := by decide +kernel
theorem dX11_feed_4 : decode cX11_feed 4 = .ok (.sipush 1980, 3) := by decide +kernel
theorem dX11_feed_7 : decode cX11_feed 7 = .ok (.if_icmp .le 13, 3) := by decide +kernel
theorem dX11_feed_20 : decode cX11_feed 20 = .ok (.aload_n 0, 1) := by decide +kernel
theorem dX11_feed_21 : decode cX11_feed 21 = .ok (.iload_n 1, 1) := by decide +kernel
theorem dX11_feed_22 : decode cX11_feed 22 = .ok (.invokevirtual 113, 3) := by decide +kernel
theorem dX11_feed_25 : decode cX11_feed 25 = .ok (.aload_n 0, 1) := by decide +kernel
theorem dX11_feed_26 : decode cX11_feed 26 = .ok (.iload_n 2, 1) := by decide +kernel
theorem dX11_feed_27 : decode cX11_feed 27 = .ok (.invokevirtual 113, 3) := by decide +kernel
theorem dX11_feed_30 : decode cX11_feed 30 = .ok (.aload_n 0, 1) := by decide +kernel
theorem dX11_feed_31 : decode cX11_feed 31 = .ok (.iload_n 3, 1) := by decide +kernel
theorem dX11_feed_32 : decode cX11_feed 32 = .ok (.invokevirtual 113, 3) := by decide +kernel
theorem dX11_feed_35 : decode cX11_feed 35 = .ok (.aload_n 0, 1) := by decide +kernel
theorem dX11_feed_36 : decode cX11_feed 36 = .ok (.iload 4, 2) := by decide +kernel
theorem dX11_feed_38 : decode cX11_feed 38 = .ok (.invokevirtual 113, 3) := by decide +kernel
theorem dX11_feed_41 : decode cX11_feed 41 = .ok (.aload_n 0, 1) := by decide +kernel
theorem dX11_feed_42 : decode cX11_feed 42 = .ok (.iload 5, 2) := by decide +kernel
theorem dX11_feed_44 : decode cX11_feed 44 = .ok (.invokevirtual 113, 3) := by decide +kernel
theorem dX11_feed_47 : decode cX11_feed 47 = .ok (.aload_n 0, 1) := by decide +kernel
theorem dX11_feed_48 : decode cX11_feed 48 = .ok (.getfield 102, 3) := by decide +kernel
theorem dX11_feed_51 : decode cX11_feed 51 = .ok (.ireturn, 1) := by decide +kernel
theorem dX12_feed_0 : decode cX12_feed 0 = .ok (.aload_n 0, 1) := by decide +kernel
theorem dX12_feed_1 : decode cX12_feed 1 = .ok (.aload_n 0, 1) := by decide +kernel
theorem dX12_feed_2 : decode cX12_feed 2 = .ok (.getfield 485, 3) := by decide +kernel
theorem dX12_feed_5 : decode cX12_feed 5 = .ok (.bipush 20, 2) := by decide +kernel
theorem dX12_feed_7 : decode cX12_feed 7 = .ok (.iadd, 1) := by decide +kernel
theorem dX12_feed_8 : decode cX12_feed 8 = .ok (.sipush 2000, 3) := by decide +kernel
theorem dX12_feed_11 : decode cX12_feed 11 = .ok (.if_icmp .le 7, 3) := by decide +kernel
theorem dX12_feed_18 : decode cX12_feed 18 = .ok (.iconst 0, 1) := by decide +kernel
theorem dX12_feed_19 : decode cX12_feed 19 = .ok (.putfield 3, 3) := by decide +kernel
theorem dX12_feed_22 : decode cX12_feed 22 = .ok (.aload_n 0, 1) := by decide +kernel
theorem dX12_feed_23 : decode cX12_feed 23 = .ok (.getfield 3, 3) := by decide +kernel
theorem dX12_feed_26 : decode cX12_feed 26 = .ok (.ifCond .le 5, 3) := by decide +kernel
theorem dX12_feed_31 : decode cX12_feed 31 = .ok (.iconst 0, 1) := by decide +kernel
theorem dX12_feed_32 : decode cX12_feed 32 = .ok (.istore 6, 2) := by decide +kernel
theorem dX12_feed_34 : decode cX12_feed 34 = .ok (.iload 6, 2) := by decide +kernel
theorem dX12_feed_36 : decode cX12_feed 36 = .ok (.bipush 20, 2) := by decide +kernel
theorem dX12_feed_38 : decode cX12_feed 38 = .ok (.if_icmp .ge 90, 3) := by decide +kernel
theorem dX12_feed_41 : decode cX12_feed 41 = .ok (.iload 6, 2) := by decide +kernel
theorem dX12_feed_43 : decode cX12_feed 43 = .ok (.iconst 4, 1) := by decide +kernel
theorem dX12_feed_44 : decode cX12_feed 44 = .ok (.if_icmp .ge 7, 3) := by decide +kernel
theorem dX12_feed_47 : decode cX12_feed 47 = .ok (.iload_n 1, 1) := by decide +kernel
theorem dX12_feed_48 : decode cX12_feed 48 = .ok (.goto 39, 3) := by decide +kernel
theorem dX12_feed_51 : decode cX12_feed 51 = .ok (.iload 6, 2) := by decide +kernel
theorem dX12_feed_53 : decode cX12_feed 53 = .ok (.bipush 8, 2) := by decide +kernel
theorem dX12_feed_55 : decode cX12_feed 55 = .ok (.if_icmp .ge 7, 3) := by decide +kernel
theorem dX12_feed_58 : decode cX12_feed 58 = .ok (.iload_n 2, 1) := by decide +kernel
theorem dX12_feed_59 : decode cX12_feed 59 = .ok (.goto 28, 3) := by decide +kernel
theorem dX12_feed_62 : decode cX12_feed 62 = .ok (.iload 6, 2) := by decide +kernel
theorem dX12_feed_64 : decode cX12_feed 64 = .ok (.bipush 12, 2) := by decide +kernel
theorem dX12_feed_66 : decode cX12_feed 66 = .ok (.if_icmp .ge 7, 3) := by decide +kernel
theorem dX12_feed_69 : decode cX12_feed 69 = .ok (.iload_n 3, 1) := by decide +kernel
theorem dX12_feed_70 : decode cX12_feed 70 = .ok (.goto 17, 3) := by decide +kernel
theorem dX12_feed_73 : decode cX12_feed 73 = .ok (.iload 6, 2) := by decide +kernel
theorem dX12_feed_75 : decode cX12_feed 75 = .ok (.bipush 16, 2) := by decide +kernel
theorem dX12_feed_77 : decode cX12_feed 77 = .ok (.if_icmp .ge 8, 3) := by decide +kernel
theorem dX12_feed_80 : decode cX12_feed 80 = .ok (.iload 4, 2) := by decide +kernel
theorem dX12_feed_82 : decode cX12_feed 82 = .ok (.goto 5, 3) := by decide +kernel
theorem dX12_feed_85 : decode cX12_feed 85 = .ok (.iload 5, 2) := by decide +kernel
theorem dX12_feed_87 : decode cX12_feed 87 = .ok (.istore 7, 2) := by decide +kernel
theorem dX12_feed_89 : decode cX12_feed 89 = .ok (.aload_n 0, 1) := by decide +kernel
theorem dX12_feed_90 : decode cX12_feed 90 = .ok (.getfield 15, 3) := by decide +kernel
theorem dX12_feed_93 : decode cX12_feed 93 = .ok (.aload_n 0, 1) := by decide +kernel
theorem dX12_feed_94 : decode cX12_feed 94 = .ok (.getfield 485, 3) := by decide +kernel
theorem dX12_feed_97 : decode cX12_feed 97 = .ok (.iload 7, 2) := by decide +kernel
theorem dX12_feed_99 : decode cX12_feed 99 = .ok (.bipush 24, 2) := by decide +kernel
theorem dX12_feed_101 : decode cX12_feed 101 = .ok (.bipush 8, 2) := by decide +kernel
theorem dX12_feed_103 : decode cX12_feed 103 = .ok (.iload 6, 2) := by decide +kernel
theorem dX12_feed_105 : decode cX12_feed 105 = .ok (.iconst 4, 1) := by decide +kernel
theorem dX12_feed_106 : decode cX12_feed 106 = .ok (.irem, 1) := by decide +kernel
theorem dX12_feed_107 : decode cX12_feed 107 = .ok (.imul, 1) := by decide +kernel
theorem dX12_feed_108 : decode cX12_feed 108 = .ok (.isub, 1) := by decide +kernel
theorem dX12_feed_109 : decode cX12_feed 109 = .ok (.ishr, 1) := by decide +kernel
theorem dX12_feed_110 : decode cX12_feed 110 = .ok (.i2b, 1) := by decide +kernel
theorem dX12_feed_111 : decode cX12_feed 111 = .ok (.bastore, 1) := by decide +kernel
theorem dX12_feed_112 : decode cX12_feed 112 = .ok (.aload_n 0, 1) := by decide +kernel
theorem dX12_feed_113 : decode cX12_feed 113 = .ok (.dup, 1) := by decide +kernel
theorem dX12_feed_114 : decode cX12_feed 114 = .ok (.getfield 485, 3) := by decide +kernel
theorem dX12_feed_117 : decode cX12_feed 117 = .ok (.iconst 1, 1) := by decide +kernel
theorem dX12_feed_118 : decode cX12_feed 118 = .ok (.iadd, 1) := by decide +kernel
theorem dX12_feed_119 : decode cX12_feed 119 = .ok (.putfield 485, 3) := by decide +kernel
theorem dX12_feed_122 : decode cX12_feed 122 = .ok (.iinc 6 1, 3) := by decide +kernel
theorem dX12_feed_125 : decode cX12_feed 125 = .ok (.goto (-91), 3) := by decide +kernel
theorem dX12_feed_128 : decode cX12_feed 128 = .ok (.aload_n 0, 1) := by decide +kernel
theorem dX12_feed_129 : decode cX12_feed 129 = .ok (.getfield 485, 3) := by decide +kernel
theorem dX12_feed_132 : decode cX12_feed 132 = .ok (.ireturn, 1) := by decide +kernel
theorem dL_feed_0 : decode cL_feed 0 = .ok (.aload 6, 2) := by decide +kernel
theorem dL_feed_2 : decode cL_feed 2 = .ok (.iconst 0, 1) := by decide +kernel
theorem dL_feed_3 : decode cL_feed 3 = .ok (.aload_n 0, 1) := by decide +kernel
theorem dL_feed_4 : decode cL_feed 4 = .ok (.iload_n 1, 1) := by decide +kernel
theorem dL_feed_5 : decode cL_feed 5 = .ok (.iload_n 2, 1) := by decide +kernel
theorem dL_feed_6 : decode cL_feed 6 = .ok (.iload_n 3, 1) := by decide +kernel
theorem dL_feed_7 : decode cL_feed 7 = .ok (.iload 4, 2) := by decide +kernel
theorem dL_feed_9 : decode cL_feed 9 = .ok (.iload 5, 2) := by decide +kernel
theorem dL_feed_11 : decode cL_feed 11 = .ok (.invokevirtual 7, 3) := by decide +kernel
theorem dL_feed_14 : decode cL_feed 14 = .ok (.i2l, 1) := by decide +kernel
theorem dL_feed_15 : decode cL_feed 15 = .ok (.lastore, 1) := by decide +kernel
theorem dL_feed_16 : decode cL_feed 16 = .ok (.goto 7, 3) := by decide +kernel
theorem dL_feed_23 : decode cL_feed 23 = .ok (.iconst 0, 1) := by decide +kernel
theorem dL_feed_24 : decode cL_feed 24 = .ok (.ireturn, 1) := by decide +kernel
set_option maxHeartbeats 400000000 in
set_option maxRecDepth 100000 in
theorem c_X11_feedOne_4 (l : Launch) (E : kE) (D : va_G) (cI cJ cB cZ : ClassId) (h0 : Nat) (x0 : Int32) (f0 : List Value) (h1 : Nat) (g0 : Nat → Int32) (e0 : f0[12]? = some (.int 16)) (e1 : f0[0]? = some (.ref h1)) : kV l E D (kT cI cJ cB cZ) yX11_feedOne vW_X11_feedOne ({ frames := 0, cells := 0, slots := 0, locals := 0 }) [.ref h0, .int x0] [(h0, .inr (11, f0)), (h1, .inl (cB, 2000, .inl g0))] (fun _ : Unit => [(h0, .inr (11, ((((f0.set 12 (.int 17)).set 12 (.int 18)).set 12 (.int 19)).set 12 (.int 20)))), (h1, .inl (cB, 2000, .inl (upd (upd (upd (upd g0 16 (vp_nar .byte (Int8.toInt32 (Int32.toInt8 (x0 >>> (24 &&& 31)))))) 17 (vp_nar .byte (Int8.toInt32 (Int32.toInt8 (x0 >>> (16 &&& 31)))))) 18 (vp_nar .byte (Int8.toInt32 (Int32.toInt8 (x0 >>> (8 &&& 31)))))) 19 (vp_nar .byte (Int8.toInt32 (Int32.toInt8 (x0 >>> (0 &&& 31))))))))]) 0 0 := by
  intro sz
  refine Met.ofW (cc := cX11_feedOne) (maxL := 3) (ret := none) (by decide) rfl ?_
  intro p e s m args below meth c s₁ B hml hv
  obtain ⟨rfl, hsz, hP, hK, hD0, hN, hX⟩ := hv
  have hx := B.exec
  have hb := B.bytes
  have hr := B.returns
  have hts := atoms_spec (ws := vW_X11_feedOne) B.pre
  have hown : s.vm.findClass RX11 = some m.cls := findClass_of_methodNamed B.named
  have hlocks := B.notSynchronized
  have hin11 : ∀ w ∈ wsX110, w ∈ vW_X11_feedOne := u9_X11_feedOne_wsX110
  subst hsz
  have hD := hD0.self (sz := s.heap.size)
  have hAE := k_AE hD0 hX
  generalize hAe : va_A [(h0, .inr (11, f0)), (h1, .inl (cB, 2000, .inl g0))] s.heap.size = A at hD hAE ⊢
  have hA : ∀ q : Nat, s.heap.size ≤ q → A q := fun q h => by rw [← hAe]; exact Or.inr h
  have hS : va_S A s.heap s.heap [] := va_S.rf
  have hP : va_P D vwCl [(h0, .inr (11, f0)), (h1, .inl (cB, 2000, .inl g0))] s.heap := hP
  have hl := lv_entry ([.ref h0, .int x0] : List Value) (n := 3) (Nat.le_of_ble_eq_true rfl)
  rw [lg_entry_eq]
  generalize (lg_sl ([.ref h0, .int x0]) ++ List.replicate (3 - (lg_sl ([.ref h0, .int x0])).length) Slot.unset).toArray = ls at hl ⊢
  have hl : lv_has ls 3 [(0, .ref h0), (1, .int x0)] := hl
  refine lv_bipush (v := 24) hx hb dX11_feedOne_0 (by decide) ?_
  refine lv_istore_n (lv' := [(2, .int 24), (0, .ref h0), (1, .int x0)]) hx hb dX11_feedOne_2 rfl hl (by decide) rfl (fun ls hl => ?_)
  refine lv_iload_n hx hb dX11_feedOne_3 rfl (lv_at hl 0 rfl) ?_
  refine lv_if_lt (tgt := 53) hx hb dX11_feedOne_4 (by decide) (fun c9 => absurd c9 (by decide)) (fun _ => ?_)
  refine lv_aload_n hx hb dX11_feedOne_7 rfl (lv_at hl 1 rfl) ?_
  refine k_get (D := D) (ci := 11) (v := .int 16) (N := 15) hx hb hts hin11 hown hK hP 0 rfl rfl (by decide) f9_11_12 (hts (.fieldLink RX11 102 "IntegerHouse" "tapeLength" "I") (o9_X11_feedOne _ (List.mem_of_getElem? (i := 0) rfl))) e0 dX11_feedOne_8 ?_
  refine lv_if_lt (tgt := 47) hx hb dX11_feedOne_11 (by decide) (fun c9 => absurd c9 (by decide)) (fun _ => ?_)
  refine lv_aload_n hx hb dX11_feedOne_14 rfl (lv_at hl 1 rfl) ?_
  refine k_get (D := D) (ci := 11) (v := .int 16) (N := 15) hx hb hts hin11 hown hK hP 0 rfl rfl (by decide) f9_11_12 (hts (.fieldLink RX11 102 "IntegerHouse" "tapeLength" "I") (o9_X11_feedOne _ (List.mem_of_getElem? (i := 0) rfl))) e0 dX11_feedOne_15 ?_
  refine lv_sipush (v := 2000) hx hb dX11_feedOne_18 (by decide) ?_
  refine lv_icmp_ge (tgt := 47) hx hb dX11_feedOne_21 (by decide) (fun c9 => absurd c9 (by decide)) (fun _ => ?_)
  refine lv_aload_n hx hb dX11_feedOne_24 rfl (lv_at hl 1 rfl) ?_
  refine k_get (D := D) (ci := 11) (v := .ref h1) (N := 15) hx hb hts hin11 hown hK hP 0 rfl rfl (by decide) f9_11_0 (hts (.fieldLink RX11 9 "IntegerHouse" "tape" "[B") (o9_X11_feedOne _ (List.mem_of_getElem? (i := 1) rfl))) e1 dX11_feedOne_25 ?_
  refine lv_aload_n hx hb dX11_feedOne_28 rfl (lv_at hl 1 rfl) ?_
  refine k_get (D := D) (ci := 11) (v := .int 16) (N := 15) hx hb hts hin11 hown hK hP 0 rfl rfl (by decide) f9_11_12 (hts (.fieldLink RX11 102 "IntegerHouse" "tapeLength" "I") (o9_X11_feedOne _ (List.mem_of_getElem? (i := 0) rfl))) e0 dX11_feedOne_29 ?_
  refine lv_iload_n hx hb dX11_feedOne_32 rfl (lv_at hl 2 rfl) ?_
  refine lv_iload_n hx hb dX11_feedOne_33 rfl (lv_at hl 0 rfl) ?_
  refine lv_ishr hx hb dX11_feedOne_34 ?_
  refine lv_i2b (v := (Int8.toInt32 (Int32.toInt8 (x0 >>> (24 &&& 31))))) hx hb dX11_feedOne_35 rfl ?_
  refine va_bast hx hb hK hP hD hS 1 2 rfl rfl (k_in (by decide)) dX11_feedOne_36 (fun H locs hP hD hS => ?_)
  have hP : va_P D vwCl [(h0, .inr (11, f0)), (h1, .inl (cB, 2000, .inl (upd g0 16 (vp_nar .byte (Int8.toInt32 (Int32.toInt8 (x0 >>> (24 &&& 31))))))))] H := hP
  have hD : va_D A [(h0, .inr (11, f0)), (h1, .inl (cB, 2000, .inl (upd g0 16 (vp_nar .byte (Int8.toInt32 (Int32.toInt8 (x0 >>> (24 &&& 31))))))))] := hD
  refine lv_aload_n hx hb dX11_feedOne_37 rfl (lv_at hl 1 rfl) ?_
  refine lv_dup hx hb dX11_feedOne_38 rfl ?_
  refine k_get (D := D) (ci := 11) (v := .int 16) (N := 15) hx hb hts hin11 hown hK hP 0 rfl rfl (by decide) f9_11_12 (hts (.fieldLink RX11 102 "IntegerHouse" "tapeLength" "I") (o9_X11_feedOne _ (List.mem_of_getElem? (i := 0) rfl))) e0 dX11_feedOne_39 ?_
  refine lv_iconst (v := 1) hx hb dX11_feedOne_42 (by decide) ?_
  refine lv_iadd hx hb dX11_feedOne_43 ?_
  refine k_topi (y := 17) (by decide) ?_
  refine k_put (D := D) (ci := 11) (v := .int 17) (ty := .int) (N := 15) hx hb hts hin11 tyX11 tyX11_ok nmX11 hown hK hP hD hS 0 rfl rfl (by decide) f9_11_12 (hts (.fieldLink RX11 102 "IntegerHouse" "tapeLength" "I") (o9_X11_feedOne _ (List.mem_of_getElem? (i := 0) rfl))) rfl pd_2 rfl rfl (k_len e0) dX11_feedOne_44 (fun H locs hP hD hS => ?_)
  have hP : va_P D vwCl [(h0, .inr (11, (f0.set 12 (.int 17)))), (h1, .inl (cB, 2000, .inl (upd g0 16 (vp_nar .byte (Int8.toInt32 (Int32.toInt8 (x0 >>> (24 &&& 31))))))))] H := hP
  have hD : va_D A [(h0, .inr (11, (f0.set 12 (.int 17)))), (h1, .inl (cB, 2000, .inl (upd g0 16 (vp_nar .byte (Int8.toInt32 (Int32.toInt8 (x0 >>> (24 &&& 31))))))))] := hD
  refine lv_iinc (v := 16) (lv' := [(2, .int 16), (0, .ref h0), (1, .int x0)]) hx hb dX11_feedOne_47 hl (k := 0) rfl (by decide) (by decide) rfl (fun ls hl => ?_)
  refine lv_goto (tgt := 3) hx hb dX11_feedOne_50 (by decide) ?_
  refine lv_iload_n hx hb dX11_feedOne_3 rfl (lv_at hl 0 rfl) ?_
  refine lv_if_lt (tgt := 53) hx hb dX11_feedOne_4 (by decide) (fun c9 => absurd c9 (by decide)) (fun _ => ?_)
  refine lv_aload_n hx hb dX11_feedOne_7 rfl (lv_at hl 1 rfl) ?_
  refine k_get (D := D) (ci := 11) (v := .int 17) (N := 15) hx hb hts hin11 hown hK hP 0 rfl rfl (by decide) f9_11_12 (hts (.fieldLink RX11 102 "IntegerHouse" "tapeLength" "I") (o9_X11_feedOne _ (List.mem_of_getElem? (i := 0) rfl))) (k_set e0) dX11_feedOne_8 ?_
  refine lv_if_lt (tgt := 47) hx hb dX11_feedOne_11 (by decide) (fun c9 => absurd c9 (by decide)) (fun _ => ?_)
  refine lv_aload_n hx hb dX11_feedOne_14 rfl (lv_at hl 1 rfl) ?_
  refine k_get (D := D) (ci := 11) (v := .int 17) (N := 15) hx hb hts hin11 hown hK hP 0 rfl rfl (by decide) f9_11_12 (hts (.fieldLink RX11 102 "IntegerHouse" "tapeLength" "I") (o9_X11_feedOne _ (List.mem_of_getElem? (i := 0) rfl))) (k_set e0) dX11_feedOne_15 ?_
  refine lv_sipush (v := 2000) hx hb dX11_feedOne_18 (by decide) ?_
  refine lv_icmp_ge (tgt := 47) hx hb dX11_feedOne_21 (by decide) (fun c9 => absurd c9 (by decide)) (fun _ => ?_)
  refine lv_aload_n hx hb dX11_feedOne_24 rfl (lv_at hl 1 rfl) ?_
  refine k_get (D := D) (ci := 11) (v := .ref h1) (N := 15) hx hb hts hin11 hown hK hP 0 rfl rfl (by decide) f9_11_0 (hts (.fieldLink RX11 9 "IntegerHouse" "tape" "[B") (o9_X11_feedOne _ (List.mem_of_getElem? (i := 1) rfl))) (k_ne (by decide) e1) dX11_feedOne_25 ?_
  refine lv_aload_n hx hb dX11_feedOne_28 rfl (lv_at hl 1 rfl) ?_
  refine k_get (D := D) (ci := 11) (v := .int 17) (N := 15) hx hb hts hin11 hown hK hP 0 rfl rfl (by decide) f9_11_12 (hts (.fieldLink RX11 102 "IntegerHouse" "tapeLength" "I") (o9_X11_feedOne _ (List.mem_of_getElem? (i := 0) rfl))) (k_set e0) dX11_feedOne_29 ?_
  refine lv_iload_n hx hb dX11_feedOne_32 rfl (lv_at hl 2 rfl) ?_
  refine lv_iload_n hx hb dX11_feedOne_33 rfl (lv_at hl 0 rfl) ?_
  refine lv_ishr hx hb dX11_feedOne_34 ?_
  refine lv_i2b (v := (Int8.toInt32 (Int32.toInt8 (x0 >>> (16 &&& 31))))) hx hb dX11_feedOne_35 rfl ?_
  refine va_bast hx hb hK hP hD hS 1 2 rfl rfl (k_in (by decide)) dX11_feedOne_36 (fun H locs hP hD hS => ?_)
  have hP : va_P D vwCl [(h0, .inr (11, (f0.set 12 (.int 17)))), (h1, .inl (cB, 2000, .inl (upd (upd g0 16 (vp_nar .byte (Int8.toInt32 (Int32.toInt8 (x0 >>> (24 &&& 31)))))) 17 (vp_nar .byte (Int8.toInt32 (Int32.toInt8 (x0 >>> (16 &&& 31))))))))] H := hP
  have hD : va_D A [(h0, .inr (11, (f0.set 12 (.int 17)))), (h1, .inl (cB, 2000, .inl (upd (upd g0 16 (vp_nar .byte (Int8.toInt32 (Int32.toInt8 (x0 >>> (24 &&& 31)))))) 17 (vp_nar .byte (Int8.toInt32 (Int32.toInt8 (x0 >>> (16 &&& 31))))))))] := hD
  refine lv_aload_n hx hb dX11_feedOne_37 rfl (lv_at hl 1 rfl) ?_
  refine lv_dup hx hb dX11_feedOne_38 rfl ?_
  refine k_get (D := D) (ci := 11) (v := .int 17) (N := 15) hx hb hts hin11 hown hK hP 0 rfl rfl (by decide) f9_11_12 (hts (.fieldLink RX11 102 "IntegerHouse" "tapeLength" "I") (o9_X11_feedOne _ (List.mem_of_getElem? (i := 0) rfl))) (k_set e0) dX11_feedOne_39 ?_
  refine lv_iconst (v := 1) hx hb dX11_feedOne_42 (by decide) ?_
  refine lv_iadd hx hb dX11_feedOne_43 ?_
  refine k_topi (y := 18) (by decide) ?_
  refine k_put (D := D) (ci := 11) (v := .int 18) (ty := .int) (N := 15) hx hb hts hin11 tyX11 tyX11_ok nmX11 hown hK hP hD hS 0 rfl rfl (by decide) f9_11_12 (hts (.fieldLink RX11 102 "IntegerHouse" "tapeLength" "I") (o9_X11_feedOne _ (List.mem_of_getElem? (i := 0) rfl))) rfl pd_2 rfl rfl (k_len (k_set e0)) dX11_feedOne_44 (fun H locs hP hD hS => ?_)
  have hP : va_P D vwCl [(h0, .inr (11, ((f0.set 12 (.int 17)).set 12 (.int 18)))), (h1, .inl (cB, 2000, .inl (upd (upd g0 16 (vp_nar .byte (Int8.toInt32 (Int32.toInt8 (x0 >>> (24 &&& 31)))))) 17 (vp_nar .byte (Int8.toInt32 (Int32.toInt8 (x0 >>> (16 &&& 31))))))))] H := hP
  have hD : va_D A [(h0, .inr (11, ((f0.set 12 (.int 17)).set 12 (.int 18)))), (h1, .inl (cB, 2000, .inl (upd (upd g0 16 (vp_nar .byte (Int8.toInt32 (Int32.toInt8 (x0 >>> (24 &&& 31)))))) 17 (vp_nar .byte (Int8.toInt32 (Int32.toInt8 (x0 >>> (16 &&& 31))))))))] := hD
  refine lv_iinc (v := 8) (lv' := [(2, .int 8), (0, .ref h0), (1, .int x0)]) hx hb dX11_feedOne_47 hl (k := 0) rfl (by decide) (by decide) rfl (fun ls hl => ?_)
  refine lv_goto (tgt := 3) hx hb dX11_feedOne_50 (by decide) ?_
  refine lv_iload_n hx hb dX11_feedOne_3 rfl (lv_at hl 0 rfl) ?_
  refine lv_if_lt (tgt := 53) hx hb dX11_feedOne_4 (by decide) (fun c9 => absurd c9 (by decide)) (fun _ => ?_)
  refine lv_aload_n hx hb dX11_feedOne_7 rfl (lv_at hl 1 rfl) ?_
  refine k_get (D := D) (ci := 11) (v := .int 18) (N := 15) hx hb hts hin11 hown hK hP 0 rfl rfl (by decide) f9_11_12 (hts (.fieldLink RX11 102 "IntegerHouse" "tapeLength" "I") (o9_X11_feedOne _ (List.mem_of_getElem? (i := 0) rfl))) (k_set (k_set e0)) dX11_feedOne_8 ?_
  refine lv_if_lt (tgt := 47) hx hb dX11_feedOne_11 (by decide) (fun c9 => absurd c9 (by decide)) (fun _ => ?_)
  refine lv_aload_n hx hb dX11_feedOne_14 rfl (lv_at hl 1 rfl) ?_
  refine k_get (D := D) (ci := 11) (v := .int 18) (N := 15) hx hb hts hin11 hown hK hP 0 rfl rfl (by decide) f9_11_12 (hts (.fieldLink RX11 102 "IntegerHouse" "tapeLength" "I") (o9_X11_feedOne _ (List.mem_of_getElem? (i := 0) rfl))) (k_set (k_set e0)) dX11_feedOne_15 ?_
  refine lv_sipush (v := 2000) hx hb dX11_feedOne_18 (by decide) ?_
  refine lv_icmp_ge (tgt := 47) hx hb dX11_feedOne_21 (by decide) (fun c9 => absurd c9 (by decide)) (fun _ => ?_)
  refine lv_aload_n hx hb dX11_feedOne_24 rfl (lv_at hl 1 rfl) ?_
  refine k_get (D := D) (ci := 11) (v := .ref h1) (N := 15) hx hb hts hin11 hown hK hP 0 rfl rfl (by decide) f9_11_0 (hts (.fieldLink RX11 9 "IntegerHouse" "tape" "[B") (o9_X11_feedOne _ (List.mem_of_getElem? (i := 1) rfl))) (k_ne (by decide) (k_ne (by decide) e1)) dX11_feedOne_25 ?_
  refine lv_aload_n hx hb dX11_feedOne_28 rfl (lv_at hl 1 rfl) ?_
  refine k_get (D := D) (ci := 11) (v := .int 18) (N := 15) hx hb hts hin11 hown hK hP 0 rfl rfl (by decide) f9_11_12 (hts (.fieldLink RX11 102 "IntegerHouse" "tapeLength" "I") (o9_X11_feedOne _ (List.mem_of_getElem? (i := 0) rfl))) (k_set (k_set e0)) dX11_feedOne_29 ?_
  refine lv_iload_n hx hb dX11_feedOne_32 rfl (lv_at hl 2 rfl) ?_
  refine lv_iload_n hx hb dX11_feedOne_33 rfl (lv_at hl 0 rfl) ?_
  refine lv_ishr hx hb dX11_feedOne_34 ?_
  refine lv_i2b (v := (Int8.toInt32 (Int32.toInt8 (x0 >>> (8 &&& 31))))) hx hb dX11_feedOne_35 rfl ?_
  refine va_bast hx hb hK hP hD hS 1 2 rfl rfl (k_in (by decide)) dX11_feedOne_36 (fun H locs hP hD hS => ?_)
  have hP : va_P D vwCl [(h0, .inr (11, ((f0.set 12 (.int 17)).set 12 (.int 18)))), (h1, .inl (cB, 2000, .inl (upd (upd (upd g0 16 (vp_nar .byte (Int8.toInt32 (Int32.toInt8 (x0 >>> (24 &&& 31)))))) 17 (vp_nar .byte (Int8.toInt32 (Int32.toInt8 (x0 >>> (16 &&& 31)))))) 18 (vp_nar .byte (Int8.toInt32 (Int32.toInt8 (x0 >>> (8 &&& 31))))))))] H := hP
  have hD : va_D A [(h0, .inr (11, ((f0.set 12 (.int 17)).set 12 (.int 18)))), (h1, .inl (cB, 2000, .inl (upd (upd (upd g0 16 (vp_nar .byte (Int8.toInt32 (Int32.toInt8 (x0 >>> (24 &&& 31)))))) 17 (vp_nar .byte (Int8.toInt32 (Int32.toInt8 (x0 >>> (16 &&& 31)))))) 18 (vp_nar .byte (Int8.toInt32 (Int32.toInt8 (x0 >>> (8 &&& 31))))))))] := hD
  refine lv_aload_n hx hb dX11_feedOne_37 rfl (lv_at hl 1 rfl) ?_
  refine lv_dup hx hb dX11_feedOne_38 rfl ?_
  refine k_get (D := D) (ci := 11) (v := .int 18) (N := 15) hx hb hts hin11 hown hK hP 0 rfl rfl (by decide) f9_11_12 (hts (.fieldLink RX11 102 "IntegerHouse" "tapeLength" "I") (o9_X11_feedOne _ (List.mem_of_getElem? (i := 0) rfl))) (k_set (k_set e0)) dX11_feedOne_39 ?_
  refine lv_iconst (v := 1) hx hb dX11_feedOne_42 (by decide) ?_
  refine lv_iadd hx hb dX11_feedOne_43 ?_
  refine k_topi (y := 19) (by decide) ?_
  refine k_put (D := D) (ci := 11) (v := .int 19) (ty := .int) (N := 15) hx hb hts hin11 tyX11 tyX11_ok nmX11 hown hK hP hD hS 0 rfl rfl (by decide) f9_11_12 (hts (.fieldLink RX11 102 "IntegerHouse" "tapeLength" "I") (o9_X11_feedOne _ (List.mem_of_getElem? (i := 0) rfl))) rfl pd_2 rfl rfl (k_len (k_set (k_set e0))) dX11_feedOne_44 (fun H locs hP hD hS => ?_)
  have hP : va_P D vwCl [(h0, .inr (11, (((f0.set 12 (.int 17)).set 12 (.int 18)).set 12 (.int 19)))), (h1, .inl (cB, 2000, .inl (upd (upd (upd g0 16 (vp_nar .byte (Int8.toInt32 (Int32.toInt8 (x0 >>> (24 &&& 31)))))) 17 (vp_nar .byte (Int8.toInt32 (Int32.toInt8 (x0 >>> (16 &&& 31)))))) 18 (vp_nar .byte (Int8.toInt32 (Int32.toInt8 (x0 >>> (8 &&& 31))))))))] H := hP
  have hD : va_D A [(h0, .inr (11, (((f0.set 12 (.int 17)).set 12 (.int 18)).set 12 (.int 19)))), (h1, .inl (cB, 2000, .inl (upd (upd (upd g0 16 (vp_nar .byte (Int8.toInt32 (Int32.toInt8 (x0 >>> (24 &&& 31)))))) 17 (vp_nar .byte (Int8.toInt32 (Int32.toInt8 (x0 >>> (16 &&& 31)))))) 18 (vp_nar .byte (Int8.toInt32 (Int32.toInt8 (x0 >>> (8 &&& 31))))))))] := hD
  refine lv_iinc (v := 0) (lv' := [(2, .int 0), (0, .ref h0), (1, .int x0)]) hx hb dX11_feedOne_47 hl (k := 0) rfl (by decide) (by decide) rfl (fun ls hl => ?_)
  refine lv_goto (tgt := 3) hx hb dX11_feedOne_50 (by decide) ?_
  refine lv_iload_n hx hb dX11_feedOne_3 rfl (lv_at hl 0 rfl) ?_
  refine lv_if_lt (tgt := 53) hx hb dX11_feedOne_4 (by decide) (fun c9 => absurd c9 (by decide)) (fun _ => ?_)
  refine lv_aload_n hx hb dX11_feedOne_7 rfl (lv_at hl 1 rfl) ?_
  refine k_get (D := D) (ci := 11) (v := .int 19) (N := 15) hx hb hts hin11 hown hK hP 0 rfl rfl (by decide) f9_11_12 (hts (.fieldLink RX11 102 "IntegerHouse" "tapeLength" "I") (o9_X11_feedOne _ (List.mem_of_getElem? (i := 0) rfl))) (k_set (k_set (k_set e0))) dX11_feedOne_8 ?_
  refine lv_if_lt (tgt := 47) hx hb dX11_feedOne_11 (by decide) (fun c9 => absurd c9 (by decide)) (fun _ => ?_)
  refine lv_aload_n hx hb dX11_feedOne_14 rfl (lv_at hl 1 rfl) ?_
  refine k_get (D := D) (ci := 11) (v := .int 19) (N := 15) hx hb hts hin11 hown hK hP 0 rfl rfl (by decide) f9_11_12 (hts (.fieldLink RX11 102 "IntegerHouse" "tapeLength" "I") (o9_X11_feedOne _ (List.mem_of_getElem? (i := 0) rfl))) (k_set (k_set (k_set e0))) dX11_feedOne_15 ?_
  refine lv_sipush (v := 2000) hx hb dX11_feedOne_18 (by decide) ?_
  refine lv_icmp_ge (tgt := 47) hx hb dX11_feedOne_21 (by decide) (fun c9 => absurd c9 (by decide)) (fun _ => ?_)
  refine lv_aload_n hx hb dX11_feedOne_24 rfl (lv_at hl 1 rfl) ?_
  refine k_get (D := D) (ci := 11) (v := .ref h1) (N := 15) hx hb hts hin11 hown hK hP 0 rfl rfl (by decide) f9_11_0 (hts (.fieldLink RX11 9 "IntegerHouse" "tape" "[B") (o9_X11_feedOne _ (List.mem_of_getElem? (i := 1) rfl))) (k_ne (by decide) (k_ne (by decide) (k_ne (by decide) e1))) dX11_feedOne_25 ?_
  refine lv_aload_n hx hb dX11_feedOne_28 rfl (lv_at hl 1 rfl) ?_
  refine k_get (D := D) (ci := 11) (v := .int 19) (N := 15) hx hb hts hin11 hown hK hP 0 rfl rfl (by decide) f9_11_12 (hts (.fieldLink RX11 102 "IntegerHouse" "tapeLength" "I") (o9_X11_feedOne _ (List.mem_of_getElem? (i := 0) rfl))) (k_set (k_set (k_set e0))) dX11_feedOne_29 ?_
  refine lv_iload_n hx hb dX11_feedOne_32 rfl (lv_at hl 2 rfl) ?_
  refine lv_iload_n hx hb dX11_feedOne_33 rfl (lv_at hl 0 rfl) ?_
  refine lv_ishr hx hb dX11_feedOne_34 ?_
  refine lv_i2b (v := (Int8.toInt32 (Int32.toInt8 (x0 >>> (0 &&& 31))))) hx hb dX11_feedOne_35 rfl ?_
  refine va_bast hx hb hK hP hD hS 1 2 rfl rfl (k_in (by decide)) dX11_feedOne_36 (fun H locs hP hD hS => ?_)
  have hP : va_P D vwCl [(h0, .inr (11, (((f0.set 12 (.int 17)).set 12 (.int 18)).set 12 (.int 19)))), (h1, .inl (cB, 2000, .inl (upd (upd (upd (upd g0 16 (vp_nar .byte (Int8.toInt32 (Int32.toInt8 (x0 >>> (24 &&& 31)))))) 17 (vp_nar .byte (Int8.toInt32 (Int32.toInt8 (x0 >>> (16 &&& 31)))))) 18 (vp_nar .byte (Int8.toInt32 (Int32.toInt8 (x0 >>> (8 &&& 31)))))) 19 (vp_nar .byte (Int8.toInt32 (Int32.toInt8 (x0 >>> (0 &&& 31))))))))] H := hP
  have hD : va_D A [(h0, .inr (11, (((f0.set 12 (.int 17)).set 12 (.int 18)).set 12 (.int 19)))), (h1, .inl (cB, 2000, .inl (upd (upd (upd (upd g0 16 (vp_nar .byte (Int8.toInt32 (Int32.toInt8 (x0 >>> (24 &&& 31)))))) 17 (vp_nar .byte (Int8.toInt32 (Int32.toInt8 (x0 >>> (16 &&& 31)))))) 18 (vp_nar .byte (Int8.toInt32 (Int32.toInt8 (x0 >>> (8 &&& 31)))))) 19 (vp_nar .byte (Int8.toInt32 (Int32.toInt8 (x0 >>> (0 &&& 31))))))))] := hD
  refine lv_aload_n hx hb dX11_feedOne_37 rfl (lv_at hl 1 rfl) ?_
  refine lv_dup hx hb dX11_feedOne_38 rfl ?_
  refine k_get (D := D) (ci := 11) (v := .int 19) (N := 15) hx hb hts hin11 hown hK hP 0 rfl rfl (by decide) f9_11_12 (hts (.fieldLink RX11 102 "IntegerHouse" "tapeLength" "I") (o9_X11_feedOne _ (List.mem_of_getElem? (i := 0) rfl))) (k_set (k_set (k_set e0))) dX11_feedOne_39 ?_
  refine lv_iconst (v := 1) hx hb dX11_feedOne_42 (by decide) ?_
  refine lv_iadd hx hb dX11_feedOne_43 ?_
  refine k_topi (y := 20) (by decide) ?_
  refine k_put (D := D) (ci := 11) (v := .int 20) (ty := .int) (N := 15) hx hb hts hin11 tyX11 tyX11_ok nmX11 hown hK hP hD hS 0 rfl rfl (by decide) f9_11_12 (hts (.fieldLink RX11 102 "IntegerHouse" "tapeLength" "I") (o9_X11_feedOne _ (List.mem_of_getElem? (i := 0) rfl))) rfl pd_2 rfl rfl (k_len (k_set (k_set (k_set e0)))) dX11_feedOne_44 (fun H locs hP hD hS => ?_)
  have hP : va_P D vwCl [(h0, .inr (11, ((((f0.set 12 (.int 17)).set 12 (.int 18)).set 12 (.int 19)).set 12 (.int 20)))), (h1, .inl (cB, 2000, .inl (upd (upd (upd (upd g0 16 (vp_nar .byte (Int8.toInt32 (Int32.toInt8 (x0 >>> (24 &&& 31)))))) 17 (vp_nar .byte (Int8.toInt32 (Int32.toInt8 (x0 >>> (16 &&& 31)))))) 18 (vp_nar .byte (Int8.toInt32 (Int32.toInt8 (x0 >>> (8 &&& 31)))))) 19 (vp_nar .byte (Int8.toInt32 (Int32.toInt8 (x0 >>> (0 &&& 31))))))))] H := hP
  have hD : va_D A [(h0, .inr (11, ((((f0.set 12 (.int 17)).set 12 (.int 18)).set 12 (.int 19)).set 12 (.int 20)))), (h1, .inl (cB, 2000, .inl (upd (upd (upd (upd g0 16 (vp_nar .byte (Int8.toInt32 (Int32.toInt8 (x0 >>> (24 &&& 31)))))) 17 (vp_nar .byte (Int8.toInt32 (Int32.toInt8 (x0 >>> (16 &&& 31)))))) 18 (vp_nar .byte (Int8.toInt32 (Int32.toInt8 (x0 >>> (8 &&& 31)))))) 19 (vp_nar .byte (Int8.toInt32 (Int32.toInt8 (x0 >>> (0 &&& 31))))))))] := hD
  refine lv_iinc (v := (-8)) (lv' := [(2, .int (-8)), (0, .ref h0), (1, .int x0)]) hx hb dX11_feedOne_47 hl (k := 0) rfl (by decide) (by decide) rfl (fun ls hl => ?_)
  refine lv_goto (tgt := 3) hx hb dX11_feedOne_50 (by decide) ?_
  refine lv_iload_n hx hb dX11_feedOne_3 rfl (lv_at hl 0 rfl) ?_
  refine lv_if_lt (tgt := 53) hx hb dX11_feedOne_4 (by decide) (fun _ => ?_) (fun c9 => absurd (by decide) c9)
  exact W.vret hx hb hr (fun t ht hW => ⟨⟨(), rfl, trivial, kB_mk ht hW hP hK hD⟩, hS.F ht⟩) hS.2.2 dX11_feedOne_53
set_option maxHeartbeats 400000000 in
set_option maxRecDepth 100000 in
theorem c_X11_feed_0 (l : Launch) (E : kE) (D : va_G) (cI cJ cB cZ : ClassId) (h0 : Nat) (x0 : Int32) (x1 : Int32) (x2 : Int32) (x3 : Int32) (x4 : Int32) (f0 : List Value) (h1 : Nat) (g0 : Nat → Int32) (e0 : f0[12]? = some (.int 0)) (e1 : f0[0]? = some (.ref h1)) : kI l E D (kT cI cJ cB cZ) yX11_feed vW_X11_feed ({ frames := 1, cells := 0, slots := 0, locals := 22 }) [.ref h0, .int x0, .int x1, .int x2, .int x3, .int x4] [(h0, .inr (11, f0)), (h1, .inl (cB, 2000, .inl g0))] (20) [(h0, .inr (11, ((((((((((((((((((((f0.set 12 (.int 1)).set 12 (.int 2)).set 12 (.int 3)).set 12 (.int 4)).set 12 (.int 5)).set 12 (.int 6)).set 12 (.int 7)).set 12 (.int 8)).set 12 (.int 9)).set 12 (.int 10)).set 12 (.int 11)).set 12 (.int 12)).set 12 (.int 13)).set 12 (.int 14)).set 12 (.int 15)).set 12 (.int 16)).set 12 (.int 17)).set 12 (.int 18)).set 12 (.int 19)).set 12 (.int 20)))), (h1, .inl (cB, 2000, .inl (upd (upd (upd (upd (upd (upd (upd (upd (upd (upd (upd (upd (upd (upd (upd (upd (upd (upd (upd (upd g0 0 (vp_nar .byte (Int8.toInt32 (Int32.toInt8 (x0 >>> (24 &&& 31)))))) 1 (vp_nar .byte (Int8.toInt32 (Int32.toInt8 (x0 >>> (16 &&& 31)))))) 2 (vp_nar .byte (Int8.toInt32 (Int32.toInt8 (x0 >>> (8 &&& 31)))))) 3 (vp_nar .byte (Int8.toInt32 (Int32.toInt8 (x0 >>> (0 &&& 31)))))) 4 (vp_nar .byte (Int8.toInt32 (Int32.toInt8 (x1 >>> (24 &&& 31)))))) 5 (vp_nar .byte (Int8.toInt32 (Int32.toInt8 (x1 >>> (16 &&& 31)))))) 6 (vp_nar .byte (Int8.toInt32 (Int32.toInt8 (x1 >>> (8 &&& 31)))))) 7 (vp_nar .byte (Int8.toInt32 (Int32.toInt8 (x1 >>> (0 &&& 31)))))) 8 (vp_nar .byte (Int8.toInt32 (Int32.toInt8 (x2 >>> (24 &&& 31)))))) 9 (vp_nar .byte (Int8.toInt32 (Int32.toInt8 (x2 >>> (16 &&& 31)))))) 10 (vp_nar .byte (Int8.toInt32 (Int32.toInt8 (x2 >>> (8 &&& 31)))))) 11 (vp_nar .byte (Int8.toInt32 (Int32.toInt8 (x2 >>> (0 &&& 31)))))) 12 (vp_nar .byte (Int8.toInt32 (Int32.toInt8 (x3 >>> (24 &&& 31)))))) 13 (vp_nar .byte (Int8.toInt32 (Int32.toInt8 (x3 >>> (16 &&& 31)))))) 14 (vp_nar .byte (Int8.toInt32 (Int32.toInt8 (x3 >>> (8 &&& 31)))))) 15 (vp_nar .byte (Int8.toInt32 (Int32.toInt8 (x3 >>> (0 &&& 31)))))) 16 (vp_nar .byte (Int8.toInt32 (Int32.toInt8 (x4 >>> (24 &&& 31)))))) 17 (vp_nar .byte (Int8.toInt32 (Int32.toInt8 (x4 >>> (16 &&& 31)))))) 18 (vp_nar .byte (Int8.toInt32 (Int32.toInt8 (x4 >>> (8 &&& 31)))))) 19 (vp_nar .byte (Int8.toInt32 (Int32.toInt8 (x4 >>> (0 &&& 31))))))))] 0 0 := by
  intro sz
  refine Met.ofW (cc := cX11_feed) (maxL := 6) (ret := (some .int)) (by decide) rfl ?_
  intro p e s m args below meth c s₁ B hml hv
  obtain ⟨rfl, hsz, hP, hK, hD0, hN, hX⟩ := hv
  have hx := B.exec
  have hb := B.bytes
  have hr := B.returns
  have hts := atoms_spec (ws := vW_X11_feed) B.pre
  have hown : s.vm.findClass RX11 = some m.cls := findClass_of_methodNamed B.named
  have hlocks := B.notSynchronized
  have hin11 : ∀ w ∈ wsX110, w ∈ vW_X11_feed := u9_X11_feed_wsX110
  subst hsz
  have hD := hD0.self (sz := s.heap.size)
  have hAE := k_AE hD0 hX
  generalize hAe : va_A [(h0, .inr (11, f0)), (h1, .inl (cB, 2000, .inl g0))] s.heap.size = A at hD hAE ⊢
  have hA : ∀ q : Nat, s.heap.size ≤ q → A q := fun q h => by rw [← hAe]; exact Or.inr h
  have hS : va_S A s.heap s.heap [] := va_S.rf
  have hP : va_P D vwCl [(h0, .inr (11, f0)), (h1, .inl (cB, 2000, .inl g0))] s.heap := hP
  have hl := lv_entry ([.ref h0, .int x0, .int x1, .int x2, .int x3, .int x4] : List Value) (n := 6) (Nat.le_of_ble_eq_true rfl)
  rw [lg_entry_eq]
  generalize (lg_sl ([.ref h0, .int x0, .int x1, .int x2, .int x3, .int x4]) ++ List.replicate (6 - (lg_sl ([.ref h0, .int x0, .int x1, .int x2, .int x3, .int x4])).length) Slot.unset).toArray = ls at hl ⊢
  have hl : lv_has ls 6 [(0, .ref h0), (1, .int x0), (2, .int x1), (3, .int x2), (4, .int x3), (5, .int x4)] := hl
  refine lv_aload_n hx hb dX11_feed_0 rfl (lv_at hl 0 rfl) ?_
  refine k_get (D := D) (ci := 11) (v := .int 0) (N := 15) hx hb hts hin11 hown hK hP 0 rfl rfl (by decide) f9_11_12 (hts (.fieldLink RX11 102 "IntegerHouse" "tapeLength" "I") (o9_X11_feed _ (List.mem_of_getElem? (i := 0) rfl))) e0 dX11_feed_1 ?_
  refine lv_sipush (v := 1980) hx hb dX11_feed_4 (by decide) ?_
  refine lv_icmp_le (tgt := 20) hx hb dX11_feed_7 (by decide) (fun _ => ?_) (fun c9 => absurd (by decide) c9)
  refine lv_aload_n hx hb dX11_feed_20 rfl (lv_at hl 0 rfl) ?_
  refine lv_iload_n hx hb dX11_feed_21 rfl (lv_at hl 1 rfl) ?_
  refine k_cVv (As := [.int x0]) (rest := []) (wc := [(h0, .inr (11, f0)), (h1, .inl (cB, 2000, .inl g0))]) (wr := []) (w1 := (fun _ : Unit => [(h0, .inr (11, ((((f0.set 12 (.int 1)).set 12 (.int 2)).set 12 (.int 3)).set 12 (.int 4)))), (h1, .inl (cB, 2000, .inl (upd (upd (upd (upd g0 0 (vp_nar .byte (Int8.toInt32 (Int32.toInt8 (x0 >>> (24 &&& 31)))))) 1 (vp_nar .byte (Int8.toInt32 (Int32.toInt8 (x0 >>> (16 &&& 31)))))) 2 (vp_nar .byte (Int8.toInt32 (Int32.toInt8 (x0 >>> (8 &&& 31)))))) 3 (vp_nar .byte (Int8.toInt32 (Int32.toInt8 (x0 >>> (0 &&& 31))))))))])) ⟨hx, hb, hml, hown, hts⟩ hN hX hAE hK hP hD hS hA [0, 1] [] (ci := 11) rfl rfl rfl rfl (by decide +kernel) (by decide +kernel) (by decide +kernel) (c_X11_feedOne_0 l E D cI cJ cB cZ h0 x0 f0 h1 g0 e0 e1) (cwV 1 hts g9_X11_feed_X11_feedOne_113 rfl rfl rfl (by decide +kernel) ⟨Nat.le_of_ble_eq_true rfl, Nat.le_of_ble_eq_true rfl⟩) rfl hl.1 (Nat.le_of_ble_eq_true rfl) dX11_feed_22 ⟨Nat.le_of_ble_eq_true rfl, Nat.le_of_ble_eq_true rfl⟩ (fun _ H locs hP hD hS => ?_)
  have hP : va_P D vwCl [(h0, .inr (11, ((((f0.set 12 (.int 1)).set 12 (.int 2)).set 12 (.int 3)).set 12 (.int 4)))), (h1, .inl (cB, 2000, .inl (upd (upd (upd (upd g0 0 (vp_nar .byte (Int8.toInt32 (Int32.toInt8 (x0 >>> (24 &&& 31)))))) 1 (vp_nar .byte (Int8.toInt32 (Int32.toInt8 (x0 >>> (16 &&& 31)))))) 2 (vp_nar .byte (Int8.toInt32 (Int32.toInt8 (x0 >>> (8 &&& 31)))))) 3 (vp_nar .byte (Int8.toInt32 (Int32.toInt8 (x0 >>> (0 &&& 31))))))))] H := hP
  have hD : va_D A [(h0, .inr (11, ((((f0.set 12 (.int 1)).set 12 (.int 2)).set 12 (.int 3)).set 12 (.int 4)))), (h1, .inl (cB, 2000, .inl (upd (upd (upd (upd g0 0 (vp_nar .byte (Int8.toInt32 (Int32.toInt8 (x0 >>> (24 &&& 31)))))) 1 (vp_nar .byte (Int8.toInt32 (Int32.toInt8 (x0 >>> (16 &&& 31)))))) 2 (vp_nar .byte (Int8.toInt32 (Int32.toInt8 (x0 >>> (8 &&& 31)))))) 3 (vp_nar .byte (Int8.toInt32 (Int32.toInt8 (x0 >>> (0 &&& 31))))))))] := hD
  refine lv_aload_n hx hb dX11_feed_25 rfl (lv_at hl 0 rfl) ?_
  refine lv_iload_n hx hb dX11_feed_26 rfl (lv_at hl 2 rfl) ?_
  refine k_cVv (As := [.int x1]) (rest := []) (wc := [(h0, .inr (11, ((((f0.set 12 (.int 1)).set 12 (.int 2)).set 12 (.int 3)).set 12 (.int 4)))), (h1, .inl (cB, 2000, .inl (upd (upd (upd (upd g0 0 (vp_nar .byte (Int8.toInt32 (Int32.toInt8 (x0 >>> (24 &&& 31)))))) 1 (vp_nar .byte (Int8.toInt32 (Int32.toInt8 (x0 >>> (16 &&& 31)))))) 2 (vp_nar .byte (Int8.toInt32 (Int32.toInt8 (x0 >>> (8 &&& 31)))))) 3 (vp_nar .byte (Int8.toInt32 (Int32.toInt8 (x0 >>> (0 &&& 31))))))))]) (wr := []) (w1 := (fun _ : Unit => [(h0, .inr (11, ((((((((f0.set 12 (.int 1)).set 12 (.int 2)).set 12 (.int 3)).set 12 (.int 4)).set 12 (.int 5)).set 12 (.int 6)).set 12 (.int 7)).set 12 (.int 8)))), (h1, .inl (cB, 2000, .inl (upd (upd (upd (upd (upd (upd (upd (upd g0 0 (vp_nar .byte (Int8.toInt32 (Int32.toInt8 (x0 >>> (24 &&& 31)))))) 1 (vp_nar .byte (Int8.toInt32 (Int32.toInt8 (x0 >>> (16 &&& 31)))))) 2 (vp_nar .byte (Int8.toInt32 (Int32.toInt8 (x0 >>> (8 &&& 31)))))) 3 (vp_nar .byte (Int8.toInt32 (Int32.toInt8 (x0 >>> (0 &&& 31)))))) 4 (vp_nar .byte (Int8.toInt32 (Int32.toInt8 (x1 >>> (24 &&& 31)))))) 5 (vp_nar .byte (Int8.toInt32 (Int32.toInt8 (x1 >>> (16 &&& 31)))))) 6 (vp_nar .byte (Int8.toInt32 (Int32.toInt8 (x1 >>> (8 &&& 31)))))) 7 (vp_nar .byte (Int8.toInt32 (Int32.toInt8 (x1 >>> (0 &&& 31))))))))])) ⟨hx, hb, hml, hown, hts⟩ hN hX hAE hK hP hD hS hA [0, 1] [] (ci := 11) rfl rfl rfl rfl (by decide +kernel) (by decide +kernel) (by decide +kernel) (c_X11_feedOne_1 l E D cI cJ cB cZ h0 x1 (((((f0.set 12 (.int 1)).set 12 (.int 2)).set 12 (.int 3)).set 12 (.int 4))) h1 ((upd (upd (upd (upd g0 0 (vp_nar .byte (Int8.toInt32 (Int32.toInt8 (x0 >>> (24 &&& 31)))))) 1 (vp_nar .byte (Int8.toInt32 (Int32.toInt8 (x0 >>> (16 &&& 31)))))) 2 (vp_nar .byte (Int8.toInt32 (Int32.toInt8 (x0 >>> (8 &&& 31)))))) 3 (vp_nar .byte (Int8.toInt32 (Int32.toInt8 (x0 >>> (0 &&& 31))))))) (k_set (k_set (k_set (k_set e0)))) (k_ne (by decide) (k_ne (by decide) (k_ne (by decide) (k_ne (by decide) e1))))) (cwV 1 hts g9_X11_feed_X11_feedOne_113 rfl rfl rfl (by decide +kernel) ⟨Nat.le_of_ble_eq_true rfl, Nat.le_of_ble_eq_true rfl⟩) rfl hl.1 (Nat.le_of_ble_eq_true rfl) dX11_feed_27 ⟨Nat.le_of_ble_eq_true rfl, Nat.le_of_ble_eq_true rfl⟩ (fun _ H locs hP hD hS => ?_)
  have hP : va_P D vwCl [(h0, .inr (11, ((((((((f0.set 12 (.int 1)).set 12 (.int 2)).set 12 (.int 3)).set 12 (.int 4)).set 12 (.int 5)).set 12 (.int 6)).set 12 (.int 7)).set 12 (.int 8)))), (h1, .inl (cB, 2000, .inl (upd (upd (upd (upd (upd (upd (upd (upd g0 0 (vp_nar .byte (Int8.toInt32 (Int32.toInt8 (x0 >>> (24 &&& 31)))))) 1 (vp_nar .byte (Int8.toInt32 (Int32.toInt8 (x0 >>> (16 &&& 31)))))) 2 (vp_nar .byte (Int8.toInt32 (Int32.toInt8 (x0 >>> (8 &&& 31)))))) 3 (vp_nar .byte (Int8.toInt32 (Int32.toInt8 (x0 >>> (0 &&& 31)))))) 4 (vp_nar .byte (Int8.toInt32 (Int32.toInt8 (x1 >>> (24 &&& 31)))))) 5 (vp_nar .byte (Int8.toInt32 (Int32.toInt8 (x1 >>> (16 &&& 31)))))) 6 (vp_nar .byte (Int8.toInt32 (Int32.toInt8 (x1 >>> (8 &&& 31)))))) 7 (vp_nar .byte (Int8.toInt32 (Int32.toInt8 (x1 >>> (0 &&& 31))))))))] H := hP
  have hD : va_D A [(h0, .inr (11, ((((((((f0.set 12 (.int 1)).set 12 (.int 2)).set 12 (.int 3)).set 12 (.int 4)).set 12 (.int 5)).set 12 (.int 6)).set 12 (.int 7)).set 12 (.int 8)))), (h1, .inl (cB, 2000, .inl (upd (upd (upd (upd (upd (upd (upd (upd g0 0 (vp_nar .byte (Int8.toInt32 (Int32.toInt8 (x0 >>> (24 &&& 31)))))) 1 (vp_nar .byte (Int8.toInt32 (Int32.toInt8 (x0 >>> (16 &&& 31)))))) 2 (vp_nar .byte (Int8.toInt32 (Int32.toInt8 (x0 >>> (8 &&& 31)))))) 3 (vp_nar .byte (Int8.toInt32 (Int32.toInt8 (x0 >>> (0 &&& 31)))))) 4 (vp_nar .byte (Int8.toInt32 (Int32.toInt8 (x1 >>> (24 &&& 31)))))) 5 (vp_nar .byte (Int8.toInt32 (Int32.toInt8 (x1 >>> (16 &&& 31)))))) 6 (vp_nar .byte (Int8.toInt32 (Int32.toInt8 (x1 >>> (8 &&& 31)))))) 7 (vp_nar .byte (Int8.toInt32 (Int32.toInt8 (x1 >>> (0 &&& 31))))))))] := hD
  refine lv_aload_n hx hb dX11_feed_30 rfl (lv_at hl 0 rfl) ?_
  refine lv_iload_n hx hb dX11_feed_31 rfl (lv_at hl 3 rfl) ?_
  refine k_cVv (As := [.int x2]) (rest := []) (wc := [(h0, .inr (11, ((((((((f0.set 12 (.int 1)).set 12 (.int 2)).set 12 (.int 3)).set 12 (.int 4)).set 12 (.int 5)).set 12 (.int 6)).set 12 (.int 7)).set 12 (.int 8)))), (h1, .inl (cB, 2000, .inl (upd (upd (upd (upd (upd (upd (upd (upd g0 0 (vp_nar .byte (Int8.toInt32 (Int32.toInt8 (x0 >>> (24 &&& 31)))))) 1 (vp_nar .byte (Int8.toInt32 (Int32.toInt8 (x0 >>> (16 &&& 31)))))) 2 (vp_nar .byte (Int8.toInt32 (Int32.toInt8 (x0 >>> (8 &&& 31)))))) 3 (vp_nar .byte (Int8.toInt32 (Int32.toInt8 (x0 >>> (0 &&& 31)))))) 4 (vp_nar .byte (Int8.toInt32 (Int32.toInt8 (x1 >>> (24 &&& 31)))))) 5 (vp_nar .byte (Int8.toInt32 (Int32.toInt8 (x1 >>> (16 &&& 31)))))) 6 (vp_nar .byte (Int8.toInt32 (Int32.toInt8 (x1 >>> (8 &&& 31)))))) 7 (vp_nar .byte (Int8.toInt32 (Int32.toInt8 (x1 >>> (0 &&& 31))))))))]) (wr := []) (w1 := (fun _ : Unit => [(h0, .inr (11, ((((((((((((f0.set 12 (.int 1)).set 12 (.int 2)).set 12 (.int 3)).set 12 (.int 4)).set 12 (.int 5)).set 12 (.int 6)).set 12 (.int 7)).set 12 (.int 8)).set 12 (.int 9)).set 12 (.int 10)).set 12 (.int 11)).set 12 (.int 12)))), (h1, .inl (cB, 2000, .inl (upd (upd (upd (upd (upd (upd (upd (upd (upd (upd (upd (upd g0 0 (vp_nar .byte (Int8.toInt32 (Int32.toInt8 (x0 >>> (24 &&& 31)))))) 1 (vp_nar .byte (Int8.toInt32 (Int32.toInt8 (x0 >>> (16 &&& 31)))))) 2 (vp_nar .byte (Int8.toInt32 (Int32.toInt8 (x0 >>> (8 &&& 31)))))) 3 (vp_nar .byte (Int8.toInt32 (Int32.toInt8 (x0 >>> (0 &&& 31)))))) 4 (vp_nar .byte (Int8.toInt32 (Int32.toInt8 (x1 >>> (24 &&& 31)))))) 5 (vp_nar .byte (Int8.toInt32 (Int32.toInt8 (x1 >>> (16 &&& 31)))))) 6 (vp_nar .byte (Int8.toInt32 (Int32.toInt8 (x1 >>> (8 &&& 31)))))) 7 (vp_nar .byte (Int8.toInt32 (Int32.toInt8 (x1 >>> (0 &&& 31)))))) 8 (vp_nar .byte (Int8.toInt32 (Int32.toInt8 (x2 >>> (24 &&& 31)))))) 9 (vp_nar .byte (Int8.toInt32 (Int32.toInt8 (x2 >>> (16 &&& 31)))))) 10 (vp_nar .byte (Int8.toInt32 (Int32.toInt8 (x2 >>> (8 &&& 31)))))) 11 (vp_nar .byte (Int8.toInt32 (Int32.toInt8 (x2 >>> (0 &&& 31))))))))])) ⟨hx, hb, hml, hown, hts⟩ hN hX hAE hK hP hD hS hA [0, 1] [] (ci := 11) rfl rfl rfl rfl (by decide +kernel) (by decide +kernel) (by decide +kernel) (c_X11_feedOne_2 l E D cI cJ cB cZ h0 x2 (((((((((f0.set 12 (.int 1)).set 12 (.int 2)).set 12 (.int 3)).set 12 (.int 4)).set 12 (.int 5)).set 12 (.int 6)).set 12 (.int 7)).set 12 (.int 8))) h1 ((upd (upd (upd (upd (upd (upd (upd (upd g0 0 (vp_nar .byte (Int8.toInt32 (Int32.toInt8 (x0 >>> (24 &&& 31)))))) 1 (vp_nar .byte (Int8.toInt32 (Int32.toInt8 (x0 >>> (16 &&& 31)))))) 2 (vp_nar .byte (Int8.toInt32 (Int32.toInt8 (x0 >>> (8 &&& 31)))))) 3 (vp_nar .byte (Int8.toInt32 (Int32.toInt8 (x0 >>> (0 &&& 31)))))) 4 (vp_nar .byte (Int8.toInt32 (Int32.toInt8 (x1 >>> (24 &&& 31)))))) 5 (vp_nar .byte (Int8.toInt32 (Int32.toInt8 (x1 >>> (16 &&& 31)))))) 6 (vp_nar .byte (Int8.toInt32 (Int32.toInt8 (x1 >>> (8 &&& 31)))))) 7 (vp_nar .byte (Int8.toInt32 (Int32.toInt8 (x1 >>> (0 &&& 31))))))) (k_set (k_set (k_set (k_set (k_set (k_set (k_set (k_set e0)))))))) (k_ne (by decide) (k_ne (by decide) (k_ne (by decide) (k_ne (by decide) (k_ne (by decide) (k_ne (by decide) (k_ne (by decide) (k_ne (by decide) e1))))))))) (cwV 1 hts g9_X11_feed_X11_feedOne_113 rfl rfl rfl (by decide +kernel) ⟨Nat.le_of_ble_eq_true rfl, Nat.le_of_ble_eq_true rfl⟩) rfl hl.1 (Nat.le_of_ble_eq_true rfl) dX11_feed_32 ⟨Nat.le_of_ble_eq_true rfl, Nat.le_of_ble_eq_true rfl⟩ (fun _ H locs hP hD hS => ?_)
  have hP : va_P D vwCl [(h0, .inr (11, ((((((((((((f0.set 12 (.int 1)).set 12 (.int 2)).set 12 (.int 3)).set 12 (.int 4)).set 12 (.int 5)).set 12 (.int 6)).set 12 (.int 7)).set 12 (.int 8)).set 12 (.int 9)).set 12 (.int 10)).set 12 (.int 11)).set 12 (.int 12)))), (h1, .inl (cB, 2000, .inl (upd (upd (upd (upd (upd (upd (upd (upd (upd (upd (upd (upd g0 0 (vp_nar .byte (Int8.toInt32 (Int32.toInt8 (x0 >>> (24 &&& 31)))))) 1 (vp_nar .byte (Int8.toInt32 (Int32.toInt8 (x0 >>> (16 &&& 31)))))) 2 (vp_nar .byte (Int8.toInt32 (Int32.toInt8 (x0 >>> (8 &&& 31)))))) 3 (vp_nar .byte (Int8.toInt32 (Int32.toInt8 (x0 >>> (0 &&& 31)))))) 4 (vp_nar .byte (Int8.toInt32 (Int32.toInt8 (x1 >>> (24 &&& 31)))))) 5 (vp_nar .byte (Int8.toInt32 (Int32.toInt8 (x1 >>> (16 &&& 31)))))) 6 (vp_nar .byte (Int8.toInt32 (Int32.toInt8 (x1 >>> (8 &&& 31)))))) 7 (vp_nar .byte (Int8.toInt32 (Int32.toInt8 (x1 >>> (0 &&& 31)))))) 8 (vp_nar .byte (Int8.toInt32 (Int32.toInt8 (x2 >>> (24 &&& 31)))))) 9 (vp_nar .byte (Int8.toInt32 (Int32.toInt8 (x2 >>> (16 &&& 31)))))) 10 (vp_nar .byte (Int8.toInt32 (Int32.toInt8 (x2 >>> (8 &&& 31)))))) 11 (vp_nar .byte (Int8.toInt32 (Int32.toInt8 (x2 >>> (0 &&& 31))))))))] H := hP
  have hD : va_D A [(h0, .inr (11, ((((((((((((f0.set 12 (.int 1)).set 12 (.int 2)).set 12 (.int 3)).set 12 (.int 4)).set 12 (.int 5)).set 12 (.int 6)).set 12 (.int 7)).set 12 (.int 8)).set 12 (.int 9)).set 12 (.int 10)).set 12 (.int 11)).set 12 (.int 12)))), (h1, .inl (cB, 2000, .inl (upd (upd (upd (upd (upd (upd (upd (upd (upd (upd (upd (upd g0 0 (vp_nar .byte (Int8.toInt32 (Int32.toInt8 (x0 >>> (24 &&& 31)))))) 1 (vp_nar .byte (Int8.toInt32 (Int32.toInt8 (x0 >>> (16 &&& 31)))))) 2 (vp_nar .byte (Int8.toInt32 (Int32.toInt8 (x0 >>> (8 &&& 31)))))) 3 (vp_nar .byte (Int8.toInt32 (Int32.toInt8 (x0 >>> (0 &&& 31)))))) 4 (vp_nar .byte (Int8.toInt32 (Int32.toInt8 (x1 >>> (24 &&& 31)))))) 5 (vp_nar .byte (Int8.toInt32 (Int32.toInt8 (x1 >>> (16 &&& 31)))))) 6 (vp_nar .byte (Int8.toInt32 (Int32.toInt8 (x1 >>> (8 &&& 31)))))) 7 (vp_nar .byte (Int8.toInt32 (Int32.toInt8 (x1 >>> (0 &&& 31)))))) 8 (vp_nar .byte (Int8.toInt32 (Int32.toInt8 (x2 >>> (24 &&& 31)))))) 9 (vp_nar .byte (Int8.toInt32 (Int32.toInt8 (x2 >>> (16 &&& 31)))))) 10 (vp_nar .byte (Int8.toInt32 (Int32.toInt8 (x2 >>> (8 &&& 31)))))) 11 (vp_nar .byte (Int8.toInt32 (Int32.toInt8 (x2 >>> (0 &&& 31))))))))] := hD
  refine lv_aload_n hx hb dX11_feed_35 rfl (lv_at hl 0 rfl) ?_
  refine lv_iload hx hb dX11_feed_36 (lv_at hl 4 rfl) ?_
  refine k_cVv (As := [.int x3]) (rest := []) (wc := [(h0, .inr (11, ((((((((((((f0.set 12 (.int 1)).set 12 (.int 2)).set 12 (.int 3)).set 12 (.int 4)).set 12 (.int 5)).set 12 (.int 6)).set 12 (.int 7)).set 12 (.int 8)).set 12 (.int 9)).set 12 (.int 10)).set 12 (.int 11)).set 12 (.int 12)))), (h1, .inl (cB, 2000, .inl (upd (upd (upd (upd (upd (upd (upd (upd (upd (upd (upd (upd g0 0 (vp_nar .byte (Int8.toInt32 (Int32.toInt8 (x0 >>> (24 &&& 31)))))) 1 (vp_nar .byte (Int8.toInt32 (Int32.toInt8 (x0 >>> (16 &&& 31)))))) 2 (vp_nar .byte (Int8.toInt32 (Int32.toInt8 (x0 >>> (8 &&& 31)))))) 3 (vp_nar .byte (Int8.toInt32 (Int32.toInt8 (x0 >>> (0 &&& 31)))))) 4 (vp_nar .byte (Int8.toInt32 (Int32.toInt8 (x1 >>> (24 &&& 31)))))) 5 (vp_nar .byte (Int8.toInt32 (Int32.toInt8 (x1 >>> (16 &&& 31)))))) 6 (vp_nar .byte (Int8.toInt32 (Int32.toInt8 (x1 >>> (8 &&& 31)))))) 7 (vp_nar .byte (Int8.toInt32 (Int32.toInt8 (x1 >>> (0 &&& 31)))))) 8 (vp_nar .byte (Int8.toInt32 (Int32.toInt8 (x2 >>> (24 &&& 31)))))) 9 (vp_nar .byte (Int8.toInt32 (Int32.toInt8 (x2 >>> (16 &&& 31)))))) 10 (vp_nar .byte (Int8.toInt32 (Int32.toInt8 (x2 >>> (8 &&& 31)))))) 11 (vp_nar .byte (Int8.toInt32 (Int32.toInt8 (x2 >>> (0 &&& 31))))))))]) (wr := []) (w1 := (fun _ : Unit => [(h0, .inr (11, ((((((((((((((((f0.set 12 (.int 1)).set 12 (.int 2)).set 12 (.int 3)).set 12 (.int 4)).set 12 (.int 5)).set 12 (.int 6)).set 12 (.int 7)).set 12 (.int 8)).set 12 (.int 9)).set 12 (.int 10)).set 12 (.int 11)).set 12 (.int 12)).set 12 (.int 13)).set 12 (.int 14)).set 12 (.int 15)).set 12 (.int 16)))), (h1, .inl (cB, 2000, .inl (upd (upd (upd (upd (upd (upd (upd (upd (upd (upd (upd (upd (upd (upd (upd (upd g0 0 (vp_nar .byte (Int8.toInt32 (Int32.toInt8 (x0 >>> (24 &&& 31)))))) 1 (vp_nar .byte (Int8.toInt32 (Int32.toInt8 (x0 >>> (16 &&& 31)))))) 2 (vp_nar .byte (Int8.toInt32 (Int32.toInt8 (x0 >>> (8 &&& 31)))))) 3 (vp_nar .byte (Int8.toInt32 (Int32.toInt8 (x0 >>> (0 &&& 31)))))) 4 (vp_nar .byte (Int8.toInt32 (Int32.toInt8 (x1 >>> (24 &&& 31)))))) 5 (vp_nar .byte (Int8.toInt32 (Int32.toInt8 (x1 >>> (16 &&& 31)))))) 6 (vp_nar .byte (Int8.toInt32 (Int32.toInt8 (x1 >>> (8 &&& 31)))))) 7 (vp_nar .byte (Int8.toInt32 (Int32.toInt8 (x1 >>> (0 &&& 31)))))) 8 (vp_nar .byte (Int8.toInt32 (Int32.toInt8 (x2 >>> (24 &&& 31)))))) 9 (vp_nar .byte (Int8.toInt32 (Int32.toInt8 (x2 >>> (16 &&& 31)))))) 10 (vp_nar .byte (Int8.toInt32 (Int32.toInt8 (x2 >>> (8 &&& 31)))))) 11 (vp_nar .byte (Int8.toInt32 (Int32.toInt8 (x2 >>> (0 &&& 31)))))) 12 (vp_nar .byte (Int8.toInt32 (Int32.toInt8 (x3 >>> (24 &&& 31)))))) 13 (vp_nar .byte (Int8.toInt32 (Int32.toInt8 (x3 >>> (16 &&& 31)))))) 14 (vp_nar .byte (Int8.toInt32 (Int32.toInt8 (x3 >>> (8 &&& 31)))))) 15 (vp_nar .byte (Int8.toInt32 (Int32.toInt8 (x3 >>> (0 &&& 31))))))))])) ⟨hx, hb, hml, hown, hts⟩ hN hX hAE hK hP hD hS hA [0, 1] [] (ci := 11) rfl rfl rfl rfl (by decide +kernel) (by decide +kernel) (by decide +kernel) (c_X11_feedOne_3 l E D cI cJ cB cZ h0 x3 (((((((((((((f0.set 12 (.int 1)).set 12 (.int 2)).set 12 (.int 3)).set 12 (.int 4)).set 12 (.int 5)).set 12 (.int 6)).set 12 (.int 7)).set 12 (.int 8)).set 12 (.int 9)).set 12 (.int 10)).set 12 (.int 11)).set 12 (.int 12))) h1 ((upd (upd (upd (upd (upd (upd (upd (upd (upd (upd (upd (upd g0 0 (vp_nar .byte (Int8.toInt32 (Int32.toInt8 (x0 >>> (24 &&& 31)))))) 1 (vp_nar .byte (Int8.toInt32 (Int32.toInt8 (x0 >>> (16 &&& 31)))))) 2 (vp_nar .byte (Int8.toInt32 (Int32.toInt8 (x0 >>> (8 &&& 31)))))) 3 (vp_nar .byte (Int8.toInt32 (Int32.toInt8 (x0 >>> (0 &&& 31)))))) 4 (vp_nar .byte (Int8.toInt32 (Int32.toInt8 (x1 >>> (24 &&& 31)))))) 5 (vp_nar .byte (Int8.toInt32 (Int32.toInt8 (x1 >>> (16 &&& 31)))))) 6 (vp_nar .byte (Int8.toInt32 (Int32.toInt8 (x1 >>> (8 &&& 31)))))) 7 (vp_nar .byte (Int8.toInt32 (Int32.toInt8 (x1 >>> (0 &&& 31)))))) 8 (vp_nar .byte (Int8.toInt32 (Int32.toInt8 (x2 >>> (24 &&& 31)))))) 9 (vp_nar .byte (Int8.toInt32 (Int32.toInt8 (x2 >>> (16 &&& 31)))))) 10 (vp_nar .byte (Int8.toInt32 (Int32.toInt8 (x2 >>> (8 &&& 31)))))) 11 (vp_nar .byte (Int8.toInt32 (Int32.toInt8 (x2 >>> (0 &&& 31))))))) (k_set (k_set (k_set (k_set (k_set (k_set (k_set (k_set (k_set (k_set (k_set (k_set e0)))))))))))) (k_ne (by decide) (k_ne (by decide) (k_ne (by decide) (k_ne (by decide) (k_ne (by decide) (k_ne (by decide) (k_ne (by decide) (k_ne (by decide) (k_ne (by decide) (k_ne (by decide) (k_ne (by decide) (k_ne (by decide) e1))))))))))))) (cwV 1 hts g9_X11_feed_X11_feedOne_113 rfl rfl rfl (by decide +kernel) ⟨Nat.le_of_ble_eq_true rfl, Nat.le_of_ble_eq_true rfl⟩) rfl hl.1 (Nat.le_of_ble_eq_true rfl) dX11_feed_38 ⟨Nat.le_of_ble_eq_true rfl, Nat.le_of_ble_eq_true rfl⟩ (fun _ H locs hP hD hS => ?_)
  have hP : va_P D vwCl [(h0, .inr (11, ((((((((((((((((f0.set 12 (.int 1)).set 12 (.int 2)).set 12 (.int 3)).set 12 (.int 4)).set 12 (.int 5)).set 12 (.int 6)).set 12 (.int 7)).set 12 (.int 8)).set 12 (.int 9)).set 12 (.int 10)).set 12 (.int 11)).set 12 (.int 12)).set 12 (.int 13)).set 12 (.int 14)).set 12 (.int 15)).set 12 (.int 16)))), (h1, .inl (cB, 2000, .inl (upd (upd (upd (upd (upd (upd (upd (upd (upd (upd (upd (upd (upd (upd (upd (upd g0 0 (vp_nar .byte (Int8.toInt32 (Int32.toInt8 (x0 >>> (24 &&& 31)))))) 1 (vp_nar .byte (Int8.toInt32 (Int32.toInt8 (x0 >>> (16 &&& 31)))))) 2 (vp_nar .byte (Int8.toInt32 (Int32.toInt8 (x0 >>> (8 &&& 31)))))) 3 (vp_nar .byte (Int8.toInt32 (Int32.toInt8 (x0 >>> (0 &&& 31)))))) 4 (vp_nar .byte (Int8.toInt32 (Int32.toInt8 (x1 >>> (24 &&& 31)))))) 5 (vp_nar .byte (Int8.toInt32 (Int32.toInt8 (x1 >>> (16 &&& 31)))))) 6 (vp_nar .byte (Int8.toInt32 (Int32.toInt8 (x1 >>> (8 &&& 31)))))) 7 (vp_nar .byte (Int8.toInt32 (Int32.toInt8 (x1 >>> (0 &&& 31)))))) 8 (vp_nar .byte (Int8.toInt32 (Int32.toInt8 (x2 >>> (24 &&& 31)))))) 9 (vp_nar .byte (Int8.toInt32 (Int32.toInt8 (x2 >>> (16 &&& 31)))))) 10 (vp_nar .byte (Int8.toInt32 (Int32.toInt8 (x2 >>> (8 &&& 31)))))) 11 (vp_nar .byte (Int8.toInt32 (Int32.toInt8 (x2 >>> (0 &&& 31)))))) 12 (vp_nar .byte (Int8.toInt32 (Int32.toInt8 (x3 >>> (24 &&& 31)))))) 13 (vp_nar .byte (Int8.toInt32 (Int32.toInt8 (x3 >>> (16 &&& 31)))))) 14 (vp_nar .byte (Int8.toInt32 (Int32.toInt8 (x3 >>> (8 &&& 31)))))) 15 (vp_nar .byte (Int8.toInt32 (Int32.toInt8 (x3 >>> (0 &&& 31))))))))] H := hP
  have hD : va_D A [(h0, .inr (11, ((((((((((((((((f0.set 12 (.int 1)).set 12 (.int 2)).set 12 (.int 3)).set 12 (.int 4)).set 12 (.int 5)).set 12 (.int 6)).set 12 (.int 7)).set 12 (.int 8)).set 12 (.int 9)).set 12 (.int 10)).set 12 (.int 11)).set 12 (.int 12)).set 12 (.int 13)).set 12 (.int 14)).set 12 (.int 15)).set 12 (.int 16)))), (h1, .inl (cB, 2000, .inl (upd (upd (upd (upd (upd (upd (upd (upd (upd (upd (upd (upd (upd (upd (upd (upd g0 0 (vp_nar .byte (Int8.toInt32 (Int32.toInt8 (x0 >>> (24 &&& 31)))))) 1 (vp_nar .byte (Int8.toInt32 (Int32.toInt8 (x0 >>> (16 &&& 31)))))) 2 (vp_nar .byte (Int8.toInt32 (Int32.toInt8 (x0 >>> (8 &&& 31)))))) 3 (vp_nar .byte (Int8.toInt32 (Int32.toInt8 (x0 >>> (0 &&& 31)))))) 4 (vp_nar .byte (Int8.toInt32 (Int32.toInt8 (x1 >>> (24 &&& 31)))))) 5 (vp_nar .byte (Int8.toInt32 (Int32.toInt8 (x1 >>> (16 &&& 31)))))) 6 (vp_nar .byte (Int8.toInt32 (Int32.toInt8 (x1 >>> (8 &&& 31)))))) 7 (vp_nar .byte (Int8.toInt32 (Int32.toInt8 (x1 >>> (0 &&& 31)))))) 8 (vp_nar .byte (Int8.toInt32 (Int32.toInt8 (x2 >>> (24 &&& 31)))))) 9 (vp_nar .byte (Int8.toInt32 (Int32.toInt8 (x2 >>> (16 &&& 31)))))) 10 (vp_nar .byte (Int8.toInt32 (Int32.toInt8 (x2 >>> (8 &&& 31)))))) 11 (vp_nar .byte (Int8.toInt32 (Int32.toInt8 (x2 >>> (0 &&& 31)))))) 12 (vp_nar .byte (Int8.toInt32 (Int32.toInt8 (x3 >>> (24 &&& 31)))))) 13 (vp_nar .byte (Int8.toInt32 (Int32.toInt8 (x3 >>> (16 &&& 31)))))) 14 (vp_nar .byte (Int8.toInt32 (Int32.toInt8 (x3 >>> (8 &&& 31)))))) 15 (vp_nar .byte (Int8.toInt32 (Int32.toInt8 (x3 >>> (0 &&& 31))))))))] := hD
  refine lv_aload_n hx hb dX11_feed_41 rfl (lv_at hl 0 rfl) ?_
  refine lv_iload hx hb dX11_feed_42 (lv_at hl 5 rfl) ?_
  refine k_cVv (As := [.int x4]) (rest := []) (wc := [(h0, .inr (11, ((((((((((((((((f0.set 12 (.int 1)).set 12 (.int 2)).set 12 (.int 3)).set 12 (.int 4)).set 12 (.int 5)).set 12 (.int 6)).set 12 (.int 7)).set 12 (.int 8)).set 12 (.int 9)).set 12 (.int 10)).set 12 (.int 11)).set 12 (.int 12)).set 12 (.int 13)).set 12 (.int 14)).set 12 (.int 15)).set 12 (.int 16)))), (h1, .inl (cB, 2000, .inl (upd (upd (upd (upd (upd (upd (upd (upd (upd (upd (upd (upd (upd (upd (upd (upd g0 0 (vp_nar .byte (Int8.toInt32 (Int32.toInt8 (x0 >>> (24 &&& 31)))))) 1 (vp_nar .byte (Int8.toInt32 (Int32.toInt8 (x0 >>> (16 &&& 31)))))) 2 (vp_nar .byte (Int8.toInt32 (Int32.toInt8 (x0 >>> (8 &&& 31)))))) 3 (vp_nar .byte (Int8.toInt32 (Int32.toInt8 (x0 >>> (0 &&& 31)))))) 4 (vp_nar .byte (Int8.toInt32 (Int32.toInt8 (x1 >>> (24 &&& 31)))))) 5 (vp_nar .byte (Int8.toInt32 (Int32.toInt8 (x1 >>> (16 &&& 31)))))) 6 (vp_nar .byte (Int8.toInt32 (Int32.toInt8 (x1 >>> (8 &&& 31)))))) 7 (vp_nar .byte (Int8.toInt32 (Int32.toInt8 (x1 >>> (0 &&& 31)))))) 8 (vp_nar .byte (Int8.toInt32 (Int32.toInt8 (x2 >>> (24 &&& 31)))))) 9 (vp_nar .byte (Int8.toInt32 (Int32.toInt8 (x2 >>> (16 &&& 31)))))) 10 (vp_nar .byte (Int8.toInt32 (Int32.toInt8 (x2 >>> (8 &&& 31)))))) 11 (vp_nar .byte (Int8.toInt32 (Int32.toInt8 (x2 >>> (0 &&& 31)))))) 12 (vp_nar .byte (Int8.toInt32 (Int32.toInt8 (x3 >>> (24 &&& 31)))))) 13 (vp_nar .byte (Int8.toInt32 (Int32.toInt8 (x3 >>> (16 &&& 31)))))) 14 (vp_nar .byte (Int8.toInt32 (Int32.toInt8 (x3 >>> (8 &&& 31)))))) 15 (vp_nar .byte (Int8.toInt32 (Int32.toInt8 (x3 >>> (0 &&& 31))))))))]) (wr := []) (w1 := (fun _ : Unit => [(h0, .inr (11, ((((((((((((((((((((f0.set 12 (.int 1)).set 12 (.int 2)).set 12 (.int 3)).set 12 (.int 4)).set 12 (.int 5)).set 12 (.int 6)).set 12 (.int 7)).set 12 (.int 8)).set 12 (.int 9)).set 12 (.int 10)).set 12 (.int 11)).set 12 (.int 12)).set 12 (.int 13)).set 12 (.int 14)).set 12 (.int 15)).set 12 (.int 16)).set 12 (.int 17)).set 12 (.int 18)).set 12 (.int 19)).set 12 (.int 20)))), (h1, .inl (cB, 2000, .inl (upd (upd (upd (upd (upd (upd (upd (upd (upd (upd (upd (upd (upd (upd (upd (upd (upd (upd (upd (upd g0 0 (vp_nar .byte (Int8.toInt32 (Int32.toInt8 (x0 >>> (24 &&& 31)))))) 1 (vp_nar .byte (Int8.toInt32 (Int32.toInt8 (x0 >>> (16 &&& 31)))))) 2 (vp_nar .byte (Int8.toInt32 (Int32.toInt8 (x0 >>> (8 &&& 31)))))) 3 (vp_nar .byte (Int8.toInt32 (Int32.toInt8 (x0 >>> (0 &&& 31)))))) 4 (vp_nar .byte (Int8.toInt32 (Int32.toInt8 (x1 >>> (24 &&& 31)))))) 5 (vp_nar .byte (Int8.toInt32 (Int32.toInt8 (x1 >>> (16 &&& 31)))))) 6 (vp_nar .byte (Int8.toInt32 (Int32.toInt8 (x1 >>> (8 &&& 31)))))) 7 (vp_nar .byte (Int8.toInt32 (Int32.toInt8 (x1 >>> (0 &&& 31)))))) 8 (vp_nar .byte (Int8.toInt32 (Int32.toInt8 (x2 >>> (24 &&& 31)))))) 9 (vp_nar .byte (Int8.toInt32 (Int32.toInt8 (x2 >>> (16 &&& 31)))))) 10 (vp_nar .byte (Int8.toInt32 (Int32.toInt8 (x2 >>> (8 &&& 31)))))) 11 (vp_nar .byte (Int8.toInt32 (Int32.toInt8 (x2 >>> (0 &&& 31)))))) 12 (vp_nar .byte (Int8.toInt32 (Int32.toInt8 (x3 >>> (24 &&& 31)))))) 13 (vp_nar .byte (Int8.toInt32 (Int32.toInt8 (x3 >>> (16 &&& 31)))))) 14 (vp_nar .byte (Int8.toInt32 (Int32.toInt8 (x3 >>> (8 &&& 31)))))) 15 (vp_nar .byte (Int8.toInt32 (Int32.toInt8 (x3 >>> (0 &&& 31)))))) 16 (vp_nar .byte (Int8.toInt32 (Int32.toInt8 (x4 >>> (24 &&& 31)))))) 17 (vp_nar .byte (Int8.toInt32 (Int32.toInt8 (x4 >>> (16 &&& 31)))))) 18 (vp_nar .byte (Int8.toInt32 (Int32.toInt8 (x4 >>> (8 &&& 31)))))) 19 (vp_nar .byte (Int8.toInt32 (Int32.toInt8 (x4 >>> (0 &&& 31))))))))])) ⟨hx, hb, hml, hown, hts⟩ hN hX hAE hK hP hD hS hA [0, 1] [] (ci := 11) rfl rfl rfl rfl (by decide +kernel) (by decide +kernel) (by decide +kernel) (c_X11_feedOne_4 l E D cI cJ cB cZ h0 x4 (((((((((((((((((f0.set 12 (.int 1)).set 12 (.int 2)).set 12 (.int 3)).set 12 (.int 4)).set 12 (.int 5)).set 12 (.int 6)).set 12 (.int 7)).set 12 (.int 8)).set 12 (.int 9)).set 12 (.int 10)).set 12 (.int 11)).set 12 (.int 12)).set 12 (.int 13)).set 12 (.int 14)).set 12 (.int 15)).set 12 (.int 16))) h1 ((upd (upd (upd (upd (upd (upd (upd (upd (upd (upd (upd (upd (upd (upd (upd (upd g0 0 (vp_nar .byte (Int8.toInt32 (Int32.toInt8 (x0 >>> (24 &&& 31)))))) 1 (vp_nar .byte (Int8.toInt32 (Int32.toInt8 (x0 >>> (16 &&& 31)))))) 2 (vp_nar .byte (Int8.toInt32 (Int32.toInt8 (x0 >>> (8 &&& 31)))))) 3 (vp_nar .byte (Int8.toInt32 (Int32.toInt8 (x0 >>> (0 &&& 31)))))) 4 (vp_nar .byte (Int8.toInt32 (Int32.toInt8 (x1 >>> (24 &&& 31)))))) 5 (vp_nar .byte (Int8.toInt32 (Int32.toInt8 (x1 >>> (16 &&& 31)))))) 6 (vp_nar .byte (Int8.toInt32 (Int32.toInt8 (x1 >>> (8 &&& 31)))))) 7 (vp_nar .byte (Int8.toInt32 (Int32.toInt8 (x1 >>> (0 &&& 31)))))) 8 (vp_nar .byte (Int8.toInt32 (Int32.toInt8 (x2 >>> (24 &&& 31)))))) 9 (vp_nar .byte (Int8.toInt32 (Int32.toInt8 (x2 >>> (16 &&& 31)))))) 10 (vp_nar .byte (Int8.toInt32 (Int32.toInt8 (x2 >>> (8 &&& 31)))))) 11 (vp_nar .byte (Int8.toInt32 (Int32.toInt8 (x2 >>> (0 &&& 31)))))) 12 (vp_nar .byte (Int8.toInt32 (Int32.toInt8 (x3 >>> (24 &&& 31)))))) 13 (vp_nar .byte (Int8.toInt32 (Int32.toInt8 (x3 >>> (16 &&& 31)))))) 14 (vp_nar .byte (Int8.toInt32 (Int32.toInt8 (x3 >>> (8 &&& 31)))))) 15 (vp_nar .byte (Int8.toInt32 (Int32.toInt8 (x3 >>> (0 &&& 31))))))) (k_set (k_set (k_set (k_set (k_set (k_set (k_set (k_set (k_set (k_set (k_set (k_set (k_set (k_set (k_set (k_set e0)))))))))))))))) (k_ne (by decide) (k_ne (by decide) (k_ne (by decide) (k_ne (by decide) (k_ne (by decide) (k_ne (by decide) (k_ne (by decide) (k_ne (by decide) (k_ne (by decide) (k_ne (by decide) (k_ne (by decide) (k_ne (by decide) (k_ne (by decide) (k_ne (by decide) (k_ne (by decide) (k_ne (by decide) e1))))))))))))))))) (cwV 1 hts g9_X11_feed_X11_feedOne_113 rfl rfl rfl (by decide +kernel) ⟨Nat.le_of_ble_eq_true rfl, Nat.le_of_ble_eq_true rfl⟩) rfl hl.1 (Nat.le_of_ble_eq_true rfl) dX11_feed_44 ⟨Nat.le_of_ble_eq_true rfl, Nat.le_of_ble_eq_true rfl⟩ (fun _ H locs hP hD hS => ?_)
  have hP : va_P D vwCl [(h0, .inr (11, ((((((((((((((((((((f0.set 12 (.int 1)).set 12 (.int 2)).set 12 (.int 3)).set 12 (.int 4)).set 12 (.int 5)).set 12 (.int 6)).set 12 (.int 7)).set 12 (.int 8)).set 12 (.int 9)).set 12 (.int 10)).set 12 (.int 11)).set 12 (.int 12)).set 12 (.int 13)).set 12 (.int 14)).set 12 (.int 15)).set 12 (.int 16)).set 12 (.int 17)).set 12 (.int 18)).set 12 (.int 19)).set 12 (.int 20)))), (h1, .inl (cB, 2000, .inl (upd (upd (upd (upd (upd (upd (upd (upd (upd (upd (upd (upd (upd (upd (upd (upd (upd (upd (upd (upd g0 0 (vp_nar .byte (Int8.toInt32 (Int32.toInt8 (x0 >>> (24 &&& 31)))))) 1 (vp_nar .byte (Int8.toInt32 (Int32.toInt8 (x0 >>> (16 &&& 31)))))) 2 (vp_nar .byte (Int8.toInt32 (Int32.toInt8 (x0 >>> (8 &&& 31)))))) 3 (vp_nar .byte (Int8.toInt32 (Int32.toInt8 (x0 >>> (0 &&& 31)))))) 4 (vp_nar .byte (Int8.toInt32 (Int32.toInt8 (x1 >>> (24 &&& 31)))))) 5 (vp_nar .byte (Int8.toInt32 (Int32.toInt8 (x1 >>> (16 &&& 31)))))) 6 (vp_nar .byte (Int8.toInt32 (Int32.toInt8 (x1 >>> (8 &&& 31)))))) 7 (vp_nar .byte (Int8.toInt32 (Int32.toInt8 (x1 >>> (0 &&& 31)))))) 8 (vp_nar .byte (Int8.toInt32 (Int32.toInt8 (x2 >>> (24 &&& 31)))))) 9 (vp_nar .byte (Int8.toInt32 (Int32.toInt8 (x2 >>> (16 &&& 31)))))) 10 (vp_nar .byte (Int8.toInt32 (Int32.toInt8 (x2 >>> (8 &&& 31)))))) 11 (vp_nar .byte (Int8.toInt32 (Int32.toInt8 (x2 >>> (0 &&& 31)))))) 12 (vp_nar .byte (Int8.toInt32 (Int32.toInt8 (x3 >>> (24 &&& 31)))))) 13 (vp_nar .byte (Int8.toInt32 (Int32.toInt8 (x3 >>> (16 &&& 31)))))) 14 (vp_nar .byte (Int8.toInt32 (Int32.toInt8 (x3 >>> (8 &&& 31)))))) 15 (vp_nar .byte (Int8.toInt32 (Int32.toInt8 (x3 >>> (0 &&& 31)))))) 16 (vp_nar .byte (Int8.toInt32 (Int32.toInt8 (x4 >>> (24 &&& 31)))))) 17 (vp_nar .byte (Int8.toInt32 (Int32.toInt8 (x4 >>> (16 &&& 31)))))) 18 (vp_nar .byte (Int8.toInt32 (Int32.toInt8 (x4 >>> (8 &&& 31)))))) 19 (vp_nar .byte (Int8.toInt32 (Int32.toInt8 (x4 >>> (0 &&& 31))))))))] H := hP
  have hD : va_D A [(h0, .inr (11, ((((((((((((((((((((f0.set 12 (.int 1)).set 12 (.int 2)).set 12 (.int 3)).set 12 (.int 4)).set 12 (.int 5)).set 12 (.int 6)).set 12 (.int 7)).set 12 (.int 8)).set 12 (.int 9)).set 12 (.int 10)).set 12 (.int 11)).set 12 (.int 12)).set 12 (.int 13)).set 12 (.int 14)).set 12 (.int 15)).set 12 (.int 16)).set 12 (.int 17)).set 12 (.int 18)).set 12 (.int 19)).set 12 (.int 20)))), (h1, .inl (cB, 2000, .inl (upd (upd (upd (upd (upd (upd (upd (upd (upd (upd (upd (upd (upd (upd (upd (upd (upd (upd (upd (upd g0 0 (vp_nar .byte (Int8.toInt32 (Int32.toInt8 (x0 >>> (24 &&& 31)))))) 1 (vp_nar .byte (Int8.toInt32 (Int32.toInt8 (x0 >>> (16 &&& 31)))))) 2 (vp_nar .byte (Int8.toInt32 (Int32.toInt8 (x0 >>> (8 &&& 31)))))) 3 (vp_nar .byte (Int8.toInt32 (Int32.toInt8 (x0 >>> (0 &&& 31)))))) 4 (vp_nar .byte (Int8.toInt32 (Int32.toInt8 (x1 >>> (24 &&& 31)))))) 5 (vp_nar .byte (Int8.toInt32 (Int32.toInt8 (x1 >>> (16 &&& 31)))))) 6 (vp_nar .byte (Int8.toInt32 (Int32.toInt8 (x1 >>> (8 &&& 31)))))) 7 (vp_nar .byte (Int8.toInt32 (Int32.toInt8 (x1 >>> (0 &&& 31)))))) 8 (vp_nar .byte (Int8.toInt32 (Int32.toInt8 (x2 >>> (24 &&& 31)))))) 9 (vp_nar .byte (Int8.toInt32 (Int32.toInt8 (x2 >>> (16 &&& 31)))))) 10 (vp_nar .byte (Int8.toInt32 (Int32.toInt8 (x2 >>> (8 &&& 31)))))) 11 (vp_nar .byte (Int8.toInt32 (Int32.toInt8 (x2 >>> (0 &&& 31)))))) 12 (vp_nar .byte (Int8.toInt32 (Int32.toInt8 (x3 >>> (24 &&& 31)))))) 13 (vp_nar .byte (Int8.toInt32 (Int32.toInt8 (x3 >>> (16 &&& 31)))))) 14 (vp_nar .byte (Int8.toInt32 (Int32.toInt8 (x3 >>> (8 &&& 31)))))) 15 (vp_nar .byte (Int8.toInt32 (Int32.toInt8 (x3 >>> (0 &&& 31)))))) 16 (vp_nar .byte (Int8.toInt32 (Int32.toInt8 (x4 >>> (24 &&& 31)))))) 17 (vp_nar .byte (Int8.toInt32 (Int32.toInt8 (x4 >>> (16 &&& 31)))))) 18 (vp_nar .byte (Int8.toInt32 (Int32.toInt8 (x4 >>> (8 &&& 31)))))) 19 (vp_nar .byte (Int8.toInt32 (Int32.toInt8 (x4 >>> (0 &&& 31))))))))] := hD
  refine lv_aload_n hx hb dX11_feed_47 rfl (lv_at hl 0 rfl) ?_
  refine k_get (D := D) (ci := 11) (v := .int 20) (N := 15) hx hb hts hin11 hown hK hP 0 rfl rfl (by decide) f9_11_12 (hts (.fieldLink RX11 102 "IntegerHouse" "tapeLength" "I") (o9_X11_feed _ (List.mem_of_getElem? (i := 0) rfl))) (k_set (k_set (k_set (k_set (k_set (k_set (k_set (k_set (k_set (k_set (k_set (k_set (k_set (k_set (k_set (k_set (k_set (k_set (k_set (k_set e0)))))))))))))))))))) dX11_feed_48 ?_
  exact W.iret (v := 20) hx hb hr (fun t ht hW => ⟨⟨20, (), rfl, rfl, kB_mk ht hW hP hK hD⟩, hS.F ht⟩) hS.2.2 dX11_feed_51
set_option maxHeartbeats 400000000 in
set_option maxRecDepth 100000 in
theorem c_L_feed_0 (l : Launch) (E : kE) (D : va_G) (cI cJ cB cZ : ClassId) (h0 : Nat) (x0 : Int32) (x1 : Int32) (x2 : Int32) (x3 : Int32) (x4 : Int32) (h1 : Nat) (f0 : List Value) (h2 : Nat) (g0 : Nat → Int32) (g1 : Nat → Int64) (e0 : f0[12]? = some (.int 0)) (e1 : f0[0]? = some (.ref h2)) : kI l E D (kT cI cJ cB cZ) yL_feed vW_L_feed ({ frames := 2, cells := 0, slots := 0, locals := 47 }) [.ref h0, .int x0, .int x1, .int x2, .int x3, .int x4, .ref h1] [(h0, .inr (11, f0)), (h2, .inl (cB, 2000, .inl g0)), (h1, .inl (cJ, 1, .inr (.inl g1)))] (0) [(h0, .inr (11, ((((((((((((((((((((f0.set 12 (.int 1)).set 12 (.int 2)).set 12 (.int 3)).set 12 (.int 4)).set 12 (.int 5)).set 12 (.int 6)).set 12 (.int 7)).set 12 (.int 8)).set 12 (.int 9)).set 12 (.int 10)).set 12 (.int 11)).set 12 (.int 12)).set 12 (.int 13)).set 12 (.int 14)).set 12 (.int 15)).set 12 (.int 16)).set 12 (.int 17)).set 12 (.int 18)).set 12 (.int 19)).set 12 (.int 20)))), (h2, .inl (cB, 2000, .inl (upd (upd (upd (upd (upd (upd (upd (upd (upd (upd (upd (upd (upd (upd (upd (upd (upd (upd (upd (upd g0 0 (vp_nar .byte (Int8.toInt32 (Int32.toInt8 (x0 >>> (24 &&& 31)))))) 1 (vp_nar .byte (Int8.toInt32 (Int32.toInt8 (x0 >>> (16 &&& 31)))))) 2 (vp_nar .byte (Int8.toInt32 (Int32.toInt8 (x0 >>> (8 &&& 31)))))) 3 (vp_nar .byte (Int8.toInt32 (Int32.toInt8 (x0 >>> (0 &&& 31)))))) 4 (vp_nar .byte (Int8.toInt32 (Int32.toInt8 (x1 >>> (24 &&& 31)))))) 5 (vp_nar .byte (Int8.toInt32 (Int32.toInt8 (x1 >>> (16 &&& 31)))))) 6 (vp_nar .byte (Int8.toInt32 (Int32.toInt8 (x1 >>> (8 &&& 31)))))) 7 (vp_nar .byte (Int8.toInt32 (Int32.toInt8 (x1 >>> (0 &&& 31)))))) 8 (vp_nar .byte (Int8.toInt32 (Int32.toInt8 (x2 >>> (24 &&& 31)))))) 9 (vp_nar .byte (Int8.toInt32 (Int32.toInt8 (x2 >>> (16 &&& 31)))))) 10 (vp_nar .byte (Int8.toInt32 (Int32.toInt8 (x2 >>> (8 &&& 31)))))) 11 (vp_nar .byte (Int8.toInt32 (Int32.toInt8 (x2 >>> (0 &&& 31)))))) 12 (vp_nar .byte (Int8.toInt32 (Int32.toInt8 (x3 >>> (24 &&& 31)))))) 13 (vp_nar .byte (Int8.toInt32 (Int32.toInt8 (x3 >>> (16 &&& 31)))))) 14 (vp_nar .byte (Int8.toInt32 (Int32.toInt8 (x3 >>> (8 &&& 31)))))) 15 (vp_nar .byte (Int8.toInt32 (Int32.toInt8 (x3 >>> (0 &&& 31)))))) 16 (vp_nar .byte (Int8.toInt32 (Int32.toInt8 (x4 >>> (24 &&& 31)))))) 17 (vp_nar .byte (Int8.toInt32 (Int32.toInt8 (x4 >>> (16 &&& 31)))))) 18 (vp_nar .byte (Int8.toInt32 (Int32.toInt8 (x4 >>> (8 &&& 31)))))) 19 (vp_nar .byte (Int8.toInt32 (Int32.toInt8 (x4 >>> (0 &&& 31)))))))), (h1, .inl (cJ, 1, .inr (.inl (vp_updL g1 0 20))))] 0 0 := by
  intro sz
  refine k_metH (cc := cL_feed) (maxL := 8) (ret := (some .int)) (hh := [(0, 16, 19, 13)]) (by decide) rfl ?_
  intro p e s m args below meth c s₁ B hml hv
  obtain ⟨rfl, hsz, hP, hK, hD0, hN, hX⟩ := hv
  have hx := B.exec
  have hb := B.bytes
  have hr := B.returns
  have hts := atoms_spec (ws := vW_L_feed) B.pre
  have hown : s.vm.findClass RL = some m.cls := findClass_of_methodNamed B.named
  have hlocks := B.notSynchronized
  subst hsz
  have hD := hD0.self (sz := s.heap.size)
  have hAE := k_AE hD0 hX
  generalize hAe : va_A [(h0, .inr (11, f0)), (h2, .inl (cB, 2000, .inl g0)), (h1, .inl (cJ, 1, .inr (.inl g1)))] s.heap.size = A at hD hAE ⊢
  have hA : ∀ q : Nat, s.heap.size ≤ q → A q := fun q h => by rw [← hAe]; exact Or.inr h
  have hS : va_S A s.heap s.heap [] := va_S.rf
  have hP : va_P D vwCl [(h0, .inr (11, f0)), (h2, .inl (cB, 2000, .inl g0)), (h1, .inl (cJ, 1, .inr (.inl g1)))] s.heap := hP
  have hl := lv_entry ([.ref h0, .int x0, .int x1, .int x2, .int x3, .int x4, .ref h1] : List Value) (n := 8) (Nat.le_of_ble_eq_true rfl)
  rw [lg_entry_eq]
  generalize (lg_sl ([.ref h0, .int x0, .int x1, .int x2, .int x3, .int x4, .ref h1]) ++ List.replicate (8 - (lg_sl ([.ref h0, .int x0, .int x1, .int x2, .int x3, .int x4, .ref h1])).length) Slot.unset).toArray = ls at hl ⊢
  have hl : lv_has ls 8 [(0, .ref h0), (1, .int x0), (2, .int x1), (3, .int x2), (4, .int x3), (5, .int x4), (6, .ref h1)] := hl
  refine lv_aload hx hb dL_feed_0 (lv_at hl 6 rfl) ?_
  refine lv_iconst (v := 0) hx hb dL_feed_2 (by decide) ?_
  refine lv_aload_n hx hb dL_feed_3 rfl (lv_at hl 0 rfl) ?_
  refine lv_iload_n hx hb dL_feed_4 rfl (lv_at hl 1 rfl) ?_
  refine lv_iload_n hx hb dL_feed_5 rfl (lv_at hl 2 rfl) ?_
  refine lv_iload_n hx hb dL_feed_6 rfl (lv_at hl 3 rfl) ?_
  refine lv_iload hx hb dL_feed_7 (lv_at hl 4 rfl) ?_
  refine lv_iload hx hb dL_feed_9 (lv_at hl 5 rfl) ?_
  refine k_cVi (As := [.int x0, .int x1, .int x2, .int x3, .int x4]) (rest := [.int 0, .ref h1]) (wc := [(h0, .inr (11, f0)), (h2, .inl (cB, 2000, .inl g0))]) (wr := [(h1, .inl (cJ, 1, .inr (.inl g1)))]) (w1 := [(h0, .inr (11, ((((((((((((((((((((f0.set 12 (.int 1)).set 12 (.int 2)).set 12 (.int 3)).set 12 (.int 4)).set 12 (.int 5)).set 12 (.int 6)).set 12 (.int 7)).set 12 (.int 8)).set 12 (.int 9)).set 12 (.int 10)).set 12 (.int 11)).set 12 (.int 12)).set 12 (.int 13)).set 12 (.int 14)).set 12 (.int 15)).set 12 (.int 16)).set 12 (.int 17)).set 12 (.int 18)).set 12 (.int 19)).set 12 (.int 20)))), (h2, .inl (cB, 2000, .inl (upd (upd (upd (upd (upd (upd (upd (upd (upd (upd (upd (upd (upd (upd (upd (upd (upd (upd (upd (upd g0 0 (vp_nar .byte (Int8.toInt32 (Int32.toInt8 (x0 >>> (24 &&& 31)))))) 1 (vp_nar .byte (Int8.toInt32 (Int32.toInt8 (x0 >>> (16 &&& 31)))))) 2 (vp_nar .byte (Int8.toInt32 (Int32.toInt8 (x0 >>> (8 &&& 31)))))) 3 (vp_nar .byte (Int8.toInt32 (Int32.toInt8 (x0 >>> (0 &&& 31)))))) 4 (vp_nar .byte (Int8.toInt32 (Int32.toInt8 (x1 >>> (24 &&& 31)))))) 5 (vp_nar .byte (Int8.toInt32 (Int32.toInt8 (x1 >>> (16 &&& 31)))))) 6 (vp_nar .byte (Int8.toInt32 (Int32.toInt8 (x1 >>> (8 &&& 31)))))) 7 (vp_nar .byte (Int8.toInt32 (Int32.toInt8 (x1 >>> (0 &&& 31)))))) 8 (vp_nar .byte (Int8.toInt32 (Int32.toInt8 (x2 >>> (24 &&& 31)))))) 9 (vp_nar .byte (Int8.toInt32 (Int32.toInt8 (x2 >>> (16 &&& 31)))))) 10 (vp_nar .byte (Int8.toInt32 (Int32.toInt8 (x2 >>> (8 &&& 31)))))) 11 (vp_nar .byte (Int8.toInt32 (Int32.toInt8 (x2 >>> (0 &&& 31)))))) 12 (vp_nar .byte (Int8.toInt32 (Int32.toInt8 (x3 >>> (24 &&& 31)))))) 13 (vp_nar .byte (Int8.toInt32 (Int32.toInt8 (x3 >>> (16 &&& 31)))))) 14 (vp_nar .byte (Int8.toInt32 (Int32.toInt8 (x3 >>> (8 &&& 31)))))) 15 (vp_nar .byte (Int8.toInt32 (Int32.toInt8 (x3 >>> (0 &&& 31)))))) 16 (vp_nar .byte (Int8.toInt32 (Int32.toInt8 (x4 >>> (24 &&& 31)))))) 17 (vp_nar .byte (Int8.toInt32 (Int32.toInt8 (x4 >>> (16 &&& 31)))))) 18 (vp_nar .byte (Int8.toInt32 (Int32.toInt8 (x4 >>> (8 &&& 31)))))) 19 (vp_nar .byte (Int8.toInt32 (Int32.toInt8 (x4 >>> (0 &&& 31))))))))]) ⟨hx, hb, hml, hown, hts⟩ hN hX hAE hK hP hD hS hA [0, 1] [2] (ci := 11) rfl rfl rfl rfl (by decide +kernel) (by decide +kernel) (by decide +kernel) (c_X11_feed_0 l E D cI cJ cB cZ h0 x0 x1 x2 x3 x4 f0 h2 g0 e0 e1) (cwV 5 hts g9_L_feed_X11_feed_7 rfl rfl rfl (by decide +kernel) ⟨Nat.le_of_ble_eq_true rfl, Nat.le_of_ble_eq_true rfl⟩) rfl hl.1 (Nat.le_of_ble_eq_true rfl) dL_feed_11 ⟨Nat.le_of_ble_eq_true rfl, Nat.le_of_ble_eq_true rfl⟩ (fun H locs hP hD hS => ?_)
  have hP : va_P D vwCl [(h1, .inl (cJ, 1, .inr (.inl g1))), (h0, .inr (11, ((((((((((((((((((((f0.set 12 (.int 1)).set 12 (.int 2)).set 12 (.int 3)).set 12 (.int 4)).set 12 (.int 5)).set 12 (.int 6)).set 12 (.int 7)).set 12 (.int 8)).set 12 (.int 9)).set 12 (.int 10)).set 12 (.int 11)).set 12 (.int 12)).set 12 (.int 13)).set 12 (.int 14)).set 12 (.int 15)).set 12 (.int 16)).set 12 (.int 17)).set 12 (.int 18)).set 12 (.int 19)).set 12 (.int 20)))), (h2, .inl (cB, 2000, .inl (upd (upd (upd (upd (upd (upd (upd (upd (upd (upd (upd (upd (upd (upd (upd (upd (upd (upd (upd (upd g0 0 (vp_nar .byte (Int8.toInt32 (Int32.toInt8 (x0 >>> (24 &&& 31)))))) 1 (vp_nar .byte (Int8.toInt32 (Int32.toInt8 (x0 >>> (16 &&& 31)))))) 2 (vp_nar .byte (Int8.toInt32 (Int32.toInt8 (x0 >>> (8 &&& 31)))))) 3 (vp_nar .byte (Int8.toInt32 (Int32.toInt8 (x0 >>> (0 &&& 31)))))) 4 (vp_nar .byte (Int8.toInt32 (Int32.toInt8 (x1 >>> (24 &&& 31)))))) 5 (vp_nar .byte (Int8.toInt32 (Int32.toInt8 (x1 >>> (16 &&& 31)))))) 6 (vp_nar .byte (Int8.toInt32 (Int32.toInt8 (x1 >>> (8 &&& 31)))))) 7 (vp_nar .byte (Int8.toInt32 (Int32.toInt8 (x1 >>> (0 &&& 31)))))) 8 (vp_nar .byte (Int8.toInt32 (Int32.toInt8 (x2 >>> (24 &&& 31)))))) 9 (vp_nar .byte (Int8.toInt32 (Int32.toInt8 (x2 >>> (16 &&& 31)))))) 10 (vp_nar .byte (Int8.toInt32 (Int32.toInt8 (x2 >>> (8 &&& 31)))))) 11 (vp_nar .byte (Int8.toInt32 (Int32.toInt8 (x2 >>> (0 &&& 31)))))) 12 (vp_nar .byte (Int8.toInt32 (Int32.toInt8 (x3 >>> (24 &&& 31)))))) 13 (vp_nar .byte (Int8.toInt32 (Int32.toInt8 (x3 >>> (16 &&& 31)))))) 14 (vp_nar .byte (Int8.toInt32 (Int32.toInt8 (x3 >>> (8 &&& 31)))))) 15 (vp_nar .byte (Int8.toInt32 (Int32.toInt8 (x3 >>> (0 &&& 31)))))) 16 (vp_nar .byte (Int8.toInt32 (Int32.toInt8 (x4 >>> (24 &&& 31)))))) 17 (vp_nar .byte (Int8.toInt32 (Int32.toInt8 (x4 >>> (16 &&& 31)))))) 18 (vp_nar .byte (Int8.toInt32 (Int32.toInt8 (x4 >>> (8 &&& 31)))))) 19 (vp_nar .byte (Int8.toInt32 (Int32.toInt8 (x4 >>> (0 &&& 31))))))))] H := hP
  have hD : va_D A [(h1, .inl (cJ, 1, .inr (.inl g1))), (h0, .inr (11, ((((((((((((((((((((f0.set 12 (.int 1)).set 12 (.int 2)).set 12 (.int 3)).set 12 (.int 4)).set 12 (.int 5)).set 12 (.int 6)).set 12 (.int 7)).set 12 (.int 8)).set 12 (.int 9)).set 12 (.int 10)).set 12 (.int 11)).set 12 (.int 12)).set 12 (.int 13)).set 12 (.int 14)).set 12 (.int 15)).set 12 (.int 16)).set 12 (.int 17)).set 12 (.int 18)).set 12 (.int 19)).set 12 (.int 20)))), (h2, .inl (cB, 2000, .inl (upd (upd (upd (upd (upd (upd (upd (upd (upd (upd (upd (upd (upd (upd (upd (upd (upd (upd (upd (upd g0 0 (vp_nar .byte (Int8.toInt32 (Int32.toInt8 (x0 >>> (24 &&& 31)))))) 1 (vp_nar .byte (Int8.toInt32 (Int32.toInt8 (x0 >>> (16 &&& 31)))))) 2 (vp_nar .byte (Int8.toInt32 (Int32.toInt8 (x0 >>> (8 &&& 31)))))) 3 (vp_nar .byte (Int8.toInt32 (Int32.toInt8 (x0 >>> (0 &&& 31)))))) 4 (vp_nar .byte (Int8.toInt32 (Int32.toInt8 (x1 >>> (24 &&& 31)))))) 5 (vp_nar .byte (Int8.toInt32 (Int32.toInt8 (x1 >>> (16 &&& 31)))))) 6 (vp_nar .byte (Int8.toInt32 (Int32.toInt8 (x1 >>> (8 &&& 31)))))) 7 (vp_nar .byte (Int8.toInt32 (Int32.toInt8 (x1 >>> (0 &&& 31)))))) 8 (vp_nar .byte (Int8.toInt32 (Int32.toInt8 (x2 >>> (24 &&& 31)))))) 9 (vp_nar .byte (Int8.toInt32 (Int32.toInt8 (x2 >>> (16 &&& 31)))))) 10 (vp_nar .byte (Int8.toInt32 (Int32.toInt8 (x2 >>> (8 &&& 31)))))) 11 (vp_nar .byte (Int8.toInt32 (Int32.toInt8 (x2 >>> (0 &&& 31)))))) 12 (vp_nar .byte (Int8.toInt32 (Int32.toInt8 (x3 >>> (24 &&& 31)))))) 13 (vp_nar .byte (Int8.toInt32 (Int32.toInt8 (x3 >>> (16 &&& 31)))))) 14 (vp_nar .byte (Int8.toInt32 (Int32.toInt8 (x3 >>> (8 &&& 31)))))) 15 (vp_nar .byte (Int8.toInt32 (Int32.toInt8 (x3 >>> (0 &&& 31)))))) 16 (vp_nar .byte (Int8.toInt32 (Int32.toInt8 (x4 >>> (24 &&& 31)))))) 17 (vp_nar .byte (Int8.toInt32 (Int32.toInt8 (x4 >>> (16 &&& 31)))))) 18 (vp_nar .byte (Int8.toInt32 (Int32.toInt8 (x4 >>> (8 &&& 31)))))) 19 (vp_nar .byte (Int8.toInt32 (Int32.toInt8 (x4 >>> (0 &&& 31))))))))] := hD
  refine lv_i2l (v := 20) hx hb dL_feed_14 (by decide) ?_
  refine va_last hx hb hK hP hD hS 0 1 rfl rfl (k_in (by decide)) dL_feed_15 (fun H locs hP hD hS => ?_)
  have hP : va_P D vwCl [(h1, .inl (cJ, 1, .inr (.inl (vp_updL g1 0 20)))), (h0, .inr (11, ((((((((((((((((((((f0.set 12 (.int 1)).set 12 (.int 2)).set 12 (.int 3)).set 12 (.int 4)).set 12 (.int 5)).set 12 (.int 6)).set 12 (.int 7)).set 12 (.int 8)).set 12 (.int 9)).set 12 (.int 10)).set 12 (.int 11)).set 12 (.int 12)).set 12 (.int 13)).set 12 (.int 14)).set 12 (.int 15)).set 12 (.int 16)).set 12 (.int 17)).set 12 (.int 18)).set 12 (.int 19)).set 12 (.int 20)))), (h2, .inl (cB, 2000, .inl (upd (upd (upd (upd (upd (upd (upd (upd (upd (upd (upd (upd (upd (upd (upd (upd (upd (upd (upd (upd g0 0 (vp_nar .byte (Int8.toInt32 (Int32.toInt8 (x0 >>> (24 &&& 31)))))) 1 (vp_nar .byte (Int8.toInt32 (Int32.toInt8 (x0 >>> (16 &&& 31)))))) 2 (vp_nar .byte (Int8.toInt32 (Int32.toInt8 (x0 >>> (8 &&& 31)))))) 3 (vp_nar .byte (Int8.toInt32 (Int32.toInt8 (x0 >>> (0 &&& 31)))))) 4 (vp_nar .byte (Int8.toInt32 (Int32.toInt8 (x1 >>> (24 &&& 31)))))) 5 (vp_nar .byte (Int8.toInt32 (Int32.toInt8 (x1 >>> (16 &&& 31)))))) 6 (vp_nar .byte (Int8.toInt32 (Int32.toInt8 (x1 >>> (8 &&& 31)))))) 7 (vp_nar .byte (Int8.toInt32 (Int32.toInt8 (x1 >>> (0 &&& 31)))))) 8 (vp_nar .byte (Int8.toInt32 (Int32.toInt8 (x2 >>> (24 &&& 31)))))) 9 (vp_nar .byte (Int8.toInt32 (Int32.toInt8 (x2 >>> (16 &&& 31)))))) 10 (vp_nar .byte (Int8.toInt32 (Int32.toInt8 (x2 >>> (8 &&& 31)))))) 11 (vp_nar .byte (Int8.toInt32 (Int32.toInt8 (x2 >>> (0 &&& 31)))))) 12 (vp_nar .byte (Int8.toInt32 (Int32.toInt8 (x3 >>> (24 &&& 31)))))) 13 (vp_nar .byte (Int8.toInt32 (Int32.toInt8 (x3 >>> (16 &&& 31)))))) 14 (vp_nar .byte (Int8.toInt32 (Int32.toInt8 (x3 >>> (8 &&& 31)))))) 15 (vp_nar .byte (Int8.toInt32 (Int32.toInt8 (x3 >>> (0 &&& 31)))))) 16 (vp_nar .byte (Int8.toInt32 (Int32.toInt8 (x4 >>> (24 &&& 31)))))) 17 (vp_nar .byte (Int8.toInt32 (Int32.toInt8 (x4 >>> (16 &&& 31)))))) 18 (vp_nar .byte (Int8.toInt32 (Int32.toInt8 (x4 >>> (8 &&& 31)))))) 19 (vp_nar .byte (Int8.toInt32 (Int32.toInt8 (x4 >>> (0 &&& 31))))))))] H := hP
  have hD : va_D A [(h1, .inl (cJ, 1, .inr (.inl (vp_updL g1 0 20)))), (h0, .inr (11, ((((((((((((((((((((f0.set 12 (.int 1)).set 12 (.int 2)).set 12 (.int 3)).set 12 (.int 4)).set 12 (.int 5)).set 12 (.int 6)).set 12 (.int 7)).set 12 (.int 8)).set 12 (.int 9)).set 12 (.int 10)).set 12 (.int 11)).set 12 (.int 12)).set 12 (.int 13)).set 12 (.int 14)).set 12 (.int 15)).set 12 (.int 16)).set 12 (.int 17)).set 12 (.int 18)).set 12 (.int 19)).set 12 (.int 20)))), (h2, .inl (cB, 2000, .inl (upd (upd (upd (upd (upd (upd (upd (upd (upd (upd (upd (upd (upd (upd (upd (upd (upd (upd (upd (upd g0 0 (vp_nar .byte (Int8.toInt32 (Int32.toInt8 (x0 >>> (24 &&& 31)))))) 1 (vp_nar .byte (Int8.toInt32 (Int32.toInt8 (x0 >>> (16 &&& 31)))))) 2 (vp_nar .byte (Int8.toInt32 (Int32.toInt8 (x0 >>> (8 &&& 31)))))) 3 (vp_nar .byte (Int8.toInt32 (Int32.toInt8 (x0 >>> (0 &&& 31)))))) 4 (vp_nar .byte (Int8.toInt32 (Int32.toInt8 (x1 >>> (24 &&& 31)))))) 5 (vp_nar .byte (Int8.toInt32 (Int32.toInt8 (x1 >>> (16 &&& 31)))))) 6 (vp_nar .byte (Int8.toInt32 (Int32.toInt8 (x1 >>> (8 &&& 31)))))) 7 (vp_nar .byte (Int8.toInt32 (Int32.toInt8 (x1 >>> (0 &&& 31)))))) 8 (vp_nar .byte (Int8.toInt32 (Int32.toInt8 (x2 >>> (24 &&& 31)))))) 9 (vp_nar .byte (Int8.toInt32 (Int32.toInt8 (x2 >>> (16 &&& 31)))))) 10 (vp_nar .byte (Int8.toInt32 (Int32.toInt8 (x2 >>> (8 &&& 31)))))) 11 (vp_nar .byte (Int8.toInt32 (Int32.toInt8 (x2 >>> (0 &&& 31)))))) 12 (vp_nar .byte (Int8.toInt32 (Int32.toInt8 (x3 >>> (24 &&& 31)))))) 13 (vp_nar .byte (Int8.toInt32 (Int32.toInt8 (x3 >>> (16 &&& 31)))))) 14 (vp_nar .byte (Int8.toInt32 (Int32.toInt8 (x3 >>> (8 &&& 31)))))) 15 (vp_nar .byte (Int8.toInt32 (Int32.toInt8 (x3 >>> (0 &&& 31)))))) 16 (vp_nar .byte (Int8.toInt32 (Int32.toInt8 (x4 >>> (24 &&& 31)))))) 17 (vp_nar .byte (Int8.toInt32 (Int32.toInt8 (x4 >>> (16 &&& 31)))))) 18 (vp_nar .byte (Int8.toInt32 (Int32.toInt8 (x4 >>> (8 &&& 31)))))) 19 (vp_nar .byte (Int8.toInt32 (Int32.toInt8 (x4 >>> (0 &&& 31))))))))] := hD
  refine lv_goto (tgt := 23) hx hb dL_feed_16 (by decide) ?_
  refine lv_iconst (v := 0) hx hb dL_feed_23 (by decide) ?_
  have hP := hP.sub (ws' := [(h0, .inr (11, ((((((((((((((((((((f0.set 12 (.int 1)).set 12 (.int 2)).set 12 (.int 3)).set 12 (.int 4)).set 12 (.int 5)).set 12 (.int 6)).set 12 (.int 7)).set 12 (.int 8)).set 12 (.int 9)).set 12 (.int 10)).set 12 (.int 11)).set 12 (.int 12)).set 12 (.int 13)).set 12 (.int 14)).set 12 (.int 15)).set 12 (.int 16)).set 12 (.int 17)).set 12 (.int 18)).set 12 (.int 19)).set 12 (.int 20)))), (h2, .inl (cB, 2000, .inl (upd (upd (upd (upd (upd (upd (upd (upd (upd (upd (upd (upd (upd (upd (upd (upd (upd (upd (upd (upd g0 0 (vp_nar .byte (Int8.toInt32 (Int32.toInt8 (x0 >>> (24 &&& 31)))))) 1 (vp_nar .byte (Int8.toInt32 (Int32.toInt8 (x0 >>> (16 &&& 31)))))) 2 (vp_nar .byte (Int8.toInt32 (Int32.toInt8 (x0 >>> (8 &&& 31)))))) 3 (vp_nar .byte (Int8.toInt32 (Int32.toInt8 (x0 >>> (0 &&& 31)))))) 4 (vp_nar .byte (Int8.toInt32 (Int32.toInt8 (x1 >>> (24 &&& 31)))))) 5 (vp_nar .byte (Int8.toInt32 (Int32.toInt8 (x1 >>> (16 &&& 31)))))) 6 (vp_nar .byte (Int8.toInt32 (Int32.toInt8 (x1 >>> (8 &&& 31)))))) 7 (vp_nar .byte (Int8.toInt32 (Int32.toInt8 (x1 >>> (0 &&& 31)))))) 8 (vp_nar .byte (Int8.toInt32 (Int32.toInt8 (x2 >>> (24 &&& 31)))))) 9 (vp_nar .byte (Int8.toInt32 (Int32.toInt8 (x2 >>> (16 &&& 31)))))) 10 (vp_nar .byte (Int8.toInt32 (Int32.toInt8 (x2 >>> (8 &&& 31)))))) 11 (vp_nar .byte (Int8.toInt32 (Int32.toInt8 (x2 >>> (0 &&& 31)))))) 12 (vp_nar .byte (Int8.toInt32 (Int32.toInt8 (x3 >>> (24 &&& 31)))))) 13 (vp_nar .byte (Int8.toInt32 (Int32.toInt8 (x3 >>> (16 &&& 31)))))) 14 (vp_nar .byte (Int8.toInt32 (Int32.toInt8 (x3 >>> (8 &&& 31)))))) 15 (vp_nar .byte (Int8.toInt32 (Int32.toInt8 (x3 >>> (0 &&& 31)))))) 16 (vp_nar .byte (Int8.toInt32 (Int32.toInt8 (x4 >>> (24 &&& 31)))))) 17 (vp_nar .byte (Int8.toInt32 (Int32.toInt8 (x4 >>> (16 &&& 31)))))) 18 (vp_nar .byte (Int8.toInt32 (Int32.toInt8 (x4 >>> (8 &&& 31)))))) 19 (vp_nar .byte (Int8.toInt32 (Int32.toInt8 (x4 >>> (0 &&& 31)))))))), (h1, .inl (cJ, 1, .inr (.inl (vp_updL g1 0 20))))]) [1, 2, 0] rfl
  have hD := hD.sub (ws' := [(h0, .inr (11, ((((((((((((((((((((f0.set 12 (.int 1)).set 12 (.int 2)).set 12 (.int 3)).set 12 (.int 4)).set 12 (.int 5)).set 12 (.int 6)).set 12 (.int 7)).set 12 (.int 8)).set 12 (.int 9)).set 12 (.int 10)).set 12 (.int 11)).set 12 (.int 12)).set 12 (.int 13)).set 12 (.int 14)).set 12 (.int 15)).set 12 (.int 16)).set 12 (.int 17)).set 12 (.int 18)).set 12 (.int 19)).set 12 (.int 20)))), (h2, .inl (cB, 2000, .inl (upd (upd (upd (upd (upd (upd (upd (upd (upd (upd (upd (upd (upd (upd (upd (upd (upd (upd (upd (upd g0 0 (vp_nar .byte (Int8.toInt32 (Int32.toInt8 (x0 >>> (24 &&& 31)))))) 1 (vp_nar .byte (Int8.toInt32 (Int32.toInt8 (x0 >>> (16 &&& 31)))))) 2 (vp_nar .byte (Int8.toInt32 (Int32.toInt8 (x0 >>> (8 &&& 31)))))) 3 (vp_nar .byte (Int8.toInt32 (Int32.toInt8 (x0 >>> (0 &&& 31)))))) 4 (vp_nar .byte (Int8.toInt32 (Int32.toInt8 (x1 >>> (24 &&& 31)))))) 5 (vp_nar .byte (Int8.toInt32 (Int32.toInt8 (x1 >>> (16 &&& 31)))))) 6 (vp_nar .byte (Int8.toInt32 (Int32.toInt8 (x1 >>> (8 &&& 31)))))) 7 (vp_nar .byte (Int8.toInt32 (Int32.toInt8 (x1 >>> (0 &&& 31)))))) 8 (vp_nar .byte (Int8.toInt32 (Int32.toInt8 (x2 >>> (24 &&& 31)))))) 9 (vp_nar .byte (Int8.toInt32 (Int32.toInt8 (x2 >>> (16 &&& 31)))))) 10 (vp_nar .byte (Int8.toInt32 (Int32.toInt8 (x2 >>> (8 &&& 31)))))) 11 (vp_nar .byte (Int8.toInt32 (Int32.toInt8 (x2 >>> (0 &&& 31)))))) 12 (vp_nar .byte (Int8.toInt32 (Int32.toInt8 (x3 >>> (24 &&& 31)))))) 13 (vp_nar .byte (Int8.toInt32 (Int32.toInt8 (x3 >>> (16 &&& 31)))))) 14 (vp_nar .byte (Int8.toInt32 (Int32.toInt8 (x3 >>> (8 &&& 31)))))) 15 (vp_nar .byte (Int8.toInt32 (Int32.toInt8 (x3 >>> (0 &&& 31)))))) 16 (vp_nar .byte (Int8.toInt32 (Int32.toInt8 (x4 >>> (24 &&& 31)))))) 17 (vp_nar .byte (Int8.toInt32 (Int32.toInt8 (x4 >>> (16 &&& 31)))))) 18 (vp_nar .byte (Int8.toInt32 (Int32.toInt8 (x4 >>> (8 &&& 31)))))) 19 (vp_nar .byte (Int8.toInt32 (Int32.toInt8 (x4 >>> (0 &&& 31)))))))), (h1, .inl (cJ, 1, .inr (.inl (vp_updL g1 0 20))))]) [1, 2, 0] (by decide +kernel) rfl
  exact W.iret (v := 0) hx hb hr (fun t ht hW => ⟨⟨0, (), rfl, rfl, kB_mk ht hW hP hK hD⟩, hS.F ht⟩) hS.2.2 dL_feed_24
set_option maxHeartbeats 400000000 in
set_option maxRecDepth 100000 in
theorem c_X12_feed_0 (l : Launch) (E : kE) (D : va_G) (cI cJ cB cZ : ClassId) (h0 : Nat) (x0 : Int32) (x1 : Int32) (x2 : Int32) (x3 : Int32) (x4 : Int32) (f0 : List Value) (h1 : Nat) (g0 : Nat → Int32) (e0 : f0[2]? = some (.int 0)) (e1 : f0[0]? = some (.int 0)) (e2 : f0[1]? = some (.ref h1)) : kI l E D (kT cI cJ cB cZ) yX12_feed vW_X12_feed ({ frames := 0, cells := 0, slots := 0, locals := 0 }) [.ref h0, .int x0, .int x1, .int x2, .int x3, .int x4] [(h0, .inr (12, f0)), (h1, .inl (cB, 2000, .inl g0))] (20) [(h0, .inr (12, (((((((((((((((((((((f0.set 0 (.int 0)).set 2 (.int 1)).set 2 (.int 2)).set 2 (.int 3)).set 2 (.int 4)).set 2 (.int 5)).set 2 (.int 6)).set 2 (.int 7)).set 2 (.int 8)).set 2 (.int 9)).set 2 (.int 10)).set 2 (.int 11)).set 2 (.int 12)).set 2 (.int 13)).set 2 (.int 14)).set 2 (.int 15)).set 2 (.int 16)).set 2 (.int 17)).set 2 (.int 18)).set 2 (.int 19)).set 2 (.int 20)))), (h1, .inl (cB, 2000, .inl (upd (upd (upd (upd (upd (upd (upd (upd (upd (upd (upd (upd (upd (upd (upd (upd (upd (upd (upd (upd g0 0 (vp_nar .byte (Int8.toInt32 (Int32.toInt8 (x0 >>> (24 &&& 31)))))) 1 (vp_nar .byte (Int8.toInt32 (Int32.toInt8 (x0 >>> (16 &&& 31)))))) 2 (vp_nar .byte (Int8.toInt32 (Int32.toInt8 (x0 >>> (8 &&& 31)))))) 3 (vp_nar .byte (Int8.toInt32 (Int32.toInt8 (x0 >>> (0 &&& 31)))))) 4 (vp_nar .byte (Int8.toInt32 (Int32.toInt8 (x1 >>> (24 &&& 31)))))) 5 (vp_nar .byte (Int8.toInt32 (Int32.toInt8 (x1 >>> (16 &&& 31)))))) 6 (vp_nar .byte (Int8.toInt32 (Int32.toInt8 (x1 >>> (8 &&& 31)))))) 7 (vp_nar .byte (Int8.toInt32 (Int32.toInt8 (x1 >>> (0 &&& 31)))))) 8 (vp_nar .byte (Int8.toInt32 (Int32.toInt8 (x2 >>> (24 &&& 31)))))) 9 (vp_nar .byte (Int8.toInt32 (Int32.toInt8 (x2 >>> (16 &&& 31)))))) 10 (vp_nar .byte (Int8.toInt32 (Int32.toInt8 (x2 >>> (8 &&& 31)))))) 11 (vp_nar .byte (Int8.toInt32 (Int32.toInt8 (x2 >>> (0 &&& 31)))))) 12 (vp_nar .byte (Int8.toInt32 (Int32.toInt8 (x3 >>> (24 &&& 31)))))) 13 (vp_nar .byte (Int8.toInt32 (Int32.toInt8 (x3 >>> (16 &&& 31)))))) 14 (vp_nar .byte (Int8.toInt32 (Int32.toInt8 (x3 >>> (8 &&& 31)))))) 15 (vp_nar .byte (Int8.toInt32 (Int32.toInt8 (x3 >>> (0 &&& 31)))))) 16 (vp_nar .byte (Int8.toInt32 (Int32.toInt8 (x4 >>> (24 &&& 31)))))) 17 (vp_nar .byte (Int8.toInt32 (Int32.toInt8 (x4 >>> (16 &&& 31)))))) 18 (vp_nar .byte (Int8.toInt32 (Int32.toInt8 (x4 >>> (8 &&& 31)))))) 19 (vp_nar .byte (Int8.toInt32 (Int32.toInt8 (x4 >>> (0 &&& 31))))))))] 0 0 := by
  intro sz
  refine Met.ofW (cc := cX12_feed) (maxL := 8) (ret := (some .int)) (by decide) rfl ?_
  intro p e s m args below meth c s₁ B hml hv
  obtain ⟨rfl, hsz, hP, hK, hD0, hN, hX⟩ := hv
  have hx := B.exec
  have hb := B.bytes
  have hr := B.returns
  have hts := atoms_spec (ws := vW_X12_feed) B.pre
  have hown : s.vm.findClass RX12 = some m.cls := findClass_of_methodNamed B.named
  have hlocks := B.notSynchronized
  have hin12 : ∀ w ∈ wsX120, w ∈ vW_X12_feed := u9_X12_feed_wsX120
  subst hsz
  have hD := hD0.self (sz := s.heap.size)
  have hAE := k_AE hD0 hX
  generalize hAe : va_A [(h0, .inr (12, f0)), (h1, .inl (cB, 2000, .inl g0))] s.heap.size = A at hD hAE ⊢
  have hA : ∀ q : Nat, s.heap.size ≤ q → A q := fun q h => by rw [← hAe]; exact Or.inr h
  have hS : va_S A s.heap s.heap [] := va_S.rf
  have hP : va_P D vwCl [(h0, .inr (12, f0)), (h1, .inl (cB, 2000, .inl g0))] s.heap := hP
  have hl := lv_entry ([.ref h0, .int x0, .int x1, .int x2, .int x3, .int x4] : List Value) (n := 8) (Nat.le_of_ble_eq_true rfl)
  rw [lg_entry_eq]
  generalize (lg_sl ([.ref h0, .int x0, .int x1, .int x2, .int x3, .int x4]) ++ List.replicate (8 - (lg_sl ([.ref h0, .int x0, .int x1, .int x2, .int x3, .int x4])).length) Slot.unset).toArray = ls at hl ⊢
  have hl : lv_has ls 8 [(0, .ref h0), (1, .int x0), (2, .int x1), (3, .int x2), (4, .int x3), (5, .int x4)] := hl
  refine lv_aload_n hx hb dX12_feed_0 rfl (lv_at hl 0 rfl) ?_
  refine lv_aload_n hx hb dX12_feed_1 rfl (lv_at hl 0 rfl) ?_
  refine k_get (D := D) (ci := 12) (v := .int 0) (N := 195) hx hb hts hin12 hown hK hP 0 rfl rfl (by decide) f9_12_2 (hts (.fieldLink RX12 485 "IntegerHouseModel" "taped" "I") (o9_X12_feed _ (List.mem_of_getElem? (i := 0) rfl))) e0 dX12_feed_2 ?_
  refine lv_bipush (v := 20) hx hb dX12_feed_5 (by decide) ?_
  refine lv_iadd hx hb dX12_feed_7 ?_
  refine k_topi (y := 20) (by decide) ?_
  refine lv_sipush (v := 2000) hx hb dX12_feed_8 (by decide) ?_
  refine lv_icmp_le (tgt := 18) hx hb dX12_feed_11 (by decide) (fun _ => ?_) (fun c9 => absurd (by decide) c9)
  refine lv_iconst (v := 0) hx hb dX12_feed_18 (by decide) ?_
  refine k_put (D := D) (ci := 12) (v := .int 0) (ty := .int) (N := 195) hx hb hts hin12 tyX12 tyX12_ok nmX12 hown hK hP hD hS 0 rfl rfl (by decide) f9_12_0 (hts (.fieldLink RX12 3 "IntegerHouseModel" "thrown" "I") (o9_X12_feed _ (List.mem_of_getElem? (i := 1) rfl))) rfl pd_2 rfl rfl (k_len e1) dX12_feed_19 (fun H locs hP hD hS => ?_)
  have hP : va_P D vwCl [(h0, .inr (12, (f0.set 0 (.int 0)))), (h1, .inl (cB, 2000, .inl g0))] H := hP
  have hD : va_D A [(h0, .inr (12, (f0.set 0 (.int 0)))), (h1, .inl (cB, 2000, .inl g0))] := hD
  refine lv_aload_n hx hb dX12_feed_22 rfl (lv_at hl 0 rfl) ?_
  refine k_get (D := D) (ci := 12) (v := .int 0) (N := 195) hx hb hts hin12 hown hK hP 0 rfl rfl (by decide) f9_12_0 (hts (.fieldLink RX12 3 "IntegerHouseModel" "thrown" "I") (o9_X12_feed _ (List.mem_of_getElem? (i := 1) rfl))) (k_set e1) dX12_feed_23 ?_
  refine lv_if_le (tgt := 31) hx hb dX12_feed_26 (by decide) (fun _ => ?_) (fun c9 => absurd (by decide) c9)
  refine lv_iconst (v := 0) hx hb dX12_feed_31 (by decide) ?_
  refine lv_istore (lv' := [(6, .int 0), (0, .ref h0), (1, .int x0), (2, .int x1), (3, .int x2), (4, .int x3), (5, .int x4)]) hx hb dX12_feed_32 hl (by decide) rfl (fun ls hl => ?_)
  refine lv_iload hx hb dX12_feed_34 (lv_at hl 0 rfl) ?_
  refine lv_bipush (v := 20) hx hb dX12_feed_36 (by decide) ?_
  refine lv_icmp_ge (tgt := 128) hx hb dX12_feed_38 (by decide) (fun c9 => absurd c9 (by decide)) (fun _ => ?_)
  refine lv_iload hx hb dX12_feed_41 (lv_at hl 0 rfl) ?_
  refine lv_iconst (v := 4) hx hb dX12_feed_43 (by decide) ?_
  refine lv_icmp_ge (tgt := 51) hx hb dX12_feed_44 (by decide) (fun c9 => absurd c9 (by decide)) (fun _ => ?_)
  refine lv_iload_n hx hb dX12_feed_47 rfl (lv_at hl 2 rfl) ?_
  refine lv_goto (tgt := 87) hx hb dX12_feed_48 (by decide) ?_
  refine lv_istore (lv' := [(7, .int x0), (6, .int 0), (0, .ref h0), (1, .int x0), (2, .int x1), (3, .int x2), (4, .int x3), (5, .int x4)]) hx hb dX12_feed_87 hl (by decide) rfl (fun ls hl => ?_)
  refine lv_aload_n hx hb dX12_feed_89 rfl (lv_at hl 2 rfl) ?_
  refine k_get (D := D) (ci := 12) (v := .ref h1) (N := 195) hx hb hts hin12 hown hK hP 0 rfl rfl (by decide) f9_12_1 (hts (.fieldLink RX12 15 "IntegerHouseModel" "tape" "[B") (o9_X12_feed _ (List.mem_of_getElem? (i := 2) rfl))) (k_ne (by decide) e2) dX12_feed_90 ?_
  refine lv_aload_n hx hb dX12_feed_93 rfl (lv_at hl 2 rfl) ?_
  refine k_get (D := D) (ci := 12) (v := .int 0) (N := 195) hx hb hts hin12 hown hK hP 0 rfl rfl (by decide) f9_12_2 (hts (.fieldLink RX12 485 "IntegerHouseModel" "taped" "I") (o9_X12_feed _ (List.mem_of_getElem? (i := 0) rfl))) (k_ne (by decide) e0) dX12_feed_94 ?_
  refine lv_iload hx hb dX12_feed_97 (lv_at hl 0 rfl) ?_
  refine lv_bipush (v := 24) hx hb dX12_feed_99 (by decide) ?_
  refine lv_bipush (v := 8) hx hb dX12_feed_101 (by decide) ?_
  refine lv_iload hx hb dX12_feed_103 (lv_at hl 1 rfl) ?_
  refine lv_iconst (v := 4) hx hb dX12_feed_105 (by decide) ?_
  refine lv_irem hx hb dX12_feed_106 (by decide) ?_
  refine k_topi (y := 0) (by decide) ?_
  refine lv_imul hx hb dX12_feed_107 ?_
  refine k_topi (y := 0) (by decide) ?_
  refine lv_isub hx hb dX12_feed_108 ?_
  refine k_topi (y := 24) (by decide) ?_
  refine lv_ishr hx hb dX12_feed_109 ?_
  refine lv_i2b (v := (Int8.toInt32 (Int32.toInt8 (x0 >>> (24 &&& 31))))) hx hb dX12_feed_110 rfl ?_
  refine va_bast hx hb hK hP hD hS 1 2 rfl rfl (k_in (by decide)) dX12_feed_111 (fun H locs hP hD hS => ?_)
  have hP : va_P D vwCl [(h0, .inr (12, (f0.set 0 (.int 0)))), (h1, .inl (cB, 2000, .inl (upd g0 0 (vp_nar .byte (Int8.toInt32 (Int32.toInt8 (x0 >>> (24 &&& 31))))))))] H := hP
  have hD : va_D A [(h0, .inr (12, (f0.set 0 (.int 0)))), (h1, .inl (cB, 2000, .inl (upd g0 0 (vp_nar .byte (Int8.toInt32 (Int32.toInt8 (x0 >>> (24 &&& 31))))))))] := hD
  refine lv_aload_n hx hb dX12_feed_112 rfl (lv_at hl 2 rfl) ?_
  refine lv_dup hx hb dX12_feed_113 rfl ?_
  refine k_get (D := D) (ci := 12) (v := .int 0) (N := 195) hx hb hts hin12 hown hK hP 0 rfl rfl (by decide) f9_12_2 (hts (.fieldLink RX12 485 "IntegerHouseModel" "taped" "I") (o9_X12_feed _ (List.mem_of_getElem? (i := 0) rfl))) (k_ne (by decide) e0) dX12_feed_114 ?_
  refine lv_iconst (v := 1) hx hb dX12_feed_117 (by decide) ?_
  refine lv_iadd hx hb dX12_feed_118 ?_
  refine k_topi (y := 1) (by decide) ?_
  refine k_put (D := D) (ci := 12) (v := .int 1) (ty := .int) (N := 195) hx hb hts hin12 tyX12 tyX12_ok nmX12 hown hK hP hD hS 0 rfl rfl (by decide) f9_12_2 (hts (.fieldLink RX12 485 "IntegerHouseModel" "taped" "I") (o9_X12_feed _ (List.mem_of_getElem? (i := 0) rfl))) rfl pd_2 rfl rfl (k_len (k_ne (by decide) e0)) dX12_feed_119 (fun H locs hP hD hS => ?_)
  have hP : va_P D vwCl [(h0, .inr (12, ((f0.set 0 (.int 0)).set 2 (.int 1)))), (h1, .inl (cB, 2000, .inl (upd g0 0 (vp_nar .byte (Int8.toInt32 (Int32.toInt8 (x0 >>> (24 &&& 31))))))))] H := hP
  have hD : va_D A [(h0, .inr (12, ((f0.set 0 (.int 0)).set 2 (.int 1)))), (h1, .inl (cB, 2000, .inl (upd g0 0 (vp_nar .byte (Int8.toInt32 (Int32.toInt8 (x0 >>> (24 &&& 31))))))))] := hD
  refine lv_iinc (v := 1) (lv' := [(6, .int 1), (7, .int x0), (0, .ref h0), (1, .int x0), (2, .int x1), (3, .int x2), (4, .int x3), (5, .int x4)]) hx hb dX12_feed_122 hl (k := 1) rfl (by decide) (by decide) rfl (fun ls hl => ?_)
  refine lv_goto (tgt := 34) hx hb dX12_feed_125 (by decide) ?_
  refine lv_iload hx hb dX12_feed_34 (lv_at hl 0 rfl) ?_
  refine lv_bipush (v := 20) hx hb dX12_feed_36 (by decide) ?_
  refine lv_icmp_ge (tgt := 128) hx hb dX12_feed_38 (by decide) (fun c9 => absurd c9 (by decide)) (fun _ => ?_)
  refine lv_iload hx hb dX12_feed_41 (lv_at hl 0 rfl) ?_
  refine lv_iconst (v := 4) hx hb dX12_feed_43 (by decide) ?_
  refine lv_icmp_ge (tgt := 51) hx hb dX12_feed_44 (by decide) (fun c9 => absurd c9 (by decide)) (fun _ => ?_)
  refine lv_iload_n hx hb dX12_feed_47 rfl (lv_at hl 3 rfl) ?_
  refine lv_goto (tgt := 87) hx hb dX12_feed_48 (by decide) ?_
  refine lv_istore (lv' := [(7, .int x0), (6, .int 1), (0, .ref h0), (1, .int x0), (2, .int x1), (3, .int x2), (4, .int x3), (5, .int x4)]) hx hb dX12_feed_87 hl (by decide) rfl (fun ls hl => ?_)
  refine lv_aload_n hx hb dX12_feed_89 rfl (lv_at hl 2 rfl) ?_
  refine k_get (D := D) (ci := 12) (v := .ref h1) (N := 195) hx hb hts hin12 hown hK hP 0 rfl rfl (by decide) f9_12_1 (hts (.fieldLink RX12 15 "IntegerHouseModel" "tape" "[B") (o9_X12_feed _ (List.mem_of_getElem? (i := 2) rfl))) (k_ne (by decide) (k_ne (by decide) e2)) dX12_feed_90 ?_
  refine lv_aload_n hx hb dX12_feed_93 rfl (lv_at hl 2 rfl) ?_
  refine k_get (D := D) (ci := 12) (v := .int 1) (N := 195) hx hb hts hin12 hown hK hP 0 rfl rfl (by decide) f9_12_2 (hts (.fieldLink RX12 485 "IntegerHouseModel" "taped" "I") (o9_X12_feed _ (List.mem_of_getElem? (i := 0) rfl))) (k_set (k_ne (by decide) e0)) dX12_feed_94 ?_
  refine lv_iload hx hb dX12_feed_97 (lv_at hl 0 rfl) ?_
  refine lv_bipush (v := 24) hx hb dX12_feed_99 (by decide) ?_
  refine lv_bipush (v := 8) hx hb dX12_feed_101 (by decide) ?_
  refine lv_iload hx hb dX12_feed_103 (lv_at hl 1 rfl) ?_
  refine lv_iconst (v := 4) hx hb dX12_feed_105 (by decide) ?_
  refine lv_irem hx hb dX12_feed_106 (by decide) ?_
  refine k_topi (y := 1) (by decide) ?_
  refine lv_imul hx hb dX12_feed_107 ?_
  refine k_topi (y := 8) (by decide) ?_
  refine lv_isub hx hb dX12_feed_108 ?_
  refine k_topi (y := 16) (by decide) ?_
  refine lv_ishr hx hb dX12_feed_109 ?_
  refine lv_i2b (v := (Int8.toInt32 (Int32.toInt8 (x0 >>> (16 &&& 31))))) hx hb dX12_feed_110 rfl ?_
  refine va_bast hx hb hK hP hD hS 1 2 rfl rfl (k_in (by decide)) dX12_feed_111 (fun H locs hP hD hS => ?_)
  have hP : va_P D vwCl [(h0, .inr (12, ((f0.set 0 (.int 0)).set 2 (.int 1)))), (h1, .inl (cB, 2000, .inl (upd (upd g0 0 (vp_nar .byte (Int8.toInt32 (Int32.toInt8 (x0 >>> (24 &&& 31)))))) 1 (vp_nar .byte (Int8.toInt32 (Int32.toInt8 (x0 >>> (16 &&& 31))))))))] H := hP
  have hD : va_D A [(h0, .inr (12, ((f0.set 0 (.int 0)).set 2 (.int 1)))), (h1, .inl (cB, 2000, .inl (upd (upd g0 0 (vp_nar .byte (Int8.toInt32 (Int32.toInt8 (x0 >>> (24 &&& 31)))))) 1 (vp_nar .byte (Int8.toInt32 (Int32.toInt8 (x0 >>> (16 &&& 31))))))))] := hD
  refine lv_aload_n hx hb dX12_feed_112 rfl (lv_at hl 2 rfl) ?_
  refine lv_dup hx hb dX12_feed_113 rfl ?_
  refine k_get (D := D) (ci := 12) (v := .int 1) (N := 195) hx hb hts hin12 hown hK hP 0 rfl rfl (by decide) f9_12_2 (hts (.fieldLink RX12 485 "IntegerHouseModel" "taped" "I") (o9_X12_feed _ (List.mem_of_getElem? (i := 0) rfl))) (k_set (k_ne (by decide) e0)) dX12_feed_114 ?_
  refine lv_iconst (v := 1) hx hb dX12_feed_117 (by decide) ?_
  refine lv_iadd hx hb dX12_feed_118 ?_
  refine k_topi (y := 2) (by decide) ?_
  refine k_put (D := D) (ci := 12) (v := .int 2) (ty := .int) (N := 195) hx hb hts hin12 tyX12 tyX12_ok nmX12 hown hK hP hD hS 0 rfl rfl (by decide) f9_12_2 (hts (.fieldLink RX12 485 "IntegerHouseModel" "taped" "I") (o9_X12_feed _ (List.mem_of_getElem? (i := 0) rfl))) rfl pd_2 rfl rfl (k_len (k_set (k_ne (by decide) e0))) dX12_feed_119 (fun H locs hP hD hS => ?_)
  have hP : va_P D vwCl [(h0, .inr (12, (((f0.set 0 (.int 0)).set 2 (.int 1)).set 2 (.int 2)))), (h1, .inl (cB, 2000, .inl (upd (upd g0 0 (vp_nar .byte (Int8.toInt32 (Int32.toInt8 (x0 >>> (24 &&& 31)))))) 1 (vp_nar .byte (Int8.toInt32 (Int32.toInt8 (x0 >>> (16 &&& 31))))))))] H := hP
  have hD : va_D A [(h0, .inr (12, (((f0.set 0 (.int 0)).set 2 (.int 1)).set 2 (.int 2)))), (h1, .inl (cB, 2000, .inl (upd (upd g0 0 (vp_nar .byte (Int8.toInt32 (Int32.toInt8 (x0 >>> (24 &&& 31)))))) 1 (vp_nar .byte (Int8.toInt32 (Int32.toInt8 (x0 >>> (16 &&& 31))))))))] := hD
  refine lv_iinc (v := 2) (lv' := [(6, .int 2), (7, .int x0), (0, .ref h0), (1, .int x0), (2, .int x1), (3, .int x2), (4, .int x3), (5, .int x4)]) hx hb dX12_feed_122 hl (k := 1) rfl (by decide) (by decide) rfl (fun ls hl => ?_)
  refine lv_goto (tgt := 34) hx hb dX12_feed_125 (by decide) ?_
  refine lv_iload hx hb dX12_feed_34 (lv_at hl 0 rfl) ?_
  refine lv_bipush (v := 20) hx hb dX12_feed_36 (by decide) ?_
  refine lv_icmp_ge (tgt := 128) hx hb dX12_feed_38 (by decide) (fun c9 => absurd c9 (by decide)) (fun _ => ?_)
  refine lv_iload hx hb dX12_feed_41 (lv_at hl 0 rfl) ?_
  refine lv_iconst (v := 4) hx hb dX12_feed_43 (by decide) ?_
  refine lv_icmp_ge (tgt := 51) hx hb dX12_feed_44 (by decide) (fun c9 => absurd c9 (by decide)) (fun _ => ?_)
  refine lv_iload_n hx hb dX12_feed_47 rfl (lv_at hl 3 rfl) ?_
  refine lv_goto (tgt := 87) hx hb dX12_feed_48 (by decide) ?_
  refine lv_istore (lv' := [(7, .int x0), (6, .int 2), (0, .ref h0), (1, .int x0), (2, .int x1), (3, .int x2), (4, .int x3), (5, .int x4)]) hx hb dX12_feed_87 hl (by decide) rfl (fun ls hl => ?_)
  refine lv_aload_n hx hb dX12_feed_89 rfl (lv_at hl 2 rfl) ?_
  refine k_get (D := D) (ci := 12) (v := .ref h1) (N := 195) hx hb hts hin12 hown hK hP 0 rfl rfl (by decide) f9_12_1 (hts (.fieldLink RX12 15 "IntegerHouseModel" "tape" "[B") (o9_X12_feed _ (List.mem_of_getElem? (i := 2) rfl))) (k_ne (by decide) (k_ne (by decide) (k_ne (by decide) e2))) dX12_feed_90 ?_
  refine lv_aload_n hx hb dX12_feed_93 rfl (lv_at hl 2 rfl) ?_
  refine k_get (D := D) (ci := 12) (v := .int 2) (N := 195) hx hb hts hin12 hown hK hP 0 rfl rfl (by decide) f9_12_2 (hts (.fieldLink RX12 485 "IntegerHouseModel" "taped" "I") (o9_X12_feed _ (List.mem_of_getElem? (i := 0) rfl))) (k_set (k_set (k_ne (by decide) e0))) dX12_feed_94 ?_
  refine lv_iload hx hb dX12_feed_97 (lv_at hl 0 rfl) ?_
  refine lv_bipush (v := 24) hx hb dX12_feed_99 (by decide) ?_
  refine lv_bipush (v := 8) hx hb dX12_feed_101 (by decide) ?_
  refine lv_iload hx hb dX12_feed_103 (lv_at hl 1 rfl) ?_
  refine lv_iconst (v := 4) hx hb dX12_feed_105 (by decide) ?_
  refine lv_irem hx hb dX12_feed_106 (by decide) ?_
  refine k_topi (y := 2) (by decide) ?_
  refine lv_imul hx hb dX12_feed_107 ?_
  refine k_topi (y := 16) (by decide) ?_
  refine lv_isub hx hb dX12_feed_108 ?_
  refine k_topi (y := 8) (by decide) ?_
  refine lv_ishr hx hb dX12_feed_109 ?_
  refine lv_i2b (v := (Int8.toInt32 (Int32.toInt8 (x0 >>> (8 &&& 31))))) hx hb dX12_feed_110 rfl ?_
  refine va_bast hx hb hK hP hD hS 1 2 rfl rfl (k_in (by decide)) dX12_feed_111 (fun H locs hP hD hS => ?_)
  have hP : va_P D vwCl [(h0, .inr (12, (((f0.set 0 (.int 0)).set 2 (.int 1)).set 2 (.int 2)))), (h1, .inl (cB, 2000, .inl (upd (upd (upd g0 0 (vp_nar .byte (Int8.toInt32 (Int32.toInt8 (x0 >>> (24 &&& 31)))))) 1 (vp_nar .byte (Int8.toInt32 (Int32.toInt8 (x0 >>> (16 &&& 31)))))) 2 (vp_nar .byte (Int8.toInt32 (Int32.toInt8 (x0 >>> (8 &&& 31))))))))] H := hP
  have hD : va_D A [(h0, .inr (12, (((f0.set 0 (.int 0)).set 2 (.int 1)).set 2 (.int 2)))), (h1, .inl (cB, 2000, .inl (upd (upd (upd g0 0 (vp_nar .byte (Int8.toInt32 (Int32.toInt8 (x0 >>> (24 &&& 31)))))) 1 (vp_nar .byte (Int8.toInt32 (Int32.toInt8 (x0 >>> (16 &&& 31)))))) 2 (vp_nar .byte (Int8.toInt32 (Int32.toInt8 (x0 >>> (8 &&& 31))))))))] := hD
  refine lv_aload_n hx hb dX12_feed_112 rfl (lv_at hl 2 rfl) ?_
  refine lv_dup hx hb dX12_feed_113 rfl ?_
  refine k_get (D := D) (ci := 12) (v := .int 2) (N := 195) hx hb hts hin12 hown hK hP 0 rfl rfl (by decide) f9_12_2 (hts (.fieldLink RX12 485 "IntegerHouseModel" "taped" "I") (o9_X12_feed _ (List.mem_of_getElem? (i := 0) rfl))) (k_set (k_set (k_ne (by decide) e0))) dX12_feed_114 ?_
  refine lv_iconst (v := 1) hx hb dX12_feed_117 (by decide) ?_
  refine lv_iadd hx hb dX12_feed_118 ?_
  refine k_topi (y := 3) (by decide) ?_
  refine k_put (D := D) (ci := 12) (v := .int 3) (ty := .int) (N := 195) hx hb hts hin12 tyX12 tyX12_ok nmX12 hown hK hP hD hS 0 rfl rfl (by decide) f9_12_2 (hts (.fieldLink RX12 485 "IntegerHouseModel" "taped" "I") (o9_X12_feed _ (List.mem_of_getElem? (i := 0) rfl))) rfl pd_2 rfl rfl (k_len (k_set (k_set (k_ne (by decide) e0)))) dX12_feed_119 (fun H locs hP hD hS => ?_)
  have hP : va_P D vwCl [(h0, .inr (12, ((((f0.set 0 (.int 0)).set 2 (.int 1)).set 2 (.int 2)).set 2 (.int 3)))), (h1, .inl (cB, 2000, .inl (upd (upd (upd g0 0 (vp_nar .byte (Int8.toInt32 (Int32.toInt8 (x0 >>> (24 &&& 31)))))) 1 (vp_nar .byte (Int8.toInt32 (Int32.toInt8 (x0 >>> (16 &&& 31)))))) 2 (vp_nar .byte (Int8.toInt32 (Int32.toInt8 (x0 >>> (8 &&& 31))))))))] H := hP
  have hD : va_D A [(h0, .inr (12, ((((f0.set 0 (.int 0)).set 2 (.int 1)).set 2 (.int 2)).set 2 (.int 3)))), (h1, .inl (cB, 2000, .inl (upd (upd (upd g0 0 (vp_nar .byte (Int8.toInt32 (Int32.toInt8 (x0 >>> (24 &&& 31)))))) 1 (vp_nar .byte (Int8.toInt32 (Int32.toInt8 (x0 >>> (16 &&& 31)))))) 2 (vp_nar .byte (Int8.toInt32 (Int32.toInt8 (x0 >>> (8 &&& 31))))))))] := hD
  refine lv_iinc (v := 3) (lv' := [(6, .int 3), (7, .int x0), (0, .ref h0), (1, .int x0), (2, .int x1), (3, .int x2), (4, .int x3), (5, .int x4)]) hx hb dX12_feed_122 hl (k := 1) rfl (by decide) (by decide) rfl (fun ls hl => ?_)
  refine lv_goto (tgt := 34) hx hb dX12_feed_125 (by decide) ?_
  refine lv_iload hx hb dX12_feed_34 (lv_at hl 0 rfl) ?_
  refine lv_bipush (v := 20) hx hb dX12_feed_36 (by decide) ?_
  refine lv_icmp_ge (tgt := 128) hx hb dX12_feed_38 (by decide) (fun c9 => absurd c9 (by decide)) (fun _ => ?_)
  refine lv_iload hx hb dX12_feed_41 (lv_at hl 0 rfl) ?_
  refine lv_iconst (v := 4) hx hb dX12_feed_43 (by decide) ?_
  refine lv_icmp_ge (tgt := 51) hx hb dX12_feed_44 (by decide) (fun c9 => absurd c9 (by decide)) (fun _ => ?_)
  refine lv_iload_n hx hb dX12_feed_47 rfl (lv_at hl 3 rfl) ?_
  refine lv_goto (tgt := 87) hx hb dX12_feed_48 (by decide) ?_
  refine lv_istore (lv' := [(7, .int x0), (6, .int 3), (0, .ref h0), (1, .int x0), (2, .int x1), (3, .int x2), (4, .int x3), (5, .int x4)]) hx hb dX12_feed_87 hl (by decide) rfl (fun ls hl => ?_)
  refine lv_aload_n hx hb dX12_feed_89 rfl (lv_at hl 2 rfl) ?_
  refine k_get (D := D) (ci := 12) (v := .ref h1) (N := 195) hx hb hts hin12 hown hK hP 0 rfl rfl (by decide) f9_12_1 (hts (.fieldLink RX12 15 "IntegerHouseModel" "tape" "[B") (o9_X12_feed _ (List.mem_of_getElem? (i := 2) rfl))) (k_ne (by decide) (k_ne (by decide) (k_ne (by decide) (k_ne (by decide) e2)))) dX12_feed_90 ?_
  refine lv_aload_n hx hb dX12_feed_93 rfl (lv_at hl 2 rfl) ?_
  refine k_get (D := D) (ci := 12) (v := .int 3) (N := 195) hx hb hts hin12 hown hK hP 0 rfl rfl (by decide) f9_12_2 (hts (.fieldLink RX12 485 "IntegerHouseModel" "taped" "I") (o9_X12_feed _ (List.mem_of_getElem? (i := 0) rfl))) (k_set (k_set (k_set (k_ne (by decide) e0)))) dX12_feed_94 ?_
  refine lv_iload hx hb dX12_feed_97 (lv_at hl 0 rfl) ?_
  refine lv_bipush (v := 24) hx hb dX12_feed_99 (by decide) ?_
  refine lv_bipush (v := 8) hx hb dX12_feed_101 (by decide) ?_
  refine lv_iload hx hb dX12_feed_103 (lv_at hl 1 rfl) ?_
  refine lv_iconst (v := 4) hx hb dX12_feed_105 (by decide) ?_
  refine lv_irem hx hb dX12_feed_106 (by decide) ?_
  refine k_topi (y := 3) (by decide) ?_
  refine lv_imul hx hb dX12_feed_107 ?_
  refine k_topi (y := 24) (by decide) ?_
  refine lv_isub hx hb dX12_feed_108 ?_
  refine k_topi (y := 0) (by decide) ?_
  refine lv_ishr hx hb dX12_feed_109 ?_
  refine lv_i2b (v := (Int8.toInt32 (Int32.toInt8 (x0 >>> (0 &&& 31))))) hx hb dX12_feed_110 rfl ?_
  refine va_bast hx hb hK hP hD hS 1 2 rfl rfl (k_in (by decide)) dX12_feed_111 (fun H locs hP hD hS => ?_)
  have hP : va_P D vwCl [(h0, .inr (12, ((((f0.set 0 (.int 0)).set 2 (.int 1)).set 2 (.int 2)).set 2 (.int 3)))), (h1, .inl (cB, 2000, .inl (upd (upd (upd (upd g0 0 (vp_nar .byte (Int8.toInt32 (Int32.toInt8 (x0 >>> (24 &&& 31)))))) 1 (vp_nar .byte (Int8.toInt32 (Int32.toInt8 (x0 >>> (16 &&& 31)))))) 2 (vp_nar .byte (Int8.toInt32 (Int32.toInt8 (x0 >>> (8 &&& 31)))))) 3 (vp_nar .byte (Int8.toInt32 (Int32.toInt8 (x0 >>> (0 &&& 31))))))))] H := hP
  have hD : va_D A [(h0, .inr (12, ((((f0.set 0 (.int 0)).set 2 (.int 1)).set 2 (.int 2)).set 2 (.int 3)))), (h1, .inl (cB, 2000, .inl (upd (upd (upd (upd g0 0 (vp_nar .byte (Int8.toInt32 (Int32.toInt8 (x0 >>> (24 &&& 31)))))) 1 (vp_nar .byte (Int8.toInt32 (Int32.toInt8 (x0 >>> (16 &&& 31)))))) 2 (vp_nar .byte (Int8.toInt32 (Int32.toInt8 (x0 >>> (8 &&& 31)))))) 3 (vp_nar .byte (Int8.toInt32 (Int32.toInt8 (x0 >>> (0 &&& 31))))))))] := hD
  refine lv_aload_n hx hb dX12_feed_112 rfl (lv_at hl 2 rfl) ?_
  refine lv_dup hx hb dX12_feed_113 rfl ?_
  refine k_get (D := D) (ci := 12) (v := .int 3) (N := 195) hx hb hts hin12 hown hK hP 0 rfl rfl (by decide) f9_12_2 (hts (.fieldLink RX12 485 "IntegerHouseModel" "taped" "I") (o9_X12_feed _ (List.mem_of_getElem? (i := 0) rfl))) (k_set (k_set (k_set (k_ne (by decide) e0)))) dX12_feed_114 ?_
  refine lv_iconst (v := 1) hx hb dX12_feed_117 (by decide) ?_
  refine lv_iadd hx hb dX12_feed_118 ?_
  refine k_topi (y := 4) (by decide) ?_
  refine k_put (D := D) (ci := 12) (v := .int 4) (ty := .int) (N := 195) hx hb hts hin12 tyX12 tyX12_ok nmX12 hown hK hP hD hS 0 rfl rfl (by decide) f9_12_2 (hts (.fieldLink RX12 485 "IntegerHouseModel" "taped" "I") (o9_X12_feed _ (List.mem_of_getElem? (i := 0) rfl))) rfl pd_2 rfl rfl (k_len (k_set (k_set (k_set (k_ne (by decide) e0))))) dX12_feed_119 (fun H locs hP hD hS => ?_)
  have hP : va_P D vwCl [(h0, .inr (12, (((((f0.set 0 (.int 0)).set 2 (.int 1)).set 2 (.int 2)).set 2 (.int 3)).set 2 (.int 4)))), (h1, .inl (cB, 2000, .inl (upd (upd (upd (upd g0 0 (vp_nar .byte (Int8.toInt32 (Int32.toInt8 (x0 >>> (24 &&& 31)))))) 1 (vp_nar .byte (Int8.toInt32 (Int32.toInt8 (x0 >>> (16 &&& 31)))))) 2 (vp_nar .byte (Int8.toInt32 (Int32.toInt8 (x0 >>> (8 &&& 31)))))) 3 (vp_nar .byte (Int8.toInt32 (Int32.toInt8 (x0 >>> (0 &&& 31))))))))] H := hP
  have hD : va_D A [(h0, .inr (12, (((((f0.set 0 (.int 0)).set 2 (.int 1)).set 2 (.int 2)).set 2 (.int 3)).set 2 (.int 4)))), (h1, .inl (cB, 2000, .inl (upd (upd (upd (upd g0 0 (vp_nar .byte (Int8.toInt32 (Int32.toInt8 (x0 >>> (24 &&& 31)))))) 1 (vp_nar .byte (Int8.toInt32 (Int32.toInt8 (x0 >>> (16 &&& 31)))))) 2 (vp_nar .byte (Int8.toInt32 (Int32.toInt8 (x0 >>> (8 &&& 31)))))) 3 (vp_nar .byte (Int8.toInt32 (Int32.toInt8 (x0 >>> (0 &&& 31))))))))] := hD
  refine lv_iinc (v := 4) (lv' := [(6, .int 4), (7, .int x0), (0, .ref h0), (1, .int x0), (2, .int x1), (3, .int x2), (4, .int x3), (5, .int x4)]) hx hb dX12_feed_122 hl (k := 1) rfl (by decide) (by decide) rfl (fun ls hl => ?_)
  refine lv_goto (tgt := 34) hx hb dX12_feed_125 (by decide) ?_
  refine lv_iload hx hb dX12_feed_34 (lv_at hl 0 rfl) ?_
  refine lv_bipush (v := 20) hx hb dX12_feed_36 (by decide) ?_
  refine lv_icmp_ge (tgt := 128) hx hb dX12_feed_38 (by decide) (fun c9 => absurd c9 (by decide)) (fun _ => ?_)
  refine lv_iload hx hb dX12_feed_41 (lv_at hl 0 rfl) ?_
  refine lv_iconst (v := 4) hx hb dX12_feed_43 (by decide) ?_
  refine lv_icmp_ge (tgt := 51) hx hb dX12_feed_44 (by decide) (fun _ => ?_) (fun c9 => absurd (by decide) c9)
  refine lv_iload hx hb dX12_feed_51 (lv_at hl 0 rfl) ?_
  refine lv_bipush (v := 8) hx hb dX12_feed_53 (by decide) ?_
  refine lv_icmp_ge (tgt := 62) hx hb dX12_feed_55 (by decide) (fun c9 => absurd c9 (by decide)) (fun _ => ?_)
  refine lv_iload_n hx hb dX12_feed_58 rfl (lv_at hl 4 rfl) ?_
  refine lv_goto (tgt := 87) hx hb dX12_feed_59 (by decide) ?_
  refine lv_istore (lv' := [(7, .int x1), (6, .int 4), (0, .ref h0), (1, .int x0), (2, .int x1), (3, .int x2), (4, .int x3), (5, .int x4)]) hx hb dX12_feed_87 hl (by decide) rfl (fun ls hl => ?_)
  refine lv_aload_n hx hb dX12_feed_89 rfl (lv_at hl 2 rfl) ?_
  refine k_get (D := D) (ci := 12) (v := .ref h1) (N := 195) hx hb hts hin12 hown hK hP 0 rfl rfl (by decide) f9_12_1 (hts (.fieldLink RX12 15 "IntegerHouseModel" "tape" "[B") (o9_X12_feed _ (List.mem_of_getElem? (i := 2) rfl))) (k_ne (by decide) (k_ne (by decide) (k_ne (by decide) (k_ne (by decide) (k_ne (by decide) e2))))) dX12_feed_90 ?_
  refine lv_aload_n hx hb dX12_feed_93 rfl (lv_at hl 2 rfl) ?_
  refine k_get (D := D) (ci := 12) (v := .int 4) (N := 195) hx hb hts hin12 hown hK hP 0 rfl rfl (by decide) f9_12_2 (hts (.fieldLink RX12 485 "IntegerHouseModel" "taped" "I") (o9_X12_feed _ (List.mem_of_getElem? (i := 0) rfl))) (k_set (k_set (k_set (k_set (k_ne (by decide) e0))))) dX12_feed_94 ?_
  refine lv_iload hx hb dX12_feed_97 (lv_at hl 0 rfl) ?_
  refine lv_bipush (v := 24) hx hb dX12_feed_99 (by decide) ?_
  refine lv_bipush (v := 8) hx hb dX12_feed_101 (by decide) ?_
  refine lv_iload hx hb dX12_feed_103 (lv_at hl 1 rfl) ?_
  refine lv_iconst (v := 4) hx hb dX12_feed_105 (by decide) ?_
  refine lv_irem hx hb dX12_feed_106 (by decide) ?_
  refine k_topi (y := 0) (by decide) ?_
  refine lv_imul hx hb dX12_feed_107 ?_
  refine k_topi (y := 0) (by decide) ?_
  refine lv_isub hx hb dX12_feed_108 ?_
  refine k_topi (y := 24) (by decide) ?_
  refine lv_ishr hx hb dX12_feed_109 ?_
  refine lv_i2b (v := (Int8.toInt32 (Int32.toInt8 (x1 >>> (24 &&& 31))))) hx hb dX12_feed_110 rfl ?_
  refine va_bast hx hb hK hP hD hS 1 2 rfl rfl (k_in (by decide)) dX12_feed_111 (fun H locs hP hD hS => ?_)
  have hP : va_P D vwCl [(h0, .inr (12, (((((f0.set 0 (.int 0)).set 2 (.int 1)).set 2 (.int 2)).set 2 (.int 3)).set 2 (.int 4)))), (h1, .inl (cB, 2000, .inl (upd (upd (upd (upd (upd g0 0 (vp_nar .byte (Int8.toInt32 (Int32.toInt8 (x0 >>> (24 &&& 31)))))) 1 (vp_nar .byte (Int8.toInt32 (Int32.toInt8 (x0 >>> (16 &&& 31)))))) 2 (vp_nar .byte (Int8.toInt32 (Int32.toInt8 (x0 >>> (8 &&& 31)))))) 3 (vp_nar .byte (Int8.toInt32 (Int32.toInt8 (x0 >>> (0 &&& 31)))))) 4 (vp_nar .byte (Int8.toInt32 (Int32.toInt8 (x1 >>> (24 &&& 31))))))))] H := hP
  have hD : va_D A [(h0, .inr (12, (((((f0.set 0 (.int 0)).set 2 (.int 1)).set 2 (.int 2)).set 2 (.int 3)).set 2 (.int 4)))), (h1, .inl (cB, 2000, .inl (upd (upd (upd (upd (upd g0 0 (vp_nar .byte (Int8.toInt32 (Int32.toInt8 (x0 >>> (24 &&& 31)))))) 1 (vp_nar .byte (Int8.toInt32 (Int32.toInt8 (x0 >>> (16 &&& 31)))))) 2 (vp_nar .byte (Int8.toInt32 (Int32.toInt8 (x0 >>> (8 &&& 31)))))) 3 (vp_nar .byte (Int8.toInt32 (Int32.toInt8 (x0 >>> (0 &&& 31)))))) 4 (vp_nar .byte (Int8.toInt32 (Int32.toInt8 (x1 >>> (24 &&& 31))))))))] := hD
  refine lv_aload_n hx hb dX12_feed_112 rfl (lv_at hl 2 rfl) ?_
  refine lv_dup hx hb dX12_feed_113 rfl ?_
  refine k_get (D := D) (ci := 12) (v := .int 4) (N := 195) hx hb hts hin12 hown hK hP 0 rfl rfl (by decide) f9_12_2 (hts (.fieldLink RX12 485 "IntegerHouseModel" "taped" "I") (o9_X12_feed _ (List.mem_of_getElem? (i := 0) rfl))) (k_set (k_set (k_set (k_set (k_ne (by decide) e0))))) dX12_feed_114 ?_
  refine lv_iconst (v := 1) hx hb dX12_feed_117 (by decide) ?_
  refine lv_iadd hx hb dX12_feed_118 ?_
  refine k_topi (y := 5) (by decide) ?_
  refine k_put (D := D) (ci := 12) (v := .int 5) (ty := .int) (N := 195) hx hb hts hin12 tyX12 tyX12_ok nmX12 hown hK hP hD hS 0 rfl rfl (by decide) f9_12_2 (hts (.fieldLink RX12 485 "IntegerHouseModel" "taped" "I") (o9_X12_feed _ (List.mem_of_getElem? (i := 0) rfl))) rfl pd_2 rfl rfl (k_len (k_set (k_set (k_set (k_set (k_ne (by decide) e0)))))) dX12_feed_119 (fun H locs hP hD hS => ?_)
  have hP : va_P D vwCl [(h0, .inr (12, ((((((f0.set 0 (.int 0)).set 2 (.int 1)).set 2 (.int 2)).set 2 (.int 3)).set 2 (.int 4)).set 2 (.int 5)))), (h1, .inl (cB, 2000, .inl (upd (upd (upd (upd (upd g0 0 (vp_nar .byte (Int8.toInt32 (Int32.toInt8 (x0 >>> (24 &&& 31)))))) 1 (vp_nar .byte (Int8.toInt32 (Int32.toInt8 (x0 >>> (16 &&& 31)))))) 2 (vp_nar .byte (Int8.toInt32 (Int32.toInt8 (x0 >>> (8 &&& 31)))))) 3 (vp_nar .byte (Int8.toInt32 (Int32.toInt8 (x0 >>> (0 &&& 31)))))) 4 (vp_nar .byte (Int8.toInt32 (Int32.toInt8 (x1 >>> (24 &&& 31))))))))] H := hP
  have hD : va_D A [(h0, .inr (12, ((((((f0.set 0 (.int 0)).set 2 (.int 1)).set 2 (.int 2)).set 2 (.int 3)).set 2 (.int 4)).set 2 (.int 5)))), (h1, .inl (cB, 2000, .inl (upd (upd (upd (upd (upd g0 0 (vp_nar .byte (Int8.toInt32 (Int32.toInt8 (x0 >>> (24 &&& 31)))))) 1 (vp_nar .byte (Int8.toInt32 (Int32.toInt8 (x0 >>> (16 &&& 31)))))) 2 (vp_nar .byte (Int8.toInt32 (Int32.toInt8 (x0 >>> (8 &&& 31)))))) 3 (vp_nar .byte (Int8.toInt32 (Int32.toInt8 (x0 >>> (0 &&& 31)))))) 4 (vp_nar .byte (Int8.toInt32 (Int32.toInt8 (x1 >>> (24 &&& 31))))))))] := hD
  refine lv_iinc (v := 5) (lv' := [(6, .int 5), (7, .int x1), (0, .ref h0), (1, .int x0), (2, .int x1), (3, .int x2), (4, .int x3), (5, .int x4)]) hx hb dX12_feed_122 hl (k := 1) rfl (by decide) (by decide) rfl (fun ls hl => ?_)
  refine lv_goto (tgt := 34) hx hb dX12_feed_125 (by decide) ?_
  refine lv_iload hx hb dX12_feed_34 (lv_at hl 0 rfl) ?_
  refine lv_bipush (v := 20) hx hb dX12_feed_36 (by decide) ?_
  refine lv_icmp_ge (tgt := 128) hx hb dX12_feed_38 (by decide) (fun c9 => absurd c9 (by decide)) (fun _ => ?_)
  refine lv_iload hx hb dX12_feed_41 (lv_at hl 0 rfl) ?_
  refine lv_iconst (v := 4) hx hb dX12_feed_43 (by decide) ?_
  refine lv_icmp_ge (tgt := 51) hx hb dX12_feed_44 (by decide) (fun _ => ?_) (fun c9 => absurd (by decide) c9)
  refine lv_iload hx hb dX12_feed_51 (lv_at hl 0 rfl) ?_
  refine lv_bipush (v := 8) hx hb dX12_feed_53 (by decide) ?_
  refine lv_icmp_ge (tgt := 62) hx hb dX12_feed_55 (by decide) (fun c9 => absurd c9 (by decide)) (fun _ => ?_)
  refine lv_iload_n hx hb dX12_feed_58 rfl (lv_at hl 4 rfl) ?_
  refine lv_goto (tgt := 87) hx hb dX12_feed_59 (by decide) ?_
  refine lv_istore (lv' := [(7, .int x1), (6, .int 5), (0, .ref h0), (1, .int x0), (2, .int x1), (3, .int x2), (4, .int x3), (5, .int x4)]) hx hb dX12_feed_87 hl (by decide) rfl (fun ls hl => ?_)
  refine lv_aload_n hx hb dX12_feed_89 rfl (lv_at hl 2 rfl) ?_
  refine k_get (D := D) (ci := 12) (v := .ref h1) (N := 195) hx hb hts hin12 hown hK hP 0 rfl rfl (by decide) f9_12_1 (hts (.fieldLink RX12 15 "IntegerHouseModel" "tape" "[B") (o9_X12_feed _ (List.mem_of_getElem? (i := 2) rfl))) (k_ne (by decide) (k_ne (by decide) (k_ne (by decide) (k_ne (by decide) (k_ne (by decide) (k_ne (by decide) e2)))))) dX12_feed_90 ?_
  refine lv_aload_n hx hb dX12_feed_93 rfl (lv_at hl 2 rfl) ?_
  refine k_get (D := D) (ci := 12) (v := .int 5) (N := 195) hx hb hts hin12 hown hK hP 0 rfl rfl (by decide) f9_12_2 (hts (.fieldLink RX12 485 "IntegerHouseModel" "taped" "I") (o9_X12_feed _ (List.mem_of_getElem? (i := 0) rfl))) (k_set (k_set (k_set (k_set (k_set (k_ne (by decide) e0)))))) dX12_feed_94 ?_
  refine lv_iload hx hb dX12_feed_97 (lv_at hl 0 rfl) ?_
  refine lv_bipush (v := 24) hx hb dX12_feed_99 (by decide) ?_
  refine lv_bipush (v := 8) hx hb dX12_feed_101 (by decide) ?_
  refine lv_iload hx hb dX12_feed_103 (lv_at hl 1 rfl) ?_
  refine lv_iconst (v := 4) hx hb dX12_feed_105 (by decide) ?_
  refine lv_irem hx hb dX12_feed_106 (by decide) ?_
  refine k_topi (y := 1) (by decide) ?_
  refine lv_imul hx hb dX12_feed_107 ?_
  refine k_topi (y := 8) (by decide) ?_
  refine lv_isub hx hb dX12_feed_108 ?_
  refine k_topi (y := 16) (by decide) ?_
  refine lv_ishr hx hb dX12_feed_109 ?_
  refine lv_i2b (v := (Int8.toInt32 (Int32.toInt8 (x1 >>> (16 &&& 31))))) hx hb dX12_feed_110 rfl ?_
  refine va_bast hx hb hK hP hD hS 1 2 rfl rfl (k_in (by decide)) dX12_feed_111 (fun H locs hP hD hS => ?_)
  have hP : va_P D vwCl [(h0, .inr (12, ((((((f0.set 0 (.int 0)).set 2 (.int 1)).set 2 (.int 2)).set 2 (.int 3)).set 2 (.int 4)).set 2 (.int 5)))), (h1, .inl (cB, 2000, .inl (upd (upd (upd (upd (upd (upd g0 0 (vp_nar .byte (Int8.toInt32 (Int32.toInt8 (x0 >>> (24 &&& 31)))))) 1 (vp_nar .byte (Int8.toInt32 (Int32.toInt8 (x0 >>> (16 &&& 31)))))) 2 (vp_nar .byte (Int8.toInt32 (Int32.toInt8 (x0 >>> (8 &&& 31)))))) 3 (vp_nar .byte (Int8.toInt32 (Int32.toInt8 (x0 >>> (0 &&& 31)))))) 4 (vp_nar .byte (Int8.toInt32 (Int32.toInt8 (x1 >>> (24 &&& 31)))))) 5 (vp_nar .byte (Int8.toInt32 (Int32.toInt8 (x1 >>> (16 &&& 31))))))))] H := hP
  have hD : va_D A [(h0, .inr (12, ((((((f0.set 0 (.int 0)).set 2 (.int 1)).set 2 (.int 2)).set 2 (.int 3)).set 2 (.int 4)).set 2 (.int 5)))), (h1, .inl (cB, 2000, .inl (upd (upd (upd (upd (upd (upd g0 0 (vp_nar .byte (Int8.toInt32 (Int32.toInt8 (x0 >>> (24 &&& 31)))))) 1 (vp_nar .byte (Int8.toInt32 (Int32.toInt8 (x0 >>> (16 &&& 31)))))) 2 (vp_nar .byte (Int8.toInt32 (Int32.toInt8 (x0 >>> (8 &&& 31)))))) 3 (vp_nar .byte (Int8.toInt32 (Int32.toInt8 (x0 >>> (0 &&& 31)))))) 4 (vp_nar .byte (Int8.toInt32 (Int32.toInt8 (x1 >>> (24 &&& 31)))))) 5 (vp_nar .byte (Int8.toInt32 (Int32.toInt8 (x1 >>> (16 &&& 31))))))))] := hD
  refine lv_aload_n hx hb dX12_feed_112 rfl (lv_at hl 2 rfl) ?_
  refine lv_dup hx hb dX12_feed_113 rfl ?_
  refine k_get (D := D) (ci := 12) (v := .int 5) (N := 195) hx hb hts hin12 hown hK hP 0 rfl rfl (by decide) f9_12_2 (hts (.fieldLink RX12 485 "IntegerHouseModel" "taped" "I") (o9_X12_feed _ (List.mem_of_getElem? (i := 0) rfl))) (k_set (k_set (k_set (k_set (k_set (k_ne (by decide) e0)))))) dX12_feed_114 ?_
  refine lv_iconst (v := 1) hx hb dX12_feed_117 (by decide) ?_
  refine lv_iadd hx hb dX12_feed_118 ?_
  refine k_topi (y := 6) (by decide) ?_
  refine k_put (D := D) (ci := 12) (v := .int 6) (ty := .int) (N := 195) hx hb hts hin12 tyX12 tyX12_ok nmX12 hown hK hP hD hS 0 rfl rfl (by decide) f9_12_2 (hts (.fieldLink RX12 485 "IntegerHouseModel" "taped" "I") (o9_X12_feed _ (List.mem_of_getElem? (i := 0) rfl))) rfl pd_2 rfl rfl (k_len (k_set (k_set (k_set (k_set (k_set (k_ne (by decide) e0))))))) dX12_feed_119 (fun H locs hP hD hS => ?_)
  have hP : va_P D vwCl [(h0, .inr (12, (((((((f0.set 0 (.int 0)).set 2 (.int 1)).set 2 (.int 2)).set 2 (.int 3)).set 2 (.int 4)).set 2 (.int 5)).set 2 (.int 6)))), (h1, .inl (cB, 2000, .inl (upd (upd (upd (upd (upd (upd g0 0 (vp_nar .byte (Int8.toInt32 (Int32.toInt8 (x0 >>> (24 &&& 31)))))) 1 (vp_nar .byte (Int8.toInt32 (Int32.toInt8 (x0 >>> (16 &&& 31)))))) 2 (vp_nar .byte (Int8.toInt32 (Int32.toInt8 (x0 >>> (8 &&& 31)))))) 3 (vp_nar .byte (Int8.toInt32 (Int32.toInt8 (x0 >>> (0 &&& 31)))))) 4 (vp_nar .byte (Int8.toInt32 (Int32.toInt8 (x1 >>> (24 &&& 31)))))) 5 (vp_nar .byte (Int8.toInt32 (Int32.toInt8 (x1 >>> (16 &&& 31))))))))] H := hP
  have hD : va_D A [(h0, .inr (12, (((((((f0.set 0 (.int 0)).set 2 (.int 1)).set 2 (.int 2)).set 2 (.int 3)).set 2 (.int 4)).set 2 (.int 5)).set 2 (.int 6)))), (h1, .inl (cB, 2000, .inl (upd (upd (upd (upd (upd (upd g0 0 (vp_nar .byte (Int8.toInt32 (Int32.toInt8 (x0 >>> (24 &&& 31)))))) 1 (vp_nar .byte (Int8.toInt32 (Int32.toInt8 (x0 >>> (16 &&& 31)))))) 2 (vp_nar .byte (Int8.toInt32 (Int32.toInt8 (x0 >>> (8 &&& 31)))))) 3 (vp_nar .byte (Int8.toInt32 (Int32.toInt8 (x0 >>> (0 &&& 31)))))) 4 (vp_nar .byte (Int8.toInt32 (Int32.toInt8 (x1 >>> (24 &&& 31)))))) 5 (vp_nar .byte (Int8.toInt32 (Int32.toInt8 (x1 >>> (16 &&& 31))))))))] := hD
  refine lv_iinc (v := 6) (lv' := [(6, .int 6), (7, .int x1), (0, .ref h0), (1, .int x0), (2, .int x1), (3, .int x2), (4, .int x3), (5, .int x4)]) hx hb dX12_feed_122 hl (k := 1) rfl (by decide) (by decide) rfl (fun ls hl => ?_)
  refine lv_goto (tgt := 34) hx hb dX12_feed_125 (by decide) ?_
  refine lv_iload hx hb dX12_feed_34 (lv_at hl 0 rfl) ?_
  refine lv_bipush (v := 20) hx hb dX12_feed_36 (by decide) ?_
  refine lv_icmp_ge (tgt := 128) hx hb dX12_feed_38 (by decide) (fun c9 => absurd c9 (by decide)) (fun _ => ?_)
  refine lv_iload hx hb dX12_feed_41 (lv_at hl 0 rfl) ?_
  refine lv_iconst (v := 4) hx hb dX12_feed_43 (by decide) ?_
  refine lv_icmp_ge (tgt := 51) hx hb dX12_feed_44 (by decide) (fun _ => ?_) (fun c9 => absurd (by decide) c9)
  refine lv_iload hx hb dX12_feed_51 (lv_at hl 0 rfl) ?_
  refine lv_bipush (v := 8) hx hb dX12_feed_53 (by decide) ?_
  refine lv_icmp_ge (tgt := 62) hx hb dX12_feed_55 (by decide) (fun c9 => absurd c9 (by decide)) (fun _ => ?_)
  refine lv_iload_n hx hb dX12_feed_58 rfl (lv_at hl 4 rfl) ?_
  refine lv_goto (tgt := 87) hx hb dX12_feed_59 (by decide) ?_
  refine lv_istore (lv' := [(7, .int x1), (6, .int 6), (0, .ref h0), (1, .int x0), (2, .int x1), (3, .int x2), (4, .int x3), (5, .int x4)]) hx hb dX12_feed_87 hl (by decide) rfl (fun ls hl => ?_)
  refine lv_aload_n hx hb dX12_feed_89 rfl (lv_at hl 2 rfl) ?_
  refine k_get (D := D) (ci := 12) (v := .ref h1) (N := 195) hx hb hts hin12 hown hK hP 0 rfl rfl (by decide) f9_12_1 (hts (.fieldLink RX12 15 "IntegerHouseModel" "tape" "[B") (o9_X12_feed _ (List.mem_of_getElem? (i := 2) rfl))) (k_ne (by decide) (k_ne (by decide) (k_ne (by decide) (k_ne (by decide) (k_ne (by decide) (k_ne (by decide) (k_ne (by decide) e2))))))) dX12_feed_90 ?_
  refine lv_aload_n hx hb dX12_feed_93 rfl (lv_at hl 2 rfl) ?_
  refine k_get (D := D) (ci := 12) (v := .int 6) (N := 195) hx hb hts hin12 hown hK hP 0 rfl rfl (by decide) f9_12_2 (hts (.fieldLink RX12 485 "IntegerHouseModel" "taped" "I") (o9_X12_feed _ (List.mem_of_getElem? (i := 0) rfl))) (k_set (k_set (k_set (k_set (k_set (k_set (k_ne (by decide) e0))))))) dX12_feed_94 ?_
  refine lv_iload hx hb dX12_feed_97 (lv_at hl 0 rfl) ?_
  refine lv_bipush (v := 24) hx hb dX12_feed_99 (by decide) ?_
  refine lv_bipush (v := 8) hx hb dX12_feed_101 (by decide) ?_
  refine lv_iload hx hb dX12_feed_103 (lv_at hl 1 rfl) ?_
  refine lv_iconst (v := 4) hx hb dX12_feed_105 (by decide) ?_
  refine lv_irem hx hb dX12_feed_106 (by decide) ?_
  refine k_topi (y := 2) (by decide) ?_
  refine lv_imul hx hb dX12_feed_107 ?_
  refine k_topi (y := 16) (by decide) ?_
  refine lv_isub hx hb dX12_feed_108 ?_
  refine k_topi (y := 8) (by decide) ?_
  refine lv_ishr hx hb dX12_feed_109 ?_
  refine lv_i2b (v := (Int8.toInt32 (Int32.toInt8 (x1 >>> (8 &&& 31))))) hx hb dX12_feed_110 rfl ?_
  refine va_bast hx hb hK hP hD hS 1 2 rfl rfl (k_in (by decide)) dX12_feed_111 (fun H locs hP hD hS => ?_)
  have hP : va_P D vwCl [(h0, .inr (12, (((((((f0.set 0 (.int 0)).set 2 (.int 1)).set 2 (.int 2)).set 2 (.int 3)).set 2 (.int 4)).set 2 (.int 5)).set 2 (.int 6)))), (h1, .inl (cB, 2000, .inl (upd (upd (upd (upd (upd (upd (upd g0 0 (vp_nar .byte (Int8.toInt32 (Int32.toInt8 (x0 >>> (24 &&& 31)))))) 1 (vp_nar .byte (Int8.toInt32 (Int32.toInt8 (x0 >>> (16 &&& 31)))))) 2 (vp_nar .byte (Int8.toInt32 (Int32.toInt8 (x0 >>> (8 &&& 31)))))) 3 (vp_nar .byte (Int8.toInt32 (Int32.toInt8 (x0 >>> (0 &&& 31)))))) 4 (vp_nar .byte (Int8.toInt32 (Int32.toInt8 (x1 >>> (24 &&& 31)))))) 5 (vp_nar .byte (Int8.toInt32 (Int32.toInt8 (x1 >>> (16 &&& 31)))))) 6 (vp_nar .byte (Int8.toInt32 (Int32.toInt8 (x1 >>> (8 &&& 31))))))))] H := hP
  have hD : va_D A [(h0, .inr (12, (((((((f0.set 0 (.int 0)).set 2 (.int 1)).set 2 (.int 2)).set 2 (.int 3)).set 2 (.int 4)).set 2 (.int 5)).set 2 (.int 6)))), (h1, .inl (cB, 2000, .inl (upd (upd (upd (upd (upd (upd (upd g0 0 (vp_nar .byte (Int8.toInt32 (Int32.toInt8 (x0 >>> (24 &&& 31)))))) 1 (vp_nar .byte (Int8.toInt32 (Int32.toInt8 (x0 >>> (16 &&& 31)))))) 2 (vp_nar .byte (Int8.toInt32 (Int32.toInt8 (x0 >>> (8 &&& 31)))))) 3 (vp_nar .byte (Int8.toInt32 (Int32.toInt8 (x0 >>> (0 &&& 31)))))) 4 (vp_nar .byte (Int8.toInt32 (Int32.toInt8 (x1 >>> (24 &&& 31)))))) 5 (vp_nar .byte (Int8.toInt32 (Int32.toInt8 (x1 >>> (16 &&& 31)))))) 6 (vp_nar .byte (Int8.toInt32 (Int32.toInt8 (x1 >>> (8 &&& 31))))))))] := hD
  refine lv_aload_n hx hb dX12_feed_112 rfl (lv_at hl 2 rfl) ?_
  refine lv_dup hx hb dX12_feed_113 rfl ?_
  refine k_get (D := D) (ci := 12) (v := .int 6) (N := 195) hx hb hts hin12 hown hK hP 0 rfl rfl (by decide) f9_12_2 (hts (.fieldLink RX12 485 "IntegerHouseModel" "taped" "I") (o9_X12_feed _ (List.mem_of_getElem? (i := 0) rfl))) (k_set (k_set (k_set (k_set (k_set (k_set (k_ne (by decide) e0))))))) dX12_feed_114 ?_
  refine lv_iconst (v := 1) hx hb dX12_feed_117 (by decide) ?_
  refine lv_iadd hx hb dX12_feed_118 ?_
  refine k_topi (y := 7) (by decide) ?_
  refine k_put (D := D) (ci := 12) (v := .int 7) (ty := .int) (N := 195) hx hb hts hin12 tyX12 tyX12_ok nmX12 hown hK hP hD hS 0 rfl rfl (by decide) f9_12_2 (hts (.fieldLink RX12 485 "IntegerHouseModel" "taped" "I") (o9_X12_feed _ (List.mem_of_getElem? (i := 0) rfl))) rfl pd_2 rfl rfl (k_len (k_set (k_set (k_set (k_set (k_set (k_set (k_ne (by decide) e0)))))))) dX12_feed_119 (fun H locs hP hD hS => ?_)
  have hP : va_P D vwCl [(h0, .inr (12, ((((((((f0.set 0 (.int 0)).set 2 (.int 1)).set 2 (.int 2)).set 2 (.int 3)).set 2 (.int 4)).set 2 (.int 5)).set 2 (.int 6)).set 2 (.int 7)))), (h1, .inl (cB, 2000, .inl (upd (upd (upd (upd (upd (upd (upd g0 0 (vp_nar .byte (Int8.toInt32 (Int32.toInt8 (x0 >>> (24 &&& 31)))))) 1 (vp_nar .byte (Int8.toInt32 (Int32.toInt8 (x0 >>> (16 &&& 31)))))) 2 (vp_nar .byte (Int8.toInt32 (Int32.toInt8 (x0 >>> (8 &&& 31)))))) 3 (vp_nar .byte (Int8.toInt32 (Int32.toInt8 (x0 >>> (0 &&& 31)))))) 4 (vp_nar .byte (Int8.toInt32 (Int32.toInt8 (x1 >>> (24 &&& 31)))))) 5 (vp_nar .byte (Int8.toInt32 (Int32.toInt8 (x1 >>> (16 &&& 31)))))) 6 (vp_nar .byte (Int8.toInt32 (Int32.toInt8 (x1 >>> (8 &&& 31))))))))] H := hP
  have hD : va_D A [(h0, .inr (12, ((((((((f0.set 0 (.int 0)).set 2 (.int 1)).set 2 (.int 2)).set 2 (.int 3)).set 2 (.int 4)).set 2 (.int 5)).set 2 (.int 6)).set 2 (.int 7)))), (h1, .inl (cB, 2000, .inl (upd (upd (upd (upd (upd (upd (upd g0 0 (vp_nar .byte (Int8.toInt32 (Int32.toInt8 (x0 >>> (24 &&& 31)))))) 1 (vp_nar .byte (Int8.toInt32 (Int32.toInt8 (x0 >>> (16 &&& 31)))))) 2 (vp_nar .byte (Int8.toInt32 (Int32.toInt8 (x0 >>> (8 &&& 31)))))) 3 (vp_nar .byte (Int8.toInt32 (Int32.toInt8 (x0 >>> (0 &&& 31)))))) 4 (vp_nar .byte (Int8.toInt32 (Int32.toInt8 (x1 >>> (24 &&& 31)))))) 5 (vp_nar .byte (Int8.toInt32 (Int32.toInt8 (x1 >>> (16 &&& 31)))))) 6 (vp_nar .byte (Int8.toInt32 (Int32.toInt8 (x1 >>> (8 &&& 31))))))))] := hD
  refine lv_iinc (v := 7) (lv' := [(6, .int 7), (7, .int x1), (0, .ref h0), (1, .int x0), (2, .int x1), (3, .int x2), (4, .int x3), (5, .int x4)]) hx hb dX12_feed_122 hl (k := 1) rfl (by decide) (by decide) rfl (fun ls hl => ?_)
  refine lv_goto (tgt := 34) hx hb dX12_feed_125 (by decide) ?_
  refine lv_iload hx hb dX12_feed_34 (lv_at hl 0 rfl) ?_
  refine lv_bipush (v := 20) hx hb dX12_feed_36 (by decide) ?_
  refine lv_icmp_ge (tgt := 128) hx hb dX12_feed_38 (by decide) (fun c9 => absurd c9 (by decide)) (fun _ => ?_)
  refine lv_iload hx hb dX12_feed_41 (lv_at hl 0 rfl) ?_
  refine lv_iconst (v := 4) hx hb dX12_feed_43 (by decide) ?_
  refine lv_icmp_ge (tgt := 51) hx hb dX12_feed_44 (by decide) (fun _ => ?_) (fun c9 => absurd (by decide) c9)
  refine lv_iload hx hb dX12_feed_51 (lv_at hl 0 rfl) ?_
  refine lv_bipush (v := 8) hx hb dX12_feed_53 (by decide) ?_
  refine lv_icmp_ge (tgt := 62) hx hb dX12_feed_55 (by decide) (fun c9 => absurd c9 (by decide)) (fun _ => ?_)
  refine lv_iload_n hx hb dX12_feed_58 rfl (lv_at hl 4 rfl) ?_
  refine lv_goto (tgt := 87) hx hb dX12_feed_59 (by decide) ?_
  refine lv_istore (lv' := [(7, .int x1), (6, .int 7), (0, .ref h0), (1, .int x0), (2, .int x1), (3, .int x2), (4, .int x3), (5, .int x4)]) hx hb dX12_feed_87 hl (by decide) rfl (fun ls hl => ?_)
  refine lv_aload_n hx hb dX12_feed_89 rfl (lv_at hl 2 rfl) ?_
  refine k_get (D := D) (ci := 12) (v := .ref h1) (N := 195) hx hb hts hin12 hown hK hP 0 rfl rfl (by decide) f9_12_1 (hts (.fieldLink RX12 15 "IntegerHouseModel" "tape" "[B") (o9_X12_feed _ (List.mem_of_getElem? (i := 2) rfl))) (k_ne (by decide) (k_ne (by decide) (k_ne (by decide) (k_ne (by decide) (k_ne (by decide) (k_ne (by decide) (k_ne (by decide) (k_ne (by decide) e2)))))))) dX12_feed_90 ?_
  refine lv_aload_n hx hb dX12_feed_93 rfl (lv_at hl 2 rfl) ?_
  refine k_get (D := D) (ci := 12) (v := .int 7) (N := 195) hx hb hts hin12 hown hK hP 0 rfl rfl (by decide) f9_12_2 (hts (.fieldLink RX12 485 "IntegerHouseModel" "taped" "I") (o9_X12_feed _ (List.mem_of_getElem? (i := 0) rfl))) (k_set (k_set (k_set (k_set (k_set (k_set (k_set (k_ne (by decide) e0)))))))) dX12_feed_94 ?_
  refine lv_iload hx hb dX12_feed_97 (lv_at hl 0 rfl) ?_
  refine lv_bipush (v := 24) hx hb dX12_feed_99 (by decide) ?_
  refine lv_bipush (v := 8) hx hb dX12_feed_101 (by decide) ?_
  refine lv_iload hx hb dX12_feed_103 (lv_at hl 1 rfl) ?_
  refine lv_iconst (v := 4) hx hb dX12_feed_105 (by decide) ?_
  refine lv_irem hx hb dX12_feed_106 (by decide) ?_
  refine k_topi (y := 3) (by decide) ?_
  refine lv_imul hx hb dX12_feed_107 ?_
  refine k_topi (y := 24) (by decide) ?_
  refine lv_isub hx hb dX12_feed_108 ?_
  refine k_topi (y := 0) (by decide) ?_
  refine lv_ishr hx hb dX12_feed_109 ?_
  refine lv_i2b (v := (Int8.toInt32 (Int32.toInt8 (x1 >>> (0 &&& 31))))) hx hb dX12_feed_110 rfl ?_
  refine va_bast hx hb hK hP hD hS 1 2 rfl rfl (k_in (by decide)) dX12_feed_111 (fun H locs hP hD hS => ?_)
  have hP : va_P D vwCl [(h0, .inr (12, ((((((((f0.set 0 (.int 0)).set 2 (.int 1)).set 2 (.int 2)).set 2 (.int 3)).set 2 (.int 4)).set 2 (.int 5)).set 2 (.int 6)).set 2 (.int 7)))), (h1, .inl (cB, 2000, .inl (upd (upd (upd (upd (upd (upd (upd (upd g0 0 (vp_nar .byte (Int8.toInt32 (Int32.toInt8 (x0 >>> (24 &&& 31)))))) 1 (vp_nar .byte (Int8.toInt32 (Int32.toInt8 (x0 >>> (16 &&& 31)))))) 2 (vp_nar .byte (Int8.toInt32 (Int32.toInt8 (x0 >>> (8 &&& 31)))))) 3 (vp_nar .byte (Int8.toInt32 (Int32.toInt8 (x0 >>> (0 &&& 31)))))) 4 (vp_nar .byte (Int8.toInt32 (Int32.toInt8 (x1 >>> (24 &&& 31)))))) 5 (vp_nar .byte (Int8.toInt32 (Int32.toInt8 (x1 >>> (16 &&& 31)))))) 6 (vp_nar .byte (Int8.toInt32 (Int32.toInt8 (x1 >>> (8 &&& 31)))))) 7 (vp_nar .byte (Int8.toInt32 (Int32.toInt8 (x1 >>> (0 &&& 31))))))))] H := hP
  have hD : va_D A [(h0, .inr (12, ((((((((f0.set 0 (.int 0)).set 2 (.int 1)).set 2 (.int 2)).set 2 (.int 3)).set 2 (.int 4)).set 2 (.int 5)).set 2 (.int 6)).set 2 (.int 7)))), (h1, .inl (cB, 2000, .inl (upd (upd (upd (upd (upd (upd (upd (upd g0 0 (vp_nar .byte (Int8.toInt32 (Int32.toInt8 (x0 >>> (24 &&& 31)))))) 1 (vp_nar .byte (Int8.toInt32 (Int32.toInt8 (x0 >>> (16 &&& 31)))))) 2 (vp_nar .byte (Int8.toInt32 (Int32.toInt8 (x0 >>> (8 &&& 31)))))) 3 (vp_nar .byte (Int8.toInt32 (Int32.toInt8 (x0 >>> (0 &&& 31)))))) 4 (vp_nar .byte (Int8.toInt32 (Int32.toInt8 (x1 >>> (24 &&& 31)))))) 5 (vp_nar .byte (Int8.toInt32 (Int32.toInt8 (x1 >>> (16 &&& 31)))))) 6 (vp_nar .byte (Int8.toInt32 (Int32.toInt8 (x1 >>> (8 &&& 31)))))) 7 (vp_nar .byte (Int8.toInt32 (Int32.toInt8 (x1 >>> (0 &&& 31))))))))] := hD
  refine lv_aload_n hx hb dX12_feed_112 rfl (lv_at hl 2 rfl) ?_
  refine lv_dup hx hb dX12_feed_113 rfl ?_
  refine k_get (D := D) (ci := 12) (v := .int 7) (N := 195) hx hb hts hin12 hown hK hP 0 rfl rfl (by decide) f9_12_2 (hts (.fieldLink RX12 485 "IntegerHouseModel" "taped" "I") (o9_X12_feed _ (List.mem_of_getElem? (i := 0) rfl))) (k_set (k_set (k_set (k_set (k_set (k_set (k_set (k_ne (by decide) e0)))))))) dX12_feed_114 ?_
  refine lv_iconst (v := 1) hx hb dX12_feed_117 (by decide) ?_
  refine lv_iadd hx hb dX12_feed_118 ?_
  refine k_topi (y := 8) (by decide) ?_
  refine k_put (D := D) (ci := 12) (v := .int 8) (ty := .int) (N := 195) hx hb hts hin12 tyX12 tyX12_ok nmX12 hown hK hP hD hS 0 rfl rfl (by decide) f9_12_2 (hts (.fieldLink RX12 485 "IntegerHouseModel" "taped" "I") (o9_X12_feed _ (List.mem_of_getElem? (i := 0) rfl))) rfl pd_2 rfl rfl (k_len (k_set (k_set (k_set (k_set (k_set (k_set (k_set (k_ne (by decide) e0))))))))) dX12_feed_119 (fun H locs hP hD hS => ?_)
  have hP : va_P D vwCl [(h0, .inr (12, (((((((((f0.set 0 (.int 0)).set 2 (.int 1)).set 2 (.int 2)).set 2 (.int 3)).set 2 (.int 4)).set 2 (.int 5)).set 2 (.int 6)).set 2 (.int 7)).set 2 (.int 8)))), (h1, .inl (cB, 2000, .inl (upd (upd (upd (upd (upd (upd (upd (upd g0 0 (vp_nar .byte (Int8.toInt32 (Int32.toInt8 (x0 >>> (24 &&& 31)))))) 1 (vp_nar .byte (Int8.toInt32 (Int32.toInt8 (x0 >>> (16 &&& 31)))))) 2 (vp_nar .byte (Int8.toInt32 (Int32.toInt8 (x0 >>> (8 &&& 31)))))) 3 (vp_nar .byte (Int8.toInt32 (Int32.toInt8 (x0 >>> (0 &&& 31)))))) 4 (vp_nar .byte (Int8.toInt32 (Int32.toInt8 (x1 >>> (24 &&& 31)))))) 5 (vp_nar .byte (Int8.toInt32 (Int32.toInt8 (x1 >>> (16 &&& 31)))))) 6 (vp_nar .byte (Int8.toInt32 (Int32.toInt8 (x1 >>> (8 &&& 31)))))) 7 (vp_nar .byte (Int8.toInt32 (Int32.toInt8 (x1 >>> (0 &&& 31))))))))] H := hP
  have hD : va_D A [(h0, .inr (12, (((((((((f0.set 0 (.int 0)).set 2 (.int 1)).set 2 (.int 2)).set 2 (.int 3)).set 2 (.int 4)).set 2 (.int 5)).set 2 (.int 6)).set 2 (.int 7)).set 2 (.int 8)))), (h1, .inl (cB, 2000, .inl (upd (upd (upd (upd (upd (upd (upd (upd g0 0 (vp_nar .byte (Int8.toInt32 (Int32.toInt8 (x0 >>> (24 &&& 31)))))) 1 (vp_nar .byte (Int8.toInt32 (Int32.toInt8 (x0 >>> (16 &&& 31)))))) 2 (vp_nar .byte (Int8.toInt32 (Int32.toInt8 (x0 >>> (8 &&& 31)))))) 3 (vp_nar .byte (Int8.toInt32 (Int32.toInt8 (x0 >>> (0 &&& 31)))))) 4 (vp_nar .byte (Int8.toInt32 (Int32.toInt8 (x1 >>> (24 &&& 31)))))) 5 (vp_nar .byte (Int8.toInt32 (Int32.toInt8 (x1 >>> (16 &&& 31)))))) 6 (vp_nar .byte (Int8.toInt32 (Int32.toInt8 (x1 >>> (8 &&& 31)))))) 7 (vp_nar .byte (Int8.toInt32 (Int32.toInt8 (x1 >>> (0 &&& 31))))))))] := hD
  refine lv_iinc (v := 8) (lv' := [(6, .int 8), (7, .int x1), (0, .ref h0), (1, .int x0), (2, .int x1), (3, .int x2), (4, .int x3), (5, .int x4)]) hx hb dX12_feed_122 hl (k := 1) rfl (by decide) (by decide) rfl (fun ls hl => ?_)
  refine lv_goto (tgt := 34) hx hb dX12_feed_125 (by decide) ?_
  refine lv_iload hx hb dX12_feed_34 (lv_at hl 0 rfl) ?_
  refine lv_bipush (v := 20) hx hb dX12_feed_36 (by decide) ?_
  refine lv_icmp_ge (tgt := 128) hx hb dX12_feed_38 (by decide) (fun c9 => absurd c9 (by decide)) (fun _ => ?_)
  refine lv_iload hx hb dX12_feed_41 (lv_at hl 0 rfl) ?_
  refine lv_iconst (v := 4) hx hb dX12_feed_43 (by decide) ?_
  refine lv_icmp_ge (tgt := 51) hx hb dX12_feed_44 (by decide) (fun _ => ?_) (fun c9 => absurd (by decide) c9)
  refine lv_iload hx hb dX12_feed_51 (lv_at hl 0 rfl) ?_
  refine lv_bipush (v := 8) hx hb dX12_feed_53 (by decide) ?_
  refine lv_icmp_ge (tgt := 62) hx hb dX12_feed_55 (by decide) (fun _ => ?_) (fun c9 => absurd (by decide) c9)
  refine lv_iload hx hb dX12_feed_62 (lv_at hl 0 rfl) ?_
  refine lv_bipush (v := 12) hx hb dX12_feed_64 (by decide) ?_
  refine lv_icmp_ge (tgt := 73) hx hb dX12_feed_66 (by decide) (fun c9 => absurd c9 (by decide)) (fun _ => ?_)
  refine lv_iload_n hx hb dX12_feed_69 rfl (lv_at hl 5 rfl) ?_
  refine lv_goto (tgt := 87) hx hb dX12_feed_70 (by decide) ?_
  refine lv_istore (lv' := [(7, .int x2), (6, .int 8), (0, .ref h0), (1, .int x0), (2, .int x1), (3, .int x2), (4, .int x3), (5, .int x4)]) hx hb dX12_feed_87 hl (by decide) rfl (fun ls hl => ?_)
  refine lv_aload_n hx hb dX12_feed_89 rfl (lv_at hl 2 rfl) ?_
  refine k_get (D := D) (ci := 12) (v := .ref h1) (N := 195) hx hb hts hin12 hown hK hP 0 rfl rfl (by decide) f9_12_1 (hts (.fieldLink RX12 15 "IntegerHouseModel" "tape" "[B") (o9_X12_feed _ (List.mem_of_getElem? (i := 2) rfl))) (k_ne (by decide) (k_ne (by decide) (k_ne (by decide) (k_ne (by decide) (k_ne (by decide) (k_ne (by decide) (k_ne (by decide) (k_ne (by decide) (k_ne (by decide) e2))))))))) dX12_feed_90 ?_
  refine lv_aload_n hx hb dX12_feed_93 rfl (lv_at hl 2 rfl) ?_
  refine k_get (D := D) (ci := 12) (v := .int 8) (N := 195) hx hb hts hin12 hown hK hP 0 rfl rfl (by decide) f9_12_2 (hts (.fieldLink RX12 485 "IntegerHouseModel" "taped" "I") (o9_X12_feed _ (List.mem_of_getElem? (i := 0) rfl))) (k_set (k_set (k_set (k_set (k_set (k_set (k_set (k_set (k_ne (by decide) e0))))))))) dX12_feed_94 ?_
  refine lv_iload hx hb dX12_feed_97 (lv_at hl 0 rfl) ?_
  refine lv_bipush (v := 24) hx hb dX12_feed_99 (by decide) ?_
  refine lv_bipush (v := 8) hx hb dX12_feed_101 (by decide) ?_
  refine lv_iload hx hb dX12_feed_103 (lv_at hl 1 rfl) ?_
  refine lv_iconst (v := 4) hx hb dX12_feed_105 (by decide) ?_
  refine lv_irem hx hb dX12_feed_106 (by decide) ?_
  refine k_topi (y := 0) (by decide) ?_
  refine lv_imul hx hb dX12_feed_107 ?_
  refine k_topi (y := 0) (by decide) ?_
  refine lv_isub hx hb dX12_feed_108 ?_
  refine k_topi (y := 24) (by decide) ?_
  refine lv_ishr hx hb dX12_feed_109 ?_
  refine lv_i2b (v := (Int8.toInt32 (Int32.toInt8 (x2 >>> (24 &&& 31))))) hx hb dX12_feed_110 rfl ?_
  refine va_bast hx hb hK hP hD hS 1 2 rfl rfl (k_in (by decide)) dX12_feed_111 (fun H locs hP hD hS => ?_)
  have hP : va_P D vwCl [(h0, .inr (12, (((((((((f0.set 0 (.int 0)).set 2 (.int 1)).set 2 (.int 2)).set 2 (.int 3)).set 2 (.int 4)).set 2 (.int 5)).set 2 (.int 6)).set 2 (.int 7)).set 2 (.int 8)))), (h1, .inl (cB, 2000, .inl (upd (upd (upd (upd (upd (upd (upd (upd (upd g0 0 (vp_nar .byte (Int8.toInt32 (Int32.toInt8 (x0 >>> (24 &&& 31)))))) 1 (vp_nar .byte (Int8.toInt32 (Int32.toInt8 (x0 >>> (16 &&& 31)))))) 2 (vp_nar .byte (Int8.toInt32 (Int32.toInt8 (x0 >>> (8 &&& 31)))))) 3 (vp_nar .byte (Int8.toInt32 (Int32.toInt8 (x0 >>> (0 &&& 31)))))) 4 (vp_nar .byte (Int8.toInt32 (Int32.toInt8 (x1 >>> (24 &&& 31)))))) 5 (vp_nar .byte (Int8.toInt32 (Int32.toInt8 (x1 >>> (16 &&& 31)))))) 6 (vp_nar .byte (Int8.toInt32 (Int32.toInt8 (x1 >>> (8 &&& 31)))))) 7 (vp_nar .byte (Int8.toInt32 (Int32.toInt8 (x1 >>> (0 &&& 31)))))) 8 (vp_nar .byte (Int8.toInt32 (Int32.toInt8 (x2 >>> (24 &&& 31))))))))] H := hP
  have hD : va_D A [(h0, .inr (12, (((((((((f0.set 0 (.int 0)).set 2 (.int 1)).set 2 (.int 2)).set 2 (.int 3)).set 2 (.int 4)).set 2 (.int 5)).set 2 (.int 6)).set 2 (.int 7)).set 2 (.int 8)))), (h1, .inl (cB, 2000, .inl (upd (upd (upd (upd (upd (upd (upd (upd (upd g0 0 (vp_nar .byte (Int8.toInt32 (Int32.toInt8 (x0 >>> (24 &&& 31)))))) 1 (vp_nar .byte (Int8.toInt32 (Int32.toInt8 (x0 >>> (16 &&& 31)))))) 2 (vp_nar .byte (Int8.toInt32 (Int32.toInt8 (x0 >>> (8 &&& 31)))))) 3 (vp_nar .byte (Int8.toInt32 (Int32.toInt8 (x0 >>> (0 &&& 31)))))) 4 (vp_nar .byte (Int8.toInt32 (Int32.toInt8 (x1 >>> (24 &&& 31)))))) 5 (vp_nar .byte (Int8.toInt32 (Int32.toInt8 (x1 >>> (16 &&& 31)))))) 6 (vp_nar .byte (Int8.toInt32 (Int32.toInt8 (x1 >>> (8 &&& 31)))))) 7 (vp_nar .byte (Int8.toInt32 (Int32.toInt8 (x1 >>> (0 &&& 31)))))) 8 (vp_nar .byte (Int8.toInt32 (Int32.toInt8 (x2 >>> (24 &&& 31))))))))] := hD
  refine lv_aload_n hx hb dX12_feed_112 rfl (lv_at hl 2 rfl) ?_
  refine lv_dup hx hb dX12_feed_113 rfl ?_
  refine k_get (D := D) (ci := 12) (v := .int 8) (N := 195) hx hb hts hin12 hown hK hP 0 rfl rfl (by decide) f9_12_2 (hts (.fieldLink RX12 485 "IntegerHouseModel" "taped" "I") (o9_X12_feed _ (List.mem_of_getElem? (i := 0) rfl))) (k_set (k_set (k_set (k_set (k_set (k_set (k_set (k_set (k_ne (by decide) e0))))))))) dX12_feed_114 ?_
  refine lv_iconst (v := 1) hx hb dX12_feed_117 (by decide) ?_
  refine lv_iadd hx hb dX12_feed_118 ?_
  refine k_topi (y := 9) (by decide) ?_
  refine k_put (D := D) (ci := 12) (v := .int 9) (ty := .int) (N := 195) hx hb hts hin12 tyX12 tyX12_ok nmX12 hown hK hP hD hS 0 rfl rfl (by decide) f9_12_2 (hts (.fieldLink RX12 485 "IntegerHouseModel" "taped" "I") (o9_X12_feed _ (List.mem_of_getElem? (i := 0) rfl))) rfl pd_2 rfl rfl (k_len (k_set (k_set (k_set (k_set (k_set (k_set (k_set (k_set (k_ne (by decide) e0)))))))))) dX12_feed_119 (fun H locs hP hD hS => ?_)
  have hP : va_P D vwCl [(h0, .inr (12, ((((((((((f0.set 0 (.int 0)).set 2 (.int 1)).set 2 (.int 2)).set 2 (.int 3)).set 2 (.int 4)).set 2 (.int 5)).set 2 (.int 6)).set 2 (.int 7)).set 2 (.int 8)).set 2 (.int 9)))), (h1, .inl (cB, 2000, .inl (upd (upd (upd (upd (upd (upd (upd (upd (upd g0 0 (vp_nar .byte (Int8.toInt32 (Int32.toInt8 (x0 >>> (24 &&& 31)))))) 1 (vp_nar .byte (Int8.toInt32 (Int32.toInt8 (x0 >>> (16 &&& 31)))))) 2 (vp_nar .byte (Int8.toInt32 (Int32.toInt8 (x0 >>> (8 &&& 31)))))) 3 (vp_nar .byte (Int8.toInt32 (Int32.toInt8 (x0 >>> (0 &&& 31)))))) 4 (vp_nar .byte (Int8.toInt32 (Int32.toInt8 (x1 >>> (24 &&& 31)))))) 5 (vp_nar .byte (Int8.toInt32 (Int32.toInt8 (x1 >>> (16 &&& 31)))))) 6 (vp_nar .byte (Int8.toInt32 (Int32.toInt8 (x1 >>> (8 &&& 31)))))) 7 (vp_nar .byte (Int8.toInt32 (Int32.toInt8 (x1 >>> (0 &&& 31)))))) 8 (vp_nar .byte (Int8.toInt32 (Int32.toInt8 (x2 >>> (24 &&& 31))))))))] H := hP
  have hD : va_D A [(h0, .inr (12, ((((((((((f0.set 0 (.int 0)).set 2 (.int 1)).set 2 (.int 2)).set 2 (.int 3)).set 2 (.int 4)).set 2 (.int 5)).set 2 (.int 6)).set 2 (.int 7)).set 2 (.int 8)).set 2 (.int 9)))), (h1, .inl (cB, 2000, .inl (upd (upd (upd (upd (upd (upd (upd (upd (upd g0 0 (vp_nar .byte (Int8.toInt32 (Int32.toInt8 (x0 >>> (24 &&& 31)))))) 1 (vp_nar .byte (Int8.toInt32 (Int32.toInt8 (x0 >>> (16 &&& 31)))))) 2 (vp_nar .byte (Int8.toInt32 (Int32.toInt8 (x0 >>> (8 &&& 31)))))) 3 (vp_nar .byte (Int8.toInt32 (Int32.toInt8 (x0 >>> (0 &&& 31)))))) 4 (vp_nar .byte (Int8.toInt32 (Int32.toInt8 (x1 >>> (24 &&& 31)))))) 5 (vp_nar .byte (Int8.toInt32 (Int32.toInt8 (x1 >>> (16 &&& 31)))))) 6 (vp_nar .byte (Int8.toInt32 (Int32.toInt8 (x1 >>> (8 &&& 31)))))) 7 (vp_nar .byte (Int8.toInt32 (Int32.toInt8 (x1 >>> (0 &&& 31)))))) 8 (vp_nar .byte (Int8.toInt32 (Int32.toInt8 (x2 >>> (24 &&& 31))))))))] := hD
  refine lv_iinc (v := 9) (lv' := [(6, .int 9), (7, .int x2), (0, .ref h0), (1, .int x0), (2, .int x1), (3, .int x2), (4, .int x3), (5, .int x4)]) hx hb dX12_feed_122 hl (k := 1) rfl (by decide) (by decide) rfl (fun ls hl => ?_)
  refine lv_goto (tgt := 34) hx hb dX12_feed_125 (by decide) ?_
  refine lv_iload hx hb dX12_feed_34 (lv_at hl 0 rfl) ?_
  refine lv_bipush (v := 20) hx hb dX12_feed_36 (by decide) ?_
  refine lv_icmp_ge (tgt := 128) hx hb dX12_feed_38 (by decide) (fun c9 => absurd c9 (by decide)) (fun _ => ?_)
  refine lv_iload hx hb dX12_feed_41 (lv_at hl 0 rfl) ?_
  refine lv_iconst (v := 4) hx hb dX12_feed_43 (by decide) ?_
  refine lv_icmp_ge (tgt := 51) hx hb dX12_feed_44 (by decide) (fun _ => ?_) (fun c9 => absurd (by decide) c9)
  refine lv_iload hx hb dX12_feed_51 (lv_at hl 0 rfl) ?_
  refine lv_bipush (v := 8) hx hb dX12_feed_53 (by decide) ?_
  refine lv_icmp_ge (tgt := 62) hx hb dX12_feed_55 (by decide) (fun _ => ?_) (fun c9 => absurd (by decide) c9)
  refine lv_iload hx hb dX12_feed_62 (lv_at hl 0 rfl) ?_
  refine lv_bipush (v := 12) hx hb dX12_feed_64 (by decide) ?_
  refine lv_icmp_ge (tgt := 73) hx hb dX12_feed_66 (by decide) (fun c9 => absurd c9 (by decide)) (fun _ => ?_)
  refine lv_iload_n hx hb dX12_feed_69 rfl (lv_at hl 5 rfl) ?_
  refine lv_goto (tgt := 87) hx hb dX12_feed_70 (by decide) ?_
  refine lv_istore (lv' := [(7, .int x2), (6, .int 9), (0, .ref h0), (1, .int x0), (2, .int x1), (3, .int x2), (4, .int x3), (5, .int x4)]) hx hb dX12_feed_87 hl (by decide) rfl (fun ls hl => ?_)
  refine lv_aload_n hx hb dX12_feed_89 rfl (lv_at hl 2 rfl) ?_
  refine k_get (D := D) (ci := 12) (v := .ref h1) (N := 195) hx hb hts hin12 hown hK hP 0 rfl rfl (by decide) f9_12_1 (hts (.fieldLink RX12 15 "IntegerHouseModel" "tape" "[B") (o9_X12_feed _ (List.mem_of_getElem? (i := 2) rfl))) (k_ne (by decide) (k_ne (by decide) (k_ne (by decide) (k_ne (by decide) (k_ne (by decide) (k_ne (by decide) (k_ne (by decide) (k_ne (by decide) (k_ne (by decide) (k_ne (by decide) e2)))))))))) dX12_feed_90 ?_
  refine lv_aload_n hx hb dX12_feed_93 rfl (lv_at hl 2 rfl) ?_
  refine k_get (D := D) (ci := 12) (v := .int 9) (N := 195) hx hb hts hin12 hown hK hP 0 rfl rfl (by decide) f9_12_2 (hts (.fieldLink RX12 485 "IntegerHouseModel" "taped" "I") (o9_X12_feed _ (List.mem_of_getElem? (i := 0) rfl))) (k_set (k_set (k_set (k_set (k_set (k_set (k_set (k_set (k_set (k_ne (by decide) e0)))))))))) dX12_feed_94 ?_
  refine lv_iload hx hb dX12_feed_97 (lv_at hl 0 rfl) ?_
  refine lv_bipush (v := 24) hx hb dX12_feed_99 (by decide) ?_
  refine lv_bipush (v := 8) hx hb dX12_feed_101 (by decide) ?_
  refine lv_iload hx hb dX12_feed_103 (lv_at hl 1 rfl) ?_
  refine lv_iconst (v := 4) hx hb dX12_feed_105 (by decide) ?_
  refine lv_irem hx hb dX12_feed_106 (by decide) ?_
  refine k_topi (y := 1) (by decide) ?_
  refine lv_imul hx hb dX12_feed_107 ?_
  refine k_topi (y := 8) (by decide) ?_
  refine lv_isub hx hb dX12_feed_108 ?_
  refine k_topi (y := 16) (by decide) ?_
  refine lv_ishr hx hb dX12_feed_109 ?_
  refine lv_i2b (v := (Int8.toInt32 (Int32.toInt8 (x2 >>> (16 &&& 31))))) hx hb dX12_feed_110 rfl ?_
  refine va_bast hx hb hK hP hD hS 1 2 rfl rfl (k_in (by decide)) dX12_feed_111 (fun H locs hP hD hS => ?_)
  have hP : va_P D vwCl [(h0, .inr (12, ((((((((((f0.set 0 (.int 0)).set 2 (.int 1)).set 2 (.int 2)).set 2 (.int 3)).set 2 (.int 4)).set 2 (.int 5)).set 2 (.int 6)).set 2 (.int 7)).set 2 (.int 8)).set 2 (.int 9)))), (h1, .inl (cB, 2000, .inl (upd (upd (upd (upd (upd (upd (upd (upd (upd (upd g0 0 (vp_nar .byte (Int8.toInt32 (Int32.toInt8 (x0 >>> (24 &&& 31)))))) 1 (vp_nar .byte (Int8.toInt32 (Int32.toInt8 (x0 >>> (16 &&& 31)))))) 2 (vp_nar .byte (Int8.toInt32 (Int32.toInt8 (x0 >>> (8 &&& 31)))))) 3 (vp_nar .byte (Int8.toInt32 (Int32.toInt8 (x0 >>> (0 &&& 31)))))) 4 (vp_nar .byte (Int8.toInt32 (Int32.toInt8 (x1 >>> (24 &&& 31)))))) 5 (vp_nar .byte (Int8.toInt32 (Int32.toInt8 (x1 >>> (16 &&& 31)))))) 6 (vp_nar .byte (Int8.toInt32 (Int32.toInt8 (x1 >>> (8 &&& 31)))))) 7 (vp_nar .byte (Int8.toInt32 (Int32.toInt8 (x1 >>> (0 &&& 31)))))) 8 (vp_nar .byte (Int8.toInt32 (Int32.toInt8 (x2 >>> (24 &&& 31)))))) 9 (vp_nar .byte (Int8.toInt32 (Int32.toInt8 (x2 >>> (16 &&& 31))))))))] H := hP
  have hD : va_D A [(h0, .inr (12, ((((((((((f0.set 0 (.int 0)).set 2 (.int 1)).set 2 (.int 2)).set 2 (.int 3)).set 2 (.int 4)).set 2 (.int 5)).set 2 (.int 6)).set 2 (.int 7)).set 2 (.int 8)).set 2 (.int 9)))), (h1, .inl (cB, 2000, .inl (upd (upd (upd (upd (upd (upd (upd (upd (upd (upd g0 0 (vp_nar .byte (Int8.toInt32 (Int32.toInt8 (x0 >>> (24 &&& 31)))))) 1 (vp_nar .byte (Int8.toInt32 (Int32.toInt8 (x0 >>> (16 &&& 31)))))) 2 (vp_nar .byte (Int8.toInt32 (Int32.toInt8 (x0 >>> (8 &&& 31)))))) 3 (vp_nar .byte (Int8.toInt32 (Int32.toInt8 (x0 >>> (0 &&& 31)))))) 4 (vp_nar .byte (Int8.toInt32 (Int32.toInt8 (x1 >>> (24 &&& 31)))))) 5 (vp_nar .byte (Int8.toInt32 (Int32.toInt8 (x1 >>> (16 &&& 31)))))) 6 (vp_nar .byte (Int8.toInt32 (Int32.toInt8 (x1 >>> (8 &&& 31)))))) 7 (vp_nar .byte (Int8.toInt32 (Int32.toInt8 (x1 >>> (0 &&& 31)))))) 8 (vp_nar .byte (Int8.toInt32 (Int32.toInt8 (x2 >>> (24 &&& 31)))))) 9 (vp_nar .byte (Int8.toInt32 (Int32.toInt8 (x2 >>> (16 &&& 31))))))))] := hD
  refine lv_aload_n hx hb dX12_feed_112 rfl (lv_at hl 2 rfl) ?_
  refine lv_dup hx hb dX12_feed_113 rfl ?_
  refine k_get (D := D) (ci := 12) (v := .int 9) (N := 195) hx hb hts hin12 hown hK hP 0 rfl rfl (by decide) f9_12_2 (hts (.fieldLink RX12 485 "IntegerHouseModel" "taped" "I") (o9_X12_feed _ (List.mem_of_getElem? (i := 0) rfl))) (k_set (k_set (k_set (k_set (k_set (k_set (k_set (k_set (k_set (k_ne (by decide) e0)))))))))) dX12_feed_114 ?_
  refine lv_iconst (v := 1) hx hb dX12_feed_117 (by decide) ?_
  refine lv_iadd hx hb dX12_feed_118 ?_
  refine k_topi (y := 10) (by decide) ?_
  refine k_put (D := D) (ci := 12) (v := .int 10) (ty := .int) (N := 195) hx hb hts hin12 tyX12 tyX12_ok nmX12 hown hK hP hD hS 0 rfl rfl (by decide) f9_12_2 (hts (.fieldLink RX12 485 "IntegerHouseModel" "taped" "I") (o9_X12_feed _ (List.mem_of_getElem? (i := 0) rfl))) rfl pd_2 rfl rfl (k_len (k_set (k_set (k_set (k_set (k_set (k_set (k_set (k_set (k_set (k_ne (by decide) e0))))))))))) dX12_feed_119 (fun H locs hP hD hS => ?_)
  have hP : va_P D vwCl [(h0, .inr (12, (((((((((((f0.set 0 (.int 0)).set 2 (.int 1)).set 2 (.int 2)).set 2 (.int 3)).set 2 (.int 4)).set 2 (.int 5)).set 2 (.int 6)).set 2 (.int 7)).set 2 (.int 8)).set 2 (.int 9)).set 2 (.int 10)))), (h1, .inl (cB, 2000, .inl (upd (upd (upd (upd (upd (upd (upd (upd (upd (upd g0 0 (vp_nar .byte (Int8.toInt32 (Int32.toInt8 (x0 >>> (24 &&& 31)))))) 1 (vp_nar .byte (Int8.toInt32 (Int32.toInt8 (x0 >>> (16 &&& 31)))))) 2 (vp_nar .byte (Int8.toInt32 (Int32.toInt8 (x0 >>> (8 &&& 31)))))) 3 (vp_nar .byte (Int8.toInt32 (Int32.toInt8 (x0 >>> (0 &&& 31)))))) 4 (vp_nar .byte (Int8.toInt32 (Int32.toInt8 (x1 >>> (24 &&& 31)))))) 5 (vp_nar .byte (Int8.toInt32 (Int32.toInt8 (x1 >>> (16 &&& 31)))))) 6 (vp_nar .byte (Int8.toInt32 (Int32.toInt8 (x1 >>> (8 &&& 31)))))) 7 (vp_nar .byte (Int8.toInt32 (Int32.toInt8 (x1 >>> (0 &&& 31)))))) 8 (vp_nar .byte (Int8.toInt32 (Int32.toInt8 (x2 >>> (24 &&& 31)))))) 9 (vp_nar .byte (Int8.toInt32 (Int32.toInt8 (x2 >>> (16 &&& 31))))))))] H := hP
  have hD : va_D A [(h0, .inr (12, (((((((((((f0.set 0 (.int 0)).set 2 (.int 1)).set 2 (.int 2)).set 2 (.int 3)).set 2 (.int 4)).set 2 (.int 5)).set 2 (.int 6)).set 2 (.int 7)).set 2 (.int 8)).set 2 (.int 9)).set 2 (.int 10)))), (h1, .inl (cB, 2000, .inl (upd (upd (upd (upd (upd (upd (upd (upd (upd (upd g0 0 (vp_nar .byte (Int8.toInt32 (Int32.toInt8 (x0 >>> (24 &&& 31)))))) 1 (vp_nar .byte (Int8.toInt32 (Int32.toInt8 (x0 >>> (16 &&& 31)))))) 2 (vp_nar .byte (Int8.toInt32 (Int32.toInt8 (x0 >>> (8 &&& 31)))))) 3 (vp_nar .byte (Int8.toInt32 (Int32.toInt8 (x0 >>> (0 &&& 31)))))) 4 (vp_nar .byte (Int8.toInt32 (Int32.toInt8 (x1 >>> (24 &&& 31)))))) 5 (vp_nar .byte (Int8.toInt32 (Int32.toInt8 (x1 >>> (16 &&& 31)))))) 6 (vp_nar .byte (Int8.toInt32 (Int32.toInt8 (x1 >>> (8 &&& 31)))))) 7 (vp_nar .byte (Int8.toInt32 (Int32.toInt8 (x1 >>> (0 &&& 31)))))) 8 (vp_nar .byte (Int8.toInt32 (Int32.toInt8 (x2 >>> (24 &&& 31)))))) 9 (vp_nar .byte (Int8.toInt32 (Int32.toInt8 (x2 >>> (16 &&& 31))))))))] := hD
  refine lv_iinc (v := 10) (lv' := [(6, .int 10), (7, .int x2), (0, .ref h0), (1, .int x0), (2, .int x1), (3, .int x2), (4, .int x3), (5, .int x4)]) hx hb dX12_feed_122 hl (k := 1) rfl (by decide) (by decide) rfl (fun ls hl => ?_)
  refine lv_goto (tgt := 34) hx hb dX12_feed_125 (by decide) ?_
  refine lv_iload hx hb dX12_feed_34 (lv_at hl 0 rfl) ?_
  refine lv_bipush (v := 20) hx hb dX12_feed_36 (by decide) ?_
  refine lv_icmp_ge (tgt := 128) hx hb dX12_feed_38 (by decide) (fun c9 => absurd c9 (by decide)) (fun _ => ?_)
  refine lv_iload hx hb dX12_feed_41 (lv_at hl 0 rfl) ?_
  refine lv_iconst (v := 4) hx hb dX12_feed_43 (by decide) ?_
  refine lv_icmp_ge (tgt := 51) hx hb dX12_feed_44 (by decide) (fun _ => ?_) (fun c9 => absurd (by decide) c9)
  refine lv_iload hx hb dX12_feed_51 (lv_at hl 0 rfl) ?_
  refine lv_bipush (v := 8) hx hb dX12_feed_53 (by decide) ?_
  refine lv_icmp_ge (tgt := 62) hx hb dX12_feed_55 (by decide) (fun _ => ?_) (fun c9 => absurd (by decide) c9)
  refine lv_iload hx hb dX12_feed_62 (lv_at hl 0 rfl) ?_
  refine lv_bipush (v := 12) hx hb dX12_feed_64 (by decide) ?_
  refine lv_icmp_ge (tgt := 73) hx hb dX12_feed_66 (by decide) (fun c9 => absurd c9 (by decide)) (fun _ => ?_)
  refine lv_iload_n hx hb dX12_feed_69 rfl (lv_at hl 5 rfl) ?_
  refine lv_goto (tgt := 87) hx hb dX12_feed_70 (by decide) ?_
  refine lv_istore (lv' := [(7, .int x2), (6, .int 10), (0, .ref h0), (1, .int x0), (2, .int x1), (3, .int x2), (4, .int x3), (5, .int x4)]) hx hb dX12_feed_87 hl (by decide) rfl (fun ls hl => ?_)
  refine lv_aload_n hx hb dX12_feed_89 rfl (lv_at hl 2 rfl) ?_
  refine k_get (D := D) (ci := 12) (v := .ref h1) (N := 195) hx hb hts hin12 hown hK hP 0 rfl rfl (by decide) f9_12_1 (hts (.fieldLink RX12 15 "IntegerHouseModel" "tape" "[B") (o9_X12_feed _ (List.mem_of_getElem? (i := 2) rfl))) (k_ne (by decide) (k_ne (by decide) (k_ne (by decide) (k_ne (by decide) (k_ne (by decide) (k_ne (by decide) (k_ne (by decide) (k_ne (by decide) (k_ne (by decide) (k_ne (by decide) (k_ne (by decide) e2))))))))))) dX12_feed_90 ?_
  refine lv_aload_n hx hb dX12_feed_93 rfl (lv_at hl 2 rfl) ?_
  refine k_get (D := D) (ci := 12) (v := .int 10) (N := 195) hx hb hts hin12 hown hK hP 0 rfl rfl (by decide) f9_12_2 (hts (.fieldLink RX12 485 "IntegerHouseModel" "taped" "I") (o9_X12_feed _ (List.mem_of_getElem? (i := 0) rfl))) (k_set (k_set (k_set (k_set (k_set (k_set (k_set (k_set (k_set (k_set (k_ne (by decide) e0))))))))))) dX12_feed_94 ?_
  refine lv_iload hx hb dX12_feed_97 (lv_at hl 0 rfl) ?_
  refine lv_bipush (v := 24) hx hb dX12_feed_99 (by decide) ?_
  refine lv_bipush (v := 8) hx hb dX12_feed_101 (by decide) ?_
  refine lv_iload hx hb dX12_feed_103 (lv_at hl 1 rfl) ?_
  refine lv_iconst (v := 4) hx hb dX12_feed_105 (by decide) ?_
  refine lv_irem hx hb dX12_feed_106 (by decide) ?_
  refine k_topi (y := 2) (by decide) ?_
  refine lv_imul hx hb dX12_feed_107 ?_
  refine k_topi (y := 16) (by decide) ?_
  refine lv_isub hx hb dX12_feed_108 ?_
  refine k_topi (y := 8) (by decide) ?_
  refine lv_ishr hx hb dX12_feed_109 ?_
  refine lv_i2b (v := (Int8.toInt32 (Int32.toInt8 (x2 >>> (8 &&& 31))))) hx hb dX12_feed_110 rfl ?_
  refine va_bast hx hb hK hP hD hS 1 2 rfl rfl (k_in (by decide)) dX12_feed_111 (fun H locs hP hD hS => ?_)
  have hP : va_P D vwCl [(h0, .inr (12, (((((((((((f0.set 0 (.int 0)).set 2 (.int 1)).set 2 (.int 2)).set 2 (.int 3)).set 2 (.int 4)).set 2 (.int 5)).set 2 (.int 6)).set 2 (.int 7)).set 2 (.int 8)).set 2 (.int 9)).set 2 (.int 10)))), (h1, .inl (cB, 2000, .inl (upd (upd (upd (upd (upd (upd (upd (upd (upd (upd (upd g0 0 (vp_nar .byte (Int8.toInt32 (Int32.toInt8 (x0 >>> (24 &&& 31)))))) 1 (vp_nar .byte (Int8.toInt32 (Int32.toInt8 (x0 >>> (16 &&& 31)))))) 2 (vp_nar .byte (Int8.toInt32 (Int32.toInt8 (x0 >>> (8 &&& 31)))))) 3 (vp_nar .byte (Int8.toInt32 (Int32.toInt8 (x0 >>> (0 &&& 31)))))) 4 (vp_nar .byte (Int8.toInt32 (Int32.toInt8 (x1 >>> (24 &&& 31)))))) 5 (vp_nar .byte (Int8.toInt32 (Int32.toInt8 (x1 >>> (16 &&& 31)))))) 6 (vp_nar .byte (Int8.toInt32 (Int32.toInt8 (x1 >>> (8 &&& 31)))))) 7 (vp_nar .byte (Int8.toInt32 (Int32.toInt8 (x1 >>> (0 &&& 31)))))) 8 (vp_nar .byte (Int8.toInt32 (Int32.toInt8 (x2 >>> (24 &&& 31)))))) 9 (vp_nar .byte (Int8.toInt32 (Int32.toInt8 (x2 >>> (16 &&& 31)))))) 10 (vp_nar .byte (Int8.toInt32 (Int32.toInt8 (x2 >>> (8 &&& 31))))))))] H := hP
  have hD : va_D A [(h0, .inr (12, (((((((((((f0.set 0 (.int 0)).set 2 (.int 1)).set 2 (.int 2)).set 2 (.int 3)).set 2 (.int 4)).set 2 (.int 5)).set 2 (.int 6)).set 2 (.int 7)).set 2 (.int 8)).set 2 (.int 9)).set 2 (.int 10)))), (h1, .inl (cB, 2000, .inl (upd (upd (upd (upd (upd (upd (upd (upd (upd (upd (upd g0 0 (vp_nar .byte (Int8.toInt32 (Int32.toInt8 (x0 >>> (24 &&& 31)))))) 1 (vp_nar .byte (Int8.toInt32 (Int32.toInt8 (x0 >>> (16 &&& 31)))))) 2 (vp_nar .byte (Int8.toInt32 (Int32.toInt8 (x0 >>> (8 &&& 31)))))) 3 (vp_nar .byte (Int8.toInt32 (Int32.toInt8 (x0 >>> (0 &&& 31)))))) 4 (vp_nar .byte (Int8.toInt32 (Int32.toInt8 (x1 >>> (24 &&& 31)))))) 5 (vp_nar .byte (Int8.toInt32 (Int32.toInt8 (x1 >>> (16 &&& 31)))))) 6 (vp_nar .byte (Int8.toInt32 (Int32.toInt8 (x1 >>> (8 &&& 31)))))) 7 (vp_nar .byte (Int8.toInt32 (Int32.toInt8 (x1 >>> (0 &&& 31)))))) 8 (vp_nar .byte (Int8.toInt32 (Int32.toInt8 (x2 >>> (24 &&& 31)))))) 9 (vp_nar .byte (Int8.toInt32 (Int32.toInt8 (x2 >>> (16 &&& 31)))))) 10 (vp_nar .byte (Int8.toInt32 (Int32.toInt8 (x2 >>> (8 &&& 31))))))))] := hD
  refine lv_aload_n hx hb dX12_feed_112 rfl (lv_at hl 2 rfl) ?_
  refine lv_dup hx hb dX12_feed_113 rfl ?_
  refine k_get (D := D) (ci := 12) (v := .int 10) (N := 195) hx hb hts hin12 hown hK hP 0 rfl rfl (by decide) f9_12_2 (hts (.fieldLink RX12 485 "IntegerHouseModel" "taped" "I") (o9_X12_feed _ (List.mem_of_getElem? (i := 0) rfl))) (k_set (k_set (k_set (k_set (k_set (k_set (k_set (k_set (k_set (k_set (k_ne (by decide) e0))))))))))) dX12_feed_114 ?_
  refine lv_iconst (v := 1) hx hb dX12_feed_117 (by decide) ?_
  refine lv_iadd hx hb dX12_feed_118 ?_
  refine k_topi (y := 11) (by decide) ?_
  refine k_put (D := D) (ci := 12) (v := .int 11) (ty := .int) (N := 195) hx hb hts hin12 tyX12 tyX12_ok nmX12 hown hK hP hD hS 0 rfl rfl (by decide) f9_12_2 (hts (.fieldLink RX12 485 "IntegerHouseModel" "taped" "I") (o9_X12_feed _ (List.mem_of_getElem? (i := 0) rfl))) rfl pd_2 rfl rfl (k_len (k_set (k_set (k_set (k_set (k_set (k_set (k_set (k_set (k_set (k_set (k_ne (by decide) e0)))))))))))) dX12_feed_119 (fun H locs hP hD hS => ?_)
  have hP : va_P D vwCl [(h0, .inr (12, ((((((((((((f0.set 0 (.int 0)).set 2 (.int 1)).set 2 (.int 2)).set 2 (.int 3)).set 2 (.int 4)).set 2 (.int 5)).set 2 (.int 6)).set 2 (.int 7)).set 2 (.int 8)).set 2 (.int 9)).set 2 (.int 10)).set 2 (.int 11)))), (h1, .inl (cB, 2000, .inl (upd (upd (upd (upd (upd (upd (upd (upd (upd (upd (upd g0 0 (vp_nar .byte (Int8.toInt32 (Int32.toInt8 (x0 >>> (24 &&& 31)))))) 1 (vp_nar .byte (Int8.toInt32 (Int32.toInt8 (x0 >>> (16 &&& 31)))))) 2 (vp_nar .byte (Int8.toInt32 (Int32.toInt8 (x0 >>> (8 &&& 31)))))) 3 (vp_nar .byte (Int8.toInt32 (Int32.toInt8 (x0 >>> (0 &&& 31)))))) 4 (vp_nar .byte (Int8.toInt32 (Int32.toInt8 (x1 >>> (24 &&& 31)))))) 5 (vp_nar .byte (Int8.toInt32 (Int32.toInt8 (x1 >>> (16 &&& 31)))))) 6 (vp_nar .byte (Int8.toInt32 (Int32.toInt8 (x1 >>> (8 &&& 31)))))) 7 (vp_nar .byte (Int8.toInt32 (Int32.toInt8 (x1 >>> (0 &&& 31)))))) 8 (vp_nar .byte (Int8.toInt32 (Int32.toInt8 (x2 >>> (24 &&& 31)))))) 9 (vp_nar .byte (Int8.toInt32 (Int32.toInt8 (x2 >>> (16 &&& 31)))))) 10 (vp_nar .byte (Int8.toInt32 (Int32.toInt8 (x2 >>> (8 &&& 31))))))))] H := hP
  have hD : va_D A [(h0, .inr (12, ((((((((((((f0.set 0 (.int 0)).set 2 (.int 1)).set 2 (.int 2)).set 2 (.int 3)).set 2 (.int 4)).set 2 (.int 5)).set 2 (.int 6)).set 2 (.int 7)).set 2 (.int 8)).set 2 (.int 9)).set 2 (.int 10)).set 2 (.int 11)))), (h1, .inl (cB, 2000, .inl (upd (upd (upd (upd (upd (upd (upd (upd (upd (upd (upd g0 0 (vp_nar .byte (Int8.toInt32 (Int32.toInt8 (x0 >>> (24 &&& 31)))))) 1 (vp_nar .byte (Int8.toInt32 (Int32.toInt8 (x0 >>> (16 &&& 31)))))) 2 (vp_nar .byte (Int8.toInt32 (Int32.toInt8 (x0 >>> (8 &&& 31)))))) 3 (vp_nar .byte (Int8.toInt32 (Int32.toInt8 (x0 >>> (0 &&& 31)))))) 4 (vp_nar .byte (Int8.toInt32 (Int32.toInt8 (x1 >>> (24 &&& 31)))))) 5 (vp_nar .byte (Int8.toInt32 (Int32.toInt8 (x1 >>> (16 &&& 31)))))) 6 (vp_nar .byte (Int8.toInt32 (Int32.toInt8 (x1 >>> (8 &&& 31)))))) 7 (vp_nar .byte (Int8.toInt32 (Int32.toInt8 (x1 >>> (0 &&& 31)))))) 8 (vp_nar .byte (Int8.toInt32 (Int32.toInt8 (x2 >>> (24 &&& 31)))))) 9 (vp_nar .byte (Int8.toInt32 (Int32.toInt8 (x2 >>> (16 &&& 31)))))) 10 (vp_nar .byte (Int8.toInt32 (Int32.toInt8 (x2 >>> (8 &&& 31))))))))] := hD
  refine lv_iinc (v := 11) (lv' := [(6, .int 11), (7, .int x2), (0, .ref h0), (1, .int x0), (2, .int x1), (3, .int x2), (4, .int x3), (5, .int x4)]) hx hb dX12_feed_122 hl (k := 1) rfl (by decide) (by decide) rfl (fun ls hl => ?_)
  refine lv_goto (tgt := 34) hx hb dX12_feed_125 (by decide) ?_
  refine lv_iload hx hb dX12_feed_34 (lv_at hl 0 rfl) ?_
  refine lv_bipush (v := 20) hx hb dX12_feed_36 (by decide) ?_
  refine lv_icmp_ge (tgt := 128) hx hb dX12_feed_38 (by decide) (fun c9 => absurd c9 (by decide)) (fun _ => ?_)
  refine lv_iload hx hb dX12_feed_41 (lv_at hl 0 rfl) ?_
  refine lv_iconst (v := 4) hx hb dX12_feed_43 (by decide) ?_
  refine lv_icmp_ge (tgt := 51) hx hb dX12_feed_44 (by decide) (fun _ => ?_) (fun c9 => absurd (by decide) c9)
  refine lv_iload hx hb dX12_feed_51 (lv_at hl 0 rfl) ?_
  refine lv_bipush (v := 8) hx hb dX12_feed_53 (by decide) ?_
  refine lv_icmp_ge (tgt := 62) hx hb dX12_feed_55 (by decide) (fun _ => ?_) (fun c9 => absurd (by decide) c9)
  refine lv_iload hx hb dX12_feed_62 (lv_at hl 0 rfl) ?_
  refine lv_bipush (v := 12) hx hb dX12_feed_64 (by decide) ?_
  refine lv_icmp_ge (tgt := 73) hx hb dX12_feed_66 (by decide) (fun c9 => absurd c9 (by decide)) (fun _ => ?_)
  refine lv_iload_n hx hb dX12_feed_69 rfl (lv_at hl 5 rfl) ?_
  refine lv_goto (tgt := 87) hx hb dX12_feed_70 (by decide) ?_
  refine lv_istore (lv' := [(7, .int x2), (6, .int 11), (0, .ref h0), (1, .int x0), (2, .int x1), (3, .int x2), (4, .int x3), (5, .int x4)]) hx hb dX12_feed_87 hl (by decide) rfl (fun ls hl => ?_)
  refine lv_aload_n hx hb dX12_feed_89 rfl (lv_at hl 2 rfl) ?_
  refine k_get (D := D) (ci := 12) (v := .ref h1) (N := 195) hx hb hts hin12 hown hK hP 0 rfl rfl (by decide) f9_12_1 (hts (.fieldLink RX12 15 "IntegerHouseModel" "tape" "[B") (o9_X12_feed _ (List.mem_of_getElem? (i := 2) rfl))) (k_ne (by decide) (k_ne (by decide) (k_ne (by decide) (k_ne (by decide) (k_ne (by decide) (k_ne (by decide) (k_ne (by decide) (k_ne (by decide) (k_ne (by decide) (k_ne (by decide) (k_ne (by decide) (k_ne (by decide) e2)))))))))))) dX12_feed_90 ?_
  refine lv_aload_n hx hb dX12_feed_93 rfl (lv_at hl 2 rfl) ?_
  refine k_get (D := D) (ci := 12) (v := .int 11) (N := 195) hx hb hts hin12 hown hK hP 0 rfl rfl (by decide) f9_12_2 (hts (.fieldLink RX12 485 "IntegerHouseModel" "taped" "I") (o9_X12_feed _ (List.mem_of_getElem? (i := 0) rfl))) (k_set (k_set (k_set (k_set (k_set (k_set (k_set (k_set (k_set (k_set (k_set (k_ne (by decide) e0)))))))))))) dX12_feed_94 ?_
  refine lv_iload hx hb dX12_feed_97 (lv_at hl 0 rfl) ?_
  refine lv_bipush (v := 24) hx hb dX12_feed_99 (by decide) ?_
  refine lv_bipush (v := 8) hx hb dX12_feed_101 (by decide) ?_
  refine lv_iload hx hb dX12_feed_103 (lv_at hl 1 rfl) ?_
  refine lv_iconst (v := 4) hx hb dX12_feed_105 (by decide) ?_
  refine lv_irem hx hb dX12_feed_106 (by decide) ?_
  refine k_topi (y := 3) (by decide) ?_
  refine lv_imul hx hb dX12_feed_107 ?_
  refine k_topi (y := 24) (by decide) ?_
  refine lv_isub hx hb dX12_feed_108 ?_
  refine k_topi (y := 0) (by decide) ?_
  refine lv_ishr hx hb dX12_feed_109 ?_
  refine lv_i2b (v := (Int8.toInt32 (Int32.toInt8 (x2 >>> (0 &&& 31))))) hx hb dX12_feed_110 rfl ?_
  refine va_bast hx hb hK hP hD hS 1 2 rfl rfl (k_in (by decide)) dX12_feed_111 (fun H locs hP hD hS => ?_)
  have hP : va_P D vwCl [(h0, .inr (12, ((((((((((((f0.set 0 (.int 0)).set 2 (.int 1)).set 2 (.int 2)).set 2 (.int 3)).set 2 (.int 4)).set 2 (.int 5)).set 2 (.int 6)).set 2 (.int 7)).set 2 (.int 8)).set 2 (.int 9)).set 2 (.int 10)).set 2 (.int 11)))), (h1, .inl (cB, 2000, .inl (upd (upd (upd (upd (upd (upd (upd (upd (upd (upd (upd (upd g0 0 (vp_nar .byte (Int8.toInt32 (Int32.toInt8 (x0 >>> (24 &&& 31)))))) 1 (vp_nar .byte (Int8.toInt32 (Int32.toInt8 (x0 >>> (16 &&& 31)))))) 2 (vp_nar .byte (Int8.toInt32 (Int32.toInt8 (x0 >>> (8 &&& 31)))))) 3 (vp_nar .byte (Int8.toInt32 (Int32.toInt8 (x0 >>> (0 &&& 31)))))) 4 (vp_nar .byte (Int8.toInt32 (Int32.toInt8 (x1 >>> (24 &&& 31)))))) 5 (vp_nar .byte (Int8.toInt32 (Int32.toInt8 (x1 >>> (16 &&& 31)))))) 6 (vp_nar .byte (Int8.toInt32 (Int32.toInt8 (x1 >>> (8 &&& 31)))))) 7 (vp_nar .byte (Int8.toInt32 (Int32.toInt8 (x1 >>> (0 &&& 31)))))) 8 (vp_nar .byte (Int8.toInt32 (Int32.toInt8 (x2 >>> (24 &&& 31)))))) 9 (vp_nar .byte (Int8.toInt32 (Int32.toInt8 (x2 >>> (16 &&& 31)))))) 10 (vp_nar .byte (Int8.toInt32 (Int32.toInt8 (x2 >>> (8 &&& 31)))))) 11 (vp_nar .byte (Int8.toInt32 (Int32.toInt8 (x2 >>> (0 &&& 31))))))))] H := hP
  have hD : va_D A [(h0, .inr (12, ((((((((((((f0.set 0 (.int 0)).set 2 (.int 1)).set 2 (.int 2)).set 2 (.int 3)).set 2 (.int 4)).set 2 (.int 5)).set 2 (.int 6)).set 2 (.int 7)).set 2 (.int 8)).set 2 (.int 9)).set 2 (.int 10)).set 2 (.int 11)))), (h1, .inl (cB, 2000, .inl (upd (upd (upd (upd (upd (upd (upd (upd (upd (upd (upd (upd g0 0 (vp_nar .byte (Int8.toInt32 (Int32.toInt8 (x0 >>> (24 &&& 31)))))) 1 (vp_nar .byte (Int8.toInt32 (Int32.toInt8 (x0 >>> (16 &&& 31)))))) 2 (vp_nar .byte (Int8.toInt32 (Int32.toInt8 (x0 >>> (8 &&& 31)))))) 3 (vp_nar .byte (Int8.toInt32 (Int32.toInt8 (x0 >>> (0 &&& 31)))))) 4 (vp_nar .byte (Int8.toInt32 (Int32.toInt8 (x1 >>> (24 &&& 31)))))) 5 (vp_nar .byte (Int8.toInt32 (Int32.toInt8 (x1 >>> (16 &&& 31)))))) 6 (vp_nar .byte (Int8.toInt32 (Int32.toInt8 (x1 >>> (8 &&& 31)))))) 7 (vp_nar .byte (Int8.toInt32 (Int32.toInt8 (x1 >>> (0 &&& 31)))))) 8 (vp_nar .byte (Int8.toInt32 (Int32.toInt8 (x2 >>> (24 &&& 31)))))) 9 (vp_nar .byte (Int8.toInt32 (Int32.toInt8 (x2 >>> (16 &&& 31)))))) 10 (vp_nar .byte (Int8.toInt32 (Int32.toInt8 (x2 >>> (8 &&& 31)))))) 11 (vp_nar .byte (Int8.toInt32 (Int32.toInt8 (x2 >>> (0 &&& 31))))))))] := hD
  refine lv_aload_n hx hb dX12_feed_112 rfl (lv_at hl 2 rfl) ?_
  refine lv_dup hx hb dX12_feed_113 rfl ?_
  refine k_get (D := D) (ci := 12) (v := .int 11) (N := 195) hx hb hts hin12 hown hK hP 0 rfl rfl (by decide) f9_12_2 (hts (.fieldLink RX12 485 "IntegerHouseModel" "taped" "I") (o9_X12_feed _ (List.mem_of_getElem? (i := 0) rfl))) (k_set (k_set (k_set (k_set (k_set (k_set (k_set (k_set (k_set (k_set (k_set (k_ne (by decide) e0)))))))))))) dX12_feed_114 ?_
  refine lv_iconst (v := 1) hx hb dX12_feed_117 (by decide) ?_
  refine lv_iadd hx hb dX12_feed_118 ?_
  refine k_topi (y := 12) (by decide) ?_
  refine k_put (D := D) (ci := 12) (v := .int 12) (ty := .int) (N := 195) hx hb hts hin12 tyX12 tyX12_ok nmX12 hown hK hP hD hS 0 rfl rfl (by decide) f9_12_2 (hts (.fieldLink RX12 485 "IntegerHouseModel" "taped" "I") (o9_X12_feed _ (List.mem_of_getElem? (i := 0) rfl))) rfl pd_2 rfl rfl (k_len (k_set (k_set (k_set (k_set (k_set (k_set (k_set (k_set (k_set (k_set (k_set (k_ne (by decide) e0))))))))))))) dX12_feed_119 (fun H locs hP hD hS => ?_)
  have hP : va_P D vwCl [(h0, .inr (12, (((((((((((((f0.set 0 (.int 0)).set 2 (.int 1)).set 2 (.int 2)).set 2 (.int 3)).set 2 (.int 4)).set 2 (.int 5)).set 2 (.int 6)).set 2 (.int 7)).set 2 (.int 8)).set 2 (.int 9)).set 2 (.int 10)).set 2 (.int 11)).set 2 (.int 12)))), (h1, .inl (cB, 2000, .inl (upd (upd (upd (upd (upd (upd (upd (upd (upd (upd (upd (upd g0 0 (vp_nar .byte (Int8.toInt32 (Int32.toInt8 (x0 >>> (24 &&& 31)))))) 1 (vp_nar .byte (Int8.toInt32 (Int32.toInt8 (x0 >>> (16 &&& 31)))))) 2 (vp_nar .byte (Int8.toInt32 (Int32.toInt8 (x0 >>> (8 &&& 31)))))) 3 (vp_nar .byte (Int8.toInt32 (Int32.toInt8 (x0 >>> (0 &&& 31)))))) 4 (vp_nar .byte (Int8.toInt32 (Int32.toInt8 (x1 >>> (24 &&& 31)))))) 5 (vp_nar .byte (Int8.toInt32 (Int32.toInt8 (x1 >>> (16 &&& 31)))))) 6 (vp_nar .byte (Int8.toInt32 (Int32.toInt8 (x1 >>> (8 &&& 31)))))) 7 (vp_nar .byte (Int8.toInt32 (Int32.toInt8 (x1 >>> (0 &&& 31)))))) 8 (vp_nar .byte (Int8.toInt32 (Int32.toInt8 (x2 >>> (24 &&& 31)))))) 9 (vp_nar .byte (Int8.toInt32 (Int32.toInt8 (x2 >>> (16 &&& 31)))))) 10 (vp_nar .byte (Int8.toInt32 (Int32.toInt8 (x2 >>> (8 &&& 31)))))) 11 (vp_nar .byte (Int8.toInt32 (Int32.toInt8 (x2 >>> (0 &&& 31))))))))] H := hP
  have hD : va_D A [(h0, .inr (12, (((((((((((((f0.set 0 (.int 0)).set 2 (.int 1)).set 2 (.int 2)).set 2 (.int 3)).set 2 (.int 4)).set 2 (.int 5)).set 2 (.int 6)).set 2 (.int 7)).set 2 (.int 8)).set 2 (.int 9)).set 2 (.int 10)).set 2 (.int 11)).set 2 (.int 12)))), (h1, .inl (cB, 2000, .inl (upd (upd (upd (upd (upd (upd (upd (upd (upd (upd (upd (upd g0 0 (vp_nar .byte (Int8.toInt32 (Int32.toInt8 (x0 >>> (24 &&& 31)))))) 1 (vp_nar .byte (Int8.toInt32 (Int32.toInt8 (x0 >>> (16 &&& 31)))))) 2 (vp_nar .byte (Int8.toInt32 (Int32.toInt8 (x0 >>> (8 &&& 31)))))) 3 (vp_nar .byte (Int8.toInt32 (Int32.toInt8 (x0 >>> (0 &&& 31)))))) 4 (vp_nar .byte (Int8.toInt32 (Int32.toInt8 (x1 >>> (24 &&& 31)))))) 5 (vp_nar .byte (Int8.toInt32 (Int32.toInt8 (x1 >>> (16 &&& 31)))))) 6 (vp_nar .byte (Int8.toInt32 (Int32.toInt8 (x1 >>> (8 &&& 31)))))) 7 (vp_nar .byte (Int8.toInt32 (Int32.toInt8 (x1 >>> (0 &&& 31)))))) 8 (vp_nar .byte (Int8.toInt32 (Int32.toInt8 (x2 >>> (24 &&& 31)))))) 9 (vp_nar .byte (Int8.toInt32 (Int32.toInt8 (x2 >>> (16 &&& 31)))))) 10 (vp_nar .byte (Int8.toInt32 (Int32.toInt8 (x2 >>> (8 &&& 31)))))) 11 (vp_nar .byte (Int8.toInt32 (Int32.toInt8 (x2 >>> (0 &&& 31))))))))] := hD
  refine lv_iinc (v := 12) (lv' := [(6, .int 12), (7, .int x2), (0, .ref h0), (1, .int x0), (2, .int x1), (3, .int x2), (4, .int x3), (5, .int x4)]) hx hb dX12_feed_122 hl (k := 1) rfl (by decide) (by decide) rfl (fun ls hl => ?_)
  refine lv_goto (tgt := 34) hx hb dX12_feed_125 (by decide) ?_
  refine lv_iload hx hb dX12_feed_34 (lv_at hl 0 rfl) ?_
  refine lv_bipush (v := 20) hx hb dX12_feed_36 (by decide) ?_
  refine lv_icmp_ge (tgt := 128) hx hb dX12_feed_38 (by decide) (fun c9 => absurd c9 (by decide)) (fun _ => ?_)
  refine lv_iload hx hb dX12_feed_41 (lv_at hl 0 rfl) ?_
  refine lv_iconst (v := 4) hx hb dX12_feed_43 (by decide) ?_
  refine lv_icmp_ge (tgt := 51) hx hb dX12_feed_44 (by decide) (fun _ => ?_) (fun c9 => absurd (by decide) c9)
  refine lv_iload hx hb dX12_feed_51 (lv_at hl 0 rfl) ?_
  refine lv_bipush (v := 8) hx hb dX12_feed_53 (by decide) ?_
  refine lv_icmp_ge (tgt := 62) hx hb dX12_feed_55 (by decide) (fun _ => ?_) (fun c9 => absurd (by decide) c9)
  refine lv_iload hx hb dX12_feed_62 (lv_at hl 0 rfl) ?_
  refine lv_bipush (v := 12) hx hb dX12_feed_64 (by decide) ?_
  refine lv_icmp_ge (tgt := 73) hx hb dX12_feed_66 (by decide) (fun _ => ?_) (fun c9 => absurd (by decide) c9)
  refine lv_iload hx hb dX12_feed_73 (lv_at hl 0 rfl) ?_
  refine lv_bipush (v := 16) hx hb dX12_feed_75 (by decide) ?_
  refine lv_icmp_ge (tgt := 85) hx hb dX12_feed_77 (by decide) (fun c9 => absurd c9 (by decide)) (fun _ => ?_)
  refine lv_iload hx hb dX12_feed_80 (lv_at hl 6 rfl) ?_
  refine lv_goto (tgt := 87) hx hb dX12_feed_82 (by decide) ?_
  refine lv_istore (lv' := [(7, .int x3), (6, .int 12), (0, .ref h0), (1, .int x0), (2, .int x1), (3, .int x2), (4, .int x3), (5, .int x4)]) hx hb dX12_feed_87 hl (by decide) rfl (fun ls hl => ?_)
  refine lv_aload_n hx hb dX12_feed_89 rfl (lv_at hl 2 rfl) ?_
  refine k_get (D := D) (ci := 12) (v := .ref h1) (N := 195) hx hb hts hin12 hown hK hP 0 rfl rfl (by decide) f9_12_1 (hts (.fieldLink RX12 15 "IntegerHouseModel" "tape" "[B") (o9_X12_feed _ (List.mem_of_getElem? (i := 2) rfl))) (k_ne (by decide) (k_ne (by decide) (k_ne (by decide) (k_ne (by decide) (k_ne (by decide) (k_ne (by decide) (k_ne (by decide) (k_ne (by decide) (k_ne (by decide) (k_ne (by decide) (k_ne (by decide) (k_ne (by decide) (k_ne (by decide) e2))))))))))))) dX12_feed_90 ?_
  refine lv_aload_n hx hb dX12_feed_93 rfl (lv_at hl 2 rfl) ?_
  refine k_get (D := D) (ci := 12) (v := .int 12) (N := 195) hx hb hts hin12 hown hK hP 0 rfl rfl (by decide) f9_12_2 (hts (.fieldLink RX12 485 "IntegerHouseModel" "taped" "I") (o9_X12_feed _ (List.mem_of_getElem? (i := 0) rfl))) (k_set (k_set (k_set (k_set (k_set (k_set (k_set (k_set (k_set (k_set (k_set (k_set (k_ne (by decide) e0))))))))))))) dX12_feed_94 ?_
  refine lv_iload hx hb dX12_feed_97 (lv_at hl 0 rfl) ?_
  refine lv_bipush (v := 24) hx hb dX12_feed_99 (by decide) ?_
  refine lv_bipush (v := 8) hx hb dX12_feed_101 (by decide) ?_
  refine lv_iload hx hb dX12_feed_103 (lv_at hl 1 rfl) ?_
  refine lv_iconst (v := 4) hx hb dX12_feed_105 (by decide) ?_
  refine lv_irem hx hb dX12_feed_106 (by decide) ?_
  refine k_topi (y := 0) (by decide) ?_
  refine lv_imul hx hb dX12_feed_107 ?_
  refine k_topi (y := 0) (by decide) ?_
  refine lv_isub hx hb dX12_feed_108 ?_
  refine k_topi (y := 24) (by decide) ?_
  refine lv_ishr hx hb dX12_feed_109 ?_
  refine lv_i2b (v := (Int8.toInt32 (Int32.toInt8 (x3 >>> (24 &&& 31))))) hx hb dX12_feed_110 rfl ?_
  refine va_bast hx hb hK hP hD hS 1 2 rfl rfl (k_in (by decide)) dX12_feed_111 (fun H locs hP hD hS => ?_)
  have hP : va_P D vwCl [(h0, .inr (12, (((((((((((((f0.set 0 (.int 0)).set 2 (.int 1)).set 2 (.int 2)).set 2 (.int 3)).set 2 (.int 4)).set 2 (.int 5)).set 2 (.int 6)).set 2 (.int 7)).set 2 (.int 8)).set 2 (.int 9)).set 2 (.int 10)).set 2 (.int 11)).set 2 (.int 12)))), (h1, .inl (cB, 2000, .inl (upd (upd (upd (upd (upd (upd (upd (upd (upd (upd (upd (upd (upd g0 0 (vp_nar .byte (Int8.toInt32 (Int32.toInt8 (x0 >>> (24 &&& 31)))))) 1 (vp_nar .byte (Int8.toInt32 (Int32.toInt8 (x0 >>> (16 &&& 31)))))) 2 (vp_nar .byte (Int8.toInt32 (Int32.toInt8 (x0 >>> (8 &&& 31)))))) 3 (vp_nar .byte (Int8.toInt32 (Int32.toInt8 (x0 >>> (0 &&& 31)))))) 4 (vp_nar .byte (Int8.toInt32 (Int32.toInt8 (x1 >>> (24 &&& 31)))))) 5 (vp_nar .byte (Int8.toInt32 (Int32.toInt8 (x1 >>> (16 &&& 31)))))) 6 (vp_nar .byte (Int8.toInt32 (Int32.toInt8 (x1 >>> (8 &&& 31)))))) 7 (vp_nar .byte (Int8.toInt32 (Int32.toInt8 (x1 >>> (0 &&& 31)))))) 8 (vp_nar .byte (Int8.toInt32 (Int32.toInt8 (x2 >>> (24 &&& 31)))))) 9 (vp_nar .byte (Int8.toInt32 (Int32.toInt8 (x2 >>> (16 &&& 31)))))) 10 (vp_nar .byte (Int8.toInt32 (Int32.toInt8 (x2 >>> (8 &&& 31)))))) 11 (vp_nar .byte (Int8.toInt32 (Int32.toInt8 (x2 >>> (0 &&& 31)))))) 12 (vp_nar .byte (Int8.toInt32 (Int32.toInt8 (x3 >>> (24 &&& 31))))))))] H := hP
  have hD : va_D A [(h0, .inr (12, (((((((((((((f0.set 0 (.int 0)).set 2 (.int 1)).set 2 (.int 2)).set 2 (.int 3)).set 2 (.int 4)).set 2 (.int 5)).set 2 (.int 6)).set 2 (.int 7)).set 2 (.int 8)).set 2 (.int 9)).set 2 (.int 10)).set 2 (.int 11)).set 2 (.int 12)))), (h1, .inl (cB, 2000, .inl (upd (upd (upd (upd (upd (upd (upd (upd (upd (upd (upd (upd (upd g0 0 (vp_nar .byte (Int8.toInt32 (Int32.toInt8 (x0 >>> (24 &&& 31)))))) 1 (vp_nar .byte (Int8.toInt32 (Int32.toInt8 (x0 >>> (16 &&& 31)))))) 2 (vp_nar .byte (Int8.toInt32 (Int32.toInt8 (x0 >>> (8 &&& 31)))))) 3 (vp_nar .byte (Int8.toInt32 (Int32.toInt8 (x0 >>> (0 &&& 31)))))) 4 (vp_nar .byte (Int8.toInt32 (Int32.toInt8 (x1 >>> (24 &&& 31)))))) 5 (vp_nar .byte (Int8.toInt32 (Int32.toInt8 (x1 >>> (16 &&& 31)))))) 6 (vp_nar .byte (Int8.toInt32 (Int32.toInt8 (x1 >>> (8 &&& 31)))))) 7 (vp_nar .byte (Int8.toInt32 (Int32.toInt8 (x1 >>> (0 &&& 31)))))) 8 (vp_nar .byte (Int8.toInt32 (Int32.toInt8 (x2 >>> (24 &&& 31)))))) 9 (vp_nar .byte (Int8.toInt32 (Int32.toInt8 (x2 >>> (16 &&& 31)))))) 10 (vp_nar .byte (Int8.toInt32 (Int32.toInt8 (x2 >>> (8 &&& 31)))))) 11 (vp_nar .byte (Int8.toInt32 (Int32.toInt8 (x2 >>> (0 &&& 31)))))) 12 (vp_nar .byte (Int8.toInt32 (Int32.toInt8 (x3 >>> (24 &&& 31))))))))] := hD
  refine lv_aload_n hx hb dX12_feed_112 rfl (lv_at hl 2 rfl) ?_
  refine lv_dup hx hb dX12_feed_113 rfl ?_
  refine k_get (D := D) (ci := 12) (v := .int 12) (N := 195) hx hb hts hin12 hown hK hP 0 rfl rfl (by decide) f9_12_2 (hts (.fieldLink RX12 485 "IntegerHouseModel" "taped" "I") (o9_X12_feed _ (List.mem_of_getElem? (i := 0) rfl))) (k_set (k_set (k_set (k_set (k_set (k_set (k_set (k_set (k_set (k_set (k_set (k_set (k_ne (by decide) e0))))))))))))) dX12_feed_114 ?_
  refine lv_iconst (v := 1) hx hb dX12_feed_117 (by decide) ?_
  refine lv_iadd hx hb dX12_feed_118 ?_
  refine k_topi (y := 13) (by decide) ?_
  refine k_put (D := D) (ci := 12) (v := .int 13) (ty := .int) (N := 195) hx hb hts hin12 tyX12 tyX12_ok nmX12 hown hK hP hD hS 0 rfl rfl (by decide) f9_12_2 (hts (.fieldLink RX12 485 "IntegerHouseModel" "taped" "I") (o9_X12_feed _ (List.mem_of_getElem? (i := 0) rfl))) rfl pd_2 rfl rfl (k_len (k_set (k_set (k_set (k_set (k_set (k_set (k_set (k_set (k_set (k_set (k_set (k_set (k_ne (by decide) e0)))))))))))))) dX12_feed_119 (fun H locs hP hD hS => ?_)
  have hP : va_P D vwCl [(h0, .inr (12, ((((((((((((((f0.set 0 (.int 0)).set 2 (.int 1)).set 2 (.int 2)).set 2 (.int 3)).set 2 (.int 4)).set 2 (.int 5)).set 2 (.int 6)).set 2 (.int 7)).set 2 (.int 8)).set 2 (.int 9)).set 2 (.int 10)).set 2 (.int 11)).set 2 (.int 12)).set 2 (.int 13)))), (h1, .inl (cB, 2000, .inl (upd (upd (upd (upd (upd (upd (upd (upd (upd (upd (upd (upd (upd g0 0 (vp_nar .byte (Int8.toInt32 (Int32.toInt8 (x0 >>> (24 &&& 31)))))) 1 (vp_nar .byte (Int8.toInt32 (Int32.toInt8 (x0 >>> (16 &&& 31)))))) 2 (vp_nar .byte (Int8.toInt32 (Int32.toInt8 (x0 >>> (8 &&& 31)))))) 3 (vp_nar .byte (Int8.toInt32 (Int32.toInt8 (x0 >>> (0 &&& 31)))))) 4 (vp_nar .byte (Int8.toInt32 (Int32.toInt8 (x1 >>> (24 &&& 31)))))) 5 (vp_nar .byte (Int8.toInt32 (Int32.toInt8 (x1 >>> (16 &&& 31)))))) 6 (vp_nar .byte (Int8.toInt32 (Int32.toInt8 (x1 >>> (8 &&& 31)))))) 7 (vp_nar .byte (Int8.toInt32 (Int32.toInt8 (x1 >>> (0 &&& 31)))))) 8 (vp_nar .byte (Int8.toInt32 (Int32.toInt8 (x2 >>> (24 &&& 31)))))) 9 (vp_nar .byte (Int8.toInt32 (Int32.toInt8 (x2 >>> (16 &&& 31)))))) 10 (vp_nar .byte (Int8.toInt32 (Int32.toInt8 (x2 >>> (8 &&& 31)))))) 11 (vp_nar .byte (Int8.toInt32 (Int32.toInt8 (x2 >>> (0 &&& 31)))))) 12 (vp_nar .byte (Int8.toInt32 (Int32.toInt8 (x3 >>> (24 &&& 31))))))))] H := hP
  have hD : va_D A [(h0, .inr (12, ((((((((((((((f0.set 0 (.int 0)).set 2 (.int 1)).set 2 (.int 2)).set 2 (.int 3)).set 2 (.int 4)).set 2 (.int 5)).set 2 (.int 6)).set 2 (.int 7)).set 2 (.int 8)).set 2 (.int 9)).set 2 (.int 10)).set 2 (.int 11)).set 2 (.int 12)).set 2 (.int 13)))), (h1, .inl (cB, 2000, .inl (upd (upd (upd (upd (upd (upd (upd (upd (upd (upd (upd (upd (upd g0 0 (vp_nar .byte (Int8.toInt32 (Int32.toInt8 (x0 >>> (24 &&& 31)))))) 1 (vp_nar .byte (Int8.toInt32 (Int32.toInt8 (x0 >>> (16 &&& 31)))))) 2 (vp_nar .byte (Int8.toInt32 (Int32.toInt8 (x0 >>> (8 &&& 31)))))) 3 (vp_nar .byte (Int8.toInt32 (Int32.toInt8 (x0 >>> (0 &&& 31)))))) 4 (vp_nar .byte (Int8.toInt32 (Int32.toInt8 (x1 >>> (24 &&& 31)))))) 5 (vp_nar .byte (Int8.toInt32 (Int32.toInt8 (x1 >>> (16 &&& 31)))))) 6 (vp_nar .byte (Int8.toInt32 (Int32.toInt8 (x1 >>> (8 &&& 31)))))) 7 (vp_nar .byte (Int8.toInt32 (Int32.toInt8 (x1 >>> (0 &&& 31)))))) 8 (vp_nar .byte (Int8.toInt32 (Int32.toInt8 (x2 >>> (24 &&& 31)))))) 9 (vp_nar .byte (Int8.toInt32 (Int32.toInt8 (x2 >>> (16 &&& 31)))))) 10 (vp_nar .byte (Int8.toInt32 (Int32.toInt8 (x2 >>> (8 &&& 31)))))) 11 (vp_nar .byte (Int8.toInt32 (Int32.toInt8 (x2 >>> (0 &&& 31)))))) 12 (vp_nar .byte (Int8.toInt32 (Int32.toInt8 (x3 >>> (24 &&& 31))))))))] := hD
  refine lv_iinc (v := 13) (lv' := [(6, .int 13), (7, .int x3), (0, .ref h0), (1, .int x0), (2, .int x1), (3, .int x2), (4, .int x3), (5, .int x4)]) hx hb dX12_feed_122 hl (k := 1) rfl (by decide) (by decide) rfl (fun ls hl => ?_)
  refine lv_goto (tgt := 34) hx hb dX12_feed_125 (by decide) ?_
  refine lv_iload hx hb dX12_feed_34 (lv_at hl 0 rfl) ?_
  refine lv_bipush (v := 20) hx hb dX12_feed_36 (by decide) ?_
  refine lv_icmp_ge (tgt := 128) hx hb dX12_feed_38 (by decide) (fun c9 => absurd c9 (by decide)) (fun _ => ?_)
  refine lv_iload hx hb dX12_feed_41 (lv_at hl 0 rfl) ?_
  refine lv_iconst (v := 4) hx hb dX12_feed_43 (by decide) ?_
  refine lv_icmp_ge (tgt := 51) hx hb dX12_feed_44 (by decide) (fun _ => ?_) (fun c9 => absurd (by decide) c9)
  refine lv_iload hx hb dX12_feed_51 (lv_at hl 0 rfl) ?_
  refine lv_bipush (v := 8) hx hb dX12_feed_53 (by decide) ?_
  refine lv_icmp_ge (tgt := 62) hx hb dX12_feed_55 (by decide) (fun _ => ?_) (fun c9 => absurd (by decide) c9)
  refine lv_iload hx hb dX12_feed_62 (lv_at hl 0 rfl) ?_
  refine lv_bipush (v := 12) hx hb dX12_feed_64 (by decide) ?_
  refine lv_icmp_ge (tgt := 73) hx hb dX12_feed_66 (by decide) (fun _ => ?_) (fun c9 => absurd (by decide) c9)
  refine lv_iload hx hb dX12_feed_73 (lv_at hl 0 rfl) ?_
  refine lv_bipush (v := 16) hx hb dX12_feed_75 (by decide) ?_
  refine lv_icmp_ge (tgt := 85) hx hb dX12_feed_77 (by decide) (fun c9 => absurd c9 (by decide)) (fun _ => ?_)
  refine lv_iload hx hb dX12_feed_80 (lv_at hl 6 rfl) ?_
  refine lv_goto (tgt := 87) hx hb dX12_feed_82 (by decide) ?_
  refine lv_istore (lv' := [(7, .int x3), (6, .int 13), (0, .ref h0), (1, .int x0), (2, .int x1), (3, .int x2), (4, .int x3), (5, .int x4)]) hx hb dX12_feed_87 hl (by decide) rfl (fun ls hl => ?_)
  refine lv_aload_n hx hb dX12_feed_89 rfl (lv_at hl 2 rfl) ?_
  refine k_get (D := D) (ci := 12) (v := .ref h1) (N := 195) hx hb hts hin12 hown hK hP 0 rfl rfl (by decide) f9_12_1 (hts (.fieldLink RX12 15 "IntegerHouseModel" "tape" "[B") (o9_X12_feed _ (List.mem_of_getElem? (i := 2) rfl))) (k_ne (by decide) (k_ne (by decide) (k_ne (by decide) (k_ne (by decide) (k_ne (by decide) (k_ne (by decide) (k_ne (by decide) (k_ne (by decide) (k_ne (by decide) (k_ne (by decide) (k_ne (by decide) (k_ne (by decide) (k_ne (by decide) (k_ne (by decide) e2)))))))))))))) dX12_feed_90 ?_
  refine lv_aload_n hx hb dX12_feed_93 rfl (lv_at hl 2 rfl) ?_
  refine k_get (D := D) (ci := 12) (v := .int 13) (N := 195) hx hb hts hin12 hown hK hP 0 rfl rfl (by decide) f9_12_2 (hts (.fieldLink RX12 485 "IntegerHouseModel" "taped" "I") (o9_X12_feed _ (List.mem_of_getElem? (i := 0) rfl))) (k_set (k_set (k_set (k_set (k_set (k_set (k_set (k_set (k_set (k_set (k_set (k_set (k_set (k_ne (by decide) e0)))))))))))))) dX12_feed_94 ?_
  refine lv_iload hx hb dX12_feed_97 (lv_at hl 0 rfl) ?_
  refine lv_bipush (v := 24) hx hb dX12_feed_99 (by decide) ?_
  refine lv_bipush (v := 8) hx hb dX12_feed_101 (by decide) ?_
  refine lv_iload hx hb dX12_feed_103 (lv_at hl 1 rfl) ?_
  refine lv_iconst (v := 4) hx hb dX12_feed_105 (by decide) ?_
  refine lv_irem hx hb dX12_feed_106 (by decide) ?_
  refine k_topi (y := 1) (by decide) ?_
  refine lv_imul hx hb dX12_feed_107 ?_
  refine k_topi (y := 8) (by decide) ?_
  refine lv_isub hx hb dX12_feed_108 ?_
  refine k_topi (y := 16) (by decide) ?_
  refine lv_ishr hx hb dX12_feed_109 ?_
  refine lv_i2b (v := (Int8.toInt32 (Int32.toInt8 (x3 >>> (16 &&& 31))))) hx hb dX12_feed_110 rfl ?_
  refine va_bast hx hb hK hP hD hS 1 2 rfl rfl (k_in (by decide)) dX12_feed_111 (fun H locs hP hD hS => ?_)
  have hP : va_P D vwCl [(h0, .inr (12, ((((((((((((((f0.set 0 (.int 0)).set 2 (.int 1)).set 2 (.int 2)).set 2 (.int 3)).set 2 (.int 4)).set 2 (.int 5)).set 2 (.int 6)).set 2 (.int 7)).set 2 (.int 8)).set 2 (.int 9)).set 2 (.int 10)).set 2 (.int 11)).set 2 (.int 12)).set 2 (.int 13)))), (h1, .inl (cB, 2000, .inl (upd (upd (upd (upd (upd (upd (upd (upd (upd (upd (upd (upd (upd (upd g0 0 (vp_nar .byte (Int8.toInt32 (Int32.toInt8 (x0 >>> (24 &&& 31)))))) 1 (vp_nar .byte (Int8.toInt32 (Int32.toInt8 (x0 >>> (16 &&& 31)))))) 2 (vp_nar .byte (Int8.toInt32 (Int32.toInt8 (x0 >>> (8 &&& 31)))))) 3 (vp_nar .byte (Int8.toInt32 (Int32.toInt8 (x0 >>> (0 &&& 31)))))) 4 (vp_nar .byte (Int8.toInt32 (Int32.toInt8 (x1 >>> (24 &&& 31)))))) 5 (vp_nar .byte (Int8.toInt32 (Int32.toInt8 (x1 >>> (16 &&& 31)))))) 6 (vp_nar .byte (Int8.toInt32 (Int32.toInt8 (x1 >>> (8 &&& 31)))))) 7 (vp_nar .byte (Int8.toInt32 (Int32.toInt8 (x1 >>> (0 &&& 31)))))) 8 (vp_nar .byte (Int8.toInt32 (Int32.toInt8 (x2 >>> (24 &&& 31)))))) 9 (vp_nar .byte (Int8.toInt32 (Int32.toInt8 (x2 >>> (16 &&& 31)))))) 10 (vp_nar .byte (Int8.toInt32 (Int32.toInt8 (x2 >>> (8 &&& 31)))))) 11 (vp_nar .byte (Int8.toInt32 (Int32.toInt8 (x2 >>> (0 &&& 31)))))) 12 (vp_nar .byte (Int8.toInt32 (Int32.toInt8 (x3 >>> (24 &&& 31)))))) 13 (vp_nar .byte (Int8.toInt32 (Int32.toInt8 (x3 >>> (16 &&& 31))))))))] H := hP
  have hD : va_D A [(h0, .inr (12, ((((((((((((((f0.set 0 (.int 0)).set 2 (.int 1)).set 2 (.int 2)).set 2 (.int 3)).set 2 (.int 4)).set 2 (.int 5)).set 2 (.int 6)).set 2 (.int 7)).set 2 (.int 8)).set 2 (.int 9)).set 2 (.int 10)).set 2 (.int 11)).set 2 (.int 12)).set 2 (.int 13)))), (h1, .inl (cB, 2000, .inl (upd (upd (upd (upd (upd (upd (upd (upd (upd (upd (upd (upd (upd (upd g0 0 (vp_nar .byte (Int8.toInt32 (Int32.toInt8 (x0 >>> (24 &&& 31)))))) 1 (vp_nar .byte (Int8.toInt32 (Int32.toInt8 (x0 >>> (16 &&& 31)))))) 2 (vp_nar .byte (Int8.toInt32 (Int32.toInt8 (x0 >>> (8 &&& 31)))))) 3 (vp_nar .byte (Int8.toInt32 (Int32.toInt8 (x0 >>> (0 &&& 31)))))) 4 (vp_nar .byte (Int8.toInt32 (Int32.toInt8 (x1 >>> (24 &&& 31)))))) 5 (vp_nar .byte (Int8.toInt32 (Int32.toInt8 (x1 >>> (16 &&& 31)))))) 6 (vp_nar .byte (Int8.toInt32 (Int32.toInt8 (x1 >>> (8 &&& 31)))))) 7 (vp_nar .byte (Int8.toInt32 (Int32.toInt8 (x1 >>> (0 &&& 31)))))) 8 (vp_nar .byte (Int8.toInt32 (Int32.toInt8 (x2 >>> (24 &&& 31)))))) 9 (vp_nar .byte (Int8.toInt32 (Int32.toInt8 (x2 >>> (16 &&& 31)))))) 10 (vp_nar .byte (Int8.toInt32 (Int32.toInt8 (x2 >>> (8 &&& 31)))))) 11 (vp_nar .byte (Int8.toInt32 (Int32.toInt8 (x2 >>> (0 &&& 31)))))) 12 (vp_nar .byte (Int8.toInt32 (Int32.toInt8 (x3 >>> (24 &&& 31)))))) 13 (vp_nar .byte (Int8.toInt32 (Int32.toInt8 (x3 >>> (16 &&& 31))))))))] := hD
  refine lv_aload_n hx hb dX12_feed_112 rfl (lv_at hl 2 rfl) ?_
  refine lv_dup hx hb dX12_feed_113 rfl ?_
  refine k_get (D := D) (ci := 12) (v := .int 13) (N := 195) hx hb hts hin12 hown hK hP 0 rfl rfl (by decide) f9_12_2 (hts (.fieldLink RX12 485 "IntegerHouseModel" "taped" "I") (o9_X12_feed _ (List.mem_of_getElem? (i := 0) rfl))) (k_set (k_set (k_set (k_set (k_set (k_set (k_set (k_set (k_set (k_set (k_set (k_set (k_set (k_ne (by decide) e0)))))))))))))) dX12_feed_114 ?_
  refine lv_iconst (v := 1) hx hb dX12_feed_117 (by decide) ?_
  refine lv_iadd hx hb dX12_feed_118 ?_
  refine k_topi (y := 14) (by decide) ?_
  refine k_put (D := D) (ci := 12) (v := .int 14) (ty := .int) (N := 195) hx hb hts hin12 tyX12 tyX12_ok nmX12 hown hK hP hD hS 0 rfl rfl (by decide) f9_12_2 (hts (.fieldLink RX12 485 "IntegerHouseModel" "taped" "I") (o9_X12_feed _ (List.mem_of_getElem? (i := 0) rfl))) rfl pd_2 rfl rfl (k_len (k_set (k_set (k_set (k_set (k_set (k_set (k_set (k_set (k_set (k_set (k_set (k_set (k_set (k_ne (by decide) e0))))))))))))))) dX12_feed_119 (fun H locs hP hD hS => ?_)
  have hP : va_P D vwCl [(h0, .inr (12, (((((((((((((((f0.set 0 (.int 0)).set 2 (.int 1)).set 2 (.int 2)).set 2 (.int 3)).set 2 (.int 4)).set 2 (.int 5)).set 2 (.int 6)).set 2 (.int 7)).set 2 (.int 8)).set 2 (.int 9)).set 2 (.int 10)).set 2 (.int 11)).set 2 (.int 12)).set 2 (.int 13)).set 2 (.int 14)))), (h1, .inl (cB, 2000, .inl (upd (upd (upd (upd (upd (upd (upd (upd (upd (upd (upd (upd (upd (upd g0 0 (vp_nar .byte (Int8.toInt32 (Int32.toInt8 (x0 >>> (24 &&& 31)))))) 1 (vp_nar .byte (Int8.toInt32 (Int32.toInt8 (x0 >>> (16 &&& 31)))))) 2 (vp_nar .byte (Int8.toInt32 (Int32.toInt8 (x0 >>> (8 &&& 31)))))) 3 (vp_nar .byte (Int8.toInt32 (Int32.toInt8 (x0 >>> (0 &&& 31)))))) 4 (vp_nar .byte (Int8.toInt32 (Int32.toInt8 (x1 >>> (24 &&& 31)))))) 5 (vp_nar .byte (Int8.toInt32 (Int32.toInt8 (x1 >>> (16 &&& 31)))))) 6 (vp_nar .byte (Int8.toInt32 (Int32.toInt8 (x1 >>> (8 &&& 31)))))) 7 (vp_nar .byte (Int8.toInt32 (Int32.toInt8 (x1 >>> (0 &&& 31)))))) 8 (vp_nar .byte (Int8.toInt32 (Int32.toInt8 (x2 >>> (24 &&& 31)))))) 9 (vp_nar .byte (Int8.toInt32 (Int32.toInt8 (x2 >>> (16 &&& 31)))))) 10 (vp_nar .byte (Int8.toInt32 (Int32.toInt8 (x2 >>> (8 &&& 31)))))) 11 (vp_nar .byte (Int8.toInt32 (Int32.toInt8 (x2 >>> (0 &&& 31)))))) 12 (vp_nar .byte (Int8.toInt32 (Int32.toInt8 (x3 >>> (24 &&& 31)))))) 13 (vp_nar .byte (Int8.toInt32 (Int32.toInt8 (x3 >>> (16 &&& 31))))))))] H := hP
  have hD : va_D A [(h0, .inr (12, (((((((((((((((f0.set 0 (.int 0)).set 2 (.int 1)).set 2 (.int 2)).set 2 (.int 3)).set 2 (.int 4)).set 2 (.int 5)).set 2 (.int 6)).set 2 (.int 7)).set 2 (.int 8)).set 2 (.int 9)).set 2 (.int 10)).set 2 (.int 11)).set 2 (.int 12)).set 2 (.int 13)).set 2 (.int 14)))), (h1, .inl (cB, 2000, .inl (upd (upd (upd (upd (upd (upd (upd (upd (upd (upd (upd (upd (upd (upd g0 0 (vp_nar .byte (Int8.toInt32 (Int32.toInt8 (x0 >>> (24 &&& 31)))))) 1 (vp_nar .byte (Int8.toInt32 (Int32.toInt8 (x0 >>> (16 &&& 31)))))) 2 (vp_nar .byte (Int8.toInt32 (Int32.toInt8 (x0 >>> (8 &&& 31)))))) 3 (vp_nar .byte (Int8.toInt32 (Int32.toInt8 (x0 >>> (0 &&& 31)))))) 4 (vp_nar .byte (Int8.toInt32 (Int32.toInt8 (x1 >>> (24 &&& 31)))))) 5 (vp_nar .byte (Int8.toInt32 (Int32.toInt8 (x1 >>> (16 &&& 31)))))) 6 (vp_nar .byte (Int8.toInt32 (Int32.toInt8 (x1 >>> (8 &&& 31)))))) 7 (vp_nar .byte (Int8.toInt32 (Int32.toInt8 (x1 >>> (0 &&& 31)))))) 8 (vp_nar .byte (Int8.toInt32 (Int32.toInt8 (x2 >>> (24 &&& 31)))))) 9 (vp_nar .byte (Int8.toInt32 (Int32.toInt8 (x2 >>> (16 &&& 31)))))) 10 (vp_nar .byte (Int8.toInt32 (Int32.toInt8 (x2 >>> (8 &&& 31)))))) 11 (vp_nar .byte (Int8.toInt32 (Int32.toInt8 (x2 >>> (0 &&& 31)))))) 12 (vp_nar .byte (Int8.toInt32 (Int32.toInt8 (x3 >>> (24 &&& 31)))))) 13 (vp_nar .byte (Int8.toInt32 (Int32.toInt8 (x3 >>> (16 &&& 31))))))))] := hD
  refine lv_iinc (v := 14) (lv' := [(6, .int 14), (7, .int x3), (0, .ref h0), (1, .int x0), (2, .int x1), (3, .int x2), (4, .int x3), (5, .int x4)]) hx hb dX12_feed_122 hl (k := 1) rfl (by decide) (by decide) rfl (fun ls hl => ?_)
  refine lv_goto (tgt := 34) hx hb dX12_feed_125 (by decide) ?_
  refine lv_iload hx hb dX12_feed_34 (lv_at hl 0 rfl) ?_
  refine lv_bipush (v := 20) hx hb dX12_feed_36 (by decide) ?_
  refine lv_icmp_ge (tgt := 128) hx hb dX12_feed_38 (by decide) (fun c9 => absurd c9 (by decide)) (fun _ => ?_)
  refine lv_iload hx hb dX12_feed_41 (lv_at hl 0 rfl) ?_
  refine lv_iconst (v := 4) hx hb dX12_feed_43 (by decide) ?_
  refine lv_icmp_ge (tgt := 51) hx hb dX12_feed_44 (by decide) (fun _ => ?_) (fun c9 => absurd (by decide) c9)
  refine lv_iload hx hb dX12_feed_51 (lv_at hl 0 rfl) ?_
  refine lv_bipush (v := 8) hx hb dX12_feed_53 (by decide) ?_
  refine lv_icmp_ge (tgt := 62) hx hb dX12_feed_55 (by decide) (fun _ => ?_) (fun c9 => absurd (by decide) c9)
  refine lv_iload hx hb dX12_feed_62 (lv_at hl 0 rfl) ?_
  refine lv_bipush (v := 12) hx hb dX12_feed_64 (by decide) ?_
  refine lv_icmp_ge (tgt := 73) hx hb dX12_feed_66 (by decide) (fun _ => ?_) (fun c9 => absurd (by decide) c9)
  refine lv_iload hx hb dX12_feed_73 (lv_at hl 0 rfl) ?_
  refine lv_bipush (v := 16) hx hb dX12_feed_75 (by decide) ?_
  refine lv_icmp_ge (tgt := 85) hx hb dX12_feed_77 (by decide) (fun c9 => absurd c9 (by decide)) (fun _ => ?_)
  refine lv_iload hx hb dX12_feed_80 (lv_at hl 6 rfl) ?_
  refine lv_goto (tgt := 87) hx hb dX12_feed_82 (by decide) ?_
  refine lv_istore (lv' := [(7, .int x3), (6, .int 14), (0, .ref h0), (1, .int x0), (2, .int x1), (3, .int x2), (4, .int x3), (5, .int x4)]) hx hb dX12_feed_87 hl (by decide) rfl (fun ls hl => ?_)
  refine lv_aload_n hx hb dX12_feed_89 rfl (lv_at hl 2 rfl) ?_
  refine k_get (D := D) (ci := 12) (v := .ref h1) (N := 195) hx hb hts hin12 hown hK hP 0 rfl rfl (by decide) f9_12_1 (hts (.fieldLink RX12 15 "IntegerHouseModel" "tape" "[B") (o9_X12_feed _ (List.mem_of_getElem? (i := 2) rfl))) (k_ne (by decide) (k_ne (by decide) (k_ne (by decide) (k_ne (by decide) (k_ne (by decide) (k_ne (by decide) (k_ne (by decide) (k_ne (by decide) (k_ne (by decide) (k_ne (by decide) (k_ne (by decide) (k_ne (by decide) (k_ne (by decide) (k_ne (by decide) (k_ne (by decide) e2))))))))))))))) dX12_feed_90 ?_
  refine lv_aload_n hx hb dX12_feed_93 rfl (lv_at hl 2 rfl) ?_
  refine k_get (D := D) (ci := 12) (v := .int 14) (N := 195) hx hb hts hin12 hown hK hP 0 rfl rfl (by decide) f9_12_2 (hts (.fieldLink RX12 485 "IntegerHouseModel" "taped" "I") (o9_X12_feed _ (List.mem_of_getElem? (i := 0) rfl))) (k_set (k_set (k_set (k_set (k_set (k_set (k_set (k_set (k_set (k_set (k_set (k_set (k_set (k_set (k_ne (by decide) e0))))))))))))))) dX12_feed_94 ?_
  refine lv_iload hx hb dX12_feed_97 (lv_at hl 0 rfl) ?_
  refine lv_bipush (v := 24) hx hb dX12_feed_99 (by decide) ?_
  refine lv_bipush (v := 8) hx hb dX12_feed_101 (by decide) ?_
  refine lv_iload hx hb dX12_feed_103 (lv_at hl 1 rfl) ?_
  refine lv_iconst (v := 4) hx hb dX12_feed_105 (by decide) ?_
  refine lv_irem hx hb dX12_feed_106 (by decide) ?_
  refine k_topi (y := 2) (by decide) ?_
  refine lv_imul hx hb dX12_feed_107 ?_
  refine k_topi (y := 16) (by decide) ?_
  refine lv_isub hx hb dX12_feed_108 ?_
  refine k_topi (y := 8) (by decide) ?_
  refine lv_ishr hx hb dX12_feed_109 ?_
  refine lv_i2b (v := (Int8.toInt32 (Int32.toInt8 (x3 >>> (8 &&& 31))))) hx hb dX12_feed_110 rfl ?_
  refine va_bast hx hb hK hP hD hS 1 2 rfl rfl (k_in (by decide)) dX12_feed_111 (fun H locs hP hD hS => ?_)
  have hP : va_P D vwCl [(h0, .inr (12, (((((((((((((((f0.set 0 (.int 0)).set 2 (.int 1)).set 2 (.int 2)).set 2 (.int 3)).set 2 (.int 4)).set 2 (.int 5)).set 2 (.int 6)).set 2 (.int 7)).set 2 (.int 8)).set 2 (.int 9)).set 2 (.int 10)).set 2 (.int 11)).set 2 (.int 12)).set 2 (.int 13)).set 2 (.int 14)))), (h1, .inl (cB, 2000, .inl (upd (upd (upd (upd (upd (upd (upd (upd (upd (upd (upd (upd (upd (upd (upd g0 0 (vp_nar .byte (Int8.toInt32 (Int32.toInt8 (x0 >>> (24 &&& 31)))))) 1 (vp_nar .byte (Int8.toInt32 (Int32.toInt8 (x0 >>> (16 &&& 31)))))) 2 (vp_nar .byte (Int8.toInt32 (Int32.toInt8 (x0 >>> (8 &&& 31)))))) 3 (vp_nar .byte (Int8.toInt32 (Int32.toInt8 (x0 >>> (0 &&& 31)))))) 4 (vp_nar .byte (Int8.toInt32 (Int32.toInt8 (x1 >>> (24 &&& 31)))))) 5 (vp_nar .byte (Int8.toInt32 (Int32.toInt8 (x1 >>> (16 &&& 31)))))) 6 (vp_nar .byte (Int8.toInt32 (Int32.toInt8 (x1 >>> (8 &&& 31)))))) 7 (vp_nar .byte (Int8.toInt32 (Int32.toInt8 (x1 >>> (0 &&& 31)))))) 8 (vp_nar .byte (Int8.toInt32 (Int32.toInt8 (x2 >>> (24 &&& 31)))))) 9 (vp_nar .byte (Int8.toInt32 (Int32.toInt8 (x2 >>> (16 &&& 31)))))) 10 (vp_nar .byte (Int8.toInt32 (Int32.toInt8 (x2 >>> (8 &&& 31)))))) 11 (vp_nar .byte (Int8.toInt32 (Int32.toInt8 (x2 >>> (0 &&& 31)))))) 12 (vp_nar .byte (Int8.toInt32 (Int32.toInt8 (x3 >>> (24 &&& 31)))))) 13 (vp_nar .byte (Int8.toInt32 (Int32.toInt8 (x3 >>> (16 &&& 31)))))) 14 (vp_nar .byte (Int8.toInt32 (Int32.toInt8 (x3 >>> (8 &&& 31))))))))] H := hP
  have hD : va_D A [(h0, .inr (12, (((((((((((((((f0.set 0 (.int 0)).set 2 (.int 1)).set 2 (.int 2)).set 2 (.int 3)).set 2 (.int 4)).set 2 (.int 5)).set 2 (.int 6)).set 2 (.int 7)).set 2 (.int 8)).set 2 (.int 9)).set 2 (.int 10)).set 2 (.int 11)).set 2 (.int 12)).set 2 (.int 13)).set 2 (.int 14)))), (h1, .inl (cB, 2000, .inl (upd (upd (upd (upd (upd (upd (upd (upd (upd (upd (upd (upd (upd (upd (upd g0 0 (vp_nar .byte (Int8.toInt32 (Int32.toInt8 (x0 >>> (24 &&& 31)))))) 1 (vp_nar .byte (Int8.toInt32 (Int32.toInt8 (x0 >>> (16 &&& 31)))))) 2 (vp_nar .byte (Int8.toInt32 (Int32.toInt8 (x0 >>> (8 &&& 31)))))) 3 (vp_nar .byte (Int8.toInt32 (Int32.toInt8 (x0 >>> (0 &&& 31)))))) 4 (vp_nar .byte (Int8.toInt32 (Int32.toInt8 (x1 >>> (24 &&& 31)))))) 5 (vp_nar .byte (Int8.toInt32 (Int32.toInt8 (x1 >>> (16 &&& 31)))))) 6 (vp_nar .byte (Int8.toInt32 (Int32.toInt8 (x1 >>> (8 &&& 31)))))) 7 (vp_nar .byte (Int8.toInt32 (Int32.toInt8 (x1 >>> (0 &&& 31)))))) 8 (vp_nar .byte (Int8.toInt32 (Int32.toInt8 (x2 >>> (24 &&& 31)))))) 9 (vp_nar .byte (Int8.toInt32 (Int32.toInt8 (x2 >>> (16 &&& 31)))))) 10 (vp_nar .byte (Int8.toInt32 (Int32.toInt8 (x2 >>> (8 &&& 31)))))) 11 (vp_nar .byte (Int8.toInt32 (Int32.toInt8 (x2 >>> (0 &&& 31)))))) 12 (vp_nar .byte (Int8.toInt32 (Int32.toInt8 (x3 >>> (24 &&& 31)))))) 13 (vp_nar .byte (Int8.toInt32 (Int32.toInt8 (x3 >>> (16 &&& 31)))))) 14 (vp_nar .byte (Int8.toInt32 (Int32.toInt8 (x3 >>> (8 &&& 31))))))))] := hD
  refine lv_aload_n hx hb dX12_feed_112 rfl (lv_at hl 2 rfl) ?_
  refine lv_dup hx hb dX12_feed_113 rfl ?_
  refine k_get (D := D) (ci := 12) (v := .int 14) (N := 195) hx hb hts hin12 hown hK hP 0 rfl rfl (by decide) f9_12_2 (hts (.fieldLink RX12 485 "IntegerHouseModel" "taped" "I") (o9_X12_feed _ (List.mem_of_getElem? (i := 0) rfl))) (k_set (k_set (k_set (k_set (k_set (k_set (k_set (k_set (k_set (k_set (k_set (k_set (k_set (k_set (k_ne (by decide) e0))))))))))))))) dX12_feed_114 ?_
  refine lv_iconst (v := 1) hx hb dX12_feed_117 (by decide) ?_
  refine lv_iadd hx hb dX12_feed_118 ?_
  refine k_topi (y := 15) (by decide) ?_
  refine k_put (D := D) (ci := 12) (v := .int 15) (ty := .int) (N := 195) hx hb hts hin12 tyX12 tyX12_ok nmX12 hown hK hP hD hS 0 rfl rfl (by decide) f9_12_2 (hts (.fieldLink RX12 485 "IntegerHouseModel" "taped" "I") (o9_X12_feed _ (List.mem_of_getElem? (i := 0) rfl))) rfl pd_2 rfl rfl (k_len (k_set (k_set (k_set (k_set (k_set (k_set (k_set (k_set (k_set (k_set (k_set (k_set (k_set (k_set (k_ne (by decide) e0)))))))))))))))) dX12_feed_119 (fun H locs hP hD hS => ?_)
  have hP : va_P D vwCl [(h0, .inr (12, ((((((((((((((((f0.set 0 (.int 0)).set 2 (.int 1)).set 2 (.int 2)).set 2 (.int 3)).set 2 (.int 4)).set 2 (.int 5)).set 2 (.int 6)).set 2 (.int 7)).set 2 (.int 8)).set 2 (.int 9)).set 2 (.int 10)).set 2 (.int 11)).set 2 (.int 12)).set 2 (.int 13)).set 2 (.int 14)).set 2 (.int 15)))), (h1, .inl (cB, 2000, .inl (upd (upd (upd (upd (upd (upd (upd (upd (upd (upd (upd (upd (upd (upd (upd g0 0 (vp_nar .byte (Int8.toInt32 (Int32.toInt8 (x0 >>> (24 &&& 31)))))) 1 (vp_nar .byte (Int8.toInt32 (Int32.toInt8 (x0 >>> (16 &&& 31)))))) 2 (vp_nar .byte (Int8.toInt32 (Int32.toInt8 (x0 >>> (8 &&& 31)))))) 3 (vp_nar .byte (Int8.toInt32 (Int32.toInt8 (x0 >>> (0 &&& 31)))))) 4 (vp_nar .byte (Int8.toInt32 (Int32.toInt8 (x1 >>> (24 &&& 31)))))) 5 (vp_nar .byte (Int8.toInt32 (Int32.toInt8 (x1 >>> (16 &&& 31)))))) 6 (vp_nar .byte (Int8.toInt32 (Int32.toInt8 (x1 >>> (8 &&& 31)))))) 7 (vp_nar .byte (Int8.toInt32 (Int32.toInt8 (x1 >>> (0 &&& 31)))))) 8 (vp_nar .byte (Int8.toInt32 (Int32.toInt8 (x2 >>> (24 &&& 31)))))) 9 (vp_nar .byte (Int8.toInt32 (Int32.toInt8 (x2 >>> (16 &&& 31)))))) 10 (vp_nar .byte (Int8.toInt32 (Int32.toInt8 (x2 >>> (8 &&& 31)))))) 11 (vp_nar .byte (Int8.toInt32 (Int32.toInt8 (x2 >>> (0 &&& 31)))))) 12 (vp_nar .byte (Int8.toInt32 (Int32.toInt8 (x3 >>> (24 &&& 31)))))) 13 (vp_nar .byte (Int8.toInt32 (Int32.toInt8 (x3 >>> (16 &&& 31)))))) 14 (vp_nar .byte (Int8.toInt32 (Int32.toInt8 (x3 >>> (8 &&& 31))))))))] H := hP
  have hD : va_D A [(h0, .inr (12, ((((((((((((((((f0.set 0 (.int 0)).set 2 (.int 1)).set 2 (.int 2)).set 2 (.int 3)).set 2 (.int 4)).set 2 (.int 5)).set 2 (.int 6)).set 2 (.int 7)).set 2 (.int 8)).set 2 (.int 9)).set 2 (.int 10)).set 2 (.int 11)).set 2 (.int 12)).set 2 (.int 13)).set 2 (.int 14)).set 2 (.int 15)))), (h1, .inl (cB, 2000, .inl (upd (upd (upd (upd (upd (upd (upd (upd (upd (upd (upd (upd (upd (upd (upd g0 0 (vp_nar .byte (Int8.toInt32 (Int32.toInt8 (x0 >>> (24 &&& 31)))))) 1 (vp_nar .byte (Int8.toInt32 (Int32.toInt8 (x0 >>> (16 &&& 31)))))) 2 (vp_nar .byte (Int8.toInt32 (Int32.toInt8 (x0 >>> (8 &&& 31)))))) 3 (vp_nar .byte (Int8.toInt32 (Int32.toInt8 (x0 >>> (0 &&& 31)))))) 4 (vp_nar .byte (Int8.toInt32 (Int32.toInt8 (x1 >>> (24 &&& 31)))))) 5 (vp_nar .byte (Int8.toInt32 (Int32.toInt8 (x1 >>> (16 &&& 31)))))) 6 (vp_nar .byte (Int8.toInt32 (Int32.toInt8 (x1 >>> (8 &&& 31)))))) 7 (vp_nar .byte (Int8.toInt32 (Int32.toInt8 (x1 >>> (0 &&& 31)))))) 8 (vp_nar .byte (Int8.toInt32 (Int32.toInt8 (x2 >>> (24 &&& 31)))))) 9 (vp_nar .byte (Int8.toInt32 (Int32.toInt8 (x2 >>> (16 &&& 31)))))) 10 (vp_nar .byte (Int8.toInt32 (Int32.toInt8 (x2 >>> (8 &&& 31)))))) 11 (vp_nar .byte (Int8.toInt32 (Int32.toInt8 (x2 >>> (0 &&& 31)))))) 12 (vp_nar .byte (Int8.toInt32 (Int32.toInt8 (x3 >>> (24 &&& 31)))))) 13 (vp_nar .byte (Int8.toInt32 (Int32.toInt8 (x3 >>> (16 &&& 31)))))) 14 (vp_nar .byte (Int8.toInt32 (Int32.toInt8 (x3 >>> (8 &&& 31))))))))] := hD
  refine lv_iinc (v := 15) (lv' := [(6, .int 15), (7, .int x3), (0, .ref h0), (1, .int x0), (2, .int x1), (3, .int x2), (4, .int x3), (5, .int x4)]) hx hb dX12_feed_122 hl (k := 1) rfl (by decide) (by decide) rfl (fun ls hl => ?_)
  refine lv_goto (tgt := 34) hx hb dX12_feed_125 (by decide) ?_
  refine lv_iload hx hb dX12_feed_34 (lv_at hl 0 rfl) ?_
  refine lv_bipush (v := 20) hx hb dX12_feed_36 (by decide) ?_
  refine lv_icmp_ge (tgt := 128) hx hb dX12_feed_38 (by decide) (fun c9 => absurd c9 (by decide)) (fun _ => ?_)
  refine lv_iload hx hb dX12_feed_41 (lv_at hl 0 rfl) ?_
  refine lv_iconst (v := 4) hx hb dX12_feed_43 (by decide) ?_
  refine lv_icmp_ge (tgt := 51) hx hb dX12_feed_44 (by decide) (fun _ => ?_) (fun c9 => absurd (by decide) c9)
  refine lv_iload hx hb dX12_feed_51 (lv_at hl 0 rfl) ?_
  refine lv_bipush (v := 8) hx hb dX12_feed_53 (by decide) ?_
  refine lv_icmp_ge (tgt := 62) hx hb dX12_feed_55 (by decide) (fun _ => ?_) (fun c9 => absurd (by decide) c9)
  refine lv_iload hx hb dX12_feed_62 (lv_at hl 0 rfl) ?_
  refine lv_bipush (v := 12) hx hb dX12_feed_64 (by decide) ?_
  refine lv_icmp_ge (tgt := 73) hx hb dX12_feed_66 (by decide) (fun _ => ?_) (fun c9 => absurd (by decide) c9)
  refine lv_iload hx hb dX12_feed_73 (lv_at hl 0 rfl) ?_
  refine lv_bipush (v := 16) hx hb dX12_feed_75 (by decide) ?_
  refine lv_icmp_ge (tgt := 85) hx hb dX12_feed_77 (by decide) (fun c9 => absurd c9 (by decide)) (fun _ => ?_)
  refine lv_iload hx hb dX12_feed_80 (lv_at hl 6 rfl) ?_
  refine lv_goto (tgt := 87) hx hb dX12_feed_82 (by decide) ?_
  refine lv_istore (lv' := [(7, .int x3), (6, .int 15), (0, .ref h0), (1, .int x0), (2, .int x1), (3, .int x2), (4, .int x3), (5, .int x4)]) hx hb dX12_feed_87 hl (by decide) rfl (fun ls hl => ?_)
  refine lv_aload_n hx hb dX12_feed_89 rfl (lv_at hl 2 rfl) ?_
  refine k_get (D := D) (ci := 12) (v := .ref h1) (N := 195) hx hb hts hin12 hown hK hP 0 rfl rfl (by decide) f9_12_1 (hts (.fieldLink RX12 15 "IntegerHouseModel" "tape" "[B") (o9_X12_feed _ (List.mem_of_getElem? (i := 2) rfl))) (k_ne (by decide) (k_ne (by decide) (k_ne (by decide) (k_ne (by decide) (k_ne (by decide) (k_ne (by decide) (k_ne (by decide) (k_ne (by decide) (k_ne (by decide) (k_ne (by decide) (k_ne (by decide) (k_ne (by decide) (k_ne (by decide) (k_ne (by decide) (k_ne (by decide) (k_ne (by decide) e2)))))))))))))))) dX12_feed_90 ?_
  refine lv_aload_n hx hb dX12_feed_93 rfl (lv_at hl 2 rfl) ?_
  refine k_get (D := D) (ci := 12) (v := .int 15) (N := 195) hx hb hts hin12 hown hK hP 0 rfl rfl (by decide) f9_12_2 (hts (.fieldLink RX12 485 "IntegerHouseModel" "taped" "I") (o9_X12_feed _ (List.mem_of_getElem? (i := 0) rfl))) (k_set (k_set (k_set (k_set (k_set (k_set (k_set (k_set (k_set (k_set (k_set (k_set (k_set (k_set (k_set (k_ne (by decide) e0)))))))))))))))) dX12_feed_94 ?_
  refine lv_iload hx hb dX12_feed_97 (lv_at hl 0 rfl) ?_
  refine lv_bipush (v := 24) hx hb dX12_feed_99 (by decide) ?_
  refine lv_bipush (v := 8) hx hb dX12_feed_101 (by decide) ?_
  refine lv_iload hx hb dX12_feed_103 (lv_at hl 1 rfl) ?_
  refine lv_iconst (v := 4) hx hb dX12_feed_105 (by decide) ?_
  refine lv_irem hx hb dX12_feed_106 (by decide) ?_
  refine k_topi (y := 3) (by decide) ?_
  refine lv_imul hx hb dX12_feed_107 ?_
  refine k_topi (y := 24) (by decide) ?_
  refine lv_isub hx hb dX12_feed_108 ?_
  refine k_topi (y := 0) (by decide) ?_
  refine lv_ishr hx hb dX12_feed_109 ?_
  refine lv_i2b (v := (Int8.toInt32 (Int32.toInt8 (x3 >>> (0 &&& 31))))) hx hb dX12_feed_110 rfl ?_
  refine va_bast hx hb hK hP hD hS 1 2 rfl rfl (k_in (by decide)) dX12_feed_111 (fun H locs hP hD hS => ?_)
  have hP : va_P D vwCl [(h0, .inr (12, ((((((((((((((((f0.set 0 (.int 0)).set 2 (.int 1)).set 2 (.int 2)).set 2 (.int 3)).set 2 (.int 4)).set 2 (.int 5)).set 2 (.int 6)).set 2 (.int 7)).set 2 (.int 8)).set 2 (.int 9)).set 2 (.int 10)).set 2 (.int 11)).set 2 (.int 12)).set 2 (.int 13)).set 2 (.int 14)).set 2 (.int 15)))), (h1, .inl (cB, 2000, .inl (upd (upd (upd (upd (upd (upd (upd (upd (upd (upd (upd (upd (upd (upd (upd (upd g0 0 (vp_nar .byte (Int8.toInt32 (Int32.toInt8 (x0 >>> (24 &&& 31)))))) 1 (vp_nar .byte (Int8.toInt32 (Int32.toInt8 (x0 >>> (16 &&& 31)))))) 2 (vp_nar .byte (Int8.toInt32 (Int32.toInt8 (x0 >>> (8 &&& 31)))))) 3 (vp_nar .byte (Int8.toInt32 (Int32.toInt8 (x0 >>> (0 &&& 31)))))) 4 (vp_nar .byte (Int8.toInt32 (Int32.toInt8 (x1 >>> (24 &&& 31)))))) 5 (vp_nar .byte (Int8.toInt32 (Int32.toInt8 (x1 >>> (16 &&& 31)))))) 6 (vp_nar .byte (Int8.toInt32 (Int32.toInt8 (x1 >>> (8 &&& 31)))))) 7 (vp_nar .byte (Int8.toInt32 (Int32.toInt8 (x1 >>> (0 &&& 31)))))) 8 (vp_nar .byte (Int8.toInt32 (Int32.toInt8 (x2 >>> (24 &&& 31)))))) 9 (vp_nar .byte (Int8.toInt32 (Int32.toInt8 (x2 >>> (16 &&& 31)))))) 10 (vp_nar .byte (Int8.toInt32 (Int32.toInt8 (x2 >>> (8 &&& 31)))))) 11 (vp_nar .byte (Int8.toInt32 (Int32.toInt8 (x2 >>> (0 &&& 31)))))) 12 (vp_nar .byte (Int8.toInt32 (Int32.toInt8 (x3 >>> (24 &&& 31)))))) 13 (vp_nar .byte (Int8.toInt32 (Int32.toInt8 (x3 >>> (16 &&& 31)))))) 14 (vp_nar .byte (Int8.toInt32 (Int32.toInt8 (x3 >>> (8 &&& 31)))))) 15 (vp_nar .byte (Int8.toInt32 (Int32.toInt8 (x3 >>> (0 &&& 31))))))))] H := hP
  have hD : va_D A [(h0, .inr (12, ((((((((((((((((f0.set 0 (.int 0)).set 2 (.int 1)).set 2 (.int 2)).set 2 (.int 3)).set 2 (.int 4)).set 2 (.int 5)).set 2 (.int 6)).set 2 (.int 7)).set 2 (.int 8)).set 2 (.int 9)).set 2 (.int 10)).set 2 (.int 11)).set 2 (.int 12)).set 2 (.int 13)).set 2 (.int 14)).set 2 (.int 15)))), (h1, .inl (cB, 2000, .inl (upd (upd (upd (upd (upd (upd (upd (upd (upd (upd (upd (upd (upd (upd (upd (upd g0 0 (vp_nar .byte (Int8.toInt32 (Int32.toInt8 (x0 >>> (24 &&& 31)))))) 1 (vp_nar .byte (Int8.toInt32 (Int32.toInt8 (x0 >>> (16 &&& 31)))))) 2 (vp_nar .byte (Int8.toInt32 (Int32.toInt8 (x0 >>> (8 &&& 31)))))) 3 (vp_nar .byte (Int8.toInt32 (Int32.toInt8 (x0 >>> (0 &&& 31)))))) 4 (vp_nar .byte (Int8.toInt32 (Int32.toInt8 (x1 >>> (24 &&& 31)))))) 5 (vp_nar .byte (Int8.toInt32 (Int32.toInt8 (x1 >>> (16 &&& 31)))))) 6 (vp_nar .byte (Int8.toInt32 (Int32.toInt8 (x1 >>> (8 &&& 31)))))) 7 (vp_nar .byte (Int8.toInt32 (Int32.toInt8 (x1 >>> (0 &&& 31)))))) 8 (vp_nar .byte (Int8.toInt32 (Int32.toInt8 (x2 >>> (24 &&& 31)))))) 9 (vp_nar .byte (Int8.toInt32 (Int32.toInt8 (x2 >>> (16 &&& 31)))))) 10 (vp_nar .byte (Int8.toInt32 (Int32.toInt8 (x2 >>> (8 &&& 31)))))) 11 (vp_nar .byte (Int8.toInt32 (Int32.toInt8 (x2 >>> (0 &&& 31)))))) 12 (vp_nar .byte (Int8.toInt32 (Int32.toInt8 (x3 >>> (24 &&& 31)))))) 13 (vp_nar .byte (Int8.toInt32 (Int32.toInt8 (x3 >>> (16 &&& 31)))))) 14 (vp_nar .byte (Int8.toInt32 (Int32.toInt8 (x3 >>> (8 &&& 31)))))) 15 (vp_nar .byte (Int8.toInt32 (Int32.toInt8 (x3 >>> (0 &&& 31))))))))] := hD
  refine lv_aload_n hx hb dX12_feed_112 rfl (lv_at hl 2 rfl) ?_
  refine lv_dup hx hb dX12_feed_113 rfl ?_
  refine k_get (D := D) (ci := 12) (v := .int 15) (N := 195) hx hb hts hin12 hown hK hP 0 rfl rfl (by decide) f9_12_2 (hts (.fieldLink RX12 485 "IntegerHouseModel" "taped" "I") (o9_X12_feed _ (List.mem_of_getElem? (i := 0) rfl))) (k_set (k_set (k_set (k_set (k_set (k_set (k_set (k_set (k_set (k_set (k_set (k_set (k_set (k_set (k_set (k_ne (by decide) e0)))))))))))))))) dX12_feed_114 ?_
  refine lv_iconst (v := 1) hx hb dX12_feed_117 (by decide) ?_
  refine lv_iadd hx hb dX12_feed_118 ?_
  refine k_topi (y := 16) (by decide) ?_
  refine k_put (D := D) (ci := 12) (v := .int 16) (ty := .int) (N := 195) hx hb hts hin12 tyX12 tyX12_ok nmX12 hown hK hP hD hS 0 rfl rfl (by decide) f9_12_2 (hts (.fieldLink RX12 485 "IntegerHouseModel" "taped" "I") (o9_X12_feed _ (List.mem_of_getElem? (i := 0) rfl))) rfl pd_2 rfl rfl (k_len (k_set (k_set (k_set (k_set (k_set (k_set (k_set (k_set (k_set (k_set (k_set (k_set (k_set (k_set (k_set (k_ne (by decide) e0))))))))))))))))) dX12_feed_119 (fun H locs hP hD hS => ?_)
  have hP : va_P D vwCl [(h0, .inr (12, (((((((((((((((((f0.set 0 (.int 0)).set 2 (.int 1)).set 2 (.int 2)).set 2 (.int 3)).set 2 (.int 4)).set 2 (.int 5)).set 2 (.int 6)).set 2 (.int 7)).set 2 (.int 8)).set 2 (.int 9)).set 2 (.int 10)).set 2 (.int 11)).set 2 (.int 12)).set 2 (.int 13)).set 2 (.int 14)).set 2 (.int 15)).set 2 (.int 16)))), (h1, .inl (cB, 2000, .inl (upd (upd (upd (upd (upd (upd (upd (upd (upd (upd (upd (upd (upd (upd (upd (upd g0 0 (vp_nar .byte (Int8.toInt32 (Int32.toInt8 (x0 >>> (24 &&& 31)))))) 1 (vp_nar .byte (Int8.toInt32 (Int32.toInt8 (x0 >>> (16 &&& 31)))))) 2 (vp_nar .byte (Int8.toInt32 (Int32.toInt8 (x0 >>> (8 &&& 31)))))) 3 (vp_nar .byte (Int8.toInt32 (Int32.toInt8 (x0 >>> (0 &&& 31)))))) 4 (vp_nar .byte (Int8.toInt32 (Int32.toInt8 (x1 >>> (24 &&& 31)))))) 5 (vp_nar .byte (Int8.toInt32 (Int32.toInt8 (x1 >>> (16 &&& 31)))))) 6 (vp_nar .byte (Int8.toInt32 (Int32.toInt8 (x1 >>> (8 &&& 31)))))) 7 (vp_nar .byte (Int8.toInt32 (Int32.toInt8 (x1 >>> (0 &&& 31)))))) 8 (vp_nar .byte (Int8.toInt32 (Int32.toInt8 (x2 >>> (24 &&& 31)))))) 9 (vp_nar .byte (Int8.toInt32 (Int32.toInt8 (x2 >>> (16 &&& 31)))))) 10 (vp_nar .byte (Int8.toInt32 (Int32.toInt8 (x2 >>> (8 &&& 31)))))) 11 (vp_nar .byte (Int8.toInt32 (Int32.toInt8 (x2 >>> (0 &&& 31)))))) 12 (vp_nar .byte (Int8.toInt32 (Int32.toInt8 (x3 >>> (24 &&& 31)))))) 13 (vp_nar .byte (Int8.toInt32 (Int32.toInt8 (x3 >>> (16 &&& 31)))))) 14 (vp_nar .byte (Int8.toInt32 (Int32.toInt8 (x3 >>> (8 &&& 31)))))) 15 (vp_nar .byte (Int8.toInt32 (Int32.toInt8 (x3 >>> (0 &&& 31))))))))] H := hP
  have hD : va_D A [(h0, .inr (12, (((((((((((((((((f0.set 0 (.int 0)).set 2 (.int 1)).set 2 (.int 2)).set 2 (.int 3)).set 2 (.int 4)).set 2 (.int 5)).set 2 (.int 6)).set 2 (.int 7)).set 2 (.int 8)).set 2 (.int 9)).set 2 (.int 10)).set 2 (.int 11)).set 2 (.int 12)).set 2 (.int 13)).set 2 (.int 14)).set 2 (.int 15)).set 2 (.int 16)))), (h1, .inl (cB, 2000, .inl (upd (upd (upd (upd (upd (upd (upd (upd (upd (upd (upd (upd (upd (upd (upd (upd g0 0 (vp_nar .byte (Int8.toInt32 (Int32.toInt8 (x0 >>> (24 &&& 31)))))) 1 (vp_nar .byte (Int8.toInt32 (Int32.toInt8 (x0 >>> (16 &&& 31)))))) 2 (vp_nar .byte (Int8.toInt32 (Int32.toInt8 (x0 >>> (8 &&& 31)))))) 3 (vp_nar .byte (Int8.toInt32 (Int32.toInt8 (x0 >>> (0 &&& 31)))))) 4 (vp_nar .byte (Int8.toInt32 (Int32.toInt8 (x1 >>> (24 &&& 31)))))) 5 (vp_nar .byte (Int8.toInt32 (Int32.toInt8 (x1 >>> (16 &&& 31)))))) 6 (vp_nar .byte (Int8.toInt32 (Int32.toInt8 (x1 >>> (8 &&& 31)))))) 7 (vp_nar .byte (Int8.toInt32 (Int32.toInt8 (x1 >>> (0 &&& 31)))))) 8 (vp_nar .byte (Int8.toInt32 (Int32.toInt8 (x2 >>> (24 &&& 31)))))) 9 (vp_nar .byte (Int8.toInt32 (Int32.toInt8 (x2 >>> (16 &&& 31)))))) 10 (vp_nar .byte (Int8.toInt32 (Int32.toInt8 (x2 >>> (8 &&& 31)))))) 11 (vp_nar .byte (Int8.toInt32 (Int32.toInt8 (x2 >>> (0 &&& 31)))))) 12 (vp_nar .byte (Int8.toInt32 (Int32.toInt8 (x3 >>> (24 &&& 31)))))) 13 (vp_nar .byte (Int8.toInt32 (Int32.toInt8 (x3 >>> (16 &&& 31)))))) 14 (vp_nar .byte (Int8.toInt32 (Int32.toInt8 (x3 >>> (8 &&& 31)))))) 15 (vp_nar .byte (Int8.toInt32 (Int32.toInt8 (x3 >>> (0 &&& 31))))))))] := hD
  refine lv_iinc (v := 16) (lv' := [(6, .int 16), (7, .int x3), (0, .ref h0), (1, .int x0), (2, .int x1), (3, .int x2), (4, .int x3), (5, .int x4)]) hx hb dX12_feed_122 hl (k := 1) rfl (by decide) (by decide) rfl (fun ls hl => ?_)
  refine lv_goto (tgt := 34) hx hb dX12_feed_125 (by decide) ?_
  refine lv_iload hx hb dX12_feed_34 (lv_at hl 0 rfl) ?_
  refine lv_bipush (v := 20) hx hb dX12_feed_36 (by decide) ?_
  refine lv_icmp_ge (tgt := 128) hx hb dX12_feed_38 (by decide) (fun c9 => absurd c9 (by decide)) (fun _ => ?_)
  refine lv_iload hx hb dX12_feed_41 (lv_at hl 0 rfl) ?_
  refine lv_iconst (v := 4) hx hb dX12_feed_43 (by decide) ?_
  refine lv_icmp_ge (tgt := 51) hx hb dX12_feed_44 (by decide) (fun _ => ?_) (fun c9 => absurd (by decide) c9)
  refine lv_iload hx hb dX12_feed_51 (lv_at hl 0 rfl) ?_
  refine lv_bipush (v := 8) hx hb dX12_feed_53 (by decide) ?_
  refine lv_icmp_ge (tgt := 62) hx hb dX12_feed_55 (by decide) (fun _ => ?_) (fun c9 => absurd (by decide) c9)
  refine lv_iload hx hb dX12_feed_62 (lv_at hl 0 rfl) ?_
  refine lv_bipush (v := 12) hx hb dX12_feed_64 (by decide) ?_
  refine lv_icmp_ge (tgt := 73) hx hb dX12_feed_66 (by decide) (fun _ => ?_) (fun c9 => absurd (by decide) c9)
  refine lv_iload hx hb dX12_feed_73 (lv_at hl 0 rfl) ?_
  refine lv_bipush (v := 16) hx hb dX12_feed_75 (by decide) ?_
  refine lv_icmp_ge (tgt := 85) hx hb dX12_feed_77 (by decide) (fun _ => ?_) (fun c9 => absurd (by decide) c9)
  refine lv_iload hx hb dX12_feed_85 (lv_at hl 7 rfl) ?_
  refine lv_istore (lv' := [(7, .int x4), (6, .int 16), (0, .ref h0), (1, .int x0), (2, .int x1), (3, .int x2), (4, .int x3), (5, .int x4)]) hx hb dX12_feed_87 hl (by decide) rfl (fun ls hl => ?_)
  refine lv_aload_n hx hb dX12_feed_89 rfl (lv_at hl 2 rfl) ?_
  refine k_get (D := D) (ci := 12) (v := .ref h1) (N := 195) hx hb hts hin12 hown hK hP 0 rfl rfl (by decide) f9_12_1 (hts (.fieldLink RX12 15 "IntegerHouseModel" "tape" "[B") (o9_X12_feed _ (List.mem_of_getElem? (i := 2) rfl))) (k_ne (by decide) (k_ne (by decide) (k_ne (by decide) (k_ne (by decide) (k_ne (by decide) (k_ne (by decide) (k_ne (by decide) (k_ne (by decide) (k_ne (by decide) (k_ne (by decide) (k_ne (by decide) (k_ne (by decide) (k_ne (by decide) (k_ne (by decide) (k_ne (by decide) (k_ne (by decide) (k_ne (by decide) e2))))))))))))))))) dX12_feed_90 ?_
  refine lv_aload_n hx hb dX12_feed_93 rfl (lv_at hl 2 rfl) ?_
  refine k_get (D := D) (ci := 12) (v := .int 16) (N := 195) hx hb hts hin12 hown hK hP 0 rfl rfl (by decide) f9_12_2 (hts (.fieldLink RX12 485 "IntegerHouseModel" "taped" "I") (o9_X12_feed _ (List.mem_of_getElem? (i := 0) rfl))) (k_set (k_set (k_set (k_set (k_set (k_set (k_set (k_set (k_set (k_set (k_set (k_set (k_set (k_set (k_set (k_set (k_ne (by decide) e0))))))))))))))))) dX12_feed_94 ?_
  refine lv_iload hx hb dX12_feed_97 (lv_at hl 0 rfl) ?_
  refine lv_bipush (v := 24) hx hb dX12_feed_99 (by decide) ?_
  refine lv_bipush (v := 8) hx hb dX12_feed_101 (by decide) ?_
  refine lv_iload hx hb dX12_feed_103 (lv_at hl 1 rfl) ?_
  refine lv_iconst (v := 4) hx hb dX12_feed_105 (by decide) ?_
  refine lv_irem hx hb dX12_feed_106 (by decide) ?_
  refine k_topi (y := 0) (by decide) ?_
  refine lv_imul hx hb dX12_feed_107 ?_
  refine k_topi (y := 0) (by decide) ?_
  refine lv_isub hx hb dX12_feed_108 ?_
  refine k_topi (y := 24) (by decide) ?_
  refine lv_ishr hx hb dX12_feed_109 ?_
  refine lv_i2b (v := (Int8.toInt32 (Int32.toInt8 (x4 >>> (24 &&& 31))))) hx hb dX12_feed_110 rfl ?_
  refine va_bast hx hb hK hP hD hS 1 2 rfl rfl (k_in (by decide)) dX12_feed_111 (fun H locs hP hD hS => ?_)
  have hP : va_P D vwCl [(h0, .inr (12, (((((((((((((((((f0.set 0 (.int 0)).set 2 (.int 1)).set 2 (.int 2)).set 2 (.int 3)).set 2 (.int 4)).set 2 (.int 5)).set 2 (.int 6)).set 2 (.int 7)).set 2 (.int 8)).set 2 (.int 9)).set 2 (.int 10)).set 2 (.int 11)).set 2 (.int 12)).set 2 (.int 13)).set 2 (.int 14)).set 2 (.int 15)).set 2 (.int 16)))), (h1, .inl (cB, 2000, .inl (upd (upd (upd (upd (upd (upd (upd (upd (upd (upd (upd (upd (upd (upd (upd (upd (upd g0 0 (vp_nar .byte (Int8.toInt32 (Int32.toInt8 (x0 >>> (24 &&& 31)))))) 1 (vp_nar .byte (Int8.toInt32 (Int32.toInt8 (x0 >>> (16 &&& 31)))))) 2 (vp_nar .byte (Int8.toInt32 (Int32.toInt8 (x0 >>> (8 &&& 31)))))) 3 (vp_nar .byte (Int8.toInt32 (Int32.toInt8 (x0 >>> (0 &&& 31)))))) 4 (vp_nar .byte (Int8.toInt32 (Int32.toInt8 (x1 >>> (24 &&& 31)))))) 5 (vp_nar .byte (Int8.toInt32 (Int32.toInt8 (x1 >>> (16 &&& 31)))))) 6 (vp_nar .byte (Int8.toInt32 (Int32.toInt8 (x1 >>> (8 &&& 31)))))) 7 (vp_nar .byte (Int8.toInt32 (Int32.toInt8 (x1 >>> (0 &&& 31)))))) 8 (vp_nar .byte (Int8.toInt32 (Int32.toInt8 (x2 >>> (24 &&& 31)))))) 9 (vp_nar .byte (Int8.toInt32 (Int32.toInt8 (x2 >>> (16 &&& 31)))))) 10 (vp_nar .byte (Int8.toInt32 (Int32.toInt8 (x2 >>> (8 &&& 31)))))) 11 (vp_nar .byte (Int8.toInt32 (Int32.toInt8 (x2 >>> (0 &&& 31)))))) 12 (vp_nar .byte (Int8.toInt32 (Int32.toInt8 (x3 >>> (24 &&& 31)))))) 13 (vp_nar .byte (Int8.toInt32 (Int32.toInt8 (x3 >>> (16 &&& 31)))))) 14 (vp_nar .byte (Int8.toInt32 (Int32.toInt8 (x3 >>> (8 &&& 31)))))) 15 (vp_nar .byte (Int8.toInt32 (Int32.toInt8 (x3 >>> (0 &&& 31)))))) 16 (vp_nar .byte (Int8.toInt32 (Int32.toInt8 (x4 >>> (24 &&& 31))))))))] H := hP
  have hD : va_D A [(h0, .inr (12, (((((((((((((((((f0.set 0 (.int 0)).set 2 (.int 1)).set 2 (.int 2)).set 2 (.int 3)).set 2 (.int 4)).set 2 (.int 5)).set 2 (.int 6)).set 2 (.int 7)).set 2 (.int 8)).set 2 (.int 9)).set 2 (.int 10)).set 2 (.int 11)).set 2 (.int 12)).set 2 (.int 13)).set 2 (.int 14)).set 2 (.int 15)).set 2 (.int 16)))), (h1, .inl (cB, 2000, .inl (upd (upd (upd (upd (upd (upd (upd (upd (upd (upd (upd (upd (upd (upd (upd (upd (upd g0 0 (vp_nar .byte (Int8.toInt32 (Int32.toInt8 (x0 >>> (24 &&& 31)))))) 1 (vp_nar .byte (Int8.toInt32 (Int32.toInt8 (x0 >>> (16 &&& 31)))))) 2 (vp_nar .byte (Int8.toInt32 (Int32.toInt8 (x0 >>> (8 &&& 31)))))) 3 (vp_nar .byte (Int8.toInt32 (Int32.toInt8 (x0 >>> (0 &&& 31)))))) 4 (vp_nar .byte (Int8.toInt32 (Int32.toInt8 (x1 >>> (24 &&& 31)))))) 5 (vp_nar .byte (Int8.toInt32 (Int32.toInt8 (x1 >>> (16 &&& 31)))))) 6 (vp_nar .byte (Int8.toInt32 (Int32.toInt8 (x1 >>> (8 &&& 31)))))) 7 (vp_nar .byte (Int8.toInt32 (Int32.toInt8 (x1 >>> (0 &&& 31)))))) 8 (vp_nar .byte (Int8.toInt32 (Int32.toInt8 (x2 >>> (24 &&& 31)))))) 9 (vp_nar .byte (Int8.toInt32 (Int32.toInt8 (x2 >>> (16 &&& 31)))))) 10 (vp_nar .byte (Int8.toInt32 (Int32.toInt8 (x2 >>> (8 &&& 31)))))) 11 (vp_nar .byte (Int8.toInt32 (Int32.toInt8 (x2 >>> (0 &&& 31)))))) 12 (vp_nar .byte (Int8.toInt32 (Int32.toInt8 (x3 >>> (24 &&& 31)))))) 13 (vp_nar .byte (Int8.toInt32 (Int32.toInt8 (x3 >>> (16 &&& 31)))))) 14 (vp_nar .byte (Int8.toInt32 (Int32.toInt8 (x3 >>> (8 &&& 31)))))) 15 (vp_nar .byte (Int8.toInt32 (Int32.toInt8 (x3 >>> (0 &&& 31)))))) 16 (vp_nar .byte (Int8.toInt32 (Int32.toInt8 (x4 >>> (24 &&& 31))))))))] := hD
  refine lv_aload_n hx hb dX12_feed_112 rfl (lv_at hl 2 rfl) ?_
  refine lv_dup hx hb dX12_feed_113 rfl ?_
  refine k_get (D := D) (ci := 12) (v := .int 16) (N := 195) hx hb hts hin12 hown hK hP 0 rfl rfl (by decide) f9_12_2 (hts (.fieldLink RX12 485 "IntegerHouseModel" "taped" "I") (o9_X12_feed _ (List.mem_of_getElem? (i := 0) rfl))) (k_set (k_set (k_set (k_set (k_set (k_set (k_set (k_set (k_set (k_set (k_set (k_set (k_set (k_set (k_set (k_set (k_ne (by decide) e0))))))))))))))))) dX12_feed_114 ?_
  refine lv_iconst (v := 1) hx hb dX12_feed_117 (by decide) ?_
  refine lv_iadd hx hb dX12_feed_118 ?_
  refine k_topi (y := 17) (by decide) ?_
  refine k_put (D := D) (ci := 12) (v := .int 17) (ty := .int) (N := 195) hx hb hts hin12 tyX12 tyX12_ok nmX12 hown hK hP hD hS 0 rfl rfl (by decide) f9_12_2 (hts (.fieldLink RX12 485 "IntegerHouseModel" "taped" "I") (o9_X12_feed _ (List.mem_of_getElem? (i := 0) rfl))) rfl pd_2 rfl rfl (k_len (k_set (k_set (k_set (k_set (k_set (k_set (k_set (k_set (k_set (k_set (k_set (k_set (k_set (k_set (k_set (k_set (k_ne (by decide) e0)))))))))))))))))) dX12_feed_119 (fun H locs hP hD hS => ?_)
  have hP : va_P D vwCl [(h0, .inr (12, ((((((((((((((((((f0.set 0 (.int 0)).set 2 (.int 1)).set 2 (.int 2)).set 2 (.int 3)).set 2 (.int 4)).set 2 (.int 5)).set 2 (.int 6)).set 2 (.int 7)).set 2 (.int 8)).set 2 (.int 9)).set 2 (.int 10)).set 2 (.int 11)).set 2 (.int 12)).set 2 (.int 13)).set 2 (.int 14)).set 2 (.int 15)).set 2 (.int 16)).set 2 (.int 17)))), (h1, .inl (cB, 2000, .inl (upd (upd (upd (upd (upd (upd (upd (upd (upd (upd (upd (upd (upd (upd (upd (upd (upd g0 0 (vp_nar .byte (Int8.toInt32 (Int32.toInt8 (x0 >>> (24 &&& 31)))))) 1 (vp_nar .byte (Int8.toInt32 (Int32.toInt8 (x0 >>> (16 &&& 31)))))) 2 (vp_nar .byte (Int8.toInt32 (Int32.toInt8 (x0 >>> (8 &&& 31)))))) 3 (vp_nar .byte (Int8.toInt32 (Int32.toInt8 (x0 >>> (0 &&& 31)))))) 4 (vp_nar .byte (Int8.toInt32 (Int32.toInt8 (x1 >>> (24 &&& 31)))))) 5 (vp_nar .byte (Int8.toInt32 (Int32.toInt8 (x1 >>> (16 &&& 31)))))) 6 (vp_nar .byte (Int8.toInt32 (Int32.toInt8 (x1 >>> (8 &&& 31)))))) 7 (vp_nar .byte (Int8.toInt32 (Int32.toInt8 (x1 >>> (0 &&& 31)))))) 8 (vp_nar .byte (Int8.toInt32 (Int32.toInt8 (x2 >>> (24 &&& 31)))))) 9 (vp_nar .byte (Int8.toInt32 (Int32.toInt8 (x2 >>> (16 &&& 31)))))) 10 (vp_nar .byte (Int8.toInt32 (Int32.toInt8 (x2 >>> (8 &&& 31)))))) 11 (vp_nar .byte (Int8.toInt32 (Int32.toInt8 (x2 >>> (0 &&& 31)))))) 12 (vp_nar .byte (Int8.toInt32 (Int32.toInt8 (x3 >>> (24 &&& 31)))))) 13 (vp_nar .byte (Int8.toInt32 (Int32.toInt8 (x3 >>> (16 &&& 31)))))) 14 (vp_nar .byte (Int8.toInt32 (Int32.toInt8 (x3 >>> (8 &&& 31)))))) 15 (vp_nar .byte (Int8.toInt32 (Int32.toInt8 (x3 >>> (0 &&& 31)))))) 16 (vp_nar .byte (Int8.toInt32 (Int32.toInt8 (x4 >>> (24 &&& 31))))))))] H := hP
  have hD : va_D A [(h0, .inr (12, ((((((((((((((((((f0.set 0 (.int 0)).set 2 (.int 1)).set 2 (.int 2)).set 2 (.int 3)).set 2 (.int 4)).set 2 (.int 5)).set 2 (.int 6)).set 2 (.int 7)).set 2 (.int 8)).set 2 (.int 9)).set 2 (.int 10)).set 2 (.int 11)).set 2 (.int 12)).set 2 (.int 13)).set 2 (.int 14)).set 2 (.int 15)).set 2 (.int 16)).set 2 (.int 17)))), (h1, .inl (cB, 2000, .inl (upd (upd (upd (upd (upd (upd (upd (upd (upd (upd (upd (upd (upd (upd (upd (upd (upd g0 0 (vp_nar .byte (Int8.toInt32 (Int32.toInt8 (x0 >>> (24 &&& 31)))))) 1 (vp_nar .byte (Int8.toInt32 (Int32.toInt8 (x0 >>> (16 &&& 31)))))) 2 (vp_nar .byte (Int8.toInt32 (Int32.toInt8 (x0 >>> (8 &&& 31)))))) 3 (vp_nar .byte (Int8.toInt32 (Int32.toInt8 (x0 >>> (0 &&& 31)))))) 4 (vp_nar .byte (Int8.toInt32 (Int32.toInt8 (x1 >>> (24 &&& 31)))))) 5 (vp_nar .byte (Int8.toInt32 (Int32.toInt8 (x1 >>> (16 &&& 31)))))) 6 (vp_nar .byte (Int8.toInt32 (Int32.toInt8 (x1 >>> (8 &&& 31)))))) 7 (vp_nar .byte (Int8.toInt32 (Int32.toInt8 (x1 >>> (0 &&& 31)))))) 8 (vp_nar .byte (Int8.toInt32 (Int32.toInt8 (x2 >>> (24 &&& 31)))))) 9 (vp_nar .byte (Int8.toInt32 (Int32.toInt8 (x2 >>> (16 &&& 31)))))) 10 (vp_nar .byte (Int8.toInt32 (Int32.toInt8 (x2 >>> (8 &&& 31)))))) 11 (vp_nar .byte (Int8.toInt32 (Int32.toInt8 (x2 >>> (0 &&& 31)))))) 12 (vp_nar .byte (Int8.toInt32 (Int32.toInt8 (x3 >>> (24 &&& 31)))))) 13 (vp_nar .byte (Int8.toInt32 (Int32.toInt8 (x3 >>> (16 &&& 31)))))) 14 (vp_nar .byte (Int8.toInt32 (Int32.toInt8 (x3 >>> (8 &&& 31)))))) 15 (vp_nar .byte (Int8.toInt32 (Int32.toInt8 (x3 >>> (0 &&& 31)))))) 16 (vp_nar .byte (Int8.toInt32 (Int32.toInt8 (x4 >>> (24 &&& 31))))))))] := hD
  refine lv_iinc (v := 17) (lv' := [(6, .int 17), (7, .int x4), (0, .ref h0), (1, .int x0), (2, .int x1), (3, .int x2), (4, .int x3), (5, .int x4)]) hx hb dX12_feed_122 hl (k := 1) rfl (by decide) (by decide) rfl (fun ls hl => ?_)
  refine lv_goto (tgt := 34) hx hb dX12_feed_125 (by decide) ?_
  refine lv_iload hx hb dX12_feed_34 (lv_at hl 0 rfl) ?_
  refine lv_bipush (v := 20) hx hb dX12_feed_36 (by decide) ?_
  refine lv_icmp_ge (tgt := 128) hx hb dX12_feed_38 (by decide) (fun c9 => absurd c9 (by decide)) (fun _ => ?_)
  refine lv_iload hx hb dX12_feed_41 (lv_at hl 0 rfl) ?_
  refine lv_iconst (v := 4) hx hb dX12_feed_43 (by decide) ?_
  refine lv_icmp_ge (tgt := 51) hx hb dX12_feed_44 (by decide) (fun _ => ?_) (fun c9 => absurd (by decide) c9)
  refine lv_iload hx hb dX12_feed_51 (lv_at hl 0 rfl) ?_
  refine lv_bipush (v := 8) hx hb dX12_feed_53 (by decide) ?_
  refine lv_icmp_ge (tgt := 62) hx hb dX12_feed_55 (by decide) (fun _ => ?_) (fun c9 => absurd (by decide) c9)
  refine lv_iload hx hb dX12_feed_62 (lv_at hl 0 rfl) ?_
  refine lv_bipush (v := 12) hx hb dX12_feed_64 (by decide) ?_
  refine lv_icmp_ge (tgt := 73) hx hb dX12_feed_66 (by decide) (fun _ => ?_) (fun c9 => absurd (by decide) c9)
  refine lv_iload hx hb dX12_feed_73 (lv_at hl 0 rfl) ?_
  refine lv_bipush (v := 16) hx hb dX12_feed_75 (by decide) ?_
  refine lv_icmp_ge (tgt := 85) hx hb dX12_feed_77 (by decide) (fun _ => ?_) (fun c9 => absurd (by decide) c9)
  refine lv_iload hx hb dX12_feed_85 (lv_at hl 7 rfl) ?_
  refine lv_istore (lv' := [(7, .int x4), (6, .int 17), (0, .ref h0), (1, .int x0), (2, .int x1), (3, .int x2), (4, .int x3), (5, .int x4)]) hx hb dX12_feed_87 hl (by decide) rfl (fun ls hl => ?_)
  refine lv_aload_n hx hb dX12_feed_89 rfl (lv_at hl 2 rfl) ?_
  refine k_get (D := D) (ci := 12) (v := .ref h1) (N := 195) hx hb hts hin12 hown hK hP 0 rfl rfl (by decide) f9_12_1 (hts (.fieldLink RX12 15 "IntegerHouseModel" "tape" "[B") (o9_X12_feed _ (List.mem_of_getElem? (i := 2) rfl))) (k_ne (by decide) (k_ne (by decide) (k_ne (by decide) (k_ne (by decide) (k_ne (by decide) (k_ne (by decide) (k_ne (by decide) (k_ne (by decide) (k_ne (by decide) (k_ne (by decide) (k_ne (by decide) (k_ne (by decide) (k_ne (by decide) (k_ne (by decide) (k_ne (by decide) (k_ne (by decide) (k_ne (by decide) (k_ne (by decide) e2)))))))))))))))))) dX12_feed_90 ?_
  refine lv_aload_n hx hb dX12_feed_93 rfl (lv_at hl 2 rfl) ?_
  refine k_get (D := D) (ci := 12) (v := .int 17) (N := 195) hx hb hts hin12 hown hK hP 0 rfl rfl (by decide) f9_12_2 (hts (.fieldLink RX12 485 "IntegerHouseModel" "taped" "I") (o9_X12_feed _ (List.mem_of_getElem? (i := 0) rfl))) (k_set (k_set (k_set (k_set (k_set (k_set (k_set (k_set (k_set (k_set (k_set (k_set (k_set (k_set (k_set (k_set (k_set (k_ne (by decide) e0)))))))))))))))))) dX12_feed_94 ?_
  refine lv_iload hx hb dX12_feed_97 (lv_at hl 0 rfl) ?_
  refine lv_bipush (v := 24) hx hb dX12_feed_99 (by decide) ?_
  refine lv_bipush (v := 8) hx hb dX12_feed_101 (by decide) ?_
  refine lv_iload hx hb dX12_feed_103 (lv_at hl 1 rfl) ?_
  refine lv_iconst (v := 4) hx hb dX12_feed_105 (by decide) ?_
  refine lv_irem hx hb dX12_feed_106 (by decide) ?_
  refine k_topi (y := 1) (by decide) ?_
  refine lv_imul hx hb dX12_feed_107 ?_
  refine k_topi (y := 8) (by decide) ?_
  refine lv_isub hx hb dX12_feed_108 ?_
  refine k_topi (y := 16) (by decide) ?_
  refine lv_ishr hx hb dX12_feed_109 ?_
  refine lv_i2b (v := (Int8.toInt32 (Int32.toInt8 (x4 >>> (16 &&& 31))))) hx hb dX12_feed_110 rfl ?_
  refine va_bast hx hb hK hP hD hS 1 2 rfl rfl (k_in (by decide)) dX12_feed_111 (fun H locs hP hD hS => ?_)
  have hP : va_P D vwCl [(h0, .inr (12, ((((((((((((((((((f0.set 0 (.int 0)).set 2 (.int 1)).set 2 (.int 2)).set 2 (.int 3)).set 2 (.int 4)).set 2 (.int 5)).set 2 (.int 6)).set 2 (.int 7)).set 2 (.int 8)).set 2 (.int 9)).set 2 (.int 10)).set 2 (.int 11)).set 2 (.int 12)).set 2 (.int 13)).set 2 (.int 14)).set 2 (.int 15)).set 2 (.int 16)).set 2 (.int 17)))), (h1, .inl (cB, 2000, .inl (upd (upd (upd (upd (upd (upd (upd (upd (upd (upd (upd (upd (upd (upd (upd (upd (upd (upd g0 0 (vp_nar .byte (Int8.toInt32 (Int32.toInt8 (x0 >>> (24 &&& 31)))))) 1 (vp_nar .byte (Int8.toInt32 (Int32.toInt8 (x0 >>> (16 &&& 31)))))) 2 (vp_nar .byte (Int8.toInt32 (Int32.toInt8 (x0 >>> (8 &&& 31)))))) 3 (vp_nar .byte (Int8.toInt32 (Int32.toInt8 (x0 >>> (0 &&& 31)))))) 4 (vp_nar .byte (Int8.toInt32 (Int32.toInt8 (x1 >>> (24 &&& 31)))))) 5 (vp_nar .byte (Int8.toInt32 (Int32.toInt8 (x1 >>> (16 &&& 31)))))) 6 (vp_nar .byte (Int8.toInt32 (Int32.toInt8 (x1 >>> (8 &&& 31)))))) 7 (vp_nar .byte (Int8.toInt32 (Int32.toInt8 (x1 >>> (0 &&& 31)))))) 8 (vp_nar .byte (Int8.toInt32 (Int32.toInt8 (x2 >>> (24 &&& 31)))))) 9 (vp_nar .byte (Int8.toInt32 (Int32.toInt8 (x2 >>> (16 &&& 31)))))) 10 (vp_nar .byte (Int8.toInt32 (Int32.toInt8 (x2 >>> (8 &&& 31)))))) 11 (vp_nar .byte (Int8.toInt32 (Int32.toInt8 (x2 >>> (0 &&& 31)))))) 12 (vp_nar .byte (Int8.toInt32 (Int32.toInt8 (x3 >>> (24 &&& 31)))))) 13 (vp_nar .byte (Int8.toInt32 (Int32.toInt8 (x3 >>> (16 &&& 31)))))) 14 (vp_nar .byte (Int8.toInt32 (Int32.toInt8 (x3 >>> (8 &&& 31)))))) 15 (vp_nar .byte (Int8.toInt32 (Int32.toInt8 (x3 >>> (0 &&& 31)))))) 16 (vp_nar .byte (Int8.toInt32 (Int32.toInt8 (x4 >>> (24 &&& 31)))))) 17 (vp_nar .byte (Int8.toInt32 (Int32.toInt8 (x4 >>> (16 &&& 31))))))))] H := hP
  have hD : va_D A [(h0, .inr (12, ((((((((((((((((((f0.set 0 (.int 0)).set 2 (.int 1)).set 2 (.int 2)).set 2 (.int 3)).set 2 (.int 4)).set 2 (.int 5)).set 2 (.int 6)).set 2 (.int 7)).set 2 (.int 8)).set 2 (.int 9)).set 2 (.int 10)).set 2 (.int 11)).set 2 (.int 12)).set 2 (.int 13)).set 2 (.int 14)).set 2 (.int 15)).set 2 (.int 16)).set 2 (.int 17)))), (h1, .inl (cB, 2000, .inl (upd (upd (upd (upd (upd (upd (upd (upd (upd (upd (upd (upd (upd (upd (upd (upd (upd (upd g0 0 (vp_nar .byte (Int8.toInt32 (Int32.toInt8 (x0 >>> (24 &&& 31)))))) 1 (vp_nar .byte (Int8.toInt32 (Int32.toInt8 (x0 >>> (16 &&& 31)))))) 2 (vp_nar .byte (Int8.toInt32 (Int32.toInt8 (x0 >>> (8 &&& 31)))))) 3 (vp_nar .byte (Int8.toInt32 (Int32.toInt8 (x0 >>> (0 &&& 31)))))) 4 (vp_nar .byte (Int8.toInt32 (Int32.toInt8 (x1 >>> (24 &&& 31)))))) 5 (vp_nar .byte (Int8.toInt32 (Int32.toInt8 (x1 >>> (16 &&& 31)))))) 6 (vp_nar .byte (Int8.toInt32 (Int32.toInt8 (x1 >>> (8 &&& 31)))))) 7 (vp_nar .byte (Int8.toInt32 (Int32.toInt8 (x1 >>> (0 &&& 31)))))) 8 (vp_nar .byte (Int8.toInt32 (Int32.toInt8 (x2 >>> (24 &&& 31)))))) 9 (vp_nar .byte (Int8.toInt32 (Int32.toInt8 (x2 >>> (16 &&& 31)))))) 10 (vp_nar .byte (Int8.toInt32 (Int32.toInt8 (x2 >>> (8 &&& 31)))))) 11 (vp_nar .byte (Int8.toInt32 (Int32.toInt8 (x2 >>> (0 &&& 31)))))) 12 (vp_nar .byte (Int8.toInt32 (Int32.toInt8 (x3 >>> (24 &&& 31)))))) 13 (vp_nar .byte (Int8.toInt32 (Int32.toInt8 (x3 >>> (16 &&& 31)))))) 14 (vp_nar .byte (Int8.toInt32 (Int32.toInt8 (x3 >>> (8 &&& 31)))))) 15 (vp_nar .byte (Int8.toInt32 (Int32.toInt8 (x3 >>> (0 &&& 31)))))) 16 (vp_nar .byte (Int8.toInt32 (Int32.toInt8 (x4 >>> (24 &&& 31)))))) 17 (vp_nar .byte (Int8.toInt32 (Int32.toInt8 (x4 >>> (16 &&& 31))))))))] := hD
  refine lv_aload_n hx hb dX12_feed_112 rfl (lv_at hl 2 rfl) ?_
  refine lv_dup hx hb dX12_feed_113 rfl ?_
  refine k_get (D := D) (ci := 12) (v := .int 17) (N := 195) hx hb hts hin12 hown hK hP 0 rfl rfl (by decide) f9_12_2 (hts (.fieldLink RX12 485 "IntegerHouseModel" "taped" "I") (o9_X12_feed _ (List.mem_of_getElem? (i := 0) rfl))) (k_set (k_set (k_set (k_set (k_set (k_set (k_set (k_set (k_set (k_set (k_set (k_set (k_set (k_set (k_set (k_set (k_set (k_ne (by decide) e0)))))))))))))))))) dX12_feed_114 ?_
  refine lv_iconst (v := 1) hx hb dX12_feed_117 (by decide) ?_
  refine lv_iadd hx hb dX12_feed_118 ?_
  refine k_topi (y := 18) (by decide) ?_
  refine k_put (D := D) (ci := 12) (v := .int 18) (ty := .int) (N := 195) hx hb hts hin12 tyX12 tyX12_ok nmX12 hown hK hP hD hS 0 rfl rfl (by decide) f9_12_2 (hts (.fieldLink RX12 485 "IntegerHouseModel" "taped" "I") (o9_X12_feed _ (List.mem_of_getElem? (i := 0) rfl))) rfl pd_2 rfl rfl (k_len (k_set (k_set (k_set (k_set (k_set (k_set (k_set (k_set (k_set (k_set (k_set (k_set (k_set (k_set (k_set (k_set (k_set (k_ne (by decide) e0))))))))))))))))))) dX12_feed_119 (fun H locs hP hD hS => ?_)
  have hP : va_P D vwCl [(h0, .inr (12, (((((((((((((((((((f0.set 0 (.int 0)).set 2 (.int 1)).set 2 (.int 2)).set 2 (.int 3)).set 2 (.int 4)).set 2 (.int 5)).set 2 (.int 6)).set 2 (.int 7)).set 2 (.int 8)).set 2 (.int 9)).set 2 (.int 10)).set 2 (.int 11)).set 2 (.int 12)).set 2 (.int 13)).set 2 (.int 14)).set 2 (.int 15)).set 2 (.int 16)).set 2 (.int 17)).set 2 (.int 18)))), (h1, .inl (cB, 2000, .inl (upd (upd (upd (upd (upd (upd (upd (upd (upd (upd (upd (upd (upd (upd (upd (upd (upd (upd g0 0 (vp_nar .byte (Int8.toInt32 (Int32.toInt8 (x0 >>> (24 &&& 31)))))) 1 (vp_nar .byte (Int8.toInt32 (Int32.toInt8 (x0 >>> (16 &&& 31)))))) 2 (vp_nar .byte (Int8.toInt32 (Int32.toInt8 (x0 >>> (8 &&& 31)))))) 3 (vp_nar .byte (Int8.toInt32 (Int32.toInt8 (x0 >>> (0 &&& 31)))))) 4 (vp_nar .byte (Int8.toInt32 (Int32.toInt8 (x1 >>> (24 &&& 31)))))) 5 (vp_nar .byte (Int8.toInt32 (Int32.toInt8 (x1 >>> (16 &&& 31)))))) 6 (vp_nar .byte (Int8.toInt32 (Int32.toInt8 (x1 >>> (8 &&& 31)))))) 7 (vp_nar .byte (Int8.toInt32 (Int32.toInt8 (x1 >>> (0 &&& 31)))))) 8 (vp_nar .byte (Int8.toInt32 (Int32.toInt8 (x2 >>> (24 &&& 31)))))) 9 (vp_nar .byte (Int8.toInt32 (Int32.toInt8 (x2 >>> (16 &&& 31)))))) 10 (vp_nar .byte (Int8.toInt32 (Int32.toInt8 (x2 >>> (8 &&& 31)))))) 11 (vp_nar .byte (Int8.toInt32 (Int32.toInt8 (x2 >>> (0 &&& 31)))))) 12 (vp_nar .byte (Int8.toInt32 (Int32.toInt8 (x3 >>> (24 &&& 31)))))) 13 (vp_nar .byte (Int8.toInt32 (Int32.toInt8 (x3 >>> (16 &&& 31)))))) 14 (vp_nar .byte (Int8.toInt32 (Int32.toInt8 (x3 >>> (8 &&& 31)))))) 15 (vp_nar .byte (Int8.toInt32 (Int32.toInt8 (x3 >>> (0 &&& 31)))))) 16 (vp_nar .byte (Int8.toInt32 (Int32.toInt8 (x4 >>> (24 &&& 31)))))) 17 (vp_nar .byte (Int8.toInt32 (Int32.toInt8 (x4 >>> (16 &&& 31))))))))] H := hP
  have hD : va_D A [(h0, .inr (12, (((((((((((((((((((f0.set 0 (.int 0)).set 2 (.int 1)).set 2 (.int 2)).set 2 (.int 3)).set 2 (.int 4)).set 2 (.int 5)).set 2 (.int 6)).set 2 (.int 7)).set 2 (.int 8)).set 2 (.int 9)).set 2 (.int 10)).set 2 (.int 11)).set 2 (.int 12)).set 2 (.int 13)).set 2 (.int 14)).set 2 (.int 15)).set 2 (.int 16)).set 2 (.int 17)).set 2 (.int 18)))), (h1, .inl (cB, 2000, .inl (upd (upd (upd (upd (upd (upd (upd (upd (upd (upd (upd (upd (upd (upd (upd (upd (upd (upd g0 0 (vp_nar .byte (Int8.toInt32 (Int32.toInt8 (x0 >>> (24 &&& 31)))))) 1 (vp_nar .byte (Int8.toInt32 (Int32.toInt8 (x0 >>> (16 &&& 31)))))) 2 (vp_nar .byte (Int8.toInt32 (Int32.toInt8 (x0 >>> (8 &&& 31)))))) 3 (vp_nar .byte (Int8.toInt32 (Int32.toInt8 (x0 >>> (0 &&& 31)))))) 4 (vp_nar .byte (Int8.toInt32 (Int32.toInt8 (x1 >>> (24 &&& 31)))))) 5 (vp_nar .byte (Int8.toInt32 (Int32.toInt8 (x1 >>> (16 &&& 31)))))) 6 (vp_nar .byte (Int8.toInt32 (Int32.toInt8 (x1 >>> (8 &&& 31)))))) 7 (vp_nar .byte (Int8.toInt32 (Int32.toInt8 (x1 >>> (0 &&& 31)))))) 8 (vp_nar .byte (Int8.toInt32 (Int32.toInt8 (x2 >>> (24 &&& 31)))))) 9 (vp_nar .byte (Int8.toInt32 (Int32.toInt8 (x2 >>> (16 &&& 31)))))) 10 (vp_nar .byte (Int8.toInt32 (Int32.toInt8 (x2 >>> (8 &&& 31)))))) 11 (vp_nar .byte (Int8.toInt32 (Int32.toInt8 (x2 >>> (0 &&& 31)))))) 12 (vp_nar .byte (Int8.toInt32 (Int32.toInt8 (x3 >>> (24 &&& 31)))))) 13 (vp_nar .byte (Int8.toInt32 (Int32.toInt8 (x3 >>> (16 &&& 31)))))) 14 (vp_nar .byte (Int8.toInt32 (Int32.toInt8 (x3 >>> (8 &&& 31)))))) 15 (vp_nar .byte (Int8.toInt32 (Int32.toInt8 (x3 >>> (0 &&& 31)))))) 16 (vp_nar .byte (Int8.toInt32 (Int32.toInt8 (x4 >>> (24 &&& 31)))))) 17 (vp_nar .byte (Int8.toInt32 (Int32.toInt8 (x4 >>> (16 &&& 31))))))))] := hD
  refine lv_iinc (v := 18) (lv' := [(6, .int 18), (7, .int x4), (0, .ref h0), (1, .int x0), (2, .int x1), (3, .int x2), (4, .int x3), (5, .int x4)]) hx hb dX12_feed_122 hl (k := 1) rfl (by decide) (by decide) rfl (fun ls hl => ?_)
  refine lv_goto (tgt := 34) hx hb dX12_feed_125 (by decide) ?_
  refine lv_iload hx hb dX12_feed_34 (lv_at hl 0 rfl) ?_
  refine lv_bipush (v := 20) hx hb dX12_feed_36 (by decide) ?_
  refine lv_icmp_ge (tgt := 128) hx hb dX12_feed_38 (by decide) (fun c9 => absurd c9 (by decide)) (fun _ => ?_)
  refine lv_iload hx hb dX12_feed_41 (lv_at hl 0 rfl) ?_
  refine lv_iconst (v := 4) hx hb dX12_feed_43 (by decide) ?_
  refine lv_icmp_ge (tgt := 51) hx hb dX12_feed_44 (by decide) (fun _ => ?_) (fun c9 => absurd (by decide) c9)
  refine lv_iload hx hb dX12_feed_51 (lv_at hl 0 rfl) ?_
  refine lv_bipush (v := 8) hx hb dX12_feed_53 (by decide) ?_
  refine lv_icmp_ge (tgt := 62) hx hb dX12_feed_55 (by decide) (fun _ => ?_) (fun c9 => absurd (by decide) c9)
  refine lv_iload hx hb dX12_feed_62 (lv_at hl 0 rfl) ?_
  refine lv_bipush (v := 12) hx hb dX12_feed_64 (by decide) ?_
  refine lv_icmp_ge (tgt := 73) hx hb dX12_feed_66 (by decide) (fun _ => ?_) (fun c9 => absurd (by decide) c9)
  refine lv_iload hx hb dX12_feed_73 (lv_at hl 0 rfl) ?_
  refine lv_bipush (v := 16) hx hb dX12_feed_75 (by decide) ?_
  refine lv_icmp_ge (tgt := 85) hx hb dX12_feed_77 (by decide) (fun _ => ?_) (fun c9 => absurd (by decide) c9)
  refine lv_iload hx hb dX12_feed_85 (lv_at hl 7 rfl) ?_
  refine lv_istore (lv' := [(7, .int x4), (6, .int 18), (0, .ref h0), (1, .int x0), (2, .int x1), (3, .int x2), (4, .int x3), (5, .int x4)]) hx hb dX12_feed_87 hl (by decide) rfl (fun ls hl => ?_)
  refine lv_aload_n hx hb dX12_feed_89 rfl (lv_at hl 2 rfl) ?_
  refine k_get (D := D) (ci := 12) (v := .ref h1) (N := 195) hx hb hts hin12 hown hK hP 0 rfl rfl (by decide) f9_12_1 (hts (.fieldLink RX12 15 "IntegerHouseModel" "tape" "[B") (o9_X12_feed _ (List.mem_of_getElem? (i := 2) rfl))) (k_ne (by decide) (k_ne (by decide) (k_ne (by decide) (k_ne (by decide) (k_ne (by decide) (k_ne (by decide) (k_ne (by decide) (k_ne (by decide) (k_ne (by decide) (k_ne (by decide) (k_ne (by decide) (k_ne (by decide) (k_ne (by decide) (k_ne (by decide) (k_ne (by decide) (k_ne (by decide) (k_ne (by decide) (k_ne (by decide) (k_ne (by decide) e2))))))))))))))))))) dX12_feed_90 ?_
  refine lv_aload_n hx hb dX12_feed_93 rfl (lv_at hl 2 rfl) ?_
  refine k_get (D := D) (ci := 12) (v := .int 18) (N := 195) hx hb hts hin12 hown hK hP 0 rfl rfl (by decide) f9_12_2 (hts (.fieldLink RX12 485 "IntegerHouseModel" "taped" "I") (o9_X12_feed _ (List.mem_of_getElem? (i := 0) rfl))) (k_set (k_set (k_set (k_set (k_set (k_set (k_set (k_set (k_set (k_set (k_set (k_set (k_set (k_set (k_set (k_set (k_set (k_set (k_ne (by decide) e0))))))))))))))))))) dX12_feed_94 ?_
  refine lv_iload hx hb dX12_feed_97 (lv_at hl 0 rfl) ?_
  refine lv_bipush (v := 24) hx hb dX12_feed_99 (by decide) ?_
  refine lv_bipush (v := 8) hx hb dX12_feed_101 (by decide) ?_
  refine lv_iload hx hb dX12_feed_103 (lv_at hl 1 rfl) ?_
  refine lv_iconst (v := 4) hx hb dX12_feed_105 (by decide) ?_
  refine lv_irem hx hb dX12_feed_106 (by decide) ?_
  refine k_topi (y := 2) (by decide) ?_
  refine lv_imul hx hb dX12_feed_107 ?_
  refine k_topi (y := 16) (by decide) ?_
  refine lv_isub hx hb dX12_feed_108 ?_
  refine k_topi (y := 8) (by decide) ?_
  refine lv_ishr hx hb dX12_feed_109 ?_
  refine lv_i2b (v := (Int8.toInt32 (Int32.toInt8 (x4 >>> (8 &&& 31))))) hx hb dX12_feed_110 rfl ?_
  refine va_bast hx hb hK hP hD hS 1 2 rfl rfl (k_in (by decide)) dX12_feed_111 (fun H locs hP hD hS => ?_)
  have hP : va_P D vwCl [(h0, .inr (12, (((((((((((((((((((f0.set 0 (.int 0)).set 2 (.int 1)).set 2 (.int 2)).set 2 (.int 3)).set 2 (.int 4)).set 2 (.int 5)).set 2 (.int 6)).set 2 (.int 7)).set 2 (.int 8)).set 2 (.int 9)).set 2 (.int 10)).set 2 (.int 11)).set 2 (.int 12)).set 2 (.int 13)).set 2 (.int 14)).set 2 (.int 15)).set 2 (.int 16)).set 2 (.int 17)).set 2 (.int 18)))), (h1, .inl (cB, 2000, .inl (upd (upd (upd (upd (upd (upd (upd (upd (upd (upd (upd (upd (upd (upd (upd (upd (upd (upd (upd g0 0 (vp_nar .byte (Int8.toInt32 (Int32.toInt8 (x0 >>> (24 &&& 31)))))) 1 (vp_nar .byte (Int8.toInt32 (Int32.toInt8 (x0 >>> (16 &&& 31)))))) 2 (vp_nar .byte (Int8.toInt32 (Int32.toInt8 (x0 >>> (8 &&& 31)))))) 3 (vp_nar .byte (Int8.toInt32 (Int32.toInt8 (x0 >>> (0 &&& 31)))))) 4 (vp_nar .byte (Int8.toInt32 (Int32.toInt8 (x1 >>> (24 &&& 31)))))) 5 (vp_nar .byte (Int8.toInt32 (Int32.toInt8 (x1 >>> (16 &&& 31)))))) 6 (vp_nar .byte (Int8.toInt32 (Int32.toInt8 (x1 >>> (8 &&& 31)))))) 7 (vp_nar .byte (Int8.toInt32 (Int32.toInt8 (x1 >>> (0 &&& 31)))))) 8 (vp_nar .byte (Int8.toInt32 (Int32.toInt8 (x2 >>> (24 &&& 31)))))) 9 (vp_nar .byte (Int8.toInt32 (Int32.toInt8 (x2 >>> (16 &&& 31)))))) 10 (vp_nar .byte (Int8.toInt32 (Int32.toInt8 (x2 >>> (8 &&& 31)))))) 11 (vp_nar .byte (Int8.toInt32 (Int32.toInt8 (x2 >>> (0 &&& 31)))))) 12 (vp_nar .byte (Int8.toInt32 (Int32.toInt8 (x3 >>> (24 &&& 31)))))) 13 (vp_nar .byte (Int8.toInt32 (Int32.toInt8 (x3 >>> (16 &&& 31)))))) 14 (vp_nar .byte (Int8.toInt32 (Int32.toInt8 (x3 >>> (8 &&& 31)))))) 15 (vp_nar .byte (Int8.toInt32 (Int32.toInt8 (x3 >>> (0 &&& 31)))))) 16 (vp_nar .byte (Int8.toInt32 (Int32.toInt8 (x4 >>> (24 &&& 31)))))) 17 (vp_nar .byte (Int8.toInt32 (Int32.toInt8 (x4 >>> (16 &&& 31)))))) 18 (vp_nar .byte (Int8.toInt32 (Int32.toInt8 (x4 >>> (8 &&& 31))))))))] H := hP
  have hD : va_D A [(h0, .inr (12, (((((((((((((((((((f0.set 0 (.int 0)).set 2 (.int 1)).set 2 (.int 2)).set 2 (.int 3)).set 2 (.int 4)).set 2 (.int 5)).set 2 (.int 6)).set 2 (.int 7)).set 2 (.int 8)).set 2 (.int 9)).set 2 (.int 10)).set 2 (.int 11)).set 2 (.int 12)).set 2 (.int 13)).set 2 (.int 14)).set 2 (.int 15)).set 2 (.int 16)).set 2 (.int 17)).set 2 (.int 18)))), (h1, .inl (cB, 2000, .inl (upd (upd (upd (upd (upd (upd (upd (upd (upd (upd (upd (upd (upd (upd (upd (upd (upd (upd (upd g0 0 (vp_nar .byte (Int8.toInt32 (Int32.toInt8 (x0 >>> (24 &&& 31)))))) 1 (vp_nar .byte (Int8.toInt32 (Int32.toInt8 (x0 >>> (16 &&& 31)))))) 2 (vp_nar .byte (Int8.toInt32 (Int32.toInt8 (x0 >>> (8 &&& 31)))))) 3 (vp_nar .byte (Int8.toInt32 (Int32.toInt8 (x0 >>> (0 &&& 31)))))) 4 (vp_nar .byte (Int8.toInt32 (Int32.toInt8 (x1 >>> (24 &&& 31)))))) 5 (vp_nar .byte (Int8.toInt32 (Int32.toInt8 (x1 >>> (16 &&& 31)))))) 6 (vp_nar .byte (Int8.toInt32 (Int32.toInt8 (x1 >>> (8 &&& 31)))))) 7 (vp_nar .byte (Int8.toInt32 (Int32.toInt8 (x1 >>> (0 &&& 31)))))) 8 (vp_nar .byte (Int8.toInt32 (Int32.toInt8 (x2 >>> (24 &&& 31)))))) 9 (vp_nar .byte (Int8.toInt32 (Int32.toInt8 (x2 >>> (16 &&& 31)))))) 10 (vp_nar .byte (Int8.toInt32 (Int32.toInt8 (x2 >>> (8 &&& 31)))))) 11 (vp_nar .byte (Int8.toInt32 (Int32.toInt8 (x2 >>> (0 &&& 31)))))) 12 (vp_nar .byte (Int8.toInt32 (Int32.toInt8 (x3 >>> (24 &&& 31)))))) 13 (vp_nar .byte (Int8.toInt32 (Int32.toInt8 (x3 >>> (16 &&& 31)))))) 14 (vp_nar .byte (Int8.toInt32 (Int32.toInt8 (x3 >>> (8 &&& 31)))))) 15 (vp_nar .byte (Int8.toInt32 (Int32.toInt8 (x3 >>> (0 &&& 31)))))) 16 (vp_nar .byte (Int8.toInt32 (Int32.toInt8 (x4 >>> (24 &&& 31)))))) 17 (vp_nar .byte (Int8.toInt32 (Int32.toInt8 (x4 >>> (16 &&& 31)))))) 18 (vp_nar .byte (Int8.toInt32 (Int32.toInt8 (x4 >>> (8 &&& 31))))))))] := hD
  refine lv_aload_n hx hb dX12_feed_112 rfl (lv_at hl 2 rfl) ?_
  refine lv_dup hx hb dX12_feed_113 rfl ?_
  refine k_get (D := D) (ci := 12) (v := .int 18) (N := 195) hx hb hts hin12 hown hK hP 0 rfl rfl (by decide) f9_12_2 (hts (.fieldLink RX12 485 "IntegerHouseModel" "taped" "I") (o9_X12_feed _ (List.mem_of_getElem? (i := 0) rfl))) (k_set (k_set (k_set (k_set (k_set (k_set (k_set (k_set (k_set (k_set (k_set (k_set (k_set (k_set (k_set (k_set (k_set (k_set (k_ne (by decide) e0))))))))))))))))))) dX12_feed_114 ?_
  refine lv_iconst (v := 1) hx hb dX12_feed_117 (by decide) ?_
  refine lv_iadd hx hb dX12_feed_118 ?_
  refine k_topi (y := 19) (by decide) ?_
  refine k_put (D := D) (ci := 12) (v := .int 19) (ty := .int) (N := 195) hx hb hts hin12 tyX12 tyX12_ok nmX12 hown hK hP hD hS 0 rfl rfl (by decide) f9_12_2 (hts (.fieldLink RX12 485 "IntegerHouseModel" "taped" "I") (o9_X12_feed _ (List.mem_of_getElem? (i := 0) rfl))) rfl pd_2 rfl rfl (k_len (k_set (k_set (k_set (k_set (k_set (k_set (k_set (k_set (k_set (k_set (k_set (k_set (k_set (k_set (k_set (k_set (k_set (k_set (k_ne (by decide) e0)))))))))))))))))))) dX12_feed_119 (fun H locs hP hD hS => ?_)
  have hP : va_P D vwCl [(h0, .inr (12, ((((((((((((((((((((f0.set 0 (.int 0)).set 2 (.int 1)).set 2 (.int 2)).set 2 (.int 3)).set 2 (.int 4)).set 2 (.int 5)).set 2 (.int 6)).set 2 (.int 7)).set 2 (.int 8)).set 2 (.int 9)).set 2 (.int 10)).set 2 (.int 11)).set 2 (.int 12)).set 2 (.int 13)).set 2 (.int 14)).set 2 (.int 15)).set 2 (.int 16)).set 2 (.int 17)).set 2 (.int 18)).set 2 (.int 19)))), (h1, .inl (cB, 2000, .inl (upd (upd (upd (upd (upd (upd (upd (upd (upd (upd (upd (upd (upd (upd (upd (upd (upd (upd (upd g0 0 (vp_nar .byte (Int8.toInt32 (Int32.toInt8 (x0 >>> (24 &&& 31)))))) 1 (vp_nar .byte (Int8.toInt32 (Int32.toInt8 (x0 >>> (16 &&& 31)))))) 2 (vp_nar .byte (Int8.toInt32 (Int32.toInt8 (x0 >>> (8 &&& 31)))))) 3 (vp_nar .byte (Int8.toInt32 (Int32.toInt8 (x0 >>> (0 &&& 31)))))) 4 (vp_nar .byte (Int8.toInt32 (Int32.toInt8 (x1 >>> (24 &&& 31)))))) 5 (vp_nar .byte (Int8.toInt32 (Int32.toInt8 (x1 >>> (16 &&& 31)))))) 6 (vp_nar .byte (Int8.toInt32 (Int32.toInt8 (x1 >>> (8 &&& 31)))))) 7 (vp_nar .byte (Int8.toInt32 (Int32.toInt8 (x1 >>> (0 &&& 31)))))) 8 (vp_nar .byte (Int8.toInt32 (Int32.toInt8 (x2 >>> (24 &&& 31)))))) 9 (vp_nar .byte (Int8.toInt32 (Int32.toInt8 (x2 >>> (16 &&& 31)))))) 10 (vp_nar .byte (Int8.toInt32 (Int32.toInt8 (x2 >>> (8 &&& 31)))))) 11 (vp_nar .byte (Int8.toInt32 (Int32.toInt8 (x2 >>> (0 &&& 31)))))) 12 (vp_nar .byte (Int8.toInt32 (Int32.toInt8 (x3 >>> (24 &&& 31)))))) 13 (vp_nar .byte (Int8.toInt32 (Int32.toInt8 (x3 >>> (16 &&& 31)))))) 14 (vp_nar .byte (Int8.toInt32 (Int32.toInt8 (x3 >>> (8 &&& 31)))))) 15 (vp_nar .byte (Int8.toInt32 (Int32.toInt8 (x3 >>> (0 &&& 31)))))) 16 (vp_nar .byte (Int8.toInt32 (Int32.toInt8 (x4 >>> (24 &&& 31)))))) 17 (vp_nar .byte (Int8.toInt32 (Int32.toInt8 (x4 >>> (16 &&& 31)))))) 18 (vp_nar .byte (Int8.toInt32 (Int32.toInt8 (x4 >>> (8 &&& 31))))))))] H := hP
  have hD : va_D A [(h0, .inr (12, ((((((((((((((((((((f0.set 0 (.int 0)).set 2 (.int 1)).set 2 (.int 2)).set 2 (.int 3)).set 2 (.int 4)).set 2 (.int 5)).set 2 (.int 6)).set 2 (.int 7)).set 2 (.int 8)).set 2 (.int 9)).set 2 (.int 10)).set 2 (.int 11)).set 2 (.int 12)).set 2 (.int 13)).set 2 (.int 14)).set 2 (.int 15)).set 2 (.int 16)).set 2 (.int 17)).set 2 (.int 18)).set 2 (.int 19)))), (h1, .inl (cB, 2000, .inl (upd (upd (upd (upd (upd (upd (upd (upd (upd (upd (upd (upd (upd (upd (upd (upd (upd (upd (upd g0 0 (vp_nar .byte (Int8.toInt32 (Int32.toInt8 (x0 >>> (24 &&& 31)))))) 1 (vp_nar .byte (Int8.toInt32 (Int32.toInt8 (x0 >>> (16 &&& 31)))))) 2 (vp_nar .byte (Int8.toInt32 (Int32.toInt8 (x0 >>> (8 &&& 31)))))) 3 (vp_nar .byte (Int8.toInt32 (Int32.toInt8 (x0 >>> (0 &&& 31)))))) 4 (vp_nar .byte (Int8.toInt32 (Int32.toInt8 (x1 >>> (24 &&& 31)))))) 5 (vp_nar .byte (Int8.toInt32 (Int32.toInt8 (x1 >>> (16 &&& 31)))))) 6 (vp_nar .byte (Int8.toInt32 (Int32.toInt8 (x1 >>> (8 &&& 31)))))) 7 (vp_nar .byte (Int8.toInt32 (Int32.toInt8 (x1 >>> (0 &&& 31)))))) 8 (vp_nar .byte (Int8.toInt32 (Int32.toInt8 (x2 >>> (24 &&& 31)))))) 9 (vp_nar .byte (Int8.toInt32 (Int32.toInt8 (x2 >>> (16 &&& 31)))))) 10 (vp_nar .byte (Int8.toInt32 (Int32.toInt8 (x2 >>> (8 &&& 31)))))) 11 (vp_nar .byte (Int8.toInt32 (Int32.toInt8 (x2 >>> (0 &&& 31)))))) 12 (vp_nar .byte (Int8.toInt32 (Int32.toInt8 (x3 >>> (24 &&& 31)))))) 13 (vp_nar .byte (Int8.toInt32 (Int32.toInt8 (x3 >>> (16 &&& 31)))))) 14 (vp_nar .byte (Int8.toInt32 (Int32.toInt8 (x3 >>> (8 &&& 31)))))) 15 (vp_nar .byte (Int8.toInt32 (Int32.toInt8 (x3 >>> (0 &&& 31)))))) 16 (vp_nar .byte (Int8.toInt32 (Int32.toInt8 (x4 >>> (24 &&& 31)))))) 17 (vp_nar .byte (Int8.toInt32 (Int32.toInt8 (x4 >>> (16 &&& 31)))))) 18 (vp_nar .byte (Int8.toInt32 (Int32.toInt8 (x4 >>> (8 &&& 31))))))))] := hD
  refine lv_iinc (v := 19) (lv' := [(6, .int 19), (7, .int x4), (0, .ref h0), (1, .int x0), (2, .int x1), (3, .int x2), (4, .int x3), (5, .int x4)]) hx hb dX12_feed_122 hl (k := 1) rfl (by decide) (by decide) rfl (fun ls hl => ?_)
  refine lv_goto (tgt := 34) hx hb dX12_feed_125 (by decide) ?_
  refine lv_iload hx hb dX12_feed_34 (lv_at hl 0 rfl) ?_
  refine lv_bipush (v := 20) hx hb dX12_feed_36 (by decide) ?_
  refine lv_icmp_ge (tgt := 128) hx hb dX12_feed_38 (by decide) (fun c9 => absurd c9 (by decide)) (fun _ => ?_)
  refine lv_iload hx hb dX12_feed_41 (lv_at hl 0 rfl) ?_
  refine lv_iconst (v := 4) hx hb dX12_feed_43 (by decide) ?_
  refine lv_icmp_ge (tgt := 51) hx hb dX12_feed_44 (by decide) (fun _ => ?_) (fun c9 => absurd (by decide) c9)
  refine lv_iload hx hb dX12_feed_51 (lv_at hl 0 rfl) ?_
  refine lv_bipush (v := 8) hx hb dX12_feed_53 (by decide) ?_
  refine lv_icmp_ge (tgt := 62) hx hb dX12_feed_55 (by decide) (fun _ => ?_) (fun c9 => absurd (by decide) c9)
  refine lv_iload hx hb dX12_feed_62 (lv_at hl 0 rfl) ?_
  refine lv_bipush (v := 12) hx hb dX12_feed_64 (by decide) ?_
  refine lv_icmp_ge (tgt := 73) hx hb dX12_feed_66 (by decide) (fun _ => ?_) (fun c9 => absurd (by decide) c9)
  refine lv_iload hx hb dX12_feed_73 (lv_at hl 0 rfl) ?_
  refine lv_bipush (v := 16) hx hb dX12_feed_75 (by decide) ?_
  refine lv_icmp_ge (tgt := 85) hx hb dX12_feed_77 (by decide) (fun _ => ?_) (fun c9 => absurd (by decide) c9)
  refine lv_iload hx hb dX12_feed_85 (lv_at hl 7 rfl) ?_
  refine lv_istore (lv' := [(7, .int x4), (6, .int 19), (0, .ref h0), (1, .int x0), (2, .int x1), (3, .int x2), (4, .int x3), (5, .int x4)]) hx hb dX12_feed_87 hl (by decide) rfl (fun ls hl => ?_)
  refine lv_aload_n hx hb dX12_feed_89 rfl (lv_at hl 2 rfl) ?_
  refine k_get (D := D) (ci := 12) (v := .ref h1) (N := 195) hx hb hts hin12 hown hK hP 0 rfl rfl (by decide) f9_12_1 (hts (.fieldLink RX12 15 "IntegerHouseModel" "tape" "[B") (o9_X12_feed _ (List.mem_of_getElem? (i := 2) rfl))) (k_ne (by decide) (k_ne (by decide) (k_ne (by decide) (k_ne (by decide) (k_ne (by decide) (k_ne (by decide) (k_ne (by decide) (k_ne (by decide) (k_ne (by decide) (k_ne (by decide) (k_ne (by decide) (k_ne (by decide) (k_ne (by decide) (k_ne (by decide) (k_ne (by decide) (k_ne (by decide) (k_ne (by decide) (k_ne (by decide) (k_ne (by decide) (k_ne (by decide) e2)))))))))))))))))))) dX12_feed_90 ?_
  refine lv_aload_n hx hb dX12_feed_93 rfl (lv_at hl 2 rfl) ?_
  refine k_get (D := D) (ci := 12) (v := .int 19) (N := 195) hx hb hts hin12 hown hK hP 0 rfl rfl (by decide) f9_12_2 (hts (.fieldLink RX12 485 "IntegerHouseModel" "taped" "I") (o9_X12_feed _ (List.mem_of_getElem? (i := 0) rfl))) (k_set (k_set (k_set (k_set (k_set (k_set (k_set (k_set (k_set (k_set (k_set (k_set (k_set (k_set (k_set (k_set (k_set (k_set (k_set (k_ne (by decide) e0)))))))))))))))))))) dX12_feed_94 ?_
  refine lv_iload hx hb dX12_feed_97 (lv_at hl 0 rfl) ?_
  refine lv_bipush (v := 24) hx hb dX12_feed_99 (by decide) ?_
  refine lv_bipush (v := 8) hx hb dX12_feed_101 (by decide) ?_
  refine lv_iload hx hb dX12_feed_103 (lv_at hl 1 rfl) ?_
  refine lv_iconst (v := 4) hx hb dX12_feed_105 (by decide) ?_
  refine lv_irem hx hb dX12_feed_106 (by decide) ?_
  refine k_topi (y := 3) (by decide) ?_
  refine lv_imul hx hb dX12_feed_107 ?_
  refine k_topi (y := 24) (by decide) ?_
  refine lv_isub hx hb dX12_feed_108 ?_
  refine k_topi (y := 0) (by decide) ?_
  refine lv_ishr hx hb dX12_feed_109 ?_
  refine lv_i2b (v := (Int8.toInt32 (Int32.toInt8 (x4 >>> (0 &&& 31))))) hx hb dX12_feed_110 rfl ?_
  refine va_bast hx hb hK hP hD hS 1 2 rfl rfl (k_in (by decide)) dX12_feed_111 (fun H locs hP hD hS => ?_)
  have hP : va_P D vwCl [(h0, .inr (12, ((((((((((((((((((((f0.set 0 (.int 0)).set 2 (.int 1)).set 2 (.int 2)).set 2 (.int 3)).set 2 (.int 4)).set 2 (.int 5)).set 2 (.int 6)).set 2 (.int 7)).set 2 (.int 8)).set 2 (.int 9)).set 2 (.int 10)).set 2 (.int 11)).set 2 (.int 12)).set 2 (.int 13)).set 2 (.int 14)).set 2 (.int 15)).set 2 (.int 16)).set 2 (.int 17)).set 2 (.int 18)).set 2 (.int 19)))), (h1, .inl (cB, 2000, .inl (upd (upd (upd (upd (upd (upd (upd (upd (upd (upd (upd (upd (upd (upd (upd (upd (upd (upd (upd (upd g0 0 (vp_nar .byte (Int8.toInt32 (Int32.toInt8 (x0 >>> (24 &&& 31)))))) 1 (vp_nar .byte (Int8.toInt32 (Int32.toInt8 (x0 >>> (16 &&& 31)))))) 2 (vp_nar .byte (Int8.toInt32 (Int32.toInt8 (x0 >>> (8 &&& 31)))))) 3 (vp_nar .byte (Int8.toInt32 (Int32.toInt8 (x0 >>> (0 &&& 31)))))) 4 (vp_nar .byte (Int8.toInt32 (Int32.toInt8 (x1 >>> (24 &&& 31)))))) 5 (vp_nar .byte (Int8.toInt32 (Int32.toInt8 (x1 >>> (16 &&& 31)))))) 6 (vp_nar .byte (Int8.toInt32 (Int32.toInt8 (x1 >>> (8 &&& 31)))))) 7 (vp_nar .byte (Int8.toInt32 (Int32.toInt8 (x1 >>> (0 &&& 31)))))) 8 (vp_nar .byte (Int8.toInt32 (Int32.toInt8 (x2 >>> (24 &&& 31)))))) 9 (vp_nar .byte (Int8.toInt32 (Int32.toInt8 (x2 >>> (16 &&& 31)))))) 10 (vp_nar .byte (Int8.toInt32 (Int32.toInt8 (x2 >>> (8 &&& 31)))))) 11 (vp_nar .byte (Int8.toInt32 (Int32.toInt8 (x2 >>> (0 &&& 31)))))) 12 (vp_nar .byte (Int8.toInt32 (Int32.toInt8 (x3 >>> (24 &&& 31)))))) 13 (vp_nar .byte (Int8.toInt32 (Int32.toInt8 (x3 >>> (16 &&& 31)))))) 14 (vp_nar .byte (Int8.toInt32 (Int32.toInt8 (x3 >>> (8 &&& 31)))))) 15 (vp_nar .byte (Int8.toInt32 (Int32.toInt8 (x3 >>> (0 &&& 31)))))) 16 (vp_nar .byte (Int8.toInt32 (Int32.toInt8 (x4 >>> (24 &&& 31)))))) 17 (vp_nar .byte (Int8.toInt32 (Int32.toInt8 (x4 >>> (16 &&& 31)))))) 18 (vp_nar .byte (Int8.toInt32 (Int32.toInt8 (x4 >>> (8 &&& 31)))))) 19 (vp_nar .byte (Int8.toInt32 (Int32.toInt8 (x4 >>> (0 &&& 31))))))))] H := hP
  have hD : va_D A [(h0, .inr (12, ((((((((((((((((((((f0.set 0 (.int 0)).set 2 (.int 1)).set 2 (.int 2)).set 2 (.int 3)).set 2 (.int 4)).set 2 (.int 5)).set 2 (.int 6)).set 2 (.int 7)).set 2 (.int 8)).set 2 (.int 9)).set 2 (.int 10)).set 2 (.int 11)).set 2 (.int 12)).set 2 (.int 13)).set 2 (.int 14)).set 2 (.int 15)).set 2 (.int 16)).set 2 (.int 17)).set 2 (.int 18)).set 2 (.int 19)))), (h1, .inl (cB, 2000, .inl (upd (upd (upd (upd (upd (upd (upd (upd (upd (upd (upd (upd (upd (upd (upd (upd (upd (upd (upd (upd g0 0 (vp_nar .byte (Int8.toInt32 (Int32.toInt8 (x0 >>> (24 &&& 31)))))) 1 (vp_nar .byte (Int8.toInt32 (Int32.toInt8 (x0 >>> (16 &&& 31)))))) 2 (vp_nar .byte (Int8.toInt32 (Int32.toInt8 (x0 >>> (8 &&& 31)))))) 3 (vp_nar .byte (Int8.toInt32 (Int32.toInt8 (x0 >>> (0 &&& 31)))))) 4 (vp_nar .byte (Int8.toInt32 (Int32.toInt8 (x1 >>> (24 &&& 31)))))) 5 (vp_nar .byte (Int8.toInt32 (Int32.toInt8 (x1 >>> (16 &&& 31)))))) 6 (vp_nar .byte (Int8.toInt32 (Int32.toInt8 (x1 >>> (8 &&& 31)))))) 7 (vp_nar .byte (Int8.toInt32 (Int32.toInt8 (x1 >>> (0 &&& 31)))))) 8 (vp_nar .byte (Int8.toInt32 (Int32.toInt8 (x2 >>> (24 &&& 31)))))) 9 (vp_nar .byte (Int8.toInt32 (Int32.toInt8 (x2 >>> (16 &&& 31)))))) 10 (vp_nar .byte (Int8.toInt32 (Int32.toInt8 (x2 >>> (8 &&& 31)))))) 11 (vp_nar .byte (Int8.toInt32 (Int32.toInt8 (x2 >>> (0 &&& 31)))))) 12 (vp_nar .byte (Int8.toInt32 (Int32.toInt8 (x3 >>> (24 &&& 31)))))) 13 (vp_nar .byte (Int8.toInt32 (Int32.toInt8 (x3 >>> (16 &&& 31)))))) 14 (vp_nar .byte (Int8.toInt32 (Int32.toInt8 (x3 >>> (8 &&& 31)))))) 15 (vp_nar .byte (Int8.toInt32 (Int32.toInt8 (x3 >>> (0 &&& 31)))))) 16 (vp_nar .byte (Int8.toInt32 (Int32.toInt8 (x4 >>> (24 &&& 31)))))) 17 (vp_nar .byte (Int8.toInt32 (Int32.toInt8 (x4 >>> (16 &&& 31)))))) 18 (vp_nar .byte (Int8.toInt32 (Int32.toInt8 (x4 >>> (8 &&& 31)))))) 19 (vp_nar .byte (Int8.toInt32 (Int32.toInt8 (x4 >>> (0 &&& 31))))))))] := hD
  refine lv_aload_n hx hb dX12_feed_112 rfl (lv_at hl 2 rfl) ?_
  refine lv_dup hx hb dX12_feed_113 rfl ?_
  refine k_get (D := D) (ci := 12) (v := .int 19) (N := 195) hx hb hts hin12 hown hK hP 0 rfl rfl (by decide) f9_12_2 (hts (.fieldLink RX12 485 "IntegerHouseModel" "taped" "I") (o9_X12_feed _ (List.mem_of_getElem? (i := 0) rfl))) (k_set (k_set (k_set (k_set (k_set (k_set (k_set (k_set (k_set (k_set (k_set (k_set (k_set (k_set (k_set (k_set (k_set (k_set (k_set (k_ne (by decide) e0)))))))))))))))))))) dX12_feed_114 ?_
  refine lv_iconst (v := 1) hx hb dX12_feed_117 (by decide) ?_
  refine lv_iadd hx hb dX12_feed_118 ?_
  refine k_topi (y := 20) (by decide) ?_
  refine k_put (D := D) (ci := 12) (v := .int 20) (ty := .int) (N := 195) hx hb hts hin12 tyX12 tyX12_ok nmX12 hown hK hP hD hS 0 rfl rfl (by decide) f9_12_2 (hts (.fieldLink RX12 485 "IntegerHouseModel" "taped" "I") (o9_X12_feed _ (List.mem_of_getElem? (i := 0) rfl))) rfl pd_2 rfl rfl (k_len (k_set (k_set (k_set (k_set (k_set (k_set (k_set (k_set (k_set (k_set (k_set (k_set (k_set (k_set (k_set (k_set (k_set (k_set (k_set (k_ne (by decide) e0))))))))))))))))))))) dX12_feed_119 (fun H locs hP hD hS => ?_)
  have hP : va_P D vwCl [(h0, .inr (12, (((((((((((((((((((((f0.set 0 (.int 0)).set 2 (.int 1)).set 2 (.int 2)).set 2 (.int 3)).set 2 (.int 4)).set 2 (.int 5)).set 2 (.int 6)).set 2 (.int 7)).set 2 (.int 8)).set 2 (.int 9)).set 2 (.int 10)).set 2 (.int 11)).set 2 (.int 12)).set 2 (.int 13)).set 2 (.int 14)).set 2 (.int 15)).set 2 (.int 16)).set 2 (.int 17)).set 2 (.int 18)).set 2 (.int 19)).set 2 (.int 20)))), (h1, .inl (cB, 2000, .inl (upd (upd (upd (upd (upd (upd (upd (upd (upd (upd (upd (upd (upd (upd (upd (upd (upd (upd (upd (upd g0 0 (vp_nar .byte (Int8.toInt32 (Int32.toInt8 (x0 >>> (24 &&& 31)))))) 1 (vp_nar .byte (Int8.toInt32 (Int32.toInt8 (x0 >>> (16 &&& 31)))))) 2 (vp_nar .byte (Int8.toInt32 (Int32.toInt8 (x0 >>> (8 &&& 31)))))) 3 (vp_nar .byte (Int8.toInt32 (Int32.toInt8 (x0 >>> (0 &&& 31)))))) 4 (vp_nar .byte (Int8.toInt32 (Int32.toInt8 (x1 >>> (24 &&& 31)))))) 5 (vp_nar .byte (Int8.toInt32 (Int32.toInt8 (x1 >>> (16 &&& 31)))))) 6 (vp_nar .byte (Int8.toInt32 (Int32.toInt8 (x1 >>> (8 &&& 31)))))) 7 (vp_nar .byte (Int8.toInt32 (Int32.toInt8 (x1 >>> (0 &&& 31)))))) 8 (vp_nar .byte (Int8.toInt32 (Int32.toInt8 (x2 >>> (24 &&& 31)))))) 9 (vp_nar .byte (Int8.toInt32 (Int32.toInt8 (x2 >>> (16 &&& 31)))))) 10 (vp_nar .byte (Int8.toInt32 (Int32.toInt8 (x2 >>> (8 &&& 31)))))) 11 (vp_nar .byte (Int8.toInt32 (Int32.toInt8 (x2 >>> (0 &&& 31)))))) 12 (vp_nar .byte (Int8.toInt32 (Int32.toInt8 (x3 >>> (24 &&& 31)))))) 13 (vp_nar .byte (Int8.toInt32 (Int32.toInt8 (x3 >>> (16 &&& 31)))))) 14 (vp_nar .byte (Int8.toInt32 (Int32.toInt8 (x3 >>> (8 &&& 31)))))) 15 (vp_nar .byte (Int8.toInt32 (Int32.toInt8 (x3 >>> (0 &&& 31)))))) 16 (vp_nar .byte (Int8.toInt32 (Int32.toInt8 (x4 >>> (24 &&& 31)))))) 17 (vp_nar .byte (Int8.toInt32 (Int32.toInt8 (x4 >>> (16 &&& 31)))))) 18 (vp_nar .byte (Int8.toInt32 (Int32.toInt8 (x4 >>> (8 &&& 31)))))) 19 (vp_nar .byte (Int8.toInt32 (Int32.toInt8 (x4 >>> (0 &&& 31))))))))] H := hP
  have hD : va_D A [(h0, .inr (12, (((((((((((((((((((((f0.set 0 (.int 0)).set 2 (.int 1)).set 2 (.int 2)).set 2 (.int 3)).set 2 (.int 4)).set 2 (.int 5)).set 2 (.int 6)).set 2 (.int 7)).set 2 (.int 8)).set 2 (.int 9)).set 2 (.int 10)).set 2 (.int 11)).set 2 (.int 12)).set 2 (.int 13)).set 2 (.int 14)).set 2 (.int 15)).set 2 (.int 16)).set 2 (.int 17)).set 2 (.int 18)).set 2 (.int 19)).set 2 (.int 20)))), (h1, .inl (cB, 2000, .inl (upd (upd (upd (upd (upd (upd (upd (upd (upd (upd (upd (upd (upd (upd (upd (upd (upd (upd (upd (upd g0 0 (vp_nar .byte (Int8.toInt32 (Int32.toInt8 (x0 >>> (24 &&& 31)))))) 1 (vp_nar .byte (Int8.toInt32 (Int32.toInt8 (x0 >>> (16 &&& 31)))))) 2 (vp_nar .byte (Int8.toInt32 (Int32.toInt8 (x0 >>> (8 &&& 31)))))) 3 (vp_nar .byte (Int8.toInt32 (Int32.toInt8 (x0 >>> (0 &&& 31)))))) 4 (vp_nar .byte (Int8.toInt32 (Int32.toInt8 (x1 >>> (24 &&& 31)))))) 5 (vp_nar .byte (Int8.toInt32 (Int32.toInt8 (x1 >>> (16 &&& 31)))))) 6 (vp_nar .byte (Int8.toInt32 (Int32.toInt8 (x1 >>> (8 &&& 31)))))) 7 (vp_nar .byte (Int8.toInt32 (Int32.toInt8 (x1 >>> (0 &&& 31)))))) 8 (vp_nar .byte (Int8.toInt32 (Int32.toInt8 (x2 >>> (24 &&& 31)))))) 9 (vp_nar .byte (Int8.toInt32 (Int32.toInt8 (x2 >>> (16 &&& 31)))))) 10 (vp_nar .byte (Int8.toInt32 (Int32.toInt8 (x2 >>> (8 &&& 31)))))) 11 (vp_nar .byte (Int8.toInt32 (Int32.toInt8 (x2 >>> (0 &&& 31)))))) 12 (vp_nar .byte (Int8.toInt32 (Int32.toInt8 (x3 >>> (24 &&& 31)))))) 13 (vp_nar .byte (Int8.toInt32 (Int32.toInt8 (x3 >>> (16 &&& 31)))))) 14 (vp_nar .byte (Int8.toInt32 (Int32.toInt8 (x3 >>> (8 &&& 31)))))) 15 (vp_nar .byte (Int8.toInt32 (Int32.toInt8 (x3 >>> (0 &&& 31)))))) 16 (vp_nar .byte (Int8.toInt32 (Int32.toInt8 (x4 >>> (24 &&& 31)))))) 17 (vp_nar .byte (Int8.toInt32 (Int32.toInt8 (x4 >>> (16 &&& 31)))))) 18 (vp_nar .byte (Int8.toInt32 (Int32.toInt8 (x4 >>> (8 &&& 31)))))) 19 (vp_nar .byte (Int8.toInt32 (Int32.toInt8 (x4 >>> (0 &&& 31))))))))] := hD
  refine lv_iinc (v := 20) (lv' := [(6, .int 20), (7, .int x4), (0, .ref h0), (1, .int x0), (2, .int x1), (3, .int x2), (4, .int x3), (5, .int x4)]) hx hb dX12_feed_122 hl (k := 1) rfl (by decide) (by decide) rfl (fun ls hl => ?_)
  refine lv_goto (tgt := 34) hx hb dX12_feed_125 (by decide) ?_
  refine lv_iload hx hb dX12_feed_34 (lv_at hl 0 rfl) ?_
  refine lv_bipush (v := 20) hx hb dX12_feed_36 (by decide) ?_
  refine lv_icmp_ge (tgt := 128) hx hb dX12_feed_38 (by decide) (fun _ => ?_) (fun c9 => absurd (by decide) c9)
  refine lv_aload_n hx hb dX12_feed_128 rfl (lv_at hl 2 rfl) ?_
  refine k_get (D := D) (ci := 12) (v := .int 20) (N := 195) hx hb hts hin12 hown hK hP 0 rfl rfl (by decide) f9_12_2 (hts (.fieldLink RX12 485 "IntegerHouseModel" "taped" "I") (o9_X12_feed _ (List.mem_of_getElem? (i := 0) rfl))) (k_set (k_set (k_set (k_set (k_set (k_set (k_set (k_set (k_set (k_set (k_set (k_set (k_set (k_set (k_set (k_set (k_set (k_set (k_set (k_set (k_ne (by decide) e0))))))))))))))))))))) dX12_feed_129 ?_
  exact W.iret (v := 20) hx hb hr (fun t ht hW => ⟨⟨20, (), rfl, rfl, kB_mk ht hW hP hK hD⟩, hS.F ht⟩) hS.2.2 dX12_feed_132
