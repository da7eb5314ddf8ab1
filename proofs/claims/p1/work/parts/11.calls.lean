theorem dX11_feedOne_0 : decode cX11_feedOne 0 = .ok (.bipush 24, 2) := by decide +kernel
theorem dX11_feedOne_2 : decode cX11_feedOne 2 = .ok (.istore_n 2, 1) := by decide +kernel
theorem dX11_feedOne_3 : decode cX11_feedOne 3 = .ok (.iload_n 2, 1) := by decide +kernel
theorem dX11_feedOne_4 : decode cX11_feedOne 4 = .ok (.ifCond .lt 49, 3) := by decide +kernel
theorem dX11_feedOne_7 : decode cX11_feedOne 7 = .ok (.aload_n 0, 1) := by decide +kernel
theorem dX11_feedOne_8 : decode cX11_feedOne 8 = .ok (.getfield 102, 3) := by decide +kernel
theorem dX11_feedOne_11 : decode cX11_feedOne 11 = .ok (.ifCond .lt 36, 3) := by decide +kernel
theorem dX11_feedOne_14 : decode cX11_feedOne 14 = .ok (.aload_n 0, 1) := by decide +kernel
theorem dX11_feedOne_15 : decode cX11_feedOne 15 = .ok (.getfield 102, 3) := by decide +kernel
theorem dX11_feedOne_18 : decode cX11_feedOne 18 = .ok (.sipush 2000, 3) := by decide +kernel
theorem dX11_feedOne_21 : decode cX11_feedOne 21 = .ok (.if_icmp .ge 26, 3) := by decide +kernel
theorem dX11_feedOne_24 : decode cX11_feedOne 24 = .ok (.aload_n 0, 1) := by decide +kernel
theorem dX11_feedOne_25 : decode cX11_feedOne 25 = .ok (.getfield 9, 3) := by decide +kernel
theorem dX11_feedOne_28 : decode cX11_feedOne 28 = .ok (.aload_n 0, 1) := by decide +kernel
theorem dX11_feedOne_29 : decode cX11_feedOne 29 = .ok (.getfield 102, 3) := by decide +kernel
theorem dX11_feedOne_32 : decode cX11_feedOne 32 = .ok (.iload_n 1, 1) := by decide +kernel
theorem dX11_feedOne_33 : decode cX11_feedOne 33 = .ok (.iload_n 2, 1) := by decide +kernel
theorem dX11_feedOne_34 : decode cX11_feedOne 34 = .ok (.ishr, 1) := by decide +kernel
theorem dX11_feedOne_35 : decode cX11_feedOne 35 = .ok (.i2b, 1) := by decide +kernel
theorem dX11_feedOne_36 : decode cX11_feedOne 36 = .ok (.bastore, 1) := by decide +kernel
theorem dX11_feedOne_37 : decode cX11_feedOne 37 = .ok (.aload_n 0, 1) := by decide +kernel
theorem dX11_feedOne_38 : decode cX11_feedOne 38 = .ok (.dup, 1) := by decide +kernel
theorem dX11_feedOne_39 : decode cX11_feedOne 39 = .ok (.getfield 102, 3) := by decide +kernel
theorem dX11_feedOne_42 : decode cX11_feedOne 42 = .ok (.iconst 1, 1) := by decide +kernel
theorem dX11_feedOne_43 : decode cX11_feedOne 43 = .ok (.iadd, 1) := by decide +kernel
theorem dX11_feedOne_44 : decode cX11_feedOne 44 = .ok (.putfield 102, 3) := by decide +kernel
theorem dX11_feedOne_47 : decode cX11_feedOne 47 = .ok (.iinc 2 (-8), 3) := by decide +kernel
theorem dX11_feedOne_50 : decode cX11_feedOne 50 = .ok (.goto (-47), 3) := by decide +kernel
theorem dX11_feedOne_53 : decode cX11_feedOne 53 = .ok (.return_, 1) := by decide +kernel
set_option maxHeartbeats 400000000 in
set_option maxRecDepth 100000 in
theorem c_X11_feedOne_0 (l : Launch) (E : kE) (D : va_G) (cI cJ cB cZ : ClassId) (h0 : Nat) (x0 : Int32) (f0 : List Value) (h1 : Nat) (g0 : Nat → Int32) (e0 : f0[12]? = some (.int 0)) (e1 : f0[0]? = some (.ref h1)) : kV l E D (kT cI cJ cB cZ) yX11_feedOne vW_X11_feedOne ({ frames := 0, cells := 0, slots := 0, locals := 0 }) [.ref h0, .int x0] [(h0, .inr (11, f0)), (h1, .inl (cB, 2000, .inl g0))] (fun _ : Unit => [(h0, .inr (11, ((((f0.set 12 (.int 1)).set 12 (.int 2)).set 12 (.int 3)).set 12 (.int 4)))), (h1, .inl (cB, 2000, .inl (upd (upd (upd (upd g0 0 (vp_nar .byte (Int8.toInt32 (Int32.toInt8 (x0 >>> (24 &&& 31)))))) 1 (vp_nar .byte (Int8.toInt32 (Int32.toInt8 (x0 >>> (16 &&& 31)))))) 2 (vp_nar .byte (Int8.toInt32 (Int32.toInt8 (x0 >>> (8 &&& 31)))))) 3 (vp_nar .byte (Int8.toInt32 (Int32.toInt8 (x0 >>> (0 &&& 31))))))))]) 0 0 := by
  intro sz
  refine Met.ofW (cc := cX11_feedOne) (maxL := 3) (ret := none) (by decide) rfl ?_
  intro p e s m args below meth c s₁ B hml hv
  obtain ⟨rfl, hsz, hP, hK, hD0, hN, hX⟩ := hv
  have hx := B.exec
  have hb := B.bytes
  have hr := B.returns
  have hts := atoms_spec (ws := vW_X11_feedOne) B.pre
  have hown : s.vm.findClass RX11 = some m.cls := findClass_of_methodNamed B.named
  have hlocks := B.notSynchronized
  have hin11 : ∀ w ∈ wsX110, w ∈ vW_X11_feedOne := u9_X11_feedOne_wsX110
  subst hsz
  have hD := hD0.self (sz := s.heap.size)
  have hAE := k_AE hD0 hX
  generalize hAe : va_A [(h0, .inr (11, f0)), (h1, .inl (cB, 2000, .inl g0))] s.heap.size = A at hD hAE ⊢
  have hA : ∀ q : Nat, s.heap.size ≤ q → A q := fun q h => by rw [← hAe]; exact Or.inr h
  have hS : va_S A s.heap s.heap [] := va_S.rf
  have hP : va_P D vwCl [(h0, .inr (11, f0)), (h1, .inl (cB, 2000, .inl g0))] s.heap := hP
  have hl := lv_entry ([.ref h0, .int x0] : List Value) (n := 3) (Nat.le_of_ble_eq_true rfl)
  rw [lg_entry_eq]
  generalize (lg_sl ([.ref h0, .int x0]) ++ List.replicate (3 - (lg_sl ([.ref h0, .int x0])).length) Slot.unset).toArray = ls at hl ⊢
  have hl : lv_has ls 3 [(0, .ref h0), (1, .int x0)] := hl
  refine lv_bipush (v := 24) hx hb dX11_feedOne_0 (by decide) ?_
  refine lv_istore_n (lv' := [(2, .int 24), (0, .ref h0), (1, .int x0)]) hx hb dX11_feedOne_2 rfl hl (by decide) rfl (fun ls hl => ?_)
  refine lv_iload_n hx hb dX11_feedOne_3 rfl (lv_at hl 0 rfl) ?_
  refine lv_if_lt (tgt := 53) hx hb dX11_feedOne_4 (by decide) (fun c9 => absurd c9 (by decide)) (fun _ => ?_)
  refine lv_aload_n hx hb dX11_feedOne_7 rfl (lv_at hl 1 rfl) ?_
  refine k_get (D := D) (ci := 11) (v := .int 0) (N := 15) hx hb hts hin11 hown hK hP 0 rfl rfl (by decide) f9_11_12 (hts (.fieldLink RX11 102 "IntegerHouse" "tapeLength" "I") (o9_X11_feedOne _ (List.mem_of_getElem? (i := 0) rfl))) e0 dX11_feedOne_8 ?_
  refine lv_if_lt (tgt := 47) hx hb dX11_feedOne_11 (by decide) (fun c9 => absurd c9 (by decide)) (fun _ => ?_)
  refine lv_aload_n hx hb dX11_feedOne_14 rfl (lv_at hl 1 rfl) ?_
  refine k_get (D := D) (ci := 11) (v := .int 0) (N := 15) hx hb hts hin11 hown hK hP 0 rfl rfl (by decide) f9_11_12 (hts (.fieldLink RX11 102 "IntegerHouse" "tapeLength" "I") (o9_X11_feedOne _ (List.mem_of_getElem? (i := 0) rfl))) e0 dX11_feedOne_15 ?_
  refine lv_sipush (v := 2000) hx hb dX11_feedOne_18 (by decide) ?_
  refine lv_icmp_ge (tgt := 47) hx hb dX11_feedOne_21 (by decide) (fun c9 => absurd c9 (by decide)) (fun _ => ?_)
  refine lv_aload_n hx hb dX11_feedOne_24 rfl (lv_at hl 1 rfl) ?_
  refine k_get (D := D) (ci := 11) (v := .ref h1) (N := 15) hx hb hts hin11 hown hK hP 0 rfl rfl (by decide) f9_11_0 (hts (.fieldLink RX11 9 "IntegerHouse" "tape" "[B") (o9_X11_feedOne _ (List.mem_of_getElem? (i := 1) rfl))) e1 dX11_feedOne_25 ?_
  refine lv_aload_n hx hb dX11_feedOne_28 rfl (lv_at hl 1 rfl) ?_
  refine k_get (D := D) (ci := 11) (v := .int 0) (N := 15) hx hb hts hin11 hown hK hP 0 rfl rfl (by decide) f9_11_12 (hts (.fieldLink RX11 102 "IntegerHouse" "tapeLength" "I") (o9_X11_feedOne _ (List.mem_of_getElem? (i := 0) rfl))) e0 dX11_feedOne_29 ?_
  refine lv_iload_n hx hb dX11_feedOne_32 rfl (lv_at hl 2 rfl) ?_
  refine lv_iload_n hx hb dX11_feedOne_33 rfl (lv_at hl 0 rfl) ?_
  refine lv_ishr hx hb dX11_feedOne_34 ?_
  refine lv_i2b (v := (Int8.toInt32 (Int32.toInt8 (x0 >>> (24 &&& 31))))) hx hb dX11_feedOne_35 rfl ?_
  refine va_bast hx hb hK hP hD hS 1 2 rfl rfl (k_in (by decide)) dX11_feedOne_36 (fun H locs hP hD hS => ?_)
  have hP : va_P D vwCl [(h0, .inr (11, f0)), (h1, .inl (cB, 2000, .inl (upd g0 0 (vp_nar .byte (Int8.toInt32 (Int32.toInt8 (x0 >>> (24 &&& 31))))))))] H := hP
  have hD : va_D A [(h0, .inr (11, f0)), (h1, .inl (cB, 2000, .inl (upd g0 0 (vp_nar .byte (Int8.toInt32 (Int32.toInt8 (x0 >>> (24 &&& 31))))))))] := hD
  refine lv_aload_n hx hb dX11_feedOne_37 rfl (lv_at hl 1 rfl) ?_
  refine lv_dup hx hb dX11_feedOne_38 rfl ?_
  refine k_get (D := D) (ci := 11) (v := .int 0) (N := 15) hx hb hts hin11 hown hK hP 0 rfl rfl (by decide) f9_11_12 (hts (.fieldLink RX11 102 "IntegerHouse" "tapeLength" "I") (o9_X11_feedOne _ (List.mem_of_getElem? (i := 0) rfl))) e0 dX11_feedOne_39 ?_
  refine lv_iconst (v := 1) hx hb dX11_feedOne_42 (by decide) ?_
  refine lv_iadd hx hb dX11_feedOne_43 ?_
  refine k_topi (y := 1) (by decide) ?_
  refine k_put (D := D) (ci := 11) (v := .int 1) (ty := .int) (N := 15) hx hb hts hin11 tyX11 tyX11_ok nmX11 hown hK hP hD hS 0 rfl rfl (by decide) f9_11_12 (hts (.fieldLink RX11 102 "IntegerHouse" "tapeLength" "I") (o9_X11_feedOne _ (List.mem_of_getElem? (i := 0) rfl))) rfl pd_2 rfl rfl (k_len e0) dX11_feedOne_44 (fun H locs hP hD hS => ?_)
  have hP : va_P D vwCl [(h0, .inr (11, (f0.set 12 (.int 1)))), (h1, .inl (cB, 2000, .inl (upd g0 0 (vp_nar .byte (Int8.toInt32 (Int32.toInt8 (x0 >>> (24 &&& 31))))))))] H := hP
  have hD : va_D A [(h0, .inr (11, (f0.set 12 (.int 1)))), (h1, .inl (cB, 2000, .inl (upd g0 0 (vp_nar .byte (Int8.toInt32 (Int32.toInt8 (x0 >>> (24 &&& 31))))))))] := hD
  refine lv_iinc (v := 16) (lv' := [(2, .int 16), (0, .ref h0), (1, .int x0)]) hx hb dX11_feedOne_47 hl (k := 0) rfl (by decide) (by decide) rfl (fun ls hl => ?_)
  refine lv_goto (tgt := 3) hx hb dX11_feedOne_50 (by decide) ?_
  refine lv_iload_n hx hb dX11_feedOne_3 rfl (lv_at hl 0 rfl) ?_
  refine lv_if_lt (tgt := 53) hx hb dX11_feedOne_4 (by decide) (fun c9 => absurd c9 (by decide)) (fun _ => ?_)
  refine lv_aload_n hx hb dX11_feedOne_7 rfl (lv_at hl 1 rfl) ?_
  refine k_get (D := D) (ci := 11) (v := .int 1) (N := 15) hx hb hts hin11 hown hK hP 0 rfl rfl (by decide) f9_11_12 (hts (.fieldLink RX11 102 "IntegerHouse" "tapeLength" "I") (o9_X11_feedOne _ (List.mem_of_getElem? (i := 0) rfl))) (k_set e0) dX11_feedOne_8 ?_
  refine lv_if_lt (tgt := 47) hx hb dX11_feedOne_11 (by decide) (fun c9 => absurd c9 (by decide)) (fun _ => ?_)
  refine lv_aload_n hx hb dX11_feedOne_14 rfl (lv_at hl 1 rfl) ?_
  refine k_get (D := D) (ci := 11) (v := .int 1) (N := 15) hx hb hts hin11 hown hK hP 0 rfl rfl (by decide) f9_11_12 (hts (.fieldLink RX11 102 "IntegerHouse" "tapeLength" "I") (o9_X11_feedOne _ (List.mem_of_getElem? (i := 0) rfl))) (k_set e0) dX11_feedOne_15 ?_
  refine lv_sipush (v := 2000) hx hb dX11_feedOne_18 (by decide) ?_
  refine lv_icmp_ge (tgt := 47) hx hb dX11_feedOne_21 (by decide) (fun c9 => absurd c9 (by decide)) (fun _ => ?_)
  refine lv_aload_n hx hb dX11_feedOne_24 rfl (lv_at hl 1 rfl) ?_
  refine k_get (D := D) (ci := 11) (v := .ref h1) (N := 15) hx hb hts hin11 hown hK hP 0 rfl rfl (by decide) f9_11_0 (hts (.fieldLink RX11 9 "IntegerHouse" "tape" "[B") (o9_X11_feedOne _ (List.mem_of_getElem? (i := 1) rfl))) (k_ne (by decide) e1) dX11_feedOne_25 ?_
  refine lv_aload_n hx hb dX11_feedOne_28 rfl (lv_at hl 1 rfl) ?_
  refine k_get (D := D) (ci := 11) (v := .int 1) (N := 15) hx hb hts hin11 hown hK hP 0 rfl rfl (by decide) f9_11_12 (hts (.fieldLink RX11 102 "IntegerHouse" "tapeLength" "I") (o9_X11_feedOne _ (List.mem_of_getElem? (i := 0) rfl))) (k_set e0) dX11_feedOne_29 ?_
  refine lv_iload_n hx hb dX11_feedOne_32 rfl (lv_at hl 2 rfl) ?_
  refine lv_iload_n hx hb dX11_feedOne_33 rfl (lv_at hl 0 rfl) ?_
  refine lv_ishr hx hb dX11_feedOne_34 ?_
  refine lv_i2b (v := (Int8.toInt32 (Int32.toInt8 (x0 >>> (16 &&& 31))))) hx hb dX11_feedOne_35 rfl ?_
  refine va_bast hx hb hK hP hD hS 1 2 rfl rfl (k_in (by decide)) dX11_feedOne_36 (fun H locs hP hD hS => ?_)
  have hP : va_P D vwCl [(h0, .inr (11, (f0.set 12 (.int 1)))), (h1, .inl (cB, 2000, .inl (upd (upd g0 0 (vp_nar .byte (Int8.toInt32 (Int32.toInt8 (x0 >>> (24 &&& 31)))))) 1 (vp_nar .byte (Int8.toInt32 (Int32.toInt8 (x0 >>> (16 &&& 31))))))))] H := hP
  have hD : va_D A [(h0, .inr (11, (f0.set 12 (.int 1)))), (h1, .inl (cB, 2000, .inl (upd (upd g0 0 (vp_nar .byte (Int8.toInt32 (Int32.toInt8 (x0 >>> (24 &&& 31)))))) 1 (vp_nar .byte (Int8.toInt32 (Int32.toInt8 (x0 >>> (16 &&& 31))))))))] := hD
  refine lv_aload_n hx hb dX11_feedOne_37 rfl (lv_at hl 1 rfl) ?_
  refine lv_dup hx hb dX11_feedOne_38 rfl ?_
  refine k_get (D := D) (ci := 11) (v := .int 1) (N := 15) hx hb hts hin11 hown hK hP 0 rfl rfl (by decide) f9_11_12 (hts (.fieldLink RX11 102 "IntegerHouse" "tapeLength" "I") (o9_X11_feedOne _ (List.mem_of_getElem? (i := 0) rfl))) (k_set e0) dX11_feedOne_39 ?_
  refine lv_iconst (v := 1) hx hb dX11_feedOne_42 (by decide) ?_
  refine lv_iadd hx hb dX11_feedOne_43 ?_
  refine k_topi (y := 2) (by decide) ?_
  refine k_put (D := D) (ci := 11) (v := .int 2) (ty := .int) (N := 15) hx hb hts hin11 tyX11 tyX11_ok nmX11 hown hK hP hD hS 0 rfl rfl (by decide) f9_11_12 (hts (.fieldLink RX11 102 "IntegerHouse" "tapeLength" "I") (o9_X11_feedOne _ (List.mem_of_getElem? (i := 0) rfl))) rfl pd_2 rfl rfl (k_len (k_set e0)) dX11_feedOne_44 (fun H locs hP hD hS => ?_)
  have hP : va_P D vwCl [(h0, .inr (11, ((f0.set 12 (.int 1)).set 12 (.int 2)))), (h1, .inl (cB, 2000, .inl (upd (upd g0 0 (vp_nar .byte (Int8.toInt32 (Int32.toInt8 (x0 >>> (24 &&& 31)))))) 1 (vp_nar .byte (Int8.toInt32 (Int32.toInt8 (x0 >>> (16 &&& 31))))))))] H := hP
  have hD : va_D A [(h0, .inr (11, ((f0.set 12 (.int 1)).set 12 (.int 2)))), (h1, .inl (cB, 2000, .inl (upd (upd g0 0 (vp_nar .byte (Int8.toInt32 (Int32.toInt8 (x0 >>> (24 &&& 31)))))) 1 (vp_nar .byte (Int8.toInt32 (Int32.toInt8 (x0 >>> (16 &&& 31))))))))] := hD
  refine lv_iinc (v := 8) (lv' := [(2, .int 8), (0, .ref h0), (1, .int x0)]) hx hb dX11_feedOne_47 hl (k := 0) rfl (by decide) (by decide) rfl (fun ls hl => ?_)
  refine lv_goto (tgt := 3) hx hb dX11_feedOne_50 (by decide) ?_
  refine lv_iload_n hx hb dX11_feedOne_3 rfl (lv_at hl 0 rfl) ?_
  refine lv_if_lt (tgt := 53) hx hb dX11_feedOne_4 (by decide) (fun c9 => absurd c9 (by decide)) (fun _ => ?_)
  refine lv_aload_n hx hb dX11_feedOne_7 rfl (lv_at hl 1 rfl) ?_
  refine k_get (D := D) (ci := 11) (v := .int 2) (N := 15) hx hb hts hin11 hown hK hP 0 rfl rfl (by decide) f9_11_12 (hts (.fieldLink RX11 102 "IntegerHouse" "tapeLength" "I") (o9_X11_feedOne _ (List.mem_of_getElem? (i := 0) rfl))) (k_set (k_set e0)) dX11_feedOne_8 ?_
  refine lv_if_lt (tgt := 47) hx hb dX11_feedOne_11 (by decide) (fun c9 => absurd c9 (by decide)) (fun _ => ?_)
  refine lv_aload_n hx hb dX11_feedOne_14 rfl (lv_at hl 1 rfl) ?_
  refine k_get (D := D) (ci := 11) (v := .int 2) (N := 15) hx hb hts hin11 hown hK hP 0 rfl rfl (by decide) f9_11_12 (hts (.fieldLink RX11 102 "IntegerHouse" "tapeLength" "I") (o9_X11_feedOne _ (List.mem_of_getElem? (i := 0) rfl))) (k_set (k_set e0)) dX11_feedOne_15 ?_
  refine lv_sipush (v := 2000) hx hb dX11_feedOne_18 (by decide) ?_
  refine lv_icmp_ge (tgt := 47) hx hb dX11_feedOne_21 (by decide) (fun c9 => absurd c9 (by decide)) (fun _ => ?_)
  refine lv_aload_n hx hb dX11_feedOne_24 rfl (lv_at hl 1 rfl) ?_
  refine k_get (D := D) (ci := 11) (v := .ref h1) (N := 15) hx hb hts hin11 hown hK hP 0 rfl rfl (by decide) f9_11_0 (hts (.fieldLink RX11 9 "IntegerHouse" "tape" "[B") (o9_X11_feedOne _ (List.mem_of_getElem? (i := 1) rfl))) (k_ne (by decide) (k_ne (by decide) e1)) dX11_feedOne_25 ?_
  refine lv_aload_n hx hb dX11_feedOne_28 rfl (lv_at hl 1 rfl) ?_
  refine k_get (D := D) (ci := 11) (v := .int 2) (N := 15) hx hb hts hin11 hown hK hP 0 rfl rfl (by decide) f9_11_12 (hts (.fieldLink RX11 102 "IntegerHouse" "tapeLength" "I") (o9_X11_feedOne _ (List.mem_of_getElem? (i := 0) rfl))) (k_set (k_set e0)) dX11_feedOne_29 ?_
  refine lv_iload_n hx hb dX11_feedOne_32 rfl (lv_at hl 2 rfl) ?_
  refine lv_iload_n hx hb dX11_feedOne_33 rfl (lv_at hl 0 rfl) ?_
  refine lv_ishr hx hb dX11_feedOne_34 ?_
  refine lv_i2b (v := (Int8.toInt32 (Int32.toInt8 (x0 >>> (8 &&& 31))))) hx hb dX11_feedOne_35 rfl ?_
  refine va_bast hx hb hK hP hD hS 1 2 rfl rfl (k_in (by decide)) dX11_feedOne_36 (fun H locs hP hD hS => ?_)
  have hP : va_P D vwCl [(h0, .inr (11, ((f0.set 12 (.int 1)).set 12 (.int 2)))), (h1, .inl (cB, 2000, .inl (upd (upd (upd g0 0 (vp_nar .byte (Int8.toInt32 (Int32.toInt8 (x0 >>> (24 &&& 31)))))) 1 (vp_nar .byte (Int8.toInt32 (Int32.toInt8 (x0 >>> (16 &&& 31)))))) 2 (vp_nar .byte (Int8.toInt32 (Int32.toInt8 (x0 >>> (8 &&& 31))))))))] H := hP
  have hD : va_D A [(h0, .inr (11, ((f0.set 12 (.int 1)).set 12 (.int 2)))), (h1, .inl (cB, 2000, .inl (upd (upd (upd g0 0 (vp_nar .byte (Int8.toInt32 (Int32.toInt8 (x0 >>> (24 &&& 31)))))) 1 (vp_nar .byte (Int8.toInt32 (Int32.toInt8 (x0 >>> (16 &&& 31)))))) 2 (vp_nar .byte (Int8.toInt32 (Int32.toInt8 (x0 >>> (8 &&& 31))))))))] := hD
  refine lv_aload_n hx hb dX11_feedOne_37 rfl (lv_at hl 1 rfl) ?_
  refine lv_dup hx hb dX11_feedOne_38 rfl ?_
  refine k_get (D := D) (ci := 11) (v := .int 2) (N := 15) hx hb hts hin11 hown hK hP 0 rfl rfl (by decide) f9_11_12 (hts (.fieldLink RX11 102 "IntegerHouse" "tapeLength" "I") (o9_X11_feedOne _ (List.mem_of_getElem? (i := 0) rfl))) (k_set (k_set e0)) dX11_feedOne_39 ?_
  refine lv_iconst (v := 1) hx hb dX11_feedOne_42 (by decide) ?_
  refine lv_iadd hx hb dX11_feedOne_43 ?_
  refine k_topi (y := 3) (by decide) ?_
  refine k_put (D := D) (ci := 11) (v := .int 3) (ty := .int) (N := 15) hx hb hts hin11 tyX11 tyX11_ok nmX11 hown hK hP hD hS 0 rfl rfl (by decide) f9_11_12 (hts (.fieldLink RX11 102 "IntegerHouse" "tapeLength" "I") (o9_X11_feedOne _ (List.mem_of_getElem? (i := 0) rfl))) rfl pd_2 rfl rfl (k_len (k_set (k_set e0))) dX11_feedOne_44 (fun H locs hP hD hS => ?_)
  have hP : va_P D vwCl [(h0, .inr (11, (((f0.set 12 (.int 1)).set 12 (.int 2)).set 12 (.int 3)))), (h1, .inl (cB, 2000, .inl (upd (upd (upd g0 0 (vp_nar .byte (Int8.toInt32 (Int32.toInt8 (x0 >>> (24 &&& 31)))))) 1 (vp_nar .byte (Int8.toInt32 (Int32.toInt8 (x0 >>> (16 &&& 31)))))) 2 (vp_nar .byte (Int8.toInt32 (Int32.toInt8 (x0 >>> (8 &&& 31))))))))] H := hP
  have hD : va_D A [(h0, .inr (11, (((f0.set 12 (.int 1)).set 12 (.int 2)).set 12 (.int 3)))), (h1, .inl (cB, 2000, .inl (upd (upd (upd g0 0 (vp_nar .byte (Int8.toInt32 (Int32.toInt8 (x0 >>> (24 &&& 31)))))) 1 (vp_nar .byte (Int8.toInt32 (Int32.toInt8 (x0 >>> (16 &&& 31)))))) 2 (vp_nar .byte (Int8.toInt32 (Int32.toInt8 (x0 >>> (8 &&& 31))))))))] := hD
  refine lv_iinc (v := 0) (lv' := [(2, .int 0), (0, .ref h0), (1, .int x0)]) hx hb dX11_feedOne_47 hl (k := 0) rfl (by decide) (by decide) rfl (fun ls hl => ?_)
  refine lv_goto (tgt := 3) hx hb dX11_feedOne_50 (by decide) ?_
  refine lv_iload_n hx hb dX11_feedOne_3 rfl (lv_at hl 0 rfl) ?_
  refine lv_if_lt (tgt := 53) hx hb dX11_feedOne_4 (by decide) (fun c9 => absurd c9 (by decide)) (fun _ => ?_)
  refine lv_aload_n hx hb dX11_feedOne_7 rfl (lv_at hl 1 rfl) ?_
  refine k_get (D := D) (ci := 11) (v := .int 3) (N := 15) hx hb hts hin11 hown hK hP 0 rfl rfl (by decide) f9_11_12 (hts (.fieldLink RX11 102 "IntegerHouse" "tapeLength" "I") (o9_X11_feedOne _ (List.mem_of_getElem? (i := 0) rfl))) (k_set (k_set (k_set e0))) dX11_feedOne_8 ?_
  refine lv_if_lt (tgt := 47) hx hb dX11_feedOne_11 (by decide) (fun c9 => absurd c9 (by decide)) (fun _ => ?_)
  refine lv_aload_n hx hb dX11_feedOne_14 rfl (lv_at hl 1 rfl) ?_
  refine k_get (D := D) (ci := 11) (v := .int 3) (N := 15) hx hb hts hin11 hown hK hP 0 rfl rfl (by decide) f9_11_12 (hts (.fieldLink RX11 102 "IntegerHouse" "tapeLength" "I") (o9_X11_feedOne _ (List.mem_of_getElem? (i := 0) rfl))) (k_set (k_set (k_set e0))) dX11_feedOne_15 ?_
  refine lv_sipush (v := 2000) hx hb dX11_feedOne_18 (by decide) ?_
  refine lv_icmp_ge (tgt := 47) hx hb dX11_feedOne_21 (by decide) (fun c9 => absurd c9 (by decide)) (fun _ => ?_)
  refine lv_aload_n hx hb dX11_feedOne_24 rfl (lv_at hl 1 rfl) ?_
  refine k_get (D := D) (ci := 11) (v := .ref h1) (N := 15) hx hb hts hin11 hown hK hP 0 rfl rfl (by decide) f9_11_0 (hts (.fieldLink RX11 9 "IntegerHouse" "tape" "[B") (o9_X11_feedOne _ (List.mem_of_getElem? (i := 1) rfl))) (k_ne (by decide) (k_ne (by decide) (k_ne (by decide) e1))) dX11_feedOne_25 ?_
  refine lv_aload_n hx hb dX11_feedOne_28 rfl (lv_at hl 1 rfl) ?_
  refine k_get (D := D) (ci := 11) (v := .int 3) (N := 15) hx hb hts hin11 hown hK hP 0 rfl rfl (by decide) f9_11_12 (hts (.fieldLink RX11 102 "IntegerHouse" "tapeLength" "I") (o9_X11_feedOne _ (List.mem_of_getElem? (i := 0) rfl))) (k_set (k_set (k_set e0))) dX11_feedOne_29 ?_
  refine lv_iload_n hx hb dX11_feedOne_32 rfl (lv_at hl 2 rfl) ?_
  refine lv_iload_n hx hb dX11_feedOne_33 rfl (lv_at hl 0 rfl) ?_
  refine lv_ishr hx hb dX11_feedOne_34 ?_
  refine lv_i2b (v := (Int8.toInt32 (Int32.toInt8 (x0 >>> (0 &&& 31))))) hx hb dX11_feedOne_35 rfl ?_
  refine va_bast hx hb hK hP hD hS 1 2 rfl rfl (k_in (by decide)) dX11_feedOne_36 (fun H locs hP hD hS => ?_)
  have hP : va_P D vwCl [(h0, .inr (11, (((f0.set 12 (.int 1)).set 12 (.int 2)).set 12 (.int 3)))), (h1, .inl (cB, 2000, .inl (upd (upd (upd (upd g0 0 (vp_nar .byte (Int8.toInt32 (Int32.toInt8 (x0 >>> (24 &&& 31)))))) 1 (vp_nar .byte (Int8.toInt32 (Int32.toInt8 (x0 >>> (16 &&& 31)))))) 2 (vp_nar .byte (Int8.toInt32 (Int32.toInt8 (x0 >>> (8 &&& 31)))))) 3 (vp_nar .byte (Int8.toInt32 (Int32.toInt8 (x0 >>> (0 &&& 31))))))))] H := hP
  have hD : va_D A [(h0, .inr (11, (((f0.set 12 (.int 1)).set 12 (.int 2)).set 12 (.int 3)))), (h1, .inl (cB, 2000, .inl (upd (upd (upd (upd g0 0 (vp_nar .byte (Int8.toInt32 (Int32.toInt8 (x0 >>> (24 &&& 31)))))) 1 (vp_nar .byte (Int8.toInt32 (Int32.toInt8 (x0 >>> (16 &&& 31)))))) 2 (vp_nar .byte (Int8.toInt32 (Int32.toInt8 (x0 >>> (8 &&& 31)))))) 3 (vp_nar .byte (Int8.toInt32 (Int32.toInt8 (x0 >>> (0 &&& 31))))))))] := hD
  refine lv_aload_n hx hb dX11_feedOne_37 rfl (lv_at hl 1 rfl) ?_
  refine lv_dup hx hb dX11_feedOne_38 rfl ?_
  refine k_get (D := D) (ci := 11) (v := .int 3) (N := 15) hx hb hts hin11 hown hK hP 0 rfl rfl (by decide) f9_11_12 (hts (.fieldLink RX11 102 "IntegerHouse" "tapeLength" "I") (o9_X11_feedOne _ (List.mem_of_getElem? (i := 0) rfl))) (k_set (k_set (k_set e0))) dX11_feedOne_39 ?_
  refine lv_iconst (v := 1) hx hb dX11_feedOne_42 (by decide) ?_
  refine lv_iadd hx hb dX11_feedOne_43 ?_
  refine k_topi (y := 4) (by decide) ?_
  refine k_put (D := D) (ci := 11) (v := .int 4) (ty := .int) (N := 15) hx hb hts hin11 tyX11 tyX11_ok nmX11 hown hK hP hD hS 0 rfl rfl (by decide) f9_11_12 (hts (.fieldLink RX11 102 "IntegerHouse" "tapeLength" "I") (o9_X11_feedOne _ (List.mem_of_getElem? (i := 0) rfl))) rfl pd_2 rfl rfl (k_len (k_set (k_set (k_set e0)))) dX11_feedOne_44 (fun H locs hP hD hS => ?_)
  have hP : va_P D vwCl [(h0, .inr (11, ((((f0.set 12 (.int 1)).set 12 (.int 2)).set 12 (.int 3)).set 12 (.int 4)))), (h1, .inl (cB, 2000, .inl (upd (upd (upd (upd g0 0 (vp_nar .byte (Int8.toInt32 (Int32.toInt8 (x0 >>> (24 &&& 31)))))) 1 (vp_nar .byte (Int8.toInt32 (Int32.toInt8 (x0 >>> (16 &&& 31)))))) 2 (vp_nar .byte (Int8.toInt32 (Int32.toInt8 (x0 >>> (8 &&& 31)))))) 3 (vp_nar .byte (Int8.toInt32 (Int32.toInt8 (x0 >>> (0 &&& 31))))))))] H := hP
  have hD : va_D A [(h0, .inr (11, ((((f0.set 12 (.int 1)).set 12 (.int 2)).set 12 (.int 3)).set 12 (.int 4)))), (h1, .inl (cB, 2000, .inl (upd (upd (upd (upd g0 0 (vp_nar .byte (Int8.toInt32 (Int32.toInt8 (x0 >>> (24 &&& 31)))))) 1 (vp_nar .byte (Int8.toInt32 (Int32.toInt8 (x0 >>> (16 &&& 31)))))) 2 (vp_nar .byte (Int8.toInt32 (Int32.toInt8 (x0 >>> (8 &&& 31)))))) 3 (vp_nar .byte (Int8.toInt32 (Int32.toInt8 (x0 >>> (0 &&& 31))))))))] := hD
  refine lv_iinc (v := (-8)) (lv' := [(2, .int (-8)), (0, .ref h0), (1, .int x0)]) hx hb dX11_feedOne_47 hl (k := 0) rfl (by decide) (by decide) rfl (fun ls hl => ?_)
  refine lv_goto (tgt := 3) hx hb dX11_feedOne_50 (by decide) ?_
  refine lv_iload_n hx hb dX11_feedOne_3 rfl (lv_at hl 0 rfl) ?_
  refine lv_if_lt (tgt := 53) hx hb dX11_feedOne_4 (by decide) (fun _ => ?_) (fun c9 => absurd (by decide) c9)
  exact W.vret hx hb hr (fun t ht hW => ⟨⟨(), rfl, trivial, kB_mk ht hW hP hK hD⟩, hS.F ht⟩) hS.2.2 dX11_feedOne_53
set_option maxHeartbeats 400000000 in
set_option maxRecDepth 100000 in
theorem c_X11_feedOne_1 (l : Launch) (E : kE) (D : va_G) (cI cJ cB cZ : ClassId) (h0 : Nat) (x0 : Int32) (f0 : List Value) (h1 : Nat) (g0 : Nat → Int32) (e0 : f0[12]? = some (.int 4)) (e1 : f0[0]? = some (.ref h1)) : kV l E D (kT cI cJ cB cZ) yX11_feedOne vW_X11_feedOne ({ frames := 0, cells := 0, slots := 0, locals := 0 }) [.ref h0, .int x0] [(h0, .inr (11, f0)), (h1, .inl (cB, 2000, .inl g0))] (fun _ : Unit => [(h0, .inr (11, ((((f0.set 12 (.int 5)).set 12 (.int 6)).set 12 (.int 7)).set 12 (.int 8)))), (h1, .inl (cB, 2000, .inl (upd (upd (upd (upd g0 4 (vp_nar .byte (Int8.toInt32 (Int32.toInt8 (x0 >>> (24 &&& 31)))))) 5 (vp_nar .byte (Int8.toInt32 (Int32.toInt8 (x0 >>> (16 &&& 31)))))) 6 (vp_nar .byte (Int8.toInt32 (Int32.toInt8 (x0 >>> (8 &&& 31)))))) 7 (vp_nar .byte (Int8.toInt32 (Int32.toInt8 (x0 >>> (0 &&& 31))))))))]) 0 0 := by
  intro sz
  refine Met.ofW (cc := cX11_feedOne) (maxL := 3) (ret := none) (by decide) rfl ?_
  intro p e s m args below meth c s₁ B hml hv
  obtain ⟨rfl, hsz, hP, hK, hD0, hN, hX⟩ := hv
  have hx := B.exec
  have hb := B.bytes
  have hr := B.returns
  have hts := atoms_spec (ws := vW_X11_feedOne) B.pre
  have hown : s.vm.findClass RX11 = some m.cls := findClass_of_methodNamed B.named
  have hlocks := B.notSynchronized
  have hin11 : ∀ w ∈ wsX110, w ∈ vW_X11_feedOne := u9_X11_feedOne_wsX110
  subst hsz
  have hD := hD0.self (sz := s.heap.size)
  have hAE := k_AE hD0 hX
  generalize hAe : va_A [(h0, .inr (11, f0)), (h1, .inl (cB, 2000, .inl g0))] s.heap.size = A at hD hAE ⊢
  have hA : ∀ q : Nat, s.heap.size ≤ q → A q := fun q h => by rw [← hAe]; exact Or.inr h
  have hS : va_S A s.heap s.heap [] := va_S.rf
  have hP : va_P D vwCl [(h0, .inr (11, f0)), (h1, .inl (cB, 2000, .inl g0))] s.heap := hP
  have hl := lv_entry ([.ref h0, .int x0] : List Value) (n := 3) (Nat.le_of_ble_eq_true rfl)
  rw [lg_entry_eq]
  generalize (lg_sl ([.ref h0, .int x0]) ++ List.replicate (3 - (lg_sl ([.ref h0, .int x0])).length) Slot.unset).toArray = ls at hl ⊢
  have hl : lv_has ls 3 [(0, .ref h0), (1, .int x0)] := hl
  refine lv_bipush (v := 24) hx hb dX11_feedOne_0 (by decide) ?_
  refine lv_istore_n (lv' := [(2, .int 24), (0, .ref h0), (1, .int x0)]) hx hb dX11_feedOne_2 rfl hl (by decide) rfl (fun ls hl => ?_)
  refine lv_iload_n hx hb dX11_feedOne_3 rfl (lv_at hl 0 rfl) ?_
  refine lv_if_lt (tgt := 53) hx hb dX11_feedOne_4 (by decide) (fun c9 => absurd c9 (by decide)) (fun _ => ?_)
  refine lv_aload_n hx hb dX11_feedOne_7 rfl (lv_at hl 1 rfl) ?_
  refine k_get (D := D) (ci := 11) (v := .int 4) (N := 15) hx hb hts hin11 hown hK hP 0 rfl rfl (by decide) f9_11_12 (hts (.fieldLink RX11 102 "IntegerHouse" "tapeLength" "I") (o9_X11_feedOne _ (List.mem_of_getElem? (i := 0) rfl))) e0 dX11_feedOne_8 ?_
  refine lv_if_lt (tgt := 47) hx hb dX11_feedOne_11 (by decide) (fun c9 => absurd c9 (by decide)) (fun _ => ?_)
  refine lv_aload_n hx hb dX11_feedOne_14 rfl (lv_at hl 1 rfl) ?_
  refine k_get (D := D) (ci := 11) (v := .int 4) (N := 15) hx hb hts hin11 hown hK hP 0 rfl rfl (by decide) f9_11_12 (hts (.fieldLink RX11 102 "IntegerHouse" "tapeLength" "I") (o9_X11_feedOne _ (List.mem_of_getElem? (i := 0) rfl))) e0 dX11_feedOne_15 ?_
  refine lv_sipush (v := 2000) hx hb dX11_feedOne_18 (by decide) ?_
  refine lv_icmp_ge (tgt := 47) hx hb dX11_feedOne_21 (by decide) (fun c9 => absurd c9 (by decide)) (fun _ => ?_)
  refine lv_aload_n hx hb dX11_feedOne_24 rfl (lv_at hl 1 rfl) ?_
  refine k_get (D := D) (ci := 11) (v := .ref h1) (N := 15) hx hb hts hin11 hown hK hP 0 rfl rfl (by decide) f9_11_0 (hts (.fieldLink RX11 9 "IntegerHouse" "tape" "[B") (o9_X11_feedOne _ (List.mem_of_getElem? (i := 1) rfl))) e1 dX11_feedOne_25 ?_
  refine lv_aload_n hx hb dX11_feedOne_28 rfl (lv_at hl 1 rfl) ?_
  refine k_get (D := D) (ci := 11) (v := .int 4) (N := 15) hx hb hts hin11 hown hK hP 0 rfl rfl (by decide) f9_11_12 (hts (.fieldLink RX11 102 "IntegerHouse" "tapeLength" "I") (o9_X11_feedOne _ (List.mem_of_getElem? (i := 0) rfl))) e0 dX11_feedOne_29 ?_
  refine lv_iload_n hx hb dX11_feedOne_32 rfl (lv_at hl 2 rfl) ?_
  refine lv_iload_n hx hb dX11_feedOne_33 rfl (lv_at hl 0 rfl) ?_
  refine lv_ishr hx hb dX11_feedOne_34 ?_
  refine lv_i2b (v := (Int8.toInt32 (Int32.toInt8 (x0 >>> (24 &&& 31))))) hx hb dX11_feedOne_35 rfl ?_
  refine va_bast hx hb hK hP hD hS 1 2 rfl rfl (k_in (by decide)) dX11_feedOne_36 (fun H locs hP hD hS => ?_)
  have hP : va_P D vwCl [(h0, .inr (11, f0)), (h1, .inl (cB, 2000, .inl (upd g0 4 (vp_nar .byte (Int8.toInt32 (Int32.toInt8 (x0 >>> (24 &&& 31))))))))] H := hP
  have hD : va_D A [(h0, .inr (11, f0)), (h1, .inl (cB, 2000, .inl (upd g0 4 (vp_nar .byte (Int8.toInt32 (Int32.toInt8 (x0 >>> (24 &&& 31))))))))] := hD
  refine lv_aload_n hx hb dX11_feedOne_37 rfl (lv_at hl 1 rfl) ?_
  refine lv_dup hx hb dX11_feedOne_38 rfl ?_
  refine k_get (D := D) (ci := 11) (v := .int 4) (N := 15) hx hb hts hin11 hown hK hP 0 rfl rfl (by decide) f9_11_12 (hts (.fieldLink RX11 102 "IntegerHouse" "tapeLength" "I") (o9_X11_feedOne _ (List.mem_of_getElem? (i := 0) rfl))) e0 dX11_feedOne_39 ?_
  refine lv_iconst (v := 1) hx hb dX11_feedOne_42 (by decide) ?_
  refine lv_iadd hx hb dX11_feedOne_43 ?_
  refine k_topi (y := 5) (by decide) ?_
  refine k_put (D := D) (ci := 11) (v := .int 5) (ty := .int) (N := 15) hx hb hts hin11 tyX11 tyX11_ok nmX11 hown hK hP hD hS 0 rfl rfl (by decide) f9_11_12 (hts (.fieldLink RX11 102 "IntegerHouse" "tapeLength" "I") (o9_X11_feedOne _ (List.mem_of_getElem? (i := 0) rfl))) rfl pd_2 rfl rfl (k_len e0) dX11_feedOne_44 (fun H locs hP hD hS => ?_)
  have hP : va_P D vwCl [(h0, .inr (11, (f0.set 12 (.int 5)))), (h1, .inl (cB, 2000, .inl (upd g0 4 (vp_nar .byte (Int8.toInt32 (Int32.toInt8 (x0 >>> (24 &&& 31))))))))] H := hP
  have hD : va_D A [(h0, .inr (11, (f0.set 12 (.int 5)))), (h1, .inl (cB, 2000, .inl (upd g0 4 (vp_nar .byte (Int8.toInt32 (Int32.toInt8 (x0 >>> (24 &&& 31))))))))] := hD
  refine lv_iinc (v := 16) (lv' := [(2, .int 16), (0, .ref h0), (1, .int x0)]) hx hb dX11_feedOne_47 hl (k := 0) rfl (by decide) (by decide) rfl (fun ls hl => ?_)
  refine lv_goto (tgt := 3) hx hb dX11_feedOne_50 (by decide) ?_
  refine lv_iload_n hx hb dX11_feedOne_3 rfl (lv_at hl 0 rfl) ?_
  refine lv_if_lt (tgt := 53) hx hb dX11_feedOne_4 (by decide) (fun c9 => absurd c9 (by decide)) (fun _ => ?_)
  refine lv_aload_n hx hb dX11_feedOne_7 rfl (lv_at hl 1 rfl) ?_
  refine k_get (D := D) (ci := 11) (v := .int 5) (N := 15) hx hb hts hin11 hown hK hP 0 rfl rfl (by decide) f9_11_12 (hts (.fieldLink RX11 102 "IntegerHouse" "tapeLength" "I") (o9_X11_feedOne _ (List.mem_of_getElem? (i := 0) rfl))) (k_set e0) dX11_feedOne_8 ?_
  refine lv_if_lt (tgt := 47) hx hb dX11_feedOne_11 (by decide) (fun c9 => absurd c9 (by decide)) (fun _ => ?_)
  refine lv_aload_n hx hb dX11_feedOne_14 rfl (lv_at hl 1 rfl) ?_
  refine k_get (D := D) (ci := 11) (v := .int 5) (N := 15) hx hb hts hin11 hown hK hP 0 rfl rfl (by decide) f9_11_12 (hts (.fieldLink RX11 102 "IntegerHouse" "tapeLength" "I") (o9_X11_feedOne _ (List.mem_of_getElem? (i := 0) rfl))) (k_set e0) dX11_feedOne_15 ?_
  refine lv_sipush (v := 2000) hx hb dX11_feedOne_18 (by decide) ?_
  refine lv_icmp_ge (tgt := 47) hx hb dX11_feedOne_21 (by decide) (fun c9 => absurd c9 (by decide)) (fun _ => ?_)
  refine lv_aload_n hx hb dX11_feedOne_24 rfl (lv_at hl 1 rfl) ?_
  refine k_get (D := D) (ci := 11) (v := .ref h1) (N := 15) hx hb hts hin11 hown hK hP 0 rfl rfl (by decide) f9_11_0 (hts (.fieldLink RX11 9 "IntegerHouse" "tape" "[B") (o9_X11_feedOne _ (List.mem_of_getElem? (i := 1) rfl))) (k_ne (by decide) e1) dX11_feedOne_25 ?_
  refine lv_aload_n hx hb dX11_feedOne_28 rfl (lv_at hl 1 rfl) ?_
  refine k_get (D := D) (ci := 11) (v := .int 5) (N := 15) hx hb hts hin11 hown hK hP 0 rfl rfl (by decide) f9_11_12 (hts (.fieldLink RX11 102 "IntegerHouse" "tapeLength" "I") (o9_X11_feedOne _ (List.mem_of_getElem? (i := 0) rfl))) (k_set e0) dX11_feedOne_29 ?_
  refine lv_iload_n hx hb dX11_feedOne_32 rfl (lv_at hl 2 rfl) ?_
  refine lv_iload_n hx hb dX11_feedOne_33 rfl (lv_at hl 0 rfl) ?_
  refine lv_ishr hx hb dX11_feedOne_34 ?_
  refine lv_i2b (v := (Int8.toInt32 (Int32.toInt8 (x0 >>> (16 &&& 31))))) hx hb dX11_feedOne_35 rfl ?_
  refine va_bast hx hb hK hP hD hS 1 2 rfl rfl (k_in (by decide)) dX11_feedOne_36 (fun H locs hP hD hS => ?_)
  have hP : va_P D vwCl [(h0, .inr (11, (f0.set 12 (.int 5)))), (h1, .inl (cB, 2000, .inl (upd (upd g0 4 (vp_nar .byte (Int8.toInt32 (Int32.toInt8 (x0 >>> (24 &&& 31)))))) 5 (vp_nar .byte (Int8.toInt32 (Int32.toInt8 (x0 >>> (16 &&& 31))))))))] H := hP
  have hD : va_D A [(h0, .inr (11, (f0.set 12 (.int 5)))), (h1, .inl (cB, 2000, .inl (upd (upd g0 4 (vp_nar .byte (Int8.toInt32 (Int32.toInt8 (x0 >>> (24 &&& 31)))))) 5 (vp_nar .byte (Int8.toInt32 (Int32.toInt8 (x0 >>> (16 &&& 31))))))))] := hD
  refine lv_aload_n hx hb dX11_feedOne_37 rfl (lv_at hl 1 rfl) ?_
  refine lv_dup hx hb dX11_feedOne_38 rfl ?_
  refine k_get (D := D) (ci := 11) (v := .int 5) (N := 15) hx hb hts hin11 hown hK hP 0 rfl rfl (by decide) f9_11_12 (hts (.fieldLink RX11 102 "IntegerHouse" "tapeLength" "I") (o9_X11_feedOne _ (List.mem_of_getElem? (i := 0) rfl))) (k_set e0) dX11_feedOne_39 ?_
  refine lv_iconst (v := 1) hx hb dX11_feedOne_42 (by decide) ?_
  refine lv_iadd hx hb dX11_feedOne_43 ?_
  refine k_topi (y := 6) (by decide) ?_
  refine k_put (D := D) (ci := 11) (v := .int 6) (ty := .int) (N := 15) hx hb hts hin11 tyX11 tyX11_ok nmX11 hown hK hP hD hS 0 rfl rfl (by decide) f9_11_12 (hts (.fieldLink RX11 102 "IntegerHouse" "tapeLength" "I") (o9_X11_feedOne _ (List.mem_of_getElem? (i := 0) rfl))) rfl pd_2 rfl rfl (k_len (k_set e0)) dX11_feedOne_44 (fun H locs hP hD hS => ?_)
  have hP : va_P D vwCl [(h0, .inr (11, ((f0.set 12 (.int 5)).set 12 (.int 6)))), (h1, .inl (cB, 2000, .inl (upd (upd g0 4 (vp_nar .byte (Int8.toInt32 (Int32.toInt8 (x0 >>> (24 &&& 31)))))) 5 (vp_nar .byte (Int8.toInt32 (Int32.toInt8 (x0 >>> (16 &&& 31))))))))] H := hP
  have hD : va_D A [(h0, .inr (11, ((f0.set 12 (.int 5)).set 12 (.int 6)))), (h1, .inl (cB, 2000, .inl (upd (upd g0 4 (vp_nar .byte (Int8.toInt32 (Int32.toInt8 (x0 >>> (24 &&& 31)))))) 5 (vp_nar .byte (Int8.toInt32 (Int32.toInt8 (x0 >>> (16 &&& 31))))))))] := hD
  refine lv_iinc (v := 8) (lv' := [(2, .int 8), (0, .ref h0), (1, .int x0)]) hx hb dX11_feedOne_47 hl (k := 0) rfl (by decide) (by decide) rfl (fun ls hl => ?_)
  refine lv_goto (tgt := 3) hx hb dX11_feedOne_50 (by decide) ?_
  refine lv_iload_n hx hb dX11_feedOne_3 rfl (lv_at hl 0 rfl) ?_
  refine lv_if_lt (tgt := 53) hx hb dX11_feedOne_4 (by decide) (fun c9 => absurd c9 (by decide)) (fun _ => ?_)
  refine lv_aload_n hx hb dX11_feedOne_7 rfl (lv_at hl 1 rfl) ?_
  refine k_get (D := D) (ci := 11) (v := .int 6) (N := 15) hx hb hts hin11 hown hK hP 0 rfl rfl (by decide) f9_11_12 (hts (.fieldLink RX11 102 "IntegerHouse" "tapeLength" "I") (o9_X11_feedOne _ (List.mem_of_getElem? (i := 0) rfl))) (k_set (k_set e0)) dX11_feedOne_8 ?_
  refine lv_if_lt (tgt := 47) hx hb dX11_feedOne_11 (by decide) (fun c9 => absurd c9 (by decide)) (fun _ => ?_)
  refine lv_aload_n hx hb dX11_feedOne_14 rfl (lv_at hl 1 rfl) ?_
  refine k_get (D := D) (ci := 11) (v := .int 6) (N := 15) hx hb hts hin11 hown hK hP 0 rfl rfl (by decide) f9_11_12 (hts (.fieldLink RX11 102 "IntegerHouse" "tapeLength" "I") (o9_X11_feedOne _ (List.mem_of_getElem? (i := 0) rfl))) (k_set (k_set e0)) dX11_feedOne_15 ?_
  refine lv_sipush (v := 2000) hx hb dX11_feedOne_18 (by decide) ?_
  refine lv_icmp_ge (tgt := 47) hx hb dX11_feedOne_21 (by decide) (fun c9 => absurd c9 (by decide)) (fun _ => ?_)
  refine lv_aload_n hx hb dX11_feedOne_24 rfl (lv_at hl 1 rfl) ?_
  refine k_get (D := D) (ci := 11) (v := .ref h1) (N := 15) hx hb hts hin11 hown hK hP 0 rfl rfl (by decide) f9_11_0 (hts (.fieldLink RX11 9 "IntegerHouse" "tape" "[B") (o9_X11_feedOne _ (List.mem_of_getElem? (i := 1) rfl))) (k_ne (by decide) (k_ne (by decide) e1)) dX11_feedOne_25 ?_
  refine lv_aload_n hx hb dX11_feedOne_28 rfl (lv_at hl 1 rfl) ?_
  refine k_get (D := D) (ci := 11) (v := .int 6) (N := 15) hx hb hts hin11 hown hK hP 0 rfl rfl (by decide) f9_11_12 (hts (.fieldLink RX11 102 "IntegerHouse" "tapeLength" "I") (o9_X11_feedOne _ (List.mem_of_getElem? (i := 0) rfl))) (k_set (k_set e0)) dX11_feedOne_29 ?_
  refine lv_iload_n hx hb dX11_feedOne_32 rfl (lv_at hl 2 rfl) ?_
  refine lv_iload_n hx hb dX11_feedOne_33 rfl (lv_at hl 0 rfl) ?_
  refine lv_ishr hx hb dX11_feedOne_34 ?_
  refine lv_i2b (v := (Int8.toInt32 (Int32.toInt8 (x0 >>> (8 &&& 31))))) hx hb dX11_feedOne_35 rfl ?_
  refine va_bast hx hb hK hP hD hS 1 2 rfl rfl (k_in (by decide)) dX11_feedOne_36 (fun H locs hP hD hS => ?_)
  have hP : va_P D vwCl [(h0, .inr (11, ((f0.set 12 (.int 5)).set 12 (.int 6)))), (h1, .inl (cB, 2000, .inl (upd (upd (upd g0 4 (vp_nar .byte (Int8.toInt32 (Int32.toInt8 (x0 >>> (24 &&& 31)))))) 5 (vp_nar .byte (Int8.toInt32 (Int32.toInt8 (x0 >>> (16 &&& 31)))))) 6 (vp_nar .byte (Int8.toInt32 (Int32.toInt8 (x0 >>> (8 &&& 31))))))))] H := hP
  have hD : va_D A [(h0, .inr (11, ((f0.set 12 (.int 5)).set 12 (.int 6)))), (h1, .inl (cB, 2000, .inl (upd (upd (upd g0 4 (vp_nar .byte (Int8.toInt32 (Int32.toInt8 (x0 >>> (24 &&& 31)))))) 5 (vp_nar .byte (Int8.toInt32 (Int32.toInt8 (x0 >>> (16 &&& 31)))))) 6 (vp_nar .byte (Int8.toInt32 (Int32.toInt8 (x0 >>> (8 &&& 31))))))))] := hD
  refine lv_aload_n hx hb dX11_feedOne_37 rfl (lv_at hl 1 rfl) ?_
  refine lv_dup hx hb dX11_feedOne_38 rfl ?_
  refine k_get (D := D) (ci := 11) (v := .int 6) (N := 15) hx hb hts hin11 hown hK hP 0 rfl rfl (by decide) f9_11_12 (hts (.fieldLink RX11 102 "IntegerHouse" "tapeLength" "I") (o9_X11_feedOne _ (List.mem_of_getElem? (i := 0) rfl))) (k_set (k_set e0)) dX11_feedOne_39 ?_
  refine lv_iconst (v := 1) hx hb dX11_feedOne_42 (by decide) ?_
  refine lv_iadd hx hb dX11_feedOne_43 ?_
  refine k_topi (y := 7) (by decide) ?_
  refine k_put (D := D) (ci := 11) (v := .int 7) (ty := .int) (N := 15) hx hb hts hin11 tyX11 tyX11_ok nmX11 hown hK hP hD hS 0 rfl rfl (by decide) f9_11_12 (hts (.fieldLink RX11 102 "IntegerHouse" "tapeLength" "I") (o9_X11_feedOne _ (List.mem_of_getElem? (i := 0) rfl))) rfl pd_2 rfl rfl (k_len (k_set (k_set e0))) dX11_feedOne_44 (fun H locs hP hD hS => ?_)
  have hP : va_P D vwCl [(h0, .inr (11, (((f0.set 12 (.int 5)).set 12 (.int 6)).set 12 (.int 7)))), (h1, .inl (cB, 2000, .inl (upd (upd (upd g0 4 (vp_nar .byte (Int8.toInt32 (Int32.toInt8 (x0 >>> (24 &&& 31)))))) 5 (vp_nar .byte (Int8.toInt32 (Int32.toInt8 (x0 >>> (16 &&& 31)))))) 6 (vp_nar .byte (Int8.toInt32 (Int32.toInt8 (x0 >>> (8 &&& 31))))))))] H := hP
  have hD : va_D A [(h0, .inr (11, (((f0.set 12 (.int 5)).set 12 (.int 6)).set 12 (.int 7)))), (h1, .inl (cB, 2000, .inl (upd (upd (upd g0 4 (vp_nar .byte (Int8.toInt32 (Int32.toInt8 (x0 >>> (24 &&& 31)))))) 5 (vp_nar .byte (Int8.toInt32 (Int32.toInt8 (x0 >>> (16 &&& 31)))))) 6 (vp_nar .byte (Int8.toInt32 (Int32.toInt8 (x0 >>> (8 &&& 31))))))))] := hD
  refine lv_iinc (v := 0) (lv' := [(2, .int 0), (0, .ref h0), (1, .int x0)]) hx hb dX11_feedOne_47 hl (k := 0) rfl (by decide) (by decide) rfl (fun ls hl => ?_)
  refine lv_goto (tgt := 3) hx hb dX11_feedOne_50 (by decide) ?_
  refine lv_iload_n hx hb dX11_feedOne_3 rfl (lv_at hl 0 rfl) ?_
  refine lv_if_lt (tgt := 53) hx hb dX11_feedOne_4 (by decide) (fun c9 => absurd c9 (by decide)) (fun _ => ?_)
  refine lv_aload_n hx hb dX11_feedOne_7 rfl (lv_at hl 1 rfl) ?_
  refine k_get (D := D) (ci := 11) (v := .int 7) (N := 15) hx hb hts hin11 hown hK hP 0 rfl rfl (by decide) f9_11_12 (hts (.fieldLink RX11 102 "IntegerHouse" "tapeLength" "I") (o9_X11_feedOne _ (List.mem_of_getElem? (i := 0) rfl))) (k_set (k_set (k_set e0))) dX11_feedOne_8 ?_
  refine lv_if_lt (tgt := 47) hx hb dX11_feedOne_11 (by decide) (fun c9 => absurd c9 (by decide)) (fun _ => ?_)
  refine lv_aload_n hx hb dX11_feedOne_14 rfl (lv_at hl 1 rfl) ?_
  refine k_get (D := D) (ci := 11) (v := .int 7) (N := 15) hx hb hts hin11 hown hK hP 0 rfl rfl (by decide) f9_11_12 (hts (.fieldLink RX11 102 "IntegerHouse" "tapeLength" "I") (o9_X11_feedOne _ (List.mem_of_getElem? (i := 0) rfl))) (k_set (k_set (k_set e0))) dX11_feedOne_15 ?_
  refine lv_sipush (v := 2000) hx hb dX11_feedOne_18 (by decide) ?_
  refine lv_icmp_ge (tgt := 47) hx hb dX11_feedOne_21 (by decide) (fun c9 => absurd c9 (by decide)) (fun _ => ?_)
  refine lv_aload_n hx hb dX11_feedOne_24 rfl (lv_at hl 1 rfl) ?_
  refine k_get (D := D) (ci := 11) (v := .ref h1) (N := 15) hx hb hts hin11 hown hK hP 0 rfl rfl (by decide) f9_11_0 (hts (.fieldLink RX11 9 "IntegerHouse" "tape" "[B") (o9_X11_feedOne _ (List.mem_of_getElem? (i := 1) rfl))) (k_ne (by decide) (k_ne (by decide) (k_ne (by decide) e1))) dX11_feedOne_25 ?_
  refine lv_aload_n hx hb dX11_feedOne_28 rfl (lv_at hl 1 rfl) ?_
  refine k_get (D := D) (ci := 11) (v := .int 7) (N := 15) hx hb hts hin11 hown hK hP 0 rfl rfl (by decide) f9_11_12 (hts (.fieldLink RX11 102 "IntegerHouse" "tapeLength" "I") (o9_X11_feedOne _ (List.mem_of_getElem? (i := 0) rfl))) (k_set (k_set (k_set e0))) dX11_feedOne_29 ?_
  refine lv_iload_n hx hb dX11_feedOne_32 rfl (lv_at hl 2 rfl) ?_
  refine lv_iload_n hx hb dX11_feedOne_33 rfl (lv_at hl 0 rfl) ?_
  refine lv_ishr hx hb dX11_feedOne_34 ?_
  refine lv_i2b (v := (Int8.toInt32 (Int32.toInt8 (x0 >>> (0 &&& 31))))) hx hb dX11_feedOne_35 rfl ?_
  refine va_bast hx hb hK hP hD hS 1 2 rfl rfl (k_in (by decide)) dX11_feedOne_36 (fun H locs hP hD hS => ?_)
  have hP : va_P D vwCl [(h0, .inr (11, (((f0.set 12 (.int 5)).set 12 (.int 6)).set 12 (.int 7)))), (h1, .inl (cB, 2000, .inl (upd (upd (upd (upd g0 4 (vp_nar .byte (Int8.toInt32 (Int32.toInt8 (x0 >>> (24 &&& 31)))))) 5 (vp_nar .byte (Int8.toInt32 (Int32.toInt8 (x0 >>> (16 &&& 31)))))) 6 (vp_nar .byte (Int8.toInt32 (Int32.toInt8 (x0 >>> (8 &&& 31)))))) 7 (vp_nar .byte (Int8.toInt32 (Int32.toInt8 (x0 >>> (0 &&& 31))))))))] H := hP
  have hD : va_D A [(h0, .inr (11, (((f0.set 12 (.int 5)).set 12 (.int 6)).set 12 (.int 7)))), (h1, .inl (cB, 2000, .inl (upd (upd (upd (upd g0 4 (vp_nar .byte (Int8.toInt32 (Int32.toInt8 (x0 >>> (24 &&& 31)))))) 5 (vp_nar .byte (Int8.toInt32 (Int32.toInt8 (x0 >>> (16 &&& 31)))))) 6 (vp_nar .byte (Int8.toInt32 (Int32.toInt8 (x0 >>> (8 &&& 31)))))) 7 (vp_nar .byte (Int8.toInt32 (Int32.toInt8 (x0 >>> (0 &&& 31))))))))] := hD
  refine lv_aload_n hx hb dX11_feedOne_37 rfl (lv_at hl 1 rfl) ?_
  refine lv_dup hx hb dX11_feedOne_38 rfl ?_
  refine k_get (D := D) (ci := 11) (v := .int 7) (N := 15) hx hb hts hin11 hown hK hP 0 rfl rfl (by decide) f9_11_12 (hts (.fieldLink RX11 102 "IntegerHouse" "tapeLength" "I") (o9_X11_feedOne _ (List.mem_of_getElem? (i := 0) rfl))) (k_set (k_set (k_set e0))) dX11_feedOne_39 ?_
  refine lv_iconst (v := 1) hx hb dX11_feedOne_42 (by decide) ?_
  refine lv_iadd hx hb dX11_feedOne_43 ?_
  refine k_topi (y := 8) (by decide) ?_
  refine k_put (D := D) (ci := 11) (v := .int 8) (ty := .int) (N := 15) hx hb hts hin11 tyX11 tyX11_ok nmX11 hown hK hP hD hS 0 rfl rfl (by decide) f9_11_12 (hts (.fieldLink RX11 102 "IntegerHouse" "tapeLength" "I") (o9_X11_feedOne _ (List.mem_of_getElem? (i := 0) rfl))) rfl pd_2 rfl rfl (k_len (k_set (k_set (k_set e0)))) dX11_feedOne_44 (fun H locs hP hD hS => ?_)
  have hP : va_P D vwCl [(h0, .inr (11, ((((f0.set 12 (.int 5)).set 12 (.int 6)).set 12 (.int 7)).set 12 (.int 8)))), (h1, .inl (cB, 2000, .inl (upd (upd (upd (upd g0 4 (vp_nar .byte (Int8.toInt32 (Int32.toInt8 (x0 >>> (24 &&& 31)))))) 5 (vp_nar .byte (Int8.toInt32 (Int32.toInt8 (x0 >>> (16 &&& 31)))))) 6 (vp_nar .byte (Int8.toInt32 (Int32.toInt8 (x0 >>> (8 &&& 31)))))) 7 (vp_nar .byte (Int8.toInt32 (Int32.toInt8 (x0 >>> (0 &&& 31))))))))] H := hP
  have hD : va_D A [(h0, .inr (11, ((((f0.set 12 (.int 5)).set 12 (.int 6)).set 12 (.int 7)).set 12 (.int 8)))), (h1, .inl (cB, 2000, .inl (upd (upd (upd (upd g0 4 (vp_nar .byte (Int8.toInt32 (Int32.toInt8 (x0 >>> (24 &&& 31)))))) 5 (vp_nar .byte (Int8.toInt32 (Int32.toInt8 (x0 >>> (16 &&& 31)))))) 6 (vp_nar .byte (Int8.toInt32 (Int32.toInt8 (x0 >>> (8 &&& 31)))))) 7 (vp_nar .byte (Int8.toInt32 (Int32.toInt8 (x0 >>> (0 &&& 31))))))))] := hD
  refine lv_iinc (v := (-8)) (lv' := [(2, .int (-8)), (0, .ref h0), (1, .int x0)]) hx hb dX11_feedOne_47 hl (k := 0) rfl (by decide) (by decide) rfl (fun ls hl => ?_)
  refine lv_goto (tgt := 3) hx hb dX11_feedOne_50 (by decide) ?_
  refine lv_iload_n hx hb dX11_feedOne_3 rfl (lv_at hl 0 rfl) ?_
  refine lv_if_lt (tgt := 53) hx hb dX11_feedOne_4 (by decide) (fun _ => ?_) (fun c9 => absurd (by decide) c9)
  exact W.vret hx hb hr (fun t ht hW => ⟨⟨(), rfl, trivial, kB_mk ht hW hP hK hD⟩, hS.F ht⟩) hS.2.2 dX11_feedOne_53
set_option maxHeartbeats 400000000 in
set_option maxRecDepth 100000 in
theorem c_X11_feedOne_2 (l : Launch) (E : kE) (D : va_G) (cI cJ cB cZ : ClassId) (h0 : Nat) (x0 : Int32) (f0 : List Value) (h1 : Nat) (g0 : Nat → Int32) (e0 : f0[12]? = some (.int 8)) (e1 : f0[0]? = some (.ref h1)) : kV l E D (kT cI cJ cB cZ) yX11_feedOne vW_X11_feedOne ({ frames := 0, cells := 0, slots := 0, locals := 0 }) [.ref h0, .int x0] [(h0, .inr (11, f0)), (h1, .inl (cB, 2000, .inl g0))] (fun _ : Unit => [(h0, .inr (11, ((((f0.set 12 (.int 9)).set 12 (.int 10)).set 12 (.int 11)).set 12 (.int 12)))), (h1, .inl (cB, 2000, .inl (upd (upd (upd (upd g0 8 (vp_nar .byte (Int8.toInt32 (Int32.toInt8 (x0 >>> (24 &&& 31)))))) 9 (vp_nar .byte (Int8.toInt32 (Int32.toInt8 (x0 >>> (16 &&& 31)))))) 10 (vp_nar .byte (Int8.toInt32 (Int32.toInt8 (x0 >>> (8 &&& 31)))))) 11 (vp_nar .byte (Int8.toInt32 (Int32.toInt8 (x0 >>> (0 &&& 31))))))))]) 0 0 := by
  intro sz
  refine Met.ofW (cc := cX11_feedOne) (maxL := 3) (ret := none) (by decide) rfl ?_
  intro p e s m args below meth c s₁ B hml hv
  obtain ⟨rfl, hsz, hP, hK, hD0, hN, hX⟩ := hv
  have hx := B.exec
  have hb := B.bytes
  have hr := B.returns
  have hts := atoms_spec (ws := vW_X11_feedOne) B.pre
  have hown : s.vm.findClass RX11 = some m.cls := findClass_of_methodNamed B.named
  have hlocks := B.notSynchronized
  have hin11 : ∀ w ∈ wsX110, w ∈ vW_X11_feedOne := u9_X11_feedOne_wsX110
  subst hsz
  have hD := hD0.self (sz := s.heap.size)
  have hAE := k_AE hD0 hX
  generalize hAe : va_A [(h0, .inr (11, f0)), (h1, .inl (cB, 2000, .inl g0))] s.heap.size = A at hD hAE ⊢
  have hA : ∀ q : Nat, s.heap.size ≤ q → A q := fun q h => by rw [← hAe]; exact Or.inr h
  have hS : va_S A s.heap s.heap [] := va_S.rf
  have hP : va_P D vwCl [(h0, .inr (11, f0)), (h1, .inl (cB, 2000, .inl g0))] s.heap := hP
  have hl := lv_entry ([.ref h0, .int x0] : List Value) (n := 3) (Nat.le_of_ble_eq_true rfl)
  rw [lg_entry_eq]
  generalize (lg_sl ([.ref h0, .int x0]) ++ List.replicate (3 - (lg_sl ([.ref h0, .int x0])).length) Slot.unset).toArray = ls at hl ⊢
  have hl : lv_has ls 3 [(0, .ref h0), (1, .int x0)] := hl
  refine lv_bipush (v := 24) hx hb dX11_feedOne_0 (by decide) ?_
  refine lv_istore_n (lv' := [(2, .int 24), (0, .ref h0), (1, .int x0)]) hx hb dX11_feedOne_2 rfl hl (by decide) rfl (fun ls hl => ?_)
  refine lv_iload_n hx hb dX11_feedOne_3 rfl (lv_at hl 0 rfl) ?_
  refine lv_if_lt (tgt := 53) hx hb dX11_feedOne_4 (by decide) (fun c9 => absurd c9 (by decide)) (fun _ => ?_)
  refine lv_aload_n hx hb dX11_feedOne_7 rfl (lv_at hl 1 rfl) ?_
  refine k_get (D := D) (ci := 11) (v := .int 8) (N := 15) hx hb hts hin11 hown hK hP 0 rfl rfl (by decide) f9_11_12 (hts (.fieldLink RX11 102 "IntegerHouse" "tapeLength" "I") (o9_X11_feedOne _ (List.mem_of_getElem? (i := 0) rfl))) e0 dX11_feedOne_8 ?_
  refine lv_if_lt (tgt := 47) hx hb dX11_feedOne_11 (by decide) (fun c9 => absurd c9 (by decide)) (fun _ => ?_)
  refine lv_aload_n hx hb dX11_feedOne_14 rfl (lv_at hl 1 rfl) ?_
  refine k_get (D := D) (ci := 11) (v := .int 8) (N := 15) hx hb hts hin11 hown hK hP 0 rfl rfl (by decide) f9_11_12 (hts (.fieldLink RX11 102 "IntegerHouse" "tapeLength" "I") (o9_X11_feedOne _ (List.mem_of_getElem? (i := 0) rfl))) e0 dX11_feedOne_15 ?_
  refine lv_sipush (v := 2000) hx hb dX11_feedOne_18 (by decide) ?_
  refine lv_icmp_ge (tgt := 47) hx hb dX11_feedOne_21 (by decide) (fun c9 => absurd c9 (by decide)) (fun _ => ?_)
  refine lv_aload_n hx hb dX11_feedOne_24 rfl (lv_at hl 1 rfl) ?_
  refine k_get (D := D) (ci := 11) (v := .ref h1) (N := 15) hx hb hts hin11 hown hK hP 0 rfl rfl (by decide) f9_11_0 (hts (.fieldLink RX11 9 "IntegerHouse" "tape" "[B") (o9_X11_feedOne _ (List.mem_of_getElem? (i := 1) rfl))) e1 dX11_feedOne_25 ?_
  refine lv_aload_n hx hb dX11_feedOne_28 rfl (lv_at hl 1 rfl) ?_
  refine k_get (D := D) (ci := 11) (v := .int 8) (N := 15) hx hb hts hin11 hown hK hP 0 rfl rfl (by decide) f9_11_12 (hts (.fieldLink RX11 102 "IntegerHouse" "tapeLength" "I") (o9_X11_feedOne _ (List.mem_of_getElem? (i := 0) rfl))) e0 dX11_feedOne_29 ?_
  refine lv_iload_n hx hb dX11_feedOne_32 rfl (lv_at hl 2 rfl) ?_
  refine lv_iload_n hx hb dX11_feedOne_33 rfl (lv_at hl 0 rfl) ?_
  refine lv_ishr hx hb dX11_feedOne_34 ?_
  refine lv_i2b (v := (Int8.toInt32 (Int32.toInt8 (x0 >>> (24 &&& 31))))) hx hb dX11_feedOne_35 rfl ?_
  refine va_bast hx hb hK hP hD hS 1 2 rfl rfl (k_in (by decide)) dX11_feedOne_36 (fun H locs hP hD hS => ?_)
  have hP : va_P D vwCl [(h0, .inr (11, f0)), (h1, .inl (cB, 2000, .inl (upd g0 8 (vp_nar .byte (Int8.toInt32 (Int32.toInt8 (x0 >>> (24 &&& 31))))))))] H := hP
  have hD : va_D A [(h0, .inr (11, f0)), (h1, .inl (cB, 2000, .inl (upd g0 8 (vp_nar .byte (Int8.toInt32 (Int32.toInt8 (x0 >>> (24 &&& 31))))))))] := hD
  refine lv_aload_n hx hb dX11_feedOne_37 rfl (lv_at hl 1 rfl) ?_
  refine lv_dup hx hb dX11_feedOne_38 rfl ?_
  refine k_get (D := D) (ci := 11) (v := .int 8) (N := 15) hx hb hts hin11 hown hK hP 0 rfl rfl (by decide) f9_11_12 (hts (.fieldLink RX11 102 "IntegerHouse" "tapeLength" "I") (o9_X11_feedOne _ (List.mem_of_getElem? (i := 0) rfl))) e0 dX11_feedOne_39 ?_
  refine lv_iconst (v := 1) hx hb dX11_feedOne_42 (by decide) ?_
  refine lv_iadd hx hb dX11_feedOne_43 ?_
  refine k_topi (y := 9) (by decide) ?_
  refine k_put (D := D) (ci := 11) (v := .int 9) (ty := .int) (N := 15) hx hb hts hin11 tyX11 tyX11_ok nmX11 hown hK hP hD hS 0 rfl rfl (by decide) f9_11_12 (hts (.fieldLink RX11 102 "IntegerHouse" "tapeLength" "I") (o9_X11_feedOne _ (List.mem_of_getElem? (i := 0) rfl))) rfl pd_2 rfl rfl (k_len e0) dX11_feedOne_44 (fun H locs hP hD hS => ?_)
  have hP : va_P D vwCl [(h0, .inr (11, (f0.set 12 (.int 9)))), (h1, .inl (cB, 2000, .inl (upd g0 8 (vp_nar .byte (Int8.toInt32 (Int32.toInt8 (x0 >>> (24 &&& 31))))))))] H := hP
  have hD : va_D A [(h0, .inr (11, (f0.set 12 (.int 9)))), (h1, .inl (cB, 2000, .inl (upd g0 8 (vp_nar .byte (Int8.toInt32 (Int32.toInt8 (x0 >>> (24 &&& 31))))))))] := hD
  refine lv_iinc (v := 16) (lv' := [(2, .int 16), (0, .ref h0), (1, .int x0)]) hx hb dX11_feedOne_47 hl (k := 0) rfl (by decide) (by decide) rfl (fun ls hl => ?_)
  refine lv_goto (tgt := 3) hx hb dX11_feedOne_50 (by decide) ?_
  refine lv_iload_n hx hb dX11_feedOne_3 rfl (lv_at hl 0 rfl) ?_
  refine lv_if_lt (tgt := 53) hx hb dX11_feedOne_4 (by decide) (fun c9 => absurd c9 (by decide)) (fun _ => ?_)
  refine lv_aload_n hx hb dX11_feedOne_7 rfl (lv_at hl 1 rfl) ?_
  refine k_get (D := D) (ci := 11) (v := .int 9) (N := 15) hx hb hts hin11 hown hK hP 0 rfl rfl (by decide) f9_11_12 (hts (.fieldLink RX11 102 "IntegerHouse" "tapeLength" "I") (o9_X11_feedOne _ (List.mem_of_getElem? (i := 0) rfl))) (k_set e0) dX11_feedOne_8 ?_
  refine lv_if_lt (tgt := 47) hx hb dX11_feedOne_11 (by decide) (fun c9 => absurd c9 (by decide)) (fun _ => ?_)
  refine lv_aload_n hx hb dX11_feedOne_14 rfl (lv_at hl 1 rfl) ?_
  refine k_get (D := D) (ci := 11) (v := .int 9) (N := 15) hx hb hts hin11 hown hK hP 0 rfl rfl (by decide) f9_11_12 (hts (.fieldLink RX11 102 "IntegerHouse" "tapeLength" "I") (o9_X11_feedOne _ (List.mem_of_getElem? (i := 0) rfl))) (k_set e0) dX11_feedOne_15 ?_
  refine lv_sipush (v := 2000) hx hb dX11_feedOne_18 (by decide) ?_
  refine lv_icmp_ge (tgt := 47) hx hb dX11_feedOne_21 (by decide) (fun c9 => absurd c9 (by decide)) (fun _ => ?_)
  refine lv_aload_n hx hb dX11_feedOne_24 rfl (lv_at hl 1 rfl) ?_
  refine k_get (D := D) (ci := 11) (v := .ref h1) (N := 15) hx hb hts hin11 hown hK hP 0 rfl rfl (by decide) f9_11_0 (hts (.fieldLink RX11 9 "IntegerHouse" "tape" "[B") (o9_X11_feedOne _ (List.mem_of_getElem? (i := 1) rfl))) (k_ne (by decide) e1) dX11_feedOne_25 ?_
  refine lv_aload_n hx hb dX11_feedOne_28 rfl (lv_at hl 1 rfl) ?_
  refine k_get (D := D) (ci := 11) (v := .int 9) (N := 15) hx hb hts hin11 hown hK hP 0 rfl rfl (by decide) f9_11_12 (hts (.fieldLink RX11 102 "IntegerHouse" "tapeLength" "I") (o9_X11_feedOne _ (List.mem_of_getElem? (i := 0) rfl))) (k_set e0) dX11_feedOne_29 ?_
  refine lv_iload_n hx hb dX11_feedOne_32 rfl (lv_at hl 2 rfl) ?_
  refine lv_iload_n hx hb dX11_feedOne_33 rfl (lv_at hl 0 rfl) ?_
  refine lv_ishr hx hb dX11_feedOne_34 ?_
  refine lv_i2b (v := (Int8.toInt32 (Int32.toInt8 (x0 >>> (16 &&& 31))))) hx hb dX11_feedOne_35 rfl ?_
  refine va_bast hx hb hK hP hD hS 1 2 rfl rfl (k_in (by decide)) dX11_feedOne_36 (fun H locs hP hD hS => ?_)
  have hP : va_P D vwCl [(h0, .inr (11, (f0.set 12 (.int 9)))), (h1, .inl (cB, 2000, .inl (upd (upd g0 8 (vp_nar .byte (Int8.toInt32 (Int32.toInt8 (x0 >>> (24 &&& 31)))))) 9 (vp_nar .byte (Int8.toInt32 (Int32.toInt8 (x0 >>> (16 &&& 31))))))))] H := hP
  have hD : va_D A [(h0, .inr (11, (f0.set 12 (.int 9)))), (h1, .inl (cB, 2000, .inl (upd (upd g0 8 (vp_nar .byte (Int8.toInt32 (Int32.toInt8 (x0 >>> (24 &&& 31)))))) 9 (vp_nar .byte (Int8.toInt32 (Int32.toInt8 (x0 >>> (16 &&& 31))))))))] := hD
  refine lv_aload_n hx hb dX11_feedOne_37 rfl (lv_at hl 1 rfl) ?_
  refine lv_dup hx hb dX11_feedOne_38 rfl ?_
  refine k_get (D := D) (ci := 11) (v := .int 9) (N := 15) hx hb hts hin11 hown hK hP 0 rfl rfl (by decide) f9_11_12 (hts (.fieldLink RX11 102 "IntegerHouse" "tapeLength" "I") (o9_X11_feedOne _ (List.mem_of_getElem? (i := 0) rfl))) (k_set e0) dX11_feedOne_39 ?_
  refine lv_iconst (v := 1) hx hb dX11_feedOne_42 (by decide) ?_
  refine lv_iadd hx hb dX11_feedOne_43 ?_
  refine k_topi (y := 10) (by decide) ?_
  refine k_put (D := D) (ci := 11) (v := .int 10) (ty := .int) (N := 15) hx hb hts hin11 tyX11 tyX11_ok nmX11 hown hK hP hD hS 0 rfl rfl (by decide) f9_11_12 (hts (.fieldLink RX11 102 "IntegerHouse" "tapeLength" "I") (o9_X11_feedOne _ (List.mem_of_getElem? (i := 0) rfl))) rfl pd_2 rfl rfl (k_len (k_set e0)) dX11_feedOne_44 (fun H locs hP hD hS => ?_)
  have hP : va_P D vwCl [(h0, .inr (11, ((f0.set 12 (.int 9)).set 12 (.int 10)))), (h1, .inl (cB, 2000, .inl (upd (upd g0 8 (vp_nar .byte (Int8.toInt32 (Int32.toInt8 (x0 >>> (24 &&& 31)))))) 9 (vp_nar .byte (Int8.toInt32 (Int32.toInt8 (x0 >>> (16 &&& 31))))))))] H := hP
  have hD : va_D A [(h0, .inr (11, ((f0.set 12 (.int 9)).set 12 (.int 10)))), (h1, .inl (cB, 2000, .inl (upd (upd g0 8 (vp_nar .byte (Int8.toInt32 (Int32.toInt8 (x0 >>> (24 &&& 31)))))) 9 (vp_nar .byte (Int8.toInt32 (Int32.toInt8 (x0 >>> (16 &&& 31))))))))] := hD
  refine lv_iinc (v := 8) (lv' := [(2, .int 8), (0, .ref h0), (1, .int x0)]) hx hb dX11_feedOne_47 hl (k := 0) rfl (by decide) (by decide) rfl (fun ls hl => ?_)
  refine lv_goto (tgt := 3) hx hb dX11_feedOne_50 (by decide) ?_
  refine lv_iload_n hx hb dX11_feedOne_3 rfl (lv_at hl 0 rfl) ?_
  refine lv_if_lt (tgt := 53) hx hb dX11_feedOne_4 (by decide) (fun c9 => absurd c9 (by decide)) (fun _ => ?_)
  refine lv_aload_n hx hb dX11_feedOne_7 rfl (lv_at hl 1 rfl) ?_
  refine k_get (D := D) (ci := 11) (v := .int 10) (N := 15) hx hb hts hin11 hown hK hP 0 rfl rfl (by decide) f9_11_12 (hts (.fieldLink RX11 102 "IntegerHouse" "tapeLength" "I") (o9_X11_feedOne _ (List.mem_of_getElem? (i := 0) rfl))) (k_set (k_set e0)) dX11_feedOne_8 ?_
  refine lv_if_lt (tgt := 47) hx hb dX11_feedOne_11 (by decide) (fun c9 => absurd c9 (by decide)) (fun _ => ?_)
  refine lv_aload_n hx hb dX11_feedOne_14 rfl (lv_at hl 1 rfl) ?_
  refine k_get (D := D) (ci := 11) (v := .int 10) (N := 15) hx hb hts hin11 hown hK hP 0 rfl rfl (by decide) f9_11_12 (hts (.fieldLink RX11 102 "IntegerHouse" "tapeLength" "I") (o9_X11_feedOne _ (List.mem_of_getElem? (i := 0) rfl))) (k_set (k_set e0)) dX11_feedOne_15 ?_
  refine lv_sipush (v := 2000) hx hb dX11_feedOne_18 (by decide) ?_
  refine lv_icmp_ge (tgt := 47) hx hb dX11_feedOne_21 (by decide) (fun c9 => absurd c9 (by decide)) (fun _ => ?_)
  refine lv_aload_n hx hb dX11_feedOne_24 rfl (lv_at hl 1 rfl) ?_
  refine k_get (D := D) (ci := 11) (v := .ref h1) (N := 15) hx hb hts hin11 hown hK hP 0 rfl rfl (by decide) f9_11_0 (hts (.fieldLink RX11 9 "IntegerHouse" "tape" "[B") (o9_X11_feedOne _ (List.mem_of_getElem? (i := 1) rfl))) (k_ne (by decide) (k_ne (by decide) e1)) dX11_feedOne_25 ?_
  refine lv_aload_n hx hb dX11_feedOne_28 rfl (lv_at hl 1 rfl) ?_
  refine k_get (D := D) (ci := 11) (v := .int 10) (N := 15) hx hb hts hin11 hown hK hP 0 rfl rfl (by decide) f9_11_12 (hts (.fieldLink RX11 102 "IntegerHouse" "tapeLength" "I") (o9_X11_feedOne _ (List.mem_of_getElem? (i := 0) rfl))) (k_set (k_set e0)) dX11_feedOne_29 ?_
  refine lv_iload_n hx hb dX11_feedOne_32 rfl (lv_at hl 2 rfl) ?_
  refine lv_iload_n hx hb dX11_feedOne_33 rfl (lv_at hl 0 rfl) ?_
  refine lv_ishr hx hb dX11_feedOne_34 ?_
  refine lv_i2b (v := (Int8.toInt32 (Int32.toInt8 (x0 >>> (8 &&& 31))))) hx hb dX11_feedOne_35 rfl ?_
  refine va_bast hx hb hK hP hD hS 1 2 rfl rfl (k_in (by decide)) dX11_feedOne_36 (fun H locs hP hD hS => ?_)
  have hP : va_P D vwCl [(h0, .inr (11, ((f0.set 12 (.int 9)).set 12 (.int 10)))), (h1, .inl (cB, 2000, .inl (upd (upd (upd g0 8 (vp_nar .byte (Int8.toInt32 (Int32.toInt8 (x0 >>> (24 &&& 31)))))) 9 (vp_nar .byte (Int8.toInt32 (Int32.toInt8 (x0 >>> (16 &&& 31)))))) 10 (vp_nar .byte (Int8.toInt32 (Int32.toInt8 (x0 >>> (8 &&& 31))))))))] H := hP
  have hD : va_D A [(h0, .inr (11, ((f0.set 12 (.int 9)).set 12 (.int 10)))), (h1, .inl (cB, 2000, .inl (upd (upd (upd g0 8 (vp_nar .byte (Int8.toInt32 (Int32.toInt8 (x0 >>> (24 &&& 31)))))) 9 (vp_nar .byte (Int8.toInt32 (Int32.toInt8 (x0 >>> (16 &&& 31)))))) 10 (vp_nar .byte (Int8.toInt32 (Int32.toInt8 (x0 >>> (8 &&& 31))))))))] := hD
  refine lv_aload_n hx hb dX11_feedOne_37 rfl (lv_at hl 1 rfl) ?_
  refine lv_dup hx hb dX11_feedOne_38 rfl ?_
  refine k_get (D := D) (ci := 11) (v := .int 10) (N := 15) hx hb hts hin11 hown hK hP 0 rfl rfl (by decide) f9_11_12 (hts (.fieldLink RX11 102 "IntegerHouse" "tapeLength" "I") (o9_X11_feedOne _ (List.mem_of_getElem? (i := 0) rfl))) (k_set (k_set e0)) dX11_feedOne_39 ?_
  refine lv_iconst (v := 1) hx hb dX11_feedOne_42 (by decide) ?_
  refine lv_iadd hx hb dX11_feedOne_43 ?_
  refine k_topi (y := 11) (by decide) ?_
  refine k_put (D := D) (ci := 11) (v := .int 11) (ty := .int) (N := 15) hx hb hts hin11 tyX11 tyX11_ok nmX11 hown hK hP hD hS 0 rfl rfl (by decide) f9_11_12 (hts (.fieldLink RX11 102 "IntegerHouse" "tapeLength" "I") (o9_X11_feedOne _ (List.mem_of_getElem? (i := 0) rfl))) rfl pd_2 rfl rfl (k_len (k_set (k_set e0))) dX11_feedOne_44 (fun H locs hP hD hS => ?_)
  have hP : va_P D vwCl [(h0, .inr (11, (((f0.set 12 (.int 9)).set 12 (.int 10)).set 12 (.int 11)))), (h1, .inl (cB, 2000, .inl (upd (upd (upd g0 8 (vp_nar .byte (Int8.toInt32 (Int32.toInt8 (x0 >>> (24 &&& 31)))))) 9 (vp_nar .byte (Int8.toInt32 (Int32.toInt8 (x0 >>> (16 &&& 31)))))) 10 (vp_nar .byte (Int8.toInt32 (Int32.toInt8 (x0 >>> (8 &&& 31))))))))] H := hP
  have hD : va_D A [(h0, .inr (11, (((f0.set 12 (.int 9)).set 12 (.int 10)).set 12 (.int 11)))), (h1, .inl (cB, 2000, .inl (upd (upd (upd g0 8 (vp_nar .byte (Int8.toInt32 (Int32.toInt8 (x0 >>> (24 &&& 31)))))) 9 (vp_nar .byte (Int8.toInt32 (Int32.toInt8 (x0 >>> (16 &&& 31)))))) 10 (vp_nar .byte (Int8.toInt32 (Int32.toInt8 (x0 >>> (8 &&& 31))))))))] := hD
  refine lv_iinc (v := 0) (lv' := [(2, .int 0), (0, .ref h0), (1, .int x0)]) hx hb dX11_feedOne_47 hl (k := 0) rfl (by decide) (by decide) rfl (fun ls hl => ?_)
  refine lv_goto (tgt := 3) hx hb dX11_feedOne_50 (by decide) ?_
  refine lv_iload_n hx hb dX11_feedOne_3 rfl (lv_at hl 0 rfl) ?_
  refine lv_if_lt (tgt := 53) hx hb dX11_feedOne_4 (by decide) (fun c9 => absurd c9 (by decide)) (fun _ => ?_)
  refine lv_aload_n hx hb dX11_feedOne_7 rfl (lv_at hl 1 rfl) ?_
  refine k_get (D := D) (ci := 11) (v := .int 11) (N := 15) hx hb hts hin11 hown hK hP 0 rfl rfl (by decide) f9_11_12 (hts (.fieldLink RX11 102 "IntegerHouse" "tapeLength" "I") (o9_X11_feedOne _ (List.mem_of_getElem? (i := 0) rfl))) (k_set (k_set (k_set e0))) dX11_feedOne_8 ?_
  refine lv_if_lt (tgt := 47) hx hb dX11_feedOne_11 (by decide) (fun c9 => absurd c9 (by decide)) (fun _ => ?_)
  refine lv_aload_n hx hb dX11_feedOne_14 rfl (lv_at hl 1 rfl) ?_
  refine k_get (D := D) (ci := 11) (v := .int 11) (N := 15) hx hb hts hin11 hown hK hP 0 rfl rfl (by decide) f9_11_12 (hts (.fieldLink RX11 102 "IntegerHouse" "tapeLength" "I") (o9_X11_feedOne _ (List.mem_of_getElem? (i := 0) rfl))) (k_set (k_set (k_set e0))) dX11_feedOne_15 ?_
  refine lv_sipush (v := 2000) hx hb dX11_feedOne_18 (by decide) ?_
  refine lv_icmp_ge (tgt := 47) hx hb dX11_feedOne_21 (by decide) (fun c9 => absurd c9 (by decide)) (fun _ => ?_)
  refine lv_aload_n hx hb dX11_feedOne_24 rfl (lv_at hl 1 rfl) ?_
  refine k_get (D := D) (ci := 11) (v := .ref h1) (N := 15) hx hb hts hin11 hown hK hP 0 rfl rfl (by decide) f9_11_0 (hts (.fieldLink RX11 9 "IntegerHouse" "tape" "[B") (o9_X11_feedOne _ (List.mem_of_getElem? (i := 1) rfl))) (k_ne (by decide) (k_ne (by decide) (k_ne (by decide) e1))) dX11_feedOne_25 ?_
  refine lv_aload_n hx hb dX11_feedOne_28 rfl (lv_at hl 1 rfl) ?_
  refine k_get (D := D) (ci := 11) (v := .int 11) (N := 15) hx hb hts hin11 hown hK hP 0 rfl rfl (by decide) f9_11_12 (hts (.fieldLink RX11 102 "IntegerHouse" "tapeLength" "I") (o9_X11_feedOne _ (List.mem_of_getElem? (i := 0) rfl))) (k_set (k_set (k_set e0))) dX11_feedOne_29 ?_
  refine lv_iload_n hx hb dX11_feedOne_32 rfl (lv_at hl 2 rfl) ?_
  refine lv_iload_n hx hb dX11_feedOne_33 rfl (lv_at hl 0 rfl) ?_
  refine lv_ishr hx hb dX11_feedOne_34 ?_
  refine lv_i2b (v := (Int8.toInt32 (Int32.toInt8 (x0 >>> (0 &&& 31))))) hx hb dX11_feedOne_35 rfl ?_
  refine va_bast hx hb hK hP hD hS 1 2 rfl rfl (k_in (by decide)) dX11_feedOne_36 (fun H locs hP hD hS => ?_)
  have hP : va_P D vwCl [(h0, .inr (11, (((f0.set 12 (.int 9)).set 12 (.int 10)).set 12 (.int 11)))), (h1, .inl (cB, 2000, .inl (upd (upd (upd (upd g0 8 (vp_nar .byte (Int8.toInt32 (Int32.toInt8 (x0 >>> (24 &&& 31)))))) 9 (vp_nar .byte (Int8.toInt32 (Int32.toInt8 (x0 >>> (16 &&& 31)))))) 10 (vp_nar .byte (Int8.toInt32 (Int32.toInt8 (x0 >>> (8 &&& 31)))))) 11 (vp_nar .byte (Int8.toInt32 (Int32.toInt8 (x0 >>> (0 &&& 31))))))))] H := hP
  have hD : va_D A [(h0, .inr (11, (((f0.set 12 (.int 9)).set 12 (.int 10)).set 12 (.int 11)))), (h1, .inl (cB, 2000, .inl (upd (upd (upd (upd g0 8 (vp_nar .byte (Int8.toInt32 (Int32.toInt8 (x0 >>> (24 &&& 31)))))) 9 (vp_nar .byte (Int8.toInt32 (Int32.toInt8 (x0 >>> (16 &&& 31)))))) 10 (vp_nar .byte (Int8.toInt32 (Int32.toInt8 (x0 >>> (8 &&& 31)))))) 11 (vp_nar .byte (Int8.toInt32 (Int32.toInt8 (x0 >>> (0 &&& 31))))))))] := hD
  refine lv_aload_n hx hb dX11_feedOne_37 rfl (lv_at hl 1 rfl) ?_
  refine lv_dup hx hb dX11_feedOne_38 rfl ?_
  refine k_get (D := D) (ci := 11) (v := .int 11) (N := 15) hx hb hts hin11 hown hK hP 0 rfl rfl (by decide) f9_11_12 (hts (.fieldLink RX11 102 "IntegerHouse" "tapeLength" "I") (o9_X11_feedOne _ (List.mem_of_getElem? (i := 0) rfl))) (k_set (k_set (k_set e0))) dX11_feedOne_39 ?_
  refine lv_iconst (v := 1) hx hb dX11_feedOne_42 (by decide) ?_
  refine lv_iadd hx hb dX11_feedOne_43 ?_
  refine k_topi (y := 12) (by decide) ?_
  refine k_put (D := D) (ci := 11) (v := .int 12) (ty := .int) (N := 15) hx hb hts hin11 tyX11 tyX11_ok nmX11 hown hK hP hD hS 0 rfl rfl (by decide) f9_11_12 (hts (.fieldLink RX11 102 "IntegerHouse" "tapeLength" "I") (o9_X11_feedOne _ (List.mem_of_getElem? (i := 0) rfl))) rfl pd_2 rfl rfl (k_len (k_set (k_set (k_set e0)))) dX11_feedOne_44 (fun H locs hP hD hS => ?_)
  have hP : va_P D vwCl [(h0, .inr (11, ((((f0.set 12 (.int 9)).set 12 (.int 10)).set 12 (.int 11)).set 12 (.int 12)))), (h1, .inl (cB, 2000, .inl (upd (upd (upd (upd g0 8 (vp_nar .byte (Int8.toInt32 (Int32.toInt8 (x0 >>> (24 &&& 31)))))) 9 (vp_nar .byte (Int8.toInt32 (Int32.toInt8 (x0 >>> (16 &&& 31)))))) 10 (vp_nar .byte (Int8.toInt32 (Int32.toInt8 (x0 >>> (8 &&& 31)))))) 11 (vp_nar .byte (Int8.toInt32 (Int32.toInt8 (x0 >>> (0 &&& 31))))))))] H := hP
  have hD : va_D A [(h0, .inr (11, ((((f0.set 12 (.int 9)).set 12 (.int 10)).set 12 (.int 11)).set 12 (.int 12)))), (h1, .inl (cB, 2000, .inl (upd (upd (upd (upd g0 8 (vp_nar .byte (Int8.toInt32 (Int32.toInt8 (x0 >>> (24 &&& 31)))))) 9 (vp_nar .byte (Int8.toInt32 (Int32.toInt8 (x0 >>> (16 &&& 31)))))) 10 (vp_nar .byte (Int8.toInt32 (Int32.toInt8 (x0 >>> (8 &&& 31)))))) 11 (vp_nar .byte (Int8.toInt32 (Int32.toInt8 (x0 >>> (0 &&& 31))))))))] := hD
  refine lv_iinc (v := (-8)) (lv' := [(2, .int (-8)), (0, .ref h0), (1, .int x0)]) hx hb dX11_feedOne_47 hl (k := 0) rfl (by decide) (by decide) rfl (fun ls hl => ?_)
  refine lv_goto (tgt := 3) hx hb dX11_feedOne_50 (by decide) ?_
  refine lv_iload_n hx hb dX11_feedOne_3 rfl (lv_at hl 0 rfl) ?_
  refine lv_if_lt (tgt := 53) hx hb dX11_feedOne_4 (by decide) (fun _ => ?_) (fun c9 => absurd (by decide) c9)
  exact W.vret hx hb hr (fun t ht hW => ⟨⟨(), rfl, trivial, kB_mk ht hW hP hK hD⟩, hS.F ht⟩) hS.2.2 dX11_feedOne_53
set_option maxHeartbeats 400000000 in
set_option maxRecDepth 100000 in
theorem c_X11_feedOne_3 (l : Launch) (E : kE) (D : va_G) (cI cJ cB cZ : ClassId) (h0 : Nat) (x0 : Int32) (f0 : List Value) (h1 : Nat) (g0 : Nat → Int32) (e0 : f0[12]? = some (.int 12)) (e1 : f0[0]? = some (.ref h1)) : kV l E D (kT cI cJ cB cZ) yX11_feedOne vW_X11_feedOne ({ frames := 0, cells := 0, slots := 0, locals := 0 }) [.ref h0, .int x0] [(h0, .inr (11, f0)), (h1, .inl (cB, 2000, .inl g0))] (fun _ : Unit => [(h0, .inr (11, ((((f0.set 12 (.int 13)).set 12 (.int 14)).set 12 (.int 15)).set 12 (.int 16)))), (h1, .inl (cB, 2000, .inl (upd (upd (upd (upd g0 12 (vp_nar .byte (Int8.toInt32 (Int32.toInt8 (x0 >>> (24 &&& 31)))))) 13 (vp_nar .byte (Int8.toInt32 (Int32.toInt8 (x0 >>> (16 &&& 31)))))) 14 (vp_nar .byte (Int8.toInt32 (Int32.toInt8 (x0 >>> (8 &&& 31)))))) 15 (vp_nar .byte (Int8.toInt32 (Int32.toInt8 (x0 >>> (0 &&& 31))))))))]) 0 0 := by
  intro sz
  refine Met.ofW (cc := cX11_feedOne) (maxL := 3) (ret := none) (by decide) rfl ?_
  intro p e s m args below meth c s₁ B hml hv
  obtain ⟨rfl, hsz, hP, hK, hD0, hN, hX⟩ := hv
  have hx := B.exec
  have hb := B.bytes
  have hr := B.returns
  have hts := atoms_spec (ws := vW_X11_feedOne) B.pre
  have hown : s.vm.findClass RX11 = some m.cls := findClass_of_methodNamed B.named
  have hlocks := B.notSynchronized
  have hin11 : ∀ w ∈ wsX110, w ∈ vW_X11_feedOne := u9_X11_feedOne_wsX110
  subst hsz
  have hD := hD0.self (sz := s.heap.size)
  have hAE := k_AE hD0 hX
  generalize hAe : va_A [(h0, .inr (11, f0)), (h1, .inl (cB, 2000, .inl g0))] s.heap.size = A at hD hAE ⊢
  have hA : ∀ q : Nat, s.heap.size ≤ q → A q := fun q h => by rw [← hAe]; exact Or.inr h
  have hS : va_S A s.heap s.heap [] := va_S.rf
  have hP : va_P D vwCl [(h0, .inr (11, f0)), (h1, .inl (cB, 2000, .inl g0))] s.heap := hP
  have hl := lv_entry ([.ref h0, .int x0] : List Value) (n := 3) (Nat.le_of_ble_eq_true rfl)
  rw [lg_entry_eq]
  generalize (lg_sl ([.ref h0, .int x0]) ++ List.replicate (3 - (lg_sl ([.ref h0, .int x0])).length) Slot.unset).toArray = ls at hl ⊢
  have hl : lv_has ls 3 [(0, .ref h0), (1, .int x0)] := hl
  refine lv_bipush (v := 24) hx hb dX11_feedOne_0 (by decide) ?_
  refine lv_istore_n (lv' := [(2, .int 24), (0, .ref h0), (1, .int x0)]) hx hb dX11_feedOne_2 rfl hl (by decide) rfl (fun ls hl => ?_)
  refine lv_iload_n hx hb dX11_feedOne_3 rfl (lv_at hl 0 rfl) ?_
  refine lv_if_lt (tgt := 53) hx hb dX11_feedOne_4 (by decide) (fun c9 => absurd c9 (by decide)) (fun _ => ?_)
  refine lv_aload_n hx hb dX11_feedOne_7 rfl (lv_at hl 1 rfl) ?_
  refine k_get (D := D) (ci := 11) (v := .int 12) (N := 15) hx hb hts hin11 hown hK hP 0 rfl rfl (by decide) f9_11_12 (hts (.fieldLink RX11 102 "IntegerHouse" "tapeLength" "I") (o9_X11_feedOne _ (List.mem_of_getElem? (i := 0) rfl))) e0 dX11_feedOne_8 ?_
  refine lv_if_lt (tgt := 47) hx hb dX11_feedOne_11 (by decide) (fun c9 => absurd c9 (by decide)) (fun _ => ?_)
  refine lv_aload_n hx hb dX11_feedOne_14 rfl (lv_at hl 1 rfl) ?_
  refine k_get (D := D) (ci := 11) (v := .int 12) (N := 15) hx hb hts hin11 hown hK hP 0 rfl rfl (by decide) f9_11_12 (hts (.fieldLink RX11 102 "IntegerHouse" "tapeLength" "I") (o9_X11_feedOne _ (List.mem_of_getElem? (i := 0) rfl))) e0 dX11_feedOne_15 ?_
  refine lv_sipush (v := 2000) hx hb dX11_feedOne_18 (by decide) ?_
  refine lv_icmp_ge (tgt := 47) hx hb dX11_feedOne_21 (by decide) (fun c9 => absurd c9 (by decide)) (fun _ => ?_)
  refine lv_aload_n hx hb dX11_feedOne_24 rfl (lv_at hl 1 rfl) ?_
  refine k_get (D := D) (ci := 11) (v := .ref h1) (N := 15) hx hb hts hin11 hown hK hP 0 rfl rfl (by decide) f9_11_0 (hts (.fieldLink RX11 9 "IntegerHouse" "tape" "[B") (o9_X11_feedOne _ (List.mem_of_getElem? (i := 1) rfl))) e1 dX11_feedOne_25 ?_
  refine lv_aload_n hx hb dX11_feedOne_28 rfl (lv_at hl 1 rfl) ?_
  refine k_get (D := D) (ci := 11) (v := .int 12) (N := 15) hx hb hts hin11 hown hK hP 0 rfl rfl (by decide) f9_11_12 (hts (.fieldLink RX11 102 "IntegerHouse" "tapeLength" "I") (o9_X11_feedOne _ (List.mem_of_getElem? (i := 0) rfl))) e0 dX11_feedOne_29 ?_
  refine lv_iload_n hx hb dX11_feedOne_32 rfl (lv_at hl 2 rfl) ?_
  refine lv_iload_n hx hb dX11_feedOne_33 rfl (lv_at hl 0 rfl) ?_
  refine lv_ishr hx hb dX11_feedOne_34 ?_
  refine lv_i2b (v := (Int8.toInt32 (Int32.toInt8 (x0 >>> (24 &&& 31))))) hx hb dX11_feedOne_35 rfl ?_
  refine va_bast hx hb hK hP hD hS 1 2 rfl rfl (k_in (by decide)) dX11_feedOne_36 (fun H locs hP hD hS => ?_)
  have hP : va_P D vwCl [(h0, .inr (11, f0)), (h1, .inl (cB, 2000, .inl (upd g0 12 (vp_nar .byte (Int8.toInt32 (Int32.toInt8 (x0 >>> (24 &&& 31))))))))] H := hP
  have hD : va_D A [(h0, .inr (11, f0)), (h1, .inl (cB, 2000, .inl (upd g0 12 (vp_nar .byte (Int8.toInt32 (Int32.toInt8 (x0 >>> (24 &&& 31))))))))] := hD
  refine lv_aload_n hx hb dX11_feedOne_37 rfl (lv_at hl 1 rfl) ?_
  refine lv_dup hx hb dX11_feedOne_38 rfl ?_
  refine k_get (D := D) (ci := 11) (v := .int 12) (N := 15) hx hb hts hin11 hown hK hP 0 rfl rfl (by decide) f9_11_12 (hts (.fieldLink RX11 102 "IntegerHouse" "tapeLength" "I") (o9_X11_feedOne _ (List.mem_of_getElem? (i := 0) rfl))) e0 dX11_feedOne_39 ?_
  refine lv_iconst (v := 1) hx hb dX11_feedOne_42 (by decide) ?_
  refine lv_iadd hx hb dX11_feedOne_43 ?_
  refine k_topi (y := 13) (by decide) ?_
  refine k_put (D := D) (ci := 11) (v := .int 13) (ty := .int) (N := 15) hx hb hts hin11 tyX11 tyX11_ok nmX11 hown hK hP hD hS 0 rfl rfl (by decide) f9_11_12 (hts (.fieldLink RX11 102 "IntegerHouse" "tapeLength" "I") (o9_X11_feedOne _ (List.mem_of_getElem? (i := 0) rfl))) rfl pd_2 rfl rfl (k_len e0) dX11_feedOne_44 (fun H locs hP hD hS => ?_)
  have hP : va_P D vwCl [(h0, .inr (11, (f0.set 12 (.int 13)))), (h1, .inl (cB, 2000, .inl (upd g0 12 (vp_nar .byte (Int8.toInt32 (Int32.toInt8 (x0 >>> (24 &&& 31))))))))] H := hP
  have hD : va_D A [(h0, .inr (11, (f0.set 12 (.int 13)))), (h1, .inl (cB, 2000, .inl (upd g0 12 (vp_nar .byte (Int8.toInt32 (Int32.toInt8 (x0 >>> (24 &&& 31))))))))] := hD
  refine lv_iinc (v := 16) (lv' := [(2, .int 16), (0, .ref h0), (1, .int x0)]) hx hb dX11_feedOne_47 hl (k := 0) rfl (by decide) (by decide) rfl (fun ls hl => ?_)
  refine lv_goto (tgt := 3) hx hb dX11_feedOne_50 (by decide) ?_
  refine lv_iload_n hx hb dX11_feedOne_3 rfl (lv_at hl 0 rfl) ?_
  refine lv_if_lt (tgt := 53) hx hb dX11_feedOne_4 (by decide) (fun c9 => absurd c9 (by decide)) (fun _ => ?_)
  refine lv_aload_n hx hb dX11_feedOne_7 rfl (lv_at hl 1 rfl) ?_
  refine k_get (D := D) (ci := 11) (v := .int 13) (N := 15) hx hb hts hin11 hown hK hP 0 rfl rfl (by decide) f9_11_12 (hts (.fieldLink RX11 102 "IntegerHouse" "tapeLength" "I") (o9_X11_feedOne _ (List.mem_of_getElem? (i := 0) rfl))) (k_set e0) dX11_feedOne_8 ?_
  refine lv_if_lt (tgt := 47) hx hb dX11_feedOne_11 (by decide) (fun c9 => absurd c9 (by decide)) (fun _ => ?_)
  refine lv_aload_n hx hb dX11_feedOne_14 rfl (lv_at hl 1 rfl) ?_
  refine k_get (D := D) (ci := 11) (v := .int 13) (N := 15) hx hb hts hin11 hown hK hP 0 rfl rfl (by decide) f9_11_12 (hts (.fieldLink RX11 102 "IntegerHouse" "tapeLength" "I") (o9_X11_feedOne _ (List.mem_of_getElem? (i := 0) rfl))) (k_set e0) dX11_feedOne_15 ?_
  refine lv_sipush (v := 2000) hx hb dX11_feedOne_18 (by decide) ?_
  refine lv_icmp_ge (tgt := 47) hx hb dX11_feedOne_21 (by decide) (fun c9 => absurd c9 (by decide)) (fun _ => ?_)
  refine lv_aload_n hx hb dX11_feedOne_24 rfl (lv_at hl 1 rfl) ?_
  refine k_get (D := D) (ci := 11) (v := .ref h1) (N := 15) hx hb hts hin11 hown hK hP 0 rfl rfl (by decide) f9_11_0 (hts (.fieldLink RX11 9 "IntegerHouse" "tape" "[B") (o9_X11_feedOne _ (List.mem_of_getElem? (i := 1) rfl))) (k_ne (by decide) e1) dX11_feedOne_25 ?_
  refine lv_aload_n hx hb dX11_feedOne_28 rfl (lv_at hl 1 rfl) ?_
  refine k_get (D := D) (ci := 11) (v := .int 13) (N := 15) hx hb hts hin11 hown hK hP 0 rfl rfl (by decide) f9_11_12 (hts (.fieldLink RX11 102 "IntegerHouse" "tapeLength" "I") (o9_X11_feedOne _ (List.mem_of_getElem? (i := 0) rfl))) (k_set e0) dX11_feedOne_29 ?_
  refine lv_iload_n hx hb dX11_feedOne_32 rfl (lv_at hl 2 rfl) ?_
  refine lv_iload_n hx hb dX11_feedOne_33 rfl (lv_at hl 0 rfl) ?_
  refine lv_ishr hx hb dX11_feedOne_34 ?_
  refine lv_i2b (v := (Int8.toInt32 (Int32.toInt8 (x0 >>> (16 &&& 31))))) hx hb dX11_feedOne_35 rfl ?_
  refine va_bast hx hb hK hP hD hS 1 2 rfl rfl (k_in (by decide)) dX11_feedOne_36 (fun H locs hP hD hS => ?_)
  have hP : va_P D vwCl [(h0, .inr (11, (f0.set 12 (.int 13)))), (h1, .inl (cB, 2000, .inl (upd (upd g0 12 (vp_nar .byte (Int8.toInt32 (Int32.toInt8 (x0 >>> (24 &&& 31)))))) 13 (vp_nar .byte (Int8.toInt32 (Int32.toInt8 (x0 >>> (16 &&& 31))))))))] H := hP
  have hD : va_D A [(h0, .inr (11, (f0.set 12 (.int 13)))), (h1, .inl (cB, 2000, .inl (upd (upd g0 12 (vp_nar .byte (Int8.toInt32 (Int32.toInt8 (x0 >>> (24 &&& 31)))))) 13 (vp_nar .byte (Int8.toInt32 (Int32.toInt8 (x0 >>> (16 &&& 31))))))))] := hD
  refine lv_aload_n hx hb dX11_feedOne_37 rfl (lv_at hl 1 rfl) ?_
  refine lv_dup hx hb dX11_feedOne_38 rfl ?_
  refine k_get (D := D) (ci := 11) (v := .int 13) (N := 15) hx hb hts hin11 hown hK hP 0 rfl rfl (by decide) f9_11_12 (hts (.fieldLink RX11 102 "IntegerHouse" "tapeLength" "I") (o9_X11_feedOne _ (List.mem_of_getElem? (i := 0) rfl))) (k_set e0) dX11_feedOne_39 ?_
  refine lv_iconst (v := 1) hx hb dX11_feedOne_42 (by decide) ?_
  refine lv_iadd hx hb dX11_feedOne_43 ?_
  refine k_topi (y := 14) (by decide) ?_
  refine k_put (D := D) (ci := 11) (v := .int 14) (ty := .int) (N := 15) hx hb hts hin11 tyX11 tyX11_ok nmX11 hown hK hP hD hS 0 rfl rfl (by decide) f9_11_12 (hts (.fieldLink RX11 102 "IntegerHouse" "tapeLength" "I") (o9_X11_feedOne _ (List.mem_of_getElem? (i := 0) rfl))) rfl pd_2 rfl rfl (k_len (k_set e0)) dX11_feedOne_44 (fun H locs hP hD hS => ?_)
  have hP : va_P D vwCl [(h0, .inr (11, ((f0.set 12 (.int 13)).set 12 (.int 14)))), (h1, .inl (cB, 2000, .inl (upd (upd g0 12 (vp_nar .byte (Int8.toInt32 (Int32.toInt8 (x0 >>> (24 &&& 31)))))) 13 (vp_nar .byte (Int8.toInt32 (Int32.toInt8 (x0 >>> (16 &&& 31))))))))] H := hP
  have hD : va_D A [(h0, .inr (11, ((f0.set 12 (.int 13)).set 12 (.int 14)))), (h1, .inl (cB, 2000, .inl (upd (upd g0 12 (vp_nar .byte (Int8.toInt32 (Int32.toInt8 (x0 >>> (24 &&& 31)))))) 13 (vp_nar .byte (Int8.toInt32 (Int32.toInt8 (x0 >>> (16 &&& 31))))))))] := hD
  refine lv_iinc (v := 8) (lv' := [(2, .int 8), (0, .ref h0), (1, .int x0)]) hx hb dX11_feedOne_47 hl (k := 0) rfl (by decide) (by decide) rfl (fun ls hl => ?_)
  refine lv_goto (tgt := 3) hx hb dX11_feedOne_50 (by decide) ?_
  refine lv_iload_n hx hb dX11_feedOne_3 rfl (lv_at hl 0 rfl) ?_
  refine lv_if_lt (tgt := 53) hx hb dX11_feedOne_4 (by decide) (fun c9 => absurd c9 (by decide)) (fun _ => ?_)
  refine lv_aload_n hx hb dX11_feedOne_7 rfl (lv_at hl 1 rfl) ?_
  refine k_get (D := D) (ci := 11) (v := .int 14) (N := 15) hx hb hts hin11 hown hK hP 0 rfl rfl (by decide) f9_11_12 (hts (.fieldLink RX11 102 "IntegerHouse" "tapeLength" "I") (o9_X11_feedOne _ (List.mem_of_getElem? (i := 0) rfl))) (k_set (k_set e0)) dX11_feedOne_8 ?_
  refine lv_if_lt (tgt := 47) hx hb dX11_feedOne_11 (by decide) (fun c9 => absurd c9 (by decide)) (fun _ => ?_)
  refine lv_aload_n hx hb dX11_feedOne_14 rfl (lv_at hl 1 rfl) ?_
  refine k_get (D := D) (ci := 11) (v := .int 14) (N := 15) hx hb hts hin11 hown hK hP 0 rfl rfl (by decide) f9_11_12 (hts (.fieldLink RX11 102 "IntegerHouse" "tapeLength" "I") (o9_X11_feedOne _ (List.mem_of_getElem? (i := 0) rfl))) (k_set (k_set e0)) dX11_feedOne_15 ?_
  refine lv_sipush (v := 2000) hx hb dX11_feedOne_18 (by decide) ?_
  refine lv_icmp_ge (tgt := 47) hx hb dX11_feedOne_21 (by decide) (fun c9 => absurd c9 (by decide)) (fun _ => ?_)
  refine lv_aload_n hx hb dX11_feedOne_24 rfl (lv_at hl 1 rfl) ?_
  refine k_get (D := D) (ci := 11) (v := .ref h1) (N := 15) hx hb hts hin11 hown hK hP 0 rfl rfl (by decide) f9_11_0 (hts (.fieldLink RX11 9 "IntegerHouse" "tape" "[B") (o9_X11_feedOne _ (List.mem_of_getElem? (i := 1) rfl))) (k_ne (by decide) (k_ne (by decide) e1)) dX11_feedOne_25 ?_
  refine lv_aload_n hx hb dX11_feedOne_28 rfl (lv_at hl 1 rfl) ?_
  refine k_get (D := D) (ci := 11) (v := .int 14) (N := 15) hx hb hts hin11 hown hK hP 0 rfl rfl (by decide) f9_11_12 (hts (.fieldLink RX11 102 "IntegerHouse" "tapeLength" "I") (o9_X11_feedOne _ (List.mem_of_getElem? (i := 0) rfl))) (k_set (k_set e0)) dX11_feedOne_29 ?_
  refine lv_iload_n hx hb dX11_feedOne_32 rfl (lv_at hl 2 rfl) ?_
  refine lv_iload_n hx hb dX11_feedOne_33 rfl (lv_at hl 0 rfl) ?_
  refine lv_ishr hx hb dX11_feedOne_34 ?_
  refine lv_i2b (v := (Int8.toInt32 (Int32.toInt8 (x0 >>> (8 &&& 31))))) hx hb dX11_feedOne_35 rfl ?_
  refine va_bast hx hb hK hP hD hS 1 2 rfl rfl (k_in (by decide)) dX11_feedOne_36 (fun H locs hP hD hS => ?_)
  have hP : va_P D vwCl [(h0, .inr (11, ((f0.set 12 (.int 13)).set 12 (.int 14)))), (h1, .inl (cB, 2000, .inl (upd (upd (upd g0 12 (vp_nar .byte (Int8.toInt32 (Int32.toInt8 (x0 >>> (24 &&& 31)))))) 13 (vp_nar .byte (Int8.toInt32 (Int32.toInt8 (x0 >>> (16 &&& 31)))))) 14 (vp_nar .byte (Int8.toInt32 (Int32.toInt8 (x0 >>> (8 &&& 31))))))))] H := hP
  have hD : va_D A [(h0, .inr (11, ((f0.set 12 (.int 13)).set 12 (.int 14)))), (h1, .inl (cB, 2000, .inl (upd (upd (upd g0 12 (vp_nar .byte (Int8.toInt32 (Int32.toInt8 (x0 >>> (24 &&& 31)))))) 13 (vp_nar .byte (Int8.toInt32 (Int32.toInt8 (x0 >>> (16 &&& 31)))))) 14 (vp_nar .byte (Int8.toInt32 (Int32.toInt8 (x0 >>> (8 &&& 31))))))))] := hD
  refine lv_aload_n hx hb dX11_feedOne_37 rfl (lv_at hl 1 rfl) ?_
  refine lv_dup hx hb dX11_feedOne_38 rfl ?_
  refine k_get (D := D) (ci := 11) (v := .int 14) (N := 15) hx hb hts hin11 hown hK hP 0 rfl rfl (by decide) f9_11_12 (hts (.fieldLink RX11 102 "IntegerHouse" "tapeLength" "I") (o9_X11_feedOne _ (List.mem_of_getElem? (i := 0) rfl))) (k_set (k_set e0)) dX11_feedOne_39 ?_
  refine lv_iconst (v := 1) hx hb dX11_feedOne_42 (by decide) ?_
  refine lv_iadd hx hb dX11_feedOne_43 ?_
  refine k_topi (y := 15) (by decide) ?_
  refine k_put (D := D) (ci := 11) (v := .int 15) (ty := .int) (N := 15) hx hb hts hin11 tyX11 tyX11_ok nmX11 hown hK hP hD hS 0 rfl rfl (by decide) f9_11_12 (hts (.fieldLink RX11 102 "IntegerHouse" "tapeLength" "I") (o9_X11_feedOne _ (List.mem_of_getElem? (i := 0) rfl))) rfl pd_2 rfl rfl (k_len (k_set (k_set e0))) dX11_feedOne_44 (fun H locs hP hD hS => ?_)
  have hP : va_P D vwCl [(h0, .inr (11, (((f0.set 12 (.int 13)).set 12 (.int 14)).set 12 (.int 15)))), (h1, .inl (cB, 2000, .inl (upd (upd (upd g0 12 (vp_nar .byte (Int8.toInt32 (Int32.toInt8 (x0 >>> (24 &&& 31)))))) 13 (vp_nar .byte (Int8.toInt32 (Int32.toInt8 (x0 >>> (16 &&& 31)))))) 14 (vp_nar .byte (Int8.toInt32 (Int32.toInt8 (x0 >>> (8 &&& 31))))))))] H := hP
  have hD : va_D A [(h0, .inr (11, (((f0.set 12 (.int 13)).set 12 (.int 14)).set 12 (.int 15)))), (h1, .inl (cB, 2000, .inl (upd (upd (upd g0 12 (vp_nar .byte (Int8.toInt32 (Int32.toInt8 (x0 >>> (24 &&& 31)))))) 13 (vp_nar .byte (Int8.toInt32 (Int32.toInt8 (x0 >>> (16 &&& 31)))))) 14 (vp_nar .byte (Int8.toInt32 (Int32.toInt8 (x0 >>> (8 &&& 31))))))))] := hD
  refine lv_iinc (v := 0) (lv' := [(2, .int 0), (0, .ref h0), (1, .int x0)]) hx hb dX11_feedOne_47 hl (k := 0) rfl (by decide) (by decide) rfl (fun ls hl => ?_)
  refine lv_goto (tgt := 3) hx hb dX11_feedOne_50 (by decide) ?_
  refine lv_iload_n hx hb dX11_feedOne_3 rfl (lv_at hl 0 rfl) ?_
  refine lv_if_lt (tgt := 53) hx hb dX11_feedOne_4 (by decide) (fun c9 => absurd c9 (by decide)) (fun _ => ?_)
  refine lv_aload_n hx hb dX11_feedOne_7 rfl (lv_at hl 1 rfl) ?_
  refine k_get (D := D) (ci := 11) (v := .int 15) (N := 15) hx hb hts hin11 hown hK hP 0 rfl rfl (by decide) f9_11_12 (hts (.fieldLink RX11 102 "IntegerHouse" "tapeLength" "I") (o9_X11_feedOne _ (List.mem_of_getElem? (i := 0) rfl))) (k_set (k_set (k_set e0))) dX11_feedOne_8 ?_
  refine lv_if_lt (tgt := 47) hx hb dX11_feedOne_11 (by decide) (fun c9 => absurd c9 (by decide)) (fun _ => ?_)
  refine lv_aload_n hx hb dX11_feedOne_14 rfl (lv_at hl 1 rfl) ?_
  refine k_get (D := D) (ci := 11) (v := .int 15) (N := 15) hx hb hts hin11 hown hK hP 0 rfl rfl (by decide) f9_11_12 (hts (.fieldLink RX11 102 "IntegerHouse" "tapeLength" "I") (o9_X11_feedOne _ (List.mem_of_getElem? (i := 0) rfl))) (k_set (k_set (k_set e0))) dX11_feedOne_15 ?_
  refine lv_sipush (v := 2000) hx hb dX11_feedOne_18 (by decide) ?_
  refine lv_icmp_ge (tgt := 47) hx hb dX11_feedOne_21 (by decide) (fun c9 => absurd c9 (by decide)) (fun _ => ?_)
  refine lv_aload_n hx hb dX11_feedOne_24 rfl (lv_at hl 1 rfl) ?_
  refine k_get (D := D) (ci := 11) (v := .ref h1) (N := 15) hx hb hts hin11 hown hK hP 0 rfl rfl (by decide) f9_11_0 (hts (.fieldLink RX11 9 "IntegerHouse" "tape" "[B") (o9_X11_feedOne _ (List.mem_of_getElem? (i := 1) rfl))) (k_ne (by decide) (k_ne (by decide) (k_ne (by decide) e1))) dX11_feedOne_25 ?_
  refine lv_aload_n hx hb dX11_feedOne_28 rfl (lv_at hl 1 rfl) ?_
  refine k_get (D := D) (ci := 11) (v := .int 15) (N := 15) hx hb hts hin11 hown hK hP 0 rfl rfl (by decide) f9_11_12 (hts (.fieldLink RX11 102 "IntegerHouse" "tapeLength" "I") (o9_X11_feedOne _ (List.mem_of_getElem? (i := 0) rfl))) (k_set (k_set (k_set e0))) dX11_feedOne_29 ?_
  refine lv_iload_n hx hb dX11_feedOne_32 rfl (lv_at hl 2 rfl) ?_
  refine lv_iload_n hx hb dX11_feedOne_33 rfl (lv_at hl 0 rfl) ?_
  refine lv_ishr hx hb dX11_feedOne_34 ?_
  refine lv_i2b (v := (Int8.toInt32 (Int32.toInt8 (x0 >>> (0 &&& 31))))) hx hb dX11_feedOne_35 rfl ?_
  refine va_bast hx hb hK hP hD hS 1 2 rfl rfl (k_in (by decide)) dX11_feedOne_36 (fun H locs hP hD hS => ?_)
  have hP : va_P D vwCl [(h0, .inr (11, (((f0.set 12 (.int 13)).set 12 (.int 14)).set 12 (.int 15)))), (h1, .inl (cB, 2000, .inl (upd (upd (upd (upd g0 12 (vp_nar .byte (Int8.toInt32 (Int32.toInt8 (x0 >>> (24 &&& 31)))))) 13 (vp_nar .byte (Int8.toInt32 (Int32.toInt8 (x0 >>> (16 &&& 31)))))) 14 (vp_nar .byte (Int8.toInt32 (Int32.toInt8 (x0 >>> (8 &&& 31)))))) 15 (vp_nar .byte (Int8.toInt32 (Int32.toInt8 (x0 >>> (0 &&& 31))))))))] H := hP
  have hD : va_D A [(h0, .inr (11, (((f0.set 12 (.int 13)).set 12 (.int 14)).set 12 (.int 15)))), (h1, .inl (cB, 2000, .inl (upd (upd (upd (upd g0 12 (vp_nar .byte (Int8.toInt32 (Int32.toInt8 (x0 >>> (24 &&& 31)))))) 13 (vp_nar .byte (Int8.toInt32 (Int32.toInt8 (x0 >>> (16 &&& 31)))))) 14 (vp_nar .byte (Int8.toInt32 (Int32.toInt8 (x0 >>> (8 &&& 31)))))) 15 (vp_nar .byte (Int8.toInt32 (Int32.toInt8 (x0 >>> (0 &&& 31))))))))] := hD
  refine lv_aload_n hx hb dX11_feedOne_37 rfl (lv_at hl 1 rfl) ?_
  refine lv_dup hx hb dX11_feedOne_38 rfl ?_
  refine k_get (D := D) (ci := 11) (v := .int 15) (N := 15) hx hb hts hin11 hown hK hP 0 rfl rfl (by decide) f9_11_12 (hts (.fieldLink RX11 102 "IntegerHouse" "tapeLength" "I") (o9_X11_feedOne _ (List.mem_of_getElem? (i := 0) rfl))) (k_set (k_set (k_set e0))) dX11_feedOne_39 ?_
  refine lv_iconst (v := 1) hx hb dX11_feedOne_42 (by decide) ?_
  refine lv_iadd hx hb dX11_feedOne_43 ?_
  refine k_topi (y := 16) (by decide) ?_
  refine k_put (D := D) (ci := 11) (v := .int 16) (ty := .int) (N := 15) hx hb hts hin11 tyX11 tyX11_ok nmX11 hown hK hP hD hS 0 rfl rfl (by decide) f9_11_12 (hts (.fieldLink RX11 102 "IntegerHouse" "tapeLength" "I") (o9_X11_feedOne _ (List.mem_of_getElem? (i := 0) rfl))) rfl pd_2 rfl rfl (k_len (k_set (k_set (k_set e0)))) dX11_feedOne_44 (fun H locs hP hD hS => ?_)
  have hP : va_P D vwCl [(h0, .inr (11, ((((f0.set 12 (.int 13)).set 12 (.int 14)).set 12 (.int 15)).set 12 (.int 16)))), (h1, .inl (cB, 2000, .inl (upd (upd (upd (upd g0 12 (vp_nar .byte (Int8.toInt32 (Int32.toInt8 (x0 >>> (24 &&& 31)))))) 13 (vp_nar .byte (Int8.toInt32 (Int32.toInt8 (x0 >>> (16 &&& 31)))))) 14 (vp_nar .byte (Int8.toInt32 (Int32.toInt8 (x0 >>> (8 &&& 31)))))) 15 (vp_nar .byte (Int8.toInt32 (Int32.toInt8 (x0 >>> (0 &&& 31))))))))] H := hP
  have hD : va_D A [(h0, .inr (11, ((((f0.set 12 (.int 13)).set 12 (.int 14)).set 12 (.int 15)).set 12 (.int 16)))), (h1, .inl (cB, 2000, .inl (upd (upd (upd (upd g0 12 (vp_nar .byte (Int8.toInt32 (Int32.toInt8 (x0 >>> (24 &&& 31)))))) 13 (vp_nar .byte (Int8.toInt32 (Int32.toInt8 (x0 >>> (16 &&& 31)))))) 14 (vp_nar .byte (Int8.toInt32 (Int32.toInt8 (x0 >>> (8 &&& 31)))))) 15 (vp_nar .byte (Int8.toInt32 (Int32.toInt8 (x0 >>> (0 &&& 31))))))))] := hD
  refine lv_iinc (v := (-8)) (lv' := [(2, .int (-8)), (0, .ref h0), (1, .int x0)]) hx hb dX11_feedOne_47 hl (k := 0) rfl (by decide) (by decide) rfl (fun ls hl => ?_)
  refine lv_goto (tgt := 3) hx hb dX11_feedOne_50 (by decide) ?_
  refine lv_iload_n hx hb dX11_feedOne_3 rfl (lv_at hl 0 rfl) ?_
  refine lv_if_lt (tgt := 53) hx hb dX11_feedOne_4 (by decide) (fun _ => ?_) (fun c9 => absurd (by decide) c9)
  exact W.vret hx hb hr (fun t ht hW => ⟨⟨(), rfl, trivial, kB_mk ht hW hP hK hD⟩, hS.F ht⟩) hS.2.2 dX11_feedOne_53
