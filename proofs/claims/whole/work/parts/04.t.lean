abbrev cX1_init : ByteArray := prog_3_method_1_code
def yX1_init : MethodName := ⟨RX1, "<init>", "()V"⟩
abbrev cX2_init : ByteArray := prog_4_method_1_code
def yX2_init : MethodName := ⟨RX2, "<init>", "()V"⟩
def wsX1_init : List Cond := .code yX1_init cX1_init 1 none :: ([.methodLink RX1 3 objectInit, .instanceMethod objectInit, .code objectInit ⟨#[0xb1]⟩ 1 none, .arrayClass .byte, .fieldLink RX1 11 "IntegerHouse$Disk" "blocks" "[B", .arrayClass .boolean, .fieldLink RX1 15 "IntegerHouse$Disk" "torn" "[Z", .fieldLink RX1 19 "IntegerHouse$Disk" "image" "[B", .fieldLink RX1 22 "IntegerHouse$Disk" "waits" "[B", .fieldLink RX1 25 "IntegerHouse$Disk" "cutAt" "I"] ++ wsX10)
def wsX2_init : List Cond := .code yX2_init cX2_init 1 none :: ([.methodLink RX2 3 objectInit, .instanceMethod objectInit, .code objectInit ⟨#[0xb1]⟩ 1 none, .arrayClass .long, .fieldLink RX2 9 "IntegerHouse$House" "variableNames" "[J", .fieldLink RX2 15 "IntegerHouse$House" "claimNames" "[J", .arrayClass .int, .fieldLink RX2 18 "IntegerHouse$House" "tokens" "[I", .fieldLink RX2 22 "IntegerHouse$House" "steps" "[I", .fieldLink RX2 25 "IntegerHouse$House" "code" "[I", .fieldLink RX2 28 "IntegerHouse$House" "facts" "[I", .fieldLink RX2 31 "IntegerHouse$House" "atoms" "[I", .fieldLink RX2 34 "IntegerHouse$House" "pool" "[I", .fieldLink RX2 37 "IntegerHouse$House" "marks" "[I", .arrayClass .byte, .fieldLink RX2 40 "IntegerHouse$House" "shown" "[B"] ++ wsX20)
theorem dX1_init_0 : decode cX1_init 0 = .ok (.aload_n 0, 1) := by decide +kernel
theorem dX1_init_1 : decode cX1_init 1 = .ok (.invokespecial 3, 3) := by decide +kernel
theorem dX1_init_4 : decode cX1_init 4 = .ok (.aload_n 0, 1) := by decide +kernel
theorem dX1_init_5 : decode cX1_init 5 = .ok (.sipush 25600, 3) := by decide +kernel
theorem dX1_init_8 : decode cX1_init 8 = .ok (.newarray .byte, 2) := by decide +kernel
theorem dX1_init_10 : decode cX1_init 10 = .ok (.putfield 11, 3) := by decide +kernel
theorem dX1_init_13 : decode cX1_init 13 = .ok (.aload_n 0, 1) := by decide +kernel
theorem dX1_init_14 : decode cX1_init 14 = .ok (.bipush 101, 2) := by decide +kernel
theorem dX1_init_16 : decode cX1_init 16 = .ok (.newarray .boolean, 2) := by decide +kernel
theorem dX1_init_18 : decode cX1_init 18 = .ok (.putfield 15, 3) := by decide +kernel
theorem dX1_init_21 : decode cX1_init 21 = .ok (.aload_n 0, 1) := by decide +kernel
theorem dX1_init_22 : decode cX1_init 22 = .ok (.sipush 256, 3) := by decide +kernel
theorem dX1_init_25 : decode cX1_init 25 = .ok (.newarray .byte, 2) := by decide +kernel
theorem dX1_init_27 : decode cX1_init 27 = .ok (.putfield 19, 3) := by decide +kernel
theorem dX1_init_30 : decode cX1_init 30 = .ok (.aload_n 0, 1) := by decide +kernel
theorem dX1_init_31 : decode cX1_init 31 = .ok (.sipush 24800, 3) := by decide +kernel
theorem dX1_init_34 : decode cX1_init 34 = .ok (.newarray .byte, 2) := by decide +kernel
theorem dX1_init_36 : decode cX1_init 36 = .ok (.putfield 22, 3) := by decide +kernel
theorem dX1_init_39 : decode cX1_init 39 = .ok (.aload_n 0, 1) := by decide +kernel
theorem dX1_init_40 : decode cX1_init 40 = .ok (.iconst (-1), 1) := by decide +kernel
theorem dX1_init_41 : decode cX1_init 41 = .ok (.putfield 25, 3) := by decide +kernel
theorem dX1_init_44 : decode cX1_init 44 = .ok (.return_, 1) := by decide +kernel
theorem dX2_init_0 : decode cX2_init 0 = .ok (.aload_n 0, 1) := by decide +kernel
theorem dX2_init_1 : decode cX2_init 1 = .ok (.invokespecial 3, 3) := by decide +kernel
theorem dX2_init_4 : decode cX2_init 4 = .ok (.aload_n 0, 1) := by decide +kernel
theorem dX2_init_5 : decode cX2_init 5 = .ok (.iconst 4, 1) := by decide +kernel
theorem dX2_init_6 : decode cX2_init 6 = .ok (.newarray .long, 2) := by decide +kernel
theorem dX2_init_8 : decode cX2_init 8 = .ok (.putfield 9, 3) := by decide +kernel
theorem dX2_init_11 : decode cX2_init 11 = .ok (.aload_n 0, 1) := by decide +kernel
theorem dX2_init_12 : decode cX2_init 12 = .ok (.bipush 24, 2) := by decide +kernel
theorem dX2_init_14 : decode cX2_init 14 = .ok (.newarray .long, 2) := by decide +kernel
theorem dX2_init_16 : decode cX2_init 16 = .ok (.putfield 15, 3) := by decide +kernel
theorem dX2_init_19 : decode cX2_init 19 = .ok (.aload_n 0, 1) := by decide +kernel
theorem dX2_init_20 : decode cX2_init 20 = .ok (.sipush 3120, 3) := by decide +kernel
theorem dX2_init_23 : decode cX2_init 23 = .ok (.newarray .int, 2) := by decide +kernel
theorem dX2_init_25 : decode cX2_init 25 = .ok (.putfield 18, 3) := by decide +kernel
theorem dX2_init_28 : decode cX2_init 28 = .ok (.aload_n 0, 1) := by decide +kernel
theorem dX2_init_29 : decode cX2_init 29 = .ok (.sipush 13312, 3) := by decide +kernel
theorem dX2_init_32 : decode cX2_init 32 = .ok (.newarray .int, 2) := by decide +kernel
theorem dX2_init_34 : decode cX2_init 34 = .ok (.putfield 22, 3) := by decide +kernel
theorem dX2_init_37 : decode cX2_init 37 = .ok (.aload_n 0, 1) := by decide +kernel
theorem dX2_init_38 : decode cX2_init 38 = .ok (.sipush 26624, 3) := by decide +kernel
theorem dX2_init_41 : decode cX2_init 41 = .ok (.newarray .int, 2) := by decide +kernel
theorem dX2_init_43 : decode cX2_init 43 = .ok (.putfield 25, 3) := by decide +kernel
theorem dX2_init_46 : decode cX2_init 46 = .ok (.aload_n 0, 1) := by decide +kernel
theorem dX2_init_47 : decode cX2_init 47 = .ok (.sipush 260, 3) := by decide +kernel
theorem dX2_init_50 : decode cX2_init 50 = .ok (.newarray .int, 2) := by decide +kernel
theorem dX2_init_52 : decode cX2_init 52 = .ok (.putfield 28, 3) := by decide +kernel
theorem dX2_init_55 : decode cX2_init 55 = .ok (.aload_n 0, 1) := by decide +kernel
theorem dX2_init_56 : decode cX2_init 56 = .ok (.sipush 624, 3) := by decide +kernel
theorem dX2_init_59 : decode cX2_init 59 = .ok (.newarray .int, 2) := by decide +kernel
theorem dX2_init_61 : decode cX2_init 61 = .ok (.putfield 31, 3) := by decide +kernel
theorem dX2_init_64 : decode cX2_init 64 = .ok (.aload_n 0, 1) := by decide +kernel
theorem dX2_init_65 : decode cX2_init 65 = .ok (.sipush 3840, 3) := by decide +kernel
theorem dX2_init_68 : decode cX2_init 68 = .ok (.newarray .int, 2) := by decide +kernel
theorem dX2_init_70 : decode cX2_init 70 = .ok (.putfield 34, 3) := by decide +kernel
theorem dX2_init_73 : decode cX2_init 73 = .ok (.aload_n 0, 1) := by decide +kernel
theorem dX2_init_74 : decode cX2_init 74 = .ok (.bipush 32, 2) := by decide +kernel
theorem dX2_init_76 : decode cX2_init 76 = .ok (.newarray .int, 2) := by decide +kernel
theorem dX2_init_78 : decode cX2_init 78 = .ok (.putfield 37, 3) := by decide +kernel
theorem dX2_init_81 : decode cX2_init 81 = .ok (.aload_n 0, 1) := by decide +kernel
theorem dX2_init_82 : decode cX2_init 82 = .ok (.sipush 1200, 3) := by decide +kernel
theorem dX2_init_85 : decode cX2_init 85 = .ok (.newarray .byte, 2) := by decide +kernel
theorem dX2_init_87 : decode cX2_init 87 = .ok (.putfield 40, 3) := by decide +kernel
theorem dX2_init_90 : decode cX2_init 90 = .ok (.return_, 1) := by decide +kernel
set_option maxHeartbeats 4000000 in
set_option maxRecDepth 100000 in
theorem c_X1_init_0 (l : Launch) (E : kE) (D : va_G) (cI cJ cB cZ : ClassId) (h0 : Nat)  : kV l E D (kT cI cJ cB cZ) yX1_init wsX1_init ({ frames := 1, cells := 4, slots := 50757, locals := 12 }) [.ref h0] [(h0, .inr (1, [.null, .null, .null, .null, .int 0, .int 0, .int 0, .int 0, .int 0]))] (fun u : Nat → Nat => [(h0, .inr (1, [.ref (u 0), .ref (u 1), .ref (u 2), .ref (u 3), .int 0, .int 0, .int (-1), .int 0, .int 0])), ((u 0), .inl (cB, 25600, .inl (fun _ => 0))), ((u 1), .inl (cZ, 101, .inl (fun _ => 0))), ((u 2), .inl (cB, 256, .inl (fun _ => 0))), ((u 3), .inl (cB, 24800, .inl (fun _ => 0)))]) 4 50757 := by
  intro sz
  refine Met.ofW (cc := cX1_init) (maxL := 1) (ret := none) (by decide) rfl ?_
  intro p e s m args below meth c s₁ B hml hv
  obtain ⟨rfl, hsz, hP, hK, hD0, hN, hX⟩ := hv
  have hx := B.exec
  have hb := B.bytes
  have hr := B.returns
  have hts := atoms_spec (ws := wsX1_init) B.pre
  have hown : s.vm.findClass RX1 = some m.cls := findClass_of_methodNamed B.named
  have hlocks := B.notSynchronized
  have hin0 : meth.name = "<init>" := (name_of_methodNamed B.named B.method).1
  have hin1 : ∀ w ∈ wsX10, w ∈ wsX1_init := (fun w h => (List.mem_cons_of_mem _ (List.mem_append_right _ h)))
  subst hsz
  have hD := hD0.self (sz := s.heap.size)
  have hAE := k_AE hD0 hX
  generalize hAe : va_A [(h0, .inr (1, [.null, .null, .null, .null, .int 0, .int 0, .int 0, .int 0, .int 0]))] s.heap.size = A at hD hAE ⊢
  have hA : ∀ q : Nat, s.heap.size ≤ q → A q := fun q h => by rw [← hAe]; exact Or.inr h
  have hS : va_S A s.heap s.heap [] := va_S.rf
  have hP : va_P D vwCl [(h0, .inr (1, [.null, .null, .null, .null, .int 0, .int 0, .int 0, .int 0, .int 0]))] s.heap := hP
  have hl := lv_entry ([.ref h0] : List Value) (n := 1) (Nat.le_of_ble_eq_true rfl)
  rw [lg_entry_eq]
  generalize (lg_sl ([.ref h0]) ++ List.replicate (1 - (lg_sl ([.ref h0])).length) Slot.unset).toArray = ls at hl ⊢
  have hl : lv_has ls 1 [(0, .ref h0)] := hl
  refine lv_aload_n hx hb dX1_init_0 rfl (lv_at hl 0 rfl) ?_
  refine W.objInit hx hb hown (hts (.methodLink RX1 3 objectInit) (List.mem_cons_of_mem _ (List.mem_append_left _ (List.mem_of_getElem? (i := 0) rfl)))) (hts (.instanceMethod objectInit) (List.mem_cons_of_mem _ (List.mem_append_left _ (List.mem_of_getElem? (i := 1) rfl)))) (hts (.code objectInit ⟨#[0xb1]⟩ 1 none) (List.mem_cons_of_mem _ (List.mem_append_left _ (List.mem_of_getElem? (i := 2) rfl)))) rfl (by rw [hml]; exact hl.1) rfl dX1_init_1 (Nat.le_of_ble_eq_true rfl) (Nat.le_of_ble_eq_true rfl) ?_
  refine W.eq (g2 := F0 m 4 ls []) rfl ?_
  refine lv_aload_n hx hb dX1_init_4 rfl (lv_at hl 0 rfl) ?_
  refine lv_sipush (v := 25600) hx hb dX1_init_5 (by decide) ?_
  refine k_newa (atype := .byte) (ty := .byte) (N' := 25600) (a0 := (25600, .inl (fun _ => 0))) hx hb (hts (.arrayClass .byte) (List.mem_cons_of_mem _ (List.mem_append_left _ (List.mem_of_getElem? (i := 3) rfl)))) rfl hK hP hD hS hA 2 rfl (fun _ => rfl) (by decide) (by decide) (Nat.le_of_ble_eq_true rfl) (Nat.le_of_ble_eq_true rfl) (Nat.le_of_ble_eq_true rfl) dX1_init_8 (fun q0 H hP hD hS => ?_)
  have hP : va_P D vwCl [(h0, .inr (1, [.null, .null, .null, .null, .int 0, .int 0, .int 0, .int 0, .int 0])), (q0, .inl (cB, 25600, .inl (fun _ => 0)))] H := hP
  have hD : va_D A [(h0, .inr (1, [.null, .null, .null, .null, .int 0, .int 0, .int 0, .int 0, .int 0])), (q0, .inl (cB, 25600, .inl (fun _ => 0)))] := hD
  refine W.widen (k := 1) (n := 25600) (Nat.le_of_ble_eq_true rfl) (Nat.le_of_ble_eq_true rfl) ?_
  refine va_putF (D := D) (ref := "IntegerHouse$Disk") (ci := 1) (v := .ref q0) (ty := (.array .byte)) (C := RX1) (T := TX1) (N := 9) hx hb hts hin1 tyX1 tyX1_ok nmX1 hown hK hP hD hS 0 rfl rfl 0 (by decide) (hts (.fieldLink RX1 11 "IntegerHouse$Disk" "blocks" "[B") (List.mem_cons_of_mem _ (List.mem_append_left _ (List.mem_of_getElem? (i := 4) rfl)))) (fun _ h9 => h9) rfl hin0 rfl (by decide +kernel) rfl rfl (Nat.le_of_ble_eq_true rfl) dX1_init_10 (fun H locs hP hD hS => ?_)
  have hP : va_P D vwCl [(h0, .inr (1, [.ref q0, .null, .null, .null, .int 0, .int 0, .int 0, .int 0, .int 0])), (q0, .inl (cB, 25600, .inl (fun _ => 0)))] H := hP
  have hD : va_D A [(h0, .inr (1, [.ref q0, .null, .null, .null, .int 0, .int 0, .int 0, .int 0, .int 0])), (q0, .inl (cB, 25600, .inl (fun _ => 0)))] := hD
  refine lv_aload_n hx hb dX1_init_13 rfl (lv_at hl 0 rfl) ?_
  refine lv_bipush (v := 101) hx hb dX1_init_14 (by decide) ?_
  refine k_newa (atype := .boolean) (ty := .boolean) (N' := 101) (a0 := (101, .inl (fun _ => 0))) hx hb (hts (.arrayClass .boolean) (List.mem_cons_of_mem _ (List.mem_append_left _ (List.mem_of_getElem? (i := 5) rfl)))) rfl hK hP hD hS hA 3 rfl (fun _ => rfl) (by decide) (by decide) (Nat.le_of_ble_eq_true rfl) (Nat.le_of_ble_eq_true rfl) (Nat.le_of_ble_eq_true rfl) dX1_init_16 (fun q1 H hP hD hS => ?_)
  have hP : va_P D vwCl [(h0, .inr (1, [.ref q0, .null, .null, .null, .int 0, .int 0, .int 0, .int 0, .int 0])), (q0, .inl (cB, 25600, .inl (fun _ => 0))), (q1, .inl (cZ, 101, .inl (fun _ => 0)))] H := hP
  have hD : va_D A [(h0, .inr (1, [.ref q0, .null, .null, .null, .int 0, .int 0, .int 0, .int 0, .int 0])), (q0, .inl (cB, 25600, .inl (fun _ => 0))), (q1, .inl (cZ, 101, .inl (fun _ => 0)))] := hD
  refine W.widen (k := 2) (n := 25701) (Nat.le_of_ble_eq_true rfl) (Nat.le_of_ble_eq_true rfl) ?_
  refine va_putF (D := D) (ref := "IntegerHouse$Disk") (ci := 1) (v := .ref q1) (ty := (.array .boolean)) (C := RX1) (T := TX1) (N := 9) hx hb hts hin1 tyX1 tyX1_ok nmX1 hown hK hP hD hS 0 rfl rfl 1 (by decide) (hts (.fieldLink RX1 15 "IntegerHouse$Disk" "torn" "[Z") (List.mem_cons_of_mem _ (List.mem_append_left _ (List.mem_of_getElem? (i := 6) rfl)))) (fun _ h9 => h9) rfl hin0 rfl (by decide +kernel) rfl rfl (Nat.le_of_ble_eq_true rfl) dX1_init_18 (fun H locs hP hD hS => ?_)
  have hP : va_P D vwCl [(h0, .inr (1, [.ref q0, .ref q1, .null, .null, .int 0, .int 0, .int 0, .int 0, .int 0])), (q0, .inl (cB, 25600, .inl (fun _ => 0))), (q1, .inl (cZ, 101, .inl (fun _ => 0)))] H := hP
  have hD : va_D A [(h0, .inr (1, [.ref q0, .ref q1, .null, .null, .int 0, .int 0, .int 0, .int 0, .int 0])), (q0, .inl (cB, 25600, .inl (fun _ => 0))), (q1, .inl (cZ, 101, .inl (fun _ => 0)))] := hD
  refine lv_aload_n hx hb dX1_init_21 rfl (lv_at hl 0 rfl) ?_
  refine lv_sipush (v := 256) hx hb dX1_init_22 (by decide) ?_
  refine k_newa (atype := .byte) (ty := .byte) (N' := 256) (a0 := (256, .inl (fun _ => 0))) hx hb (hts (.arrayClass .byte) (List.mem_cons_of_mem _ (List.mem_append_left _ (List.mem_of_getElem? (i := 3) rfl)))) rfl hK hP hD hS hA 2 rfl (fun _ => rfl) (by decide) (by decide) (Nat.le_of_ble_eq_true rfl) (Nat.le_of_ble_eq_true rfl) (Nat.le_of_ble_eq_true rfl) dX1_init_25 (fun q2 H hP hD hS => ?_)
  have hP : va_P D vwCl [(h0, .inr (1, [.ref q0, .ref q1, .null, .null, .int 0, .int 0, .int 0, .int 0, .int 0])), (q0, .inl (cB, 25600, .inl (fun _ => 0))), (q1, .inl (cZ, 101, .inl (fun _ => 0))), (q2, .inl (cB, 256, .inl (fun _ => 0)))] H := hP
  have hD : va_D A [(h0, .inr (1, [.ref q0, .ref q1, .null, .null, .int 0, .int 0, .int 0, .int 0, .int 0])), (q0, .inl (cB, 25600, .inl (fun _ => 0))), (q1, .inl (cZ, 101, .inl (fun _ => 0))), (q2, .inl (cB, 256, .inl (fun _ => 0)))] := hD
  refine W.widen (k := 3) (n := 25957) (Nat.le_of_ble_eq_true rfl) (Nat.le_of_ble_eq_true rfl) ?_
  refine va_putF (D := D) (ref := "IntegerHouse$Disk") (ci := 1) (v := .ref q2) (ty := (.array .byte)) (C := RX1) (T := TX1) (N := 9) hx hb hts hin1 tyX1 tyX1_ok nmX1 hown hK hP hD hS 0 rfl rfl 2 (by decide) (hts (.fieldLink RX1 19 "IntegerHouse$Disk" "image" "[B") (List.mem_cons_of_mem _ (List.mem_append_left _ (List.mem_of_getElem? (i := 7) rfl)))) (fun _ h9 => h9) rfl hin0 rfl (by decide +kernel) rfl rfl (Nat.le_of_ble_eq_true rfl) dX1_init_27 (fun H locs hP hD hS => ?_)
  have hP : va_P D vwCl [(h0, .inr (1, [.ref q0, .ref q1, .ref q2, .null, .int 0, .int 0, .int 0, .int 0, .int 0])), (q0, .inl (cB, 25600, .inl (fun _ => 0))), (q1, .inl (cZ, 101, .inl (fun _ => 0))), (q2, .inl (cB, 256, .inl (fun _ => 0)))] H := hP
  have hD : va_D A [(h0, .inr (1, [.ref q0, .ref q1, .ref q2, .null, .int 0, .int 0, .int 0, .int 0, .int 0])), (q0, .inl (cB, 25600, .inl (fun _ => 0))), (q1, .inl (cZ, 101, .inl (fun _ => 0))), (q2, .inl (cB, 256, .inl (fun _ => 0)))] := hD
  refine lv_aload_n hx hb dX1_init_30 rfl (lv_at hl 0 rfl) ?_
  refine lv_sipush (v := 24800) hx hb dX1_init_31 (by decide) ?_
  refine k_newa (atype := .byte) (ty := .byte) (N' := 24800) (a0 := (24800, .inl (fun _ => 0))) hx hb (hts (.arrayClass .byte) (List.mem_cons_of_mem _ (List.mem_append_left _ (List.mem_of_getElem? (i := 3) rfl)))) rfl hK hP hD hS hA 2 rfl (fun _ => rfl) (by decide) (by decide) (Nat.le_of_ble_eq_true rfl) (Nat.le_of_ble_eq_true rfl) (Nat.le_of_ble_eq_true rfl) dX1_init_34 (fun q3 H hP hD hS => ?_)
  have hP : va_P D vwCl [(h0, .inr (1, [.ref q0, .ref q1, .ref q2, .null, .int 0, .int 0, .int 0, .int 0, .int 0])), (q0, .inl (cB, 25600, .inl (fun _ => 0))), (q1, .inl (cZ, 101, .inl (fun _ => 0))), (q2, .inl (cB, 256, .inl (fun _ => 0))), (q3, .inl (cB, 24800, .inl (fun _ => 0)))] H := hP
  have hD : va_D A [(h0, .inr (1, [.ref q0, .ref q1, .ref q2, .null, .int 0, .int 0, .int 0, .int 0, .int 0])), (q0, .inl (cB, 25600, .inl (fun _ => 0))), (q1, .inl (cZ, 101, .inl (fun _ => 0))), (q2, .inl (cB, 256, .inl (fun _ => 0))), (q3, .inl (cB, 24800, .inl (fun _ => 0)))] := hD
  refine W.widen (k := 4) (n := 50757) (Nat.le_of_ble_eq_true rfl) (Nat.le_of_ble_eq_true rfl) ?_
  refine va_putF (D := D) (ref := "IntegerHouse$Disk") (ci := 1) (v := .ref q3) (ty := (.array .byte)) (C := RX1) (T := TX1) (N := 9) hx hb hts hin1 tyX1 tyX1_ok nmX1 hown hK hP hD hS 0 rfl rfl 3 (by decide) (hts (.fieldLink RX1 22 "IntegerHouse$Disk" "waits" "[B") (List.mem_cons_of_mem _ (List.mem_append_left _ (List.mem_of_getElem? (i := 8) rfl)))) (fun _ h9 => h9) rfl hin0 rfl (by decide +kernel) rfl rfl (Nat.le_of_ble_eq_true rfl) dX1_init_36 (fun H locs hP hD hS => ?_)
  have hP : va_P D vwCl [(h0, .inr (1, [.ref q0, .ref q1, .ref q2, .ref q3, .int 0, .int 0, .int 0, .int 0, .int 0])), (q0, .inl (cB, 25600, .inl (fun _ => 0))), (q1, .inl (cZ, 101, .inl (fun _ => 0))), (q2, .inl (cB, 256, .inl (fun _ => 0))), (q3, .inl (cB, 24800, .inl (fun _ => 0)))] H := hP
  have hD : va_D A [(h0, .inr (1, [.ref q0, .ref q1, .ref q2, .ref q3, .int 0, .int 0, .int 0, .int 0, .int 0])), (q0, .inl (cB, 25600, .inl (fun _ => 0))), (q1, .inl (cZ, 101, .inl (fun _ => 0))), (q2, .inl (cB, 256, .inl (fun _ => 0))), (q3, .inl (cB, 24800, .inl (fun _ => 0)))] := hD
  refine lv_aload_n hx hb dX1_init_39 rfl (lv_at hl 0 rfl) ?_
  refine lv_iconst (v := (-1)) hx hb dX1_init_40 (by decide) ?_
  refine va_put (D := D) (ref := "IntegerHouse$Disk") (ci := 1) (v := .int (-1)) (ty := .int) (C := RX1) (T := TX1) (N := 9) hx hb hts hin1 tyX1 tyX1_ok nmX1 hown hK hP hD hS 0 rfl rfl 6 (by decide) (hts (.fieldLink RX1 25 "IntegerHouse$Disk" "cutAt" "I") (List.mem_cons_of_mem _ (List.mem_append_left _ (List.mem_of_getElem? (i := 9) rfl)))) (fun _ h9 => h9) rfl (by decide +kernel) rfl rfl (Nat.le_of_ble_eq_true rfl) dX1_init_41 (fun H locs hP hD hS => ?_)
  have hP : va_P D vwCl [(h0, .inr (1, [.ref q0, .ref q1, .ref q2, .ref q3, .int 0, .int 0, .int (-1), .int 0, .int 0])), (q0, .inl (cB, 25600, .inl (fun _ => 0))), (q1, .inl (cZ, 101, .inl (fun _ => 0))), (q2, .inl (cB, 256, .inl (fun _ => 0))), (q3, .inl (cB, 24800, .inl (fun _ => 0)))] H := hP
  have hD : va_D A [(h0, .inr (1, [.ref q0, .ref q1, .ref q2, .ref q3, .int 0, .int 0, .int (-1), .int 0, .int 0])), (q0, .inl (cB, 25600, .inl (fun _ => 0))), (q1, .inl (cZ, 101, .inl (fun _ => 0))), (q2, .inl (cB, 256, .inl (fun _ => 0))), (q3, .inl (cB, 24800, .inl (fun _ => 0)))] := hD
  exact W.vret hx hb hr (fun t ht hW => ⟨⟨(fun k => [q0, q1, q2, q3].getD k 0), rfl, trivial, kB_mk (u := (fun k => [q0, q1, q2, q3].getD k 0)) ht hW hP hK hD⟩, hS.F ht⟩) hS.2.2 dX1_init_44
set_option maxHeartbeats 4000000 in
set_option maxRecDepth 100000 in
theorem c_X2_init_0 (l : Launch) (E : kE) (D : va_G) (cI cJ cB cZ : ClassId) (h0 : Nat)  : kV l E D (kT cI cJ cB cZ) yX2_init wsX2_init ({ frames := 1, cells := 10, slots := 49040, locals := 12 }) [.ref h0] [(h0, .inr (2, [.null, .null, .null, .null, .null, .null, .null, .null, .null, .null, .int 0, .int 0, .int 0, .int 0, .int 0, .int 0]))] (fun u : Nat → Nat => [(h0, .inr (2, [.ref (u 0), .ref (u 1), .ref (u 2), .ref (u 3), .ref (u 4), .ref (u 5), .ref (u 6), .ref (u 7), .ref (u 8), .ref (u 9), .int 0, .int 0, .int 0, .int 0, .int 0, .int 0])), ((u 0), .inl (cJ, 4, .inr (.inl (fun _ => 0)))), ((u 1), .inl (cJ, 24, .inr (.inl (fun _ => 0)))), ((u 2), .inl (cI, 3120, .inl (fun _ => 0))), ((u 3), .inl (cI, 13312, .inl (fun _ => 0))), ((u 4), .inl (cI, 26624, .inl (fun _ => 0))), ((u 5), .inl (cI, 260, .inl (fun _ => 0))), ((u 6), .inl (cI, 624, .inl (fun _ => 0))), ((u 7), .inl (cI, 3840, .inl (fun _ => 0))), ((u 8), .inl (cI, 32, .inl (fun _ => 0))), ((u 9), .inl (cB, 1200, .inl (fun _ => 0)))]) 10 49040 := by
  intro sz
  refine Met.ofW (cc := cX2_init) (maxL := 1) (ret := none) (by decide) rfl ?_
  intro p e s m args below meth c s₁ B hml hv
  obtain ⟨rfl, hsz, hP, hK, hD0, hN, hX⟩ := hv
  have hx := B.exec
  have hb := B.bytes
  have hr := B.returns
  have hts := atoms_spec (ws := wsX2_init) B.pre
  have hown : s.vm.findClass RX2 = some m.cls := findClass_of_methodNamed B.named
  have hlocks := B.notSynchronized
  have hin0 : meth.name = "<init>" := (name_of_methodNamed B.named B.method).1
  have hin2 : ∀ w ∈ wsX20, w ∈ wsX2_init := (fun w h => (List.mem_cons_of_mem _ (List.mem_append_right _ h)))
  subst hsz
  have hD := hD0.self (sz := s.heap.size)
  have hAE := k_AE hD0 hX
  generalize hAe : va_A [(h0, .inr (2, [.null, .null, .null, .null, .null, .null, .null, .null, .null, .null, .int 0, .int 0, .int 0, .int 0, .int 0, .int 0]))] s.heap.size = A at hD hAE ⊢
  have hA : ∀ q : Nat, s.heap.size ≤ q → A q := fun q h => by rw [← hAe]; exact Or.inr h
  have hS : va_S A s.heap s.heap [] := va_S.rf
  have hP : va_P D vwCl [(h0, .inr (2, [.null, .null, .null, .null, .null, .null, .null, .null, .null, .null, .int 0, .int 0, .int 0, .int 0, .int 0, .int 0]))] s.heap := hP
  have hl := lv_entry ([.ref h0] : List Value) (n := 1) (Nat.le_of_ble_eq_true rfl)
  rw [lg_entry_eq]
  generalize (lg_sl ([.ref h0]) ++ List.replicate (1 - (lg_sl ([.ref h0])).length) Slot.unset).toArray = ls at hl ⊢
  have hl : lv_has ls 1 [(0, .ref h0)] := hl
  refine lv_aload_n hx hb dX2_init_0 rfl (lv_at hl 0 rfl) ?_
  refine W.objInit hx hb hown (hts (.methodLink RX2 3 objectInit) (List.mem_cons_of_mem _ (List.mem_append_left _ (List.mem_of_getElem? (i := 0) rfl)))) (hts (.instanceMethod objectInit) (List.mem_cons_of_mem _ (List.mem_append_left _ (List.mem_of_getElem? (i := 1) rfl)))) (hts (.code objectInit ⟨#[0xb1]⟩ 1 none) (List.mem_cons_of_mem _ (List.mem_append_left _ (List.mem_of_getElem? (i := 2) rfl)))) rfl (by rw [hml]; exact hl.1) rfl dX2_init_1 (Nat.le_of_ble_eq_true rfl) (Nat.le_of_ble_eq_true rfl) ?_
  refine W.eq (g2 := F0 m 4 ls []) rfl ?_
  refine lv_aload_n hx hb dX2_init_4 rfl (lv_at hl 0 rfl) ?_
  refine lv_iconst (v := 4) hx hb dX2_init_5 (by decide) ?_
  refine k_newa (atype := .long) (ty := .long) (N' := 4) (a0 := (4, .inr (.inl (fun _ => 0)))) hx hb (hts (.arrayClass .long) (List.mem_cons_of_mem _ (List.mem_append_left _ (List.mem_of_getElem? (i := 3) rfl)))) rfl hK hP hD hS hA 1 rfl (fun _ => rfl) (by decide) (by decide) (Nat.le_of_ble_eq_true rfl) (Nat.le_of_ble_eq_true rfl) (Nat.le_of_ble_eq_true rfl) dX2_init_6 (fun q0 H hP hD hS => ?_)
  have hP : va_P D vwCl [(h0, .inr (2, [.null, .null, .null, .null, .null, .null, .null, .null, .null, .null, .int 0, .int 0, .int 0, .int 0, .int 0, .int 0])), (q0, .inl (cJ, 4, .inr (.inl (fun _ => 0))))] H := hP
  have hD : va_D A [(h0, .inr (2, [.null, .null, .null, .null, .null, .null, .null, .null, .null, .null, .int 0, .int 0, .int 0, .int 0, .int 0, .int 0])), (q0, .inl (cJ, 4, .inr (.inl (fun _ => 0))))] := hD
  refine W.widen (k := 1) (n := 4) (Nat.le_of_ble_eq_true rfl) (Nat.le_of_ble_eq_true rfl) ?_
  refine va_putF (D := D) (ref := "IntegerHouse$House") (ci := 2) (v := .ref q0) (ty := (.array .long)) (C := RX2) (T := TX2) (N := 16) hx hb hts hin2 tyX2 tyX2_ok nmX2 hown hK hP hD hS 0 rfl rfl 0 (by decide) (hts (.fieldLink RX2 9 "IntegerHouse$House" "variableNames" "[J") (List.mem_cons_of_mem _ (List.mem_append_left _ (List.mem_of_getElem? (i := 4) rfl)))) (fun _ h9 => h9) rfl hin0 rfl (by decide +kernel) rfl rfl (Nat.le_of_ble_eq_true rfl) dX2_init_8 (fun H locs hP hD hS => ?_)
  have hP : va_P D vwCl [(h0, .inr (2, [.ref q0, .null, .null, .null, .null, .null, .null, .null, .null, .null, .int 0, .int 0, .int 0, .int 0, .int 0, .int 0])), (q0, .inl (cJ, 4, .inr (.inl (fun _ => 0))))] H := hP
  have hD : va_D A [(h0, .inr (2, [.ref q0, .null, .null, .null, .null, .null, .null, .null, .null, .null, .int 0, .int 0, .int 0, .int 0, .int 0, .int 0])), (q0, .inl (cJ, 4, .inr (.inl (fun _ => 0))))] := hD
  refine lv_aload_n hx hb dX2_init_11 rfl (lv_at hl 0 rfl) ?_
  refine lv_bipush (v := 24) hx hb dX2_init_12 (by decide) ?_
  refine k_newa (atype := .long) (ty := .long) (N' := 24) (a0 := (24, .inr (.inl (fun _ => 0)))) hx hb (hts (.arrayClass .long) (List.mem_cons_of_mem _ (List.mem_append_left _ (List.mem_of_getElem? (i := 3) rfl)))) rfl hK hP hD hS hA 1 rfl (fun _ => rfl) (by decide) (by decide) (Nat.le_of_ble_eq_true rfl) (Nat.le_of_ble_eq_true rfl) (Nat.le_of_ble_eq_true rfl) dX2_init_14 (fun q1 H hP hD hS => ?_)
  have hP : va_P D vwCl [(h0, .inr (2, [.ref q0, .null, .null, .null, .null, .null, .null, .null, .null, .null, .int 0, .int 0, .int 0, .int 0, .int 0, .int 0])), (q0, .inl (cJ, 4, .inr (.inl (fun _ => 0)))), (q1, .inl (cJ, 24, .inr (.inl (fun _ => 0))))] H := hP
  have hD : va_D A [(h0, .inr (2, [.ref q0, .null, .null, .null, .null, .null, .null, .null, .null, .null, .int 0, .int 0, .int 0, .int 0, .int 0, .int 0])), (q0, .inl (cJ, 4, .inr (.inl (fun _ => 0)))), (q1, .inl (cJ, 24, .inr (.inl (fun _ => 0))))] := hD
  refine W.widen (k := 2) (n := 28) (Nat.le_of_ble_eq_true rfl) (Nat.le_of_ble_eq_true rfl) ?_
  refine va_putF (D := D) (ref := "IntegerHouse$House") (ci := 2) (v := .ref q1) (ty := (.array .long)) (C := RX2) (T := TX2) (N := 16) hx hb hts hin2 tyX2 tyX2_ok nmX2 hown hK hP hD hS 0 rfl rfl 1 (by decide) (hts (.fieldLink RX2 15 "IntegerHouse$House" "claimNames" "[J") (List.mem_cons_of_mem _ (List.mem_append_left _ (List.mem_of_getElem? (i := 5) rfl)))) (fun _ h9 => h9) rfl hin0 rfl (by decide +kernel) rfl rfl (Nat.le_of_ble_eq_true rfl) dX2_init_16 (fun H locs hP hD hS => ?_)
  have hP : va_P D vwCl [(h0, .inr (2, [.ref q0, .ref q1, .null, .null, .null, .null, .null, .null, .null, .null, .int 0, .int 0, .int 0, .int 0, .int 0, .int 0])), (q0, .inl (cJ, 4, .inr (.inl (fun _ => 0)))), (q1, .inl (cJ, 24, .inr (.inl (fun _ => 0))))] H := hP
  have hD : va_D A [(h0, .inr (2, [.ref q0, .ref q1, .null, .null, .null, .null, .null, .null, .null, .null, .int 0, .int 0, .int 0, .int 0, .int 0, .int 0])), (q0, .inl (cJ, 4, .inr (.inl (fun _ => 0)))), (q1, .inl (cJ, 24, .inr (.inl (fun _ => 0))))] := hD
  refine lv_aload_n hx hb dX2_init_19 rfl (lv_at hl 0 rfl) ?_
  refine lv_sipush (v := 3120) hx hb dX2_init_20 (by decide) ?_
  refine k_newa (atype := .int) (ty := .int) (N' := 3120) (a0 := (3120, .inl (fun _ => 0))) hx hb (hts (.arrayClass .int) (List.mem_cons_of_mem _ (List.mem_append_left _ (List.mem_of_getElem? (i := 6) rfl)))) rfl hK hP hD hS hA 0 rfl (fun _ => rfl) (by decide) (by decide) (Nat.le_of_ble_eq_true rfl) (Nat.le_of_ble_eq_true rfl) (Nat.le_of_ble_eq_true rfl) dX2_init_23 (fun q2 H hP hD hS => ?_)
  have hP : va_P D vwCl [(h0, .inr (2, [.ref q0, .ref q1, .null, .null, .null, .null, .null, .null, .null, .null, .int 0, .int 0, .int 0, .int 0, .int 0, .int 0])), (q0, .inl (cJ, 4, .inr (.inl (fun _ => 0)))), (q1, .inl (cJ, 24, .inr (.inl (fun _ => 0)))), (q2, .inl (cI, 3120, .inl (fun _ => 0)))] H := hP
  have hD : va_D A [(h0, .inr (2, [.ref q0, .ref q1, .null, .null, .null, .null, .null, .null, .null, .null, .int 0, .int 0, .int 0, .int 0, .int 0, .int 0])), (q0, .inl (cJ, 4, .inr (.inl (fun _ => 0)))), (q1, .inl (cJ, 24, .inr (.inl (fun _ => 0)))), (q2, .inl (cI, 3120, .inl (fun _ => 0)))] := hD
  refine W.widen (k := 3) (n := 3148) (Nat.le_of_ble_eq_true rfl) (Nat.le_of_ble_eq_true rfl) ?_
  refine va_putF (D := D) (ref := "IntegerHouse$House") (ci := 2) (v := .ref q2) (ty := (.array .int)) (C := RX2) (T := TX2) (N := 16) hx hb hts hin2 tyX2 tyX2_ok nmX2 hown hK hP hD hS 0 rfl rfl 2 (by decide) (hts (.fieldLink RX2 18 "IntegerHouse$House" "tokens" "[I") (List.mem_cons_of_mem _ (List.mem_append_left _ (List.mem_of_getElem? (i := 7) rfl)))) (fun _ h9 => h9) rfl hin0 rfl (by decide +kernel) rfl rfl (Nat.le_of_ble_eq_true rfl) dX2_init_25 (fun H locs hP hD hS => ?_)
  have hP : va_P D vwCl [(h0, .inr (2, [.ref q0, .ref q1, .ref q2, .null, .null, .null, .null, .null, .null, .null, .int 0, .int 0, .int 0, .int 0, .int 0, .int 0])), (q0, .inl (cJ, 4, .inr (.inl (fun _ => 0)))), (q1, .inl (cJ, 24, .inr (.inl (fun _ => 0)))), (q2, .inl (cI, 3120, .inl (fun _ => 0)))] H := hP
  have hD : va_D A [(h0, .inr (2, [.ref q0, .ref q1, .ref q2, .null, .null, .null, .null, .null, .null, .null, .int 0, .int 0, .int 0, .int 0, .int 0, .int 0])), (q0, .inl (cJ, 4, .inr (.inl (fun _ => 0)))), (q1, .inl (cJ, 24, .inr (.inl (fun _ => 0)))), (q2, .inl (cI, 3120, .inl (fun _ => 0)))] := hD
  refine lv_aload_n hx hb dX2_init_28 rfl (lv_at hl 0 rfl) ?_
  refine lv_sipush (v := 13312) hx hb dX2_init_29 (by decide) ?_
  refine k_newa (atype := .int) (ty := .int) (N' := 13312) (a0 := (13312, .inl (fun _ => 0))) hx hb (hts (.arrayClass .int) (List.mem_cons_of_mem _ (List.mem_append_left _ (List.mem_of_getElem? (i := 6) rfl)))) rfl hK hP hD hS hA 0 rfl (fun _ => rfl) (by decide) (by decide) (Nat.le_of_ble_eq_true rfl) (Nat.le_of_ble_eq_true rfl) (Nat.le_of_ble_eq_true rfl) dX2_init_32 (fun q3 H hP hD hS => ?_)
  have hP : va_P D vwCl [(h0, .inr (2, [.ref q0, .ref q1, .ref q2, .null, .null, .null, .null, .null, .null, .null, .int 0, .int 0, .int 0, .int 0, .int 0, .int 0])), (q0, .inl (cJ, 4, .inr (.inl (fun _ => 0)))), (q1, .inl (cJ, 24, .inr (.inl (fun _ => 0)))), (q2, .inl (cI, 3120, .inl (fun _ => 0))), (q3, .inl (cI, 13312, .inl (fun _ => 0)))] H := hP
  have hD : va_D A [(h0, .inr (2, [.ref q0, .ref q1, .ref q2, .null, .null, .null, .null, .null, .null, .null, .int 0, .int 0, .int 0, .int 0, .int 0, .int 0])), (q0, .inl (cJ, 4, .inr (.inl (fun _ => 0)))), (q1, .inl (cJ, 24, .inr (.inl (fun _ => 0)))), (q2, .inl (cI, 3120, .inl (fun _ => 0))), (q3, .inl (cI, 13312, .inl (fun _ => 0)))] := hD
  refine W.widen (k := 4) (n := 16460) (Nat.le_of_ble_eq_true rfl) (Nat.le_of_ble_eq_true rfl) ?_
  refine va_putF (D := D) (ref := "IntegerHouse$House") (ci := 2) (v := .ref q3) (ty := (.array .int)) (C := RX2) (T := TX2) (N := 16) hx hb hts hin2 tyX2 tyX2_ok nmX2 hown hK hP hD hS 0 rfl rfl 3 (by decide) (hts (.fieldLink RX2 22 "IntegerHouse$House" "steps" "[I") (List.mem_cons_of_mem _ (List.mem_append_left _ (List.mem_of_getElem? (i := 8) rfl)))) (fun _ h9 => h9) rfl hin0 rfl (by decide +kernel) rfl rfl (Nat.le_of_ble_eq_true rfl) dX2_init_34 (fun H locs hP hD hS => ?_)
  have hP : va_P D vwCl [(h0, .inr (2, [.ref q0, .ref q1, .ref q2, .ref q3, .null, .null, .null, .null, .null, .null, .int 0, .int 0, .int 0, .int 0, .int 0, .int 0])), (q0, .inl (cJ, 4, .inr (.inl (fun _ => 0)))), (q1, .inl (cJ, 24, .inr (.inl (fun _ => 0)))), (q2, .inl (cI, 3120, .inl (fun _ => 0))), (q3, .inl (cI, 13312, .inl (fun _ => 0)))] H := hP
  have hD : va_D A [(h0, .inr (2, [.ref q0, .ref q1, .ref q2, .ref q3, .null, .null, .null, .null, .null, .null, .int 0, .int 0, .int 0, .int 0, .int 0, .int 0])), (q0, .inl (cJ, 4, .inr (.inl (fun _ => 0)))), (q1, .inl (cJ, 24, .inr (.inl (fun _ => 0)))), (q2, .inl (cI, 3120, .inl (fun _ => 0))), (q3, .inl (cI, 13312, .inl (fun _ => 0)))] := hD
  refine lv_aload_n hx hb dX2_init_37 rfl (lv_at hl 0 rfl) ?_
  refine lv_sipush (v := 26624) hx hb dX2_init_38 (by decide) ?_
  refine k_newa (atype := .int) (ty := .int) (N' := 26624) (a0 := (26624, .inl (fun _ => 0))) hx hb (hts (.arrayClass .int) (List.mem_cons_of_mem _ (List.mem_append_left _ (List.mem_of_getElem? (i := 6) rfl)))) rfl hK hP hD hS hA 0 rfl (fun _ => rfl) (by decide) (by decide) (Nat.le_of_ble_eq_true rfl) (Nat.le_of_ble_eq_true rfl) (Nat.le_of_ble_eq_true rfl) dX2_init_41 (fun q4 H hP hD hS => ?_)
  have hP : va_P D vwCl [(h0, .inr (2, [.ref q0, .ref q1, .ref q2, .ref q3, .null, .null, .null, .null, .null, .null, .int 0, .int 0, .int 0, .int 0, .int 0, .int 0])), (q0, .inl (cJ, 4, .inr (.inl (fun _ => 0)))), (q1, .inl (cJ, 24, .inr (.inl (fun _ => 0)))), (q2, .inl (cI, 3120, .inl (fun _ => 0))), (q3, .inl (cI, 13312, .inl (fun _ => 0))), (q4, .inl (cI, 26624, .inl (fun _ => 0)))] H := hP
  have hD : va_D A [(h0, .inr (2, [.ref q0, .ref q1, .ref q2, .ref q3, .null, .null, .null, .null, .null, .null, .int 0, .int 0, .int 0, .int 0, .int 0, .int 0])), (q0, .inl (cJ, 4, .inr (.inl (fun _ => 0)))), (q1, .inl (cJ, 24, .inr (.inl (fun _ => 0)))), (q2, .inl (cI, 3120, .inl (fun _ => 0))), (q3, .inl (cI, 13312, .inl (fun _ => 0))), (q4, .inl (cI, 26624, .inl (fun _ => 0)))] := hD
  refine W.widen (k := 5) (n := 43084) (Nat.le_of_ble_eq_true rfl) (Nat.le_of_ble_eq_true rfl) ?_
  refine va_putF (D := D) (ref := "IntegerHouse$House") (ci := 2) (v := .ref q4) (ty := (.array .int)) (C := RX2) (T := TX2) (N := 16) hx hb hts hin2 tyX2 tyX2_ok nmX2 hown hK hP hD hS 0 rfl rfl 4 (by decide) (hts (.fieldLink RX2 25 "IntegerHouse$House" "code" "[I") (List.mem_cons_of_mem _ (List.mem_append_left _ (List.mem_of_getElem? (i := 9) rfl)))) (fun _ h9 => h9) rfl hin0 rfl (by decide +kernel) rfl rfl (Nat.le_of_ble_eq_true rfl) dX2_init_43 (fun H locs hP hD hS => ?_)
  have hP : va_P D vwCl [(h0, .inr (2, [.ref q0, .ref q1, .ref q2, .ref q3, .ref q4, .null, .null, .null, .null, .null, .int 0, .int 0, .int 0, .int 0, .int 0, .int 0])), (q0, .inl (cJ, 4, .inr (.inl (fun _ => 0)))), (q1, .inl (cJ, 24, .inr (.inl (fun _ => 0)))), (q2, .inl (cI, 3120, .inl (fun _ => 0))), (q3, .inl (cI, 13312, .inl (fun _ => 0))), (q4, .inl (cI, 26624, .inl (fun _ => 0)))] H := hP
  have hD : va_D A [(h0, .inr (2, [.ref q0, .ref q1, .ref q2, .ref q3, .ref q4, .null, .null, .null, .null, .null, .int 0, .int 0, .int 0, .int 0, .int 0, .int 0])), (q0, .inl (cJ, 4, .inr (.inl (fun _ => 0)))), (q1, .inl (cJ, 24, .inr (.inl (fun _ => 0)))), (q2, .inl (cI, 3120, .inl (fun _ => 0))), (q3, .inl (cI, 13312, .inl (fun _ => 0))), (q4, .inl (cI, 26624, .inl (fun _ => 0)))] := hD
  refine lv_aload_n hx hb dX2_init_46 rfl (lv_at hl 0 rfl) ?_
  refine lv_sipush (v := 260) hx hb dX2_init_47 (by decide) ?_
  refine k_newa (atype := .int) (ty := .int) (N' := 260) (a0 := (260, .inl (fun _ => 0))) hx hb (hts (.arrayClass .int) (List.mem_cons_of_mem _ (List.mem_append_left _ (List.mem_of_getElem? (i := 6) rfl)))) rfl hK hP hD hS hA 0 rfl (fun _ => rfl) (by decide) (by decide) (Nat.le_of_ble_eq_true rfl) (Nat.le_of_ble_eq_true rfl) (Nat.le_of_ble_eq_true rfl) dX2_init_50 (fun q5 H hP hD hS => ?_)
  have hP : va_P D vwCl [(h0, .inr (2, [.ref q0, .ref q1, .ref q2, .ref q3, .ref q4, .null, .null, .null, .null, .null, .int 0, .int 0, .int 0, .int 0, .int 0, .int 0])), (q0, .inl (cJ, 4, .inr (.inl (fun _ => 0)))), (q1, .inl (cJ, 24, .inr (.inl (fun _ => 0)))), (q2, .inl (cI, 3120, .inl (fun _ => 0))), (q3, .inl (cI, 13312, .inl (fun _ => 0))), (q4, .inl (cI, 26624, .inl (fun _ => 0))), (q5, .inl (cI, 260, .inl (fun _ => 0)))] H := hP
  have hD : va_D A [(h0, .inr (2, [.ref q0, .ref q1, .ref q2, .ref q3, .ref q4, .null, .null, .null, .null, .null, .int 0, .int 0, .int 0, .int 0, .int 0, .int 0])), (q0, .inl (cJ, 4, .inr (.inl (fun _ => 0)))), (q1, .inl (cJ, 24, .inr (.inl (fun _ => 0)))), (q2, .inl (cI, 3120, .inl (fun _ => 0))), (q3, .inl (cI, 13312, .inl (fun _ => 0))), (q4, .inl (cI, 26624, .inl (fun _ => 0))), (q5, .inl (cI, 260, .inl (fun _ => 0)))] := hD
  refine W.widen (k := 6) (n := 43344) (Nat.le_of_ble_eq_true rfl) (Nat.le_of_ble_eq_true rfl) ?_
  refine va_putF (D := D) (ref := "IntegerHouse$House") (ci := 2) (v := .ref q5) (ty := (.array .int)) (C := RX2) (T := TX2) (N := 16) hx hb hts hin2 tyX2 tyX2_ok nmX2 hown hK hP hD hS 0 rfl rfl 5 (by decide) (hts (.fieldLink RX2 28 "IntegerHouse$House" "facts" "[I") (List.mem_cons_of_mem _ (List.mem_append_left _ (List.mem_of_getElem? (i := 10) rfl)))) (fun _ h9 => h9) rfl hin0 rfl (by decide +kernel) rfl rfl (Nat.le_of_ble_eq_true rfl) dX2_init_52 (fun H locs hP hD hS => ?_)
  have hP : va_P D vwCl [(h0, .inr (2, [.ref q0, .ref q1, .ref q2, .ref q3, .ref q4, .ref q5, .null, .null, .null, .null, .int 0, .int 0, .int 0, .int 0, .int 0, .int 0])), (q0, .inl (cJ, 4, .inr (.inl (fun _ => 0)))), (q1, .inl (cJ, 24, .inr (.inl (fun _ => 0)))), (q2, .inl (cI, 3120, .inl (fun _ => 0))), (q3, .inl (cI, 13312, .inl (fun _ => 0))), (q4, .inl (cI, 26624, .inl (fun _ => 0))), (q5, .inl (cI, 260, .inl (fun _ => 0)))] H := hP
  have hD : va_D A [(h0, .inr (2, [.ref q0, .ref q1, .ref q2, .ref q3, .ref q4, .ref q5, .null, .null, .null, .null, .int 0, .int 0, .int 0, .int 0, .int 0, .int 0])), (q0, .inl (cJ, 4, .inr (.inl (fun _ => 0)))), (q1, .inl (cJ, 24, .inr (.inl (fun _ => 0)))), (q2, .inl (cI, 3120, .inl (fun _ => 0))), (q3, .inl (cI, 13312, .inl (fun _ => 0))), (q4, .inl (cI, 26624, .inl (fun _ => 0))), (q5, .inl (cI, 260, .inl (fun _ => 0)))] := hD
  refine lv_aload_n hx hb dX2_init_55 rfl (lv_at hl 0 rfl) ?_
  refine lv_sipush (v := 624) hx hb dX2_init_56 (by decide) ?_
  refine k_newa (atype := .int) (ty := .int) (N' := 624) (a0 := (624, .inl (fun _ => 0))) hx hb (hts (.arrayClass .int) (List.mem_cons_of_mem _ (List.mem_append_left _ (List.mem_of_getElem? (i := 6) rfl)))) rfl hK hP hD hS hA 0 rfl (fun _ => rfl) (by decide) (by decide) (Nat.le_of_ble_eq_true rfl) (Nat.le_of_ble_eq_true rfl) (Nat.le_of_ble_eq_true rfl) dX2_init_59 (fun q6 H hP hD hS => ?_)
  have hP : va_P D vwCl [(h0, .inr (2, [.ref q0, .ref q1, .ref q2, .ref q3, .ref q4, .ref q5, .null, .null, .null, .null, .int 0, .int 0, .int 0, .int 0, .int 0, .int 0])), (q0, .inl (cJ, 4, .inr (.inl (fun _ => 0)))), (q1, .inl (cJ, 24, .inr (.inl (fun _ => 0)))), (q2, .inl (cI, 3120, .inl (fun _ => 0))), (q3, .inl (cI, 13312, .inl (fun _ => 0))), (q4, .inl (cI, 26624, .inl (fun _ => 0))), (q5, .inl (cI, 260, .inl (fun _ => 0))), (q6, .inl (cI, 624, .inl (fun _ => 0)))] H := hP
  have hD : va_D A [(h0, .inr (2, [.ref q0, .ref q1, .ref q2, .ref q3, .ref q4, .ref q5, .null, .null, .null, .null, .int 0, .int 0, .int 0, .int 0, .int 0, .int 0])), (q0, .inl (cJ, 4, .inr (.inl (fun _ => 0)))), (q1, .inl (cJ, 24, .inr (.inl (fun _ => 0)))), (q2, .inl (cI, 3120, .inl (fun _ => 0))), (q3, .inl (cI, 13312, .inl (fun _ => 0))), (q4, .inl (cI, 26624, .inl (fun _ => 0))), (q5, .inl (cI, 260, .inl (fun _ => 0))), (q6, .inl (cI, 624, .inl (fun _ => 0)))] := hD
  refine W.widen (k := 7) (n := 43968) (Nat.le_of_ble_eq_true rfl) (Nat.le_of_ble_eq_true rfl) ?_
  refine va_putF (D := D) (ref := "IntegerHouse$House") (ci := 2) (v := .ref q6) (ty := (.array .int)) (C := RX2) (T := TX2) (N := 16) hx hb hts hin2 tyX2 tyX2_ok nmX2 hown hK hP hD hS 0 rfl rfl 6 (by decide) (hts (.fieldLink RX2 31 "IntegerHouse$House" "atoms" "[I") (List.mem_cons_of_mem _ (List.mem_append_left _ (List.mem_of_getElem? (i := 11) rfl)))) (fun _ h9 => h9) rfl hin0 rfl (by decide +kernel) rfl rfl (Nat.le_of_ble_eq_true rfl) dX2_init_61 (fun H locs hP hD hS => ?_)
  have hP : va_P D vwCl [(h0, .inr (2, [.ref q0, .ref q1, .ref q2, .ref q3, .ref q4, .ref q5, .ref q6, .null, .null, .null, .int 0, .int 0, .int 0, .int 0, .int 0, .int 0])), (q0, .inl (cJ, 4, .inr (.inl (fun _ => 0)))), (q1, .inl (cJ, 24, .inr (.inl (fun _ => 0)))), (q2, .inl (cI, 3120, .inl (fun _ => 0))), (q3, .inl (cI, 13312, .inl (fun _ => 0))), (q4, .inl (cI, 26624, .inl (fun _ => 0))), (q5, .inl (cI, 260, .inl (fun _ => 0))), (q6, .inl (cI, 624, .inl (fun _ => 0)))] H := hP
  have hD : va_D A [(h0, .inr (2, [.ref q0, .ref q1, .ref q2, .ref q3, .ref q4, .ref q5, .ref q6, .null, .null, .null, .int 0, .int 0, .int 0, .int 0, .int 0, .int 0])), (q0, .inl (cJ, 4, .inr (.inl (fun _ => 0)))), (q1, .inl (cJ, 24, .inr (.inl (fun _ => 0)))), (q2, .inl (cI, 3120, .inl (fun _ => 0))), (q3, .inl (cI, 13312, .inl (fun _ => 0))), (q4, .inl (cI, 26624, .inl (fun _ => 0))), (q5, .inl (cI, 260, .inl (fun _ => 0))), (q6, .inl (cI, 624, .inl (fun _ => 0)))] := hD
  refine lv_aload_n hx hb dX2_init_64 rfl (lv_at hl 0 rfl) ?_
  refine lv_sipush (v := 3840) hx hb dX2_init_65 (by decide) ?_
  refine k_newa (atype := .int) (ty := .int) (N' := 3840) (a0 := (3840, .inl (fun _ => 0))) hx hb (hts (.arrayClass .int) (List.mem_cons_of_mem _ (List.mem_append_left _ (List.mem_of_getElem? (i := 6) rfl)))) rfl hK hP hD hS hA 0 rfl (fun _ => rfl) (by decide) (by decide) (Nat.le_of_ble_eq_true rfl) (Nat.le_of_ble_eq_true rfl) (Nat.le_of_ble_eq_true rfl) dX2_init_68 (fun q7 H hP hD hS => ?_)
  have hP : va_P D vwCl [(h0, .inr (2, [.ref q0, .ref q1, .ref q2, .ref q3, .ref q4, .ref q5, .ref q6, .null, .null, .null, .int 0, .int 0, .int 0, .int 0, .int 0, .int 0])), (q0, .inl (cJ, 4, .inr (.inl (fun _ => 0)))), (q1, .inl (cJ, 24, .inr (.inl (fun _ => 0)))), (q2, .inl (cI, 3120, .inl (fun _ => 0))), (q3, .inl (cI, 13312, .inl (fun _ => 0))), (q4, .inl (cI, 26624, .inl (fun _ => 0))), (q5, .inl (cI, 260, .inl (fun _ => 0))), (q6, .inl (cI, 624, .inl (fun _ => 0))), (q7, .inl (cI, 3840, .inl (fun _ => 0)))] H := hP
  have hD : va_D A [(h0, .inr (2, [.ref q0, .ref q1, .ref q2, .ref q3, .ref q4, .ref q5, .ref q6, .null, .null, .null, .int 0, .int 0, .int 0, .int 0, .int 0, .int 0])), (q0, .inl (cJ, 4, .inr (.inl (fun _ => 0)))), (q1, .inl (cJ, 24, .inr (.inl (fun _ => 0)))), (q2, .inl (cI, 3120, .inl (fun _ => 0))), (q3, .inl (cI, 13312, .inl (fun _ => 0))), (q4, .inl (cI, 26624, .inl (fun _ => 0))), (q5, .inl (cI, 260, .inl (fun _ => 0))), (q6, .inl (cI, 624, .inl (fun _ => 0))), (q7, .inl (cI, 3840, .inl (fun _ => 0)))] := hD
  refine W.widen (k := 8) (n := 47808) (Nat.le_of_ble_eq_true rfl) (Nat.le_of_ble_eq_true rfl) ?_
  refine va_putF (D := D) (ref := "IntegerHouse$House") (ci := 2) (v := .ref q7) (ty := (.array .int)) (C := RX2) (T := TX2) (N := 16) hx hb hts hin2 tyX2 tyX2_ok nmX2 hown hK hP hD hS 0 rfl rfl 7 (by decide) (hts (.fieldLink RX2 34 "IntegerHouse$House" "pool" "[I") (List.mem_cons_of_mem _ (List.mem_append_left _ (List.mem_of_getElem? (i := 12) rfl)))) (fun _ h9 => h9) rfl hin0 rfl (by decide +kernel) rfl rfl (Nat.le_of_ble_eq_true rfl) dX2_init_70 (fun H locs hP hD hS => ?_)
  have hP : va_P D vwCl [(h0, .inr (2, [.ref q0, .ref q1, .ref q2, .ref q3, .ref q4, .ref q5, .ref q6, .ref q7, .null, .null, .int 0, .int 0, .int 0, .int 0, .int 0, .int 0])), (q0, .inl (cJ, 4, .inr (.inl (fun _ => 0)))), (q1, .inl (cJ, 24, .inr (.inl (fun _ => 0)))), (q2, .inl (cI, 3120, .inl (fun _ => 0))), (q3, .inl (cI, 13312, .inl (fun _ => 0))), (q4, .inl (cI, 26624, .inl (fun _ => 0))), (q5, .inl (cI, 260, .inl (fun _ => 0))), (q6, .inl (cI, 624, .inl (fun _ => 0))), (q7, .inl (cI, 3840, .inl (fun _ => 0)))] H := hP
  have hD : va_D A [(h0, .inr (2, [.ref q0, .ref q1, .ref q2, .ref q3, .ref q4, .ref q5, .ref q6, .ref q7, .null, .null, .int 0, .int 0, .int 0, .int 0, .int 0, .int 0])), (q0, .inl (cJ, 4, .inr (.inl (fun _ => 0)))), (q1, .inl (cJ, 24, .inr (.inl (fun _ => 0)))), (q2, .inl (cI, 3120, .inl (fun _ => 0))), (q3, .inl (cI, 13312, .inl (fun _ => 0))), (q4, .inl (cI, 26624, .inl (fun _ => 0))), (q5, .inl (cI, 260, .inl (fun _ => 0))), (q6, .inl (cI, 624, .inl (fun _ => 0))), (q7, .inl (cI, 3840, .inl (fun _ => 0)))] := hD
  refine lv_aload_n hx hb dX2_init_73 rfl (lv_at hl 0 rfl) ?_
  refine lv_bipush (v := 32) hx hb dX2_init_74 (by decide) ?_
  refine k_newa (atype := .int) (ty := .int) (N' := 32) (a0 := (32, .inl (fun _ => 0))) hx hb (hts (.arrayClass .int) (List.mem_cons_of_mem _ (List.mem_append_left _ (List.mem_of_getElem? (i := 6) rfl)))) rfl hK hP hD hS hA 0 rfl (fun _ => rfl) (by decide) (by decide) (Nat.le_of_ble_eq_true rfl) (Nat.le_of_ble_eq_true rfl) (Nat.le_of_ble_eq_true rfl) dX2_init_76 (fun q8 H hP hD hS => ?_)
  have hP : va_P D vwCl [(h0, .inr (2, [.ref q0, .ref q1, .ref q2, .ref q3, .ref q4, .ref q5, .ref q6, .ref q7, .null, .null, .int 0, .int 0, .int 0, .int 0, .int 0, .int 0])), (q0, .inl (cJ, 4, .inr (.inl (fun _ => 0)))), (q1, .inl (cJ, 24, .inr (.inl (fun _ => 0)))), (q2, .inl (cI, 3120, .inl (fun _ => 0))), (q3, .inl (cI, 13312, .inl (fun _ => 0))), (q4, .inl (cI, 26624, .inl (fun _ => 0))), (q5, .inl (cI, 260, .inl (fun _ => 0))), (q6, .inl (cI, 624, .inl (fun _ => 0))), (q7, .inl (cI, 3840, .inl (fun _ => 0))), (q8, .inl (cI, 32, .inl (fun _ => 0)))] H := hP
  have hD : va_D A [(h0, .inr (2, [.ref q0, .ref q1, .ref q2, .ref q3, .ref q4, .ref q5, .ref q6, .ref q7, .null, .null, .int 0, .int 0, .int 0, .int 0, .int 0, .int 0])), (q0, .inl (cJ, 4, .inr (.inl (fun _ => 0)))), (q1, .inl (cJ, 24, .inr (.inl (fun _ => 0)))), (q2, .inl (cI, 3120, .inl (fun _ => 0))), (q3, .inl (cI, 13312, .inl (fun _ => 0))), (q4, .inl (cI, 26624, .inl (fun _ => 0))), (q5, .inl (cI, 260, .inl (fun _ => 0))), (q6, .inl (cI, 624, .inl (fun _ => 0))), (q7, .inl (cI, 3840, .inl (fun _ => 0))), (q8, .inl (cI, 32, .inl (fun _ => 0)))] := hD
  refine W.widen (k := 9) (n := 47840) (Nat.le_of_ble_eq_true rfl) (Nat.le_of_ble_eq_true rfl) ?_
  refine va_putF (D := D) (ref := "IntegerHouse$House") (ci := 2) (v := .ref q8) (ty := (.array .int)) (C := RX2) (T := TX2) (N := 16) hx hb hts hin2 tyX2 tyX2_ok nmX2 hown hK hP hD hS 0 rfl rfl 8 (by decide) (hts (.fieldLink RX2 37 "IntegerHouse$House" "marks" "[I") (List.mem_cons_of_mem _ (List.mem_append_left _ (List.mem_of_getElem? (i := 13) rfl)))) (fun _ h9 => h9) rfl hin0 rfl (by decide +kernel) rfl rfl (Nat.le_of_ble_eq_true rfl) dX2_init_78 (fun H locs hP hD hS => ?_)
  have hP : va_P D vwCl [(h0, .inr (2, [.ref q0, .ref q1, .ref q2, .ref q3, .ref q4, .ref q5, .ref q6, .ref q7, .ref q8, .null, .int 0, .int 0, .int 0, .int 0, .int 0, .int 0])), (q0, .inl (cJ, 4, .inr (.inl (fun _ => 0)))), (q1, .inl (cJ, 24, .inr (.inl (fun _ => 0)))), (q2, .inl (cI, 3120, .inl (fun _ => 0))), (q3, .inl (cI, 13312, .inl (fun _ => 0))), (q4, .inl (cI, 26624, .inl (fun _ => 0))), (q5, .inl (cI, 260, .inl (fun _ => 0))), (q6, .inl (cI, 624, .inl (fun _ => 0))), (q7, .inl (cI, 3840, .inl (fun _ => 0))), (q8, .inl (cI, 32, .inl (fun _ => 0)))] H := hP
  have hD : va_D A [(h0, .inr (2, [.ref q0, .ref q1, .ref q2, .ref q3, .ref q4, .ref q5, .ref q6, .ref q7, .ref q8, .null, .int 0, .int 0, .int 0, .int 0, .int 0, .int 0])), (q0, .inl (cJ, 4, .inr (.inl (fun _ => 0)))), (q1, .inl (cJ, 24, .inr (.inl (fun _ => 0)))), (q2, .inl (cI, 3120, .inl (fun _ => 0))), (q3, .inl (cI, 13312, .inl (fun _ => 0))), (q4, .inl (cI, 26624, .inl (fun _ => 0))), (q5, .inl (cI, 260, .inl (fun _ => 0))), (q6, .inl (cI, 624, .inl (fun _ => 0))), (q7, .inl (cI, 3840, .inl (fun _ => 0))), (q8, .inl (cI, 32, .inl (fun _ => 0)))] := hD
  refine lv_aload_n hx hb dX2_init_81 rfl (lv_at hl 0 rfl) ?_
  refine lv_sipush (v := 1200) hx hb dX2_init_82 (by decide) ?_
  refine k_newa (atype := .byte) (ty := .byte) (N' := 1200) (a0 := (1200, .inl (fun _ => 0))) hx hb (hts (.arrayClass .byte) (List.mem_cons_of_mem _ (List.mem_append_left _ (List.mem_of_getElem? (i := 14) rfl)))) rfl hK hP hD hS hA 2 rfl (fun _ => rfl) (by decide) (by decide) (Nat.le_of_ble_eq_true rfl) (Nat.le_of_ble_eq_true rfl) (Nat.le_of_ble_eq_true rfl) dX2_init_85 (fun q9 H hP hD hS => ?_)
  have hP : va_P D vwCl [(h0, .inr (2, [.ref q0, .ref q1, .ref q2, .ref q3, .ref q4, .ref q5, .ref q6, .ref q7, .ref q8, .null, .int 0, .int 0, .int 0, .int 0, .int 0, .int 0])), (q0, .inl (cJ, 4, .inr (.inl (fun _ => 0)))), (q1, .inl (cJ, 24, .inr (.inl (fun _ => 0)))), (q2, .inl (cI, 3120, .inl (fun _ => 0))), (q3, .inl (cI, 13312, .inl (fun _ => 0))), (q4, .inl (cI, 26624, .inl (fun _ => 0))), (q5, .inl (cI, 260, .inl (fun _ => 0))), (q6, .inl (cI, 624, .inl (fun _ => 0))), (q7, .inl (cI, 3840, .inl (fun _ => 0))), (q8, .inl (cI, 32, .inl (fun _ => 0))), (q9, .inl (cB, 1200, .inl (fun _ => 0)))] H := hP
  have hD : va_D A [(h0, .inr (2, [.ref q0, .ref q1, .ref q2, .ref q3, .ref q4, .ref q5, .ref q6, .ref q7, .ref q8, .null, .int 0, .int 0, .int 0, .int 0, .int 0, .int 0])), (q0, .inl (cJ, 4, .inr (.inl (fun _ => 0)))), (q1, .inl (cJ, 24, .inr (.inl (fun _ => 0)))), (q2, .inl (cI, 3120, .inl (fun _ => 0))), (q3, .inl (cI, 13312, .inl (fun _ => 0))), (q4, .inl (cI, 26624, .inl (fun _ => 0))), (q5, .inl (cI, 260, .inl (fun _ => 0))), (q6, .inl (cI, 624, .inl (fun _ => 0))), (q7, .inl (cI, 3840, .inl (fun _ => 0))), (q8, .inl (cI, 32, .inl (fun _ => 0))), (q9, .inl (cB, 1200, .inl (fun _ => 0)))] := hD
  refine W.widen (k := 10) (n := 49040) (Nat.le_of_ble_eq_true rfl) (Nat.le_of_ble_eq_true rfl) ?_
  refine va_putF (D := D) (ref := "IntegerHouse$House") (ci := 2) (v := .ref q9) (ty := (.array .byte)) (C := RX2) (T := TX2) (N := 16) hx hb hts hin2 tyX2 tyX2_ok nmX2 hown hK hP hD hS 0 rfl rfl 9 (by decide) (hts (.fieldLink RX2 40 "IntegerHouse$House" "shown" "[B") (List.mem_cons_of_mem _ (List.mem_append_left _ (List.mem_of_getElem? (i := 15) rfl)))) (fun _ h9 => h9) rfl hin0 rfl (by decide +kernel) rfl rfl (Nat.le_of_ble_eq_true rfl) dX2_init_87 (fun H locs hP hD hS => ?_)
  have hP : va_P D vwCl [(h0, .inr (2, [.ref q0, .ref q1, .ref q2, .ref q3, .ref q4, .ref q5, .ref q6, .ref q7, .ref q8, .ref q9, .int 0, .int 0, .int 0, .int 0, .int 0, .int 0])), (q0, .inl (cJ, 4, .inr (.inl (fun _ => 0)))), (q1, .inl (cJ, 24, .inr (.inl (fun _ => 0)))), (q2, .inl (cI, 3120, .inl (fun _ => 0))), (q3, .inl (cI, 13312, .inl (fun _ => 0))), (q4, .inl (cI, 26624, .inl (fun _ => 0))), (q5, .inl (cI, 260, .inl (fun _ => 0))), (q6, .inl (cI, 624, .inl (fun _ => 0))), (q7, .inl (cI, 3840, .inl (fun _ => 0))), (q8, .inl (cI, 32, .inl (fun _ => 0))), (q9, .inl (cB, 1200, .inl (fun _ => 0)))] H := hP
  have hD : va_D A [(h0, .inr (2, [.ref q0, .ref q1, .ref q2, .ref q3, .ref q4, .ref q5, .ref q6, .ref q7, .ref q8, .ref q9, .int 0, .int 0, .int 0, .int 0, .int 0, .int 0])), (q0, .inl (cJ, 4, .inr (.inl (fun _ => 0)))), (q1, .inl (cJ, 24, .inr (.inl (fun _ => 0)))), (q2, .inl (cI, 3120, .inl (fun _ => 0))), (q3, .inl (cI, 13312, .inl (fun _ => 0))), (q4, .inl (cI, 26624, .inl (fun _ => 0))), (q5, .inl (cI, 260, .inl (fun _ => 0))), (q6, .inl (cI, 624, .inl (fun _ => 0))), (q7, .inl (cI, 3840, .inl (fun _ => 0))), (q8, .inl (cI, 32, .inl (fun _ => 0))), (q9, .inl (cB, 1200, .inl (fun _ => 0)))] := hD
  exact W.vret hx hb hr (fun t ht hW => ⟨⟨(fun k => [q0, q1, q2, q3, q4, q5, q6, q7, q8, q9].getD k 0), rfl, trivial, kB_mk (u := (fun k => [q0, q1, q2, q3, q4, q5, q6, q7, q8, q9].getD k 0)) ht hW hP hK hD⟩, hS.F ht⟩) hS.2.2 dX2_init_90
