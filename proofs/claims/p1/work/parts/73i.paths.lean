theorem dL_law_842 : decode cL_law 842 = .ok (.aload_n 1, 1) := by decide +kernel
theorem dL_law_843 : decode cL_law 843 = .ok (.aload_n 0, 1) := by decide +kernel
theorem dL_law_844 : decode cL_law 844 = .ok (.iload 4, 2) := by decide +kernel
theorem dL_law_846 : decode cL_law 846 = .ok (.iconst 1, 1) := by decide +kernel
theorem dL_law_847 : decode cL_law 847 = .ok (.iadd, 1) := by decide +kernel
theorem dL_law_848 : decode cL_law 848 = .ok (.iaload, 1) := by decide +kernel
theorem dL_law_849 : decode cL_law 849 = .ok (.invokevirtual 135, 3) := by decide +kernel
theorem dL_law_852 : decode cL_law 852 = .ok (.aload_n 2, 1) := by decide +kernel
theorem dL_law_853 : decode cL_law 853 = .ok (.aload_n 0, 1) := by decide +kernel
theorem dL_law_854 : decode cL_law 854 = .ok (.iload 4, 2) := by decide +kernel
theorem dL_law_856 : decode cL_law 856 = .ok (.iconst 1, 1) := by decide +kernel
theorem dL_law_857 : decode cL_law 857 = .ok (.iadd, 1) := by decide +kernel
theorem dL_law_858 : decode cL_law 858 = .ok (.iaload, 1) := by decide +kernel
theorem dL_law_859 : decode cL_law 859 = .ok (.invokevirtual 138, 3) := by decide +kernel
theorem dL_law_862 : decode cL_law 862 = .ok (.if_icmp .eq 903, 3) := by decide +kernel
set_option maxHeartbeats 400000000 in
set_option maxRecDepth 100000 in
theorem law_18_0 {p : Program} {l : Launch} {e : Env} {s : State} {m : MethodId} {below : List Frame} {meth : Method} {c : Code} {b : Nat} {xs : Nat → Int32} (E : kE) (D : va_G) (cI cJ cB cZ : ClassId) (A : Nat → Prop) (Q : State → Prop) (h0 : Nat) (h1 : Nat) (h2 : Nat) (f0 : List Value) (h3 : Nat) (f1 : List Value) (f2 : List Value) (e0 : f0[2]? = some (.ref h3)) (e1 : ((xs 1) : Int32) < 0) (e2 : f2[0]? = some (.int 0)) (e3 : f2[112]? = some (.int 0)) (X9 : kLaw p l s m c b xs E D cI cJ cB cZ A) (T9 : kTail p l e s m b below meth c A Q) {H : Heap} {locs : List Loc} {ls : Array Slot} (hP : va_P D vwCl [(h0, .inr (11, f0)), (h3, .inr (2, f1)), (h1, .inr (12, f2))] H) (hD : va_D A [(h0, .inr (11, f0)), (h3, .inr (2, f1)), (h1, .inr (12, f2))]) (hS : va_S A s.heap H locs) (hl : lv_has ls 8 [(0, .ref b), (1, .ref h0), (2, .ref h1), (3, .ref h2), (4, .int 0)]) : W p l e room_1 s m #[Value.ref b] below meth c H locs 218 1205840 Q (F0 m 842 ls []) := by
  obtain ⟨hl9, hx, hb, hml, hown, hts, hN, hX, hAE, hK, hA, hXs, hbl, hbA⟩ := X9
  refine lv_aload_n hx hb dL_law_842 rfl (lv_at hl 1 rfl) ?_
  refine lv_aload_n hx hb dL_law_843 rfl (lv_at hl 0 rfl) ?_
  refine lv_iload hx hb dL_law_844 (lv_at hl 4 rfl) ?_
  refine lv_iconst (v := 1) hx hb dL_law_846 (by decide) ?_
  refine lv_iadd hx hb dL_law_847 ?_
  refine k_topi (y := 1) (by decide) ?_
  refine va_sld (xs := xs) hx hb hXs hbl hbA hS (k_in (by decide)) dL_law_848 ?_
  refine k_topi (y := (xs 1)) (congrArg xs (by decide)) ?_
  refine k_cVi (As := [.int (xs 1)]) (rest := []) (wc := [(h0, .inr (11, f0)), (h3, .inr (2, f1))]) (wr := [(h1, .inr (12, f2))]) (w1 := [(h0, .inr (11, f0)), (h3, .inr (2, f1))]) ⟨hx, hb, hml, hown, hts⟩ hN hX hAE hK hP hD hS hA [0, 1] [2] (ci := 11) rfl rfl rfl rfl (by decide +kernel) (by decide +kernel) (by decide +kernel) (c_X11_printed_1 l E D cI cJ cB cZ h0 (xs 1) f0 h3 f1 e0 e1) (cwV 1 hts g9_L_law_X11_printed_135 rfl rfl rfl (by decide +kernel) ⟨Nat.le_of_ble_eq_true rfl, Nat.le_of_ble_eq_true rfl⟩) rfl hl.1 (Nat.le_of_ble_eq_true rfl) dL_law_849 ⟨Nat.le_of_ble_eq_true rfl, Nat.le_of_ble_eq_true rfl⟩ (fun H locs hP hD hS => ?_)
  have hP : va_P D vwCl [(h1, .inr (12, f2)), (h0, .inr (11, f0)), (h3, .inr (2, f1))] H := hP
  have hD : va_D A [(h1, .inr (12, f2)), (h0, .inr (11, f0)), (h3, .inr (2, f1))] := hD
  refine lv_aload_n hx hb dL_law_852 rfl (lv_at hl 2 rfl) ?_
  refine lv_aload_n hx hb dL_law_853 rfl (lv_at hl 0 rfl) ?_
  refine lv_iload hx hb dL_law_854 (lv_at hl 4 rfl) ?_
  refine lv_iconst (v := 1) hx hb dL_law_856 (by decide) ?_
  refine lv_iadd hx hb dL_law_857 ?_
  refine k_topi (y := 1) (by decide) ?_
  refine va_sld (xs := xs) hx hb hXs hbl hbA hS (k_in (by decide)) dL_law_858 ?_
  refine k_topi (y := (xs 1)) (congrArg xs (by decide)) ?_
  refine k_cVi (As := [.int (xs 1)]) (rest := [.int (-1)]) (wc := [(h1, .inr (12, f2))]) (wr := [(h0, .inr (11, f0)), (h3, .inr (2, f1))]) (w1 := [(h1, .inr (12, (f2.set 0 (.int 0))))]) ⟨hx, hb, hml, hown, hts⟩ hN hX hAE hK hP hD hS hA [0] [1, 2] (ci := 12) rfl rfl rfl rfl (by decide +kernel) (by decide +kernel) (by decide +kernel) (c_X12_printed_1 l E D cI cJ cB cZ h1 (xs 1) f2 e2 e3 e1) (cwV 1 hts g9_L_law_X12_printed_138 rfl rfl rfl (by decide +kernel) ⟨Nat.le_of_ble_eq_true rfl, Nat.le_of_ble_eq_true rfl⟩) rfl hl.1 (Nat.le_of_ble_eq_true rfl) dL_law_859 ⟨Nat.le_of_ble_eq_true rfl, Nat.le_of_ble_eq_true rfl⟩ (fun H locs hP hD hS => ?_)
  have hP : va_P D vwCl [(h0, .inr (11, f0)), (h3, .inr (2, f1)), (h1, .inr (12, (f2.set 0 (.int 0))))] H := hP
  have hD : va_D A [(h0, .inr (11, f0)), (h3, .inr (2, f1)), (h1, .inr (12, (f2.set 0 (.int 0))))] := hD
  refine lv_icmp_eq (tgt := 1765) hx hb dL_law_862 (by decide) (fun _ => ?_) (fun c9 => absurd (by decide) c9)
  refine W.widen (k := 600002) (n := 7302232) (Nat.le_of_ble_eq_true rfl) (Nat.le_of_ble_eq_true rfl) ?_
  exact T9 _ _ _ hS (lv_sub hl [0, 4] rfl)
