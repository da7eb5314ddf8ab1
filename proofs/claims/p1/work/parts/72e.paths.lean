theorem dL_law_626 : decode cL_law 626 = .ok (.aload_n 1, 1) := by decide +kernel
theorem dL_law_627 : decode cL_law 627 = .ok (.invokevirtual 102, 3) := by decide +kernel
theorem dL_law_630 : decode cL_law 630 = .ok (.aload_n 2, 1) := by decide +kernel
theorem dL_law_631 : decode cL_law 631 = .ok (.invokevirtual 105, 3) := by decide +kernel
theorem dL_law_634 : decode cL_law 634 = .ok (.if_icmp .eq 1131, 3) := by decide +kernel
set_option maxHeartbeats 400000000 in
set_option maxRecDepth 100000 in
theorem law_10_0 {p : Program} {l : Launch} {e : Env} {s : State} {m : MethodId} {below : List Frame} {meth : Method} {c : Code} {b : Nat} {xs : Nat → Int32} (E : kE) (D : va_G) (cI cJ cB cZ : ClassId) (A : Nat → Prop) (Q : State → Prop) (h0 : Nat) (h1 : Nat) (h2 : Nat) (f0 : List Value) (f1 : List Value) (e0 : f0[13]? = some (.int 0)) (e1 : f1[0]? = some (.int 0)) (e2 : f1[109]? = some (.int 0)) (X9 : kLaw p l s m c b xs E D cI cJ cB cZ A) (T9 : kTail p l e s m b below meth c A Q) {H : Heap} {locs : List Loc} {ls : Array Slot} (hP : va_P D vwCl [(h0, .inr (11, f0)), (h1, .inr (12, f1))] H) (hD : va_D A [(h0, .inr (11, f0)), (h1, .inr (12, f1))]) (hS : va_S A s.heap H locs) (hl : lv_has ls 8 [(0, .ref b), (1, .ref h0), (2, .ref h1), (3, .ref h2), (4, .int 0)]) : W p l e room_1 s m #[Value.ref b] below meth c H locs 218 1205840 Q (F0 m 626 ls []) := by
  obtain ⟨hl9, hx, hb, hml, hown, hts, hN, hX, hAE, hK, hA, hXs, hbl, hbA⟩ := X9
  refine lv_aload_n hx hb dL_law_626 rfl (lv_at hl 1 rfl) ?_
  refine k_cVi (As := []) (rest := []) (wc := [(h0, .inr (11, f0))]) (wr := [(h1, .inr (12, f1))]) (w1 := [(h0, .inr (11, f0))]) ⟨hx, hb, hml, hown, hts⟩ hN hX hAE hK hP hD hS hA [0] [1] (ci := 11) rfl rfl rfl rfl (by decide +kernel) (by decide +kernel) (by decide +kernel) (c_X11_fault_0 l E D cI cJ cB cZ h0 f0 e0) (cwV 0 hts g9_L_law_X11_fault_102 rfl rfl rfl (by decide +kernel) ⟨Nat.le_of_ble_eq_true rfl, Nat.le_of_ble_eq_true rfl⟩) rfl hl.1 (Nat.le_of_ble_eq_true rfl) dL_law_627 ⟨Nat.le_of_ble_eq_true rfl, Nat.le_of_ble_eq_true rfl⟩ (fun H locs hP hD hS => ?_)
  have hP : va_P D vwCl [(h1, .inr (12, f1)), (h0, .inr (11, f0))] H := hP
  have hD : va_D A [(h1, .inr (12, f1)), (h0, .inr (11, f0))] := hD
  refine lv_aload_n hx hb dL_law_630 rfl (lv_at hl 2 rfl) ?_
  refine k_cVi (As := []) (rest := [.int 0]) (wc := [(h1, .inr (12, f1))]) (wr := [(h0, .inr (11, f0))]) (w1 := [(h1, .inr (12, (f1.set 0 (.int 0))))]) ⟨hx, hb, hml, hown, hts⟩ hN hX hAE hK hP hD hS hA [0] [1] (ci := 12) rfl rfl rfl rfl (by decide +kernel) (by decide +kernel) (by decide +kernel) (c_X12_fault_0 l E D cI cJ cB cZ h1 f1 e1 e2) (cwV 0 hts g9_L_law_X12_fault_105 rfl rfl rfl (by decide +kernel) ⟨Nat.le_of_ble_eq_true rfl, Nat.le_of_ble_eq_true rfl⟩) rfl hl.1 (Nat.le_of_ble_eq_true rfl) dL_law_631 ⟨Nat.le_of_ble_eq_true rfl, Nat.le_of_ble_eq_true rfl⟩ (fun H locs hP hD hS => ?_)
  have hP : va_P D vwCl [(h0, .inr (11, f0)), (h1, .inr (12, (f1.set 0 (.int 0))))] H := hP
  have hD : va_D A [(h0, .inr (11, f0)), (h1, .inr (12, (f1.set 0 (.int 0))))] := hD
  refine lv_icmp_eq (tgt := 1765) hx hb dL_law_634 (by decide) (fun _ => ?_) (fun c9 => absurd (by decide) c9)
  refine W.widen (k := 600002) (n := 7302232) (Nat.le_of_ble_eq_true rfl) (Nat.le_of_ble_eq_true rfl) ?_
  exact T9 _ _ _ hS (lv_sub hl [0, 4] rfl)
