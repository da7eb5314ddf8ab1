theorem dL_law_731 : decode cL_law 731 = .ok (.aload_n 1, 1) := by decide +kernel
theorem dL_law_732 : decode cL_law 732 = .ok (.aload_n 0, 1) := by decide +kernel
theorem dL_law_733 : decode cL_law 733 = .ok (.iload 4, 2) := by decide +kernel
theorem dL_law_735 : decode cL_law 735 = .ok (.iconst 1, 1) := by decide +kernel
theorem dL_law_736 : decode cL_law 736 = .ok (.iadd, 1) := by decide +kernel
theorem dL_law_737 : decode cL_law 737 = .ok (.iaload, 1) := by decide +kernel
theorem dL_law_738 : decode cL_law 738 = .ok (.aload_n 0, 1) := by decide +kernel
theorem dL_law_739 : decode cL_law 739 = .ok (.iload 4, 2) := by decide +kernel
theorem dL_law_741 : decode cL_law 741 = .ok (.iconst 2, 1) := by decide +kernel
theorem dL_law_742 : decode cL_law 742 = .ok (.iadd, 1) := by decide +kernel
theorem dL_law_743 : decode cL_law 743 = .ok (.iaload, 1) := by decide +kernel
theorem dL_law_744 : decode cL_law 744 = .ok (.invokevirtual 123, 3) := by decide +kernel
theorem dL_law_747 : decode cL_law 747 = .ok (.aload_n 2, 1) := by decide +kernel
theorem dL_law_748 : decode cL_law 748 = .ok (.aload_n 0, 1) := by decide +kernel
theorem dL_law_749 : decode cL_law 749 = .ok (.iload 4, 2) := by decide +kernel
theorem dL_law_751 : decode cL_law 751 = .ok (.iconst 1, 1) := by decide +kernel
theorem dL_law_752 : decode cL_law 752 = .ok (.iadd, 1) := by decide +kernel
theorem dL_law_753 : decode cL_law 753 = .ok (.iaload, 1) := by decide +kernel
theorem dL_law_754 : decode cL_law 754 = .ok (.aload_n 0, 1) := by decide +kernel
theorem dL_law_755 : decode cL_law 755 = .ok (.iload 4, 2) := by decide +kernel
theorem dL_law_757 : decode cL_law 757 = .ok (.iconst 2, 1) := by decide +kernel
theorem dL_law_758 : decode cL_law 758 = .ok (.iadd, 1) := by decide +kernel
theorem dL_law_759 : decode cL_law 759 = .ok (.iaload, 1) := by decide +kernel
theorem dL_law_760 : decode cL_law 760 = .ok (.invokevirtual 126, 3) := by decide +kernel
theorem dL_law_763 : decode cL_law 763 = .ok (.if_icmp .eq 1002, 3) := by decide +kernel
set_option maxHeartbeats 400000000 in
set_option maxRecDepth 100000 in
theorem law_15_0 {p : Program} {l : Launch} {e : Env} {s : State} {m : MethodId} {below : List Frame} {meth : Method} {c : Code} {b : Nat} {xs : Nat → Int32} (E : kE) (D : va_G) (cI cJ cB cZ : ClassId) (A : Nat → Prop) (Q : State → Prop) (h0 : Nat) (h1 : Nat) (h2 : Nat) (f0 : List Value) (h3 : Nat) (f1 : List Value) (h4 : Nat) (f2 : List Value) (f3 : List Value) (e0 : f0[1]? = some (.ref h3)) (e1 : f1[8]? = some (.int 0)) (e2 : f0[2]? = some (.ref h4)) (e3 : ((xs 1) : Int32) < 0) (e4 : f3[0]? = some (.int 0)) (e5 : f3[5]? = some (.int 0)) (e6 : f3[33]? = some (.int 0)) (X9 : kLaw p l s m c b xs E D cI cJ cB cZ A) (T9 : kTail p l e s m b below meth c A Q) {H : Heap} {locs : List Loc} {ls : Array Slot} (hP : va_P D vwCl [(h0, .inr (11, f0)), (h3, .inr (1, f1)), (h4, .inr (2, f2)), (h1, .inr (12, f3))] H) (hD : va_D A [(h0, .inr (11, f0)), (h3, .inr (1, f1)), (h4, .inr (2, f2)), (h1, .inr (12, f3))]) (hS : va_S A s.heap H locs) (hl : lv_has ls 8 [(0, .ref b), (1, .ref h0), (2, .ref h1), (3, .ref h2), (4, .int 0)]) : W p l e room_1 s m #[Value.ref b] below meth c H locs 218 1205840 Q (F0 m 731 ls []) := by
  obtain ⟨hl9, hx, hb, hml, hown, hts, hN, hX, hAE, hK, hA, hXs, hbl, hbA⟩ := X9
  refine lv_aload_n hx hb dL_law_731 rfl (lv_at hl 1 rfl) ?_
  refine lv_aload_n hx hb dL_law_732 rfl (lv_at hl 0 rfl) ?_
  refine lv_iload hx hb dL_law_733 (lv_at hl 4 rfl) ?_
  refine lv_iconst (v := 1) hx hb dL_law_735 (by decide) ?_
  refine lv_iadd hx hb dL_law_736 ?_
  refine k_topi (y := 1) (by decide) ?_
  refine va_sld (xs := xs) hx hb hXs hbl hbA hS (k_in (by decide)) dL_law_737 ?_
  refine k_topi (y := (xs 1)) (congrArg xs (by decide)) ?_
  refine lv_aload_n hx hb dL_law_738 rfl (lv_at hl 0 rfl) ?_
  refine lv_iload hx hb dL_law_739 (lv_at hl 4 rfl) ?_
  refine lv_iconst (v := 2) hx hb dL_law_741 (by decide) ?_
  refine lv_iadd hx hb dL_law_742 ?_
  refine k_topi (y := 2) (by decide) ?_
  refine va_sld (xs := xs) hx hb hXs hbl hbA hS (k_in (by decide)) dL_law_743 ?_
  refine k_topi (y := (xs 2)) (congrArg xs (by decide)) ?_
  refine k_cVi (As := [.int (xs 1), .int (xs 2)]) (rest := []) (wc := [(h0, .inr (11, f0)), (h3, .inr (1, f1)), (h4, .inr (2, f2))]) (wr := [(h1, .inr (12, f3))]) (w1 := [(h0, .inr (11, f0)), (h3, .inr (1, f1)), (h4, .inr (2, f2))]) ⟨hx, hb, hml, hown, hts⟩ hN hX hAE hK hP hD hS hA [0, 1, 2] [3] (ci := 11) rfl rfl rfl rfl (by decide +kernel) (by decide +kernel) (by decide +kernel) (c_X11_about_1 l E D cI cJ cB cZ h0 (xs 1) (xs 2) f0 h3 f1 h4 f2 e0 e1 e2 e3) (cwV 2 hts g9_L_law_X11_about_123 rfl rfl rfl (by decide +kernel) ⟨Nat.le_of_ble_eq_true rfl, Nat.le_of_ble_eq_true rfl⟩) rfl hl.1 (Nat.le_of_ble_eq_true rfl) dL_law_744 ⟨Nat.le_of_ble_eq_true rfl, Nat.le_of_ble_eq_true rfl⟩ (fun H locs hP hD hS => ?_)
  have hP : va_P D vwCl [(h1, .inr (12, f3)), (h0, .inr (11, f0)), (h3, .inr (1, f1)), (h4, .inr (2, f2))] H := hP
  have hD : va_D A [(h1, .inr (12, f3)), (h0, .inr (11, f0)), (h3, .inr (1, f1)), (h4, .inr (2, f2))] := hD
  refine lv_aload_n hx hb dL_law_747 rfl (lv_at hl 2 rfl) ?_
  refine lv_aload_n hx hb dL_law_748 rfl (lv_at hl 0 rfl) ?_
  refine lv_iload hx hb dL_law_749 (lv_at hl 4 rfl) ?_
  refine lv_iconst (v := 1) hx hb dL_law_751 (by decide) ?_
  refine lv_iadd hx hb dL_law_752 ?_
  refine k_topi (y := 1) (by decide) ?_
  refine va_sld (xs := xs) hx hb hXs hbl hbA hS (k_in (by decide)) dL_law_753 ?_
  refine k_topi (y := (xs 1)) (congrArg xs (by decide)) ?_
  refine lv_aload_n hx hb dL_law_754 rfl (lv_at hl 0 rfl) ?_
  refine lv_iload hx hb dL_law_755 (lv_at hl 4 rfl) ?_
  refine lv_iconst (v := 2) hx hb dL_law_757 (by decide) ?_
  refine lv_iadd hx hb dL_law_758 ?_
  refine k_topi (y := 2) (by decide) ?_
  refine va_sld (xs := xs) hx hb hXs hbl hbA hS (k_in (by decide)) dL_law_759 ?_
  refine k_topi (y := (xs 2)) (congrArg xs (by decide)) ?_
  refine k_cVi (As := [.int (xs 1), .int (xs 2)]) (rest := [.int (-101)]) (wc := [(h1, .inr (12, f3))]) (wr := [(h0, .inr (11, f0)), (h3, .inr (1, f1)), (h4, .inr (2, f2))]) (w1 := [(h1, .inr (12, (f3.set 0 (.int 0))))]) ⟨hx, hb, hml, hown, hts⟩ hN hX hAE hK hP hD hS hA [0] [1, 2, 3] (ci := 12) rfl rfl rfl rfl (by decide +kernel) (by decide +kernel) (by decide +kernel) (c_X12_about_1 l E D cI cJ cB cZ h1 (xs 1) (xs 2) f3 e4 e5 e6 e3) (cwV 2 hts g9_L_law_X12_about_126 rfl rfl rfl (by decide +kernel) ⟨Nat.le_of_ble_eq_true rfl, Nat.le_of_ble_eq_true rfl⟩) rfl hl.1 (Nat.le_of_ble_eq_true rfl) dL_law_760 ⟨Nat.le_of_ble_eq_true rfl, Nat.le_of_ble_eq_true rfl⟩ (fun H locs hP hD hS => ?_)
  have hP : va_P D vwCl [(h0, .inr (11, f0)), (h3, .inr (1, f1)), (h4, .inr (2, f2)), (h1, .inr (12, (f3.set 0 (.int 0))))] H := hP
  have hD : va_D A [(h0, .inr (11, f0)), (h3, .inr (1, f1)), (h4, .inr (2, f2)), (h1, .inr (12, (f3.set 0 (.int 0))))] := hD
  refine lv_icmp_eq (tgt := 1765) hx hb dL_law_763 (by decide) (fun _ => ?_) (fun c9 => absurd (by decide) c9)
  refine W.widen (k := 600002) (n := 7302232) (Nat.le_of_ble_eq_true rfl) (Nat.le_of_ble_eq_true rfl) ?_
  exact T9 _ _ _ hS (lv_sub hl [0, 4] rfl)
