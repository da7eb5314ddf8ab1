
set_option maxHeartbeats 400000000 in
set_option maxRecDepth 100000 in
theorem law_39_1 {p : Program} {l : Launch} {e : Env} {s : State} {m : MethodId} {below : List Frame} {meth : Method} {c : Code} {b : Nat} {xs : Nat → Int32} (E : kE) (D : va_G) (cI cJ cB cZ : ClassId) (A : Nat → Prop) (Q : State → Prop) (h0 : Nat) (h1 : Nat) (h2 : Nat) (f0 : List Value) (h3 : Nat) (f1 : List Value) (f2 : List Value) (e0 : f0[11]? = some (.ref h3)) (e1 : f1[10]? = some (.int 0)) (e2 : ¬ (((xs 1) : Int32) < 1)) (e3 : f2[187]? = some (.int 0)) (e4 : f2[0]? = some (.int 0)) (X9 : kLaw p l s m c b xs E D cI cJ cB cZ A) (T9 : kTail p l e s m b below meth c A Q) {H : Heap} {locs : List Loc} {ls : Array Slot} (hP : va_P D vwCl [(h0, .inr (11, f0)), (h3, .inr (7, f1)), (h1, .inr (12, f2))] H) (hD : va_D A [(h0, .inr (11, f0)), (h3, .inr (7, f1)), (h1, .inr (12, f2))]) (hS : va_S A s.heap H locs) (hl : lv_has ls 8 [(0, .ref b), (1, .ref h0), (2, .ref h1), (3, .ref h2), (4, .int 0)]) : W p l e room_1 s m #[Value.ref b] below meth c H locs 218 1205840 Q (F0 m 1660 ls []) := by
  obtain ⟨hl9, hx, hb, hml, hown, hts, hN, hX, hAE, hK, hA, hXs, hbl, hbA⟩ := X9
  refine lv_aload_n hx hb dL_law_1660 rfl (lv_at hl 1 rfl) ?_
  refine lv_aload_n hx hb dL_law_1661 rfl (lv_at hl 0 rfl) ?_
  refine lv_iload hx hb dL_law_1662 (lv_at hl 4 rfl) ?_
  refine lv_iconst (v := 1) hx hb dL_law_1664 (by decide) ?_
  refine lv_iadd hx hb dL_law_1665 ?_
  refine k_topi (y := 1) (by decide) ?_
  refine va_sld (xs := xs) hx hb hXs hbl hbA hS (k_in (by decide)) dL_law_1666 ?_
  refine k_topi (y := (xs 1)) (congrArg xs (by decide)) ?_
  refine lv_aload_n hx hb dL_law_1667 rfl (lv_at hl 0 rfl) ?_
  refine lv_iload hx hb dL_law_1668 (lv_at hl 4 rfl) ?_
  refine lv_iconst (v := 2) hx hb dL_law_1670 (by decide) ?_
  refine lv_iadd hx hb dL_law_1671 ?_
  refine k_topi (y := 2) (by decide) ?_
  refine va_sld (xs := xs) hx hb hXs hbl hbA hS (k_in (by decide)) dL_law_1672 ?_
  refine k_topi (y := (xs 2)) (congrArg xs (by decide)) ?_
  refine lv_aload_n hx hb dL_law_1673 rfl (lv_at hl 3 rfl) ?_
  refine k_cSWi (As := [.ref h0, .int (xs 1), .int (xs 2), .ref h2]) (rest := []) (wc := [(h0, .inr (11, f0)), (h3, .inr (7, f1))]) (wr := [(h1, .inr (12, f2))]) (w1 := [(h0, .inr (11, f0)), (h3, .inr (7, f1))]) ⟨hx, hb, hml, hown, hts⟩ hN hX hAE hK hP hD hS hA [0, 1] [2] rfl rfl (by decide +kernel) (by decide +kernel) (by decide +kernel) (c_L_line_0 l E D cI cJ cB cZ h0 (xs 1) (xs 2) h2 f0 h3 f1 e0 e1 e2 hl9) (vx_cwSW 4 hts g9_L_law_L_line_220 rfl rfl rfl (by decide +kernel) ⟨Nat.le_of_ble_eq_true rfl, Nat.le_of_ble_eq_true rfl⟩) rfl hl.1 (Nat.le_of_ble_eq_true rfl) dL_law_1674 ⟨Nat.le_of_ble_eq_true rfl, Nat.le_of_ble_eq_true rfl⟩ (fun H locs hP hD hS => ?_)
  have hP : va_P D vwCl [(h1, .inr (12, f2)), (h0, .inr (11, f0)), (h3, .inr (7, f1))] H := hP
  have hD : va_D A [(h1, .inr (12, f2)), (h0, .inr (11, f0)), (h3, .inr (7, f1))] := hD
  refine W.widen (k := 219) (n := 1205846) (Nat.le_of_ble_eq_true rfl) (Nat.le_of_ble_eq_true rfl) ?_
  refine lv_istore (lv' := [(5, .int 1), (0, .ref b), (1, .ref h0), (2, .ref h1), (3, .ref h2), (4, .int 0)]) hx hb dL_law_1677 hl (by decide) rfl (fun ls hl => ?_)
  refine lv_aload_n hx hb dL_law_1679 rfl (lv_at hl 3 rfl) ?_
  refine lv_aload_n hx hb dL_law_1680 rfl (lv_at hl 1 rfl) ?_
  refine lv_iload hx hb dL_law_1681 (lv_at hl 5 rfl) ?_
  refine lv_iconst (v := 1) hx hb dL_law_1683 (by decide) ?_
  refine lv_iadd hx hb dL_law_1684 ?_
  refine k_topi (y := 1) (by decide) ?_
  refine va_sld (xs := xs) hx hb hXs hbl hbA hS (k_in (by decide)) dL_law_1685 ?_
  refine k_topi (y := (xs 1)) (congrArg xs (by decide)) ?_
  refine lv_aload_n hx hb dL_law_1686 rfl (lv_at hl 1 rfl) ?_
  refine lv_iload hx hb dL_law_1687 (lv_at hl 5 rfl) ?_
  refine lv_iconst (v := 2) hx hb dL_law_1689 (by decide) ?_
  refine lv_iadd hx hb dL_law_1690 ?_
  refine k_topi (y := 2) (by decide) ?_
  refine va_sld (xs := xs) hx hb hXs hbl hbA hS (k_in (by decide)) dL_law_1691 ?_
  refine k_topi (y := (xs 2)) (congrArg xs (by decide)) ?_
  refine k_cVl (As := [.int (xs 1), .int (xs 2)]) (rest := []) (wc := [(h1, .inr (12, f2))]) (wr := [(h0, .inr (11, f0)), (h3, .inr (7, f1))]) (w1 := [(h1, .inr (12, (f2.set 0 (.int 1))))]) ⟨hx, hb, hml, hown, hts⟩ hN hX hAE hK hP hD hS hA [0] [1, 2] (ci := 12) rfl rfl rfl rfl (by decide +kernel) (by decide +kernel) (by decide +kernel) (c_X12_line_0 l E D cI cJ cB cZ h1 (xs 1) (xs 2) f2 e3 e2 e4) (cwV 2 hts g9_L_law_X12_line_222 rfl rfl rfl (by decide +kernel) ⟨Nat.le_of_ble_eq_true rfl, Nat.le_of_ble_eq_true rfl⟩) rfl hl.1 (Nat.le_of_ble_eq_true rfl) dL_law_1692 ⟨Nat.le_of_ble_eq_true rfl, Nat.le_of_ble_eq_true rfl⟩ (fun H locs hP hD hS => ?_)
  have hP : va_P D vwCl [(h0, .inr (11, f0)), (h3, .inr (7, f1)), (h1, .inr (12, (f2.set 0 (.int 1))))] H := hP
  have hD : va_D A [(h0, .inr (11, f0)), (h3, .inr (7, f1)), (h1, .inr (12, (f2.set 0 (.int 1))))] := hD
  refine lv_lstore (lv' := [(6, .long 0), (5, .int 1), (0, .ref b), (1, .ref h0), (2, .ref h1), (3, .ref h2), (4, .int 0)]) hx hb dL_law_1695 hl (by decide) rfl (fun ls hl => ?_)
  refine lv_aload_n hx hb dL_law_1697 rfl (lv_at hl 4 rfl) ?_
  refine k_cVi (As := []) (rest := []) (wc := [(h1, .inr (12, (f2.set 0 (.int 1))))]) (wr := [(h0, .inr (11, f0)), (h3, .inr (7, f1))]) (w1 := [(h1, .inr (12, (f2.set 0 (.int 1))))]) ⟨hx, hb, hml, hown, hts⟩ hN hX hAE hK hP hD hS hA [2] [0, 1] (ci := 12) rfl rfl rfl rfl (by decide +kernel) (by decide +kernel) (by decide +kernel) (c_X12_thrown_1 l E D cI cJ cB cZ h1 ((f2.set 0 (.int 1))) (k_set e4)) (cwV 0 hts g9_L_law_X12_thrown_61 rfl rfl rfl (by decide +kernel) ⟨Nat.le_of_ble_eq_true rfl, Nat.le_of_ble_eq_true rfl⟩) rfl hl.1 (Nat.le_of_ble_eq_true rfl) dL_law_1698 ⟨Nat.le_of_ble_eq_true rfl, Nat.le_of_ble_eq_true rfl⟩ (fun H locs hP hD hS => ?_)
  have hP : va_P D vwCl [(h0, .inr (11, f0)), (h3, .inr (7, f1)), (h1, .inr (12, (f2.set 0 (.int 1))))] H := hP
  have hD : va_D A [(h0, .inr (11, f0)), (h3, .inr (7, f1)), (h1, .inr (12, (f2.set 0 (.int 1))))] := hD
  refine lv_iload hx hb dL_law_1701 (lv_at hl 1 rfl) ?_
  refine lv_icmp_eq (tgt := 1708) hx hb dL_law_1703 (by decide) (fun _ => ?_) (fun c9 => absurd (by decide) c9)
  refine lv_iload hx hb dL_law_1708 (lv_at hl 1 rfl) ?_
  refine lv_if_ne (tgt := 1724) hx hb dL_law_1710 (by decide) (fun _ => ?_) (fun c9 => absurd c9 (by decide))
  refine lv_goto (tgt := 1765) hx hb dL_law_1724 (by decide) ?_
  refine W.widen (k := 600002) (n := 7302232) (Nat.le_of_ble_eq_true rfl) (Nat.le_of_ble_eq_true rfl) ?_
  exact T9 _ _ _ hS (lv_sub hl [2, 6] rfl)
