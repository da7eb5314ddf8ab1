theorem dL_law_1727 : decode cL_law 1727 = .ok (.aload_n 1, 1) := by decide +kernel
theorem dL_law_1728 : decode cL_law 1728 = .ok (.aload_n 0, 1) := by decide +kernel
theorem dL_law_1729 : decode cL_law 1729 = .ok (.iload 4, 2) := by decide +kernel
theorem dL_law_1731 : decode cL_law 1731 = .ok (.iconst 1, 1) := by decide +kernel
theorem dL_law_1732 : decode cL_law 1732 = .ok (.iadd, 1) := by decide +kernel
theorem dL_law_1733 : decode cL_law 1733 = .ok (.iaload, 1) := by decide +kernel
theorem dL_law_1734 : decode cL_law 1734 = .ok (.invokevirtual 223, 3) := by decide +kernel
theorem dL_law_1737 : decode cL_law 1737 = .ok (.aload_n 2, 1) := by decide +kernel
theorem dL_law_1738 : decode cL_law 1738 = .ok (.aload_n 0, 1) := by decide +kernel
theorem dL_law_1739 : decode cL_law 1739 = .ok (.iload 4, 2) := by decide +kernel
theorem dL_law_1741 : decode cL_law 1741 = .ok (.iconst 1, 1) := by decide +kernel
theorem dL_law_1742 : decode cL_law 1742 = .ok (.iadd, 1) := by decide +kernel
theorem dL_law_1743 : decode cL_law 1743 = .ok (.iaload, 1) := by decide +kernel
theorem dL_law_1744 : decode cL_law 1744 = .ok (.invokevirtual 226, 3) := by decide +kernel
theorem dL_law_1747 : decode cL_law 1747 = .ok (.if_icmp .eq 18, 3) := by decide +kernel
set_option maxHeartbeats 400000000 in
set_option maxRecDepth 100000 in
theorem law_40_0 {p : Program} {l : Launch} {e : Env} {s : State} {m : MethodId} {below : List Frame} {meth : Method} {c : Code} {b : Nat} {xs : Nat → Int32} (E : kE) (D : va_G) (cI cJ cB cZ : ClassId) (A : Nat → Prop) (Q : State → Prop) (h0 : Nat) (h1 : Nat) (h2 : Nat) (f0 : List Value) (h3 : Nat) (f1 : List Value) (h4 : Nat) (f2 : List Value) (h5 : Nat) (f3 : List Value) (f4 : List Value) (h6 : Nat) (g0 : Nat → Int32) (e0 : f0[1]? = some (.ref h3)) (e1 : f1[8]? = some (.int 0)) (e2 : f0[7]? = some (.ref h4)) (e3 : f2[0]? = some (.ref h5)) (e4 : f3[12]? = some (.int 0)) (e5 : f4[0]? = some (.int 0)) (e6 : f4[5]? = some (.int 0)) (e7 : f4[119]? = some (.int 0)) (e8 : f4[121]? = some (.ref h6)) (e9 : f4[33]? = some (.int 0)) (X9 : kLaw p l s m c b xs E D cI cJ cB cZ A) (T9 : kTail p l e s m b below meth c A Q) {H : Heap} {locs : List Loc} {ls : Array Slot} (hP : va_P D vwCl [(h0, .inr (11, f0)), (h3, .inr (1, f1)), (h4, .inr (0, f2)), (h5, .inr (2, f3)), (h1, .inr (12, f4)), (h6, .inl (cZ, 26, .inl g0))] H) (hD : va_D A [(h0, .inr (11, f0)), (h3, .inr (1, f1)), (h4, .inr (0, f2)), (h5, .inr (2, f3)), (h1, .inr (12, f4)), (h6, .inl (cZ, 26, .inl g0))]) (hS : va_S A s.heap H locs) (hl : lv_has ls 8 [(0, .ref b), (1, .ref h0), (2, .ref h1), (3, .ref h2), (4, .int 0)]) : W p l e room_1 s m #[Value.ref b] below meth c H locs 218 1205840 Q (F0 m 1727 ls []) := by
  obtain ⟨hl9, hx, hb, hml, hown, hts, hN, hX, hAE, hK, hA, hXs, hbl, hbA⟩ := X9
  refine lv_aload_n hx hb dL_law_1727 rfl (lv_at hl 1 rfl) ?_
  refine lv_aload_n hx hb dL_law_1728 rfl (lv_at hl 0 rfl) ?_
  refine lv_iload hx hb dL_law_1729 (lv_at hl 4 rfl) ?_
  refine lv_iconst (v := 1) hx hb dL_law_1731 (by decide) ?_
  refine lv_iadd hx hb dL_law_1732 ?_
  refine k_topi (y := 1) (by decide) ?_
  refine va_sld (xs := xs) hx hb hXs hbl hbA hS (k_in (by decide)) dL_law_1733 ?_
  refine k_topi (y := (xs 1)) (congrArg xs (by decide)) ?_
  refine k_cVi (As := [.int (xs 1)]) (rest := []) (wc := [(h0, .inr (11, f0)), (h3, .inr (1, f1)), (h4, .inr (0, f2)), (h5, .inr (2, f3))]) (wr := [(h1, .inr (12, f4)), (h6, .inl (cZ, 26, .inl g0))]) (w1 := [(h0, .inr (11, f0)), (h3, .inr (1, f1)), (h4, .inr (0, f2)), (h5, .inr (2, f3))]) ⟨hx, hb, hml, hown, hts⟩ hN hX hAE hK hP hD hS hA [0, 1, 2, 3] [4, 5] (ci := 11) rfl rfl rfl rfl (by decide +kernel) (by decide +kernel) (by decide +kernel) (c_X11_bound_0 l E D cI cJ cB cZ h0 (xs 1) f0 h3 f1 h4 f2 h5 f3 e0 e1 e2 e3 e4) (cwV 1 hts g9_L_law_X11_bound_223 rfl rfl rfl (by decide +kernel) ⟨Nat.le_of_ble_eq_true rfl, Nat.le_of_ble_eq_true rfl⟩) rfl hl.1 (Nat.le_of_ble_eq_true rfl) dL_law_1734 ⟨Nat.le_of_ble_eq_true rfl, Nat.le_of_ble_eq_true rfl⟩ (fun H locs hP hD hS => ?_)
  have hP : va_P D vwCl [(h1, .inr (12, f4)), (h6, .inl (cZ, 26, .inl g0)), (h0, .inr (11, f0)), (h3, .inr (1, f1)), (h4, .inr (0, f2)), (h5, .inr (2, f3))] H := hP
  have hD : va_D A [(h1, .inr (12, f4)), (h6, .inl (cZ, 26, .inl g0)), (h0, .inr (11, f0)), (h3, .inr (1, f1)), (h4, .inr (0, f2)), (h5, .inr (2, f3))] := hD
  refine lv_aload_n hx hb dL_law_1737 rfl (lv_at hl 2 rfl) ?_
  refine lv_aload_n hx hb dL_law_1738 rfl (lv_at hl 0 rfl) ?_
  refine lv_iload hx hb dL_law_1739 (lv_at hl 4 rfl) ?_
  refine lv_iconst (v := 1) hx hb dL_law_1741 (by decide) ?_
  refine lv_iadd hx hb dL_law_1742 ?_
  refine k_topi (y := 1) (by decide) ?_
  refine va_sld (xs := xs) hx hb hXs hbl hbA hS (k_in (by decide)) dL_law_1743 ?_
  refine k_topi (y := (xs 1)) (congrArg xs (by decide)) ?_
  refine k_cVi (As := [.int (xs 1)]) (rest := [.int 0]) (wc := [(h1, .inr (12, f4)), (h6, .inl (cZ, 26, .inl g0))]) (wr := [(h0, .inr (11, f0)), (h3, .inr (1, f1)), (h4, .inr (0, f2)), (h5, .inr (2, f3))]) (w1 := [(h1, .inr (12, ((f4.set 0 (.int 0)).set 119 (.int 0)))), (h6, .inl (cZ, 26, .inl (upd (upd (upd (upd (upd (upd (upd (upd (upd (upd (upd (upd (upd (upd (upd (upd (upd (upd (upd (upd (upd (upd (upd (upd (upd (upd g0 0 0) 1 0) 2 0) 3 0) 4 0) 5 0) 6 0) 7 0) 8 0) 9 0) 10 0) 11 0) 12 0) 13 0) 14 0) 15 0) 16 0) 17 0) 18 0) 19 0) 20 0) 21 0) 22 0) 23 0) 24 0) 25 0)))]) ⟨hx, hb, hml, hown, hts⟩ hN hX hAE hK hP hD hS hA [0, 1] [2, 3, 4, 5] (ci := 12) rfl rfl rfl rfl (by decide +kernel) (by decide +kernel) (by decide +kernel) (c_X12_bound_0 l E D cI cJ cB cZ h1 (xs 1) f4 h6 g0 e5 e6 e7 e8 e9) (cwV 1 hts g9_L_law_X12_bound_226 rfl rfl rfl (by decide +kernel) ⟨Nat.le_of_ble_eq_true rfl, Nat.le_of_ble_eq_true rfl⟩) rfl hl.1 (Nat.le_of_ble_eq_true rfl) dL_law_1744 ⟨Nat.le_of_ble_eq_true rfl, Nat.le_of_ble_eq_true rfl⟩ (fun H locs hP hD hS => ?_)
  have hP : va_P D vwCl [(h0, .inr (11, f0)), (h3, .inr (1, f1)), (h4, .inr (0, f2)), (h5, .inr (2, f3)), (h1, .inr (12, ((f4.set 0 (.int 0)).set 119 (.int 0)))), (h6, .inl (cZ, 26, .inl (upd (upd (upd (upd (upd (upd (upd (upd (upd (upd (upd (upd (upd (upd (upd (upd (upd (upd (upd (upd (upd (upd (upd (upd (upd (upd g0 0 0) 1 0) 2 0) 3 0) 4 0) 5 0) 6 0) 7 0) 8 0) 9 0) 10 0) 11 0) 12 0) 13 0) 14 0) 15 0) 16 0) 17 0) 18 0) 19 0) 20 0) 21 0) 22 0) 23 0) 24 0) 25 0)))] H := hP
  have hD : va_D A [(h0, .inr (11, f0)), (h3, .inr (1, f1)), (h4, .inr (0, f2)), (h5, .inr (2, f3)), (h1, .inr (12, ((f4.set 0 (.int 0)).set 119 (.int 0)))), (h6, .inl (cZ, 26, .inl (upd (upd (upd (upd (upd (upd (upd (upd (upd (upd (upd (upd (upd (upd (upd (upd (upd (upd (upd (upd (upd (upd (upd (upd (upd (upd g0 0 0) 1 0) 2 0) 3 0) 4 0) 5 0) 6 0) 7 0) 8 0) 9 0) 10 0) 11 0) 12 0) 13 0) 14 0) 15 0) 16 0) 17 0) 18 0) 19 0) 20 0) 21 0) 22 0) 23 0) 24 0) 25 0)))] := hD
  refine lv_icmp_eq (tgt := 1765) hx hb dL_law_1747 (by decide) (fun _ => ?_) (fun c9 => absurd (by decide) c9)
  refine W.widen (k := 600002) (n := 7302232) (Nat.le_of_ble_eq_true rfl) (Nat.le_of_ble_eq_true rfl) ?_
  exact T9 _ _ _ hS (lv_sub hl [0, 4] rfl)
