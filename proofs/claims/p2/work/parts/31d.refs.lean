set_option maxHeartbeats 4000000 in
theorem sp_X12_explore (G : kG9) {d : Nat} (hd : 2 ≤ d) (σ : St) (r1 : 0 ≤ (gi σ 84 119).toInt ∧ (gi σ 84 119).toInt ≤ 700) (r2 : (gi σ 84 119).toInt ≤ 700) (r3 : (gi σ 84 119).toInt ≤ 32) (r4 : 0 ≤ (gi σ 84 129).toInt ∧ (gi σ 84 129).toInt ≤ 3000) (r5 : 0 ≤ (gi σ 84 32).toInt ∧ (gi σ 84 32).toInt ≤ 4) (r6 : 0 ≤ (gi σ 84 131).toInt ∧ (gi σ 84 131).toInt ≤ 16) (A_128 : AR ap_128 σ 128) (A_134 : AR ap_134 σ 134) (A_135 : AR ap_135 σ 135) (A_136 : AR ap_136 σ 136) (A_137 : AR ap_137 σ 137) (A_156 : AR ap_156 σ 156) (A_157 : AR ap_157 σ 157) (A_158 : AR ap_158 σ 158) (A_159 : AR ap_159 σ 159) (A_194 : AR ap_194 σ 194) (P_CHA : CHA σ) (P_WOK : WOK σ) (P_INW : INW σ) (P_NAT : NAT σ) (P_NOK : NOK σ) : Ct G M_X12_explore d [.ref 84] σ (fun r σ' => ∃ x : Bool, r = some (.int (bI x)) ∧ Fm [125, 126, 127, 128, 129, 133, 134] [129, 131] σ σ' ∧ (x = true → DV σ') ∧ (x = true → WKS σ') ∧ (x = true → BEH σ') ∧ (x = true → 1 ≤ (gi σ' 84 129).toInt) ∧ (x = true → (gi σ' 84 119).toInt ≤ 32) ∧ (0 ≤ (gi σ' 84 129).toInt ∧ (gi σ' 84 129).toInt ≤ 3000) ∧ (0 ≤ (gi σ' 84 131).toInt ∧ (gi σ' 84 131).toInt ≤ 16) ∧ AR ap_128 σ' 128 ∧ AR ap_134 σ' 134 ∧ CHA σ' ∧ INW σ' ∧ True) := by
  refine wa_start (by decide) rfl (Nat.le_of_ble_eq_true rfl) (lv := [(0, .ref 84)]) rfl o_X12_explore_0 rfl ?_
  refine wa_aload_n (i := 0) rfl rfl ?_
  refine wa_geti ck_12 fl_12_928 ly_84 ?_
  refine wa_bipush (v := 32) (by decide) ?_
  refine wa_icmp_le o_X12_explore_11 (by decide) (fun h1 => ?_) (fun h1 => ?_)
  · refine wa_aload_n (i := 0) rfl rfl ?_
    refine wa_Vv (d9 := d - 1) [] [] (sp_X12_findWork G (d := d - 1) (by omega) σ  (by first | assumption | exact Or.inl rfl | exact Or.inr rfl | (((try simp only [vp_in_iff, Int32.lt_iff_toInt_lt, Int32.le_iff_toInt_le, ← Int32.toInt_inj, Int32.reduceToInt, n_1, n_2, n_8, Int32.toNatClampNeg, Int64.lt_iff_toInt_lt, Int64.le_iff_toInt_le, ← Int64.toInt_inj, Int64.reduceToInt, Int32.toInt_toInt64, lg_cmp_ge, lg_cmp_le, lg_cmp_gt, lg_cmp_lt, lg_cmp_eq, Bool.false_eq_true, Bool.true_eq_false, reduceCtorEq, false_iff, true_iff, iff_true, iff_false, and_true, true_and, and_false, false_and, reduceIte, ite_true, ite_false, eq_self] at *)) <;> omega)) (by first | assumption | exact Or.inl rfl | exact Or.inr rfl | (((try simp only [vp_in_iff, Int32.lt_iff_toInt_lt, Int32.le_iff_toInt_le, ← Int32.toInt_inj, Int32.reduceToInt, n_1, n_2, n_8, Int32.toNatClampNeg, Int64.lt_iff_toInt_lt, Int64.le_iff_toInt_le, ← Int64.toInt_inj, Int64.reduceToInt, Int32.toInt_toInt64, lg_cmp_ge, lg_cmp_le, lg_cmp_gt, lg_cmp_lt, lg_cmp_eq, Bool.false_eq_true, Bool.true_eq_false, reduceCtorEq, false_iff, true_iff, iff_true, iff_false, and_true, true_and, and_false, false_and, reduceIte, ite_true, ite_false, eq_self] at *)) <;> omega)) A_134 A_135 A_136 A_137 A_156 A_157 A_158 A_159 A_194 P_INW P_NAT P_NOK) (rfl) rfl rfl (zr (by omega)) mk_X12_findWork ly_84 ml_12_951 (Nat.le_of_ble_eq_true rfl) (fun s2 hs2 => ?_)
    obtain ⟨fs2, As2_134, Ps2_INW, Ps2_WKS, -⟩ := hs2
    have Fs2 : Fm [125, 126, 127, 128, 129, 133, 134] [129, 131] σ s2 := Fm.tr (Fm.rf [125, 126, 127, 128, 129, 133, 134] [129, 131] σ) (Fm.wd fs2 rfl rfl)
    refine wa_aload_n (i := 0) rfl rfl ?_
    refine wa_iconst (v := 1) (by decide) ?_
    refine wa_aload_n (i := 0) rfl rfl ?_
    refine wa_geti ck_12 fl_12_815 ly_84 ?_
    refine wa_rw (Fm.gi fs2 (q := 84) (k := 32) rfl rfl) ?_
    refine wa_ishl ?_
    refine wa_top (fun v4 hv4 => ?_)
    have tv4 := i_shl1 hv4
    clear hv4
    refine wa_puti ck_12 fl_12_960 ly_84 (fun s5 hs5 => ?_)
    have Fs5 : Fm [125, 126, 127, 128, 129, 133, 134] [129, 131] σ s5 := by rw [hs5]; exact Fm.si Fs2 rfl
    refine wa_iconst (v := 0) (by decide) ?_
    refine wa_istore_nD (lv' := [(1, .int 0), (0, .ref 84)]) (i := 1) rfl (by decide) rfl ?_
    refine wa_pick [1, 0] rfl ?_
    have hi8 : ∀ (n9_27 : Nat) (l1 : Int32) (s6 : St), ((Fm [125, 126, 127, 128, 129, 133, 134] [129, 131] σ s6) ∧ (gi s6 84 119 = gi σ 84 119) ∧ (gi s6 84 129 = gi σ 84 129) ∧ (gi s6 84 32 = gi σ 84 32) ∧ (gi s6 84 131 = v4) ∧ (AR ap_128 s6 128) ∧ (AR ap_134 s6 134) ∧ (CHA s6) ∧ (INW s6) ∧ (WKS s6) ∧ (0 ≤ l1.toInt) ∧ (∀ k : Nat, (k : Int) < l1.toInt → (gi s6 127 k).toInt = -1) ∧ (True)) → (2147483647 - l1.toInt).toNat = n9_27 → WA G M_X12_explore (ZM G M_X12_explore d (fun r σ' => ∃ x : Bool, r = some (.int (bI x)) ∧ Fm [125, 126, 127, 128, 129, 133, 134] [129, 131] σ σ' ∧ (x = true → DV σ') ∧ (x = true → WKS σ') ∧ (x = true → BEH σ') ∧ (x = true → 1 ≤ (gi σ' 84 129).toInt) ∧ (x = true → (gi σ' 84 119).toInt ≤ 32) ∧ (0 ≤ (gi σ' 84 129).toInt ∧ (gi σ' 84 129).toInt ≤ 3000) ∧ (0 ≤ (gi σ' 84 131).toInt ∧ (gi σ' 84 131).toInt ≤ 16) ∧ AR ap_128 σ' 128 ∧ AR ap_134 σ' 134 ∧ CHA σ' ∧ INW σ' ∧ True)) B_X12_explore_27 [(0, .ref 84), (1, .int l1)] [] s6 := by
      intro n9_27
      induction n9_27 using Nat.strongRecOn with
      | _ n9_27 ih7 =>
        intro l1 s6 i9 m9_27
        obtain ⟨Fs6, khi8_0, khi8_1, khi8_2, khi8_3, As6_128, As6_134, Ps6_CHA, Ps6_INW, Ps6_WKS, jhi8_0, jhi8_1, -⟩ := i9
        have ul1 := Int32.toInt_lt l1
        have wl1 := Int32.le_toInt l1
        refine wa_iload_n (i := 1) rfl rfl ?_
        refine wa_ldcw (v := (32768)) (allW_in (kT_9 _ (List.mem_of_getElem? (i := 197) rfl)) rfl) ?_
        refine wa_icmp_ge o_X12_explore_47 (by decide) (fun h9 => ?_) (fun h9 => ?_)
        · refine wa_aload_n (i := 0) rfl rfl ?_
          refine wa_iconst (v := 0) (by decide) ?_
          refine wa_puti ck_12 fl_12_957 ly_84 (fun s10 hs10 => ?_)
          have Fs10 : Fm [125, 126, 127, 128, 129, 133, 134] [129, 131] σ s10 := by rw [hs10]; exact Fm.si Fs6 rfl
          have Pq := hds_new hs10 (by decide) (fun k hk => ‹∀ k : Nat, (k : Int) < _ → (gi _ 127 k).toInt = -1› k (by ((try simp only [vp_in_iff, Int32.lt_iff_toInt_lt, Int32.le_iff_toInt_le, ← Int32.toInt_inj, Int32.reduceToInt, n_1, n_2, n_8, Int32.toNatClampNeg, Int64.lt_iff_toInt_lt, Int64.le_iff_toInt_le, ← Int64.toInt_inj, Int64.reduceToInt, Int32.toInt_toInt64, lg_cmp_ge, lg_cmp_le, lg_cmp_gt, lg_cmp_lt, lg_cmp_eq, Bool.false_eq_true, Bool.true_eq_false, reduceCtorEq, false_iff, true_iff, iff_true, iff_false, and_true, true_and, and_false, false_and, reduceIte, ite_true, ite_false, eq_self] at *)) <;> omega))
          have Ps10_HDS := Pq.1
          have Ps10_CHA := Pq.2
          have Ps10_DV := dv_new hs10 (by decide)
          refine wa_iconst (v := 0) (by decide) ?_
          refine wa_istore_nD (lv' := [(1, .int 0), (0, .ref 84)]) (i := 1) rfl (by decide) rfl ?_
          refine wa_pick [1, 0] rfl ?_
          have hi13 : ∀ (n9_54 : Nat) (l1 : Int32) (s11 : St), ((Fm [125, 126, 127, 128, 129, 133, 134] [129, 131] σ s11) ∧ (gi s11 84 119 = gi σ 84 119) ∧ (gi s11 84 129 = (0 : Int32)) ∧ (gi s11 84 32 = gi σ 84 32) ∧ (gi s11 84 131 = v4) ∧ (AR ap_128 s11 128) ∧ (AR ap_134 s11 134) ∧ (CHA s11) ∧ (INW s11) ∧ (HDS s11) ∧ (DV s11) ∧ (WKS s11) ∧ (0 ≤ l1.toInt) ∧ (∀ k : Nat, (k : Int) < l1.toInt → DVo (gi s11 135 k).toInt (gi s11 125 k).toInt) ∧ (True)) → (2147483647 - l1.toInt).toNat = n9_54 → WA G M_X12_explore (ZM G M_X12_explore d (fun r σ' => ∃ x : Bool, r = some (.int (bI x)) ∧ Fm [125, 126, 127, 128, 129, 133, 134] [129, 131] σ σ' ∧ (x = true → DV σ') ∧ (x = true → WKS σ') ∧ (x = true → BEH σ') ∧ (x = true → 1 ≤ (gi σ' 84 129).toInt) ∧ (x = true → (gi σ' 84 119).toInt ≤ 32) ∧ (0 ≤ (gi σ' 84 129).toInt ∧ (gi σ' 84 129).toInt ≤ 3000) ∧ (0 ≤ (gi σ' 84 131).toInt ∧ (gi σ' 84 131).toInt ≤ 16) ∧ AR ap_128 σ' 128 ∧ AR ap_134 σ' 134 ∧ CHA σ' ∧ INW σ' ∧ True)) B_X12_explore_54 [(0, .ref 84), (1, .int l1)] [] s11 := by
            intro n9_54
            induction n9_54 using Nat.strongRecOn with
            | _ n9_54 ih12 =>
              intro l1 s11 i9 m9_54
              obtain ⟨Fs11, khi13_0, khi13_1, khi13_2, khi13_3, As11_128, As11_134, Ps11_CHA, Ps11_INW, Ps11_HDS, Ps11_DV, Ps11_WKS, jhi13_0, jhi13_1, -⟩ := i9
              have ul1 := Int32.toInt_lt l1
              have wl1 := Int32.le_toInt l1
              refine wa_iload_n (i := 1) rfl rfl ?_
              refine wa_aload_n (i := 0) rfl rfl ?_
              refine wa_geti ck_12 fl_12_928 ly_84 ?_
              refine wa_rw (khi13_0) ?_
              refine wa_icmp_ge o_X12_explore_108 (by decide) (fun h14 => ?_) (fun h14 => ?_)
              · have Ps11_DI : DI s11 := fun k hk => ‹∀ k : Nat, (k : Int) < _ → DVo _ _› k (by ((try simp only [vp_in_iff, Int32.lt_iff_toInt_lt, Int32.le_iff_toInt_le, ← Int32.toInt_inj, Int32.reduceToInt, n_1, n_2, n_8, Int32.toNatClampNeg, Int64.lt_iff_toInt_lt, Int64.le_iff_toInt_le, ← Int64.toInt_inj, Int64.reduceToInt, Int32.toInt_toInt64, lg_cmp_ge, lg_cmp_le, lg_cmp_gt, lg_cmp_lt, lg_cmp_eq, Bool.false_eq_true, Bool.true_eq_false, reduceCtorEq, false_iff, true_iff, iff_true, iff_false, and_true, true_and, and_false, false_and, reduceIte, ite_true, ite_false, eq_self] at *)) <;> omega)
                refine wa_aload_n (i := 0) rfl rfl ?_
                refine wa_Vi (d9 := d - 1) [] [] (sp_X12_placeOf G (d := d - 1) (by omega) s11  (by rw [khi13_0]; first | assumption | exact Or.inl rfl | exact Or.inr rfl | (((try simp only [vp_in_iff, Int32.lt_iff_toInt_lt, Int32.le_iff_toInt_le, ← Int32.toInt_inj, Int32.reduceToInt, n_1, n_2, n_8, Int32.toNatClampNeg, Int64.lt_iff_toInt_lt, Int64.le_iff_toInt_le, ← Int64.toInt_inj, Int64.reduceToInt, Int32.toInt_toInt64, lg_cmp_ge, lg_cmp_le, lg_cmp_gt, lg_cmp_lt, lg_cmp_eq, Bool.false_eq_true, Bool.true_eq_false, reduceCtorEq, false_iff, true_iff, iff_true, iff_false, and_true, true_and, and_false, false_and, reduceIte, ite_true, ite_false, eq_self] at *)) <;> omega)) (by rw [khi13_1]; first | assumption | exact Or.inl rfl | exact Or.inr rfl | (((try simp only [vp_in_iff, Int32.lt_iff_toInt_lt, Int32.le_iff_toInt_le, ← Int32.toInt_inj, Int32.reduceToInt, n_1, n_2, n_8, Int32.toNatClampNeg, Int64.lt_iff_toInt_lt, Int64.le_iff_toInt_le, ← Int64.toInt_inj, Int64.reduceToInt, Int32.toInt_toInt64, lg_cmp_ge, lg_cmp_le, lg_cmp_gt, lg_cmp_lt, lg_cmp_eq, Bool.false_eq_true, Bool.true_eq_false, reduceCtorEq, false_iff, true_iff, iff_true, iff_false, and_true, true_and, and_false, false_and, reduceIte, ite_true, ite_false, eq_self] at *)) <;> omega)) Ps11_CHA Ps11_HDS Ps11_DI Ps11_DV) (rfl) rfl rfl (zr (by omega)) mk_X12_placeOf ly_84 ml_12_963 (Nat.le_of_ble_eq_true rfl) (fun x16 s15 hs15 => ?_)
                obtain ⟨fs15, cx16_1, cx16_2, cx16_3, cx16_4, Ps15_CHA, Ps15_HDS, Ps15_DV, -⟩ := pI hs15
                rw [khi13_1] at cx16_2
                have Fs15 : Fm [125, 126, 127, 128, 129, 133, 134] [129, 131] σ s15 := Fm.tr Fs11 (Fm.wd fs15 rfl rfl)
                refine wa_istore_nD (lv' := [(1, .int x16), (0, .ref 84)]) (i := 1) rfl (by decide) rfl ?_
                refine wa_iconst (v := 0) (by decide) ?_
                refine wa_istore_nD (lv' := [(2, .int 0), (1, .int x16), (0, .ref 84)]) (i := 2) rfl (by decide) rfl ?_
                refine wa_pick [2, 0] rfl ?_
                have hi19 : ∀ (n9_115 : Nat) (l2 : Int32) (s17 : St), ((Fm [125, 126, 127, 128, 129, 133, 134] [129, 131] σ s17) ∧ (gi s17 84 119 = gi σ 84 119) ∧ (gi s17 84 32 = gi σ 84 32) ∧ (gi s17 84 131 = v4) ∧ (AR ap_128 s17 128) ∧ (AR ap_134 s17 134) ∧ (CHA s17) ∧ (INW s17) ∧ (HDS s17) ∧ (DV s17) ∧ (WKS s17) ∧ (0 ≤ l2.toInt) ∧ (1 ≤ (gi s17 84 129).toInt) ∧ (BEHP s17 (l2.toInt) 0) ∧ (0 ≤ (gi s17 84 129).toInt ∧ (gi s17 84 129).toInt ≤ 3000) ∧ (True)) → (2147483647 - l2.toInt).toNat = n9_115 → WA G M_X12_explore (ZM G M_X12_explore d (fun r σ' => ∃ x : Bool, r = some (.int (bI x)) ∧ Fm [125, 126, 127, 128, 129, 133, 134] [129, 131] σ σ' ∧ (x = true → DV σ') ∧ (x = true → WKS σ') ∧ (x = true → BEH σ') ∧ (x = true → 1 ≤ (gi σ' 84 129).toInt) ∧ (x = true → (gi σ' 84 119).toInt ≤ 32) ∧ (0 ≤ (gi σ' 84 129).toInt ∧ (gi σ' 84 129).toInt ≤ 3000) ∧ (0 ≤ (gi σ' 84 131).toInt ∧ (gi σ' 84 131).toInt ≤ 16) ∧ AR ap_128 σ' 128 ∧ AR ap_134 σ' 134 ∧ CHA σ' ∧ INW σ' ∧ True)) B_X12_explore_115 [(0, .ref 84), (2, .int l2)] [] s17 := by
                  intro n9_115
                  induction n9_115 using Nat.strongRecOn with
                  | _ n9_115 ih18 =>
                    intro l2 s17 i9 m9_115
                    obtain ⟨Fs17, khi19_0, khi19_1, khi19_2, As17_128, As17_134, Ps17_CHA, Ps17_INW, Ps17_HDS, Ps17_DV, Ps17_WKS, jhi19_0, jhi19_1, jhi19_2, jhi19_3, -⟩ := i9
                    have ul2 := Int32.toInt_lt l2
                    have wl2 := Int32.le_toInt l2
                    refine wa_iload_n (i := 2) rfl rfl ?_
                    refine wa_aload_n (i := 0) rfl rfl ?_
                    refine wa_geti ck_12 fl_12_957 ly_84 ?_
                    refine wa_icmp_ge o_X12_explore_218 (by decide) (fun h20 => ?_) (fun h20 => ?_)
                    · refine wa_iconst (v := 1) (by decide) ?_
                      refine wa_zreturn true (rfl) rfl rfl ?_
                      exact ⟨_, rfl, Fs17, (fun hx => by first | exact absurd hx Bool.false_ne_true | exact Ps17_DV), (fun hx => by first | exact absurd hx Bool.false_ne_true | exact Ps17_WKS), (fun hx => by first | exact absurd hx Bool.false_ne_true | exact behp_end (by assumption) (by ((try simp only [vp_in_iff, Int32.lt_iff_toInt_lt, Int32.le_iff_toInt_le, ← Int32.toInt_inj, Int32.reduceToInt, n_1, n_2, n_8, Int32.toNatClampNeg, Int64.lt_iff_toInt_lt, Int64.le_iff_toInt_le, ← Int64.toInt_inj, Int64.reduceToInt, Int32.toInt_toInt64, lg_cmp_ge, lg_cmp_le, lg_cmp_gt, lg_cmp_lt, lg_cmp_eq, Bool.false_eq_true, Bool.true_eq_false, reduceCtorEq, false_iff, true_iff, iff_true, iff_false, and_true, true_and, and_false, false_and, reduceIte, ite_true, ite_false, eq_self] at *)) <;> omega)), (fun hx => by first | exact absurd hx Bool.false_ne_true | (rw [rfl]; ((try simp only [vp_in_iff, Int32.lt_iff_toInt_lt, Int32.le_iff_toInt_le, ← Int32.toInt_inj, Int32.reduceToInt, n_1, n_2, n_8, Int32.toNatClampNeg, Int64.lt_iff_toInt_lt, Int64.le_iff_toInt_le, ← Int64.toInt_inj, Int64.reduceToInt, Int32.toInt_toInt64, lg_cmp_ge, lg_cmp_le, lg_cmp_gt, lg_cmp_lt, lg_cmp_eq, Bool.false_eq_true, Bool.true_eq_false, reduceCtorEq, false_iff, true_iff, iff_true, iff_false, and_true, true_and, and_false, false_and, reduceIte, ite_true, ite_false, eq_self] at *)) <;> omega) | (((try simp only [vp_in_iff, Int32.lt_iff_toInt_lt, Int32.le_iff_toInt_le, ← Int32.toInt_inj, Int32.reduceToInt, n_1, n_2, n_8, Int32.toNatClampNeg, Int64.lt_iff_toInt_lt, Int64.le_iff_toInt_le, ← Int64.toInt_inj, Int64.reduceToInt, Int32.toInt_toInt64, lg_cmp_ge, lg_cmp_le, lg_cmp_gt, lg_cmp_lt, lg_cmp_eq, Bool.false_eq_true, Bool.true_eq_false, reduceCtorEq, false_iff, true_iff, iff_true, iff_false, and_true, true_and, and_false, false_and, reduceIte, ite_true, ite_false, eq_self] at *)) <;> omega)), (fun hx => by first | exact absurd hx Bool.false_ne_true | (rw [(khi19_0)]; ((try simp only [vp_in_iff, Int32.lt_iff_toInt_lt, Int32.le_iff_toInt_le, ← Int32.toInt_inj, Int32.reduceToInt, n_1, n_2, n_8, Int32.toNatClampNeg, Int64.lt_iff_toInt_lt, Int64.le_iff_toInt_le, ← Int64.toInt_inj, Int64.reduceToInt, Int32.toInt_toInt64, lg_cmp_ge, lg_cmp_le, lg_cmp_gt, lg_cmp_lt, lg_cmp_eq, Bool.false_eq_true, Bool.true_eq_false, reduceCtorEq, false_iff, true_iff, iff_true, iff_false, and_true, true_and, and_false, false_and, reduceIte, ite_true, ite_false, eq_self] at *)) <;> omega) | (((try simp only [vp_in_iff, Int32.lt_iff_toInt_lt, Int32.le_iff_toInt_le, ← Int32.toInt_inj, Int32.reduceToInt, n_1, n_2, n_8, Int32.toNatClampNeg, Int64.lt_iff_toInt_lt, Int64.le_iff_toInt_le, ← Int64.toInt_inj, Int64.reduceToInt, Int32.toInt_toInt64, lg_cmp_ge, lg_cmp_le, lg_cmp_gt, lg_cmp_lt, lg_cmp_eq, Bool.false_eq_true, Bool.true_eq_false, reduceCtorEq, false_iff, true_iff, iff_true, iff_false, and_true, true_and, and_false, false_and, reduceIte, ite_true, ite_false, eq_self] at *)) <;> omega)), (by first | assumption | (((try simp only [vp_in_iff, Int32.lt_iff_toInt_lt, Int32.le_iff_toInt_le, ← Int32.toInt_inj, Int32.reduceToInt, n_1, n_2, n_8, Int32.toNatClampNeg, Int64.lt_iff_toInt_lt, Int64.le_iff_toInt_le, ← Int64.toInt_inj, Int64.reduceToInt, Int32.toInt_toInt64, lg_cmp_ge, lg_cmp_le, lg_cmp_gt, lg_cmp_lt, lg_cmp_eq, Bool.false_eq_true, Bool.true_eq_false, reduceCtorEq, false_iff, true_iff, iff_true, iff_false, and_true, true_and, and_false, false_and, reduceIte, ite_true, ite_false, eq_self] at *)) <;> omega)), (by rw [khi19_2]; first | assumption | (((try simp only [vp_in_iff, Int32.lt_iff_toInt_lt, Int32.le_iff_toInt_le, ← Int32.toInt_inj, Int32.reduceToInt, n_1, n_2, n_8, Int32.toNatClampNeg, Int64.lt_iff_toInt_lt, Int64.le_iff_toInt_le, ← Int64.toInt_inj, Int64.reduceToInt, Int32.toInt_toInt64, lg_cmp_ge, lg_cmp_le, lg_cmp_gt, lg_cmp_lt, lg_cmp_eq, Bool.false_eq_true, Bool.true_eq_false, reduceCtorEq, false_iff, true_iff, iff_true, iff_false, and_true, true_and, and_false, false_and, reduceIte, ite_true, ite_false, eq_self] at *)) <;> omega)), As17_128, As17_134, Ps17_CHA, Ps17_INW, trivial⟩
                    · have mh20 := nle_mx h20
                      refine wa_iconst (v := 0) (by decide) ?_
                      refine wa_istore_nD (lv' := [(3, .int 0), (0, .ref 84), (2, .int l2)]) (i := 3) rfl (by decide) rfl ?_
                      refine wa_pick [1, 2, 0] rfl ?_
                      have hi23 : ∀ (n9_125 : Nat) (l3 : Int32) (s21 : St), ((Fm [125, 126, 127, 128, 129, 133, 134] [129, 131] σ s21) ∧ (gi s21 84 119 = gi σ 84 119) ∧ (gi s21 84 32 = gi σ 84 32) ∧ (gi s21 84 131 = v4) ∧ (AR ap_128 s21 128) ∧ (AR ap_134 s21 134) ∧ (CHA s21) ∧ (INW s21) ∧ (HDS s21) ∧ (DV s21) ∧ (WKS s21) ∧ (0 ≤ l3.toInt) ∧ (1 ≤ (gi s21 84 129).toInt) ∧ (BEHP s21 (l2.toInt) (l3.toInt)) ∧ (0 ≤ (gi s21 84 129).toInt ∧ (gi s21 84 129).toInt ≤ 3000) ∧ (True)) → (2147483647 - l3.toInt).toNat = n9_125 → WA G M_X12_explore (ZM G M_X12_explore d (fun r σ' => ∃ x : Bool, r = some (.int (bI x)) ∧ Fm [125, 126, 127, 128, 129, 133, 134] [129, 131] σ σ' ∧ (x = true → DV σ') ∧ (x = true → WKS σ') ∧ (x = true → BEH σ') ∧ (x = true → 1 ≤ (gi σ' 84 129).toInt) ∧ (x = true → (gi σ' 84 119).toInt ≤ 32) ∧ (0 ≤ (gi σ' 84 129).toInt ∧ (gi σ' 84 129).toInt ≤ 3000) ∧ (0 ≤ (gi σ' 84 131).toInt ∧ (gi σ' 84 131).toInt ≤ 16) ∧ AR ap_128 σ' 128 ∧ AR ap_134 σ' 134 ∧ CHA σ' ∧ INW σ' ∧ True)) B_X12_explore_125 [(0, .ref 84), (2, .int l2), (3, .int l3)] [] s21 := by
                        intro n9_125
                        induction n9_125 using Nat.strongRecOn with
                        | _ n9_125 ih22 =>
                          intro l3 s21 i9 m9_125
                          obtain ⟨Fs21, khi23_0, khi23_1, khi23_2, As21_128, As21_134, Ps21_CHA, Ps21_INW, Ps21_HDS, Ps21_DV, Ps21_WKS, jhi23_0, jhi23_1, jhi23_2, jhi23_3, -⟩ := i9
                          have ul3 := Int32.toInt_lt l3
                          have wl3 := Int32.le_toInt l3
                          refine wa_iload_n (i := 3) rfl rfl ?_
                          refine wa_aload_n (i := 0) rfl rfl ?_
                          refine wa_geti ck_12 fl_12_960 ly_84 ?_
                          refine wa_rw (khi23_2) ?_
                          refine wa_icmp_ge o_X12_explore_212 (by decide) (fun h24 => ?_) (fun h24 => ?_)
                          · refine wa_iinc (v := (1)) (lv' := fun y25 => [(2, .int y25), (0, .ref 84), (3, .int l3)]) (by decide) rfl (by decide) (fun _ => rfl) (fun y25 hy25 => ?_)
                            have ty25 := i_addT hy25.symm
                            clear hy25
                            refine wa_goto o_X12_explore_115 (by decide) ?_
                            refine wa_pick [1, 0] rfl ?_
                            exact ih18 _ (by ((try simp only [vp_in_iff, Int32.lt_iff_toInt_lt, Int32.le_iff_toInt_le, ← Int32.toInt_inj, Int32.reduceToInt, n_1, n_2, n_8, Int32.toNatClampNeg, Int64.lt_iff_toInt_lt, Int64.le_iff_toInt_le, ← Int64.toInt_inj, Int64.reduceToInt, Int32.toInt_toInt64, lg_cmp_ge, lg_cmp_le, lg_cmp_gt, lg_cmp_lt, lg_cmp_eq, Bool.false_eq_true, Bool.true_eq_false, reduceCtorEq, false_iff, true_iff, iff_true, iff_false, and_true, true_and, and_false, false_and, reduceIte, ite_true, ite_false, eq_self] at *)) <;> omega) _ _ ⟨Fs21, (khi23_0), (khi23_1), (khi23_2), As21_128, As21_134, Ps21_CHA, Ps21_INW, Ps21_HDS, Ps21_DV, Ps21_WKS, (by ((try simp only [vp_in_iff, Int32.lt_iff_toInt_lt, Int32.le_iff_toInt_le, ← Int32.toInt_inj, Int32.reduceToInt, n_1, n_2, n_8, Int32.toNatClampNeg, Int64.lt_iff_toInt_lt, Int64.le_iff_toInt_le, ← Int64.toInt_inj, Int64.reduceToInt, Int32.toInt_toInt64, lg_cmp_ge, lg_cmp_le, lg_cmp_gt, lg_cmp_lt, lg_cmp_eq, Bool.false_eq_true, Bool.true_eq_false, reduceCtorEq, false_iff, true_iff, iff_true, iff_false, and_true, true_and, and_false, false_and, reduceIte, ite_true, ite_false, eq_self] at *)) <;> omega), (by first | assumption | (((try simp only [vp_in_iff, Int32.lt_iff_toInt_lt, Int32.le_iff_toInt_le, ← Int32.toInt_inj, Int32.reduceToInt, n_1, n_2, n_8, Int32.toNatClampNeg, Int64.lt_iff_toInt_lt, Int64.le_iff_toInt_le, ← Int64.toInt_inj, Int64.reduceToInt, Int32.toInt_toInt64, lg_cmp_ge, lg_cmp_le, lg_cmp_gt, lg_cmp_lt, lg_cmp_eq, Bool.false_eq_true, Bool.true_eq_false, reduceCtorEq, false_iff, true_iff, iff_true, iff_false, and_true, true_and, and_false, false_and, reduceIte, ite_true, ite_false, eq_self] at *)) <;> omega)), (by first | exact behp_p (by assumption) (by ((try simp only [vp_in_iff, Int32.lt_iff_toInt_lt, Int32.le_iff_toInt_le, ← Int32.toInt_inj, Int32.reduceToInt, n_1, n_2, n_8, Int32.toNatClampNeg, Int64.lt_iff_toInt_lt, Int64.le_iff_toInt_le, ← Int64.toInt_inj, Int64.reduceToInt, Int32.toInt_toInt64, lg_cmp_ge, lg_cmp_le, lg_cmp_gt, lg_cmp_lt, lg_cmp_eq, Bool.false_eq_true, Bool.true_eq_false, reduceCtorEq, false_iff, true_iff, iff_true, iff_false, and_true, true_and, and_false, false_and, reduceIte, ite_true, ite_false, eq_self] at *)) <;> omega) (by ((try simp only [vp_in_iff, Int32.lt_iff_toInt_lt, Int32.le_iff_toInt_le, ← Int32.toInt_inj, Int32.reduceToInt, n_1, n_2, n_8, Int32.toNatClampNeg, Int64.lt_iff_toInt_lt, Int64.le_iff_toInt_le, ← Int64.toInt_inj, Int64.reduceToInt, Int32.toInt_toInt64, lg_cmp_ge, lg_cmp_le, lg_cmp_gt, lg_cmp_lt, lg_cmp_eq, Bool.false_eq_true, Bool.true_eq_false, reduceCtorEq, false_iff, true_iff, iff_true, iff_false, and_true, true_and, and_false, false_and, reduceIte, ite_true, ite_false, eq_self] at *)) <;> omega) | exact behp_0 (by ((try simp only [vp_in_iff, Int32.lt_iff_toInt_lt, Int32.le_iff_toInt_le, ← Int32.toInt_inj, Int32.reduceToInt, n_1, n_2, n_8, Int32.toNatClampNeg, Int64.lt_iff_toInt_lt, Int64.le_iff_toInt_le, ← Int64.toInt_inj, Int64.reduceToInt, Int32.toInt_toInt64, lg_cmp_ge, lg_cmp_le, lg_cmp_gt, lg_cmp_lt, lg_cmp_eq, Bool.false_eq_true, Bool.true_eq_false, reduceCtorEq, false_iff, true_iff, iff_true, iff_false, and_true, true_and, and_false, false_and, reduceIte, ite_true, ite_false, eq_self] at *)) <;> omega)), (by first | assumption | (((try simp only [vp_in_iff, Int32.lt_iff_toInt_lt, Int32.le_iff_toInt_le, ← Int32.toInt_inj, Int32.reduceToInt, n_1, n_2, n_8, Int32.toNatClampNeg, Int64.lt_iff_toInt_lt, Int64.le_iff_toInt_le, ← Int64.toInt_inj, Int64.reduceToInt, Int32.toInt_toInt64, lg_cmp_ge, lg_cmp_le, lg_cmp_gt, lg_cmp_lt, lg_cmp_eq, Bool.false_eq_true, Bool.true_eq_false, reduceCtorEq, false_iff, true_iff, iff_true, iff_false, and_true, true_and, and_false, false_and, reduceIte, ite_true, ite_false, eq_self] at *)) <;> omega)), trivial⟩ rfl
                          · have mh24 := nle_mx h24
                            refine wa_iconst (v := 0) (by decide) ?_
                            refine wa_istoreD (lv' := [(4, .int 0), (0, .ref 84), (2, .int l2), (3, .int l3)]) (by decide) rfl ?_
                            refine wa_pick [1, 2, 3, 0] rfl ?_
                            have hi28 : ∀ (n9_136 : Nat) (l4 : Int32) (s26 : St), ((Fm [125, 126, 127, 128, 129, 133, 134] [129, 131] σ s26) ∧ (gi s26 84 119 = gi σ 84 119) ∧ (gi s26 84 129 = gi s21 84 129) ∧ (gi s26 84 32 = gi σ 84 32) ∧ (gi s26 84 131 = v4) ∧ (AR ap_128 s26 128) ∧ (AR ap_134 s26 134) ∧ (CHA s26) ∧ (INW s26) ∧ (HDS s26) ∧ (DV s26) ∧ (WKS s26) ∧ (0 ≤ l4.toInt) ∧ (∀ k : Nat, (k : Int) < l4.toInt → DVo (gi s26 135 k).toInt (gi s26 125 k).toInt) ∧ (1 ≤ (gi s26 84 129).toInt) ∧ (BEHP s26 (l2.toInt) (l3.toInt)) ∧ (True)) → (2147483647 - l4.toInt).toNat = n9_136 → WA G M_X12_explore (ZM G M_X12_explore d (fun r σ' => ∃ x : Bool, r = some (.int (bI x)) ∧ Fm [125, 126, 127, 128, 129, 133, 134] [129, 131] σ σ' ∧ (x = true → DV σ') ∧ (x = true → WKS σ') ∧ (x = true → BEH σ') ∧ (x = true → 1 ≤ (gi σ' 84 129).toInt) ∧ (x = true → (gi σ' 84 119).toInt ≤ 32) ∧ (0 ≤ (gi σ' 84 129).toInt ∧ (gi σ' 84 129).toInt ≤ 3000) ∧ (0 ≤ (gi σ' 84 131).toInt ∧ (gi σ' 84 131).toInt ≤ 16) ∧ AR ap_128 σ' 128 ∧ AR ap_134 σ' 134 ∧ CHA σ' ∧ INW σ' ∧ True)) B_X12_explore_136 [(0, .ref 84), (2, .int l2), (3, .int l3), (4, .int l4)] [] s26 := by
                              intro n9_136
                              induction n9_136 using Nat.strongRecOn with
                              | _ n9_136 ih27 =>
                                intro l4 s26 i9 m9_136
                                obtain ⟨Fs26, khi28_0, khi28_1, khi28_2, khi28_3, As26_128, As26_134, Ps26_CHA, Ps26_INW, Ps26_HDS, Ps26_DV, Ps26_WKS, jhi28_0, jhi28_1, jhi28_2, jhi28_3, -⟩ := i9
                                have ul4 := Int32.toInt_lt l4
                                have wl4 := Int32.le_toInt l4
                                refine wa_iload rfl ?_
                                refine wa_aload_n (i := 0) rfl rfl ?_
                                refine wa_geti ck_12 fl_12_928 ly_84 ?_
                                refine wa_rw (khi28_0) ?_
                                refine wa_icmp_ge o_X12_explore_177 (by decide) (fun h29 => ?_) (fun h29 => ?_)
                                · have Ps26_DI : DI s26 := fun k hk => ‹∀ k : Nat, (k : Int) < _ → DVo _ _› k (by ((try simp only [vp_in_iff, Int32.lt_iff_toInt_lt, Int32.le_iff_toInt_le, ← Int32.toInt_inj, Int32.reduceToInt, n_1, n_2, n_8, Int32.toNatClampNeg, Int64.lt_iff_toInt_lt, Int64.le_iff_toInt_le, ← Int64.toInt_inj, Int64.reduceToInt, Int32.toInt_toInt64, lg_cmp_ge, lg_cmp_le, lg_cmp_gt, lg_cmp_lt, lg_cmp_eq, Bool.false_eq_true, Bool.true_eq_false, reduceCtorEq, false_iff, true_iff, iff_true, iff_false, and_true, true_and, and_false, false_and, reduceIte, ite_true, ite_false, eq_self] at *)) <;> omega)
                                  refine wa_aload_n (i := 0) rfl rfl ?_
                                  refine wa_Vi (d9 := d - 1) [] [] (sp_X12_placeOf G (d := d - 1) (by omega) s26  (by rw [khi28_0]; first | assumption | exact Or.inl rfl | exact Or.inr rfl | (((try simp only [vp_in_iff, Int32.lt_iff_toInt_lt, Int32.le_iff_toInt_le, ← Int32.toInt_inj, Int32.reduceToInt, n_1, n_2, n_8, Int32.toNatClampNeg, Int64.lt_iff_toInt_lt, Int64.le_iff_toInt_le, ← Int64.toInt_inj, Int64.reduceToInt, Int32.toInt_toInt64, lg_cmp_ge, lg_cmp_le, lg_cmp_gt, lg_cmp_lt, lg_cmp_eq, Bool.false_eq_true, Bool.true_eq_false, reduceCtorEq, false_iff, true_iff, iff_true, iff_false, and_true, true_and, and_false, false_and, reduceIte, ite_true, ite_false, eq_self] at *)) <;> omega)) (by rw [khi28_1]; first | assumption | exact Or.inl rfl | exact Or.inr rfl | (((try simp only [vp_in_iff, Int32.lt_iff_toInt_lt, Int32.le_iff_toInt_le, ← Int32.toInt_inj, Int32.reduceToInt, n_1, n_2, n_8, Int32.toNatClampNeg, Int64.lt_iff_toInt_lt, Int64.le_iff_toInt_le, ← Int64.toInt_inj, Int64.reduceToInt, Int32.toInt_toInt64, lg_cmp_ge, lg_cmp_le, lg_cmp_gt, lg_cmp_lt, lg_cmp_eq, Bool.false_eq_true, Bool.true_eq_false, reduceCtorEq, false_iff, true_iff, iff_true, iff_false, and_true, true_and, and_false, false_and, reduceIte, ite_true, ite_false, eq_self] at *)) <;> omega)) Ps26_CHA Ps26_HDS Ps26_DI Ps26_DV) (rfl) rfl rfl (zr (by omega)) mk_X12_placeOf ly_84 ml_12_963 (Nat.le_of_ble_eq_true rfl) (fun x31 s30 hs30 => ?_)
                                  obtain ⟨fs30, cx31_1, cx31_2, cx31_3, cx31_4, Ps30_CHA, Ps30_HDS, Ps30_DV, -⟩ := pI hs30
                                  rw [khi28_1] at cx31_2
                                  have Fs30 : Fm [125, 126, 127, 128, 129, 133, 134] [129, 131] σ s30 := Fm.tr Fs26 (Fm.wd fs30 rfl rfl)
                                  have Ts30 := behp_map (fun k => Fm.gi fs30 (q := 128) (k := k) rfl rfl) (Fm.gi fs30 (q := 84) (k := 131) rfl rfl) (by ((try simp only [vp_in_iff, Int32.lt_iff_toInt_lt, Int32.le_iff_toInt_le, ← Int32.toInt_inj, Int32.reduceToInt, n_1, n_2, n_8, Int32.toNatClampNeg, Int64.lt_iff_toInt_lt, Int64.le_iff_toInt_le, ← Int64.toInt_inj, Int64.reduceToInt, Int32.toInt_toInt64, lg_cmp_ge, lg_cmp_le, lg_cmp_gt, lg_cmp_lt, lg_cmp_eq, Bool.false_eq_true, Bool.true_eq_false, reduceCtorEq, false_iff, true_iff, iff_true, iff_false, and_true, true_and, and_false, false_and, reduceIte, ite_true, ite_false, eq_self] at *)) <;> omega) ‹BEHP s26 _ _›
                                  refine wa_istoreD (lv' := [(4, .int x31), (0, .ref 84), (2, .int l2), (3, .int l3)]) (by decide) rfl ?_
                                  refine wa_iload rfl ?_
                                  refine wa_sipush (v := 3000) (by decide) ?_
                                  refine wa_icmp_ne o_X12_explore_193 (by decide) (fun h32 => ?_) (fun h32 => ?_)
                                  · refine wa_aload_n (i := 0) rfl rfl ?_
                                    refine wa_getr ck_12 fl_12_321 ly_84 rf_84_126 ?_
                                    refine wa_bipush (v := 16) (by decide) ?_
                                    refine wa_iload_n (i := 2) rfl rfl ?_
                                    refine wa_imul ?_
                                    refine wa_top (fun v33 hv33 => ?_)
                                    have tv33 := i_mulT hv33
                                    clear hv33
                                    refine wa_iload_n (i := 3) rfl rfl ?_
                                    refine wa_iadd ?_
                                    refine wa_top (fun v34 hv34 => ?_)
                                    have tv34 := i_addT hv34
                                    clear hv34
                                    refine wa_iload rfl ?_
                                    refine wa_iast ly_128 (by ((try simp only [vp_in_iff, Int32.lt_iff_toInt_lt, Int32.le_iff_toInt_le, ← Int32.toInt_inj, Int32.reduceToInt, n_1, n_2, n_8, Int32.toNatClampNeg, Int64.lt_iff_toInt_lt, Int64.le_iff_toInt_le, ← Int64.toInt_inj, Int64.reduceToInt, Int32.toInt_toInt64, lg_cmp_ge, lg_cmp_le, lg_cmp_gt, lg_cmp_lt, lg_cmp_eq, Bool.false_eq_true, Bool.true_eq_false, reduceCtorEq, false_iff, true_iff, iff_true, iff_false, and_true, true_and, and_false, false_and, reduceIte, ite_true, ite_false, eq_self] at *)) <;> omega) (fun s35 hs35 => ?_)
                                    have Fs35 : Fm [125, 126, 127, 128, 129, 133, 134] [129, 131] σ s35 := by rw [hs35]; exact Fm.si Fs30 rfl
                                    have Vs35 : 0 ≤ (x31 : Int32).toInt ∧ (x31 : Int32).toInt ≤ 2999 := by ((try simp only [vp_in_iff, Int32.lt_iff_toInt_lt, Int32.le_iff_toInt_le, ← Int32.toInt_inj, Int32.reduceToInt, n_1, n_2, n_8, Int32.toNatClampNeg, Int64.lt_iff_toInt_lt, Int64.le_iff_toInt_le, ← Int64.toInt_inj, Int64.reduceToInt, Int32.toInt_toInt64, lg_cmp_ge, lg_cmp_le, lg_cmp_gt, lg_cmp_lt, lg_cmp_eq, Bool.false_eq_true, Bool.true_eq_false, reduceCtorEq, false_iff, true_iff, iff_true, iff_false, and_true, true_and, and_false, false_and, reduceIte, ite_true, ite_false, eq_self] at *)) <;> omega
                                    have Us35 := fun {m9 : Int} (hm9 : m9 = (l3).toInt + 1) => behp_w hs35 ‹BEHP s30 _ _› (by ((try simp only [vp_in_iff, Int32.lt_iff_toInt_lt, Int32.le_iff_toInt_le, ← Int32.toInt_inj, Int32.reduceToInt, n_1, n_2, n_8, Int32.toNatClampNeg, Int64.lt_iff_toInt_lt, Int64.le_iff_toInt_le, ← Int64.toInt_inj, Int64.reduceToInt, Int32.toInt_toInt64, lg_cmp_ge, lg_cmp_le, lg_cmp_gt, lg_cmp_lt, lg_cmp_eq, Bool.false_eq_true, Bool.true_eq_false, reduceCtorEq, false_iff, true_iff, iff_true, iff_false, and_true, true_and, and_false, false_and, reduceIte, ite_true, ite_false, eq_self] at *)) <;> omega) (by ((try simp only [vp_in_iff, Int32.lt_iff_toInt_lt, Int32.le_iff_toInt_le, ← Int32.toInt_inj, Int32.reduceToInt, n_1, n_2, n_8, Int32.toNatClampNeg, Int64.lt_iff_toInt_lt, Int64.le_iff_toInt_le, ← Int64.toInt_inj, Int64.reduceToInt, Int32.toInt_toInt64, lg_cmp_ge, lg_cmp_le, lg_cmp_gt, lg_cmp_lt, lg_cmp_eq, Bool.false_eq_true, Bool.true_eq_false, reduceCtorEq, false_iff, true_iff, iff_true, iff_false, and_true, true_and, and_false, false_and, reduceIte, ite_true, ite_false, eq_self] at *)) <;> omega) (by ((try simp only [vp_in_iff, Int32.lt_iff_toInt_lt, Int32.le_iff_toInt_le, ← Int32.toInt_inj, Int32.reduceToInt, n_1, n_2, n_8, Int32.toNatClampNeg, Int64.lt_iff_toInt_lt, Int64.le_iff_toInt_le, ← Int64.toInt_inj, Int64.reduceToInt, Int32.toInt_toInt64, lg_cmp_ge, lg_cmp_le, lg_cmp_gt, lg_cmp_lt, lg_cmp_eq, Bool.false_eq_true, Bool.true_eq_false, reduceCtorEq, false_iff, true_iff, iff_true, iff_false, and_true, true_and, and_false, false_and, reduceIte, ite_true, ite_false, eq_self] at *)) <;> omega) hm9
                                    refine wa_iinc (v := (1)) (lv' := fun y36 => [(3, .int y36), (4, .int x31), (0, .ref 84), (2, .int l2)]) (by decide) rfl (by decide) (fun _ => rfl) (fun y36 hy36 => ?_)
                                    have ty36 := i_addT hy36.symm
                                    clear hy36
                                    refine wa_goto o_X12_explore_125 (by decide) ?_
                                    refine wa_pick [2, 3, 0] rfl ?_
                                    exact ih22 _ (by ((try simp only [vp_in_iff, Int32.lt_iff_toInt_lt, Int32.le_iff_toInt_le, ← Int32.toInt_inj, Int32.reduceToInt, n_1, n_2, n_8, Int32.toNatClampNeg, Int64.lt_iff_toInt_lt, Int64.le_iff_toInt_le, ← Int64.toInt_inj, Int64.reduceToInt, Int32.toInt_toInt64, lg_cmp_ge, lg_cmp_le, lg_cmp_gt, lg_cmp_lt, lg_cmp_eq, Bool.false_eq_true, Bool.true_eq_false, reduceCtorEq, false_iff, true_iff, iff_true, iff_false, and_true, true_and, and_false, false_and, reduceIte, ite_true, ite_false, eq_self] at *)) <;> omega) _ _ ⟨Fs35, ((nxq_gi_si hs35 (by decide)).trans ((Fm.gi fs30 (q := 84) (k := 119) rfl rfl).trans (khi28_0))), ((nxq_gi_si hs35 (by decide)).trans ((Fm.gi fs30 (q := 84) (k := 32) rfl rfl).trans (khi28_2))), ((nxq_gi_si hs35 (by decide)).trans ((Fm.gi fs30 (q := 84) (k := 131) rfl rfl).trans (khi28_3))), (ar_w hs35 Vs35 (ar_fm fs30 rfl rfl As26_128)), (ar_ni hs35 (by decide) (ar_fm fs30 rfl rfl As26_134)), (CHA_of (fun k => nxq_gi_si hs35 (by decide)) (nxq_gi_si hs35 (by decide)) Ps30_CHA), (INW_of (fun k => (nx_gb_si hs35).trans (Fm.gb fs30 (q := 133) (k := k) rfl rfl)) (fun k => (nxq_gi_si hs35 (by decide)).trans (Fm.gi fs30 (q := 156) (k := k) rfl rfl)) ((nxq_gi_si hs35 (by decide)).trans (Fm.gi fs30 (q := 84) (k := 119) rfl rfl)) (fun k => (nxq_gi_si hs35 (by decide)).trans (Fm.gi fs30 (q := 157) (k := k) rfl rfl)) (fun k => (nxq_gi_si hs35 (by decide)).trans (Fm.gi fs30 (q := 158) (k := k) rfl rfl)) (fun k => (nxq_gi_si hs35 (by decide)).trans (Fm.gi fs30 (q := 159) (k := k) rfl rfl)) (fun k => (nxq_gi_si hs35 (by decide)).trans (Fm.gi fs30 (q := 135) (k := k) rfl rfl)) (fun k => (nxq_gi_si hs35 (by decide)).trans (Fm.gi fs30 (q := 136) (k := k) rfl rfl)) (fun k => (nxq_gi_si hs35 (by decide)).trans (Fm.gi fs30 (q := 137) (k := k) rfl rfl)) Ps26_INW), (HDS_of (fun k => nxq_gi_si hs35 (by decide)) (nxq_gi_si hs35 (by decide)) Ps30_HDS), (DV_of (fun k => nxq_gi_si hs35 (by decide)) (fun k => nxq_gi_si hs35 (by decide)) (nxq_gi_si hs35 (by decide)) (nxq_gi_si hs35 (by decide)) Ps30_DV), (WKS_of (fun k => (nx_gb_si hs35).trans (Fm.gb fs30 (q := 133) (k := k) rfl rfl)) (fun k => (nxq_gi_si hs35 (by decide)).trans (Fm.gi fs30 (q := 156) (k := k) rfl rfl)) (fun k => (nxq_gi_si hs35 (by decide)).trans (Fm.gi fs30 (q := 134) (k := k) rfl rfl)) Ps26_WKS), (by ((try simp only [vp_in_iff, Int32.lt_iff_toInt_lt, Int32.le_iff_toInt_le, ← Int32.toInt_inj, Int32.reduceToInt, n_1, n_2, n_8, Int32.toNatClampNeg, Int64.lt_iff_toInt_lt, Int64.le_iff_toInt_le, ← Int64.toInt_inj, Int64.reduceToInt, Int32.toInt_toInt64, lg_cmp_ge, lg_cmp_le, lg_cmp_gt, lg_cmp_lt, lg_cmp_eq, Bool.false_eq_true, Bool.true_eq_false, reduceCtorEq, false_iff, true_iff, iff_true, iff_false, and_true, true_and, and_false, false_and, reduceIte, ite_true, ite_false, eq_self] at *)) <;> omega), (by rw [nxq_gi_si hs35 (by decide)]; first | assumption | (((try simp only [vp_in_iff, Int32.lt_iff_toInt_lt, Int32.le_iff_toInt_le, ← Int32.toInt_inj, Int32.reduceToInt, n_1, n_2, n_8, Int32.toNatClampNeg, Int64.lt_iff_toInt_lt, Int64.le_iff_toInt_le, ← Int64.toInt_inj, Int64.reduceToInt, Int32.toInt_toInt64, lg_cmp_ge, lg_cmp_le, lg_cmp_gt, lg_cmp_lt, lg_cmp_eq, Bool.false_eq_true, Bool.true_eq_false, reduceCtorEq, false_iff, true_iff, iff_true, iff_false, and_true, true_and, and_false, false_and, reduceIte, ite_true, ite_false, eq_self] at *)) <;> omega)), (by first | exact Us35 (by ((try simp only [vp_in_iff, Int32.lt_iff_toInt_lt, Int32.le_iff_toInt_le, ← Int32.toInt_inj, Int32.reduceToInt, n_1, n_2, n_8, Int32.toNatClampNeg, Int64.lt_iff_toInt_lt, Int64.le_iff_toInt_le, ← Int64.toInt_inj, Int64.reduceToInt, Int32.toInt_toInt64, lg_cmp_ge, lg_cmp_le, lg_cmp_gt, lg_cmp_lt, lg_cmp_eq, Bool.false_eq_true, Bool.true_eq_false, reduceCtorEq, false_iff, true_iff, iff_true, iff_false, and_true, true_and, and_false, false_and, reduceIte, ite_true, ite_false, eq_self] at *)) <;> omega) | exact behp_l (by assumption) (by ((try simp only [vp_in_iff, Int32.lt_iff_toInt_lt, Int32.le_iff_toInt_le, ← Int32.toInt_inj, Int32.reduceToInt, n_1, n_2, n_8, Int32.toNatClampNeg, Int64.lt_iff_toInt_lt, Int64.le_iff_toInt_le, ← Int64.toInt_inj, Int64.reduceToInt, Int32.toInt_toInt64, lg_cmp_ge, lg_cmp_le, lg_cmp_gt, lg_cmp_lt, lg_cmp_eq, Bool.false_eq_true, Bool.true_eq_false, reduceCtorEq, false_iff, true_iff, iff_true, iff_false, and_true, true_and, and_false, false_and, reduceIte, ite_true, ite_false, eq_self] at *)) <;> omega)), (by rw [nxq_gi_si hs35 (by decide)]; first | assumption | (((try simp only [vp_in_iff, Int32.lt_iff_toInt_lt, Int32.le_iff_toInt_le, ← Int32.toInt_inj, Int32.reduceToInt, n_1, n_2, n_8, Int32.toNatClampNeg, Int64.lt_iff_toInt_lt, Int64.le_iff_toInt_le, ← Int64.toInt_inj, Int64.reduceToInt, Int32.toInt_toInt64, lg_cmp_ge, lg_cmp_le, lg_cmp_gt, lg_cmp_lt, lg_cmp_eq, Bool.false_eq_true, Bool.true_eq_false, reduceCtorEq, false_iff, true_iff, iff_true, iff_false, and_true, true_and, and_false, false_and, reduceIte, ite_true, ite_false, eq_self] at *)) <;> omega)), trivial⟩ rfl
                                  · refine wa_iconst (v := 0) (by decide) ?_
                                    refine wa_zreturn false (rfl) rfl rfl ?_
                                    exact ⟨_, rfl, Fs30, (fun hx => by first | exact absurd hx Bool.false_ne_true | exact Ps30_DV), (fun hx => by first | exact absurd hx Bool.false_ne_true | exact (WKS_of (fun k => Fm.gb fs30 (q := 133) (k := k) rfl rfl) (fun k => Fm.gi fs30 (q := 156) (k := k) rfl rfl) (fun k => Fm.gi fs30 (q := 134) (k := k) rfl rfl) Ps26_WKS)), (fun hx => by first | exact absurd hx Bool.false_ne_true | exact behp_end (by assumption) (by ((try simp only [vp_in_iff, Int32.lt_iff_toInt_lt, Int32.le_iff_toInt_le, ← Int32.toInt_inj, Int32.reduceToInt, n_1, n_2, n_8, Int32.toNatClampNeg, Int64.lt_iff_toInt_lt, Int64.le_iff_toInt_le, ← Int64.toInt_inj, Int64.reduceToInt, Int32.toInt_toInt64, lg_cmp_ge, lg_cmp_le, lg_cmp_gt, lg_cmp_lt, lg_cmp_eq, Bool.false_eq_true, Bool.true_eq_false, reduceCtorEq, false_iff, true_iff, iff_true, iff_false, and_true, true_and, and_false, false_and, reduceIte, ite_true, ite_false, eq_self] at *)) <;> omega)), (fun hx => by first | exact absurd hx Bool.false_ne_true | (rw [rfl]; ((try simp only [vp_in_iff, Int32.lt_iff_toInt_lt, Int32.le_iff_toInt_le, ← Int32.toInt_inj, Int32.reduceToInt, n_1, n_2, n_8, Int32.toNatClampNeg, Int64.lt_iff_toInt_lt, Int64.le_iff_toInt_le, ← Int64.toInt_inj, Int64.reduceToInt, Int32.toInt_toInt64, lg_cmp_ge, lg_cmp_le, lg_cmp_gt, lg_cmp_lt, lg_cmp_eq, Bool.false_eq_true, Bool.true_eq_false, reduceCtorEq, false_iff, true_iff, iff_true, iff_false, and_true, true_and, and_false, false_and, reduceIte, ite_true, ite_false, eq_self] at *)) <;> omega) | (((try simp only [vp_in_iff, Int32.lt_iff_toInt_lt, Int32.le_iff_toInt_le, ← Int32.toInt_inj, Int32.reduceToInt, n_1, n_2, n_8, Int32.toNatClampNeg, Int64.lt_iff_toInt_lt, Int64.le_iff_toInt_le, ← Int64.toInt_inj, Int64.reduceToInt, Int32.toInt_toInt64, lg_cmp_ge, lg_cmp_le, lg_cmp_gt, lg_cmp_lt, lg_cmp_eq, Bool.false_eq_true, Bool.true_eq_false, reduceCtorEq, false_iff, true_iff, iff_true, iff_false, and_true, true_and, and_false, false_and, reduceIte, ite_true, ite_false, eq_self] at *)) <;> omega)), (fun hx => by first | exact absurd hx Bool.false_ne_true | (rw [((Fm.gi fs30 (q := 84) (k := 119) rfl rfl).trans (khi28_0))]; ((try simp only [vp_in_iff, Int32.lt_iff_toInt_lt, Int32.le_iff_toInt_le, ← Int32.toInt_inj, Int32.reduceToInt, n_1, n_2, n_8, Int32.toNatClampNeg, Int64.lt_iff_toInt_lt, Int64.le_iff_toInt_le, ← Int64.toInt_inj, Int64.reduceToInt, Int32.toInt_toInt64, lg_cmp_ge, lg_cmp_le, lg_cmp_gt, lg_cmp_lt, lg_cmp_eq, Bool.false_eq_true, Bool.true_eq_false, reduceCtorEq, false_iff, true_iff, iff_true, iff_false, and_true, true_and, and_false, false_and, reduceIte, ite_true, ite_false, eq_self] at *)) <;> omega) | (((try simp only [vp_in_iff, Int32.lt_iff_toInt_lt, Int32.le_iff_toInt_le, ← Int32.toInt_inj, Int32.reduceToInt, n_1, n_2, n_8, Int32.toNatClampNeg, Int64.lt_iff_toInt_lt, Int64.le_iff_toInt_le, ← Int64.toInt_inj, Int64.reduceToInt, Int32.toInt_toInt64, lg_cmp_ge, lg_cmp_le, lg_cmp_gt, lg_cmp_lt, lg_cmp_eq, Bool.false_eq_true, Bool.true_eq_false, reduceCtorEq, false_iff, true_iff, iff_true, iff_false, and_true, true_and, and_false, false_and, reduceIte, ite_true, ite_false, eq_self] at *)) <;> omega)), (by first | assumption | (((try simp only [vp_in_iff, Int32.lt_iff_toInt_lt, Int32.le_iff_toInt_le, ← Int32.toInt_inj, Int32.reduceToInt, n_1, n_2, n_8, Int32.toNatClampNeg, Int64.lt_iff_toInt_lt, Int64.le_iff_toInt_le, ← Int64.toInt_inj, Int64.reduceToInt, Int32.toInt_toInt64, lg_cmp_ge, lg_cmp_le, lg_cmp_gt, lg_cmp_lt, lg_cmp_eq, Bool.false_eq_true, Bool.true_eq_false, reduceCtorEq, false_iff, true_iff, iff_true, iff_false, and_true, true_and, and_false, false_and, reduceIte, ite_true, ite_false, eq_self] at *)) <;> omega)), (by rw [(Fm.gi fs30 (q := 84) (k := 131) rfl rfl).trans (khi28_3)]; first | assumption | (((try simp only [vp_in_iff, Int32.lt_iff_toInt_lt, Int32.le_iff_toInt_le, ← Int32.toInt_inj, Int32.reduceToInt, n_1, n_2, n_8, Int32.toNatClampNeg, Int64.lt_iff_toInt_lt, Int64.le_iff_toInt_le, ← Int64.toInt_inj, Int64.reduceToInt, Int32.toInt_toInt64, lg_cmp_ge, lg_cmp_le, lg_cmp_gt, lg_cmp_lt, lg_cmp_eq, Bool.false_eq_true, Bool.true_eq_false, reduceCtorEq, false_iff, true_iff, iff_true, iff_false, and_true, true_and, and_false, false_and, reduceIte, ite_true, ite_false, eq_self] at *)) <;> omega)), (ar_fm fs30 rfl rfl As26_128), (ar_fm fs30 rfl rfl As26_134), Ps30_CHA, (INW_of (fun k => Fm.gb fs30 (q := 133) (k := k) rfl rfl) (fun k => Fm.gi fs30 (q := 156) (k := k) rfl rfl) (Fm.gi fs30 (q := 84) (k := 119) rfl rfl) (fun k => Fm.gi fs30 (q := 157) (k := k) rfl rfl) (fun k => Fm.gi fs30 (q := 158) (k := k) rfl rfl) (fun k => Fm.gi fs30 (q := 159) (k := k) rfl rfl) (fun k => Fm.gi fs30 (q := 135) (k := k) rfl rfl) (fun k => Fm.gi fs30 (q := 136) (k := k) rfl rfl) (fun k => Fm.gi fs30 (q := 137) (k := k) rfl rfl) Ps26_INW), trivial⟩
                                · have mh29 := nle_mx h29
                                  refine wa_aload_n (i := 0) rfl rfl ?_
                                  refine wa_getr ck_12 fl_12_331 ly_84 rf_84_130 ?_
                                  refine wa_iload rfl ?_
                                  refine wa_aload_n (i := 0) rfl rfl ?_
                                  refine wa_iload rfl ?_
                                  refine wa_aload_n (i := 0) rfl rfl ?_
                                  refine wa_getr ck_12 fl_12_317 ly_84 rf_84_125 ?_
                                  refine wa_bipush (v := 32) (by decide) ?_
                                  refine wa_iload_n (i := 2) rfl rfl ?_
                                  refine wa_imul ?_
                                  refine wa_top (fun v37 hv37 => ?_)
                                  have tv37 := i_mulT hv37
                                  clear hv37
                                  refine wa_iload rfl ?_
                                  refine wa_iadd ?_
                                  refine wa_top (fun v38 hv38 => ?_)
                                  have tv38 := i_addT hv38
                                  clear hv38
                                  refine wa_iald ly_129 (by ((try simp only [vp_in_iff, Int32.lt_iff_toInt_lt, Int32.le_iff_toInt_le, ← Int32.toInt_inj, Int32.reduceToInt, n_1, n_2, n_8, Int32.toNatClampNeg, Int64.lt_iff_toInt_lt, Int64.le_iff_toInt_le, ← Int64.toInt_inj, Int64.reduceToInt, Int32.toInt_toInt64, lg_cmp_ge, lg_cmp_le, lg_cmp_gt, lg_cmp_lt, lg_cmp_eq, Bool.false_eq_true, Bool.true_eq_false, reduceCtorEq, false_iff, true_iff, iff_true, iff_false, and_true, true_and, and_false, false_and, reduceIte, ite_true, ite_false, eq_self] at *)) <;> omega) ?_
                                  refine wa_top (fun v39 hv39 => ?_)
                                  have rv39 := dv_at Ps26_DV (p := (l2).toInt.toNat) (k := (l4).toNatClampNeg) hv39 (by ((try simp only [vp_in_iff, Int32.lt_iff_toInt_lt, Int32.le_iff_toInt_le, ← Int32.toInt_inj, Int32.reduceToInt, n_1, n_2, n_8, Int32.toNatClampNeg, Int64.lt_iff_toInt_lt, Int64.le_iff_toInt_le, ← Int64.toInt_inj, Int64.reduceToInt, Int32.toInt_toInt64, lg_cmp_ge, lg_cmp_le, lg_cmp_gt, lg_cmp_lt, lg_cmp_eq, Bool.false_eq_true, Bool.true_eq_false, reduceCtorEq, false_iff, true_iff, iff_true, iff_false, and_true, true_and, and_false, false_and, reduceIte, ite_true, ite_false, eq_self] at *)) <;> omega) (by ((try simp only [vp_in_iff, Int32.lt_iff_toInt_lt, Int32.le_iff_toInt_le, ← Int32.toInt_inj, Int32.reduceToInt, n_1, n_2, n_8, Int32.toNatClampNeg, Int64.lt_iff_toInt_lt, Int64.le_iff_toInt_le, ← Int64.toInt_inj, Int64.reduceToInt, Int32.toInt_toInt64, lg_cmp_ge, lg_cmp_le, lg_cmp_gt, lg_cmp_lt, lg_cmp_eq, Bool.false_eq_true, Bool.true_eq_false, reduceCtorEq, false_iff, true_iff, iff_true, iff_false, and_true, true_and, and_false, false_and, reduceIte, ite_true, ite_false, eq_self] at *)) <;> omega) (by ((try simp only [vp_in_iff, Int32.lt_iff_toInt_lt, Int32.le_iff_toInt_le, ← Int32.toInt_inj, Int32.reduceToInt, n_1, n_2, n_8, Int32.toNatClampNeg, Int64.lt_iff_toInt_lt, Int64.le_iff_toInt_le, ← Int64.toInt_inj, Int64.reduceToInt, Int32.toInt_toInt64, lg_cmp_ge, lg_cmp_le, lg_cmp_gt, lg_cmp_lt, lg_cmp_eq, Bool.false_eq_true, Bool.true_eq_false, reduceCtorEq, false_iff, true_iff, iff_true, iff_false, and_true, true_and, and_false, false_and, reduceIte, ite_true, ite_false, eq_self] at *)) <;> omega) (by ((try simp only [vp_in_iff, Int32.lt_iff_toInt_lt, Int32.le_iff_toInt_le, ← Int32.toInt_inj, Int32.reduceToInt, n_1, n_2, n_8, Int32.toNatClampNeg, Int64.lt_iff_toInt_lt, Int64.le_iff_toInt_le, ← Int64.toInt_inj, Int64.reduceToInt, Int32.toInt_toInt64, lg_cmp_ge, lg_cmp_le, lg_cmp_gt, lg_cmp_lt, lg_cmp_eq, Bool.false_eq_true, Bool.true_eq_false, reduceCtorEq, false_iff, true_iff, iff_true, iff_false, and_true, true_and, and_false, false_and, reduceIte, ite_true, ite_false, eq_self] at *)) <;> omega)
                                  clear hv39
                                  refine wa_iload_n (i := 3) rfl rfl ?_
                                  refine wa_Vi (d9 := d - 1) [.int _, .int _, .int _] [.int l4, .ref 125] (sp_X12_halved G (d := d - 1) (by omega) s26 _ _ _ (by first | assumption | (((try simp only [vp_in_iff, Int32.lt_iff_toInt_lt, Int32.le_iff_toInt_le, ← Int32.toInt_inj, Int32.reduceToInt, n_1, n_2, n_8, Int32.toNatClampNeg, Int64.lt_iff_toInt_lt, Int64.le_iff_toInt_le, ← Int64.toInt_inj, Int64.reduceToInt, Int32.toInt_toInt64, lg_cmp_ge, lg_cmp_le, lg_cmp_gt, lg_cmp_lt, lg_cmp_eq, Bool.false_eq_true, Bool.true_eq_false, reduceCtorEq, false_iff, true_iff, iff_true, iff_false, and_true, true_and, and_false, false_and, reduceIte, ite_true, ite_false, eq_self] at *)) <;> omega)) (by first | assumption | (((try simp only [vp_in_iff, Int32.lt_iff_toInt_lt, Int32.le_iff_toInt_le, ← Int32.toInt_inj, Int32.reduceToInt, n_1, n_2, n_8, Int32.toNatClampNeg, Int64.lt_iff_toInt_lt, Int64.le_iff_toInt_le, ← Int64.toInt_inj, Int64.reduceToInt, Int32.toInt_toInt64, lg_cmp_ge, lg_cmp_le, lg_cmp_gt, lg_cmp_lt, lg_cmp_eq, Bool.false_eq_true, Bool.true_eq_false, reduceCtorEq, false_iff, true_iff, iff_true, iff_false, and_true, true_and, and_false, false_and, reduceIte, ite_true, ite_false, eq_self] at *)) <;> omega)) (by rw [khi28_2]; first | assumption | exact Or.inl rfl | exact Or.inr rfl | (((try simp only [vp_in_iff, Int32.lt_iff_toInt_lt, Int32.le_iff_toInt_le, ← Int32.toInt_inj, Int32.reduceToInt, n_1, n_2, n_8, Int32.toNatClampNeg, Int64.lt_iff_toInt_lt, Int64.le_iff_toInt_le, ← Int64.toInt_inj, Int64.reduceToInt, Int32.toInt_toInt64, lg_cmp_ge, lg_cmp_le, lg_cmp_gt, lg_cmp_lt, lg_cmp_eq, Bool.false_eq_true, Bool.true_eq_false, reduceCtorEq, false_iff, true_iff, iff_true, iff_false, and_true, true_and, and_false, false_and, reduceIte, ite_true, ite_false, eq_self] at *)) <;> omega)) (ar_fm Fs26 rfl rfl A_135) (ar_fm Fs26 rfl rfl A_137)) (rfl) rfl rfl (zr (by omega)) mk_X12_halved ly_84 ml_12_966 (Nat.le_of_ble_eq_true rfl) (fun x41 s40 hs40 => ?_)
                                  obtain ⟨zs40, cx41_1, -⟩ := pI hs40
                                  subst zs40
                                  refine wa_iast ly_125 (by ((try simp only [vp_in_iff, Int32.lt_iff_toInt_lt, Int32.le_iff_toInt_le, ← Int32.toInt_inj, Int32.reduceToInt, n_1, n_2, n_8, Int32.toNatClampNeg, Int64.lt_iff_toInt_lt, Int64.le_iff_toInt_le, ← Int64.toInt_inj, Int64.reduceToInt, Int32.toInt_toInt64, lg_cmp_ge, lg_cmp_le, lg_cmp_gt, lg_cmp_lt, lg_cmp_eq, Bool.false_eq_true, Bool.true_eq_false, reduceCtorEq, false_iff, true_iff, iff_true, iff_false, and_true, true_and, and_false, false_and, reduceIte, ite_true, ite_false, eq_self] at *)) <;> omega) (fun s42 hs42 => ?_)
                                  have Fs42 : Fm [125, 126, 127, 128, 129, 133, 134] [129, 131] σ s42 := by rw [hs42]; exact Fm.si Fs26 rfl
                                  refine wa_iinc (v := (1)) (lv' := fun y43 => [(4, .int y43), (0, .ref 84), (2, .int l2), (3, .int l3)]) (by decide) rfl (by decide) (fun _ => rfl) (fun y43 hy43 => ?_)
                                  have ty43 := i_addT hy43.symm
                                  clear hy43
                                  refine wa_goto o_X12_explore_136 (by decide) ?_
                                  refine wa_pick [1, 2, 3, 0] rfl ?_
                                  exact ih27 _ (by ((try simp only [vp_in_iff, Int32.lt_iff_toInt_lt, Int32.le_iff_toInt_le, ← Int32.toInt_inj, Int32.reduceToInt, n_1, n_2, n_8, Int32.toNatClampNeg, Int64.lt_iff_toInt_lt, Int64.le_iff_toInt_le, ← Int64.toInt_inj, Int64.reduceToInt, Int32.toInt_toInt64, lg_cmp_ge, lg_cmp_le, lg_cmp_gt, lg_cmp_lt, lg_cmp_eq, Bool.false_eq_true, Bool.true_eq_false, reduceCtorEq, false_iff, true_iff, iff_true, iff_false, and_true, true_and, and_false, false_and, reduceIte, ite_true, ite_false, eq_self] at *)) <;> omega) _ _ ⟨Fs42, ((nxq_gi_si hs42 (by decide)).trans (khi28_0)), ((nxq_gi_si hs42 (by decide)).trans (khi28_1)), ((nxq_gi_si hs42 (by decide)).trans (khi28_2)), ((nxq_gi_si hs42 (by decide)).trans (khi28_3)), (ar_ni hs42 (by decide) As26_128), (ar_ni hs42 (by decide) As26_134), (CHA_of (fun k => nxq_gi_si hs42 (by decide)) (nxq_gi_si hs42 (by decide)) Ps26_CHA), (INW_of (fun k => nx_gb_si hs42) (fun k => nxq_gi_si hs42 (by decide)) (nxq_gi_si hs42 (by decide)) (fun k => nxq_gi_si hs42 (by decide)) (fun k => nxq_gi_si hs42 (by decide)) (fun k => nxq_gi_si hs42 (by decide)) (fun k => nxq_gi_si hs42 (by decide)) (fun k => nxq_gi_si hs42 (by decide)) (fun k => nxq_gi_si hs42 (by decide)) Ps26_INW), (HDS_of (fun k => nxq_gi_si hs42 (by decide)) (nxq_gi_si hs42 (by decide)) Ps26_HDS), (DV_of (fun k => nxq_gi_si hs42 (by decide)) (fun k => nxq_gi_si hs42 (by decide)) (nxq_gi_si hs42 (by decide)) (nxq_gi_si hs42 (by decide)) Ps26_DV), (WKS_of (fun k => nx_gb_si hs42) (fun k => nxq_gi_si hs42 (by decide)) (fun k => nxq_gi_si hs42 (by decide)) Ps26_WKS), (by ((try simp only [vp_in_iff, Int32.lt_iff_toInt_lt, Int32.le_iff_toInt_le, ← Int32.toInt_inj, Int32.reduceToInt, n_1, n_2, n_8, Int32.toNatClampNeg, Int64.lt_iff_toInt_lt, Int64.le_iff_toInt_le, ← Int64.toInt_inj, Int64.reduceToInt, Int32.toInt_toInt64, lg_cmp_ge, lg_cmp_le, lg_cmp_gt, lg_cmp_lt, lg_cmp_eq, Bool.false_eq_true, Bool.true_eq_false, reduceCtorEq, false_iff, true_iff, iff_true, iff_false, and_true, true_and, and_false, false_and, reduceIte, ite_true, ite_false, eq_self] at *)) <;> omega), (by first | exact di_w hs42 (by first | assumption | (simp only [DVo]; ((try simp only [vp_in_iff, Int32.lt_iff_toInt_lt, Int32.le_iff_toInt_le, ← Int32.toInt_inj, Int32.reduceToInt, n_1, n_2, n_8, Int32.toNatClampNeg, Int64.lt_iff_toInt_lt, Int64.le_iff_toInt_le, ← Int64.toInt_inj, Int64.reduceToInt, Int32.toInt_toInt64, lg_cmp_ge, lg_cmp_le, lg_cmp_gt, lg_cmp_lt, lg_cmp_eq, Bool.false_eq_true, Bool.true_eq_false, reduceCtorEq, false_iff, true_iff, iff_true, iff_false, and_true, true_and, and_false, false_and, reduceIte, ite_true, ite_false, eq_self] at *)) <;> omega)) (by assumption) (by ((try simp only [vp_in_iff, Int32.lt_iff_toInt_lt, Int32.le_iff_toInt_le, ← Int32.toInt_inj, Int32.reduceToInt, n_1, n_2, n_8, Int32.toNatClampNeg, Int64.lt_iff_toInt_lt, Int64.le_iff_toInt_le, ← Int64.toInt_inj, Int64.reduceToInt, Int32.toInt_toInt64, lg_cmp_ge, lg_cmp_le, lg_cmp_gt, lg_cmp_lt, lg_cmp_eq, Bool.false_eq_true, Bool.true_eq_false, reduceCtorEq, false_iff, true_iff, iff_true, iff_false, and_true, true_and, and_false, false_and, reduceIte, ite_true, ite_false, eq_self] at *)) <;> omega) (by ((try simp only [vp_in_iff, Int32.lt_iff_toInt_lt, Int32.le_iff_toInt_le, ← Int32.toInt_inj, Int32.reduceToInt, n_1, n_2, n_8, Int32.toNatClampNeg, Int64.lt_iff_toInt_lt, Int64.le_iff_toInt_le, ← Int64.toInt_inj, Int64.reduceToInt, Int32.toInt_toInt64, lg_cmp_ge, lg_cmp_le, lg_cmp_gt, lg_cmp_lt, lg_cmp_eq, Bool.false_eq_true, Bool.true_eq_false, reduceCtorEq, false_iff, true_iff, iff_true, iff_false, and_true, true_and, and_false, false_and, reduceIte, ite_true, ite_false, eq_self] at *)) <;> omega) | (intro k hk; simp only [Int32.reduceToInt] at hk; omega)), (by rw [(nxq_gi_si hs42 (by decide)).trans (khi28_1)]; first | assumption | (((try simp only [vp_in_iff, Int32.lt_iff_toInt_lt, Int32.le_iff_toInt_le, ← Int32.toInt_inj, Int32.reduceToInt, n_1, n_2, n_8, Int32.toNatClampNeg, Int64.lt_iff_toInt_lt, Int64.le_iff_toInt_le, ← Int64.toInt_inj, Int64.reduceToInt, Int32.toInt_toInt64, lg_cmp_ge, lg_cmp_le, lg_cmp_gt, lg_cmp_lt, lg_cmp_eq, Bool.false_eq_true, Bool.true_eq_false, reduceCtorEq, false_iff, true_iff, iff_true, iff_false, and_true, true_and, and_false, false_and, reduceIte, ite_true, ite_false, eq_self] at *)) <;> omega)), (by first | assumption | exact behp_ne hs42 (by decide) (by assumption)), trivial⟩ rfl
                            exact hi28 _ _ _ ⟨Fs21, (khi23_0), (rfl), (khi23_1), (khi23_2), As21_128, As21_134, Ps21_CHA, Ps21_INW, Ps21_HDS, Ps21_DV, Ps21_WKS, (by ((try simp only [vp_in_iff, Int32.lt_iff_toInt_lt, Int32.le_iff_toInt_le, ← Int32.toInt_inj, Int32.reduceToInt, n_1, n_2, n_8, Int32.toNatClampNeg, Int64.lt_iff_toInt_lt, Int64.le_iff_toInt_le, ← Int64.toInt_inj, Int64.reduceToInt, Int32.toInt_toInt64, lg_cmp_ge, lg_cmp_le, lg_cmp_gt, lg_cmp_lt, lg_cmp_eq, Bool.false_eq_true, Bool.true_eq_false, reduceCtorEq, false_iff, true_iff, iff_true, iff_false, and_true, true_and, and_false, false_and, reduceIte, ite_true, ite_false, eq_self] at *)) <;> omega), (by first | exact di_w hs21 (by first | assumption | (simp only [DVo]; ((try simp only [vp_in_iff, Int32.lt_iff_toInt_lt, Int32.le_iff_toInt_le, ← Int32.toInt_inj, Int32.reduceToInt, n_1, n_2, n_8, Int32.toNatClampNeg, Int64.lt_iff_toInt_lt, Int64.le_iff_toInt_le, ← Int64.toInt_inj, Int64.reduceToInt, Int32.toInt_toInt64, lg_cmp_ge, lg_cmp_le, lg_cmp_gt, lg_cmp_lt, lg_cmp_eq, Bool.false_eq_true, Bool.true_eq_false, reduceCtorEq, false_iff, true_iff, iff_true, iff_false, and_true, true_and, and_false, false_and, reduceIte, ite_true, ite_false, eq_self] at *)) <;> omega)) (by assumption) (by ((try simp only [vp_in_iff, Int32.lt_iff_toInt_lt, Int32.le_iff_toInt_le, ← Int32.toInt_inj, Int32.reduceToInt, n_1, n_2, n_8, Int32.toNatClampNeg, Int64.lt_iff_toInt_lt, Int64.le_iff_toInt_le, ← Int64.toInt_inj, Int64.reduceToInt, Int32.toInt_toInt64, lg_cmp_ge, lg_cmp_le, lg_cmp_gt, lg_cmp_lt, lg_cmp_eq, Bool.false_eq_true, Bool.true_eq_false, reduceCtorEq, false_iff, true_iff, iff_true, iff_false, and_true, true_and, and_false, false_and, reduceIte, ite_true, ite_false, eq_self] at *)) <;> omega) (by ((try simp only [vp_in_iff, Int32.lt_iff_toInt_lt, Int32.le_iff_toInt_le, ← Int32.toInt_inj, Int32.reduceToInt, n_1, n_2, n_8, Int32.toNatClampNeg, Int64.lt_iff_toInt_lt, Int64.le_iff_toInt_le, ← Int64.toInt_inj, Int64.reduceToInt, Int32.toInt_toInt64, lg_cmp_ge, lg_cmp_le, lg_cmp_gt, lg_cmp_lt, lg_cmp_eq, Bool.false_eq_true, Bool.true_eq_false, reduceCtorEq, false_iff, true_iff, iff_true, iff_false, and_true, true_and, and_false, false_and, reduceIte, ite_true, ite_false, eq_self] at *)) <;> omega) | (intro k hk; simp only [Int32.reduceToInt] at hk; omega)), (by first | assumption | (((try simp only [vp_in_iff, Int32.lt_iff_toInt_lt, Int32.le_iff_toInt_le, ← Int32.toInt_inj, Int32.reduceToInt, n_1, n_2, n_8, Int32.toNatClampNeg, Int64.lt_iff_toInt_lt, Int64.le_iff_toInt_le, ← Int64.toInt_inj, Int64.reduceToInt, Int32.toInt_toInt64, lg_cmp_ge, lg_cmp_le, lg_cmp_gt, lg_cmp_lt, lg_cmp_eq, Bool.false_eq_true, Bool.true_eq_false, reduceCtorEq, false_iff, true_iff, iff_true, iff_false, and_true, true_and, and_false, false_and, reduceIte, ite_true, ite_false, eq_self] at *)) <;> omega)), (by first | assumption | exact behp_ne hs21 (by decide) (by assumption)), trivial⟩ rfl
                      exact hi23 _ _ _ ⟨Fs17, (khi19_0), (khi19_1), (khi19_2), As17_128, As17_134, Ps17_CHA, Ps17_INW, Ps17_HDS, Ps17_DV, Ps17_WKS, (by ((try simp only [vp_in_iff, Int32.lt_iff_toInt_lt, Int32.le_iff_toInt_le, ← Int32.toInt_inj, Int32.reduceToInt, n_1, n_2, n_8, Int32.toNatClampNeg, Int64.lt_iff_toInt_lt, Int64.le_iff_toInt_le, ← Int64.toInt_inj, Int64.reduceToInt, Int32.toInt_toInt64, lg_cmp_ge, lg_cmp_le, lg_cmp_gt, lg_cmp_lt, lg_cmp_eq, Bool.false_eq_true, Bool.true_eq_false, reduceCtorEq, false_iff, true_iff, iff_true, iff_false, and_true, true_and, and_false, false_and, reduceIte, ite_true, ite_false, eq_self] at *)) <;> omega), (by first | assumption | (((try simp only [vp_in_iff, Int32.lt_iff_toInt_lt, Int32.le_iff_toInt_le, ← Int32.toInt_inj, Int32.reduceToInt, n_1, n_2, n_8, Int32.toNatClampNeg, Int64.lt_iff_toInt_lt, Int64.le_iff_toInt_le, ← Int64.toInt_inj, Int64.reduceToInt, Int32.toInt_toInt64, lg_cmp_ge, lg_cmp_le, lg_cmp_gt, lg_cmp_lt, lg_cmp_eq, Bool.false_eq_true, Bool.true_eq_false, reduceCtorEq, false_iff, true_iff, iff_true, iff_false, and_true, true_and, and_false, false_and, reduceIte, ite_true, ite_false, eq_self] at *)) <;> omega)), (by first | exact Us17 (by ((try simp only [vp_in_iff, Int32.lt_iff_toInt_lt, Int32.le_iff_toInt_le, ← Int32.toInt_inj, Int32.reduceToInt, n_1, n_2, n_8, Int32.toNatClampNeg, Int64.lt_iff_toInt_lt, Int64.le_iff_toInt_le, ← Int64.toInt_inj, Int64.reduceToInt, Int32.toInt_toInt64, lg_cmp_ge, lg_cmp_le, lg_cmp_gt, lg_cmp_lt, lg_cmp_eq, Bool.false_eq_true, Bool.true_eq_false, reduceCtorEq, false_iff, true_iff, iff_true, iff_false, and_true, true_and, and_false, false_and, reduceIte, ite_true, ite_false, eq_self] at *)) <;> omega) | exact behp_l (by assumption) (by ((try simp only [vp_in_iff, Int32.lt_iff_toInt_lt, Int32.le_iff_toInt_le, ← Int32.toInt_inj, Int32.reduceToInt, n_1, n_2, n_8, Int32.toNatClampNeg, Int64.lt_iff_toInt_lt, Int64.le_iff_toInt_le, ← Int64.toInt_inj, Int64.reduceToInt, Int32.toInt_toInt64, lg_cmp_ge, lg_cmp_le, lg_cmp_gt, lg_cmp_lt, lg_cmp_eq, Bool.false_eq_true, Bool.true_eq_false, reduceCtorEq, false_iff, true_iff, iff_true, iff_false, and_true, true_and, and_false, false_and, reduceIte, ite_true, ite_false, eq_self] at *)) <;> omega)), (by first | assumption | (((try simp only [vp_in_iff, Int32.lt_iff_toInt_lt, Int32.le_iff_toInt_le, ← Int32.toInt_inj, Int32.reduceToInt, n_1, n_2, n_8, Int32.toNatClampNeg, Int64.lt_iff_toInt_lt, Int64.le_iff_toInt_le, ← Int64.toInt_inj, Int64.reduceToInt, Int32.toInt_toInt64, lg_cmp_ge, lg_cmp_le, lg_cmp_gt, lg_cmp_lt, lg_cmp_eq, Bool.false_eq_true, Bool.true_eq_false, reduceCtorEq, false_iff, true_iff, iff_true, iff_false, and_true, true_and, and_false, false_and, reduceIte, ite_true, ite_false, eq_self] at *)) <;> omega)), trivial⟩ rfl
                exact hi19 _ _ _ ⟨Fs15, ((Fm.gi fs15 (q := 84) (k := 119) rfl rfl).trans (khi13_0)), ((Fm.gi fs15 (q := 84) (k := 32) rfl rfl).trans (khi13_2)), ((Fm.gi fs15 (q := 84) (k := 131) rfl rfl).trans (khi13_3)), (ar_fm fs15 rfl rfl As11_128), (ar_fm fs15 rfl rfl As11_134), Ps15_CHA, (INW_of (fun k => Fm.gb fs15 (q := 133) (k := k) rfl rfl) (fun k => Fm.gi fs15 (q := 156) (k := k) rfl rfl) (Fm.gi fs15 (q := 84) (k := 119) rfl rfl) (fun k => Fm.gi fs15 (q := 157) (k := k) rfl rfl) (fun k => Fm.gi fs15 (q := 158) (k := k) rfl rfl) (fun k => Fm.gi fs15 (q := 159) (k := k) rfl rfl) (fun k => Fm.gi fs15 (q := 135) (k := k) rfl rfl) (fun k => Fm.gi fs15 (q := 136) (k := k) rfl rfl) (fun k => Fm.gi fs15 (q := 137) (k := k) rfl rfl) Ps11_INW), Ps15_HDS, Ps15_DV, (WKS_of (fun k => Fm.gb fs15 (q := 133) (k := k) rfl rfl) (fun k => Fm.gi fs15 (q := 156) (k := k) rfl rfl) (fun k => Fm.gi fs15 (q := 134) (k := k) rfl rfl) Ps11_WKS), (by ((try simp only [vp_in_iff, Int32.lt_iff_toInt_lt, Int32.le_iff_toInt_le, ← Int32.toInt_inj, Int32.reduceToInt, n_1, n_2, n_8, Int32.toNatClampNeg, Int64.lt_iff_toInt_lt, Int64.le_iff_toInt_le, ← Int64.toInt_inj, Int64.reduceToInt, Int32.toInt_toInt64, lg_cmp_ge, lg_cmp_le, lg_cmp_gt, lg_cmp_lt, lg_cmp_eq, Bool.false_eq_true, Bool.true_eq_false, reduceCtorEq, false_iff, true_iff, iff_true, iff_false, and_true, true_and, and_false, false_and, reduceIte, ite_true, ite_false, eq_self] at *)) <;> omega), (by first | assumption | (((try simp only [vp_in_iff, Int32.lt_iff_toInt_lt, Int32.le_iff_toInt_le, ← Int32.toInt_inj, Int32.reduceToInt, n_1, n_2, n_8, Int32.toNatClampNeg, Int64.lt_iff_toInt_lt, Int64.le_iff_toInt_le, ← Int64.toInt_inj, Int64.reduceToInt, Int32.toInt_toInt64, lg_cmp_ge, lg_cmp_le, lg_cmp_gt, lg_cmp_lt, lg_cmp_eq, Bool.false_eq_true, Bool.true_eq_false, reduceCtorEq, false_iff, true_iff, iff_true, iff_false, and_true, true_and, and_false, false_and, reduceIte, ite_true, ite_false, eq_self] at *)) <;> omega)), (by first | exact behp_p (by assumption) (by ((try simp only [vp_in_iff, Int32.lt_iff_toInt_lt, Int32.le_iff_toInt_le, ← Int32.toInt_inj, Int32.reduceToInt, n_1, n_2, n_8, Int32.toNatClampNeg, Int64.lt_iff_toInt_lt, Int64.le_iff_toInt_le, ← Int64.toInt_inj, Int64.reduceToInt, Int32.toInt_toInt64, lg_cmp_ge, lg_cmp_le, lg_cmp_gt, lg_cmp_lt, lg_cmp_eq, Bool.false_eq_true, Bool.true_eq_false, reduceCtorEq, false_iff, true_iff, iff_true, iff_false, and_true, true_and, and_false, false_and, reduceIte, ite_true, ite_false, eq_self] at *)) <;> omega) (by ((try simp only [vp_in_iff, Int32.lt_iff_toInt_lt, Int32.le_iff_toInt_le, ← Int32.toInt_inj, Int32.reduceToInt, n_1, n_2, n_8, Int32.toNatClampNeg, Int64.lt_iff_toInt_lt, Int64.le_iff_toInt_le, ← Int64.toInt_inj, Int64.reduceToInt, Int32.toInt_toInt64, lg_cmp_ge, lg_cmp_le, lg_cmp_gt, lg_cmp_lt, lg_cmp_eq, Bool.false_eq_true, Bool.true_eq_false, reduceCtorEq, false_iff, true_iff, iff_true, iff_false, and_true, true_and, and_false, false_and, reduceIte, ite_true, ite_false, eq_self] at *)) <;> omega) | exact behp_0 (by ((try simp only [vp_in_iff, Int32.lt_iff_toInt_lt, Int32.le_iff_toInt_le, ← Int32.toInt_inj, Int32.reduceToInt, n_1, n_2, n_8, Int32.toNatClampNeg, Int64.lt_iff_toInt_lt, Int64.le_iff_toInt_le, ← Int64.toInt_inj, Int64.reduceToInt, Int32.toInt_toInt64, lg_cmp_ge, lg_cmp_le, lg_cmp_gt, lg_cmp_lt, lg_cmp_eq, Bool.false_eq_true, Bool.true_eq_false, reduceCtorEq, false_iff, true_iff, iff_true, iff_false, and_true, true_and, and_false, false_and, reduceIte, ite_true, ite_false, eq_self] at *)) <;> omega)), (by first | assumption | (((try simp only [vp_in_iff, Int32.lt_iff_toInt_lt, Int32.le_iff_toInt_le, ← Int32.toInt_inj, Int32.reduceToInt, n_1, n_2, n_8, Int32.toNatClampNeg, Int64.lt_iff_toInt_lt, Int64.le_iff_toInt_le, ← Int64.toInt_inj, Int64.reduceToInt, Int32.toInt_toInt64, lg_cmp_ge, lg_cmp_le, lg_cmp_gt, lg_cmp_lt, lg_cmp_eq, Bool.false_eq_true, Bool.true_eq_false, reduceCtorEq, false_iff, true_iff, iff_true, iff_false, and_true, true_and, and_false, false_and, reduceIte, ite_true, ite_false, eq_self] at *)) <;> omega)), trivial⟩ rfl
              · have mh14 := nle_mx h14
                refine wa_aload_n (i := 0) rfl rfl ?_
                refine wa_getr ck_12 fl_12_331 ly_84 rf_84_130 ?_
                refine wa_iload_n (i := 1) rfl rfl ?_
                refine wa_aload_n (i := 0) rfl rfl ?_
                refine wa_getr ck_12 fl_12_298 ly_84 rf_84_118 ?_
                refine wa_iload_n (i := 1) rfl rfl ?_
                refine wa_iald ly_135 (by ((try simp only [vp_in_iff, Int32.lt_iff_toInt_lt, Int32.le_iff_toInt_le, ← Int32.toInt_inj, Int32.reduceToInt, n_1, n_2, n_8, Int32.toNatClampNeg, Int64.lt_iff_toInt_lt, Int64.le_iff_toInt_le, ← Int64.toInt_inj, Int64.reduceToInt, Int32.toInt_toInt64, lg_cmp_ge, lg_cmp_le, lg_cmp_gt, lg_cmp_lt, lg_cmp_eq, Bool.false_eq_true, Bool.true_eq_false, reduceCtorEq, false_iff, true_iff, iff_true, iff_false, and_true, true_and, and_false, false_and, reduceIte, ite_true, ite_false, eq_self] at *)) <;> omega) ?_
                refine wa_top (fun v44 hv44 => ?_)
                have rv44 : 0 ≤ v44.toInt ∧ v44.toInt ≤ 12 := by rw [← hv44]; exact ar_at (ar_fm Fs11 rfl rfl A_135) _
                have qv44 := hv44
                clear hv44
                refine wa_if_le o_X12_explore_95 (by decide) (fun h45 => ?_) (fun h45 => ?_)
                · refine wa_aload_n (i := 0) rfl rfl ?_
                  refine wa_getr ck_12 fl_12_295 ly_84 rf_84_117 ?_
                  refine wa_iload_n (i := 1) rfl rfl ?_
                  refine wa_iald ly_136 (by ((try simp only [vp_in_iff, Int32.lt_iff_toInt_lt, Int32.le_iff_toInt_le, ← Int32.toInt_inj, Int32.reduceToInt, n_1, n_2, n_8, Int32.toNatClampNeg, Int64.lt_iff_toInt_lt, Int64.le_iff_toInt_le, ← Int64.toInt_inj, Int64.reduceToInt, Int32.toInt_toInt64, lg_cmp_ge, lg_cmp_le, lg_cmp_gt, lg_cmp_lt, lg_cmp_eq, Bool.false_eq_true, Bool.true_eq_false, reduceCtorEq, false_iff, true_iff, iff_true, iff_false, and_true, true_and, and_false, false_and, reduceIte, ite_true, ite_false, eq_self] at *)) <;> omega) ?_
                  refine wa_top (fun v46 hv46 => ?_)
                  have rv46 : -99999 ≤ v46.toInt ∧ v46.toInt ≤ 99999 := by rw [← hv46]; exact ar_at (ar_fm Fs11 rfl rfl A_136) _
                  have qv46 := hv46
                  have wv46 := (WOK_of (fun k => Fm.gi Fs11 (q := 135) (k := k) rfl rfl) (fun k => Fm.gi Fs11 (q := 136) (k := k) rfl rfl) P_WOK) ((l1).toNatClampNeg)
                  clear hv46
                  refine wa_iast ly_125 (by ((try simp only [vp_in_iff, Int32.lt_iff_toInt_lt, Int32.le_iff_toInt_le, ← Int32.toInt_inj, Int32.reduceToInt, n_1, n_2, n_8, Int32.toNatClampNeg, Int64.lt_iff_toInt_lt, Int64.le_iff_toInt_le, ← Int64.toInt_inj, Int64.reduceToInt, Int32.toInt_toInt64, lg_cmp_ge, lg_cmp_le, lg_cmp_gt, lg_cmp_lt, lg_cmp_eq, Bool.false_eq_true, Bool.true_eq_false, reduceCtorEq, false_iff, true_iff, iff_true, iff_false, and_true, true_and, and_false, false_and, reduceIte, ite_true, ite_false, eq_self] at *)) <;> omega) (fun s47 hs47 => ?_)
                  have Fs47 : Fm [125, 126, 127, 128, 129, 133, 134] [129, 131] σ s47 := by rw [hs47]; exact Fm.si Fs11 rfl
                  refine wa_iinc (v := (1)) (lv' := fun y48 => [(1, .int y48), (0, .ref 84)]) (by decide) rfl (by decide) (fun _ => rfl) (fun y48 hy48 => ?_)
                  have ty48 := i_addT hy48.symm
                  clear hy48
                  refine wa_goto o_X12_explore_54 (by decide) ?_
                  refine wa_pick [1, 0] rfl ?_
                  exact ih12 _ (by ((try simp only [vp_in_iff, Int32.lt_iff_toInt_lt, Int32.le_iff_toInt_le, ← Int32.toInt_inj, Int32.reduceToInt, n_1, n_2, n_8, Int32.toNatClampNeg, Int64.lt_iff_toInt_lt, Int64.le_iff_toInt_le, ← Int64.toInt_inj, Int64.reduceToInt, Int32.toInt_toInt64, lg_cmp_ge, lg_cmp_le, lg_cmp_gt, lg_cmp_lt, lg_cmp_eq, Bool.false_eq_true, Bool.true_eq_false, reduceCtorEq, false_iff, true_iff, iff_true, iff_false, and_true, true_and, and_false, false_and, reduceIte, ite_true, ite_false, eq_self] at *)) <;> omega) _ _ ⟨Fs47, ((nxq_gi_si hs47 (by decide)).trans (khi13_0)), ((nxq_gi_si hs47 (by decide)).trans (khi13_1)), ((nxq_gi_si hs47 (by decide)).trans (khi13_2)), ((nxq_gi_si hs47 (by decide)).trans (khi13_3)), (ar_ni hs47 (by decide) As11_128), (ar_ni hs47 (by decide) As11_134), (CHA_of (fun k => nxq_gi_si hs47 (by decide)) (nxq_gi_si hs47 (by decide)) Ps11_CHA), (INW_of (fun k => nx_gb_si hs47) (fun k => nxq_gi_si hs47 (by decide)) (nxq_gi_si hs47 (by decide)) (fun k => nxq_gi_si hs47 (by decide)) (fun k => nxq_gi_si hs47 (by decide)) (fun k => nxq_gi_si hs47 (by decide)) (fun k => nxq_gi_si hs47 (by decide)) (fun k => nxq_gi_si hs47 (by decide)) (fun k => nxq_gi_si hs47 (by decide)) Ps11_INW), (HDS_of (fun k => nxq_gi_si hs47 (by decide)) (nxq_gi_si hs47 (by decide)) Ps11_HDS), (DV_of (fun k => nxq_gi_si hs47 (by decide)) (fun k => nxq_gi_si hs47 (by decide)) (nxq_gi_si hs47 (by decide)) (nxq_gi_si hs47 (by decide)) Ps11_DV), (WKS_of (fun k => nx_gb_si hs47) (fun k => nxq_gi_si hs47 (by decide)) (fun k => nxq_gi_si hs47 (by decide)) Ps11_WKS), (by ((try simp only [vp_in_iff, Int32.lt_iff_toInt_lt, Int32.le_iff_toInt_le, ← Int32.toInt_inj, Int32.reduceToInt, n_1, n_2, n_8, Int32.toNatClampNeg, Int64.lt_iff_toInt_lt, Int64.le_iff_toInt_le, ← Int64.toInt_inj, Int64.reduceToInt, Int32.toInt_toInt64, lg_cmp_ge, lg_cmp_le, lg_cmp_gt, lg_cmp_lt, lg_cmp_eq, Bool.false_eq_true, Bool.true_eq_false, reduceCtorEq, false_iff, true_iff, iff_true, iff_false, and_true, true_and, and_false, false_and, reduceIte, ite_true, ite_false, eq_self] at *)) <;> omega), (by first | exact di_w hs47 (by first | assumption | (simp only [DVo]; ((try simp only [vp_in_iff, Int32.lt_iff_toInt_lt, Int32.le_iff_toInt_le, ← Int32.toInt_inj, Int32.reduceToInt, n_1, n_2, n_8, Int32.toNatClampNeg, Int64.lt_iff_toInt_lt, Int64.le_iff_toInt_le, ← Int64.toInt_inj, Int64.reduceToInt, Int32.toInt_toInt64, lg_cmp_ge, lg_cmp_le, lg_cmp_gt, lg_cmp_lt, lg_cmp_eq, Bool.false_eq_true, Bool.true_eq_false, reduceCtorEq, false_iff, true_iff, iff_true, iff_false, and_true, true_and, and_false, false_and, reduceIte, ite_true, ite_false, eq_self] at *)) <;> omega)) (by assumption) (by ((try simp only [vp_in_iff, Int32.lt_iff_toInt_lt, Int32.le_iff_toInt_le, ← Int32.toInt_inj, Int32.reduceToInt, n_1, n_2, n_8, Int32.toNatClampNeg, Int64.lt_iff_toInt_lt, Int64.le_iff_toInt_le, ← Int64.toInt_inj, Int64.reduceToInt, Int32.toInt_toInt64, lg_cmp_ge, lg_cmp_le, lg_cmp_gt, lg_cmp_lt, lg_cmp_eq, Bool.false_eq_true, Bool.true_eq_false, reduceCtorEq, false_iff, true_iff, iff_true, iff_false, and_true, true_and, and_false, false_and, reduceIte, ite_true, ite_false, eq_self] at *)) <;> omega) (by ((try simp only [vp_in_iff, Int32.lt_iff_toInt_lt, Int32.le_iff_toInt_le, ← Int32.toInt_inj, Int32.reduceToInt, n_1, n_2, n_8, Int32.toNatClampNeg, Int64.lt_iff_toInt_lt, Int64.le_iff_toInt_le, ← Int64.toInt_inj, Int64.reduceToInt, Int32.toInt_toInt64, lg_cmp_ge, lg_cmp_le, lg_cmp_gt, lg_cmp_lt, lg_cmp_eq, Bool.false_eq_true, Bool.true_eq_false, reduceCtorEq, false_iff, true_iff, iff_true, iff_false, and_true, true_and, and_false, false_and, reduceIte, ite_true, ite_false, eq_self] at *)) <;> omega) | (intro k hk; simp only [Int32.reduceToInt] at hk; omega)), trivial⟩ rfl
                · refine wa_bipush (v := 16) (by decide) ?_
                  refine wa_aload_n (i := 0) rfl rfl ?_
                  refine wa_getr ck_12 fl_12_298 ly_84 rf_84_118 ?_
                  refine wa_iload_n (i := 1) rfl rfl ?_
                  refine wa_iald ly_135 (by ((try simp only [vp_in_iff, Int32.lt_iff_toInt_lt, Int32.le_iff_toInt_le, ← Int32.toInt_inj, Int32.reduceToInt, n_1, n_2, n_8, Int32.toNatClampNeg, Int64.lt_iff_toInt_lt, Int64.le_iff_toInt_le, ← Int64.toInt_inj, Int64.reduceToInt, Int32.toInt_toInt64, lg_cmp_ge, lg_cmp_le, lg_cmp_gt, lg_cmp_lt, lg_cmp_eq, Bool.false_eq_true, Bool.true_eq_false, reduceCtorEq, false_iff, true_iff, iff_true, iff_false, and_true, true_and, and_false, false_and, reduceIte, ite_true, ite_false, eq_self] at *)) <;> omega) ?_
                  refine wa_top (fun v49 hv49 => ?_)
                  have rv49 : 0 ≤ v49.toInt ∧ v49.toInt ≤ 12 := by rw [← hv49]; exact ar_at (ar_fm Fs11 rfl rfl A_135) _
                  have qv49 := hv49
                  clear hv49
                  refine wa_imul ?_
                  refine wa_top (fun v50 hv50 => ?_)
                  have tv50 := i_mulT hv50
                  clear hv50
                  refine wa_aload_n (i := 0) rfl rfl ?_
                  refine wa_getr ck_12 fl_12_295 ly_84 rf_84_117 ?_
                  refine wa_iload_n (i := 1) rfl rfl ?_
                  refine wa_iald ly_136 (by ((try simp only [vp_in_iff, Int32.lt_iff_toInt_lt, Int32.le_iff_toInt_le, ← Int32.toInt_inj, Int32.reduceToInt, n_1, n_2, n_8, Int32.toNatClampNeg, Int64.lt_iff_toInt_lt, Int64.le_iff_toInt_le, ← Int64.toInt_inj, Int64.reduceToInt, Int32.toInt_toInt64, lg_cmp_ge, lg_cmp_le, lg_cmp_gt, lg_cmp_lt, lg_cmp_eq, Bool.false_eq_true, Bool.true_eq_false, reduceCtorEq, false_iff, true_iff, iff_true, iff_false, and_true, true_and, and_false, false_and, reduceIte, ite_true, ite_false, eq_self] at *)) <;> omega) ?_
                  refine wa_top (fun v51 hv51 => ?_)
                  have rv51 : -99999 ≤ v51.toInt ∧ v51.toInt ≤ 99999 := by rw [← hv51]; exact ar_at (ar_fm Fs11 rfl rfl A_136) _
                  have qv51 := hv51
                  have wv51 := (WOK_of (fun k => Fm.gi Fs11 (q := 135) (k := k) rfl rfl) (fun k => Fm.gi Fs11 (q := 136) (k := k) rfl rfl) P_WOK) ((l1).toNatClampNeg)
                  clear hv51
                  refine wa_iadd ?_
                  refine wa_top (fun v52 hv52 => ?_)
                  have tv52 := i_addT hv52
                  clear hv52
                  refine wa_goto o_X12_explore_101 (by decide) ?_
                  refine wa_iast ly_125 (by ((try simp only [vp_in_iff, Int32.lt_iff_toInt_lt, Int32.le_iff_toInt_le, ← Int32.toInt_inj, Int32.reduceToInt, n_1, n_2, n_8, Int32.toNatClampNeg, Int64.lt_iff_toInt_lt, Int64.le_iff_toInt_le, ← Int64.toInt_inj, Int64.reduceToInt, Int32.toInt_toInt64, lg_cmp_ge, lg_cmp_le, lg_cmp_gt, lg_cmp_lt, lg_cmp_eq, Bool.false_eq_true, Bool.true_eq_false, reduceCtorEq, false_iff, true_iff, iff_true, iff_false, and_true, true_and, and_false, false_and, reduceIte, ite_true, ite_false, eq_self] at *)) <;> omega) (fun s53 hs53 => ?_)
                  have Fs53 : Fm [125, 126, 127, 128, 129, 133, 134] [129, 131] σ s53 := by rw [hs53]; exact Fm.si Fs11 rfl
                  refine wa_iinc (v := (1)) (lv' := fun y54 => [(1, .int y54), (0, .ref 84)]) (by decide) rfl (by decide) (fun _ => rfl) (fun y54 hy54 => ?_)
                  have ty54 := i_addT hy54.symm
                  clear hy54
                  refine wa_goto o_X12_explore_54 (by decide) ?_
                  refine wa_pick [1, 0] rfl ?_
                  exact ih12 _ (by ((try simp only [vp_in_iff, Int32.lt_iff_toInt_lt, Int32.le_iff_toInt_le, ← Int32.toInt_inj, Int32.reduceToInt, n_1, n_2, n_8, Int32.toNatClampNeg, Int64.lt_iff_toInt_lt, Int64.le_iff_toInt_le, ← Int64.toInt_inj, Int64.reduceToInt, Int32.toInt_toInt64, lg_cmp_ge, lg_cmp_le, lg_cmp_gt, lg_cmp_lt, lg_cmp_eq, Bool.false_eq_true, Bool.true_eq_false, reduceCtorEq, false_iff, true_iff, iff_true, iff_false, and_true, true_and, and_false, false_and, reduceIte, ite_true, ite_false, eq_self] at *)) <;> omega) _ _ ⟨Fs53, ((nxq_gi_si hs53 (by decide)).trans (khi13_0)), ((nxq_gi_si hs53 (by decide)).trans (khi13_1)), ((nxq_gi_si hs53 (by decide)).trans (khi13_2)), ((nxq_gi_si hs53 (by decide)).trans (khi13_3)), (ar_ni hs53 (by decide) As11_128), (ar_ni hs53 (by decide) As11_134), (CHA_of (fun k => nxq_gi_si hs53 (by decide)) (nxq_gi_si hs53 (by decide)) Ps11_CHA), (INW_of (fun k => nx_gb_si hs53) (fun k => nxq_gi_si hs53 (by decide)) (nxq_gi_si hs53 (by decide)) (fun k => nxq_gi_si hs53 (by decide)) (fun k => nxq_gi_si hs53 (by decide)) (fun k => nxq_gi_si hs53 (by decide)) (fun k => nxq_gi_si hs53 (by decide)) (fun k => nxq_gi_si hs53 (by decide)) (fun k => nxq_gi_si hs53 (by decide)) Ps11_INW), (HDS_of (fun k => nxq_gi_si hs53 (by decide)) (nxq_gi_si hs53 (by decide)) Ps11_HDS), (DV_of (fun k => nxq_gi_si hs53 (by decide)) (fun k => nxq_gi_si hs53 (by decide)) (nxq_gi_si hs53 (by decide)) (nxq_gi_si hs53 (by decide)) Ps11_DV), (WKS_of (fun k => nx_gb_si hs53) (fun k => nxq_gi_si hs53 (by decide)) (fun k => nxq_gi_si hs53 (by decide)) Ps11_WKS), (by ((try simp only [vp_in_iff, Int32.lt_iff_toInt_lt, Int32.le_iff_toInt_le, ← Int32.toInt_inj, Int32.reduceToInt, n_1, n_2, n_8, Int32.toNatClampNeg, Int64.lt_iff_toInt_lt, Int64.le_iff_toInt_le, ← Int64.toInt_inj, Int64.reduceToInt, Int32.toInt_toInt64, lg_cmp_ge, lg_cmp_le, lg_cmp_gt, lg_cmp_lt, lg_cmp_eq, Bool.false_eq_true, Bool.true_eq_false, reduceCtorEq, false_iff, true_iff, iff_true, iff_false, and_true, true_and, and_false, false_and, reduceIte, ite_true, ite_false, eq_self] at *)) <;> omega), (by first | exact di_w hs53 (by first | assumption | (simp only [DVo]; ((try simp only [vp_in_iff, Int32.lt_iff_toInt_lt, Int32.le_iff_toInt_le, ← Int32.toInt_inj, Int32.reduceToInt, n_1, n_2, n_8, Int32.toNatClampNeg, Int64.lt_iff_toInt_lt, Int64.le_iff_toInt_le, ← Int64.toInt_inj, Int64.reduceToInt, Int32.toInt_toInt64, lg_cmp_ge, lg_cmp_le, lg_cmp_gt, lg_cmp_lt, lg_cmp_eq, Bool.false_eq_true, Bool.true_eq_false, reduceCtorEq, false_iff, true_iff, iff_true, iff_false, and_true, true_and, and_false, false_and, reduceIte, ite_true, ite_false, eq_self] at *)) <;> omega)) (by assumption) (by ((try simp only [vp_in_iff, Int32.lt_iff_toInt_lt, Int32.le_iff_toInt_le, ← Int32.toInt_inj, Int32.reduceToInt, n_1, n_2, n_8, Int32.toNatClampNeg, Int64.lt_iff_toInt_lt, Int64.le_iff_toInt_le, ← Int64.toInt_inj, Int64.reduceToInt, Int32.toInt_toInt64, lg_cmp_ge, lg_cmp_le, lg_cmp_gt, lg_cmp_lt, lg_cmp_eq, Bool.false_eq_true, Bool.true_eq_false, reduceCtorEq, false_iff, true_iff, iff_true, iff_false, and_true, true_and, and_false, false_and, reduceIte, ite_true, ite_false, eq_self] at *)) <;> omega) (by ((try simp only [vp_in_iff, Int32.lt_iff_toInt_lt, Int32.le_iff_toInt_le, ← Int32.toInt_inj, Int32.reduceToInt, n_1, n_2, n_8, Int32.toNatClampNeg, Int64.lt_iff_toInt_lt, Int64.le_iff_toInt_le, ← Int64.toInt_inj, Int64.reduceToInt, Int32.toInt_toInt64, lg_cmp_ge, lg_cmp_le, lg_cmp_gt, lg_cmp_lt, lg_cmp_eq, Bool.false_eq_true, Bool.true_eq_false, reduceCtorEq, false_iff, true_iff, iff_true, iff_false, and_true, true_and, and_false, false_and, reduceIte, ite_true, ite_false, eq_self] at *)) <;> omega) | (intro k hk; simp only [Int32.reduceToInt] at hk; omega)), trivial⟩ rfl
          exact hi13 _ _ _ ⟨Fs10, ((nxk_gi_si hs10 (by decide)).trans (khi8_0)), (nxe_gi_si hs10), ((nxk_gi_si hs10 (by decide)).trans (khi8_2)), ((nxk_gi_si hs10 (by decide)).trans (khi8_3)), (ar_ni hs10 (by decide) As6_128), (ar_ni hs10 (by decide) As6_134), Ps10_CHA, (INW_of (fun k => nx_gb_si hs10) (fun k => nxq_gi_si hs10 (by decide)) (nxk_gi_si hs10 (by decide)) (fun k => nxq_gi_si hs10 (by decide)) (fun k => nxq_gi_si hs10 (by decide)) (fun k => nxq_gi_si hs10 (by decide)) (fun k => nxq_gi_si hs10 (by decide)) (fun k => nxq_gi_si hs10 (by decide)) (fun k => nxq_gi_si hs10 (by decide)) Ps6_INW), Ps10_HDS, Ps10_DV, (WKS_of (fun k => nx_gb_si hs10) (fun k => nxq_gi_si hs10 (by decide)) (fun k => nxq_gi_si hs10 (by decide)) Ps6_WKS), (by ((try simp only [vp_in_iff, Int32.lt_iff_toInt_lt, Int32.le_iff_toInt_le, ← Int32.toInt_inj, Int32.reduceToInt, n_1, n_2, n_8, Int32.toNatClampNeg, Int64.lt_iff_toInt_lt, Int64.le_iff_toInt_le, ← Int64.toInt_inj, Int64.reduceToInt, Int32.toInt_toInt64, lg_cmp_ge, lg_cmp_le, lg_cmp_gt, lg_cmp_lt, lg_cmp_eq, Bool.false_eq_true, Bool.true_eq_false, reduceCtorEq, false_iff, true_iff, iff_true, iff_false, and_true, true_and, and_false, false_and, reduceIte, ite_true, ite_false, eq_self] at *)) <;> omega), (by first | exact di_w hs10 (by first | assumption | (simp only [DVo]; ((try simp only [vp_in_iff, Int32.lt_iff_toInt_lt, Int32.le_iff_toInt_le, ← Int32.toInt_inj, Int32.reduceToInt, n_1, n_2, n_8, Int32.toNatClampNeg, Int64.lt_iff_toInt_lt, Int64.le_iff_toInt_le, ← Int64.toInt_inj, Int64.reduceToInt, Int32.toInt_toInt64, lg_cmp_ge, lg_cmp_le, lg_cmp_gt, lg_cmp_lt, lg_cmp_eq, Bool.false_eq_true, Bool.true_eq_false, reduceCtorEq, false_iff, true_iff, iff_true, iff_false, and_true, true_and, and_false, false_and, reduceIte, ite_true, ite_false, eq_self] at *)) <;> omega)) (by assumption) (by ((try simp only [vp_in_iff, Int32.lt_iff_toInt_lt, Int32.le_iff_toInt_le, ← Int32.toInt_inj, Int32.reduceToInt, n_1, n_2, n_8, Int32.toNatClampNeg, Int64.lt_iff_toInt_lt, Int64.le_iff_toInt_le, ← Int64.toInt_inj, Int64.reduceToInt, Int32.toInt_toInt64, lg_cmp_ge, lg_cmp_le, lg_cmp_gt, lg_cmp_lt, lg_cmp_eq, Bool.false_eq_true, Bool.true_eq_false, reduceCtorEq, false_iff, true_iff, iff_true, iff_false, and_true, true_and, and_false, false_and, reduceIte, ite_true, ite_false, eq_self] at *)) <;> omega) (by ((try simp only [vp_in_iff, Int32.lt_iff_toInt_lt, Int32.le_iff_toInt_le, ← Int32.toInt_inj, Int32.reduceToInt, n_1, n_2, n_8, Int32.toNatClampNeg, Int64.lt_iff_toInt_lt, Int64.le_iff_toInt_le, ← Int64.toInt_inj, Int64.reduceToInt, Int32.toInt_toInt64, lg_cmp_ge, lg_cmp_le, lg_cmp_gt, lg_cmp_lt, lg_cmp_eq, Bool.false_eq_true, Bool.true_eq_false, reduceCtorEq, false_iff, true_iff, iff_true, iff_false, and_true, true_and, and_false, false_and, reduceIte, ite_true, ite_false, eq_self] at *)) <;> omega) | (intro k hk; simp only [Int32.reduceToInt] at hk; omega)), trivial⟩ rfl
        · have mh9 := nle_mx h9
          refine wa_aload_n (i := 0) rfl rfl ?_
          refine wa_getr ck_12 fl_12_325 ly_84 rf_84_127 ?_
          refine wa_iload_n (i := 1) rfl rfl ?_
          refine wa_iconst (v := (-1)) (by decide) ?_
          refine wa_iast ly_127 (by ((try simp only [vp_in_iff, Int32.lt_iff_toInt_lt, Int32.le_iff_toInt_le, ← Int32.toInt_inj, Int32.reduceToInt, n_1, n_2, n_8, Int32.toNatClampNeg, Int64.lt_iff_toInt_lt, Int64.le_iff_toInt_le, ← Int64.toInt_inj, Int64.reduceToInt, Int32.toInt_toInt64, lg_cmp_ge, lg_cmp_le, lg_cmp_gt, lg_cmp_lt, lg_cmp_eq, Bool.false_eq_true, Bool.true_eq_false, reduceCtorEq, false_iff, true_iff, iff_true, iff_false, and_true, true_and, and_false, false_and, reduceIte, ite_true, ite_false, eq_self] at *)) <;> omega) (fun s55 hs55 => ?_)
          have Fs55 : Fm [125, 126, 127, 128, 129, 133, 134] [129, 131] σ s55 := by rw [hs55]; exact Fm.si Fs6 rfl
          refine wa_iinc (v := (1)) (lv' := fun y56 => [(1, .int y56), (0, .ref 84)]) (by decide) rfl (by decide) (fun _ => rfl) (fun y56 hy56 => ?_)
          have ty56 := i_addT hy56.symm
          clear hy56
          refine wa_goto o_X12_explore_27 (by decide) ?_
          refine wa_pick [1, 0] rfl ?_
          exact ih7 _ (by ((try simp only [vp_in_iff, Int32.lt_iff_toInt_lt, Int32.le_iff_toInt_le, ← Int32.toInt_inj, Int32.reduceToInt, n_1, n_2, n_8, Int32.toNatClampNeg, Int64.lt_iff_toInt_lt, Int64.le_iff_toInt_le, ← Int64.toInt_inj, Int64.reduceToInt, Int32.toInt_toInt64, lg_cmp_ge, lg_cmp_le, lg_cmp_gt, lg_cmp_lt, lg_cmp_eq, Bool.false_eq_true, Bool.true_eq_false, reduceCtorEq, false_iff, true_iff, iff_true, iff_false, and_true, true_and, and_false, false_and, reduceIte, ite_true, ite_false, eq_self] at *)) <;> omega) _ _ ⟨Fs55, ((nxq_gi_si hs55 (by decide)).trans (khi8_0)), ((nxq_gi_si hs55 (by decide)).trans (khi8_1)), ((nxq_gi_si hs55 (by decide)).trans (khi8_2)), ((nxq_gi_si hs55 (by decide)).trans (khi8_3)), (ar_ni hs55 (by decide) As6_128), (ar_ni hs55 (by decide) As6_134), (CHA_of (fun k => nxq_gi_si hs55 (by decide)) (nxq_gi_si hs55 (by decide)) Ps6_CHA), (INW_of (fun k => nx_gb_si hs55) (fun k => nxq_gi_si hs55 (by decide)) (nxq_gi_si hs55 (by decide)) (fun k => nxq_gi_si hs55 (by decide)) (fun k => nxq_gi_si hs55 (by decide)) (fun k => nxq_gi_si hs55 (by decide)) (fun k => nxq_gi_si hs55 (by decide)) (fun k => nxq_gi_si hs55 (by decide)) (fun k => nxq_gi_si hs55 (by decide)) Ps6_INW), (WKS_of (fun k => nx_gb_si hs55) (fun k => nxq_gi_si hs55 (by decide)) (fun k => nxq_gi_si hs55 (by decide)) Ps6_WKS), (by ((try simp only [vp_in_iff, Int32.lt_iff_toInt_lt, Int32.le_iff_toInt_le, ← Int32.toInt_inj, Int32.reduceToInt, n_1, n_2, n_8, Int32.toNatClampNeg, Int64.lt_iff_toInt_lt, Int64.le_iff_toInt_le, ← Int64.toInt_inj, Int64.reduceToInt, Int32.toInt_toInt64, lg_cmp_ge, lg_cmp_le, lg_cmp_gt, lg_cmp_lt, lg_cmp_eq, Bool.false_eq_true, Bool.true_eq_false, reduceCtorEq, false_iff, true_iff, iff_true, iff_false, and_true, true_and, and_false, false_and, reduceIte, ite_true, ite_false, eq_self] at *)) <;> omega), (by first | exact all_w (P := fun x => x = -1) hs55 (by decide) (by assumption) (by ((try simp only [vp_in_iff, Int32.lt_iff_toInt_lt, Int32.le_iff_toInt_le, ← Int32.toInt_inj, Int32.reduceToInt, n_1, n_2, n_8, Int32.toNatClampNeg, Int64.lt_iff_toInt_lt, Int64.le_iff_toInt_le, ← Int64.toInt_inj, Int64.reduceToInt, Int32.toInt_toInt64, lg_cmp_ge, lg_cmp_le, lg_cmp_gt, lg_cmp_lt, lg_cmp_eq, Bool.false_eq_true, Bool.true_eq_false, reduceCtorEq, false_iff, true_iff, iff_true, iff_false, and_true, true_and, and_false, false_and, reduceIte, ite_true, ite_false, eq_self] at *)) <;> omega) (by ((try simp only [vp_in_iff, Int32.lt_iff_toInt_lt, Int32.le_iff_toInt_le, ← Int32.toInt_inj, Int32.reduceToInt, n_1, n_2, n_8, Int32.toNatClampNeg, Int64.lt_iff_toInt_lt, Int64.le_iff_toInt_le, ← Int64.toInt_inj, Int64.reduceToInt, Int32.toInt_toInt64, lg_cmp_ge, lg_cmp_le, lg_cmp_gt, lg_cmp_lt, lg_cmp_eq, Bool.false_eq_true, Bool.true_eq_false, reduceCtorEq, false_iff, true_iff, iff_true, iff_false, and_true, true_and, and_false, false_and, reduceIte, ite_true, ite_false, eq_self] at *)) <;> omega) | (intro k hk; simp only [Int32.reduceToInt] at hk; omega)), trivial⟩ rfl
    exact hi8 _ _ _ ⟨Fs5, ((nxk_gi_si hs5 (by decide)).trans (Fm.gi fs2 (q := 84) (k := 119) rfl rfl)), ((nxk_gi_si hs5 (by decide)).trans (Fm.gi fs2 (q := 84) (k := 129) rfl rfl)), ((nxk_gi_si hs5 (by decide)).trans (Fm.gi fs2 (q := 84) (k := 32) rfl rfl)), (nxe_gi_si hs5), (ar_ni hs5 (by decide) (ar_fm fs2 rfl rfl A_128)), (ar_ni hs5 (by decide) As2_134), (CHA_of (fun k => (nxq_gi_si hs5 (by decide)).trans (Fm.gi fs2 (q := 126) (k := k) rfl rfl)) ((nxk_gi_si hs5 (by decide)).trans (Fm.gi fs2 (q := 84) (k := 129) rfl rfl)) P_CHA), (INW_of (fun k => nx_gb_si hs5) (fun k => nxq_gi_si hs5 (by decide)) (nxk_gi_si hs5 (by decide)) (fun k => nxq_gi_si hs5 (by decide)) (fun k => nxq_gi_si hs5 (by decide)) (fun k => nxq_gi_si hs5 (by decide)) (fun k => nxq_gi_si hs5 (by decide)) (fun k => nxq_gi_si hs5 (by decide)) (fun k => nxq_gi_si hs5 (by decide)) Ps2_INW), (WKS_of (fun k => nx_gb_si hs5) (fun k => nxq_gi_si hs5 (by decide)) (fun k => nxq_gi_si hs5 (by decide)) Ps2_WKS), (by ((try simp only [vp_in_iff, Int32.lt_iff_toInt_lt, Int32.le_iff_toInt_le, ← Int32.toInt_inj, Int32.reduceToInt, n_1, n_2, n_8, Int32.toNatClampNeg, Int64.lt_iff_toInt_lt, Int64.le_iff_toInt_le, ← Int64.toInt_inj, Int64.reduceToInt, Int32.toInt_toInt64, lg_cmp_ge, lg_cmp_le, lg_cmp_gt, lg_cmp_lt, lg_cmp_eq, Bool.false_eq_true, Bool.true_eq_false, reduceCtorEq, false_iff, true_iff, iff_true, iff_false, and_true, true_and, and_false, false_and, reduceIte, ite_true, ite_false, eq_self] at *)) <;> omega), (by first | exact all_w (P := fun x => x = -1) hs5 (by decide) (by assumption) (by ((try simp only [vp_in_iff, Int32.lt_iff_toInt_lt, Int32.le_iff_toInt_le, ← Int32.toInt_inj, Int32.reduceToInt, n_1, n_2, n_8, Int32.toNatClampNeg, Int64.lt_iff_toInt_lt, Int64.le_iff_toInt_le, ← Int64.toInt_inj, Int64.reduceToInt, Int32.toInt_toInt64, lg_cmp_ge, lg_cmp_le, lg_cmp_gt, lg_cmp_lt, lg_cmp_eq, Bool.false_eq_true, Bool.true_eq_false, reduceCtorEq, false_iff, true_iff, iff_true, iff_false, and_true, true_and, and_false, false_and, reduceIte, ite_true, ite_false, eq_self] at *)) <;> omega) (by ((try simp only [vp_in_iff, Int32.lt_iff_toInt_lt, Int32.le_iff_toInt_le, ← Int32.toInt_inj, Int32.reduceToInt, n_1, n_2, n_8, Int32.toNatClampNeg, Int64.lt_iff_toInt_lt, Int64.le_iff_toInt_le, ← Int64.toInt_inj, Int64.reduceToInt, Int32.toInt_toInt64, lg_cmp_ge, lg_cmp_le, lg_cmp_gt, lg_cmp_lt, lg_cmp_eq, Bool.false_eq_true, Bool.true_eq_false, reduceCtorEq, false_iff, true_iff, iff_true, iff_false, and_true, true_and, and_false, false_and, reduceIte, ite_true, ite_false, eq_self] at *)) <;> omega) | (intro k hk; simp only [Int32.reduceToInt] at hk; omega)), trivial⟩ rfl
  · refine wa_iconst (v := 0) (by decide) ?_
    refine wa_zreturn false (rfl) rfl rfl ?_
    exact ⟨_, rfl, (Fm.rf [125, 126, 127, 128, 129, 133, 134] [129, 131] σ), (fun hx => by first | exact absurd hx Bool.false_ne_true | exact noSuch), (fun hx => by first | exact absurd hx Bool.false_ne_true | exact noSuch), (fun hx => by first | exact absurd hx Bool.false_ne_true | exact behp_end (by assumption) (by ((try simp only [vp_in_iff, Int32.lt_iff_toInt_lt, Int32.le_iff_toInt_le, ← Int32.toInt_inj, Int32.reduceToInt, n_1, n_2, n_8, Int32.toNatClampNeg, Int64.lt_iff_toInt_lt, Int64.le_iff_toInt_le, ← Int64.toInt_inj, Int64.reduceToInt, Int32.toInt_toInt64, lg_cmp_ge, lg_cmp_le, lg_cmp_gt, lg_cmp_lt, lg_cmp_eq, Bool.false_eq_true, Bool.true_eq_false, reduceCtorEq, false_iff, true_iff, iff_true, iff_false, and_true, true_and, and_false, false_and, reduceIte, ite_true, ite_false, eq_self] at *)) <;> omega)), (fun hx => by first | exact absurd hx Bool.false_ne_true | (rw [rfl]; ((try simp only [vp_in_iff, Int32.lt_iff_toInt_lt, Int32.le_iff_toInt_le, ← Int32.toInt_inj, Int32.reduceToInt, n_1, n_2, n_8, Int32.toNatClampNeg, Int64.lt_iff_toInt_lt, Int64.le_iff_toInt_le, ← Int64.toInt_inj, Int64.reduceToInt, Int32.toInt_toInt64, lg_cmp_ge, lg_cmp_le, lg_cmp_gt, lg_cmp_lt, lg_cmp_eq, Bool.false_eq_true, Bool.true_eq_false, reduceCtorEq, false_iff, true_iff, iff_true, iff_false, and_true, true_and, and_false, false_and, reduceIte, ite_true, ite_false, eq_self] at *)) <;> omega) | (((try simp only [vp_in_iff, Int32.lt_iff_toInt_lt, Int32.le_iff_toInt_le, ← Int32.toInt_inj, Int32.reduceToInt, n_1, n_2, n_8, Int32.toNatClampNeg, Int64.lt_iff_toInt_lt, Int64.le_iff_toInt_le, ← Int64.toInt_inj, Int64.reduceToInt, Int32.toInt_toInt64, lg_cmp_ge, lg_cmp_le, lg_cmp_gt, lg_cmp_lt, lg_cmp_eq, Bool.false_eq_true, Bool.true_eq_false, reduceCtorEq, false_iff, true_iff, iff_true, iff_false, and_true, true_and, and_false, false_and, reduceIte, ite_true, ite_false, eq_self] at *)) <;> omega)), (fun hx => by first | exact absurd hx Bool.false_ne_true | (rw [rfl]; ((try simp only [vp_in_iff, Int32.lt_iff_toInt_lt, Int32.le_iff_toInt_le, ← Int32.toInt_inj, Int32.reduceToInt, n_1, n_2, n_8, Int32.toNatClampNeg, Int64.lt_iff_toInt_lt, Int64.le_iff_toInt_le, ← Int64.toInt_inj, Int64.reduceToInt, Int32.toInt_toInt64, lg_cmp_ge, lg_cmp_le, lg_cmp_gt, lg_cmp_lt, lg_cmp_eq, Bool.false_eq_true, Bool.true_eq_false, reduceCtorEq, false_iff, true_iff, iff_true, iff_false, and_true, true_and, and_false, false_and, reduceIte, ite_true, ite_false, eq_self] at *)) <;> omega) | (((try simp only [vp_in_iff, Int32.lt_iff_toInt_lt, Int32.le_iff_toInt_le, ← Int32.toInt_inj, Int32.reduceToInt, n_1, n_2, n_8, Int32.toNatClampNeg, Int64.lt_iff_toInt_lt, Int64.le_iff_toInt_le, ← Int64.toInt_inj, Int64.reduceToInt, Int32.toInt_toInt64, lg_cmp_ge, lg_cmp_le, lg_cmp_gt, lg_cmp_lt, lg_cmp_eq, Bool.false_eq_true, Bool.true_eq_false, reduceCtorEq, false_iff, true_iff, iff_true, iff_false, and_true, true_and, and_false, false_and, reduceIte, ite_true, ite_false, eq_self] at *)) <;> omega)), (by first | assumption | (((try simp only [vp_in_iff, Int32.lt_iff_toInt_lt, Int32.le_iff_toInt_le, ← Int32.toInt_inj, Int32.reduceToInt, n_1, n_2, n_8, Int32.toNatClampNeg, Int64.lt_iff_toInt_lt, Int64.le_iff_toInt_le, ← Int64.toInt_inj, Int64.reduceToInt, Int32.toInt_toInt64, lg_cmp_ge, lg_cmp_le, lg_cmp_gt, lg_cmp_lt, lg_cmp_eq, Bool.false_eq_true, Bool.true_eq_false, reduceCtorEq, false_iff, true_iff, iff_true, iff_false, and_true, true_and, and_false, false_and, reduceIte, ite_true, ite_false, eq_self] at *)) <;> omega)), (by first | assumption | (((try simp only [vp_in_iff, Int32.lt_iff_toInt_lt, Int32.le_iff_toInt_le, ← Int32.toInt_inj, Int32.reduceToInt, n_1, n_2, n_8, Int32.toNatClampNeg, Int64.lt_iff_toInt_lt, Int64.le_iff_toInt_le, ← Int64.toInt_inj, Int64.reduceToInt, Int32.toInt_toInt64, lg_cmp_ge, lg_cmp_le, lg_cmp_gt, lg_cmp_lt, lg_cmp_eq, Bool.false_eq_true, Bool.true_eq_false, reduceCtorEq, false_iff, true_iff, iff_true, iff_false, and_true, true_and, and_false, false_and, reduceIte, ite_true, ite_false, eq_self] at *)) <;> omega)), A_128, A_134, P_CHA, P_INW, trivial⟩
set_option maxHeartbeats 4000000 in
theorem sp_X12_isSo (G : kG9) {d : Nat} (hd : 1 ≤ d) (σ : St) (a0 : Int32) (a1 : Int32) (a2 : Int32) (p1 : 0 ≤ a0.toInt ∧ a0.toInt < 700) (p2 : (gi σ 135 (a0).toNatClampNeg).toInt ≤ 0 ∨ a1.toInt < 0 ∨ (16 ≤ a1.toInt ∧ a1.toInt ≤ 207)) (r1 : 0 ≤ (gi σ 84 32).toInt ∧ (gi σ 84 32).toInt ≤ 4) (A_135 : AR ap_135 σ 135) (A_137 : AR ap_137 σ 137) : Ct G M_X12_isSo d [.ref 84, .int a0, .int a1, .int a2] σ (fun r σ' => ∃ x : Bool, r = some (.int (bI x)) ∧ σ = σ' ∧ True) := by
  refine wa_start (by decide) rfl (Nat.le_of_ble_eq_true rfl) (lv := [(0, .ref 84), (1, .int a0), (2, .int a1), (3, .int a2)]) rfl o_X12_isSo_0 rfl ?_
  have ua0 := Int32.toInt_lt a0
  have wa0 := Int32.le_toInt a0
  have ua1 := Int32.toInt_lt a1
  have wa1 := Int32.le_toInt a1
  have ua2 := Int32.toInt_lt a2
  have wa2 := Int32.le_toInt a2
  refine wa_iconst (v := 0) (by decide) ?_
  refine wa_istoreD (lv' := [(4, .int 0), (0, .ref 84), (1, .int a0), (2, .int a1), (3, .int a2)]) (by decide) rfl ?_
  refine wa_aload_n (i := 0) rfl rfl ?_
  refine wa_getr ck_12 fl_12_298 ly_84 rf_84_118 ?_
  refine wa_iload_n (i := 1) rfl rfl ?_
  refine wa_iald ly_135 (by ((try simp only [vp_in_iff, Int32.lt_iff_toInt_lt, Int32.le_iff_toInt_le, ← Int32.toInt_inj, Int32.reduceToInt, n_1, n_2, n_8, Int32.toNatClampNeg, Int64.lt_iff_toInt_lt, Int64.le_iff_toInt_le, ← Int64.toInt_inj, Int64.reduceToInt, Int32.toInt_toInt64, lg_cmp_ge, lg_cmp_le, lg_cmp_gt, lg_cmp_lt, lg_cmp_eq, Bool.false_eq_true, Bool.true_eq_false, reduceCtorEq, false_iff, true_iff, iff_true, iff_false, and_true, true_and, and_false, false_and, reduceIte, ite_true, ite_false, eq_self] at *)) <;> omega) ?_
  refine wa_top (fun v1 hv1 => ?_)
  have rv1 : 0 ≤ v1.toInt ∧ v1.toInt ≤ 12 := by rw [← hv1]; exact ar_at A_135 _
  have qv1 := hv1
  clear hv1
  refine wa_if_le o_X12_isSo_23 (by decide) (fun h2 => ?_) (fun h2 => ?_)
  · refine wa_iconst (v := 1) (by decide) ?_
    refine wa_istoreD (lv' := [(5, .int 1), (4, .int 0), (0, .ref 84), (1, .int a0), (2, .int a1), (3, .int a2)]) (by decide) rfl ?_
    refine wa_iconst (v := 0) (by decide) ?_
    refine wa_istoreD (lv' := [(6, .int 0), (5, .int 1), (4, .int 0), (0, .ref 84), (1, .int a0), (2, .int a1), (3, .int a2)]) (by decide) rfl ?_
    refine wa_pick [3, 4, 5, 6, 2, 1, 0] rfl ?_
    have hi4 : ∀ (n9_29 : Nat) (l4 : Int32) (l6 : Int32), ((0 ≤ l6.toInt) ∧ (True)) → (2147483647 - l6.toInt).toNat = n9_29 → WA G M_X12_isSo (ZM G M_X12_isSo d (fun r σ' => ∃ x : Bool, r = some (.int (bI x)) ∧ σ = σ' ∧ True)) B_X12_isSo_29 [(0, .ref 84), (1, .int a0), (2, .int a1), (3, .int a2), (4, .int l4), (5, .int 1), (6, .int l6)] [] σ := by
      intro n9_29
      induction n9_29 using Nat.strongRecOn with
      | _ n9_29 ih3 =>
        intro l4 l6  i9 m9_29
        obtain ⟨jhi4_0, -⟩ := i9
        have ul4 := Int32.toInt_lt l4
        have wl4 := Int32.le_toInt l4
        have ul6 := Int32.toInt_lt l6
        have wl6 := Int32.le_toInt l6
        refine wa_iload rfl ?_
        refine wa_aload_n (i := 0) rfl rfl ?_
        refine wa_geti ck_12 fl_12_815 ly_84 ?_
        refine wa_icmp_ge o_X12_isSo_74 (by decide) (fun h5 => ?_) (fun h5 => ?_)
        · refine wa_aload_n (i := 0) rfl rfl ?_
          refine wa_getr ck_12 fl_12_298 ly_84 rf_84_118 ?_
          refine wa_iload_n (i := 1) rfl rfl ?_
          refine wa_iald ly_135 (by ((try simp only [vp_in_iff, Int32.lt_iff_toInt_lt, Int32.le_iff_toInt_le, ← Int32.toInt_inj, Int32.reduceToInt, n_1, n_2, n_8, Int32.toNatClampNeg, Int64.lt_iff_toInt_lt, Int64.le_iff_toInt_le, ← Int64.toInt_inj, Int64.reduceToInt, Int32.toInt_toInt64, lg_cmp_ge, lg_cmp_le, lg_cmp_gt, lg_cmp_lt, lg_cmp_eq, Bool.false_eq_true, Bool.true_eq_false, reduceCtorEq, false_iff, true_iff, iff_true, iff_false, and_true, true_and, and_false, false_and, reduceIte, ite_true, ite_false, eq_self] at *)) <;> omega) ?_
          refine wa_top (fun v6 hv6 => ?_)
          have rv6 : 0 ≤ v6.toInt ∧ v6.toInt ≤ 12 := by rw [← hv6]; exact ar_at A_135 _
          have qv6 := hv6
          clear hv6
          refine wa_if_ne o_X12_isSo_95 (by decide) (fun h7 => ?_) (fun h7 => ?_)
          · refine wa_iload_n (i := 2) rfl rfl ?_
            refine wa_iconst (v := (-1)) (by decide) ?_
            refine wa_icmp_eq o_X12_isSo_123 (by decide) (fun h8 => ?_) (fun h8 => ?_)
            · refine wa_iconst (v := 1) (by decide) ?_
              refine wa_goto o_X12_isSo_128 (by decide) ?_
              refine wa_zreturn true (rfl) rfl rfl ?_
              exact ⟨_, rfl, rfl, trivial⟩
            · refine wa_iload_n (i := 2) rfl rfl ?_
              refine wa_if_lt o_X12_isSo_127 (by decide) (fun h9 => ?_) (fun h9 => ?_)
              · refine wa_iconst (v := 0) (by decide) ?_
                refine wa_zreturn false (rfl) rfl rfl ?_
                exact ⟨_, rfl, rfl, trivial⟩
              · refine wa_iload_n (i := 2) rfl rfl ?_
                refine wa_bipush (v := 16) (by decide) ?_
                refine wa_irem (by ((try simp only [vp_in_iff, Int32.lt_iff_toInt_lt, Int32.le_iff_toInt_le, ← Int32.toInt_inj, Int32.reduceToInt, n_1, n_2, n_8, Int32.toNatClampNeg, Int64.lt_iff_toInt_lt, Int64.le_iff_toInt_le, ← Int64.toInt_inj, Int64.reduceToInt, Int32.toInt_toInt64, lg_cmp_ge, lg_cmp_le, lg_cmp_gt, lg_cmp_lt, lg_cmp_eq, Bool.false_eq_true, Bool.true_eq_false, reduceCtorEq, false_iff, true_iff, iff_true, iff_false, and_true, true_and, and_false, false_and, reduceIte, ite_true, ite_false, eq_self] at *)) <;> omega) ?_
                refine wa_top (fun v10 hv10 => ?_)
                have tv10 := i_remU hv10
                clear hv10
                refine wa_iload rfl ?_
                refine wa_iadd ?_
                refine wa_top (fun v11 hv11 => ?_)
                have tv11 := i_addT hv11
                clear hv11
                refine wa_i2l ?_
                refine wa_iload rfl ?_
                refine wa_i2l ?_
                refine wa_Sl (d9 := d - 1) [.long _, .long _] [] (sp_X12_rest G (d := d - 1) (by omega) σ _ _ (by ((try simp only [vp_in_iff, Int32.lt_iff_toInt_lt, Int32.le_iff_toInt_le, ← Int32.toInt_inj, Int32.reduceToInt, n_1, n_2, n_8, Int32.toNatClampNeg, Int64.lt_iff_toInt_lt, Int64.le_iff_toInt_le, ← Int64.toInt_inj, Int64.reduceToInt, Int32.toInt_toInt64, lg_cmp_ge, lg_cmp_le, lg_cmp_gt, lg_cmp_lt, lg_cmp_eq, Bool.false_eq_true, Bool.true_eq_false, reduceCtorEq, false_iff, true_iff, iff_true, iff_false, and_true, true_and, and_false, false_and, reduceIte, ite_true, ite_false, eq_self] at *)) <;> omega)) (rfl) rfl rfl (zr (by omega)) mk_X12_rest ml_12_768 (Nat.le_of_ble_eq_true rfl) (fun x13 s12 hs12 => ?_)
                obtain ⟨zs12, -⟩ := pL hs12
                subst zs12
                refine wa_lconst (v := 0) (by decide) ?_
                refine wa_lcmp ?_
                refine wa_top (fun v14 hv14 => ?_)
                have tv14 := i_cmpT hv14
                clear hv14
                refine wa_if_ne o_X12_isSo_127 (by decide) (fun h15 => ?_) (fun h15 => ?_)
                · refine wa_iconst (v := 0) (by decide) ?_
                  refine wa_zreturn false (rfl) rfl rfl ?_
                  exact ⟨_, rfl, rfl, trivial⟩
                · refine wa_iconst (v := 1) (by decide) ?_
                  refine wa_goto o_X12_isSo_128 (by decide) ?_
                  refine wa_zreturn true (rfl) rfl rfl ?_
                  exact ⟨_, rfl, rfl, trivial⟩
          · refine wa_iload rfl ?_
            refine wa_iload_n (i := 2) rfl rfl ?_
            refine wa_icmp_gt o_X12_isSo_93 (by decide) (fun h16 => ?_) (fun h16 => ?_)
            · refine wa_iconst (v := 0) (by decide) ?_
              refine wa_zreturn false (rfl) rfl rfl ?_
              exact ⟨_, rfl, rfl, trivial⟩
            · refine wa_iconst (v := 1) (by decide) ?_
              refine wa_goto o_X12_isSo_94 (by decide) ?_
              refine wa_zreturn true (rfl) rfl rfl ?_
              exact ⟨_, rfl, rfl, trivial⟩
        · have mh5 := nle_mx h5
          refine wa_iload rfl ?_
          refine wa_iload_n (i := 3) rfl rfl ?_
          refine wa_iload rfl ?_
          refine wa_ishr ?_
          refine wa_top (fun v17 hv17 => ?_)
          clear hv17
          refine wa_iconst (v := 1) (by decide) ?_
          refine wa_iand ?_
          refine wa_top (fun v18 hv18 => ?_)
          have tv18 := i_andT hv18
          clear hv18
          refine wa_iconst (v := 1) (by decide) ?_
          refine wa_icmp_ne o_X12_isSo_64 (by decide) (fun h19 => ?_) (fun h19 => ?_)
          · refine wa_iconst (v := 0) (by decide) ?_
            refine wa_isub ?_
            refine wa_top (fun v20 hv20 => ?_)
            have tv20 := i_subT hv20
            clear hv20
            refine wa_istoreD (lv' := [(4, .int v20), (0, .ref 84), (1, .int a0), (2, .int a1), (3, .int a2), (5, .int 1), (6, .int l6)]) (by decide) rfl ?_
            refine wa_iinc (v := (1)) (lv' := fun y21 => [(6, .int y21), (4, .int v20), (0, .ref 84), (1, .int a0), (2, .int a1), (3, .int a2), (5, .int 1)]) (by decide) rfl (by decide) (fun _ => rfl) (fun y21 hy21 => ?_)
            have ty21 := i_addT hy21.symm
            clear hy21
            refine wa_goto o_X12_isSo_29 (by decide) ?_
            refine wa_pick [2, 3, 4, 5, 1, 6, 0] rfl ?_
            exact ih3 _ (by ((try simp only [vp_in_iff, Int32.lt_iff_toInt_lt, Int32.le_iff_toInt_le, ← Int32.toInt_inj, Int32.reduceToInt, n_1, n_2, n_8, Int32.toNatClampNeg, Int64.lt_iff_toInt_lt, Int64.le_iff_toInt_le, ← Int64.toInt_inj, Int64.reduceToInt, Int32.toInt_toInt64, lg_cmp_ge, lg_cmp_le, lg_cmp_gt, lg_cmp_lt, lg_cmp_eq, Bool.false_eq_true, Bool.true_eq_false, reduceCtorEq, false_iff, true_iff, iff_true, iff_false, and_true, true_and, and_false, false_and, reduceIte, ite_true, ite_false, eq_self] at *)) <;> omega) _ _ ⟨(by ((try simp only [vp_in_iff, Int32.lt_iff_toInt_lt, Int32.le_iff_toInt_le, ← Int32.toInt_inj, Int32.reduceToInt, n_1, n_2, n_8, Int32.toNatClampNeg, Int64.lt_iff_toInt_lt, Int64.le_iff_toInt_le, ← Int64.toInt_inj, Int64.reduceToInt, Int32.toInt_toInt64, lg_cmp_ge, lg_cmp_le, lg_cmp_gt, lg_cmp_lt, lg_cmp_eq, Bool.false_eq_true, Bool.true_eq_false, reduceCtorEq, false_iff, true_iff, iff_true, iff_false, and_true, true_and, and_false, false_and, reduceIte, ite_true, ite_false, eq_self] at *)) <;> omega), trivial⟩ rfl
          · refine wa_aload_n (i := 0) rfl rfl ?_
            refine wa_getr ck_12 fl_12_292 ly_84 rf_84_116 ?_
            refine wa_iconst (v := 4) (by decide) ?_
            refine wa_iload_n (i := 1) rfl rfl ?_
            refine wa_imul ?_
            refine wa_top (fun v22 hv22 => ?_)
            have tv22 := i_mulT hv22
            clear hv22
            refine wa_iload rfl ?_
            refine wa_iadd ?_
            refine wa_top (fun v23 hv23 => ?_)
            have tv23 := i_addT hv23
            clear hv23
            refine wa_iald ly_137 (by ((try simp only [vp_in_iff, Int32.lt_iff_toInt_lt, Int32.le_iff_toInt_le, ← Int32.toInt_inj, Int32.reduceToInt, n_1, n_2, n_8, Int32.toNatClampNeg, Int64.lt_iff_toInt_lt, Int64.le_iff_toInt_le, ← Int64.toInt_inj, Int64.reduceToInt, Int32.toInt_toInt64, lg_cmp_ge, lg_cmp_le, lg_cmp_gt, lg_cmp_lt, lg_cmp_eq, Bool.false_eq_true, Bool.true_eq_false, reduceCtorEq, false_iff, true_iff, iff_true, iff_false, and_true, true_and, and_false, false_and, reduceIte, ite_true, ite_false, eq_self] at *)) <;> omega) ?_
            refine wa_top (fun v24 hv24 => ?_)
            have rv24 : -20 ≤ v24.toInt ∧ v24.toInt ≤ 20 := by rw [← hv24]; exact ar_at A_137 _
            clear hv24
            refine wa_goto o_X12_isSo_65 (by decide) ?_
            refine wa_isub ?_
            refine wa_top (fun v25 hv25 => ?_)
            have tv25 := i_subT hv25
            clear hv25
            refine wa_istoreD (lv' := [(4, .int v25), (0, .ref 84), (1, .int a0), (2, .int a1), (3, .int a2), (5, .int 1), (6, .int l6)]) (by decide) rfl ?_
            refine wa_iinc (v := (1)) (lv' := fun y26 => [(6, .int y26), (4, .int v25), (0, .ref 84), (1, .int a0), (2, .int a1), (3, .int a2), (5, .int 1)]) (by decide) rfl (by decide) (fun _ => rfl) (fun y26 hy26 => ?_)
            have ty26 := i_addT hy26.symm
            clear hy26
            refine wa_goto o_X12_isSo_29 (by decide) ?_
            refine wa_pick [2, 3, 4, 5, 1, 6, 0] rfl ?_
            exact ih3 _ (by ((try simp only [vp_in_iff, Int32.lt_iff_toInt_lt, Int32.le_iff_toInt_le, ← Int32.toInt_inj, Int32.reduceToInt, n_1, n_2, n_8, Int32.toNatClampNeg, Int64.lt_iff_toInt_lt, Int64.le_iff_toInt_le, ← Int64.toInt_inj, Int64.reduceToInt, Int32.toInt_toInt64, lg_cmp_ge, lg_cmp_le, lg_cmp_gt, lg_cmp_lt, lg_cmp_eq, Bool.false_eq_true, Bool.true_eq_false, reduceCtorEq, false_iff, true_iff, iff_true, iff_false, and_true, true_and, and_false, false_and, reduceIte, ite_true, ite_false, eq_self] at *)) <;> omega) _ _ ⟨(by ((try simp only [vp_in_iff, Int32.lt_iff_toInt_lt, Int32.le_iff_toInt_le, ← Int32.toInt_inj, Int32.reduceToInt, n_1, n_2, n_8, Int32.toNatClampNeg, Int64.lt_iff_toInt_lt, Int64.le_iff_toInt_le, ← Int64.toInt_inj, Int64.reduceToInt, Int32.toInt_toInt64, lg_cmp_ge, lg_cmp_le, lg_cmp_gt, lg_cmp_lt, lg_cmp_eq, Bool.false_eq_true, Bool.true_eq_false, reduceCtorEq, false_iff, true_iff, iff_true, iff_false, and_true, true_and, and_false, false_and, reduceIte, ite_true, ite_false, eq_self] at *)) <;> omega), trivial⟩ rfl
    exact hi4 _ _ _ ⟨(by ((try simp only [vp_in_iff, Int32.lt_iff_toInt_lt, Int32.le_iff_toInt_le, ← Int32.toInt_inj, Int32.reduceToInt, n_1, n_2, n_8, Int32.toNatClampNeg, Int64.lt_iff_toInt_lt, Int64.le_iff_toInt_le, ← Int64.toInt_inj, Int64.reduceToInt, Int32.toInt_toInt64, lg_cmp_ge, lg_cmp_le, lg_cmp_gt, lg_cmp_lt, lg_cmp_eq, Bool.false_eq_true, Bool.true_eq_false, reduceCtorEq, false_iff, true_iff, iff_true, iff_false, and_true, true_and, and_false, false_and, reduceIte, ite_true, ite_false, eq_self] at *)) <;> omega), trivial⟩ rfl
  · refine wa_iload_n (i := 2) rfl rfl ?_
    refine wa_if_lt o_X12_isSo_23 (by decide) (fun h27 => ?_) (fun h27 => ?_)
    · refine wa_iconst (v := 1) (by decide) ?_
      refine wa_istoreD (lv' := [(5, .int 1), (4, .int 0), (0, .ref 84), (1, .int a0), (2, .int a1), (3, .int a2)]) (by decide) rfl ?_
      refine wa_iconst (v := 0) (by decide) ?_
      refine wa_istoreD (lv' := [(6, .int 0), (5, .int 1), (4, .int 0), (0, .ref 84), (1, .int a0), (2, .int a1), (3, .int a2)]) (by decide) rfl ?_
      refine wa_pick [3, 4, 5, 6, 2, 1, 0] rfl ?_
      have hi29 : ∀ (n9_29 : Nat) (l4 : Int32) (l6 : Int32), ((0 ≤ l6.toInt) ∧ (True)) → (2147483647 - l6.toInt).toNat = n9_29 → WA G M_X12_isSo (ZM G M_X12_isSo d (fun r σ' => ∃ x : Bool, r = some (.int (bI x)) ∧ σ = σ' ∧ True)) B_X12_isSo_29 [(0, .ref 84), (1, .int a0), (2, .int a1), (3, .int a2), (4, .int l4), (5, .int 1), (6, .int l6)] [] σ := by
        intro n9_29
        induction n9_29 using Nat.strongRecOn with
        | _ n9_29 ih28 =>
          intro l4 l6  i9 m9_29
          obtain ⟨jhi29_0, -⟩ := i9
          have ul4 := Int32.toInt_lt l4
          have wl4 := Int32.le_toInt l4
          have ul6 := Int32.toInt_lt l6
          have wl6 := Int32.le_toInt l6
          refine wa_iload rfl ?_
          refine wa_aload_n (i := 0) rfl rfl ?_
          refine wa_geti ck_12 fl_12_815 ly_84 ?_
          refine wa_icmp_ge o_X12_isSo_74 (by decide) (fun h30 => ?_) (fun h30 => ?_)
          · refine wa_aload_n (i := 0) rfl rfl ?_
            refine wa_getr ck_12 fl_12_298 ly_84 rf_84_118 ?_
            refine wa_iload_n (i := 1) rfl rfl ?_
            refine wa_iald ly_135 (by ((try simp only [vp_in_iff, Int32.lt_iff_toInt_lt, Int32.le_iff_toInt_le, ← Int32.toInt_inj, Int32.reduceToInt, n_1, n_2, n_8, Int32.toNatClampNeg, Int64.lt_iff_toInt_lt, Int64.le_iff_toInt_le, ← Int64.toInt_inj, Int64.reduceToInt, Int32.toInt_toInt64, lg_cmp_ge, lg_cmp_le, lg_cmp_gt, lg_cmp_lt, lg_cmp_eq, Bool.false_eq_true, Bool.true_eq_false, reduceCtorEq, false_iff, true_iff, iff_true, iff_false, and_true, true_and, and_false, false_and, reduceIte, ite_true, ite_false, eq_self] at *)) <;> omega) ?_
            refine wa_top (fun v31 hv31 => ?_)
            have rv31 : 0 ≤ v31.toInt ∧ v31.toInt ≤ 12 := by rw [← hv31]; exact ar_at A_135 _
            have qv31 := hv31
            clear hv31
            refine wa_if_ne o_X12_isSo_95 (by decide) (fun h32 => ?_) (fun h32 => ?_)
            · refine wa_iload_n (i := 2) rfl rfl ?_
              refine wa_iconst (v := (-1)) (by decide) ?_
              refine wa_icmp_eq o_X12_isSo_123 (by decide) (fun h33 => ?_) (fun h33 => ?_)
              · refine wa_iconst (v := 1) (by decide) ?_
                refine wa_goto o_X12_isSo_128 (by decide) ?_
                refine wa_zreturn true (rfl) rfl rfl ?_
                exact ⟨_, rfl, rfl, trivial⟩
              · refine wa_iload_n (i := 2) rfl rfl ?_
                refine wa_if_lt o_X12_isSo_127 (by decide) (fun h34 => ?_) (fun h34 => ?_)
                · refine wa_iconst (v := 0) (by decide) ?_
                  refine wa_zreturn false (rfl) rfl rfl ?_
                  exact ⟨_, rfl, rfl, trivial⟩
                · refine wa_iload_n (i := 2) rfl rfl ?_
                  refine wa_bipush (v := 16) (by decide) ?_
                  refine wa_irem (by ((try simp only [vp_in_iff, Int32.lt_iff_toInt_lt, Int32.le_iff_toInt_le, ← Int32.toInt_inj, Int32.reduceToInt, n_1, n_2, n_8, Int32.toNatClampNeg, Int64.lt_iff_toInt_lt, Int64.le_iff_toInt_le, ← Int64.toInt_inj, Int64.reduceToInt, Int32.toInt_toInt64, lg_cmp_ge, lg_cmp_le, lg_cmp_gt, lg_cmp_lt, lg_cmp_eq, Bool.false_eq_true, Bool.true_eq_false, reduceCtorEq, false_iff, true_iff, iff_true, iff_false, and_true, true_and, and_false, false_and, reduceIte, ite_true, ite_false, eq_self] at *)) <;> omega) ?_
                  refine wa_top (fun v35 hv35 => ?_)
                  have tv35 := i_remU hv35
                  clear hv35
                  refine wa_iload rfl ?_
                  refine wa_iadd ?_
                  refine wa_top (fun v36 hv36 => ?_)
                  have tv36 := i_addT hv36
                  clear hv36
                  refine wa_i2l ?_
                  refine wa_iload rfl ?_
                  refine wa_i2l ?_
                  refine wa_Sl (d9 := d - 1) [.long _, .long _] [] (sp_X12_rest G (d := d - 1) (by omega) σ _ _ (by ((try simp only [vp_in_iff, Int32.lt_iff_toInt_lt, Int32.le_iff_toInt_le, ← Int32.toInt_inj, Int32.reduceToInt, n_1, n_2, n_8, Int32.toNatClampNeg, Int64.lt_iff_toInt_lt, Int64.le_iff_toInt_le, ← Int64.toInt_inj, Int64.reduceToInt, Int32.toInt_toInt64, lg_cmp_ge, lg_cmp_le, lg_cmp_gt, lg_cmp_lt, lg_cmp_eq, Bool.false_eq_true, Bool.true_eq_false, reduceCtorEq, false_iff, true_iff, iff_true, iff_false, and_true, true_and, and_false, false_and, reduceIte, ite_true, ite_false, eq_self] at *)) <;> omega)) (rfl) rfl rfl (zr (by omega)) mk_X12_rest ml_12_768 (Nat.le_of_ble_eq_true rfl) (fun x38 s37 hs37 => ?_)
                  obtain ⟨zs37, -⟩ := pL hs37
                  subst zs37
                  refine wa_lconst (v := 0) (by decide) ?_
                  refine wa_lcmp ?_
                  refine wa_top (fun v39 hv39 => ?_)
                  have tv39 := i_cmpT hv39
                  clear hv39
                  refine wa_if_ne o_X12_isSo_127 (by decide) (fun h40 => ?_) (fun h40 => ?_)
                  · refine wa_iconst (v := 0) (by decide) ?_
                    refine wa_zreturn false (rfl) rfl rfl ?_
                    exact ⟨_, rfl, rfl, trivial⟩
                  · refine wa_iconst (v := 1) (by decide) ?_
                    refine wa_goto o_X12_isSo_128 (by decide) ?_
                    refine wa_zreturn true (rfl) rfl rfl ?_
                    exact ⟨_, rfl, rfl, trivial⟩
            · refine wa_iload rfl ?_
              refine wa_iload_n (i := 2) rfl rfl ?_
              refine wa_icmp_gt o_X12_isSo_93 (by decide) (fun h41 => ?_) (fun h41 => ?_)
              · refine wa_iconst (v := 0) (by decide) ?_
                refine wa_zreturn false (rfl) rfl rfl ?_
                exact ⟨_, rfl, rfl, trivial⟩
              · refine wa_iconst (v := 1) (by decide) ?_
                refine wa_goto o_X12_isSo_94 (by decide) ?_
                refine wa_zreturn true (rfl) rfl rfl ?_
                exact ⟨_, rfl, rfl, trivial⟩
          · have mh30 := nle_mx h30
            refine wa_iload rfl ?_
            refine wa_iload_n (i := 3) rfl rfl ?_
            refine wa_iload rfl ?_
            refine wa_ishr ?_
            refine wa_top (fun v42 hv42 => ?_)
            clear hv42
            refine wa_iconst (v := 1) (by decide) ?_
            refine wa_iand ?_
            refine wa_top (fun v43 hv43 => ?_)
            have tv43 := i_andT hv43
            clear hv43
            refine wa_iconst (v := 1) (by decide) ?_
            refine wa_icmp_ne o_X12_isSo_64 (by decide) (fun h44 => ?_) (fun h44 => ?_)
            · refine wa_iconst (v := 0) (by decide) ?_
              refine wa_isub ?_
              refine wa_top (fun v45 hv45 => ?_)
              have tv45 := i_subT hv45
              clear hv45
              refine wa_istoreD (lv' := [(4, .int v45), (0, .ref 84), (1, .int a0), (2, .int a1), (3, .int a2), (5, .int 1), (6, .int l6)]) (by decide) rfl ?_
              refine wa_iinc (v := (1)) (lv' := fun y46 => [(6, .int y46), (4, .int v45), (0, .ref 84), (1, .int a0), (2, .int a1), (3, .int a2), (5, .int 1)]) (by decide) rfl (by decide) (fun _ => rfl) (fun y46 hy46 => ?_)
              have ty46 := i_addT hy46.symm
              clear hy46
              refine wa_goto o_X12_isSo_29 (by decide) ?_
              refine wa_pick [2, 3, 4, 5, 1, 6, 0] rfl ?_
              exact ih28 _ (by ((try simp only [vp_in_iff, Int32.lt_iff_toInt_lt, Int32.le_iff_toInt_le, ← Int32.toInt_inj, Int32.reduceToInt, n_1, n_2, n_8, Int32.toNatClampNeg, Int64.lt_iff_toInt_lt, Int64.le_iff_toInt_le, ← Int64.toInt_inj, Int64.reduceToInt, Int32.toInt_toInt64, lg_cmp_ge, lg_cmp_le, lg_cmp_gt, lg_cmp_lt, lg_cmp_eq, Bool.false_eq_true, Bool.true_eq_false, reduceCtorEq, false_iff, true_iff, iff_true, iff_false, and_true, true_and, and_false, false_and, reduceIte, ite_true, ite_false, eq_self] at *)) <;> omega) _ _ ⟨(by ((try simp only [vp_in_iff, Int32.lt_iff_toInt_lt, Int32.le_iff_toInt_le, ← Int32.toInt_inj, Int32.reduceToInt, n_1, n_2, n_8, Int32.toNatClampNeg, Int64.lt_iff_toInt_lt, Int64.le_iff_toInt_le, ← Int64.toInt_inj, Int64.reduceToInt, Int32.toInt_toInt64, lg_cmp_ge, lg_cmp_le, lg_cmp_gt, lg_cmp_lt, lg_cmp_eq, Bool.false_eq_true, Bool.true_eq_false, reduceCtorEq, false_iff, true_iff, iff_true, iff_false, and_true, true_and, and_false, false_and, reduceIte, ite_true, ite_false, eq_self] at *)) <;> omega), trivial⟩ rfl
            · refine wa_aload_n (i := 0) rfl rfl ?_
              refine wa_getr ck_12 fl_12_292 ly_84 rf_84_116 ?_
              refine wa_iconst (v := 4) (by decide) ?_
              refine wa_iload_n (i := 1) rfl rfl ?_
              refine wa_imul ?_
              refine wa_top (fun v47 hv47 => ?_)
              have tv47 := i_mulT hv47
              clear hv47
              refine wa_iload rfl ?_
              refine wa_iadd ?_
              refine wa_top (fun v48 hv48 => ?_)
              have tv48 := i_addT hv48
              clear hv48
              refine wa_iald ly_137 (by ((try simp only [vp_in_iff, Int32.lt_iff_toInt_lt, Int32.le_iff_toInt_le, ← Int32.toInt_inj, Int32.reduceToInt, n_1, n_2, n_8, Int32.toNatClampNeg, Int64.lt_iff_toInt_lt, Int64.le_iff_toInt_le, ← Int64.toInt_inj, Int64.reduceToInt, Int32.toInt_toInt64, lg_cmp_ge, lg_cmp_le, lg_cmp_gt, lg_cmp_lt, lg_cmp_eq, Bool.false_eq_true, Bool.true_eq_false, reduceCtorEq, false_iff, true_iff, iff_true, iff_false, and_true, true_and, and_false, false_and, reduceIte, ite_true, ite_false, eq_self] at *)) <;> omega) ?_
              refine wa_top (fun v49 hv49 => ?_)
              have rv49 : -20 ≤ v49.toInt ∧ v49.toInt ≤ 20 := by rw [← hv49]; exact ar_at A_137 _
              clear hv49
              refine wa_goto o_X12_isSo_65 (by decide) ?_
              refine wa_isub ?_
              refine wa_top (fun v50 hv50 => ?_)
              have tv50 := i_subT hv50
              clear hv50
              refine wa_istoreD (lv' := [(4, .int v50), (0, .ref 84), (1, .int a0), (2, .int a1), (3, .int a2), (5, .int 1), (6, .int l6)]) (by decide) rfl ?_
              refine wa_iinc (v := (1)) (lv' := fun y51 => [(6, .int y51), (4, .int v50), (0, .ref 84), (1, .int a0), (2, .int a1), (3, .int a2), (5, .int 1)]) (by decide) rfl (by decide) (fun _ => rfl) (fun y51 hy51 => ?_)
              have ty51 := i_addT hy51.symm
              clear hy51
              refine wa_goto o_X12_isSo_29 (by decide) ?_
              refine wa_pick [2, 3, 4, 5, 1, 6, 0] rfl ?_
              exact ih28 _ (by ((try simp only [vp_in_iff, Int32.lt_iff_toInt_lt, Int32.le_iff_toInt_le, ← Int32.toInt_inj, Int32.reduceToInt, n_1, n_2, n_8, Int32.toNatClampNeg, Int64.lt_iff_toInt_lt, Int64.le_iff_toInt_le, ← Int64.toInt_inj, Int64.reduceToInt, Int32.toInt_toInt64, lg_cmp_ge, lg_cmp_le, lg_cmp_gt, lg_cmp_lt, lg_cmp_eq, Bool.false_eq_true, Bool.true_eq_false, reduceCtorEq, false_iff, true_iff, iff_true, iff_false, and_true, true_and, and_false, false_and, reduceIte, ite_true, ite_false, eq_self] at *)) <;> omega) _ _ ⟨(by ((try simp only [vp_in_iff, Int32.lt_iff_toInt_lt, Int32.le_iff_toInt_le, ← Int32.toInt_inj, Int32.reduceToInt, n_1, n_2, n_8, Int32.toNatClampNeg, Int64.lt_iff_toInt_lt, Int64.le_iff_toInt_le, ← Int64.toInt_inj, Int64.reduceToInt, Int32.toInt_toInt64, lg_cmp_ge, lg_cmp_le, lg_cmp_gt, lg_cmp_lt, lg_cmp_eq, Bool.false_eq_true, Bool.true_eq_false, reduceCtorEq, false_iff, true_iff, iff_true, iff_false, and_true, true_and, and_false, false_and, reduceIte, ite_true, ite_false, eq_self] at *)) <;> omega), trivial⟩ rfl
      exact hi29 _ _ _ ⟨(by ((try simp only [vp_in_iff, Int32.lt_iff_toInt_lt, Int32.le_iff_toInt_le, ← Int32.toInt_inj, Int32.reduceToInt, n_1, n_2, n_8, Int32.toNatClampNeg, Int64.lt_iff_toInt_lt, Int64.le_iff_toInt_le, ← Int64.toInt_inj, Int64.reduceToInt, Int32.toInt_toInt64, lg_cmp_ge, lg_cmp_le, lg_cmp_gt, lg_cmp_lt, lg_cmp_eq, Bool.false_eq_true, Bool.true_eq_false, reduceCtorEq, false_iff, true_iff, iff_true, iff_false, and_true, true_and, and_false, false_and, reduceIte, ite_true, ite_false, eq_self] at *)) <;> omega), trivial⟩ rfl
    · refine wa_iload_n (i := 2) rfl rfl ?_
      refine wa_bipush (v := 16) (by decide) ?_
      refine wa_idiv (by ((try simp only [vp_in_iff, Int32.lt_iff_toInt_lt, Int32.le_iff_toInt_le, ← Int32.toInt_inj, Int32.reduceToInt, n_1, n_2, n_8, Int32.toNatClampNeg, Int64.lt_iff_toInt_lt, Int64.le_iff_toInt_le, ← Int64.toInt_inj, Int64.reduceToInt, Int32.toInt_toInt64, lg_cmp_ge, lg_cmp_le, lg_cmp_gt, lg_cmp_lt, lg_cmp_eq, Bool.false_eq_true, Bool.true_eq_false, reduceCtorEq, false_iff, true_iff, iff_true, iff_false, and_true, true_and, and_false, false_and, reduceIte, ite_true, ite_false, eq_self] at *)) <;> omega) ?_
      refine wa_top (fun v52 hv52 => ?_)
      have tv52 := i_divU hv52
      clear hv52
      refine wa_goto o_X12_isSo_24 (by decide) ?_
      refine wa_istoreD (lv' := [(5, .int v52), (4, .int 0), (0, .ref 84), (1, .int a0), (2, .int a1), (3, .int a2)]) (by decide) rfl ?_
      refine wa_iconst (v := 0) (by decide) ?_
      refine wa_istoreD (lv' := [(6, .int 0), (5, .int v52), (4, .int 0), (0, .ref 84), (1, .int a0), (2, .int a1), (3, .int a2)]) (by decide) rfl ?_
      refine wa_pick [3, 4, 5, 6, 2, 1, 0] rfl ?_
      have hi54 : ∀ (n9_29 : Nat) (l4 : Int32) (l6 : Int32), ((0 ≤ l6.toInt) ∧ (True)) → (2147483647 - l6.toInt).toNat = n9_29 → WA G M_X12_isSo (ZM G M_X12_isSo d (fun r σ' => ∃ x : Bool, r = some (.int (bI x)) ∧ σ = σ' ∧ True)) B_X12_isSo_29 [(0, .ref 84), (1, .int a0), (2, .int a1), (3, .int a2), (4, .int l4), (5, .int v52), (6, .int l6)] [] σ := by
        intro n9_29
        induction n9_29 using Nat.strongRecOn with
        | _ n9_29 ih53 =>
          intro l4 l6  i9 m9_29
          obtain ⟨jhi54_0, -⟩ := i9
          have ul4 := Int32.toInt_lt l4
          have wl4 := Int32.le_toInt l4
          have ul6 := Int32.toInt_lt l6
          have wl6 := Int32.le_toInt l6
          refine wa_iload rfl ?_
          refine wa_aload_n (i := 0) rfl rfl ?_
          refine wa_geti ck_12 fl_12_815 ly_84 ?_
          refine wa_icmp_ge o_X12_isSo_74 (by decide) (fun h55 => ?_) (fun h55 => ?_)
          · refine wa_aload_n (i := 0) rfl rfl ?_
            refine wa_getr ck_12 fl_12_298 ly_84 rf_84_118 ?_
            refine wa_iload_n (i := 1) rfl rfl ?_
            refine wa_iald ly_135 (by ((try simp only [vp_in_iff, Int32.lt_iff_toInt_lt, Int32.le_iff_toInt_le, ← Int32.toInt_inj, Int32.reduceToInt, n_1, n_2, n_8, Int32.toNatClampNeg, Int64.lt_iff_toInt_lt, Int64.le_iff_toInt_le, ← Int64.toInt_inj, Int64.reduceToInt, Int32.toInt_toInt64, lg_cmp_ge, lg_cmp_le, lg_cmp_gt, lg_cmp_lt, lg_cmp_eq, Bool.false_eq_true, Bool.true_eq_false, reduceCtorEq, false_iff, true_iff, iff_true, iff_false, and_true, true_and, and_false, false_and, reduceIte, ite_true, ite_false, eq_self] at *)) <;> omega) ?_
            refine wa_top (fun v56 hv56 => ?_)
            have rv56 : 0 ≤ v56.toInt ∧ v56.toInt ≤ 12 := by rw [← hv56]; exact ar_at A_135 _
            have qv56 := hv56
            clear hv56
            refine wa_if_ne o_X12_isSo_95 (by decide) (fun h57 => ?_) (fun h57 => ?_)
            · refine wa_iload_n (i := 2) rfl rfl ?_
              refine wa_iconst (v := (-1)) (by decide) ?_
              refine wa_icmp_eq o_X12_isSo_123 (by decide) (fun h58 => ?_) (fun h58 => ?_)
              · refine wa_iconst (v := 1) (by decide) ?_
                refine wa_goto o_X12_isSo_128 (by decide) ?_
                refine wa_zreturn true (rfl) rfl rfl ?_
                exact ⟨_, rfl, rfl, trivial⟩
              · refine wa_iload_n (i := 2) rfl rfl ?_
                refine wa_if_lt o_X12_isSo_127 (by decide) (fun h59 => ?_) (fun h59 => ?_)
                · refine wa_iconst (v := 0) (by decide) ?_
                  refine wa_zreturn false (rfl) rfl rfl ?_
                  exact ⟨_, rfl, rfl, trivial⟩
                · refine wa_iload_n (i := 2) rfl rfl ?_
                  refine wa_bipush (v := 16) (by decide) ?_
                  refine wa_irem (by ((try simp only [vp_in_iff, Int32.lt_iff_toInt_lt, Int32.le_iff_toInt_le, ← Int32.toInt_inj, Int32.reduceToInt, n_1, n_2, n_8, Int32.toNatClampNeg, Int64.lt_iff_toInt_lt, Int64.le_iff_toInt_le, ← Int64.toInt_inj, Int64.reduceToInt, Int32.toInt_toInt64, lg_cmp_ge, lg_cmp_le, lg_cmp_gt, lg_cmp_lt, lg_cmp_eq, Bool.false_eq_true, Bool.true_eq_false, reduceCtorEq, false_iff, true_iff, iff_true, iff_false, and_true, true_and, and_false, false_and, reduceIte, ite_true, ite_false, eq_self] at *)) <;> omega) ?_
                  refine wa_top (fun v60 hv60 => ?_)
                  have tv60 := i_remU hv60
                  clear hv60
                  refine wa_iload rfl ?_
                  refine wa_iadd ?_
                  refine wa_top (fun v61 hv61 => ?_)
                  have tv61 := i_addT hv61
                  clear hv61
                  refine wa_i2l ?_
                  refine wa_iload rfl ?_
                  refine wa_i2l ?_
                  refine wa_Sl (d9 := d - 1) [.long _, .long _] [] (sp_X12_rest G (d := d - 1) (by omega) σ _ _ (by ((try simp only [vp_in_iff, Int32.lt_iff_toInt_lt, Int32.le_iff_toInt_le, ← Int32.toInt_inj, Int32.reduceToInt, n_1, n_2, n_8, Int32.toNatClampNeg, Int64.lt_iff_toInt_lt, Int64.le_iff_toInt_le, ← Int64.toInt_inj, Int64.reduceToInt, Int32.toInt_toInt64, lg_cmp_ge, lg_cmp_le, lg_cmp_gt, lg_cmp_lt, lg_cmp_eq, Bool.false_eq_true, Bool.true_eq_false, reduceCtorEq, false_iff, true_iff, iff_true, iff_false, and_true, true_and, and_false, false_and, reduceIte, ite_true, ite_false, eq_self] at *)) <;> omega)) (rfl) rfl rfl (zr (by omega)) mk_X12_rest ml_12_768 (Nat.le_of_ble_eq_true rfl) (fun x63 s62 hs62 => ?_)
                  obtain ⟨zs62, -⟩ := pL hs62
                  subst zs62
                  refine wa_lconst (v := 0) (by decide) ?_
                  refine wa_lcmp ?_
                  refine wa_top (fun v64 hv64 => ?_)
                  have tv64 := i_cmpT hv64
                  clear hv64
                  refine wa_if_ne o_X12_isSo_127 (by decide) (fun h65 => ?_) (fun h65 => ?_)
                  · refine wa_iconst (v := 0) (by decide) ?_
                    refine wa_zreturn false (rfl) rfl rfl ?_
                    exact ⟨_, rfl, rfl, trivial⟩
                  · refine wa_iconst (v := 1) (by decide) ?_
                    refine wa_goto o_X12_isSo_128 (by decide) ?_
                    refine wa_zreturn true (rfl) rfl rfl ?_
                    exact ⟨_, rfl, rfl, trivial⟩
            · refine wa_iload rfl ?_
              refine wa_iload_n (i := 2) rfl rfl ?_
              refine wa_icmp_gt o_X12_isSo_93 (by decide) (fun h66 => ?_) (fun h66 => ?_)
              · refine wa_iconst (v := 0) (by decide) ?_
                refine wa_zreturn false (rfl) rfl rfl ?_
                exact ⟨_, rfl, rfl, trivial⟩
              · refine wa_iconst (v := 1) (by decide) ?_
                refine wa_goto o_X12_isSo_94 (by decide) ?_
                refine wa_zreturn true (rfl) rfl rfl ?_
                exact ⟨_, rfl, rfl, trivial⟩
          · have mh55 := nle_mx h55
            refine wa_iload rfl ?_
            refine wa_iload_n (i := 3) rfl rfl ?_
            refine wa_iload rfl ?_
            refine wa_ishr ?_
            refine wa_top (fun v67 hv67 => ?_)
            clear hv67
            refine wa_iconst (v := 1) (by decide) ?_
            refine wa_iand ?_
            refine wa_top (fun v68 hv68 => ?_)
            have tv68 := i_andT hv68
            clear hv68
            refine wa_iconst (v := 1) (by decide) ?_
            refine wa_icmp_ne o_X12_isSo_64 (by decide) (fun h69 => ?_) (fun h69 => ?_)
            · refine wa_iconst (v := 0) (by decide) ?_
              refine wa_isub ?_
              refine wa_top (fun v70 hv70 => ?_)
              have tv70 := i_subT hv70
              clear hv70
              refine wa_istoreD (lv' := [(4, .int v70), (0, .ref 84), (1, .int a0), (2, .int a1), (3, .int a2), (5, .int v52), (6, .int l6)]) (by decide) rfl ?_
              refine wa_iinc (v := (1)) (lv' := fun y71 => [(6, .int y71), (4, .int v70), (0, .ref 84), (1, .int a0), (2, .int a1), (3, .int a2), (5, .int v52)]) (by decide) rfl (by decide) (fun _ => rfl) (fun y71 hy71 => ?_)
              have ty71 := i_addT hy71.symm
              clear hy71
              refine wa_goto o_X12_isSo_29 (by decide) ?_
              refine wa_pick [2, 3, 4, 5, 1, 6, 0] rfl ?_
              exact ih53 _ (by ((try simp only [vp_in_iff, Int32.lt_iff_toInt_lt, Int32.le_iff_toInt_le, ← Int32.toInt_inj, Int32.reduceToInt, n_1, n_2, n_8, Int32.toNatClampNeg, Int64.lt_iff_toInt_lt, Int64.le_iff_toInt_le, ← Int64.toInt_inj, Int64.reduceToInt, Int32.toInt_toInt64, lg_cmp_ge, lg_cmp_le, lg_cmp_gt, lg_cmp_lt, lg_cmp_eq, Bool.false_eq_true, Bool.true_eq_false, reduceCtorEq, false_iff, true_iff, iff_true, iff_false, and_true, true_and, and_false, false_and, reduceIte, ite_true, ite_false, eq_self] at *)) <;> omega) _ _ ⟨(by ((try simp only [vp_in_iff, Int32.lt_iff_toInt_lt, Int32.le_iff_toInt_le, ← Int32.toInt_inj, Int32.reduceToInt, n_1, n_2, n_8, Int32.toNatClampNeg, Int64.lt_iff_toInt_lt, Int64.le_iff_toInt_le, ← Int64.toInt_inj, Int64.reduceToInt, Int32.toInt_toInt64, lg_cmp_ge, lg_cmp_le, lg_cmp_gt, lg_cmp_lt, lg_cmp_eq, Bool.false_eq_true, Bool.true_eq_false, reduceCtorEq, false_iff, true_iff, iff_true, iff_false, and_true, true_and, and_false, false_and, reduceIte, ite_true, ite_false, eq_self] at *)) <;> omega), trivial⟩ rfl
            · refine wa_aload_n (i := 0) rfl rfl ?_
              refine wa_getr ck_12 fl_12_292 ly_84 rf_84_116 ?_
              refine wa_iconst (v := 4) (by decide) ?_
              refine wa_iload_n (i := 1) rfl rfl ?_
              refine wa_imul ?_
              refine wa_top (fun v72 hv72 => ?_)
              have tv72 := i_mulT hv72
              clear hv72
              refine wa_iload rfl ?_
              refine wa_iadd ?_
              refine wa_top (fun v73 hv73 => ?_)
              have tv73 := i_addT hv73
              clear hv73
              refine wa_iald ly_137 (by ((try simp only [vp_in_iff, Int32.lt_iff_toInt_lt, Int32.le_iff_toInt_le, ← Int32.toInt_inj, Int32.reduceToInt, n_1, n_2, n_8, Int32.toNatClampNeg, Int64.lt_iff_toInt_lt, Int64.le_iff_toInt_le, ← Int64.toInt_inj, Int64.reduceToInt, Int32.toInt_toInt64, lg_cmp_ge, lg_cmp_le, lg_cmp_gt, lg_cmp_lt, lg_cmp_eq, Bool.false_eq_true, Bool.true_eq_false, reduceCtorEq, false_iff, true_iff, iff_true, iff_false, and_true, true_and, and_false, false_and, reduceIte, ite_true, ite_false, eq_self] at *)) <;> omega) ?_
              refine wa_top (fun v74 hv74 => ?_)
              have rv74 : -20 ≤ v74.toInt ∧ v74.toInt ≤ 20 := by rw [← hv74]; exact ar_at A_137 _
              clear hv74
              refine wa_goto o_X12_isSo_65 (by decide) ?_
              refine wa_isub ?_
              refine wa_top (fun v75 hv75 => ?_)
              have tv75 := i_subT hv75
              clear hv75
              refine wa_istoreD (lv' := [(4, .int v75), (0, .ref 84), (1, .int a0), (2, .int a1), (3, .int a2), (5, .int v52), (6, .int l6)]) (by decide) rfl ?_
              refine wa_iinc (v := (1)) (lv' := fun y76 => [(6, .int y76), (4, .int v75), (0, .ref 84), (1, .int a0), (2, .int a1), (3, .int a2), (5, .int v52)]) (by decide) rfl (by decide) (fun _ => rfl) (fun y76 hy76 => ?_)
              have ty76 := i_addT hy76.symm
              clear hy76
              refine wa_goto o_X12_isSo_29 (by decide) ?_
              refine wa_pick [2, 3, 4, 5, 1, 6, 0] rfl ?_
              exact ih53 _ (by ((try simp only [vp_in_iff, Int32.lt_iff_toInt_lt, Int32.le_iff_toInt_le, ← Int32.toInt_inj, Int32.reduceToInt, n_1, n_2, n_8, Int32.toNatClampNeg, Int64.lt_iff_toInt_lt, Int64.le_iff_toInt_le, ← Int64.toInt_inj, Int64.reduceToInt, Int32.toInt_toInt64, lg_cmp_ge, lg_cmp_le, lg_cmp_gt, lg_cmp_lt, lg_cmp_eq, Bool.false_eq_true, Bool.true_eq_false, reduceCtorEq, false_iff, true_iff, iff_true, iff_false, and_true, true_and, and_false, false_and, reduceIte, ite_true, ite_false, eq_self] at *)) <;> omega) _ _ ⟨(by ((try simp only [vp_in_iff, Int32.lt_iff_toInt_lt, Int32.le_iff_toInt_le, ← Int32.toInt_inj, Int32.reduceToInt, n_1, n_2, n_8, Int32.toNatClampNeg, Int64.lt_iff_toInt_lt, Int64.le_iff_toInt_le, ← Int64.toInt_inj, Int64.reduceToInt, Int32.toInt_toInt64, lg_cmp_ge, lg_cmp_le, lg_cmp_gt, lg_cmp_lt, lg_cmp_eq, Bool.false_eq_true, Bool.true_eq_false, reduceCtorEq, false_iff, true_iff, iff_true, iff_false, and_true, true_and, and_false, false_and, reduceIte, ite_true, ite_false, eq_self] at *)) <;> omega), trivial⟩ rfl
      exact hi54 _ _ _ ⟨(by ((try simp only [vp_in_iff, Int32.lt_iff_toInt_lt, Int32.le_iff_toInt_le, ← Int32.toInt_inj, Int32.reduceToInt, n_1, n_2, n_8, Int32.toNatClampNeg, Int64.lt_iff_toInt_lt, Int64.le_iff_toInt_le, ← Int64.toInt_inj, Int64.reduceToInt, Int32.toInt_toInt64, lg_cmp_ge, lg_cmp_le, lg_cmp_gt, lg_cmp_lt, lg_cmp_eq, Bool.false_eq_true, Bool.true_eq_false, reduceCtorEq, false_iff, true_iff, iff_true, iff_false, and_true, true_and, and_false, false_and, reduceIte, ite_true, ite_false, eq_self] at *)) <;> omega), trivial⟩ rfl
set_option maxHeartbeats 4000000 in
theorem sp_X12_isAnswer (G : kG9) {d : Nat} (hd : 0 ≤ d) (σ : St) (a0 : Int32) (a1 : Int32) (p1 : 0 ≤ a1.toInt ∧ a1.toInt < 26) (r1 : 0 ≤ (gi σ 84 33).toInt ∧ (gi σ 84 33).toInt ≤ 24) : Ct G M_X12_isAnswer d [.ref 84, .int a0, .int a1] σ (fun r σ' => ∃ x : Bool, r = some (.int (bI x)) ∧ σ = σ' ∧ True) := by
  refine wa_start (by decide) rfl (Nat.le_of_ble_eq_true rfl) (lv := [(0, .ref 84), (1, .int a0), (2, .int a1)]) rfl o_X12_isAnswer_0 rfl ?_
  have ua0 := Int32.toInt_lt a0
  have wa0 := Int32.le_toInt a0
  have ua1 := Int32.toInt_lt a1
  have wa1 := Int32.le_toInt a1
  refine wa_iload_n (i := 1) rfl rfl ?_
  refine wa_iconst (v := 2) (by decide) ?_
  refine wa_icmp_ne o_X12_isAnswer_12 (by decide) (fun h1 => ?_) (fun h1 => ?_)
  · refine wa_iconst (v := 1) (by decide) ?_
    refine wa_istore_nD (lv' := [(3, .int (bI true)), (0, .ref 84), (1, .int a0), (2, .int a1)]) (i := 3) rfl (by decide) rfl ?_
    refine wa_iconst (v := 0) (by decide) ?_
    refine wa_istoreD (lv' := [(4, .int 0), (3, .int (bI true)), (0, .ref 84), (1, .int a0), (2, .int a1)]) (by decide) rfl ?_
    refine wa_pick [2, 3, 4, 1, 0] rfl ?_
    have hi3 : ∀ (n9_17 : Nat) (l3 : Bool) (l4 : Int32), ((0 ≤ l4.toInt) ∧ (True)) → (2147483647 - l4.toInt).toNat = n9_17 → WA G M_X12_isAnswer (ZM G M_X12_isAnswer d (fun r σ' => ∃ x : Bool, r = some (.int (bI x)) ∧ σ = σ' ∧ True)) B_X12_isAnswer_17 [(0, .ref 84), (1, .int a0), (2, .int a1), (3, .int (bI l3)), (4, .int l4)] [] σ := by
      intro n9_17
      induction n9_17 using Nat.strongRecOn with
      | _ n9_17 ih2 =>
        intro l3 l4  i9 m9_17
        obtain ⟨jhi3_0, -⟩ := i9
        have ul4 := Int32.toInt_lt l4
        have wl4 := Int32.le_toInt l4
        refine wa_iload rfl ?_
        refine wa_aload_n (i := 0) rfl rfl ?_
        refine wa_geti ck_12 fl_12_818 ly_84 ?_
        refine wa_icmp_ge o_X12_isAnswer_72 (by decide) (fun h4 => ?_) (fun h4 => ?_)
        · refine wa_iload_n (i := 1) rfl rfl ?_
          refine wa_if_ne o_X12_isAnswer_80 (by decide) (fun h5 => ?_) (fun h5 => ?_)
          · refine wa_iload_n (i := 1) rfl rfl ?_
            refine wa_iconst (v := 1) (by decide) ?_
            refine wa_icmp_ne o_X12_isAnswer_106 (by decide) (fun h6 => ?_) (fun h6 => ?_)
            · refine wa_iload_n (i := 3) rfl rfl ?_
              refine wa_if_eq o_X12_isAnswer_123 (by decide) (fun h7 => ?_) (fun h7 => ?_)
              · replace h7 := bI_f (b := l3) (rfl) h7
                refine wa_iconst (v := 0) (by decide) ?_
                refine wa_zreturn false (rfl) rfl rfl ?_
                exact ⟨_, rfl, rfl, trivial⟩
              · replace h7 := bI_t (b := l3) (rfl) h7
                refine wa_aload_n (i := 0) rfl rfl ?_
                refine wa_getr ck_12 fl_12_310 ly_84 rf_84_123 ?_
                refine wa_iload_n (i := 2) rfl rfl ?_
                refine wa_zald ly_131 (by ((try simp only [vp_in_iff, Int32.lt_iff_toInt_lt, Int32.le_iff_toInt_le, ← Int32.toInt_inj, Int32.reduceToInt, n_1, n_2, n_8, Int32.toNatClampNeg, Int64.lt_iff_toInt_lt, Int64.le_iff_toInt_le, ← Int64.toInt_inj, Int64.reduceToInt, Int32.toInt_toInt64, lg_cmp_ge, lg_cmp_le, lg_cmp_gt, lg_cmp_lt, lg_cmp_eq, Bool.false_eq_true, Bool.true_eq_false, reduceCtorEq, false_iff, true_iff, iff_true, iff_false, and_true, true_and, and_false, false_and, reduceIte, ite_true, ite_false, eq_self] at *)) <;> omega) ?_
                refine wa_if_eq o_X12_isAnswer_123 (by decide) (fun h8 => ?_) (fun h8 => ?_)
                · replace h8 := bI_f (b := (gb σ 131 (a1).toNatClampNeg)) (rfl) h8
                  refine wa_iconst (v := 0) (by decide) ?_
                  refine wa_zreturn false (rfl) rfl rfl ?_
                  exact ⟨_, rfl, rfl, trivial⟩
                · replace h8 := bI_t (b := (gb σ 131 (a1).toNatClampNeg)) (rfl) h8
                  refine wa_iconst (v := 1) (by decide) ?_
                  refine wa_goto o_X12_isAnswer_124 (by decide) ?_
                  refine wa_zreturn true (rfl) rfl rfl ?_
                  exact ⟨_, rfl, rfl, trivial⟩
            · refine wa_iload_n (i := 3) rfl rfl ?_
              refine wa_if_eq o_X12_isAnswer_102 (by decide) (fun h9 => ?_) (fun h9 => ?_)
              · replace h9 := bI_f (b := l3) (rfl) h9
                refine wa_iconst (v := 0) (by decide) ?_
                refine wa_goto o_X12_isAnswer_124 (by decide) ?_
                refine wa_zreturn false (rfl) rfl rfl ?_
                exact ⟨_, rfl, rfl, trivial⟩
              · replace h9 := bI_t (b := l3) (rfl) h9
                refine wa_aload_n (i := 0) rfl rfl ?_
                refine wa_getr ck_12 fl_12_310 ly_84 rf_84_123 ?_
                refine wa_iload_n (i := 2) rfl rfl ?_
                refine wa_zald ly_131 (by ((try simp only [vp_in_iff, Int32.lt_iff_toInt_lt, Int32.le_iff_toInt_le, ← Int32.toInt_inj, Int32.reduceToInt, n_1, n_2, n_8, Int32.toNatClampNeg, Int64.lt_iff_toInt_lt, Int64.le_iff_toInt_le, ← Int64.toInt_inj, Int64.reduceToInt, Int32.toInt_toInt64, lg_cmp_ge, lg_cmp_le, lg_cmp_gt, lg_cmp_lt, lg_cmp_eq, Bool.false_eq_true, Bool.true_eq_false, reduceCtorEq, false_iff, true_iff, iff_true, iff_false, and_true, true_and, and_false, false_and, reduceIte, ite_true, ite_false, eq_self] at *)) <;> omega) ?_
                refine wa_if_ne o_X12_isAnswer_102 (by decide) (fun h10 => ?_) (fun h10 => ?_)
                · replace h10 := bI_t (b := (gb σ 131 (a1).toNatClampNeg)) (rfl) h10
                  refine wa_iconst (v := 0) (by decide) ?_
                  refine wa_goto o_X12_isAnswer_124 (by decide) ?_
                  refine wa_zreturn false (rfl) rfl rfl ?_
                  exact ⟨_, rfl, rfl, trivial⟩
                · replace h10 := bI_f (b := (gb σ 131 (a1).toNatClampNeg)) (rfl) h10
                  refine wa_iconst (v := 1) (by decide) ?_
                  refine wa_goto o_X12_isAnswer_124 (by decide) ?_
                  refine wa_zreturn true (rfl) rfl rfl ?_
                  exact ⟨_, rfl, rfl, trivial⟩
          · refine wa_iload_n (i := 3) rfl rfl ?_
            refine wa_goto o_X12_isAnswer_124 (by decide) ?_
            refine wa_zreturn l3 (rfl) rfl rfl ?_
            exact ⟨_, rfl, rfl, trivial⟩
        · have mh4 := nle_mx h4
          refine wa_iload_n (i := 3) rfl rfl ?_
          refine wa_if_eq o_X12_isAnswer_64 (by decide) (fun h11 => ?_) (fun h11 => ?_)
          · replace h11 := bI_f (b := l3) (rfl) h11
            refine wa_iconst (v := 0) (by decide) ?_
            refine wa_istore_nD (lv' := [(3, .int (bI false)), (0, .ref 84), (1, .int a0), (2, .int a1), (4, .int l4)]) (i := 3) rfl (by decide) rfl ?_
            refine wa_iinc (v := (1)) (lv' := fun y12 => [(4, .int y12), (3, .int (bI false)), (0, .ref 84), (1, .int a0), (2, .int a1)]) (by decide) rfl (by decide) (fun _ => rfl) (fun y12 hy12 => ?_)
            have ty12 := i_addT hy12.symm
            clear hy12
            refine wa_goto o_X12_isAnswer_17 (by decide) ?_
            refine wa_pick [2, 3, 4, 1, 0] rfl ?_
            exact ih2 _ (by ((try simp only [vp_in_iff, Int32.lt_iff_toInt_lt, Int32.le_iff_toInt_le, ← Int32.toInt_inj, Int32.reduceToInt, n_1, n_2, n_8, Int32.toNatClampNeg, Int64.lt_iff_toInt_lt, Int64.le_iff_toInt_le, ← Int64.toInt_inj, Int64.reduceToInt, Int32.toInt_toInt64, lg_cmp_ge, lg_cmp_le, lg_cmp_gt, lg_cmp_lt, lg_cmp_eq, Bool.false_eq_true, Bool.true_eq_false, reduceCtorEq, false_iff, true_iff, iff_true, iff_false, and_true, true_and, and_false, false_and, reduceIte, ite_true, ite_false, eq_self] at *)) <;> omega) _ _ ⟨(by ((try simp only [vp_in_iff, Int32.lt_iff_toInt_lt, Int32.le_iff_toInt_le, ← Int32.toInt_inj, Int32.reduceToInt, n_1, n_2, n_8, Int32.toNatClampNeg, Int64.lt_iff_toInt_lt, Int64.le_iff_toInt_le, ← Int64.toInt_inj, Int64.reduceToInt, Int32.toInt_toInt64, lg_cmp_ge, lg_cmp_le, lg_cmp_gt, lg_cmp_lt, lg_cmp_eq, Bool.false_eq_true, Bool.true_eq_false, reduceCtorEq, false_iff, true_iff, iff_true, iff_false, and_true, true_and, and_false, false_and, reduceIte, ite_true, ite_false, eq_self] at *)) <;> omega), trivial⟩ rfl
          · replace h11 := bI_t (b := l3) (rfl) h11
            refine wa_aload_n (i := 0) rfl rfl ?_
            refine wa_getr ck_12 fl_12_265 ly_84 rf_84_103 ?_
            refine wa_iload rfl ?_
            refine wa_zald ly_146 (by ((try simp only [vp_in_iff, Int32.lt_iff_toInt_lt, Int32.le_iff_toInt_le, ← Int32.toInt_inj, Int32.reduceToInt, n_1, n_2, n_8, Int32.toNatClampNeg, Int64.lt_iff_toInt_lt, Int64.le_iff_toInt_le, ← Int64.toInt_inj, Int64.reduceToInt, Int32.toInt_toInt64, lg_cmp_ge, lg_cmp_le, lg_cmp_gt, lg_cmp_lt, lg_cmp_eq, Bool.false_eq_true, Bool.true_eq_false, reduceCtorEq, false_iff, true_iff, iff_true, iff_false, and_true, true_and, and_false, false_and, reduceIte, ite_true, ite_false, eq_self] at *)) <;> omega) ?_
            refine wa_if_eq o_X12_isAnswer_60 (by decide) (fun h13 => ?_) (fun h13 => ?_)
            · replace h13 := bI_f (b := (gb σ 146 (l4).toNatClampNeg)) (rfl) h13
              refine wa_iconst (v := 1) (by decide) ?_
              refine wa_goto o_X12_isAnswer_65 (by decide) ?_
              refine wa_istore_nD (lv' := [(3, .int (bI true)), (0, .ref 84), (1, .int a0), (2, .int a1), (4, .int l4)]) (i := 3) rfl (by decide) rfl ?_
              refine wa_iinc (v := (1)) (lv' := fun y14 => [(4, .int y14), (3, .int (bI true)), (0, .ref 84), (1, .int a0), (2, .int a1)]) (by decide) rfl (by decide) (fun _ => rfl) (fun y14 hy14 => ?_)
              have ty14 := i_addT hy14.symm
              clear hy14
              refine wa_goto o_X12_isAnswer_17 (by decide) ?_
              refine wa_pick [2, 3, 4, 1, 0] rfl ?_
              exact ih2 _ (by ((try simp only [vp_in_iff, Int32.lt_iff_toInt_lt, Int32.le_iff_toInt_le, ← Int32.toInt_inj, Int32.reduceToInt, n_1, n_2, n_8, Int32.toNatClampNeg, Int64.lt_iff_toInt_lt, Int64.le_iff_toInt_le, ← Int64.toInt_inj, Int64.reduceToInt, Int32.toInt_toInt64, lg_cmp_ge, lg_cmp_le, lg_cmp_gt, lg_cmp_lt, lg_cmp_eq, Bool.false_eq_true, Bool.true_eq_false, reduceCtorEq, false_iff, true_iff, iff_true, iff_false, and_true, true_and, and_false, false_and, reduceIte, ite_true, ite_false, eq_self] at *)) <;> omega) _ _ ⟨(by ((try simp only [vp_in_iff, Int32.lt_iff_toInt_lt, Int32.le_iff_toInt_le, ← Int32.toInt_inj, Int32.reduceToInt, n_1, n_2, n_8, Int32.toNatClampNeg, Int64.lt_iff_toInt_lt, Int64.le_iff_toInt_le, ← Int64.toInt_inj, Int64.reduceToInt, Int32.toInt_toInt64, lg_cmp_ge, lg_cmp_le, lg_cmp_gt, lg_cmp_lt, lg_cmp_eq, Bool.false_eq_true, Bool.true_eq_false, reduceCtorEq, false_iff, true_iff, iff_true, iff_false, and_true, true_and, and_false, false_and, reduceIte, ite_true, ite_false, eq_self] at *)) <;> omega), trivial⟩ rfl
            · replace h13 := bI_t (b := (gb σ 146 (l4).toNatClampNeg)) (rfl) h13
              refine wa_aload_n (i := 0) rfl rfl ?_
              refine wa_getr ck_12 fl_12_340 ly_84 rf_84_134 ?_
              refine wa_iload rfl ?_
              refine wa_zald ly_122 (by ((try simp only [vp_in_iff, Int32.lt_iff_toInt_lt, Int32.le_iff_toInt_le, ← Int32.toInt_inj, Int32.reduceToInt, n_1, n_2, n_8, Int32.toNatClampNeg, Int64.lt_iff_toInt_lt, Int64.le_iff_toInt_le, ← Int64.toInt_inj, Int64.reduceToInt, Int32.toInt_toInt64, lg_cmp_ge, lg_cmp_le, lg_cmp_gt, lg_cmp_lt, lg_cmp_eq, Bool.false_eq_true, Bool.true_eq_false, reduceCtorEq, false_iff, true_iff, iff_true, iff_false, and_true, true_and, and_false, false_and, reduceIte, ite_true, ite_false, eq_self] at *)) <;> omega) ?_
              refine wa_if_ne o_X12_isAnswer_60 (by decide) (fun h15 => ?_) (fun h15 => ?_)
              · replace h15 := bI_t (b := (gb σ 122 (l4).toNatClampNeg)) (rfl) h15
                refine wa_iconst (v := 1) (by decide) ?_
                refine wa_goto o_X12_isAnswer_65 (by decide) ?_
                refine wa_istore_nD (lv' := [(3, .int (bI true)), (0, .ref 84), (1, .int a0), (2, .int a1), (4, .int l4)]) (i := 3) rfl (by decide) rfl ?_
                refine wa_iinc (v := (1)) (lv' := fun y16 => [(4, .int y16), (3, .int (bI true)), (0, .ref 84), (1, .int a0), (2, .int a1)]) (by decide) rfl (by decide) (fun _ => rfl) (fun y16 hy16 => ?_)
                have ty16 := i_addT hy16.symm
                clear hy16
                refine wa_goto o_X12_isAnswer_17 (by decide) ?_
                refine wa_pick [2, 3, 4, 1, 0] rfl ?_
                exact ih2 _ (by ((try simp only [vp_in_iff, Int32.lt_iff_toInt_lt, Int32.le_iff_toInt_le, ← Int32.toInt_inj, Int32.reduceToInt, n_1, n_2, n_8, Int32.toNatClampNeg, Int64.lt_iff_toInt_lt, Int64.le_iff_toInt_le, ← Int64.toInt_inj, Int64.reduceToInt, Int32.toInt_toInt64, lg_cmp_ge, lg_cmp_le, lg_cmp_gt, lg_cmp_lt, lg_cmp_eq, Bool.false_eq_true, Bool.true_eq_false, reduceCtorEq, false_iff, true_iff, iff_true, iff_false, and_true, true_and, and_false, false_and, reduceIte, ite_true, ite_false, eq_self] at *)) <;> omega) _ _ ⟨(by ((try simp only [vp_in_iff, Int32.lt_iff_toInt_lt, Int32.le_iff_toInt_le, ← Int32.toInt_inj, Int32.reduceToInt, n_1, n_2, n_8, Int32.toNatClampNeg, Int64.lt_iff_toInt_lt, Int64.le_iff_toInt_le, ← Int64.toInt_inj, Int64.reduceToInt, Int32.toInt_toInt64, lg_cmp_ge, lg_cmp_le, lg_cmp_gt, lg_cmp_lt, lg_cmp_eq, Bool.false_eq_true, Bool.true_eq_false, reduceCtorEq, false_iff, true_iff, iff_true, iff_false, and_true, true_and, and_false, false_and, reduceIte, ite_true, ite_false, eq_self] at *)) <;> omega), trivial⟩ rfl
              · replace h15 := bI_f (b := (gb σ 122 (l4).toNatClampNeg)) (rfl) h15
                refine wa_aload_n (i := 0) rfl rfl ?_
                refine wa_getr ck_12 fl_12_310 ly_84 rf_84_123 ?_
                refine wa_iload rfl ?_
                refine wa_zald ly_131 (by ((try simp only [vp_in_iff, Int32.lt_iff_toInt_lt, Int32.le_iff_toInt_le, ← Int32.toInt_inj, Int32.reduceToInt, n_1, n_2, n_8, Int32.toNatClampNeg, Int64.lt_iff_toInt_lt, Int64.le_iff_toInt_le, ← Int64.toInt_inj, Int64.reduceToInt, Int32.toInt_toInt64, lg_cmp_ge, lg_cmp_le, lg_cmp_gt, lg_cmp_lt, lg_cmp_eq, Bool.false_eq_true, Bool.true_eq_false, reduceCtorEq, false_iff, true_iff, iff_true, iff_false, and_true, true_and, and_false, false_and, reduceIte, ite_true, ite_false, eq_self] at *)) <;> omega) ?_
                refine wa_if_eq o_X12_isAnswer_64 (by decide) (fun h17 => ?_) (fun h17 => ?_)
                · replace h17 := bI_f (b := (gb σ 131 (l4).toNatClampNeg)) (rfl) h17
                  refine wa_iconst (v := 0) (by decide) ?_
                  refine wa_istore_nD (lv' := [(3, .int (bI false)), (0, .ref 84), (1, .int a0), (2, .int a1), (4, .int l4)]) (i := 3) rfl (by decide) rfl ?_
                  refine wa_iinc (v := (1)) (lv' := fun y18 => [(4, .int y18), (3, .int (bI false)), (0, .ref 84), (1, .int a0), (2, .int a1)]) (by decide) rfl (by decide) (fun _ => rfl) (fun y18 hy18 => ?_)
                  have ty18 := i_addT hy18.symm
                  clear hy18
                  refine wa_goto o_X12_isAnswer_17 (by decide) ?_
                  refine wa_pick [2, 3, 4, 1, 0] rfl ?_
                  exact ih2 _ (by ((try simp only [vp_in_iff, Int32.lt_iff_toInt_lt, Int32.le_iff_toInt_le, ← Int32.toInt_inj, Int32.reduceToInt, n_1, n_2, n_8, Int32.toNatClampNeg, Int64.lt_iff_toInt_lt, Int64.le_iff_toInt_le, ← Int64.toInt_inj, Int64.reduceToInt, Int32.toInt_toInt64, lg_cmp_ge, lg_cmp_le, lg_cmp_gt, lg_cmp_lt, lg_cmp_eq, Bool.false_eq_true, Bool.true_eq_false, reduceCtorEq, false_iff, true_iff, iff_true, iff_false, and_true, true_and, and_false, false_and, reduceIte, ite_true, ite_false, eq_self] at *)) <;> omega) _ _ ⟨(by ((try simp only [vp_in_iff, Int32.lt_iff_toInt_lt, Int32.le_iff_toInt_le, ← Int32.toInt_inj, Int32.reduceToInt, n_1, n_2, n_8, Int32.toNatClampNeg, Int64.lt_iff_toInt_lt, Int64.le_iff_toInt_le, ← Int64.toInt_inj, Int64.reduceToInt, Int32.toInt_toInt64, lg_cmp_ge, lg_cmp_le, lg_cmp_gt, lg_cmp_lt, lg_cmp_eq, Bool.false_eq_true, Bool.true_eq_false, reduceCtorEq, false_iff, true_iff, iff_true, iff_false, and_true, true_and, and_false, false_and, reduceIte, ite_true, ite_false, eq_self] at *)) <;> omega), trivial⟩ rfl
                · replace h17 := bI_t (b := (gb σ 131 (l4).toNatClampNeg)) (rfl) h17
                  refine wa_iconst (v := 1) (by decide) ?_
                  refine wa_goto o_X12_isAnswer_65 (by decide) ?_
                  refine wa_istore_nD (lv' := [(3, .int (bI true)), (0, .ref 84), (1, .int a0), (2, .int a1), (4, .int l4)]) (i := 3) rfl (by decide) rfl ?_
                  refine wa_iinc (v := (1)) (lv' := fun y19 => [(4, .int y19), (3, .int (bI true)), (0, .ref 84), (1, .int a0), (2, .int a1)]) (by decide) rfl (by decide) (fun _ => rfl) (fun y19 hy19 => ?_)
                  have ty19 := i_addT hy19.symm
                  clear hy19
                  refine wa_goto o_X12_isAnswer_17 (by decide) ?_
                  refine wa_pick [2, 3, 4, 1, 0] rfl ?_
                  exact ih2 _ (by ((try simp only [vp_in_iff, Int32.lt_iff_toInt_lt, Int32.le_iff_toInt_le, ← Int32.toInt_inj, Int32.reduceToInt, n_1, n_2, n_8, Int32.toNatClampNeg, Int64.lt_iff_toInt_lt, Int64.le_iff_toInt_le, ← Int64.toInt_inj, Int64.reduceToInt, Int32.toInt_toInt64, lg_cmp_ge, lg_cmp_le, lg_cmp_gt, lg_cmp_lt, lg_cmp_eq, Bool.false_eq_true, Bool.true_eq_false, reduceCtorEq, false_iff, true_iff, iff_true, iff_false, and_true, true_and, and_false, false_and, reduceIte, ite_true, ite_false, eq_self] at *)) <;> omega) _ _ ⟨(by ((try simp only [vp_in_iff, Int32.lt_iff_toInt_lt, Int32.le_iff_toInt_le, ← Int32.toInt_inj, Int32.reduceToInt, n_1, n_2, n_8, Int32.toNatClampNeg, Int64.lt_iff_toInt_lt, Int64.le_iff_toInt_le, ← Int64.toInt_inj, Int64.reduceToInt, Int32.toInt_toInt64, lg_cmp_ge, lg_cmp_le, lg_cmp_gt, lg_cmp_lt, lg_cmp_eq, Bool.false_eq_true, Bool.true_eq_false, reduceCtorEq, false_iff, true_iff, iff_true, iff_false, and_true, true_and, and_false, false_and, reduceIte, ite_true, ite_false, eq_self] at *)) <;> omega), trivial⟩ rfl
    exact hi3 _ _ _ ⟨(by ((try simp only [vp_in_iff, Int32.lt_iff_toInt_lt, Int32.le_iff_toInt_le, ← Int32.toInt_inj, Int32.reduceToInt, n_1, n_2, n_8, Int32.toNatClampNeg, Int64.lt_iff_toInt_lt, Int64.le_iff_toInt_le, ← Int64.toInt_inj, Int64.reduceToInt, Int32.toInt_toInt64, lg_cmp_ge, lg_cmp_le, lg_cmp_gt, lg_cmp_lt, lg_cmp_eq, Bool.false_eq_true, Bool.true_eq_false, reduceCtorEq, false_iff, true_iff, iff_true, iff_false, and_true, true_and, and_false, false_and, reduceIte, ite_true, ite_false, eq_self] at *)) <;> omega), trivial⟩ rfl
  · refine wa_aload_n (i := 0) rfl rfl ?_
    refine wa_getr ck_12 fl_12_310 ly_84 rf_84_123 ?_
    refine wa_iload_n (i := 2) rfl rfl ?_
    refine wa_zald ly_131 (by ((try simp only [vp_in_iff, Int32.lt_iff_toInt_lt, Int32.le_iff_toInt_le, ← Int32.toInt_inj, Int32.reduceToInt, n_1, n_2, n_8, Int32.toNatClampNeg, Int64.lt_iff_toInt_lt, Int64.le_iff_toInt_le, ← Int64.toInt_inj, Int64.reduceToInt, Int32.toInt_toInt64, lg_cmp_ge, lg_cmp_le, lg_cmp_gt, lg_cmp_lt, lg_cmp_eq, Bool.false_eq_true, Bool.true_eq_false, reduceCtorEq, false_iff, true_iff, iff_true, iff_false, and_true, true_and, and_false, false_and, reduceIte, ite_true, ite_false, eq_self] at *)) <;> omega) ?_
    refine wa_zreturn (gb σ 131 (a1).toNatClampNeg) (rfl) rfl rfl ?_
    exact ⟨_, rfl, rfl, trivial⟩
set_option maxHeartbeats 4000000 in
theorem sp_X12_judge (G : kG9) {d : Nat} (hd : 4 ≤ d) (σ : St) (a0 : Int32) (a1 : Int32) (a2 : Int32) (p1 : 0 ≤ a1.toInt ∧ a1.toInt < 26) (p2 : -1 ≤ a2.toInt ∧ a2.toInt < 26) (r1 : 0 ≤ (gi σ 84 119).toInt ∧ (gi σ 84 119).toInt ≤ 32) (r2 : 0 ≤ (gi σ 84 32).toInt ∧ (gi σ 84 32).toInt ≤ 4) (r3 : 0 ≤ (gi σ 84 33).toInt ∧ (gi σ 84 33).toInt ≤ 24) (r4 : 0 ≤ (gi σ 84 129).toInt ∧ (gi σ 84 129).toInt ≤ 3000) (r5 : 0 ≤ (gi σ 84 131).toInt ∧ (gi σ 84 131).toInt ≤ 16) (A_134 : AR ap_134 σ 134) (A_135 : AR ap_135 σ 135) (A_137 : AR ap_137 σ 137) (A_155 : AR ap_155 σ 155) (A_156 : AR ap_156 σ 156) (A_173 : AR ap_173 σ 173) (A_183 : AR ap_183 σ 183) (A_184 : AR ap_184 σ 184) (A_185 : AR ap_185 σ 185) (A_194 : AR ap_194 σ 194) (P_DV : DV σ) (P_WKS : WKS σ) (P_CLI : CLI σ) (P_NOK : NOK σ) : Ct G M_X12_judge d [.ref 84, .int a0, .int a1, .int a2] σ (fun r σ' => Fm [120, 121, 123, 124, 130, 131, 132] [] σ σ' ∧ True) := by
  refine wa_start (by decide) rfl (Nat.le_of_ble_eq_true rfl) (lv := [(0, .ref 84), (1, .int a0), (2, .int a1), (3, .int a2)]) rfl o_X12_judge_0 rfl ?_
  have ua0 := Int32.toInt_lt a0
  have wa0 := Int32.le_toInt a0
  have ua1 := Int32.toInt_lt a1
  have wa1 := Int32.le_toInt a1
  have ua2 := Int32.toInt_lt a2
  have wa2 := Int32.le_toInt a2
  refine wa_iconst (v := 0) (by decide) ?_
  refine wa_istoreD (lv' := [(4, .int 0), (0, .ref 84), (1, .int a0), (2, .int a1), (3, .int a2)]) (by decide) rfl ?_
  refine wa_pick [1, 2, 3, 4, 0] rfl ?_
  have hi3 : ∀ (n9_3 : Nat) (l4 : Int32) (s1 : St), ((Fm [120, 121, 123, 124, 130, 131, 132] [] σ s1) ∧ (gi s1 84 119 = gi σ 84 119) ∧ (gi s1 84 32 = gi σ 84 32) ∧ (gi s1 84 33 = gi σ 84 33) ∧ (gi s1 84 129 = gi σ 84 129) ∧ (gi s1 84 131 = gi σ 84 131) ∧ (0 ≤ l4.toInt) ∧ (True)) → (2147483647 - l4.toInt).toNat = n9_3 → WA G M_X12_judge (ZM G M_X12_judge d (fun r σ' => Fm [120, 121, 123, 124, 130, 131, 132] [] σ σ' ∧ True)) B_X12_judge_3 [(0, .ref 84), (1, .int a0), (2, .int a1), (3, .int a2), (4, .int l4)] [] s1 := by
    intro n9_3
    induction n9_3 using Nat.strongRecOn with
    | _ n9_3 ih2 =>
      intro l4 s1 i9 m9_3
      obtain ⟨Fs1, khi3_0, khi3_1, khi3_2, khi3_3, khi3_4, jhi3_0, -⟩ := i9
      have ul4 := Int32.toInt_lt l4
      have wl4 := Int32.le_toInt l4
      refine wa_iload rfl ?_
      refine wa_sipush (v := 4096) (by decide) ?_
      refine wa_icmp_ge o_X12_judge_25 (by decide) (fun h4 => ?_) (fun h4 => ?_)
      · refine wa_iconst (v := 0) (by decide) ?_
        refine wa_istoreD (lv' := [(4, .int 0), (0, .ref 84), (1, .int a0), (2, .int a1), (3, .int a2)]) (by decide) rfl ?_
        refine wa_pick [1, 2, 3, 4, 0] rfl ?_
        have hi7 : ∀ (n9_28 : Nat) (l4 : Int32) (s5 : St), ((Fm [120, 121, 123, 124, 130, 131, 132] [] σ s5) ∧ (gi s5 84 119 = gi σ 84 119) ∧ (gi s5 84 32 = gi σ 84 32) ∧ (gi s5 84 33 = gi σ 84 33) ∧ (gi s5 84 129 = gi σ 84 129) ∧ (gi s5 84 131 = gi σ 84 131) ∧ (0 ≤ l4.toInt) ∧ (True)) → (2147483647 - l4.toInt).toNat = n9_28 → WA G M_X12_judge (ZM G M_X12_judge d (fun r σ' => Fm [120, 121, 123, 124, 130, 131, 132] [] σ σ' ∧ True)) B_X12_judge_28 [(0, .ref 84), (1, .int a0), (2, .int a1), (3, .int a2), (4, .int l4)] [] s5 := by
          intro n9_28
          induction n9_28 using Nat.strongRecOn with
          | _ n9_28 ih6 =>
            intro l4 s5 i9 m9_28
            obtain ⟨Fs5, khi7_0, khi7_1, khi7_2, khi7_3, khi7_4, jhi7_0, -⟩ := i9
            have ul4 := Int32.toInt_lt l4
            have wl4 := Int32.le_toInt l4
            refine wa_iload rfl ?_
            refine wa_aload_n (i := 0) rfl rfl ?_
            refine wa_geti ck_12 fl_12_957 ly_84 ?_
            refine wa_rw (khi7_3) ?_
            refine wa_icmp_ge o_X12_judge_300 (by decide) (fun h8 => ?_) (fun h8 => ?_)
            · refine wa_return (st := []) rfl rfl ?_
              exact ⟨Fs5, trivial⟩
            · have mh8 := nle_mx h8
              refine wa_aload_n (i := 0) rfl rfl ?_
              refine wa_getr ck_12 fl_12_334 ly_84 rf_84_132 ?_
              refine wa_iload rfl ?_
              refine wa_iconst (v := 0) (by decide) ?_
              refine wa_iast ly_124 (by ((try simp only [vp_in_iff, Int32.lt_iff_toInt_lt, Int32.le_iff_toInt_le, ← Int32.toInt_inj, Int32.reduceToInt, n_1, n_2, n_8, Int32.toNatClampNeg, Int64.lt_iff_toInt_lt, Int64.le_iff_toInt_le, ← Int64.toInt_inj, Int64.reduceToInt, Int32.toInt_toInt64, lg_cmp_ge, lg_cmp_le, lg_cmp_gt, lg_cmp_lt, lg_cmp_eq, Bool.false_eq_true, Bool.true_eq_false, reduceCtorEq, false_iff, true_iff, iff_true, iff_false, and_true, true_and, and_false, false_and, reduceIte, ite_true, ite_false, eq_self] at *)) <;> omega) (fun s9 hs9 => ?_)
              have Fs9 : Fm [120, 121, 123, 124, 130, 131, 132] [] σ s9 := by rw [hs9]; exact Fm.si Fs5 rfl
              refine wa_aload_n (i := 0) rfl rfl ?_
              refine wa_getr ck_12 fl_12_337 ly_84 rf_84_133 ?_
              refine wa_iload rfl ?_
              refine wa_iconst (v := 0) (by decide) ?_
              refine wa_iast ly_123 (by ((try simp only [vp_in_iff, Int32.lt_iff_toInt_lt, Int32.le_iff_toInt_le, ← Int32.toInt_inj, Int32.reduceToInt, n_1, n_2, n_8, Int32.toNatClampNeg, Int64.lt_iff_toInt_lt, Int64.le_iff_toInt_le, ← Int64.toInt_inj, Int64.reduceToInt, Int32.toInt_toInt64, lg_cmp_ge, lg_cmp_le, lg_cmp_gt, lg_cmp_lt, lg_cmp_eq, Bool.false_eq_true, Bool.true_eq_false, reduceCtorEq, false_iff, true_iff, iff_true, iff_false, and_true, true_and, and_false, false_and, reduceIte, ite_true, ite_false, eq_self] at *)) <;> omega) (fun s10 hs10 => ?_)
              have Fs10 : Fm [120, 121, 123, 124, 130, 131, 132] [] σ s10 := by rw [hs10]; exact Fm.si Fs9 rfl
              refine wa_iconst (v := 0) (by decide) ?_
              refine wa_istoreD (lv' := [(5, .int 0), (0, .ref 84), (1, .int a0), (2, .int a1), (3, .int a2), (4, .int l4)]) (by decide) rfl ?_
              refine wa_pick [1, 2, 3, 4, 5, 0] rfl ?_
              have hi13 : ∀ (n9_56 : Nat) (l5 : Int32) (s11 : St), ((Fm [120, 121, 123, 124, 130, 131, 132] [] σ s11) ∧ (gi s11 84 119 = gi σ 84 119) ∧ (gi s11 84 32 = gi σ 84 32) ∧ (gi s11 84 33 = gi σ 84 33) ∧ (gi s11 84 129 = gi σ 84 129) ∧ (gi s11 84 131 = gi σ 84 131) ∧ (0 ≤ l5.toInt) ∧ (True)) → (2147483647 - l5.toInt).toNat = n9_56 → WA G M_X12_judge (ZM G M_X12_judge d (fun r σ' => Fm [120, 121, 123, 124, 130, 131, 132] [] σ σ' ∧ True)) B_X12_judge_56 [(0, .ref 84), (1, .int a0), (2, .int a1), (3, .int a2), (4, .int l4), (5, .int l5)] [] s11 := by
                intro n9_56
                induction n9_56 using Nat.strongRecOn with
                | _ n9_56 ih12 =>
                  intro l5 s11 i9 m9_56
                  obtain ⟨Fs11, khi13_0, khi13_1, khi13_2, khi13_3, khi13_4, jhi13_0, -⟩ := i9
                  have ul5 := Int32.toInt_lt l5
                  have wl5 := Int32.le_toInt l5
                  refine wa_iload rfl ?_
                  refine wa_aload_n (i := 0) rfl rfl ?_
                  refine wa_geti ck_12 fl_12_960 ly_84 ?_
                  refine wa_rw (khi13_4) ?_
                  refine wa_icmp_ge o_X12_judge_294 (by decide) (fun h14 => ?_) (fun h14 => ?_)
                  · refine wa_iinc (v := (1)) (lv' := fun y15 => [(4, .int y15), (0, .ref 84), (1, .int a0), (2, .int a1), (3, .int a2), (5, .int l5)]) (by decide) rfl (by decide) (fun _ => rfl) (fun y15 hy15 => ?_)
                    have ty15 := i_addT hy15.symm
                    clear hy15
                    refine wa_goto o_X12_judge_28 (by decide) ?_
                    refine wa_pick [1, 2, 3, 4, 0] rfl ?_
                    exact ih6 _ (by ((try simp only [vp_in_iff, Int32.lt_iff_toInt_lt, Int32.le_iff_toInt_le, ← Int32.toInt_inj, Int32.reduceToInt, n_1, n_2, n_8, Int32.toNatClampNeg, Int64.lt_iff_toInt_lt, Int64.le_iff_toInt_le, ← Int64.toInt_inj, Int64.reduceToInt, Int32.toInt_toInt64, lg_cmp_ge, lg_cmp_le, lg_cmp_gt, lg_cmp_lt, lg_cmp_eq, Bool.false_eq_true, Bool.true_eq_false, reduceCtorEq, false_iff, true_iff, iff_true, iff_false, and_true, true_and, and_false, false_and, reduceIte, ite_true, ite_false, eq_self] at *)) <;> omega) _ _ ⟨Fs11, (khi13_0), (khi13_1), (khi13_2), (khi13_3), (khi13_4), (by ((try simp only [vp_in_iff, Int32.lt_iff_toInt_lt, Int32.le_iff_toInt_le, ← Int32.toInt_inj, Int32.reduceToInt, n_1, n_2, n_8, Int32.toNatClampNeg, Int64.lt_iff_toInt_lt, Int64.le_iff_toInt_le, ← Int64.toInt_inj, Int64.reduceToInt, Int32.toInt_toInt64, lg_cmp_ge, lg_cmp_le, lg_cmp_gt, lg_cmp_lt, lg_cmp_eq, Bool.false_eq_true, Bool.true_eq_false, reduceCtorEq, false_iff, true_iff, iff_true, iff_false, and_true, true_and, and_false, false_and, reduceIte, ite_true, ite_false, eq_self] at *)) <;> omega), trivial⟩ rfl
                  · have mh14 := nle_mx h14
                    refine wa_iconst (v := 0) (by decide) ?_
                    refine wa_istoreD (lv' := [(6, .int 0), (0, .ref 84), (1, .int a0), (2, .int a1), (3, .int a2), (4, .int l4), (5, .int l5)]) (by decide) rfl ?_
                    refine wa_iconst (v := 0) (by decide) ?_
                    refine wa_istoreD (lv' := [(7, .int 0), (6, .int 0), (0, .ref 84), (1, .int a0), (2, .int a1), (3, .int a2), (4, .int l4), (5, .int l5)]) (by decide) rfl ?_
                    refine wa_pick [2, 3, 4, 5, 6, 7, 1, 0] rfl ?_
                    have hi18 : ∀ (n9_71 : Nat) (l6 : Int32) (l7 : Int32) (s16 : St), ((Fm [120, 121, 123, 124, 130, 131, 132] [] σ s16) ∧ (gi s16 84 119 = gi σ 84 119) ∧ (gi s16 84 32 = gi σ 84 32) ∧ (gi s16 84 33 = gi σ 84 33) ∧ (gi s16 84 129 = gi σ 84 129) ∧ (gi s16 84 131 = gi σ 84 131) ∧ (0 ≤ l7.toInt) ∧ (True)) → (2147483647 - l7.toInt).toNat = n9_71 → WA G M_X12_judge (ZM G M_X12_judge d (fun r σ' => Fm [120, 121, 123, 124, 130, 131, 132] [] σ σ' ∧ True)) B_X12_judge_71 [(0, .ref 84), (1, .int a0), (2, .int a1), (3, .int a2), (4, .int l4), (5, .int l5), (6, .int l6), (7, .int l7)] [] s16 := by
                      intro n9_71
                      induction n9_71 using Nat.strongRecOn with
                      | _ n9_71 ih17 =>
                        intro l6 l7 s16 i9 m9_71
                        obtain ⟨Fs16, khi18_0, khi18_1, khi18_2, khi18_3, khi18_4, jhi18_0, -⟩ := i9
                        have ul6 := Int32.toInt_lt l6
                        have wl6 := Int32.le_toInt l6
                        have ul7 := Int32.toInt_lt l7
                        have wl7 := Int32.le_toInt l7
                        refine wa_iload rfl ?_
                        refine wa_aload_n (i := 0) rfl rfl ?_
                        refine wa_geti ck_12 fl_12_928 ly_84 ?_
                        refine wa_rw (khi18_0) ?_
                        refine wa_icmp_ge o_X12_judge_137 (by decide) (fun h19 => ?_) (fun h19 => ?_)
                        · refine wa_iload rfl ?_
                          refine wa_iload rfl ?_
                          refine wa_bipush (v := 12) (by decide) ?_
                          refine wa_iushr ?_
                          refine wa_top (fun v20 hv20 => ?_)
                          clear hv20
                          refine wa_ixor ?_
                          refine wa_top (fun v21 hv21 => ?_)
                          clear hv21
                          refine wa_iload rfl ?_
                          refine wa_bipush (v := 24) (by decide) ?_
                          refine wa_iushr ?_
                          refine wa_top (fun v22 hv22 => ?_)
                          clear hv22
                          refine wa_ixor ?_
                          refine wa_top (fun v23 hv23 => ?_)
                          clear hv23
                          refine wa_sipush (v := 4095) (by decide) ?_
                          refine wa_iand ?_
                          refine wa_top (fun v24 hv24 => ?_)
                          have tv24 := i_andT hv24
                          clear hv24
                          refine wa_istoreD (lv' := [(7, .int v24), (0, .ref 84), (1, .int a0), (2, .int a1), (3, .int a2), (4, .int l4), (5, .int l5), (6, .int l6)]) (by decide) rfl ?_
                          refine wa_aload_n (i := 0) rfl rfl ?_
                          refine wa_getr ck_12 fl_12_346 ly_84 rf_84_136 ?_
                          refine wa_iload rfl ?_
                          refine wa_iald ly_120 (by ((try simp only [vp_in_iff, Int32.lt_iff_toInt_lt, Int32.le_iff_toInt_le, ← Int32.toInt_inj, Int32.reduceToInt, n_1, n_2, n_8, Int32.toNatClampNeg, Int64.lt_iff_toInt_lt, Int64.le_iff_toInt_le, ← Int64.toInt_inj, Int64.reduceToInt, Int32.toInt_toInt64, lg_cmp_ge, lg_cmp_le, lg_cmp_gt, lg_cmp_lt, lg_cmp_eq, Bool.false_eq_true, Bool.true_eq_false, reduceCtorEq, false_iff, true_iff, iff_true, iff_false, and_true, true_and, and_false, false_and, reduceIte, ite_true, ite_false, eq_self] at *)) <;> omega) ?_
                          refine wa_iconst (v := (-1)) (by decide) ?_
                          refine wa_icmp_eq o_X12_judge_180 (by decide) (fun h25 => ?_) (fun h25 => ?_)
                          · refine wa_aload_n (i := 0) rfl rfl ?_
                            refine wa_Vv (d9 := d - 1) [] [] (sp_X12_reckonSlots G (d := d - 1) (by omega) s16  (ar_fm Fs16 rfl rfl A_134) (ar_fm Fs16 rfl rfl A_155) (ar_fm Fs16 rfl rfl A_156) (ar_fm Fs16 rfl rfl A_173) (ar_fm Fs16 rfl rfl A_183) (ar_fm Fs16 rfl rfl A_184) (ar_fm Fs16 rfl rfl A_185) (ar_fm Fs16 rfl rfl A_194) (WKS_of (fun k => Fm.gb Fs16 (q := 133) (k := k) rfl rfl) (fun k => Fm.gi Fs16 (q := 156) (k := k) rfl rfl) (fun k => Fm.gi Fs16 (q := 134) (k := k) rfl rfl) P_WKS) (CLI_of (fun k => Fm.gi Fs16 (q := 183) (k := k) rfl rfl) (fun k => Fm.gi Fs16 (q := 185) (k := k) rfl rfl) (fun k => Fm.gi Fs16 (q := 184) (k := k) rfl rfl) (fun k => Fm.gi Fs16 (q := 155) (k := k) rfl rfl) (fun k => Fm.gi Fs16 (q := 156) (k := k) rfl rfl) P_CLI) (NOK_of (fun k => Fm.gi Fs16 (q := 194) (k := k) rfl rfl) (fun k => Fm.gi Fs16 (q := 195) (k := k) rfl rfl) (fun k => Fm.gi Fs16 (q := 196) (k := k) rfl rfl) (fun k => Fm.gi Fs16 (q := 197) (k := k) rfl rfl) (fun k => Fm.gi Fs16 (q := 198) (k := k) rfl rfl) (fun k => Fm.gi Fs16 (q := 183) (k := k) rfl rfl) P_NOK)) (rfl) rfl rfl (zr (by omega)) mk_X12_reckonSlots ly_84 ml_12_954 (Nat.le_of_ble_eq_true rfl) (fun s26 hs26 => ?_)
                            obtain ⟨fs26, -⟩ := hs26
                            have Fs26 : Fm [120, 121, 123, 124, 130, 131, 132] [] σ s26 := Fm.tr Fs16 (Fm.wd fs26 rfl rfl)
                            refine wa_aload_n (i := 0) rfl rfl ?_
                            refine wa_getr ck_12 fl_12_343 ly_84 rf_84_135 ?_
                            refine wa_iload rfl ?_
                            refine wa_iload rfl ?_
                            refine wa_iast ly_121 (by ((try simp only [vp_in_iff, Int32.lt_iff_toInt_lt, Int32.le_iff_toInt_le, ← Int32.toInt_inj, Int32.reduceToInt, n_1, n_2, n_8, Int32.toNatClampNeg, Int64.lt_iff_toInt_lt, Int64.le_iff_toInt_le, ← Int64.toInt_inj, Int64.reduceToInt, Int32.toInt_toInt64, lg_cmp_ge, lg_cmp_le, lg_cmp_gt, lg_cmp_lt, lg_cmp_eq, Bool.false_eq_true, Bool.true_eq_false, reduceCtorEq, false_iff, true_iff, iff_true, iff_false, and_true, true_and, and_false, false_and, reduceIte, ite_true, ite_false, eq_self] at *)) <;> omega) (fun s28 hs28 => ?_)
                            have Fs28 : Fm [120, 121, 123, 124, 130, 131, 132] [] σ s28 := by rw [hs28]; exact Fm.si Fs26 rfl
                            refine wa_aload_n (i := 0) rfl rfl ?_
                            refine wa_getr ck_12 fl_12_346 ly_84 rf_84_136 ?_
                            refine wa_iload rfl ?_
                            refine wa_aload_n (i := 0) rfl rfl ?_
                            refine wa_iload_n (i := 1) rfl rfl ?_
                            refine wa_iload_n (i := 2) rfl rfl ?_
                            refine wa_Vi (d9 := d - 1) [.int _, .int _] [.int v24, .ref 120] (sp_X12_isAnswer G (d := d - 1) (by omega) s28 _ _ (by ((try simp only [vp_in_iff, Int32.lt_iff_toInt_lt, Int32.le_iff_toInt_le, ← Int32.toInt_inj, Int32.reduceToInt, n_1, n_2, n_8, Int32.toNatClampNeg, Int64.lt_iff_toInt_lt, Int64.le_iff_toInt_le, ← Int64.toInt_inj, Int64.reduceToInt, Int32.toInt_toInt64, lg_cmp_ge, lg_cmp_le, lg_cmp_gt, lg_cmp_lt, lg_cmp_eq, Bool.false_eq_true, Bool.true_eq_false, reduceCtorEq, false_iff, true_iff, iff_true, iff_false, and_true, true_and, and_false, false_and, reduceIte, ite_true, ite_false, eq_self] at *)) <;> omega) (by rw [(nxq_gi_si hs28 (by decide)).trans ((Fm.gi fs26 (q := 84) (k := 33) rfl rfl).trans (khi18_2))]; first | assumption | exact Or.inl rfl | exact Or.inr rfl | (((try simp only [vp_in_iff, Int32.lt_iff_toInt_lt, Int32.le_iff_toInt_le, ← Int32.toInt_inj, Int32.reduceToInt, n_1, n_2, n_8, Int32.toNatClampNeg, Int64.lt_iff_toInt_lt, Int64.le_iff_toInt_le, ← Int64.toInt_inj, Int64.reduceToInt, Int32.toInt_toInt64, lg_cmp_ge, lg_cmp_le, lg_cmp_gt, lg_cmp_lt, lg_cmp_eq, Bool.false_eq_true, Bool.true_eq_false, reduceCtorEq, false_iff, true_iff, iff_true, iff_false, and_true, true_and, and_false, false_and, reduceIte, ite_true, ite_false, eq_self] at *)) <;> omega))) (rfl) rfl rfl (zr (by omega)) mk_X12_isAnswer ly_84 ml_12_973 (Nat.le_of_ble_eq_true rfl) (fun x30 s29 hs29 => ?_)
                            obtain ⟨bx30, ex30, zs29, -⟩ := pB hs29
                            subst ex30
                            subst zs29
                            refine wa_if_eq o_X12_judge_212 (by decide) (fun h31 => ?_) (fun h31 => ?_)
                            · replace h31 := bI_f (b := bx30) (rfl) h31
                              refine wa_iconst (v := 0) (by decide) ?_
                              refine wa_iload_n (i := 3) rfl rfl ?_
                              refine wa_iconst (v := (-1)) (by decide) ?_
                              refine wa_icmp_eq o_X12_judge_231 (by decide) (fun h32 => ?_) (fun h32 => ?_)
                              · refine wa_iconst (v := 0) (by decide) ?_
                                refine wa_iadd ?_
                                refine wa_top (fun v33 hv33 => ?_)
                                have tv33 := i_addT hv33
                                clear hv33
                                refine wa_iast ly_120 (by ((try simp only [vp_in_iff, Int32.lt_iff_toInt_lt, Int32.le_iff_toInt_le, ← Int32.toInt_inj, Int32.reduceToInt, n_1, n_2, n_8, Int32.toNatClampNeg, Int64.lt_iff_toInt_lt, Int64.le_iff_toInt_le, ← Int64.toInt_inj, Int64.reduceToInt, Int32.toInt_toInt64, lg_cmp_ge, lg_cmp_le, lg_cmp_gt, lg_cmp_lt, lg_cmp_eq, Bool.false_eq_true, Bool.true_eq_false, reduceCtorEq, false_iff, true_iff, iff_true, iff_false, and_true, true_and, and_false, false_and, reduceIte, ite_true, ite_false, eq_self] at *)) <;> omega) (fun s34 hs34 => ?_)
                                have Fs34 : Fm [120, 121, 123, 124, 130, 131, 132] [] σ s34 := by rw [hs34]; exact Fm.si Fs28 rfl
                                refine wa_aload_n (i := 0) rfl rfl ?_
                                refine wa_getr ck_12 fl_12_334 ly_84 rf_84_132 ?_
                                refine wa_iload rfl ?_
                                refine wa_aload_n (i := 0) rfl rfl ?_
                                refine wa_getr ck_12 fl_12_334 ly_84 rf_84_132 ?_
                                refine wa_iload rfl ?_
                                refine wa_iald ly_124 (by ((try simp only [vp_in_iff, Int32.lt_iff_toInt_lt, Int32.le_iff_toInt_le, ← Int32.toInt_inj, Int32.reduceToInt, n_1, n_2, n_8, Int32.toNatClampNeg, Int64.lt_iff_toInt_lt, Int64.le_iff_toInt_le, ← Int64.toInt_inj, Int64.reduceToInt, Int32.toInt_toInt64, lg_cmp_ge, lg_cmp_le, lg_cmp_gt, lg_cmp_lt, lg_cmp_eq, Bool.false_eq_true, Bool.true_eq_false, reduceCtorEq, false_iff, true_iff, iff_true, iff_false, and_true, true_and, and_false, false_and, reduceIte, ite_true, ite_false, eq_self] at *)) <;> omega) ?_
                                refine wa_aload_n (i := 0) rfl rfl ?_
                                refine wa_getr ck_12 fl_12_346 ly_84 rf_84_136 ?_
                                refine wa_iload rfl ?_
                                refine wa_iald ly_120 (by ((try simp only [vp_in_iff, Int32.lt_iff_toInt_lt, Int32.le_iff_toInt_le, ← Int32.toInt_inj, Int32.reduceToInt, n_1, n_2, n_8, Int32.toNatClampNeg, Int64.lt_iff_toInt_lt, Int64.le_iff_toInt_le, ← Int64.toInt_inj, Int64.reduceToInt, Int32.toInt_toInt64, lg_cmp_ge, lg_cmp_le, lg_cmp_gt, lg_cmp_lt, lg_cmp_eq, Bool.false_eq_true, Bool.true_eq_false, reduceCtorEq, false_iff, true_iff, iff_true, iff_false, and_true, true_and, and_false, false_and, reduceIte, ite_true, ite_false, eq_self] at *)) <;> omega) ?_
                                refine wa_iconst (v := 2) (by decide) ?_
                                refine wa_irem (by ((try simp only [vp_in_iff, Int32.lt_iff_toInt_lt, Int32.le_iff_toInt_le, ← Int32.toInt_inj, Int32.reduceToInt, n_1, n_2, n_8, Int32.toNatClampNeg, Int64.lt_iff_toInt_lt, Int64.le_iff_toInt_le, ← Int64.toInt_inj, Int64.reduceToInt, Int32.toInt_toInt64, lg_cmp_ge, lg_cmp_le, lg_cmp_gt, lg_cmp_lt, lg_cmp_eq, Bool.false_eq_true, Bool.true_eq_false, reduceCtorEq, false_iff, true_iff, iff_true, iff_false, and_true, true_and, and_false, false_and, reduceIte, ite_true, ite_false, eq_self] at *)) <;> omega) ?_
                                refine wa_top (fun v35 hv35 => ?_)
                                have tv35 := i_remU hv35
                                clear hv35
                                refine wa_iload rfl ?_
                                refine wa_ishl ?_
                                refine wa_top (fun v36 hv36 => ?_)
                                clear hv36
                                refine wa_ior ?_
                                refine wa_top (fun v37 hv37 => ?_)
                                clear hv37
                                refine wa_iast ly_124 (by ((try simp only [vp_in_iff, Int32.lt_iff_toInt_lt, Int32.le_iff_toInt_le, ← Int32.toInt_inj, Int32.reduceToInt, n_1, n_2, n_8, Int32.toNatClampNeg, Int64.lt_iff_toInt_lt, Int64.le_iff_toInt_le, ← Int64.toInt_inj, Int64.reduceToInt, Int32.toInt_toInt64, lg_cmp_ge, lg_cmp_le, lg_cmp_gt, lg_cmp_lt, lg_cmp_eq, Bool.false_eq_true, Bool.true_eq_false, reduceCtorEq, false_iff, true_iff, iff_true, iff_false, and_true, true_and, and_false, false_and, reduceIte, ite_true, ite_false, eq_self] at *)) <;> omega) (fun s38 hs38 => ?_)
                                have Fs38 : Fm [120, 121, 123, 124, 130, 131, 132] [] σ s38 := by rw [hs38]; exact Fm.si Fs34 rfl
                                refine wa_aload_n (i := 0) rfl rfl ?_
                                refine wa_getr ck_12 fl_12_337 ly_84 rf_84_133 ?_
                                refine wa_iload rfl ?_
                                refine wa_aload_n (i := 0) rfl rfl ?_
                                refine wa_getr ck_12 fl_12_337 ly_84 rf_84_133 ?_
                                refine wa_iload rfl ?_
                                refine wa_iald ly_123 (by ((try simp only [vp_in_iff, Int32.lt_iff_toInt_lt, Int32.le_iff_toInt_le, ← Int32.toInt_inj, Int32.reduceToInt, n_1, n_2, n_8, Int32.toNatClampNeg, Int64.lt_iff_toInt_lt, Int64.le_iff_toInt_le, ← Int64.toInt_inj, Int64.reduceToInt, Int32.toInt_toInt64, lg_cmp_ge, lg_cmp_le, lg_cmp_gt, lg_cmp_lt, lg_cmp_eq, Bool.false_eq_true, Bool.true_eq_false, reduceCtorEq, false_iff, true_iff, iff_true, iff_false, and_true, true_and, and_false, false_and, reduceIte, ite_true, ite_false, eq_self] at *)) <;> omega) ?_
                                refine wa_aload_n (i := 0) rfl rfl ?_
                                refine wa_getr ck_12 fl_12_346 ly_84 rf_84_136 ?_
                                refine wa_iload rfl ?_
                                refine wa_iald ly_120 (by ((try simp only [vp_in_iff, Int32.lt_iff_toInt_lt, Int32.le_iff_toInt_le, ← Int32.toInt_inj, Int32.reduceToInt, n_1, n_2, n_8, Int32.toNatClampNeg, Int64.lt_iff_toInt_lt, Int64.le_iff_toInt_le, ← Int64.toInt_inj, Int64.reduceToInt, Int32.toInt_toInt64, lg_cmp_ge, lg_cmp_le, lg_cmp_gt, lg_cmp_lt, lg_cmp_eq, Bool.false_eq_true, Bool.true_eq_false, reduceCtorEq, false_iff, true_iff, iff_true, iff_false, and_true, true_and, and_false, false_and, reduceIte, ite_true, ite_false, eq_self] at *)) <;> omega) ?_
                                refine wa_iconst (v := 2) (by decide) ?_
                                refine wa_idiv (by ((try simp only [vp_in_iff, Int32.lt_iff_toInt_lt, Int32.le_iff_toInt_le, ← Int32.toInt_inj, Int32.reduceToInt, n_1, n_2, n_8, Int32.toNatClampNeg, Int64.lt_iff_toInt_lt, Int64.le_iff_toInt_le, ← Int64.toInt_inj, Int64.reduceToInt, Int32.toInt_toInt64, lg_cmp_ge, lg_cmp_le, lg_cmp_gt, lg_cmp_lt, lg_cmp_eq, Bool.false_eq_true, Bool.true_eq_false, reduceCtorEq, false_iff, true_iff, iff_true, iff_false, and_true, true_and, and_false, false_and, reduceIte, ite_true, ite_false, eq_self] at *)) <;> omega) ?_
                                refine wa_top (fun v39 hv39 => ?_)
                                have tv39 := i_divU hv39
                                clear hv39
                                refine wa_iload rfl ?_
                                refine wa_ishl ?_
                                refine wa_top (fun v40 hv40 => ?_)
                                clear hv40
                                refine wa_ior ?_
                                refine wa_top (fun v41 hv41 => ?_)
                                clear hv41
                                refine wa_iast ly_123 (by ((try simp only [vp_in_iff, Int32.lt_iff_toInt_lt, Int32.le_iff_toInt_le, ← Int32.toInt_inj, Int32.reduceToInt, n_1, n_2, n_8, Int32.toNatClampNeg, Int64.lt_iff_toInt_lt, Int64.le_iff_toInt_le, ← Int64.toInt_inj, Int64.reduceToInt, Int32.toInt_toInt64, lg_cmp_ge, lg_cmp_le, lg_cmp_gt, lg_cmp_lt, lg_cmp_eq, Bool.false_eq_true, Bool.true_eq_false, reduceCtorEq, false_iff, true_iff, iff_true, iff_false, and_true, true_and, and_false, false_and, reduceIte, ite_true, ite_false, eq_self] at *)) <;> omega) (fun s42 hs42 => ?_)
                                have Fs42 : Fm [120, 121, 123, 124, 130, 131, 132] [] σ s42 := by rw [hs42]; exact Fm.si Fs38 rfl
                                refine wa_iinc (v := (1)) (lv' := fun y43 => [(5, .int y43), (7, .int v24), (0, .ref 84), (1, .int a0), (2, .int a1), (3, .int a2), (4, .int l4), (6, .int l6)]) (by decide) rfl (by decide) (fun _ => rfl) (fun y43 hy43 => ?_)
                                have ty43 := i_addT hy43.symm
                                clear hy43
                                refine wa_goto o_X12_judge_56 (by decide) ?_
                                refine wa_pick [2, 3, 4, 5, 6, 0] rfl ?_
                                exact ih12 _ (by ((try simp only [vp_in_iff, Int32.lt_iff_toInt_lt, Int32.le_iff_toInt_le, ← Int32.toInt_inj, Int32.reduceToInt, n_1, n_2, n_8, Int32.toNatClampNeg, Int64.lt_iff_toInt_lt, Int64.le_iff_toInt_le, ← Int64.toInt_inj, Int64.reduceToInt, Int32.toInt_toInt64, lg_cmp_ge, lg_cmp_le, lg_cmp_gt, lg_cmp_lt, lg_cmp_eq, Bool.false_eq_true, Bool.true_eq_false, reduceCtorEq, false_iff, true_iff, iff_true, iff_false, and_true, true_and, and_false, false_and, reduceIte, ite_true, ite_false, eq_self] at *)) <;> omega) _ _ ⟨Fs42, ((nxq_gi_si hs42 (by decide)).trans ((nxq_gi_si hs38 (by decide)).trans ((nxq_gi_si hs34 (by decide)).trans ((nxq_gi_si hs28 (by decide)).trans ((Fm.gi fs26 (q := 84) (k := 119) rfl rfl).trans (khi18_0)))))), ((nxq_gi_si hs42 (by decide)).trans ((nxq_gi_si hs38 (by decide)).trans ((nxq_gi_si hs34 (by decide)).trans ((nxq_gi_si hs28 (by decide)).trans ((Fm.gi fs26 (q := 84) (k := 32) rfl rfl).trans (khi18_1)))))), ((nxq_gi_si hs42 (by decide)).trans ((nxq_gi_si hs38 (by decide)).trans ((nxq_gi_si hs34 (by decide)).trans ((nxq_gi_si hs28 (by decide)).trans ((Fm.gi fs26 (q := 84) (k := 33) rfl rfl).trans (khi18_2)))))), ((nxq_gi_si hs42 (by decide)).trans ((nxq_gi_si hs38 (by decide)).trans ((nxq_gi_si hs34 (by decide)).trans ((nxq_gi_si hs28 (by decide)).trans ((Fm.gi fs26 (q := 84) (k := 129) rfl rfl).trans (khi18_3)))))), ((nxq_gi_si hs42 (by decide)).trans ((nxq_gi_si hs38 (by decide)).trans ((nxq_gi_si hs34 (by decide)).trans ((nxq_gi_si hs28 (by decide)).trans ((Fm.gi fs26 (q := 84) (k := 131) rfl rfl).trans (khi18_4)))))), (by ((try simp only [vp_in_iff, Int32.lt_iff_toInt_lt, Int32.le_iff_toInt_le, ← Int32.toInt_inj, Int32.reduceToInt, n_1, n_2, n_8, Int32.toNatClampNeg, Int64.lt_iff_toInt_lt, Int64.le_iff_toInt_le, ← Int64.toInt_inj, Int64.reduceToInt, Int32.toInt_toInt64, lg_cmp_ge, lg_cmp_le, lg_cmp_gt, lg_cmp_lt, lg_cmp_eq, Bool.false_eq_true, Bool.true_eq_false, reduceCtorEq, false_iff, true_iff, iff_true, iff_false, and_true, true_and, and_false, false_and, reduceIte, ite_true, ite_false, eq_self] at *)) <;> omega), trivial⟩ rfl
                              · refine wa_aload_n (i := 0) rfl rfl ?_
                                refine wa_getr ck_12 fl_12_310 ly_84 rf_84_123 ?_
                                refine wa_iload_n (i := 3) rfl rfl ?_
                                refine wa_zald ly_131 (by ((try simp only [vp_in_iff, Int32.lt_iff_toInt_lt, Int32.le_iff_toInt_le, ← Int32.toInt_inj, Int32.reduceToInt, n_1, n_2, n_8, Int32.toNatClampNeg, Int64.lt_iff_toInt_lt, Int64.le_iff_toInt_le, ← Int64.toInt_inj, Int64.reduceToInt, Int32.toInt_toInt64, lg_cmp_ge, lg_cmp_le, lg_cmp_gt, lg_cmp_lt, lg_cmp_eq, Bool.false_eq_true, Bool.true_eq_false, reduceCtorEq, false_iff, true_iff, iff_true, iff_false, and_true, true_and, and_false, false_and, reduceIte, ite_true, ite_false, eq_self] at *)) <;> omega) ?_
                                refine wa_if_eq o_X12_judge_231 (by decide) (fun h44 => ?_) (fun h44 => ?_)
                                · replace h44 := bI_f (b := (gb s28 131 (a2).toNatClampNeg)) (rfl) h44
                                  refine wa_iconst (v := 0) (by decide) ?_
                                  refine wa_iadd ?_
                                  refine wa_top (fun v45 hv45 => ?_)
                                  have tv45 := i_addT hv45
                                  clear hv45
                                  refine wa_iast ly_120 (by ((try simp only [vp_in_iff, Int32.lt_iff_toInt_lt, Int32.le_iff_toInt_le, ← Int32.toInt_inj, Int32.reduceToInt, n_1, n_2, n_8, Int32.toNatClampNeg, Int64.lt_iff_toInt_lt, Int64.le_iff_toInt_le, ← Int64.toInt_inj, Int64.reduceToInt, Int32.toInt_toInt64, lg_cmp_ge, lg_cmp_le, lg_cmp_gt, lg_cmp_lt, lg_cmp_eq, Bool.false_eq_true, Bool.true_eq_false, reduceCtorEq, false_iff, true_iff, iff_true, iff_false, and_true, true_and, and_false, false_and, reduceIte, ite_true, ite_false, eq_self] at *)) <;> omega) (fun s46 hs46 => ?_)
                                  have Fs46 : Fm [120, 121, 123, 124, 130, 131, 132] [] σ s46 := by rw [hs46]; exact Fm.si Fs28 rfl
                                  refine wa_aload_n (i := 0) rfl rfl ?_
                                  refine wa_getr ck_12 fl_12_334 ly_84 rf_84_132 ?_
                                  refine wa_iload rfl ?_
                                  refine wa_aload_n (i := 0) rfl rfl ?_
                                  refine wa_getr ck_12 fl_12_334 ly_84 rf_84_132 ?_
                                  refine wa_iload rfl ?_
                                  refine wa_iald ly_124 (by ((try simp only [vp_in_iff, Int32.lt_iff_toInt_lt, Int32.le_iff_toInt_le, ← Int32.toInt_inj, Int32.reduceToInt, n_1, n_2, n_8, Int32.toNatClampNeg, Int64.lt_iff_toInt_lt, Int64.le_iff_toInt_le, ← Int64.toInt_inj, Int64.reduceToInt, Int32.toInt_toInt64, lg_cmp_ge, lg_cmp_le, lg_cmp_gt, lg_cmp_lt, lg_cmp_eq, Bool.false_eq_true, Bool.true_eq_false, reduceCtorEq, false_iff, true_iff, iff_true, iff_false, and_true, true_and, and_false, false_and, reduceIte, ite_true, ite_false, eq_self] at *)) <;> omega) ?_
                                  refine wa_aload_n (i := 0) rfl rfl ?_
                                  refine wa_getr ck_12 fl_12_346 ly_84 rf_84_136 ?_
                                  refine wa_iload rfl ?_
                                  refine wa_iald ly_120 (by ((try simp only [vp_in_iff, Int32.lt_iff_toInt_lt, Int32.le_iff_toInt_le, ← Int32.toInt_inj, Int32.reduceToInt, n_1, n_2, n_8, Int32.toNatClampNeg, Int64.lt_iff_toInt_lt, Int64.le_iff_toInt_le, ← Int64.toInt_inj, Int64.reduceToInt, Int32.toInt_toInt64, lg_cmp_ge, lg_cmp_le, lg_cmp_gt, lg_cmp_lt, lg_cmp_eq, Bool.false_eq_true, Bool.true_eq_false, reduceCtorEq, false_iff, true_iff, iff_true, iff_false, and_true, true_and, and_false, false_and, reduceIte, ite_true, ite_false, eq_self] at *)) <;> omega) ?_
                                  refine wa_iconst (v := 2) (by decide) ?_
                                  refine wa_irem (by ((try simp only [vp_in_iff, Int32.lt_iff_toInt_lt, Int32.le_iff_toInt_le, ← Int32.toInt_inj, Int32.reduceToInt, n_1, n_2, n_8, Int32.toNatClampNeg, Int64.lt_iff_toInt_lt, Int64.le_iff_toInt_le, ← Int64.toInt_inj, Int64.reduceToInt, Int32.toInt_toInt64, lg_cmp_ge, lg_cmp_le, lg_cmp_gt, lg_cmp_lt, lg_cmp_eq, Bool.false_eq_true, Bool.true_eq_false, reduceCtorEq, false_iff, true_iff, iff_true, iff_false, and_true, true_and, and_false, false_and, reduceIte, ite_true, ite_false, eq_self] at *)) <;> omega) ?_
                                  refine wa_top (fun v47 hv47 => ?_)
                                  have tv47 := i_remU hv47
                                  clear hv47
                                  refine wa_iload rfl ?_
                                  refine wa_ishl ?_
                                  refine wa_top (fun v48 hv48 => ?_)
                                  clear hv48
                                  refine wa_ior ?_
                                  refine wa_top (fun v49 hv49 => ?_)
                                  clear hv49
                                  refine wa_iast ly_124 (by ((try simp only [vp_in_iff, Int32.lt_iff_toInt_lt, Int32.le_iff_toInt_le, ← Int32.toInt_inj, Int32.reduceToInt, n_1, n_2, n_8, Int32.toNatClampNeg, Int64.lt_iff_toInt_lt, Int64.le_iff_toInt_le, ← Int64.toInt_inj, Int64.reduceToInt, Int32.toInt_toInt64, lg_cmp_ge, lg_cmp_le, lg_cmp_gt, lg_cmp_lt, lg_cmp_eq, Bool.false_eq_true, Bool.true_eq_false, reduceCtorEq, false_iff, true_iff, iff_true, iff_false, and_true, true_and, and_false, false_and, reduceIte, ite_true, ite_false, eq_self] at *)) <;> omega) (fun s50 hs50 => ?_)
                                  have Fs50 : Fm [120, 121, 123, 124, 130, 131, 132] [] σ s50 := by rw [hs50]; exact Fm.si Fs46 rfl
                                  refine wa_aload_n (i := 0) rfl rfl ?_
                                  refine wa_getr ck_12 fl_12_337 ly_84 rf_84_133 ?_
                                  refine wa_iload rfl ?_
                                  refine wa_aload_n (i := 0) rfl rfl ?_
                                  refine wa_getr ck_12 fl_12_337 ly_84 rf_84_133 ?_
                                  refine wa_iload rfl ?_
                                  refine wa_iald ly_123 (by ((try simp only [vp_in_iff, Int32.lt_iff_toInt_lt, Int32.le_iff_toInt_le, ← Int32.toInt_inj, Int32.reduceToInt, n_1, n_2, n_8, Int32.toNatClampNeg, Int64.lt_iff_toInt_lt, Int64.le_iff_toInt_le, ← Int64.toInt_inj, Int64.reduceToInt, Int32.toInt_toInt64, lg_cmp_ge, lg_cmp_le, lg_cmp_gt, lg_cmp_lt, lg_cmp_eq, Bool.false_eq_true, Bool.true_eq_false, reduceCtorEq, false_iff, true_iff, iff_true, iff_false, and_true, true_and, and_false, false_and, reduceIte, ite_true, ite_false, eq_self] at *)) <;> omega) ?_
                                  refine wa_aload_n (i := 0) rfl rfl ?_
                                  refine wa_getr ck_12 fl_12_346 ly_84 rf_84_136 ?_
                                  refine wa_iload rfl ?_
                                  refine wa_iald ly_120 (by ((try simp only [vp_in_iff, Int32.lt_iff_toInt_lt, Int32.le_iff_toInt_le, ← Int32.toInt_inj, Int32.reduceToInt, n_1, n_2, n_8, Int32.toNatClampNeg, Int64.lt_iff_toInt_lt, Int64.le_iff_toInt_le, ← Int64.toInt_inj, Int64.reduceToInt, Int32.toInt_toInt64, lg_cmp_ge, lg_cmp_le, lg_cmp_gt, lg_cmp_lt, lg_cmp_eq, Bool.false_eq_true, Bool.true_eq_false, reduceCtorEq, false_iff, true_iff, iff_true, iff_false, and_true, true_and, and_false, false_and, reduceIte, ite_true, ite_false, eq_self] at *)) <;> omega) ?_
                                  refine wa_iconst (v := 2) (by decide) ?_
                                  refine wa_idiv (by ((try simp only [vp_in_iff, Int32.lt_iff_toInt_lt, Int32.le_iff_toInt_le, ← Int32.toInt_inj, Int32.reduceToInt, n_1, n_2, n_8, Int32.toNatClampNeg, Int64.lt_iff_toInt_lt, Int64.le_iff_toInt_le, ← Int64.toInt_inj, Int64.reduceToInt, Int32.toInt_toInt64, lg_cmp_ge, lg_cmp_le, lg_cmp_gt, lg_cmp_lt, lg_cmp_eq, Bool.false_eq_true, Bool.true_eq_false, reduceCtorEq, false_iff, true_iff, iff_true, iff_false, and_true, true_and, and_false, false_and, reduceIte, ite_true, ite_false, eq_self] at *)) <;> omega) ?_
                                  refine wa_top (fun v51 hv51 => ?_)
                                  have tv51 := i_divU hv51
                                  clear hv51
                                  refine wa_iload rfl ?_
                                  refine wa_ishl ?_
                                  refine wa_top (fun v52 hv52 => ?_)
                                  clear hv52
                                  refine wa_ior ?_
                                  refine wa_top (fun v53 hv53 => ?_)
                                  clear hv53
                                  refine wa_iast ly_123 (by ((try simp only [vp_in_iff, Int32.lt_iff_toInt_lt, Int32.le_iff_toInt_le, ← Int32.toInt_inj, Int32.reduceToInt, n_1, n_2, n_8, Int32.toNatClampNeg, Int64.lt_iff_toInt_lt, Int64.le_iff_toInt_le, ← Int64.toInt_inj, Int64.reduceToInt, Int32.toInt_toInt64, lg_cmp_ge, lg_cmp_le, lg_cmp_gt, lg_cmp_lt, lg_cmp_eq, Bool.false_eq_true, Bool.true_eq_false, reduceCtorEq, false_iff, true_iff, iff_true, iff_false, and_true, true_and, and_false, false_and, reduceIte, ite_true, ite_false, eq_self] at *)) <;> omega) (fun s54 hs54 => ?_)
                                  have Fs54 : Fm [120, 121, 123, 124, 130, 131, 132] [] σ s54 := by rw [hs54]; exact Fm.si Fs50 rfl
                                  refine wa_iinc (v := (1)) (lv' := fun y55 => [(5, .int y55), (7, .int v24), (0, .ref 84), (1, .int a0), (2, .int a1), (3, .int a2), (4, .int l4), (6, .int l6)]) (by decide) rfl (by decide) (fun _ => rfl) (fun y55 hy55 => ?_)
                                  have ty55 := i_addT hy55.symm
                                  clear hy55
                                  refine wa_goto o_X12_judge_56 (by decide) ?_
                                  refine wa_pick [2, 3, 4, 5, 6, 0] rfl ?_
                                  exact ih12 _ (by ((try simp only [vp_in_iff, Int32.lt_iff_toInt_lt, Int32.le_iff_toInt_le, ← Int32.toInt_inj, Int32.reduceToInt, n_1, n_2, n_8, Int32.toNatClampNeg, Int64.lt_iff_toInt_lt, Int64.le_iff_toInt_le, ← Int64.toInt_inj, Int64.reduceToInt, Int32.toInt_toInt64, lg_cmp_ge, lg_cmp_le, lg_cmp_gt, lg_cmp_lt, lg_cmp_eq, Bool.false_eq_true, Bool.true_eq_false, reduceCtorEq, false_iff, true_iff, iff_true, iff_false, and_true, true_and, and_false, false_and, reduceIte, ite_true, ite_false, eq_self] at *)) <;> omega) _ _ ⟨Fs54, ((nxq_gi_si hs54 (by decide)).trans ((nxq_gi_si hs50 (by decide)).trans ((nxq_gi_si hs46 (by decide)).trans ((nxq_gi_si hs28 (by decide)).trans ((Fm.gi fs26 (q := 84) (k := 119) rfl rfl).trans (khi18_0)))))), ((nxq_gi_si hs54 (by decide)).trans ((nxq_gi_si hs50 (by decide)).trans ((nxq_gi_si hs46 (by decide)).trans ((nxq_gi_si hs28 (by decide)).trans ((Fm.gi fs26 (q := 84) (k := 32) rfl rfl).trans (khi18_1)))))), ((nxq_gi_si hs54 (by decide)).trans ((nxq_gi_si hs50 (by decide)).trans ((nxq_gi_si hs46 (by decide)).trans ((nxq_gi_si hs28 (by decide)).trans ((Fm.gi fs26 (q := 84) (k := 33) rfl rfl).trans (khi18_2)))))), ((nxq_gi_si hs54 (by decide)).trans ((nxq_gi_si hs50 (by decide)).trans ((nxq_gi_si hs46 (by decide)).trans ((nxq_gi_si hs28 (by decide)).trans ((Fm.gi fs26 (q := 84) (k := 129) rfl rfl).trans (khi18_3)))))), ((nxq_gi_si hs54 (by decide)).trans ((nxq_gi_si hs50 (by decide)).trans ((nxq_gi_si hs46 (by decide)).trans ((nxq_gi_si hs28 (by decide)).trans ((Fm.gi fs26 (q := 84) (k := 131) rfl rfl).trans (khi18_4)))))), (by ((try simp only [vp_in_iff, Int32.lt_iff_toInt_lt, Int32.le_iff_toInt_le, ← Int32.toInt_inj, Int32.reduceToInt, n_1, n_2, n_8, Int32.toNatClampNeg, Int64.lt_iff_toInt_lt, Int64.le_iff_toInt_le, ← Int64.toInt_inj, Int64.reduceToInt, Int32.toInt_toInt64, lg_cmp_ge, lg_cmp_le, lg_cmp_gt, lg_cmp_lt, lg_cmp_eq, Bool.false_eq_true, Bool.true_eq_false, reduceCtorEq, false_iff, true_iff, iff_true, iff_false, and_true, true_and, and_false, false_and, reduceIte, ite_true, ite_false, eq_self] at *)) <;> omega), trivial⟩ rfl
                                · replace h44 := bI_t (b := (gb s28 131 (a2).toNatClampNeg)) (rfl) h44
                                  refine wa_iconst (v := 2) (by decide) ?_
                                  refine wa_goto o_X12_judge_232 (by decide) ?_
                                  refine wa_iadd ?_
                                  refine wa_top (fun v56 hv56 => ?_)
                                  have tv56 := i_addT hv56
                                  clear hv56
                                  refine wa_iast ly_120 (by ((try simp only [vp_in_iff, Int32.lt_iff_toInt_lt, Int32.le_iff_toInt_le, ← Int32.toInt_inj, Int32.reduceToInt, n_1, n_2, n_8, Int32.toNatClampNeg, Int64.lt_iff_toInt_lt, Int64.le_iff_toInt_le, ← Int64.toInt_inj, Int64.reduceToInt, Int32.toInt_toInt64, lg_cmp_ge, lg_cmp_le, lg_cmp_gt, lg_cmp_lt, lg_cmp_eq, Bool.false_eq_true, Bool.true_eq_false, reduceCtorEq, false_iff, true_iff, iff_true, iff_false, and_true, true_and, and_false, false_and, reduceIte, ite_true, ite_false, eq_self] at *)) <;> omega) (fun s57 hs57 => ?_)
                                  have Fs57 : Fm [120, 121, 123, 124, 130, 131, 132] [] σ s57 := by rw [hs57]; exact Fm.si Fs28 rfl
                                  refine wa_aload_n (i := 0) rfl rfl ?_
                                  refine wa_getr ck_12 fl_12_334 ly_84 rf_84_132 ?_
                                  refine wa_iload rfl ?_
                                  refine wa_aload_n (i := 0) rfl rfl ?_
                                  refine wa_getr ck_12 fl_12_334 ly_84 rf_84_132 ?_
                                  refine wa_iload rfl ?_
                                  refine wa_iald ly_124 (by ((try simp only [vp_in_iff, Int32.lt_iff_toInt_lt, Int32.le_iff_toInt_le, ← Int32.toInt_inj, Int32.reduceToInt, n_1, n_2, n_8, Int32.toNatClampNeg, Int64.lt_iff_toInt_lt, Int64.le_iff_toInt_le, ← Int64.toInt_inj, Int64.reduceToInt, Int32.toInt_toInt64, lg_cmp_ge, lg_cmp_le, lg_cmp_gt, lg_cmp_lt, lg_cmp_eq, Bool.false_eq_true, Bool.true_eq_false, reduceCtorEq, false_iff, true_iff, iff_true, iff_false, and_true, true_and, and_false, false_and, reduceIte, ite_true, ite_false, eq_self] at *)) <;> omega) ?_
                                  refine wa_aload_n (i := 0) rfl rfl ?_
                                  refine wa_getr ck_12 fl_12_346 ly_84 rf_84_136 ?_
                                  refine wa_iload rfl ?_
                                  refine wa_iald ly_120 (by ((try simp only [vp_in_iff, Int32.lt_iff_toInt_lt, Int32.le_iff_toInt_le, ← Int32.toInt_inj, Int32.reduceToInt, n_1, n_2, n_8, Int32.toNatClampNeg, Int64.lt_iff_toInt_lt, Int64.le_iff_toInt_le, ← Int64.toInt_inj, Int64.reduceToInt, Int32.toInt_toInt64, lg_cmp_ge, lg_cmp_le, lg_cmp_gt, lg_cmp_lt, lg_cmp_eq, Bool.false_eq_true, Bool.true_eq_false, reduceCtorEq, false_iff, true_iff, iff_true, iff_false, and_true, true_and, and_false, false_and, reduceIte, ite_true, ite_false, eq_self] at *)) <;> omega) ?_
                                  refine wa_iconst (v := 2) (by decide) ?_
                                  refine wa_irem (by ((try simp only [vp_in_iff, Int32.lt_iff_toInt_lt, Int32.le_iff_toInt_le, ← Int32.toInt_inj, Int32.reduceToInt, n_1, n_2, n_8, Int32.toNatClampNeg, Int64.lt_iff_toInt_lt, Int64.le_iff_toInt_le, ← Int64.toInt_inj, Int64.reduceToInt, Int32.toInt_toInt64, lg_cmp_ge, lg_cmp_le, lg_cmp_gt, lg_cmp_lt, lg_cmp_eq, Bool.false_eq_true, Bool.true_eq_false, reduceCtorEq, false_iff, true_iff, iff_true, iff_false, and_true, true_and, and_false, false_and, reduceIte, ite_true, ite_false, eq_self] at *)) <;> omega) ?_
                                  refine wa_top (fun v58 hv58 => ?_)
                                  have tv58 := i_remU hv58
                                  clear hv58
                                  refine wa_iload rfl ?_
                                  refine wa_ishl ?_
                                  refine wa_top (fun v59 hv59 => ?_)
                                  clear hv59
                                  refine wa_ior ?_
                                  refine wa_top (fun v60 hv60 => ?_)
                                  clear hv60
                                  refine wa_iast ly_124 (by ((try simp only [vp_in_iff, Int32.lt_iff_toInt_lt, Int32.le_iff_toInt_le, ← Int32.toInt_inj, Int32.reduceToInt, n_1, n_2, n_8, Int32.toNatClampNeg, Int64.lt_iff_toInt_lt, Int64.le_iff_toInt_le, ← Int64.toInt_inj, Int64.reduceToInt, Int32.toInt_toInt64, lg_cmp_ge, lg_cmp_le, lg_cmp_gt, lg_cmp_lt, lg_cmp_eq, Bool.false_eq_true, Bool.true_eq_false, reduceCtorEq, false_iff, true_iff, iff_true, iff_false, and_true, true_and, and_false, false_and, reduceIte, ite_true, ite_false, eq_self] at *)) <;> omega) (fun s61 hs61 => ?_)
                                  have Fs61 : Fm [120, 121, 123, 124, 130, 131, 132] [] σ s61 := by rw [hs61]; exact Fm.si Fs57 rfl
                                  refine wa_aload_n (i := 0) rfl rfl ?_
                                  refine wa_getr ck_12 fl_12_337 ly_84 rf_84_133 ?_
                                  refine wa_iload rfl ?_
                                  refine wa_aload_n (i := 0) rfl rfl ?_
                                  refine wa_getr ck_12 fl_12_337 ly_84 rf_84_133 ?_
                                  refine wa_iload rfl ?_
                                  refine wa_iald ly_123 (by ((try simp only [vp_in_iff, Int32.lt_iff_toInt_lt, Int32.le_iff_toInt_le, ← Int32.toInt_inj, Int32.reduceToInt, n_1, n_2, n_8, Int32.toNatClampNeg, Int64.lt_iff_toInt_lt, Int64.le_iff_toInt_le, ← Int64.toInt_inj, Int64.reduceToInt, Int32.toInt_toInt64, lg_cmp_ge, lg_cmp_le, lg_cmp_gt, lg_cmp_lt, lg_cmp_eq, Bool.false_eq_true, Bool.true_eq_false, reduceCtorEq, false_iff, true_iff, iff_true, iff_false, and_true, true_and, and_false, false_and, reduceIte, ite_true, ite_false, eq_self] at *)) <;> omega) ?_
                                  refine wa_aload_n (i := 0) rfl rfl ?_
                                  refine wa_getr ck_12 fl_12_346 ly_84 rf_84_136 ?_
                                  refine wa_iload rfl ?_
                                  refine wa_iald ly_120 (by ((try simp only [vp_in_iff, Int32.lt_iff_toInt_lt, Int32.le_iff_toInt_le, ← Int32.toInt_inj, Int32.reduceToInt, n_1, n_2, n_8, Int32.toNatClampNeg, Int64.lt_iff_toInt_lt, Int64.le_iff_toInt_le, ← Int64.toInt_inj, Int64.reduceToInt, Int32.toInt_toInt64, lg_cmp_ge, lg_cmp_le, lg_cmp_gt, lg_cmp_lt, lg_cmp_eq, Bool.false_eq_true, Bool.true_eq_false, reduceCtorEq, false_iff, true_iff, iff_true, iff_false, and_true, true_and, and_false, false_and, reduceIte, ite_true, ite_false, eq_self] at *)) <;> omega) ?_
                                  refine wa_iconst (v := 2) (by decide) ?_
                                  refine wa_idiv (by ((try simp only [vp_in_iff, Int32.lt_iff_toInt_lt, Int32.le_iff_toInt_le, ← Int32.toInt_inj, Int32.reduceToInt, n_1, n_2, n_8, Int32.toNatClampNeg, Int64.lt_iff_toInt_lt, Int64.le_iff_toInt_le, ← Int64.toInt_inj, Int64.reduceToInt, Int32.toInt_toInt64, lg_cmp_ge, lg_cmp_le, lg_cmp_gt, lg_cmp_lt, lg_cmp_eq, Bool.false_eq_true, Bool.true_eq_false, reduceCtorEq, false_iff, true_iff, iff_true, iff_false, and_true, true_and, and_false, false_and, reduceIte, ite_true, ite_false, eq_self] at *)) <;> omega) ?_
                                  refine wa_top (fun v62 hv62 => ?_)
                                  have tv62 := i_divU hv62
                                  clear hv62
                                  refine wa_iload rfl ?_
                                  refine wa_ishl ?_
                                  refine wa_top (fun v63 hv63 => ?_)
                                  clear hv63
                                  refine wa_ior ?_
                                  refine wa_top (fun v64 hv64 => ?_)
                                  clear hv64
                                  refine wa_iast ly_123 (by ((try simp only [vp_in_iff, Int32.lt_iff_toInt_lt, Int32.le_iff_toInt_le, ← Int32.toInt_inj, Int32.reduceToInt, n_1, n_2, n_8, Int32.toNatClampNeg, Int64.lt_iff_toInt_lt, Int64.le_iff_toInt_le, ← Int64.toInt_inj, Int64.reduceToInt, Int32.toInt_toInt64, lg_cmp_ge, lg_cmp_le, lg_cmp_gt, lg_cmp_lt, lg_cmp_eq, Bool.false_eq_true, Bool.true_eq_false, reduceCtorEq, false_iff, true_iff, iff_true, iff_false, and_true, true_and, and_false, false_and, reduceIte, ite_true, ite_false, eq_self] at *)) <;> omega) (fun s65 hs65 => ?_)
                                  have Fs65 : Fm [120, 121, 123, 124, 130, 131, 132] [] σ s65 := by rw [hs65]; exact Fm.si Fs61 rfl
                                  refine wa_iinc (v := (1)) (lv' := fun y66 => [(5, .int y66), (7, .int v24), (0, .ref 84), (1, .int a0), (2, .int a1), (3, .int a2), (4, .int l4), (6, .int l6)]) (by decide) rfl (by decide) (fun _ => rfl) (fun y66 hy66 => ?_)
                                  have ty66 := i_addT hy66.symm
                                  clear hy66
                                  refine wa_goto o_X12_judge_56 (by decide) ?_
                                  refine wa_pick [2, 3, 4, 5, 6, 0] rfl ?_
                                  exact ih12 _ (by ((try simp only [vp_in_iff, Int32.lt_iff_toInt_lt, Int32.le_iff_toInt_le, ← Int32.toInt_inj, Int32.reduceToInt, n_1, n_2, n_8, Int32.toNatClampNeg, Int64.lt_iff_toInt_lt, Int64.le_iff_toInt_le, ← Int64.toInt_inj, Int64.reduceToInt, Int32.toInt_toInt64, lg_cmp_ge, lg_cmp_le, lg_cmp_gt, lg_cmp_lt, lg_cmp_eq, Bool.false_eq_true, Bool.true_eq_false, reduceCtorEq, false_iff, true_iff, iff_true, iff_false, and_true, true_and, and_false, false_and, reduceIte, ite_true, ite_false, eq_self] at *)) <;> omega) _ _ ⟨Fs65, ((nxq_gi_si hs65 (by decide)).trans ((nxq_gi_si hs61 (by decide)).trans ((nxq_gi_si hs57 (by decide)).trans ((nxq_gi_si hs28 (by decide)).trans ((Fm.gi fs26 (q := 84) (k := 119) rfl rfl).trans (khi18_0)))))), ((nxq_gi_si hs65 (by decide)).trans ((nxq_gi_si hs61 (by decide)).trans ((nxq_gi_si hs57 (by decide)).trans ((nxq_gi_si hs28 (by decide)).trans ((Fm.gi fs26 (q := 84) (k := 32) rfl rfl).trans (khi18_1)))))), ((nxq_gi_si hs65 (by decide)).trans ((nxq_gi_si hs61 (by decide)).trans ((nxq_gi_si hs57 (by decide)).trans ((nxq_gi_si hs28 (by decide)).trans ((Fm.gi fs26 (q := 84) (k := 33) rfl rfl).trans (khi18_2)))))), ((nxq_gi_si hs65 (by decide)).trans ((nxq_gi_si hs61 (by decide)).trans ((nxq_gi_si hs57 (by decide)).trans ((nxq_gi_si hs28 (by decide)).trans ((Fm.gi fs26 (q := 84) (k := 129) rfl rfl).trans (khi18_3)))))), ((nxq_gi_si hs65 (by decide)).trans ((nxq_gi_si hs61 (by decide)).trans ((nxq_gi_si hs57 (by decide)).trans ((nxq_gi_si hs28 (by decide)).trans ((Fm.gi fs26 (q := 84) (k := 131) rfl rfl).trans (khi18_4)))))), (by ((try simp only [vp_in_iff, Int32.lt_iff_toInt_lt, Int32.le_iff_toInt_le, ← Int32.toInt_inj, Int32.reduceToInt, n_1, n_2, n_8, Int32.toNatClampNeg, Int64.lt_iff_toInt_lt, Int64.le_iff_toInt_le, ← Int64.toInt_inj, Int64.reduceToInt, Int32.toInt_toInt64, lg_cmp_ge, lg_cmp_le, lg_cmp_gt, lg_cmp_lt, lg_cmp_eq, Bool.false_eq_true, Bool.true_eq_false, reduceCtorEq, false_iff, true_iff, iff_true, iff_false, and_true, true_and, and_false, false_and, reduceIte, ite_true, ite_false, eq_self] at *)) <;> omega), trivial⟩ rfl
                            · replace h31 := bI_t (b := bx30) (rfl) h31
                              refine wa_iconst (v := 1) (by decide) ?_
                              refine wa_goto o_X12_judge_213 (by decide) ?_
                              refine wa_iload_n (i := 3) rfl rfl ?_
                              refine wa_iconst (v := (-1)) (by decide) ?_
                              refine wa_icmp_eq o_X12_judge_231 (by decide) (fun h67 => ?_) (fun h67 => ?_)
                              · refine wa_iconst (v := 0) (by decide) ?_
                                refine wa_iadd ?_
                                refine wa_top (fun v68 hv68 => ?_)
                                have tv68 := i_addT hv68
                                clear hv68
                                refine wa_iast ly_120 (by ((try simp only [vp_in_iff, Int32.lt_iff_toInt_lt, Int32.le_iff_toInt_le, ← Int32.toInt_inj, Int32.reduceToInt, n_1, n_2, n_8, Int32.toNatClampNeg, Int64.lt_iff_toInt_lt, Int64.le_iff_toInt_le, ← Int64.toInt_inj, Int64.reduceToInt, Int32.toInt_toInt64, lg_cmp_ge, lg_cmp_le, lg_cmp_gt, lg_cmp_lt, lg_cmp_eq, Bool.false_eq_true, Bool.true_eq_false, reduceCtorEq, false_iff, true_iff, iff_true, iff_false, and_true, true_and, and_false, false_and, reduceIte, ite_true, ite_false, eq_self] at *)) <;> omega) (fun s69 hs69 => ?_)
                                have Fs69 : Fm [120, 121, 123, 124, 130, 131, 132] [] σ s69 := by rw [hs69]; exact Fm.si Fs28 rfl
                                refine wa_aload_n (i := 0) rfl rfl ?_
                                refine wa_getr ck_12 fl_12_334 ly_84 rf_84_132 ?_
                                refine wa_iload rfl ?_
                                refine wa_aload_n (i := 0) rfl rfl ?_
                                refine wa_getr ck_12 fl_12_334 ly_84 rf_84_132 ?_
                                refine wa_iload rfl ?_
                                refine wa_iald ly_124 (by ((try simp only [vp_in_iff, Int32.lt_iff_toInt_lt, Int32.le_iff_toInt_le, ← Int32.toInt_inj, Int32.reduceToInt, n_1, n_2, n_8, Int32.toNatClampNeg, Int64.lt_iff_toInt_lt, Int64.le_iff_toInt_le, ← Int64.toInt_inj, Int64.reduceToInt, Int32.toInt_toInt64, lg_cmp_ge, lg_cmp_le, lg_cmp_gt, lg_cmp_lt, lg_cmp_eq, Bool.false_eq_true, Bool.true_eq_false, reduceCtorEq, false_iff, true_iff, iff_true, iff_false, and_true, true_and, and_false, false_and, reduceIte, ite_true, ite_false, eq_self] at *)) <;> omega) ?_
                                refine wa_aload_n (i := 0) rfl rfl ?_
                                refine wa_getr ck_12 fl_12_346 ly_84 rf_84_136 ?_
                                refine wa_iload rfl ?_
                                refine wa_iald ly_120 (by ((try simp only [vp_in_iff, Int32.lt_iff_toInt_lt, Int32.le_iff_toInt_le, ← Int32.toInt_inj, Int32.reduceToInt, n_1, n_2, n_8, Int32.toNatClampNeg, Int64.lt_iff_toInt_lt, Int64.le_iff_toInt_le, ← Int64.toInt_inj, Int64.reduceToInt, Int32.toInt_toInt64, lg_cmp_ge, lg_cmp_le, lg_cmp_gt, lg_cmp_lt, lg_cmp_eq, Bool.false_eq_true, Bool.true_eq_false, reduceCtorEq, false_iff, true_iff, iff_true, iff_false, and_true, true_and, and_false, false_and, reduceIte, ite_true, ite_false, eq_self] at *)) <;> omega) ?_
                                refine wa_iconst (v := 2) (by decide) ?_
                                refine wa_irem (by ((try simp only [vp_in_iff, Int32.lt_iff_toInt_lt, Int32.le_iff_toInt_le, ← Int32.toInt_inj, Int32.reduceToInt, n_1, n_2, n_8, Int32.toNatClampNeg, Int64.lt_iff_toInt_lt, Int64.le_iff_toInt_le, ← Int64.toInt_inj, Int64.reduceToInt, Int32.toInt_toInt64, lg_cmp_ge, lg_cmp_le, lg_cmp_gt, lg_cmp_lt, lg_cmp_eq, Bool.false_eq_true, Bool.true_eq_false, reduceCtorEq, false_iff, true_iff, iff_true, iff_false, and_true, true_and, and_false, false_and, reduceIte, ite_true, ite_false, eq_self] at *)) <;> omega) ?_
                                refine wa_top (fun v70 hv70 => ?_)
                                have tv70 := i_remU hv70
                                clear hv70
                                refine wa_iload rfl ?_
                                refine wa_ishl ?_
                                refine wa_top (fun v71 hv71 => ?_)
                                clear hv71
                                refine wa_ior ?_
                                refine wa_top (fun v72 hv72 => ?_)
                                clear hv72
                                refine wa_iast ly_124 (by ((try simp only [vp_in_iff, Int32.lt_iff_toInt_lt, Int32.le_iff_toInt_le, ← Int32.toInt_inj, Int32.reduceToInt, n_1, n_2, n_8, Int32.toNatClampNeg, Int64.lt_iff_toInt_lt, Int64.le_iff_toInt_le, ← Int64.toInt_inj, Int64.reduceToInt, Int32.toInt_toInt64, lg_cmp_ge, lg_cmp_le, lg_cmp_gt, lg_cmp_lt, lg_cmp_eq, Bool.false_eq_true, Bool.true_eq_false, reduceCtorEq, false_iff, true_iff, iff_true, iff_false, and_true, true_and, and_false, false_and, reduceIte, ite_true, ite_false, eq_self] at *)) <;> omega) (fun s73 hs73 => ?_)
                                have Fs73 : Fm [120, 121, 123, 124, 130, 131, 132] [] σ s73 := by rw [hs73]; exact Fm.si Fs69 rfl
                                refine wa_aload_n (i := 0) rfl rfl ?_
                                refine wa_getr ck_12 fl_12_337 ly_84 rf_84_133 ?_
                                refine wa_iload rfl ?_
                                refine wa_aload_n (i := 0) rfl rfl ?_
                                refine wa_getr ck_12 fl_12_337 ly_84 rf_84_133 ?_
                                refine wa_iload rfl ?_
                                refine wa_iald ly_123 (by ((try simp only [vp_in_iff, Int32.lt_iff_toInt_lt, Int32.le_iff_toInt_le, ← Int32.toInt_inj, Int32.reduceToInt, n_1, n_2, n_8, Int32.toNatClampNeg, Int64.lt_iff_toInt_lt, Int64.le_iff_toInt_le, ← Int64.toInt_inj, Int64.reduceToInt, Int32.toInt_toInt64, lg_cmp_ge, lg_cmp_le, lg_cmp_gt, lg_cmp_lt, lg_cmp_eq, Bool.false_eq_true, Bool.true_eq_false, reduceCtorEq, false_iff, true_iff, iff_true, iff_false, and_true, true_and, and_false, false_and, reduceIte, ite_true, ite_false, eq_self] at *)) <;> omega) ?_
                                refine wa_aload_n (i := 0) rfl rfl ?_
                                refine wa_getr ck_12 fl_12_346 ly_84 rf_84_136 ?_
                                refine wa_iload rfl ?_
                                refine wa_iald ly_120 (by ((try simp only [vp_in_iff, Int32.lt_iff_toInt_lt, Int32.le_iff_toInt_le, ← Int32.toInt_inj, Int32.reduceToInt, n_1, n_2, n_8, Int32.toNatClampNeg, Int64.lt_iff_toInt_lt, Int64.le_iff_toInt_le, ← Int64.toInt_inj, Int64.reduceToInt, Int32.toInt_toInt64, lg_cmp_ge, lg_cmp_le, lg_cmp_gt, lg_cmp_lt, lg_cmp_eq, Bool.false_eq_true, Bool.true_eq_false, reduceCtorEq, false_iff, true_iff, iff_true, iff_false, and_true, true_and, and_false, false_and, reduceIte, ite_true, ite_false, eq_self] at *)) <;> omega) ?_
                                refine wa_iconst (v := 2) (by decide) ?_
                                refine wa_idiv (by ((try simp only [vp_in_iff, Int32.lt_iff_toInt_lt, Int32.le_iff_toInt_le, ← Int32.toInt_inj, Int32.reduceToInt, n_1, n_2, n_8, Int32.toNatClampNeg, Int64.lt_iff_toInt_lt, Int64.le_iff_toInt_le, ← Int64.toInt_inj, Int64.reduceToInt, Int32.toInt_toInt64, lg_cmp_ge, lg_cmp_le, lg_cmp_gt, lg_cmp_lt, lg_cmp_eq, Bool.false_eq_true, Bool.true_eq_false, reduceCtorEq, false_iff, true_iff, iff_true, iff_false, and_true, true_and, and_false, false_and, reduceIte, ite_true, ite_false, eq_self] at *)) <;> omega) ?_
                                refine wa_top (fun v74 hv74 => ?_)
                                have tv74 := i_divU hv74
                                clear hv74
                                refine wa_iload rfl ?_
                                refine wa_ishl ?_
                                refine wa_top (fun v75 hv75 => ?_)
                                clear hv75
                                refine wa_ior ?_
                                refine wa_top (fun v76 hv76 => ?_)
                                clear hv76
                                refine wa_iast ly_123 (by ((try simp only [vp_in_iff, Int32.lt_iff_toInt_lt, Int32.le_iff_toInt_le, ← Int32.toInt_inj, Int32.reduceToInt, n_1, n_2, n_8, Int32.toNatClampNeg, Int64.lt_iff_toInt_lt, Int64.le_iff_toInt_le, ← Int64.toInt_inj, Int64.reduceToInt, Int32.toInt_toInt64, lg_cmp_ge, lg_cmp_le, lg_cmp_gt, lg_cmp_lt, lg_cmp_eq, Bool.false_eq_true, Bool.true_eq_false, reduceCtorEq, false_iff, true_iff, iff_true, iff_false, and_true, true_and, and_false, false_and, reduceIte, ite_true, ite_false, eq_self] at *)) <;> omega) (fun s77 hs77 => ?_)
                                have Fs77 : Fm [120, 121, 123, 124, 130, 131, 132] [] σ s77 := by rw [hs77]; exact Fm.si Fs73 rfl
                                refine wa_iinc (v := (1)) (lv' := fun y78 => [(5, .int y78), (7, .int v24), (0, .ref 84), (1, .int a0), (2, .int a1), (3, .int a2), (4, .int l4), (6, .int l6)]) (by decide) rfl (by decide) (fun _ => rfl) (fun y78 hy78 => ?_)
                                have ty78 := i_addT hy78.symm
                                clear hy78
                                refine wa_goto o_X12_judge_56 (by decide) ?_
                                refine wa_pick [2, 3, 4, 5, 6, 0] rfl ?_
                                exact ih12 _ (by ((try simp only [vp_in_iff, Int32.lt_iff_toInt_lt, Int32.le_iff_toInt_le, ← Int32.toInt_inj, Int32.reduceToInt, n_1, n_2, n_8, Int32.toNatClampNeg, Int64.lt_iff_toInt_lt, Int64.le_iff_toInt_le, ← Int64.toInt_inj, Int64.reduceToInt, Int32.toInt_toInt64, lg_cmp_ge, lg_cmp_le, lg_cmp_gt, lg_cmp_lt, lg_cmp_eq, Bool.false_eq_true, Bool.true_eq_false, reduceCtorEq, false_iff, true_iff, iff_true, iff_false, and_true, true_and, and_false, false_and, reduceIte, ite_true, ite_false, eq_self] at *)) <;> omega) _ _ ⟨Fs77, ((nxq_gi_si hs77 (by decide)).trans ((nxq_gi_si hs73 (by decide)).trans ((nxq_gi_si hs69 (by decide)).trans ((nxq_gi_si hs28 (by decide)).trans ((Fm.gi fs26 (q := 84) (k := 119) rfl rfl).trans (khi18_0)))))), ((nxq_gi_si hs77 (by decide)).trans ((nxq_gi_si hs73 (by decide)).trans ((nxq_gi_si hs69 (by decide)).trans ((nxq_gi_si hs28 (by decide)).trans ((Fm.gi fs26 (q := 84) (k := 32) rfl rfl).trans (khi18_1)))))), ((nxq_gi_si hs77 (by decide)).trans ((nxq_gi_si hs73 (by decide)).trans ((nxq_gi_si hs69 (by decide)).trans ((nxq_gi_si hs28 (by decide)).trans ((Fm.gi fs26 (q := 84) (k := 33) rfl rfl).trans (khi18_2)))))), ((nxq_gi_si hs77 (by decide)).trans ((nxq_gi_si hs73 (by decide)).trans ((nxq_gi_si hs69 (by decide)).trans ((nxq_gi_si hs28 (by decide)).trans ((Fm.gi fs26 (q := 84) (k := 129) rfl rfl).trans (khi18_3)))))), ((nxq_gi_si hs77 (by decide)).trans ((nxq_gi_si hs73 (by decide)).trans ((nxq_gi_si hs69 (by decide)).trans ((nxq_gi_si hs28 (by decide)).trans ((Fm.gi fs26 (q := 84) (k := 131) rfl rfl).trans (khi18_4)))))), (by ((try simp only [vp_in_iff, Int32.lt_iff_toInt_lt, Int32.le_iff_toInt_le, ← Int32.toInt_inj, Int32.reduceToInt, n_1, n_2, n_8, Int32.toNatClampNeg, Int64.lt_iff_toInt_lt, Int64.le_iff_toInt_le, ← Int64.toInt_inj, Int64.reduceToInt, Int32.toInt_toInt64, lg_cmp_ge, lg_cmp_le, lg_cmp_gt, lg_cmp_lt, lg_cmp_eq, Bool.false_eq_true, Bool.true_eq_false, reduceCtorEq, false_iff, true_iff, iff_true, iff_false, and_true, true_and, and_false, false_and, reduceIte, ite_true, ite_false, eq_self] at *)) <;> omega), trivial⟩ rfl
                              · refine wa_aload_n (i := 0) rfl rfl ?_
                                refine wa_getr ck_12 fl_12_310 ly_84 rf_84_123 ?_
                                refine wa_iload_n (i := 3) rfl rfl ?_
                                refine wa_zald ly_131 (by ((try simp only [vp_in_iff, Int32.lt_iff_toInt_lt, Int32.le_iff_toInt_le, ← Int32.toInt_inj, Int32.reduceToInt, n_1, n_2, n_8, Int32.toNatClampNeg, Int64.lt_iff_toInt_lt, Int64.le_iff_toInt_le, ← Int64.toInt_inj, Int64.reduceToInt, Int32.toInt_toInt64, lg_cmp_ge, lg_cmp_le, lg_cmp_gt, lg_cmp_lt, lg_cmp_eq, Bool.false_eq_true, Bool.true_eq_false, reduceCtorEq, false_iff, true_iff, iff_true, iff_false, and_true, true_and, and_false, false_and, reduceIte, ite_true, ite_false, eq_self] at *)) <;> omega) ?_
                                refine wa_if_eq o_X12_judge_231 (by decide) (fun h79 => ?_) (fun h79 => ?_)
                                · replace h79 := bI_f (b := (gb s28 131 (a2).toNatClampNeg)) (rfl) h79
                                  refine wa_iconst (v := 0) (by decide) ?_
                                  refine wa_iadd ?_
                                  refine wa_top (fun v80 hv80 => ?_)
                                  have tv80 := i_addT hv80
                                  clear hv80
                                  refine wa_iast ly_120 (by ((try simp only [vp_in_iff, Int32.lt_iff_toInt_lt, Int32.le_iff_toInt_le, ← Int32.toInt_inj, Int32.reduceToInt, n_1, n_2, n_8, Int32.toNatClampNeg, Int64.lt_iff_toInt_lt, Int64.le_iff_toInt_le, ← Int64.toInt_inj, Int64.reduceToInt, Int32.toInt_toInt64, lg_cmp_ge, lg_cmp_le, lg_cmp_gt, lg_cmp_lt, lg_cmp_eq, Bool.false_eq_true, Bool.true_eq_false, reduceCtorEq, false_iff, true_iff, iff_true, iff_false, and_true, true_and, and_false, false_and, reduceIte, ite_true, ite_false, eq_self] at *)) <;> omega) (fun s81 hs81 => ?_)
                                  have Fs81 : Fm [120, 121, 123, 124, 130, 131, 132] [] σ s81 := by rw [hs81]; exact Fm.si Fs28 rfl
                                  refine wa_aload_n (i := 0) rfl rfl ?_
                                  refine wa_getr ck_12 fl_12_334 ly_84 rf_84_132 ?_
                                  refine wa_iload rfl ?_
                                  refine wa_aload_n (i := 0) rfl rfl ?_
                                  refine wa_getr ck_12 fl_12_334 ly_84 rf_84_132 ?_
                                  refine wa_iload rfl ?_
                                  refine wa_iald ly_124 (by ((try simp only [vp_in_iff, Int32.lt_iff_toInt_lt, Int32.le_iff_toInt_le, ← Int32.toInt_inj, Int32.reduceToInt, n_1, n_2, n_8, Int32.toNatClampNeg, Int64.lt_iff_toInt_lt, Int64.le_iff_toInt_le, ← Int64.toInt_inj, Int64.reduceToInt, Int32.toInt_toInt64, lg_cmp_ge, lg_cmp_le, lg_cmp_gt, lg_cmp_lt, lg_cmp_eq, Bool.false_eq_true, Bool.true_eq_false, reduceCtorEq, false_iff, true_iff, iff_true, iff_false, and_true, true_and, and_false, false_and, reduceIte, ite_true, ite_false, eq_self] at *)) <;> omega) ?_
                                  refine wa_aload_n (i := 0) rfl rfl ?_
                                  refine wa_getr ck_12 fl_12_346 ly_84 rf_84_136 ?_
                                  refine wa_iload rfl ?_
                                  refine wa_iald ly_120 (by ((try simp only [vp_in_iff, Int32.lt_iff_toInt_lt, Int32.le_iff_toInt_le, ← Int32.toInt_inj, Int32.reduceToInt, n_1, n_2, n_8, Int32.toNatClampNeg, Int64.lt_iff_toInt_lt, Int64.le_iff_toInt_le, ← Int64.toInt_inj, Int64.reduceToInt, Int32.toInt_toInt64, lg_cmp_ge, lg_cmp_le, lg_cmp_gt, lg_cmp_lt, lg_cmp_eq, Bool.false_eq_true, Bool.true_eq_false, reduceCtorEq, false_iff, true_iff, iff_true, iff_false, and_true, true_and, and_false, false_and, reduceIte, ite_true, ite_false, eq_self] at *)) <;> omega) ?_
                                  refine wa_iconst (v := 2) (by decide) ?_
                                  refine wa_irem (by ((try simp only [vp_in_iff, Int32.lt_iff_toInt_lt, Int32.le_iff_toInt_le, ← Int32.toInt_inj, Int32.reduceToInt, n_1, n_2, n_8, Int32.toNatClampNeg, Int64.lt_iff_toInt_lt, Int64.le_iff_toInt_le, ← Int64.toInt_inj, Int64.reduceToInt, Int32.toInt_toInt64, lg_cmp_ge, lg_cmp_le, lg_cmp_gt, lg_cmp_lt, lg_cmp_eq, Bool.false_eq_true, Bool.true_eq_false, reduceCtorEq, false_iff, true_iff, iff_true, iff_false, and_true, true_and, and_false, false_and, reduceIte, ite_true, ite_false, eq_self] at *)) <;> omega) ?_
                                  refine wa_top (fun v82 hv82 => ?_)
                                  have tv82 := i_remU hv82
                                  clear hv82
                                  refine wa_iload rfl ?_
                                  refine wa_ishl ?_
                                  refine wa_top (fun v83 hv83 => ?_)
                                  clear hv83
                                  refine wa_ior ?_
                                  refine wa_top (fun v84 hv84 => ?_)
                                  clear hv84
                                  refine wa_iast ly_124 (by ((try simp only [vp_in_iff, Int32.lt_iff_toInt_lt, Int32.le_iff_toInt_le, ← Int32.toInt_inj, Int32.reduceToInt, n_1, n_2, n_8, Int32.toNatClampNeg, Int64.lt_iff_toInt_lt, Int64.le_iff_toInt_le, ← Int64.toInt_inj, Int64.reduceToInt, Int32.toInt_toInt64, lg_cmp_ge, lg_cmp_le, lg_cmp_gt, lg_cmp_lt, lg_cmp_eq, Bool.false_eq_true, Bool.true_eq_false, reduceCtorEq, false_iff, true_iff, iff_true, iff_false, and_true, true_and, and_false, false_and, reduceIte, ite_true, ite_false, eq_self] at *)) <;> omega) (fun s85 hs85 => ?_)
                                  have Fs85 : Fm [120, 121, 123, 124, 130, 131, 132] [] σ s85 := by rw [hs85]; exact Fm.si Fs81 rfl
                                  refine wa_aload_n (i := 0) rfl rfl ?_
                                  refine wa_getr ck_12 fl_12_337 ly_84 rf_84_133 ?_
                                  refine wa_iload rfl ?_
                                  refine wa_aload_n (i := 0) rfl rfl ?_
                                  refine wa_getr ck_12 fl_12_337 ly_84 rf_84_133 ?_
                                  refine wa_iload rfl ?_
                                  refine wa_iald ly_123 (by ((try simp only [vp_in_iff, Int32.lt_iff_toInt_lt, Int32.le_iff_toInt_le, ← Int32.toInt_inj, Int32.reduceToInt, n_1, n_2, n_8, Int32.toNatClampNeg, Int64.lt_iff_toInt_lt, Int64.le_iff_toInt_le, ← Int64.toInt_inj, Int64.reduceToInt, Int32.toInt_toInt64, lg_cmp_ge, lg_cmp_le, lg_cmp_gt, lg_cmp_lt, lg_cmp_eq, Bool.false_eq_true, Bool.true_eq_false, reduceCtorEq, false_iff, true_iff, iff_true, iff_false, and_true, true_and, and_false, false_and, reduceIte, ite_true, ite_false, eq_self] at *)) <;> omega) ?_
                                  refine wa_aload_n (i := 0) rfl rfl ?_
                                  refine wa_getr ck_12 fl_12_346 ly_84 rf_84_136 ?_
                                  refine wa_iload rfl ?_
                                  refine wa_iald ly_120 (by ((try simp only [vp_in_iff, Int32.lt_iff_toInt_lt, Int32.le_iff_toInt_le, ← Int32.toInt_inj, Int32.reduceToInt, n_1, n_2, n_8, Int32.toNatClampNeg, Int64.lt_iff_toInt_lt, Int64.le_iff_toInt_le, ← Int64.toInt_inj, Int64.reduceToInt, Int32.toInt_toInt64, lg_cmp_ge, lg_cmp_le, lg_cmp_gt, lg_cmp_lt, lg_cmp_eq, Bool.false_eq_true, Bool.true_eq_false, reduceCtorEq, false_iff, true_iff, iff_true, iff_false, and_true, true_and, and_false, false_and, reduceIte, ite_true, ite_false, eq_self] at *)) <;> omega) ?_
                                  refine wa_iconst (v := 2) (by decide) ?_
                                  refine wa_idiv (by ((try simp only [vp_in_iff, Int32.lt_iff_toInt_lt, Int32.le_iff_toInt_le, ← Int32.toInt_inj, Int32.reduceToInt, n_1, n_2, n_8, Int32.toNatClampNeg, Int64.lt_iff_toInt_lt, Int64.le_iff_toInt_le, ← Int64.toInt_inj, Int64.reduceToInt, Int32.toInt_toInt64, lg_cmp_ge, lg_cmp_le, lg_cmp_gt, lg_cmp_lt, lg_cmp_eq, Bool.false_eq_true, Bool.true_eq_false, reduceCtorEq, false_iff, true_iff, iff_true, iff_false, and_true, true_and, and_false, false_and, reduceIte, ite_true, ite_false, eq_self] at *)) <;> omega) ?_
                                  refine wa_top (fun v86 hv86 => ?_)
                                  have tv86 := i_divU hv86
                                  clear hv86
                                  refine wa_iload rfl ?_
                                  refine wa_ishl ?_
                                  refine wa_top (fun v87 hv87 => ?_)
                                  clear hv87
                                  refine wa_ior ?_
                                  refine wa_top (fun v88 hv88 => ?_)
                                  clear hv88
                                  refine wa_iast ly_123 (by ((try simp only [vp_in_iff, Int32.lt_iff_toInt_lt, Int32.le_iff_toInt_le, ← Int32.toInt_inj, Int32.reduceToInt, n_1, n_2, n_8, Int32.toNatClampNeg, Int64.lt_iff_toInt_lt, Int64.le_iff_toInt_le, ← Int64.toInt_inj, Int64.reduceToInt, Int32.toInt_toInt64, lg_cmp_ge, lg_cmp_le, lg_cmp_gt, lg_cmp_lt, lg_cmp_eq, Bool.false_eq_true, Bool.true_eq_false, reduceCtorEq, false_iff, true_iff, iff_true, iff_false, and_true, true_and, and_false, false_and, reduceIte, ite_true, ite_false, eq_self] at *)) <;> omega) (fun s89 hs89 => ?_)
                                  have Fs89 : Fm [120, 121, 123, 124, 130, 131, 132] [] σ s89 := by rw [hs89]; exact Fm.si Fs85 rfl
                                  refine wa_iinc (v := (1)) (lv' := fun y90 => [(5, .int y90), (7, .int v24), (0, .ref 84), (1, .int a0), (2, .int a1), (3, .int a2), (4, .int l4), (6, .int l6)]) (by decide) rfl (by decide) (fun _ => rfl) (fun y90 hy90 => ?_)
                                  have ty90 := i_addT hy90.symm
                                  clear hy90
                                  refine wa_goto o_X12_judge_56 (by decide) ?_
                                  refine wa_pick [2, 3, 4, 5, 6, 0] rfl ?_
                                  exact ih12 _ (by ((try simp only [vp_in_iff, Int32.lt_iff_toInt_lt, Int32.le_iff_toInt_le, ← Int32.toInt_inj, Int32.reduceToInt, n_1, n_2, n_8, Int32.toNatClampNeg, Int64.lt_iff_toInt_lt, Int64.le_iff_toInt_le, ← Int64.toInt_inj, Int64.reduceToInt, Int32.toInt_toInt64, lg_cmp_ge, lg_cmp_le, lg_cmp_gt, lg_cmp_lt, lg_cmp_eq, Bool.false_eq_true, Bool.true_eq_false, reduceCtorEq, false_iff, true_iff, iff_true, iff_false, and_true, true_and, and_false, false_and, reduceIte, ite_true, ite_false, eq_self] at *)) <;> omega) _ _ ⟨Fs89, ((nxq_gi_si hs89 (by decide)).trans ((nxq_gi_si hs85 (by decide)).trans ((nxq_gi_si hs81 (by decide)).trans ((nxq_gi_si hs28 (by decide)).trans ((Fm.gi fs26 (q := 84) (k := 119) rfl rfl).trans (khi18_0)))))), ((nxq_gi_si hs89 (by decide)).trans ((nxq_gi_si hs85 (by decide)).trans ((nxq_gi_si hs81 (by decide)).trans ((nxq_gi_si hs28 (by decide)).trans ((Fm.gi fs26 (q := 84) (k := 32) rfl rfl).trans (khi18_1)))))), ((nxq_gi_si hs89 (by decide)).trans ((nxq_gi_si hs85 (by decide)).trans ((nxq_gi_si hs81 (by decide)).trans ((nxq_gi_si hs28 (by decide)).trans ((Fm.gi fs26 (q := 84) (k := 33) rfl rfl).trans (khi18_2)))))), ((nxq_gi_si hs89 (by decide)).trans ((nxq_gi_si hs85 (by decide)).trans ((nxq_gi_si hs81 (by decide)).trans ((nxq_gi_si hs28 (by decide)).trans ((Fm.gi fs26 (q := 84) (k := 129) rfl rfl).trans (khi18_3)))))), ((nxq_gi_si hs89 (by decide)).trans ((nxq_gi_si hs85 (by decide)).trans ((nxq_gi_si hs81 (by decide)).trans ((nxq_gi_si hs28 (by decide)).trans ((Fm.gi fs26 (q := 84) (k := 131) rfl rfl).trans (khi18_4)))))), (by ((try simp only [vp_in_iff, Int32.lt_iff_toInt_lt, Int32.le_iff_toInt_le, ← Int32.toInt_inj, Int32.reduceToInt, n_1, n_2, n_8, Int32.toNatClampNeg, Int64.lt_iff_toInt_lt, Int64.le_iff_toInt_le, ← Int64.toInt_inj, Int64.reduceToInt, Int32.toInt_toInt64, lg_cmp_ge, lg_cmp_le, lg_cmp_gt, lg_cmp_lt, lg_cmp_eq, Bool.false_eq_true, Bool.true_eq_false, reduceCtorEq, false_iff, true_iff, iff_true, iff_false, and_true, true_and, and_false, false_and, reduceIte, ite_true, ite_false, eq_self] at *)) <;> omega), trivial⟩ rfl
                                · replace h79 := bI_t (b := (gb s28 131 (a2).toNatClampNeg)) (rfl) h79
                                  refine wa_iconst (v := 2) (by decide) ?_
                                  refine wa_goto o_X12_judge_232 (by decide) ?_
                                  refine wa_iadd ?_
                                  refine wa_top (fun v91 hv91 => ?_)
                                  have tv91 := i_addT hv91
                                  clear hv91
                                  refine wa_iast ly_120 (by ((try simp only [vp_in_iff, Int32.lt_iff_toInt_lt, Int32.le_iff_toInt_le, ← Int32.toInt_inj, Int32.reduceToInt, n_1, n_2, n_8, Int32.toNatClampNeg, Int64.lt_iff_toInt_lt, Int64.le_iff_toInt_le, ← Int64.toInt_inj, Int64.reduceToInt, Int32.toInt_toInt64, lg_cmp_ge, lg_cmp_le, lg_cmp_gt, lg_cmp_lt, lg_cmp_eq, Bool.false_eq_true, Bool.true_eq_false, reduceCtorEq, false_iff, true_iff, iff_true, iff_false, and_true, true_and, and_false, false_and, reduceIte, ite_true, ite_false, eq_self] at *)) <;> omega) (fun s92 hs92 => ?_)
                                  have Fs92 : Fm [120, 121, 123, 124, 130, 131, 132] [] σ s92 := by rw [hs92]; exact Fm.si Fs28 rfl
                                  refine wa_aload_n (i := 0) rfl rfl ?_
                                  refine wa_getr ck_12 fl_12_334 ly_84 rf_84_132 ?_
                                  refine wa_iload rfl ?_
                                  refine wa_aload_n (i := 0) rfl rfl ?_
                                  refine wa_getr ck_12 fl_12_334 ly_84 rf_84_132 ?_
                                  refine wa_iload rfl ?_
                                  refine wa_iald ly_124 (by ((try simp only [vp_in_iff, Int32.lt_iff_toInt_lt, Int32.le_iff_toInt_le, ← Int32.toInt_inj, Int32.reduceToInt, n_1, n_2, n_8, Int32.toNatClampNeg, Int64.lt_iff_toInt_lt, Int64.le_iff_toInt_le, ← Int64.toInt_inj, Int64.reduceToInt, Int32.toInt_toInt64, lg_cmp_ge, lg_cmp_le, lg_cmp_gt, lg_cmp_lt, lg_cmp_eq, Bool.false_eq_true, Bool.true_eq_false, reduceCtorEq, false_iff, true_iff, iff_true, iff_false, and_true, true_and, and_false, false_and, reduceIte, ite_true, ite_false, eq_self] at *)) <;> omega) ?_
                                  refine wa_aload_n (i := 0) rfl rfl ?_
                                  refine wa_getr ck_12 fl_12_346 ly_84 rf_84_136 ?_
                                  refine wa_iload rfl ?_
                                  refine wa_iald ly_120 (by ((try simp only [vp_in_iff, Int32.lt_iff_toInt_lt, Int32.le_iff_toInt_le, ← Int32.toInt_inj, Int32.reduceToInt, n_1, n_2, n_8, Int32.toNatClampNeg, Int64.lt_iff_toInt_lt, Int64.le_iff_toInt_le, ← Int64.toInt_inj, Int64.reduceToInt, Int32.toInt_toInt64, lg_cmp_ge, lg_cmp_le, lg_cmp_gt, lg_cmp_lt, lg_cmp_eq, Bool.false_eq_true, Bool.true_eq_false, reduceCtorEq, false_iff, true_iff, iff_true, iff_false, and_true, true_and, and_false, false_and, reduceIte, ite_true, ite_false, eq_self] at *)) <;> omega) ?_
                                  refine wa_iconst (v := 2) (by decide) ?_
                                  refine wa_irem (by ((try simp only [vp_in_iff, Int32.lt_iff_toInt_lt, Int32.le_iff_toInt_le, ← Int32.toInt_inj, Int32.reduceToInt, n_1, n_2, n_8, Int32.toNatClampNeg, Int64.lt_iff_toInt_lt, Int64.le_iff_toInt_le, ← Int64.toInt_inj, Int64.reduceToInt, Int32.toInt_toInt64, lg_cmp_ge, lg_cmp_le, lg_cmp_gt, lg_cmp_lt, lg_cmp_eq, Bool.false_eq_true, Bool.true_eq_false, reduceCtorEq, false_iff, true_iff, iff_true, iff_false, and_true, true_and, and_false, false_and, reduceIte, ite_true, ite_false, eq_self] at *)) <;> omega) ?_
                                  refine wa_top (fun v93 hv93 => ?_)
                                  have tv93 := i_remU hv93
                                  clear hv93
                                  refine wa_iload rfl ?_
                                  refine wa_ishl ?_
                                  refine wa_top (fun v94 hv94 => ?_)
                                  clear hv94
                                  refine wa_ior ?_
                                  refine wa_top (fun v95 hv95 => ?_)
                                  clear hv95
                                  refine wa_iast ly_124 (by ((try simp only [vp_in_iff, Int32.lt_iff_toInt_lt, Int32.le_iff_toInt_le, ← Int32.toInt_inj, Int32.reduceToInt, n_1, n_2, n_8, Int32.toNatClampNeg, Int64.lt_iff_toInt_lt, Int64.le_iff_toInt_le, ← Int64.toInt_inj, Int64.reduceToInt, Int32.toInt_toInt64, lg_cmp_ge, lg_cmp_le, lg_cmp_gt, lg_cmp_lt, lg_cmp_eq, Bool.false_eq_true, Bool.true_eq_false, reduceCtorEq, false_iff, true_iff, iff_true, iff_false, and_true, true_and, and_false, false_and, reduceIte, ite_true, ite_false, eq_self] at *)) <;> omega) (fun s96 hs96 => ?_)
                                  have Fs96 : Fm [120, 121, 123, 124, 130, 131, 132] [] σ s96 := by rw [hs96]; exact Fm.si Fs92 rfl
                                  refine wa_aload_n (i := 0) rfl rfl ?_
                                  refine wa_getr ck_12 fl_12_337 ly_84 rf_84_133 ?_
                                  refine wa_iload rfl ?_
                                  refine wa_aload_n (i := 0) rfl rfl ?_
                                  refine wa_getr ck_12 fl_12_337 ly_84 rf_84_133 ?_
                                  refine wa_iload rfl ?_
                                  refine wa_iald ly_123 (by ((try simp only [vp_in_iff, Int32.lt_iff_toInt_lt, Int32.le_iff_toInt_le, ← Int32.toInt_inj, Int32.reduceToInt, n_1, n_2, n_8, Int32.toNatClampNeg, Int64.lt_iff_toInt_lt, Int64.le_iff_toInt_le, ← Int64.toInt_inj, Int64.reduceToInt, Int32.toInt_toInt64, lg_cmp_ge, lg_cmp_le, lg_cmp_gt, lg_cmp_lt, lg_cmp_eq, Bool.false_eq_true, Bool.true_eq_false, reduceCtorEq, false_iff, true_iff, iff_true, iff_false, and_true, true_and, and_false, false_and, reduceIte, ite_true, ite_false, eq_self] at *)) <;> omega) ?_
                                  refine wa_aload_n (i := 0) rfl rfl ?_
                                  refine wa_getr ck_12 fl_12_346 ly_84 rf_84_136 ?_
                                  refine wa_iload rfl ?_
                                  refine wa_iald ly_120 (by ((try simp only [vp_in_iff, Int32.lt_iff_toInt_lt, Int32.le_iff_toInt_le, ← Int32.toInt_inj, Int32.reduceToInt, n_1, n_2, n_8, Int32.toNatClampNeg, Int64.lt_iff_toInt_lt, Int64.le_iff_toInt_le, ← Int64.toInt_inj, Int64.reduceToInt, Int32.toInt_toInt64, lg_cmp_ge, lg_cmp_le, lg_cmp_gt, lg_cmp_lt, lg_cmp_eq, Bool.false_eq_true, Bool.true_eq_false, reduceCtorEq, false_iff, true_iff, iff_true, iff_false, and_true, true_and, and_false, false_and, reduceIte, ite_true, ite_false, eq_self] at *)) <;> omega) ?_
                                  refine wa_iconst (v := 2) (by decide) ?_
                                  refine wa_idiv (by ((try simp only [vp_in_iff, Int32.lt_iff_toInt_lt, Int32.le_iff_toInt_le, ← Int32.toInt_inj, Int32.reduceToInt, n_1, n_2, n_8, Int32.toNatClampNeg, Int64.lt_iff_toInt_lt, Int64.le_iff_toInt_le, ← Int64.toInt_inj, Int64.reduceToInt, Int32.toInt_toInt64, lg_cmp_ge, lg_cmp_le, lg_cmp_gt, lg_cmp_lt, lg_cmp_eq, Bool.false_eq_true, Bool.true_eq_false, reduceCtorEq, false_iff, true_iff, iff_true, iff_false, and_true, true_and, and_false, false_and, reduceIte, ite_true, ite_false, eq_self] at *)) <;> omega) ?_
                                  refine wa_top (fun v97 hv97 => ?_)
                                  have tv97 := i_divU hv97
                                  clear hv97
                                  refine wa_iload rfl ?_
                                  refine wa_ishl ?_
                                  refine wa_top (fun v98 hv98 => ?_)
                                  clear hv98
                                  refine wa_ior ?_
                                  refine wa_top (fun v99 hv99 => ?_)
                                  clear hv99
                                  refine wa_iast ly_123 (by ((try simp only [vp_in_iff, Int32.lt_iff_toInt_lt, Int32.le_iff_toInt_le, ← Int32.toInt_inj, Int32.reduceToInt, n_1, n_2, n_8, Int32.toNatClampNeg, Int64.lt_iff_toInt_lt, Int64.le_iff_toInt_le, ← Int64.toInt_inj, Int64.reduceToInt, Int32.toInt_toInt64, lg_cmp_ge, lg_cmp_le, lg_cmp_gt, lg_cmp_lt, lg_cmp_eq, Bool.false_eq_true, Bool.true_eq_false, reduceCtorEq, false_iff, true_iff, iff_true, iff_false, and_true, true_and, and_false, false_and, reduceIte, ite_true, ite_false, eq_self] at *)) <;> omega) (fun s100 hs100 => ?_)
                                  have Fs100 : Fm [120, 121, 123, 124, 130, 131, 132] [] σ s100 := by rw [hs100]; exact Fm.si Fs96 rfl
                                  refine wa_iinc (v := (1)) (lv' := fun y101 => [(5, .int y101), (7, .int v24), (0, .ref 84), (1, .int a0), (2, .int a1), (3, .int a2), (4, .int l4), (6, .int l6)]) (by decide) rfl (by decide) (fun _ => rfl) (fun y101 hy101 => ?_)
                                  have ty101 := i_addT hy101.symm
                                  clear hy101
                                  refine wa_goto o_X12_judge_56 (by decide) ?_
                                  refine wa_pick [2, 3, 4, 5, 6, 0] rfl ?_
                                  exact ih12 _ (by ((try simp only [vp_in_iff, Int32.lt_iff_toInt_lt, Int32.le_iff_toInt_le, ← Int32.toInt_inj, Int32.reduceToInt, n_1, n_2, n_8, Int32.toNatClampNeg, Int64.lt_iff_toInt_lt, Int64.le_iff_toInt_le, ← Int64.toInt_inj, Int64.reduceToInt, Int32.toInt_toInt64, lg_cmp_ge, lg_cmp_le, lg_cmp_gt, lg_cmp_lt, lg_cmp_eq, Bool.false_eq_true, Bool.true_eq_false, reduceCtorEq, false_iff, true_iff, iff_true, iff_false, and_true, true_and, and_false, false_and, reduceIte, ite_true, ite_false, eq_self] at *)) <;> omega) _ _ ⟨Fs100, ((nxq_gi_si hs100 (by decide)).trans ((nxq_gi_si hs96 (by decide)).trans ((nxq_gi_si hs92 (by decide)).trans ((nxq_gi_si hs28 (by decide)).trans ((Fm.gi fs26 (q := 84) (k := 119) rfl rfl).trans (khi18_0)))))), ((nxq_gi_si hs100 (by decide)).trans ((nxq_gi_si hs96 (by decide)).trans ((nxq_gi_si hs92 (by decide)).trans ((nxq_gi_si hs28 (by decide)).trans ((Fm.gi fs26 (q := 84) (k := 32) rfl rfl).trans (khi18_1)))))), ((nxq_gi_si hs100 (by decide)).trans ((nxq_gi_si hs96 (by decide)).trans ((nxq_gi_si hs92 (by decide)).trans ((nxq_gi_si hs28 (by decide)).trans ((Fm.gi fs26 (q := 84) (k := 33) rfl rfl).trans (khi18_2)))))), ((nxq_gi_si hs100 (by decide)).trans ((nxq_gi_si hs96 (by decide)).trans ((nxq_gi_si hs92 (by decide)).trans ((nxq_gi_si hs28 (by decide)).trans ((Fm.gi fs26 (q := 84) (k := 129) rfl rfl).trans (khi18_3)))))), ((nxq_gi_si hs100 (by decide)).trans ((nxq_gi_si hs96 (by decide)).trans ((nxq_gi_si hs92 (by decide)).trans ((nxq_gi_si hs28 (by decide)).trans ((Fm.gi fs26 (q := 84) (k := 131) rfl rfl).trans (khi18_4)))))), (by ((try simp only [vp_in_iff, Int32.lt_iff_toInt_lt, Int32.le_iff_toInt_le, ← Int32.toInt_inj, Int32.reduceToInt, n_1, n_2, n_8, Int32.toNatClampNeg, Int64.lt_iff_toInt_lt, Int64.le_iff_toInt_le, ← Int64.toInt_inj, Int64.reduceToInt, Int32.toInt_toInt64, lg_cmp_ge, lg_cmp_le, lg_cmp_gt, lg_cmp_lt, lg_cmp_eq, Bool.false_eq_true, Bool.true_eq_false, reduceCtorEq, false_iff, true_iff, iff_true, iff_false, and_true, true_and, and_false, false_and, reduceIte, ite_true, ite_false, eq_self] at *)) <;> omega), trivial⟩ rfl
                          · refine wa_aload_n (i := 0) rfl rfl ?_
                            refine wa_getr ck_12 fl_12_343 ly_84 rf_84_135 ?_
                            refine wa_iload rfl ?_
                            refine wa_iald ly_121 (by ((try simp only [vp_in_iff, Int32.lt_iff_toInt_lt, Int32.le_iff_toInt_le, ← Int32.toInt_inj, Int32.reduceToInt, n_1, n_2, n_8, Int32.toNatClampNeg, Int64.lt_iff_toInt_lt, Int64.le_iff_toInt_le, ← Int64.toInt_inj, Int64.reduceToInt, Int32.toInt_toInt64, lg_cmp_ge, lg_cmp_le, lg_cmp_gt, lg_cmp_lt, lg_cmp_eq, Bool.false_eq_true, Bool.true_eq_false, reduceCtorEq, false_iff, true_iff, iff_true, iff_false, and_true, true_and, and_false, false_and, reduceIte, ite_true, ite_false, eq_self] at *)) <;> omega) ?_
                            refine wa_iload rfl ?_
                            refine wa_icmp_eq o_X12_judge_234 (by decide) (fun h102 => ?_) (fun h102 => ?_)
                            · refine wa_aload_n (i := 0) rfl rfl ?_
                              refine wa_getr ck_12 fl_12_334 ly_84 rf_84_132 ?_
                              refine wa_iload rfl ?_
                              refine wa_aload_n (i := 0) rfl rfl ?_
                              refine wa_getr ck_12 fl_12_334 ly_84 rf_84_132 ?_
                              refine wa_iload rfl ?_
                              refine wa_iald ly_124 (by ((try simp only [vp_in_iff, Int32.lt_iff_toInt_lt, Int32.le_iff_toInt_le, ← Int32.toInt_inj, Int32.reduceToInt, n_1, n_2, n_8, Int32.toNatClampNeg, Int64.lt_iff_toInt_lt, Int64.le_iff_toInt_le, ← Int64.toInt_inj, Int64.reduceToInt, Int32.toInt_toInt64, lg_cmp_ge, lg_cmp_le, lg_cmp_gt, lg_cmp_lt, lg_cmp_eq, Bool.false_eq_true, Bool.true_eq_false, reduceCtorEq, false_iff, true_iff, iff_true, iff_false, and_true, true_and, and_false, false_and, reduceIte, ite_true, ite_false, eq_self] at *)) <;> omega) ?_
                              refine wa_aload_n (i := 0) rfl rfl ?_
                              refine wa_getr ck_12 fl_12_346 ly_84 rf_84_136 ?_
                              refine wa_iload rfl ?_
                              refine wa_iald ly_120 (by ((try simp only [vp_in_iff, Int32.lt_iff_toInt_lt, Int32.le_iff_toInt_le, ← Int32.toInt_inj, Int32.reduceToInt, n_1, n_2, n_8, Int32.toNatClampNeg, Int64.lt_iff_toInt_lt, Int64.le_iff_toInt_le, ← Int64.toInt_inj, Int64.reduceToInt, Int32.toInt_toInt64, lg_cmp_ge, lg_cmp_le, lg_cmp_gt, lg_cmp_lt, lg_cmp_eq, Bool.false_eq_true, Bool.true_eq_false, reduceCtorEq, false_iff, true_iff, iff_true, iff_false, and_true, true_and, and_false, false_and, reduceIte, ite_true, ite_false, eq_self] at *)) <;> omega) ?_
                              refine wa_iconst (v := 2) (by decide) ?_
                              refine wa_irem (by ((try simp only [vp_in_iff, Int32.lt_iff_toInt_lt, Int32.le_iff_toInt_le, ← Int32.toInt_inj, Int32.reduceToInt, n_1, n_2, n_8, Int32.toNatClampNeg, Int64.lt_iff_toInt_lt, Int64.le_iff_toInt_le, ← Int64.toInt_inj, Int64.reduceToInt, Int32.toInt_toInt64, lg_cmp_ge, lg_cmp_le, lg_cmp_gt, lg_cmp_lt, lg_cmp_eq, Bool.false_eq_true, Bool.true_eq_false, reduceCtorEq, false_iff, true_iff, iff_true, iff_false, and_true, true_and, and_false, false_and, reduceIte, ite_true, ite_false, eq_self] at *)) <;> omega) ?_
                              refine wa_top (fun v103 hv103 => ?_)
                              have tv103 := i_remU hv103
                              clear hv103
                              refine wa_iload rfl ?_
                              refine wa_ishl ?_
                              refine wa_top (fun v104 hv104 => ?_)
                              clear hv104
                              refine wa_ior ?_
                              refine wa_top (fun v105 hv105 => ?_)
                              clear hv105
                              refine wa_iast ly_124 (by ((try simp only [vp_in_iff, Int32.lt_iff_toInt_lt, Int32.le_iff_toInt_le, ← Int32.toInt_inj, Int32.reduceToInt, n_1, n_2, n_8, Int32.toNatClampNeg, Int64.lt_iff_toInt_lt, Int64.le_iff_toInt_le, ← Int64.toInt_inj, Int64.reduceToInt, Int32.toInt_toInt64, lg_cmp_ge, lg_cmp_le, lg_cmp_gt, lg_cmp_lt, lg_cmp_eq, Bool.false_eq_true, Bool.true_eq_false, reduceCtorEq, false_iff, true_iff, iff_true, iff_false, and_true, true_and, and_false, false_and, reduceIte, ite_true, ite_false, eq_self] at *)) <;> omega) (fun s106 hs106 => ?_)
                              have Fs106 : Fm [120, 121, 123, 124, 130, 131, 132] [] σ s106 := by rw [hs106]; exact Fm.si Fs16 rfl
                              refine wa_aload_n (i := 0) rfl rfl ?_
                              refine wa_getr ck_12 fl_12_337 ly_84 rf_84_133 ?_
                              refine wa_iload rfl ?_
                              refine wa_aload_n (i := 0) rfl rfl ?_
                              refine wa_getr ck_12 fl_12_337 ly_84 rf_84_133 ?_
                              refine wa_iload rfl ?_
                              refine wa_iald ly_123 (by ((try simp only [vp_in_iff, Int32.lt_iff_toInt_lt, Int32.le_iff_toInt_le, ← Int32.toInt_inj, Int32.reduceToInt, n_1, n_2, n_8, Int32.toNatClampNeg, Int64.lt_iff_toInt_lt, Int64.le_iff_toInt_le, ← Int64.toInt_inj, Int64.reduceToInt, Int32.toInt_toInt64, lg_cmp_ge, lg_cmp_le, lg_cmp_gt, lg_cmp_lt, lg_cmp_eq, Bool.false_eq_true, Bool.true_eq_false, reduceCtorEq, false_iff, true_iff, iff_true, iff_false, and_true, true_and, and_false, false_and, reduceIte, ite_true, ite_false, eq_self] at *)) <;> omega) ?_
                              refine wa_aload_n (i := 0) rfl rfl ?_
                              refine wa_getr ck_12 fl_12_346 ly_84 rf_84_136 ?_
                              refine wa_iload rfl ?_
                              refine wa_iald ly_120 (by ((try simp only [vp_in_iff, Int32.lt_iff_toInt_lt, Int32.le_iff_toInt_le, ← Int32.toInt_inj, Int32.reduceToInt, n_1, n_2, n_8, Int32.toNatClampNeg, Int64.lt_iff_toInt_lt, Int64.le_iff_toInt_le, ← Int64.toInt_inj, Int64.reduceToInt, Int32.toInt_toInt64, lg_cmp_ge, lg_cmp_le, lg_cmp_gt, lg_cmp_lt, lg_cmp_eq, Bool.false_eq_true, Bool.true_eq_false, reduceCtorEq, false_iff, true_iff, iff_true, iff_false, and_true, true_and, and_false, false_and, reduceIte, ite_true, ite_false, eq_self] at *)) <;> omega) ?_
                              refine wa_iconst (v := 2) (by decide) ?_
                              refine wa_idiv (by ((try simp only [vp_in_iff, Int32.lt_iff_toInt_lt, Int32.le_iff_toInt_le, ← Int32.toInt_inj, Int32.reduceToInt, n_1, n_2, n_8, Int32.toNatClampNeg, Int64.lt_iff_toInt_lt, Int64.le_iff_toInt_le, ← Int64.toInt_inj, Int64.reduceToInt, Int32.toInt_toInt64, lg_cmp_ge, lg_cmp_le, lg_cmp_gt, lg_cmp_lt, lg_cmp_eq, Bool.false_eq_true, Bool.true_eq_false, reduceCtorEq, false_iff, true_iff, iff_true, iff_false, and_true, true_and, and_false, false_and, reduceIte, ite_true, ite_false, eq_self] at *)) <;> omega) ?_
                              refine wa_top (fun v107 hv107 => ?_)
                              have tv107 := i_divU hv107
                              clear hv107
                              refine wa_iload rfl ?_
                              refine wa_ishl ?_
                              refine wa_top (fun v108 hv108 => ?_)
                              clear hv108
                              refine wa_ior ?_
                              refine wa_top (fun v109 hv109 => ?_)
                              clear hv109
                              refine wa_iast ly_123 (by ((try simp only [vp_in_iff, Int32.lt_iff_toInt_lt, Int32.le_iff_toInt_le, ← Int32.toInt_inj, Int32.reduceToInt, n_1, n_2, n_8, Int32.toNatClampNeg, Int64.lt_iff_toInt_lt, Int64.le_iff_toInt_le, ← Int64.toInt_inj, Int64.reduceToInt, Int32.toInt_toInt64, lg_cmp_ge, lg_cmp_le, lg_cmp_gt, lg_cmp_lt, lg_cmp_eq, Bool.false_eq_true, Bool.true_eq_false, reduceCtorEq, false_iff, true_iff, iff_true, iff_false, and_true, true_and, and_false, false_and, reduceIte, ite_true, ite_false, eq_self] at *)) <;> omega) (fun s110 hs110 => ?_)
                              have Fs110 : Fm [120, 121, 123, 124, 130, 131, 132] [] σ s110 := by rw [hs110]; exact Fm.si Fs106 rfl
                              refine wa_iinc (v := (1)) (lv' := fun y111 => [(5, .int y111), (7, .int v24), (0, .ref 84), (1, .int a0), (2, .int a1), (3, .int a2), (4, .int l4), (6, .int l6)]) (by decide) rfl (by decide) (fun _ => rfl) (fun y111 hy111 => ?_)
                              have ty111 := i_addT hy111.symm
                              clear hy111
                              refine wa_goto o_X12_judge_56 (by decide) ?_
                              refine wa_pick [2, 3, 4, 5, 6, 0] rfl ?_
                              exact ih12 _ (by ((try simp only [vp_in_iff, Int32.lt_iff_toInt_lt, Int32.le_iff_toInt_le, ← Int32.toInt_inj, Int32.reduceToInt, n_1, n_2, n_8, Int32.toNatClampNeg, Int64.lt_iff_toInt_lt, Int64.le_iff_toInt_le, ← Int64.toInt_inj, Int64.reduceToInt, Int32.toInt_toInt64, lg_cmp_ge, lg_cmp_le, lg_cmp_gt, lg_cmp_lt, lg_cmp_eq, Bool.false_eq_true, Bool.true_eq_false, reduceCtorEq, false_iff, true_iff, iff_true, iff_false, and_true, true_and, and_false, false_and, reduceIte, ite_true, ite_false, eq_self] at *)) <;> omega) _ _ ⟨Fs110, ((nxq_gi_si hs110 (by decide)).trans ((nxq_gi_si hs106 (by decide)).trans (khi18_0))), ((nxq_gi_si hs110 (by decide)).trans ((nxq_gi_si hs106 (by decide)).trans (khi18_1))), ((nxq_gi_si hs110 (by decide)).trans ((nxq_gi_si hs106 (by decide)).trans (khi18_2))), ((nxq_gi_si hs110 (by decide)).trans ((nxq_gi_si hs106 (by decide)).trans (khi18_3))), ((nxq_gi_si hs110 (by decide)).trans ((nxq_gi_si hs106 (by decide)).trans (khi18_4))), (by ((try simp only [vp_in_iff, Int32.lt_iff_toInt_lt, Int32.le_iff_toInt_le, ← Int32.toInt_inj, Int32.reduceToInt, n_1, n_2, n_8, Int32.toNatClampNeg, Int64.lt_iff_toInt_lt, Int64.le_iff_toInt_le, ← Int64.toInt_inj, Int64.reduceToInt, Int32.toInt_toInt64, lg_cmp_ge, lg_cmp_le, lg_cmp_gt, lg_cmp_lt, lg_cmp_eq, Bool.false_eq_true, Bool.true_eq_false, reduceCtorEq, false_iff, true_iff, iff_true, iff_false, and_true, true_and, and_false, false_and, reduceIte, ite_true, ite_false, eq_self] at *)) <;> omega), trivial⟩ rfl
                            · refine wa_aload_n (i := 0) rfl rfl ?_
                              refine wa_Vv (d9 := d - 1) [] [] (sp_X12_reckonSlots G (d := d - 1) (by omega) s16  (ar_fm Fs16 rfl rfl A_134) (ar_fm Fs16 rfl rfl A_155) (ar_fm Fs16 rfl rfl A_156) (ar_fm Fs16 rfl rfl A_173) (ar_fm Fs16 rfl rfl A_183) (ar_fm Fs16 rfl rfl A_184) (ar_fm Fs16 rfl rfl A_185) (ar_fm Fs16 rfl rfl A_194) (WKS_of (fun k => Fm.gb Fs16 (q := 133) (k := k) rfl rfl) (fun k => Fm.gi Fs16 (q := 156) (k := k) rfl rfl) (fun k => Fm.gi Fs16 (q := 134) (k := k) rfl rfl) P_WKS) (CLI_of (fun k => Fm.gi Fs16 (q := 183) (k := k) rfl rfl) (fun k => Fm.gi Fs16 (q := 185) (k := k) rfl rfl) (fun k => Fm.gi Fs16 (q := 184) (k := k) rfl rfl) (fun k => Fm.gi Fs16 (q := 155) (k := k) rfl rfl) (fun k => Fm.gi Fs16 (q := 156) (k := k) rfl rfl) P_CLI) (NOK_of (fun k => Fm.gi Fs16 (q := 194) (k := k) rfl rfl) (fun k => Fm.gi Fs16 (q := 195) (k := k) rfl rfl) (fun k => Fm.gi Fs16 (q := 196) (k := k) rfl rfl) (fun k => Fm.gi Fs16 (q := 197) (k := k) rfl rfl) (fun k => Fm.gi Fs16 (q := 198) (k := k) rfl rfl) (fun k => Fm.gi Fs16 (q := 183) (k := k) rfl rfl) P_NOK)) (rfl) rfl rfl (zr (by omega)) mk_X12_reckonSlots ly_84 ml_12_954 (Nat.le_of_ble_eq_true rfl) (fun s112 hs112 => ?_)
                              obtain ⟨fs112, -⟩ := hs112
                              have Fs112 : Fm [120, 121, 123, 124, 130, 131, 132] [] σ s112 := Fm.tr Fs16 (Fm.wd fs112 rfl rfl)
                              refine wa_aload_n (i := 0) rfl rfl ?_
                              refine wa_getr ck_12 fl_12_343 ly_84 rf_84_135 ?_
                              refine wa_iload rfl ?_
                              refine wa_iload rfl ?_
                              refine wa_iast ly_121 (by ((try simp only [vp_in_iff, Int32.lt_iff_toInt_lt, Int32.le_iff_toInt_le, ← Int32.toInt_inj, Int32.reduceToInt, n_1, n_2, n_8, Int32.toNatClampNeg, Int64.lt_iff_toInt_lt, Int64.le_iff_toInt_le, ← Int64.toInt_inj, Int64.reduceToInt, Int32.toInt_toInt64, lg_cmp_ge, lg_cmp_le, lg_cmp_gt, lg_cmp_lt, lg_cmp_eq, Bool.false_eq_true, Bool.true_eq_false, reduceCtorEq, false_iff, true_iff, iff_true, iff_false, and_true, true_and, and_false, false_and, reduceIte, ite_true, ite_false, eq_self] at *)) <;> omega) (fun s114 hs114 => ?_)
                              have Fs114 : Fm [120, 121, 123, 124, 130, 131, 132] [] σ s114 := by rw [hs114]; exact Fm.si Fs112 rfl
                              refine wa_aload_n (i := 0) rfl rfl ?_
                              refine wa_getr ck_12 fl_12_346 ly_84 rf_84_136 ?_
                              refine wa_iload rfl ?_
                              refine wa_aload_n (i := 0) rfl rfl ?_
                              refine wa_iload_n (i := 1) rfl rfl ?_
                              refine wa_iload_n (i := 2) rfl rfl ?_
                              refine wa_Vi (d9 := d - 1) [.int _, .int _] [.int v24, .ref 120] (sp_X12_isAnswer G (d := d - 1) (by omega) s114 _ _ (by ((try simp only [vp_in_iff, Int32.lt_iff_toInt_lt, Int32.le_iff_toInt_le, ← Int32.toInt_inj, Int32.reduceToInt, n_1, n_2, n_8, Int32.toNatClampNeg, Int64.lt_iff_toInt_lt, Int64.le_iff_toInt_le, ← Int64.toInt_inj, Int64.reduceToInt, Int32.toInt_toInt64, lg_cmp_ge, lg_cmp_le, lg_cmp_gt, lg_cmp_lt, lg_cmp_eq, Bool.false_eq_true, Bool.true_eq_false, reduceCtorEq, false_iff, true_iff, iff_true, iff_false, and_true, true_and, and_false, false_and, reduceIte, ite_true, ite_false, eq_self] at *)) <;> omega) (by rw [(nxq_gi_si hs114 (by decide)).trans ((Fm.gi fs112 (q := 84) (k := 33) rfl rfl).trans (khi18_2))]; first | assumption | exact Or.inl rfl | exact Or.inr rfl | (((try simp only [vp_in_iff, Int32.lt_iff_toInt_lt, Int32.le_iff_toInt_le, ← Int32.toInt_inj, Int32.reduceToInt, n_1, n_2, n_8, Int32.toNatClampNeg, Int64.lt_iff_toInt_lt, Int64.le_iff_toInt_le, ← Int64.toInt_inj, Int64.reduceToInt, Int32.toInt_toInt64, lg_cmp_ge, lg_cmp_le, lg_cmp_gt, lg_cmp_lt, lg_cmp_eq, Bool.false_eq_true, Bool.true_eq_false, reduceCtorEq, false_iff, true_iff, iff_true, iff_false, and_true, true_and, and_false, false_and, reduceIte, ite_true, ite_false, eq_self] at *)) <;> omega))) (rfl) rfl rfl (zr (by omega)) mk_X12_isAnswer ly_84 ml_12_973 (Nat.le_of_ble_eq_true rfl) (fun x116 s115 hs115 => ?_)
                              obtain ⟨bx116, ex116, zs115, -⟩ := pB hs115
                              subst ex116
                              subst zs115
                              refine wa_if_eq o_X12_judge_212 (by decide) (fun h117 => ?_) (fun h117 => ?_)
                              · replace h117 := bI_f (b := bx116) (rfl) h117
                                refine wa_iconst (v := 0) (by decide) ?_
                                refine wa_iload_n (i := 3) rfl rfl ?_
                                refine wa_iconst (v := (-1)) (by decide) ?_
                                refine wa_icmp_eq o_X12_judge_231 (by decide) (fun h118 => ?_) (fun h118 => ?_)
                                · refine wa_iconst (v := 0) (by decide) ?_
                                  refine wa_iadd ?_
                                  refine wa_top (fun v119 hv119 => ?_)
                                  have tv119 := i_addT hv119
                                  clear hv119
                                  refine wa_iast ly_120 (by ((try simp only [vp_in_iff, Int32.lt_iff_toInt_lt, Int32.le_iff_toInt_le, ← Int32.toInt_inj, Int32.reduceToInt, n_1, n_2, n_8, Int32.toNatClampNeg, Int64.lt_iff_toInt_lt, Int64.le_iff_toInt_le, ← Int64.toInt_inj, Int64.reduceToInt, Int32.toInt_toInt64, lg_cmp_ge, lg_cmp_le, lg_cmp_gt, lg_cmp_lt, lg_cmp_eq, Bool.false_eq_true, Bool.true_eq_false, reduceCtorEq, false_iff, true_iff, iff_true, iff_false, and_true, true_and, and_false, false_and, reduceIte, ite_true, ite_false, eq_self] at *)) <;> omega) (fun s120 hs120 => ?_)
                                  have Fs120 : Fm [120, 121, 123, 124, 130, 131, 132] [] σ s120 := by rw [hs120]; exact Fm.si Fs114 rfl
                                  refine wa_aload_n (i := 0) rfl rfl ?_
                                  refine wa_getr ck_12 fl_12_334 ly_84 rf_84_132 ?_
                                  refine wa_iload rfl ?_
                                  refine wa_aload_n (i := 0) rfl rfl ?_
                                  refine wa_getr ck_12 fl_12_334 ly_84 rf_84_132 ?_
                                  refine wa_iload rfl ?_
                                  refine wa_iald ly_124 (by ((try simp only [vp_in_iff, Int32.lt_iff_toInt_lt, Int32.le_iff_toInt_le, ← Int32.toInt_inj, Int32.reduceToInt, n_1, n_2, n_8, Int32.toNatClampNeg, Int64.lt_iff_toInt_lt, Int64.le_iff_toInt_le, ← Int64.toInt_inj, Int64.reduceToInt, Int32.toInt_toInt64, lg_cmp_ge, lg_cmp_le, lg_cmp_gt, lg_cmp_lt, lg_cmp_eq, Bool.false_eq_true, Bool.true_eq_false, reduceCtorEq, false_iff, true_iff, iff_true, iff_false, and_true, true_and, and_false, false_and, reduceIte, ite_true, ite_false, eq_self] at *)) <;> omega) ?_
                                  refine wa_aload_n (i := 0) rfl rfl ?_
                                  refine wa_getr ck_12 fl_12_346 ly_84 rf_84_136 ?_
                                  refine wa_iload rfl ?_
                                  refine wa_iald ly_120 (by ((try simp only [vp_in_iff, Int32.lt_iff_toInt_lt, Int32.le_iff_toInt_le, ← Int32.toInt_inj, Int32.reduceToInt, n_1, n_2, n_8, Int32.toNatClampNeg, Int64.lt_iff_toInt_lt, Int64.le_iff_toInt_le, ← Int64.toInt_inj, Int64.reduceToInt, Int32.toInt_toInt64, lg_cmp_ge, lg_cmp_le, lg_cmp_gt, lg_cmp_lt, lg_cmp_eq, Bool.false_eq_true, Bool.true_eq_false, reduceCtorEq, false_iff, true_iff, iff_true, iff_false, and_true, true_and, and_false, false_and, reduceIte, ite_true, ite_false, eq_self] at *)) <;> omega) ?_
                                  refine wa_iconst (v := 2) (by decide) ?_
                                  refine wa_irem (by ((try simp only [vp_in_iff, Int32.lt_iff_toInt_lt, Int32.le_iff_toInt_le, ← Int32.toInt_inj, Int32.reduceToInt, n_1, n_2, n_8, Int32.toNatClampNeg, Int64.lt_iff_toInt_lt, Int64.le_iff_toInt_le, ← Int64.toInt_inj, Int64.reduceToInt, Int32.toInt_toInt64, lg_cmp_ge, lg_cmp_le, lg_cmp_gt, lg_cmp_lt, lg_cmp_eq, Bool.false_eq_true, Bool.true_eq_false, reduceCtorEq, false_iff, true_iff, iff_true, iff_false, and_true, true_and, and_false, false_and, reduceIte, ite_true, ite_false, eq_self] at *)) <;> omega) ?_
                                  refine wa_top (fun v121 hv121 => ?_)
                                  have tv121 := i_remU hv121
                                  clear hv121
                                  refine wa_iload rfl ?_
                                  refine wa_ishl ?_
                                  refine wa_top (fun v122 hv122 => ?_)
                                  clear hv122
                                  refine wa_ior ?_
                                  refine wa_top (fun v123 hv123 => ?_)
                                  clear hv123
                                  refine wa_iast ly_124 (by ((try simp only [vp_in_iff, Int32.lt_iff_toInt_lt, Int32.le_iff_toInt_le, ← Int32.toInt_inj, Int32.reduceToInt, n_1, n_2, n_8, Int32.toNatClampNeg, Int64.lt_iff_toInt_lt, Int64.le_iff_toInt_le, ← Int64.toInt_inj, Int64.reduceToInt, Int32.toInt_toInt64, lg_cmp_ge, lg_cmp_le, lg_cmp_gt, lg_cmp_lt, lg_cmp_eq, Bool.false_eq_true, Bool.true_eq_false, reduceCtorEq, false_iff, true_iff, iff_true, iff_false, and_true, true_and, and_false, false_and, reduceIte, ite_true, ite_false, eq_self] at *)) <;> omega) (fun s124 hs124 => ?_)
                                  have Fs124 : Fm [120, 121, 123, 124, 130, 131, 132] [] σ s124 := by rw [hs124]; exact Fm.si Fs120 rfl
                                  refine wa_aload_n (i := 0) rfl rfl ?_
                                  refine wa_getr ck_12 fl_12_337 ly_84 rf_84_133 ?_
                                  refine wa_iload rfl ?_
                                  refine wa_aload_n (i := 0) rfl rfl ?_
                                  refine wa_getr ck_12 fl_12_337 ly_84 rf_84_133 ?_
                                  refine wa_iload rfl ?_
                                  refine wa_iald ly_123 (by ((try simp only [vp_in_iff, Int32.lt_iff_toInt_lt, Int32.le_iff_toInt_le, ← Int32.toInt_inj, Int32.reduceToInt, n_1, n_2, n_8, Int32.toNatClampNeg, Int64.lt_iff_toInt_lt, Int64.le_iff_toInt_le, ← Int64.toInt_inj, Int64.reduceToInt, Int32.toInt_toInt64, lg_cmp_ge, lg_cmp_le, lg_cmp_gt, lg_cmp_lt, lg_cmp_eq, Bool.false_eq_true, Bool.true_eq_false, reduceCtorEq, false_iff, true_iff, iff_true, iff_false, and_true, true_and, and_false, false_and, reduceIte, ite_true, ite_false, eq_self] at *)) <;> omega) ?_
                                  refine wa_aload_n (i := 0) rfl rfl ?_
                                  refine wa_getr ck_12 fl_12_346 ly_84 rf_84_136 ?_
                                  refine wa_iload rfl ?_
                                  refine wa_iald ly_120 (by ((try simp only [vp_in_iff, Int32.lt_iff_toInt_lt, Int32.le_iff_toInt_le, ← Int32.toInt_inj, Int32.reduceToInt, n_1, n_2, n_8, Int32.toNatClampNeg, Int64.lt_iff_toInt_lt, Int64.le_iff_toInt_le, ← Int64.toInt_inj, Int64.reduceToInt, Int32.toInt_toInt64, lg_cmp_ge, lg_cmp_le, lg_cmp_gt, lg_cmp_lt, lg_cmp_eq, Bool.false_eq_true, Bool.true_eq_false, reduceCtorEq, false_iff, true_iff, iff_true, iff_false, and_true, true_and, and_false, false_and, reduceIte, ite_true, ite_false, eq_self] at *)) <;> omega) ?_
                                  refine wa_iconst (v := 2) (by decide) ?_
                                  refine wa_idiv (by ((try simp only [vp_in_iff, Int32.lt_iff_toInt_lt, Int32.le_iff_toInt_le, ← Int32.toInt_inj, Int32.reduceToInt, n_1, n_2, n_8, Int32.toNatClampNeg, Int64.lt_iff_toInt_lt, Int64.le_iff_toInt_le, ← Int64.toInt_inj, Int64.reduceToInt, Int32.toInt_toInt64, lg_cmp_ge, lg_cmp_le, lg_cmp_gt, lg_cmp_lt, lg_cmp_eq, Bool.false_eq_true, Bool.true_eq_false, reduceCtorEq, false_iff, true_iff, iff_true, iff_false, and_true, true_and, and_false, false_and, reduceIte, ite_true, ite_false, eq_self] at *)) <;> omega) ?_
                                  refine wa_top (fun v125 hv125 => ?_)
                                  have tv125 := i_divU hv125
                                  clear hv125
                                  refine wa_iload rfl ?_
                                  refine wa_ishl ?_
                                  refine wa_top (fun v126 hv126 => ?_)
                                  clear hv126
                                  refine wa_ior ?_
                                  refine wa_top (fun v127 hv127 => ?_)
                                  clear hv127
                                  refine wa_iast ly_123 (by ((try simp only [vp_in_iff, Int32.lt_iff_toInt_lt, Int32.le_iff_toInt_le, ← Int32.toInt_inj, Int32.reduceToInt, n_1, n_2, n_8, Int32.toNatClampNeg, Int64.lt_iff_toInt_lt, Int64.le_iff_toInt_le, ← Int64.toInt_inj, Int64.reduceToInt, Int32.toInt_toInt64, lg_cmp_ge, lg_cmp_le, lg_cmp_gt, lg_cmp_lt, lg_cmp_eq, Bool.false_eq_true, Bool.true_eq_false, reduceCtorEq, false_iff, true_iff, iff_true, iff_false, and_true, true_and, and_false, false_and, reduceIte, ite_true, ite_false, eq_self] at *)) <;> omega) (fun s128 hs128 => ?_)
                                  have Fs128 : Fm [120, 121, 123, 124, 130, 131, 132] [] σ s128 := by rw [hs128]; exact Fm.si Fs124 rfl
                                  refine wa_iinc (v := (1)) (lv' := fun y129 => [(5, .int y129), (7, .int v24), (0, .ref 84), (1, .int a0), (2, .int a1), (3, .int a2), (4, .int l4), (6, .int l6)]) (by decide) rfl (by decide) (fun _ => rfl) (fun y129 hy129 => ?_)
                                  have ty129 := i_addT hy129.symm
                                  clear hy129
                                  refine wa_goto o_X12_judge_56 (by decide) ?_
                                  refine wa_pick [2, 3, 4, 5, 6, 0] rfl ?_
                                  exact ih12 _ (by ((try simp only [vp_in_iff, Int32.lt_iff_toInt_lt, Int32.le_iff_toInt_le, ← Int32.toInt_inj, Int32.reduceToInt, n_1, n_2, n_8, Int32.toNatClampNeg, Int64.lt_iff_toInt_lt, Int64.le_iff_toInt_le, ← Int64.toInt_inj, Int64.reduceToInt, Int32.toInt_toInt64, lg_cmp_ge, lg_cmp_le, lg_cmp_gt, lg_cmp_lt, lg_cmp_eq, Bool.false_eq_true, Bool.true_eq_false, reduceCtorEq, false_iff, true_iff, iff_true, iff_false, and_true, true_and, and_false, false_and, reduceIte, ite_true, ite_false, eq_self] at *)) <;> omega) _ _ ⟨Fs128, ((nxq_gi_si hs128 (by decide)).trans ((nxq_gi_si hs124 (by decide)).trans ((nxq_gi_si hs120 (by decide)).trans ((nxq_gi_si hs114 (by decide)).trans ((Fm.gi fs112 (q := 84) (k := 119) rfl rfl).trans (khi18_0)))))), ((nxq_gi_si hs128 (by decide)).trans ((nxq_gi_si hs124 (by decide)).trans ((nxq_gi_si hs120 (by decide)).trans ((nxq_gi_si hs114 (by decide)).trans ((Fm.gi fs112 (q := 84) (k := 32) rfl rfl).trans (khi18_1)))))), ((nxq_gi_si hs128 (by decide)).trans ((nxq_gi_si hs124 (by decide)).trans ((nxq_gi_si hs120 (by decide)).trans ((nxq_gi_si hs114 (by decide)).trans ((Fm.gi fs112 (q := 84) (k := 33) rfl rfl).trans (khi18_2)))))), ((nxq_gi_si hs128 (by decide)).trans ((nxq_gi_si hs124 (by decide)).trans ((nxq_gi_si hs120 (by decide)).trans ((nxq_gi_si hs114 (by decide)).trans ((Fm.gi fs112 (q := 84) (k := 129) rfl rfl).trans (khi18_3)))))), ((nxq_gi_si hs128 (by decide)).trans ((nxq_gi_si hs124 (by decide)).trans ((nxq_gi_si hs120 (by decide)).trans ((nxq_gi_si hs114 (by decide)).trans ((Fm.gi fs112 (q := 84) (k := 131) rfl rfl).trans (khi18_4)))))), (by ((try simp only [vp_in_iff, Int32.lt_iff_toInt_lt, Int32.le_iff_toInt_le, ← Int32.toInt_inj, Int32.reduceToInt, n_1, n_2, n_8, Int32.toNatClampNeg, Int64.lt_iff_toInt_lt, Int64.le_iff_toInt_le, ← Int64.toInt_inj, Int64.reduceToInt, Int32.toInt_toInt64, lg_cmp_ge, lg_cmp_le, lg_cmp_gt, lg_cmp_lt, lg_cmp_eq, Bool.false_eq_true, Bool.true_eq_false, reduceCtorEq, false_iff, true_iff, iff_true, iff_false, and_true, true_and, and_false, false_and, reduceIte, ite_true, ite_false, eq_self] at *)) <;> omega), trivial⟩ rfl
                                · refine wa_aload_n (i := 0) rfl rfl ?_
                                  refine wa_getr ck_12 fl_12_310 ly_84 rf_84_123 ?_
                                  refine wa_iload_n (i := 3) rfl rfl ?_
                                  refine wa_zald ly_131 (by ((try simp only [vp_in_iff, Int32.lt_iff_toInt_lt, Int32.le_iff_toInt_le, ← Int32.toInt_inj, Int32.reduceToInt, n_1, n_2, n_8, Int32.toNatClampNeg, Int64.lt_iff_toInt_lt, Int64.le_iff_toInt_le, ← Int64.toInt_inj, Int64.reduceToInt, Int32.toInt_toInt64, lg_cmp_ge, lg_cmp_le, lg_cmp_gt, lg_cmp_lt, lg_cmp_eq, Bool.false_eq_true, Bool.true_eq_false, reduceCtorEq, false_iff, true_iff, iff_true, iff_false, and_true, true_and, and_false, false_and, reduceIte, ite_true, ite_false, eq_self] at *)) <;> omega) ?_
                                  refine wa_if_eq o_X12_judge_231 (by decide) (fun h130 => ?_) (fun h130 => ?_)
                                  · replace h130 := bI_f (b := (gb s114 131 (a2).toNatClampNeg)) (rfl) h130
                                    refine wa_iconst (v := 0) (by decide) ?_
                                    refine wa_iadd ?_
                                    refine wa_top (fun v131 hv131 => ?_)
                                    have tv131 := i_addT hv131
                                    clear hv131
                                    refine wa_iast ly_120 (by ((try simp only [vp_in_iff, Int32.lt_iff_toInt_lt, Int32.le_iff_toInt_le, ← Int32.toInt_inj, Int32.reduceToInt, n_1, n_2, n_8, Int32.toNatClampNeg, Int64.lt_iff_toInt_lt, Int64.le_iff_toInt_le, ← Int64.toInt_inj, Int64.reduceToInt, Int32.toInt_toInt64, lg_cmp_ge, lg_cmp_le, lg_cmp_gt, lg_cmp_lt, lg_cmp_eq, Bool.false_eq_true, Bool.true_eq_false, reduceCtorEq, false_iff, true_iff, iff_true, iff_false, and_true, true_and, and_false, false_and, reduceIte, ite_true, ite_false, eq_self] at *)) <;> omega) (fun s132 hs132 => ?_)
                                    have Fs132 : Fm [120, 121, 123, 124, 130, 131, 132] [] σ s132 := by rw [hs132]; exact Fm.si Fs114 rfl
                                    refine wa_aload_n (i := 0) rfl rfl ?_
                                    refine wa_getr ck_12 fl_12_334 ly_84 rf_84_132 ?_
                                    refine wa_iload rfl ?_
                                    refine wa_aload_n (i := 0) rfl rfl ?_
                                    refine wa_getr ck_12 fl_12_334 ly_84 rf_84_132 ?_
                                    refine wa_iload rfl ?_
                                    refine wa_iald ly_124 (by ((try simp only [vp_in_iff, Int32.lt_iff_toInt_lt, Int32.le_iff_toInt_le, ← Int32.toInt_inj, Int32.reduceToInt, n_1, n_2, n_8, Int32.toNatClampNeg, Int64.lt_iff_toInt_lt, Int64.le_iff_toInt_le, ← Int64.toInt_inj, Int64.reduceToInt, Int32.toInt_toInt64, lg_cmp_ge, lg_cmp_le, lg_cmp_gt, lg_cmp_lt, lg_cmp_eq, Bool.false_eq_true, Bool.true_eq_false, reduceCtorEq, false_iff, true_iff, iff_true, iff_false, and_true, true_and, and_false, false_and, reduceIte, ite_true, ite_false, eq_self] at *)) <;> omega) ?_
                                    refine wa_aload_n (i := 0) rfl rfl ?_
                                    refine wa_getr ck_12 fl_12_346 ly_84 rf_84_136 ?_
                                    refine wa_iload rfl ?_
                                    refine wa_iald ly_120 (by ((try simp only [vp_in_iff, Int32.lt_iff_toInt_lt, Int32.le_iff_toInt_le, ← Int32.toInt_inj, Int32.reduceToInt, n_1, n_2, n_8, Int32.toNatClampNeg, Int64.lt_iff_toInt_lt, Int64.le_iff_toInt_le, ← Int64.toInt_inj, Int64.reduceToInt, Int32.toInt_toInt64, lg_cmp_ge, lg_cmp_le, lg_cmp_gt, lg_cmp_lt, lg_cmp_eq, Bool.false_eq_true, Bool.true_eq_false, reduceCtorEq, false_iff, true_iff, iff_true, iff_false, and_true, true_and, and_false, false_and, reduceIte, ite_true, ite_false, eq_self] at *)) <;> omega) ?_
                                    refine wa_iconst (v := 2) (by decide) ?_
                                    refine wa_irem (by ((try simp only [vp_in_iff, Int32.lt_iff_toInt_lt, Int32.le_iff_toInt_le, ← Int32.toInt_inj, Int32.reduceToInt, n_1, n_2, n_8, Int32.toNatClampNeg, Int64.lt_iff_toInt_lt, Int64.le_iff_toInt_le, ← Int64.toInt_inj, Int64.reduceToInt, Int32.toInt_toInt64, lg_cmp_ge, lg_cmp_le, lg_cmp_gt, lg_cmp_lt, lg_cmp_eq, Bool.false_eq_true, Bool.true_eq_false, reduceCtorEq, false_iff, true_iff, iff_true, iff_false, and_true, true_and, and_false, false_and, reduceIte, ite_true, ite_false, eq_self] at *)) <;> omega) ?_
                                    refine wa_top (fun v133 hv133 => ?_)
                                    have tv133 := i_remU hv133
                                    clear hv133
                                    refine wa_iload rfl ?_
                                    refine wa_ishl ?_
                                    refine wa_top (fun v134 hv134 => ?_)
                                    clear hv134
                                    refine wa_ior ?_
                                    refine wa_top (fun v135 hv135 => ?_)
                                    clear hv135
                                    refine wa_iast ly_124 (by ((try simp only [vp_in_iff, Int32.lt_iff_toInt_lt, Int32.le_iff_toInt_le, ← Int32.toInt_inj, Int32.reduceToInt, n_1, n_2, n_8, Int32.toNatClampNeg, Int64.lt_iff_toInt_lt, Int64.le_iff_toInt_le, ← Int64.toInt_inj, Int64.reduceToInt, Int32.toInt_toInt64, lg_cmp_ge, lg_cmp_le, lg_cmp_gt, lg_cmp_lt, lg_cmp_eq, Bool.false_eq_true, Bool.true_eq_false, reduceCtorEq, false_iff, true_iff, iff_true, iff_false, and_true, true_and, and_false, false_and, reduceIte, ite_true, ite_false, eq_self] at *)) <;> omega) (fun s136 hs136 => ?_)
                                    have Fs136 : Fm [120, 121, 123, 124, 130, 131, 132] [] σ s136 := by rw [hs136]; exact Fm.si Fs132 rfl
                                    refine wa_aload_n (i := 0) rfl rfl ?_
                                    refine wa_getr ck_12 fl_12_337 ly_84 rf_84_133 ?_
                                    refine wa_iload rfl ?_
                                    refine wa_aload_n (i := 0) rfl rfl ?_
                                    refine wa_getr ck_12 fl_12_337 ly_84 rf_84_133 ?_
                                    refine wa_iload rfl ?_
                                    refine wa_iald ly_123 (by ((try simp only [vp_in_iff, Int32.lt_iff_toInt_lt, Int32.le_iff_toInt_le, ← Int32.toInt_inj, Int32.reduceToInt, n_1, n_2, n_8, Int32.toNatClampNeg, Int64.lt_iff_toInt_lt, Int64.le_iff_toInt_le, ← Int64.toInt_inj, Int64.reduceToInt, Int32.toInt_toInt64, lg_cmp_ge, lg_cmp_le, lg_cmp_gt, lg_cmp_lt, lg_cmp_eq, Bool.false_eq_true, Bool.true_eq_false, reduceCtorEq, false_iff, true_iff, iff_true, iff_false, and_true, true_and, and_false, false_and, reduceIte, ite_true, ite_false, eq_self] at *)) <;> omega) ?_
                                    refine wa_aload_n (i := 0) rfl rfl ?_
                                    refine wa_getr ck_12 fl_12_346 ly_84 rf_84_136 ?_
                                    refine wa_iload rfl ?_
                                    refine wa_iald ly_120 (by ((try simp only [vp_in_iff, Int32.lt_iff_toInt_lt, Int32.le_iff_toInt_le, ← Int32.toInt_inj, Int32.reduceToInt, n_1, n_2, n_8, Int32.toNatClampNeg, Int64.lt_iff_toInt_lt, Int64.le_iff_toInt_le, ← Int64.toInt_inj, Int64.reduceToInt, Int32.toInt_toInt64, lg_cmp_ge, lg_cmp_le, lg_cmp_gt, lg_cmp_lt, lg_cmp_eq, Bool.false_eq_true, Bool.true_eq_false, reduceCtorEq, false_iff, true_iff, iff_true, iff_false, and_true, true_and, and_false, false_and, reduceIte, ite_true, ite_false, eq_self] at *)) <;> omega) ?_
                                    refine wa_iconst (v := 2) (by decide) ?_
                                    refine wa_idiv (by ((try simp only [vp_in_iff, Int32.lt_iff_toInt_lt, Int32.le_iff_toInt_le, ← Int32.toInt_inj, Int32.reduceToInt, n_1, n_2, n_8, Int32.toNatClampNeg, Int64.lt_iff_toInt_lt, Int64.le_iff_toInt_le, ← Int64.toInt_inj, Int64.reduceToInt, Int32.toInt_toInt64, lg_cmp_ge, lg_cmp_le, lg_cmp_gt, lg_cmp_lt, lg_cmp_eq, Bool.false_eq_true, Bool.true_eq_false, reduceCtorEq, false_iff, true_iff, iff_true, iff_false, and_true, true_and, and_false, false_and, reduceIte, ite_true, ite_false, eq_self] at *)) <;> omega) ?_
                                    refine wa_top (fun v137 hv137 => ?_)
                                    have tv137 := i_divU hv137
                                    clear hv137
                                    refine wa_iload rfl ?_
                                    refine wa_ishl ?_
                                    refine wa_top (fun v138 hv138 => ?_)
                                    clear hv138
                                    refine wa_ior ?_
                                    refine wa_top (fun v139 hv139 => ?_)
                                    clear hv139
                                    refine wa_iast ly_123 (by ((try simp only [vp_in_iff, Int32.lt_iff_toInt_lt, Int32.le_iff_toInt_le, ← Int32.toInt_inj, Int32.reduceToInt, n_1, n_2, n_8, Int32.toNatClampNeg, Int64.lt_iff_toInt_lt, Int64.le_iff_toInt_le, ← Int64.toInt_inj, Int64.reduceToInt, Int32.toInt_toInt64, lg_cmp_ge, lg_cmp_le, lg_cmp_gt, lg_cmp_lt, lg_cmp_eq, Bool.false_eq_true, Bool.true_eq_false, reduceCtorEq, false_iff, true_iff, iff_true, iff_false, and_true, true_and, and_false, false_and, reduceIte, ite_true, ite_false, eq_self] at *)) <;> omega) (fun s140 hs140 => ?_)
                                    have Fs140 : Fm [120, 121, 123, 124, 130, 131, 132] [] σ s140 := by rw [hs140]; exact Fm.si Fs136 rfl
                                    refine wa_iinc (v := (1)) (lv' := fun y141 => [(5, .int y141), (7, .int v24), (0, .ref 84), (1, .int a0), (2, .int a1), (3, .int a2), (4, .int l4), (6, .int l6)]) (by decide) rfl (by decide) (fun _ => rfl) (fun y141 hy141 => ?_)
                                    have ty141 := i_addT hy141.symm
                                    clear hy141
                                    refine wa_goto o_X12_judge_56 (by decide) ?_
                                    refine wa_pick [2, 3, 4, 5, 6, 0] rfl ?_
                                    exact ih12 _ (by ((try simp only [vp_in_iff, Int32.lt_iff_toInt_lt, Int32.le_iff_toInt_le, ← Int32.toInt_inj, Int32.reduceToInt, n_1, n_2, n_8, Int32.toNatClampNeg, Int64.lt_iff_toInt_lt, Int64.le_iff_toInt_le, ← Int64.toInt_inj, Int64.reduceToInt, Int32.toInt_toInt64, lg_cmp_ge, lg_cmp_le, lg_cmp_gt, lg_cmp_lt, lg_cmp_eq, Bool.false_eq_true, Bool.true_eq_false, reduceCtorEq, false_iff, true_iff, iff_true, iff_false, and_true, true_and, and_false, false_and, reduceIte, ite_true, ite_false, eq_self] at *)) <;> omega) _ _ ⟨Fs140, ((nxq_gi_si hs140 (by decide)).trans ((nxq_gi_si hs136 (by decide)).trans ((nxq_gi_si hs132 (by decide)).trans ((nxq_gi_si hs114 (by decide)).trans ((Fm.gi fs112 (q := 84) (k := 119) rfl rfl).trans (khi18_0)))))), ((nxq_gi_si hs140 (by decide)).trans ((nxq_gi_si hs136 (by decide)).trans ((nxq_gi_si hs132 (by decide)).trans ((nxq_gi_si hs114 (by decide)).trans ((Fm.gi fs112 (q := 84) (k := 32) rfl rfl).trans (khi18_1)))))), ((nxq_gi_si hs140 (by decide)).trans ((nxq_gi_si hs136 (by decide)).trans ((nxq_gi_si hs132 (by decide)).trans ((nxq_gi_si hs114 (by decide)).trans ((Fm.gi fs112 (q := 84) (k := 33) rfl rfl).trans (khi18_2)))))), ((nxq_gi_si hs140 (by decide)).trans ((nxq_gi_si hs136 (by decide)).trans ((nxq_gi_si hs132 (by decide)).trans ((nxq_gi_si hs114 (by decide)).trans ((Fm.gi fs112 (q := 84) (k := 129) rfl rfl).trans (khi18_3)))))), ((nxq_gi_si hs140 (by decide)).trans ((nxq_gi_si hs136 (by decide)).trans ((nxq_gi_si hs132 (by decide)).trans ((nxq_gi_si hs114 (by decide)).trans ((Fm.gi fs112 (q := 84) (k := 131) rfl rfl).trans (khi18_4)))))), (by ((try simp only [vp_in_iff, Int32.lt_iff_toInt_lt, Int32.le_iff_toInt_le, ← Int32.toInt_inj, Int32.reduceToInt, n_1, n_2, n_8, Int32.toNatClampNeg, Int64.lt_iff_toInt_lt, Int64.le_iff_toInt_le, ← Int64.toInt_inj, Int64.reduceToInt, Int32.toInt_toInt64, lg_cmp_ge, lg_cmp_le, lg_cmp_gt, lg_cmp_lt, lg_cmp_eq, Bool.false_eq_true, Bool.true_eq_false, reduceCtorEq, false_iff, true_iff, iff_true, iff_false, and_true, true_and, and_false, false_and, reduceIte, ite_true, ite_false, eq_self] at *)) <;> omega), trivial⟩ rfl
                                  · replace h130 := bI_t (b := (gb s114 131 (a2).toNatClampNeg)) (rfl) h130
                                    refine wa_iconst (v := 2) (by decide) ?_
                                    refine wa_goto o_X12_judge_232 (by decide) ?_
                                    refine wa_iadd ?_
                                    refine wa_top (fun v142 hv142 => ?_)
                                    have tv142 := i_addT hv142
                                    clear hv142
                                    refine wa_iast ly_120 (by ((try simp only [vp_in_iff, Int32.lt_iff_toInt_lt, Int32.le_iff_toInt_le, ← Int32.toInt_inj, Int32.reduceToInt, n_1, n_2, n_8, Int32.toNatClampNeg, Int64.lt_iff_toInt_lt, Int64.le_iff_toInt_le, ← Int64.toInt_inj, Int64.reduceToInt, Int32.toInt_toInt64, lg_cmp_ge, lg_cmp_le, lg_cmp_gt, lg_cmp_lt, lg_cmp_eq, Bool.false_eq_true, Bool.true_eq_false, reduceCtorEq, false_iff, true_iff, iff_true, iff_false, and_true, true_and, and_false, false_and, reduceIte, ite_true, ite_false, eq_self] at *)) <;> omega) (fun s143 hs143 => ?_)
                                    have Fs143 : Fm [120, 121, 123, 124, 130, 131, 132] [] σ s143 := by rw [hs143]; exact Fm.si Fs114 rfl
                                    refine wa_aload_n (i := 0) rfl rfl ?_
                                    refine wa_getr ck_12 fl_12_334 ly_84 rf_84_132 ?_
                                    refine wa_iload rfl ?_
                                    refine wa_aload_n (i := 0) rfl rfl ?_
                                    refine wa_getr ck_12 fl_12_334 ly_84 rf_84_132 ?_
                                    refine wa_iload rfl ?_
                                    refine wa_iald ly_124 (by ((try simp only [vp_in_iff, Int32.lt_iff_toInt_lt, Int32.le_iff_toInt_le, ← Int32.toInt_inj, Int32.reduceToInt, n_1, n_2, n_8, Int32.toNatClampNeg, Int64.lt_iff_toInt_lt, Int64.le_iff_toInt_le, ← Int64.toInt_inj, Int64.reduceToInt, Int32.toInt_toInt64, lg_cmp_ge, lg_cmp_le, lg_cmp_gt, lg_cmp_lt, lg_cmp_eq, Bool.false_eq_true, Bool.true_eq_false, reduceCtorEq, false_iff, true_iff, iff_true, iff_false, and_true, true_and, and_false, false_and, reduceIte, ite_true, ite_false, eq_self] at *)) <;> omega) ?_
                                    refine wa_aload_n (i := 0) rfl rfl ?_
                                    refine wa_getr ck_12 fl_12_346 ly_84 rf_84_136 ?_
                                    refine wa_iload rfl ?_
                                    refine wa_iald ly_120 (by ((try simp only [vp_in_iff, Int32.lt_iff_toInt_lt, Int32.le_iff_toInt_le, ← Int32.toInt_inj, Int32.reduceToInt, n_1, n_2, n_8, Int32.toNatClampNeg, Int64.lt_iff_toInt_lt, Int64.le_iff_toInt_le, ← Int64.toInt_inj, Int64.reduceToInt, Int32.toInt_toInt64, lg_cmp_ge, lg_cmp_le, lg_cmp_gt, lg_cmp_lt, lg_cmp_eq, Bool.false_eq_true, Bool.true_eq_false, reduceCtorEq, false_iff, true_iff, iff_true, iff_false, and_true, true_and, and_false, false_and, reduceIte, ite_true, ite_false, eq_self] at *)) <;> omega) ?_
                                    refine wa_iconst (v := 2) (by decide) ?_
                                    refine wa_irem (by ((try simp only [vp_in_iff, Int32.lt_iff_toInt_lt, Int32.le_iff_toInt_le, ← Int32.toInt_inj, Int32.reduceToInt, n_1, n_2, n_8, Int32.toNatClampNeg, Int64.lt_iff_toInt_lt, Int64.le_iff_toInt_le, ← Int64.toInt_inj, Int64.reduceToInt, Int32.toInt_toInt64, lg_cmp_ge, lg_cmp_le, lg_cmp_gt, lg_cmp_lt, lg_cmp_eq, Bool.false_eq_true, Bool.true_eq_false, reduceCtorEq, false_iff, true_iff, iff_true, iff_false, and_true, true_and, and_false, false_and, reduceIte, ite_true, ite_false, eq_self] at *)) <;> omega) ?_
                                    refine wa_top (fun v144 hv144 => ?_)
                                    have tv144 := i_remU hv144
                                    clear hv144
                                    refine wa_iload rfl ?_
                                    refine wa_ishl ?_
                                    refine wa_top (fun v145 hv145 => ?_)
                                    clear hv145
                                    refine wa_ior ?_
                                    refine wa_top (fun v146 hv146 => ?_)
                                    clear hv146
                                    refine wa_iast ly_124 (by ((try simp only [vp_in_iff, Int32.lt_iff_toInt_lt, Int32.le_iff_toInt_le, ← Int32.toInt_inj, Int32.reduceToInt, n_1, n_2, n_8, Int32.toNatClampNeg, Int64.lt_iff_toInt_lt, Int64.le_iff_toInt_le, ← Int64.toInt_inj, Int64.reduceToInt, Int32.toInt_toInt64, lg_cmp_ge, lg_cmp_le, lg_cmp_gt, lg_cmp_lt, lg_cmp_eq, Bool.false_eq_true, Bool.true_eq_false, reduceCtorEq, false_iff, true_iff, iff_true, iff_false, and_true, true_and, and_false, false_and, reduceIte, ite_true, ite_false, eq_self] at *)) <;> omega) (fun s147 hs147 => ?_)
                                    have Fs147 : Fm [120, 121, 123, 124, 130, 131, 132] [] σ s147 := by rw [hs147]; exact Fm.si Fs143 rfl
                                    refine wa_aload_n (i := 0) rfl rfl ?_
                                    refine wa_getr ck_12 fl_12_337 ly_84 rf_84_133 ?_
                                    refine wa_iload rfl ?_
                                    refine wa_aload_n (i := 0) rfl rfl ?_
                                    refine wa_getr ck_12 fl_12_337 ly_84 rf_84_133 ?_
                                    refine wa_iload rfl ?_
                                    refine wa_iald ly_123 (by ((try simp only [vp_in_iff, Int32.lt_iff_toInt_lt, Int32.le_iff_toInt_le, ← Int32.toInt_inj, Int32.reduceToInt, n_1, n_2, n_8, Int32.toNatClampNeg, Int64.lt_iff_toInt_lt, Int64.le_iff_toInt_le, ← Int64.toInt_inj, Int64.reduceToInt, Int32.toInt_toInt64, lg_cmp_ge, lg_cmp_le, lg_cmp_gt, lg_cmp_lt, lg_cmp_eq, Bool.false_eq_true, Bool.true_eq_false, reduceCtorEq, false_iff, true_iff, iff_true, iff_false, and_true, true_and, and_false, false_and, reduceIte, ite_true, ite_false, eq_self] at *)) <;> omega) ?_
                                    refine wa_aload_n (i := 0) rfl rfl ?_
                                    refine wa_getr ck_12 fl_12_346 ly_84 rf_84_136 ?_
                                    refine wa_iload rfl ?_
                                    refine wa_iald ly_120 (by ((try simp only [vp_in_iff, Int32.lt_iff_toInt_lt, Int32.le_iff_toInt_le, ← Int32.toInt_inj, Int32.reduceToInt, n_1, n_2, n_8, Int32.toNatClampNeg, Int64.lt_iff_toInt_lt, Int64.le_iff_toInt_le, ← Int64.toInt_inj, Int64.reduceToInt, Int32.toInt_toInt64, lg_cmp_ge, lg_cmp_le, lg_cmp_gt, lg_cmp_lt, lg_cmp_eq, Bool.false_eq_true, Bool.true_eq_false, reduceCtorEq, false_iff, true_iff, iff_true, iff_false, and_true, true_and, and_false, false_and, reduceIte, ite_true, ite_false, eq_self] at *)) <;> omega) ?_
                                    refine wa_iconst (v := 2) (by decide) ?_
                                    refine wa_idiv (by ((try simp only [vp_in_iff, Int32.lt_iff_toInt_lt, Int32.le_iff_toInt_le, ← Int32.toInt_inj, Int32.reduceToInt, n_1, n_2, n_8, Int32.toNatClampNeg, Int64.lt_iff_toInt_lt, Int64.le_iff_toInt_le, ← Int64.toInt_inj, Int64.reduceToInt, Int32.toInt_toInt64, lg_cmp_ge, lg_cmp_le, lg_cmp_gt, lg_cmp_lt, lg_cmp_eq, Bool.false_eq_true, Bool.true_eq_false, reduceCtorEq, false_iff, true_iff, iff_true, iff_false, and_true, true_and, and_false, false_and, reduceIte, ite_true, ite_false, eq_self] at *)) <;> omega) ?_
                                    refine wa_top (fun v148 hv148 => ?_)
                                    have tv148 := i_divU hv148
                                    clear hv148
                                    refine wa_iload rfl ?_
                                    refine wa_ishl ?_
                                    refine wa_top (fun v149 hv149 => ?_)
                                    clear hv149
                                    refine wa_ior ?_
                                    refine wa_top (fun v150 hv150 => ?_)
                                    clear hv150
                                    refine wa_iast ly_123 (by ((try simp only [vp_in_iff, Int32.lt_iff_toInt_lt, Int32.le_iff_toInt_le, ← Int32.toInt_inj, Int32.reduceToInt, n_1, n_2, n_8, Int32.toNatClampNeg, Int64.lt_iff_toInt_lt, Int64.le_iff_toInt_le, ← Int64.toInt_inj, Int64.reduceToInt, Int32.toInt_toInt64, lg_cmp_ge, lg_cmp_le, lg_cmp_gt, lg_cmp_lt, lg_cmp_eq, Bool.false_eq_true, Bool.true_eq_false, reduceCtorEq, false_iff, true_iff, iff_true, iff_false, and_true, true_and, and_false, false_and, reduceIte, ite_true, ite_false, eq_self] at *)) <;> omega) (fun s151 hs151 => ?_)
                                    have Fs151 : Fm [120, 121, 123, 124, 130, 131, 132] [] σ s151 := by rw [hs151]; exact Fm.si Fs147 rfl
                                    refine wa_iinc (v := (1)) (lv' := fun y152 => [(5, .int y152), (7, .int v24), (0, .ref 84), (1, .int a0), (2, .int a1), (3, .int a2), (4, .int l4), (6, .int l6)]) (by decide) rfl (by decide) (fun _ => rfl) (fun y152 hy152 => ?_)
                                    have ty152 := i_addT hy152.symm
                                    clear hy152
                                    refine wa_goto o_X12_judge_56 (by decide) ?_
                                    refine wa_pick [2, 3, 4, 5, 6, 0] rfl ?_
                                    exact ih12 _ (by ((try simp only [vp_in_iff, Int32.lt_iff_toInt_lt, Int32.le_iff_toInt_le, ← Int32.toInt_inj, Int32.reduceToInt, n_1, n_2, n_8, Int32.toNatClampNeg, Int64.lt_iff_toInt_lt, Int64.le_iff_toInt_le, ← Int64.toInt_inj, Int64.reduceToInt, Int32.toInt_toInt64, lg_cmp_ge, lg_cmp_le, lg_cmp_gt, lg_cmp_lt, lg_cmp_eq, Bool.false_eq_true, Bool.true_eq_false, reduceCtorEq, false_iff, true_iff, iff_true, iff_false, and_true, true_and, and_false, false_and, reduceIte, ite_true, ite_false, eq_self] at *)) <;> omega) _ _ ⟨Fs151, ((nxq_gi_si hs151 (by decide)).trans ((nxq_gi_si hs147 (by decide)).trans ((nxq_gi_si hs143 (by decide)).trans ((nxq_gi_si hs114 (by decide)).trans ((Fm.gi fs112 (q := 84) (k := 119) rfl rfl).trans (khi18_0)))))), ((nxq_gi_si hs151 (by decide)).trans ((nxq_gi_si hs147 (by decide)).trans ((nxq_gi_si hs143 (by decide)).trans ((nxq_gi_si hs114 (by decide)).trans ((Fm.gi fs112 (q := 84) (k := 32) rfl rfl).trans (khi18_1)))))), ((nxq_gi_si hs151 (by decide)).trans ((nxq_gi_si hs147 (by decide)).trans ((nxq_gi_si hs143 (by decide)).trans ((nxq_gi_si hs114 (by decide)).trans ((Fm.gi fs112 (q := 84) (k := 33) rfl rfl).trans (khi18_2)))))), ((nxq_gi_si hs151 (by decide)).trans ((nxq_gi_si hs147 (by decide)).trans ((nxq_gi_si hs143 (by decide)).trans ((nxq_gi_si hs114 (by decide)).trans ((Fm.gi fs112 (q := 84) (k := 129) rfl rfl).trans (khi18_3)))))), ((nxq_gi_si hs151 (by decide)).trans ((nxq_gi_si hs147 (by decide)).trans ((nxq_gi_si hs143 (by decide)).trans ((nxq_gi_si hs114 (by decide)).trans ((Fm.gi fs112 (q := 84) (k := 131) rfl rfl).trans (khi18_4)))))), (by ((try simp only [vp_in_iff, Int32.lt_iff_toInt_lt, Int32.le_iff_toInt_le, ← Int32.toInt_inj, Int32.reduceToInt, n_1, n_2, n_8, Int32.toNatClampNeg, Int64.lt_iff_toInt_lt, Int64.le_iff_toInt_le, ← Int64.toInt_inj, Int64.reduceToInt, Int32.toInt_toInt64, lg_cmp_ge, lg_cmp_le, lg_cmp_gt, lg_cmp_lt, lg_cmp_eq, Bool.false_eq_true, Bool.true_eq_false, reduceCtorEq, false_iff, true_iff, iff_true, iff_false, and_true, true_and, and_false, false_and, reduceIte, ite_true, ite_false, eq_self] at *)) <;> omega), trivial⟩ rfl
                              · replace h117 := bI_t (b := bx116) (rfl) h117
                                refine wa_iconst (v := 1) (by decide) ?_
                                refine wa_goto o_X12_judge_213 (by decide) ?_
                                refine wa_iload_n (i := 3) rfl rfl ?_
                                refine wa_iconst (v := (-1)) (by decide) ?_
                                refine wa_icmp_eq o_X12_judge_231 (by decide) (fun h153 => ?_) (fun h153 => ?_)
                                · refine wa_iconst (v := 0) (by decide) ?_
                                  refine wa_iadd ?_
                                  refine wa_top (fun v154 hv154 => ?_)
                                  have tv154 := i_addT hv154
                                  clear hv154
                                  refine wa_iast ly_120 (by ((try simp only [vp_in_iff, Int32.lt_iff_toInt_lt, Int32.le_iff_toInt_le, ← Int32.toInt_inj, Int32.reduceToInt, n_1, n_2, n_8, Int32.toNatClampNeg, Int64.lt_iff_toInt_lt, Int64.le_iff_toInt_le, ← Int64.toInt_inj, Int64.reduceToInt, Int32.toInt_toInt64, lg_cmp_ge, lg_cmp_le, lg_cmp_gt, lg_cmp_lt, lg_cmp_eq, Bool.false_eq_true, Bool.true_eq_false, reduceCtorEq, false_iff, true_iff, iff_true, iff_false, and_true, true_and, and_false, false_and, reduceIte, ite_true, ite_false, eq_self] at *)) <;> omega) (fun s155 hs155 => ?_)
                                  have Fs155 : Fm [120, 121, 123, 124, 130, 131, 132] [] σ s155 := by rw [hs155]; exact Fm.si Fs114 rfl
                                  refine wa_aload_n (i := 0) rfl rfl ?_
                                  refine wa_getr ck_12 fl_12_334 ly_84 rf_84_132 ?_
                                  refine wa_iload rfl ?_
                                  refine wa_aload_n (i := 0) rfl rfl ?_
                                  refine wa_getr ck_12 fl_12_334 ly_84 rf_84_132 ?_
                                  refine wa_iload rfl ?_
                                  refine wa_iald ly_124 (by ((try simp only [vp_in_iff, Int32.lt_iff_toInt_lt, Int32.le_iff_toInt_le, ← Int32.toInt_inj, Int32.reduceToInt, n_1, n_2, n_8, Int32.toNatClampNeg, Int64.lt_iff_toInt_lt, Int64.le_iff_toInt_le, ← Int64.toInt_inj, Int64.reduceToInt, Int32.toInt_toInt64, lg_cmp_ge, lg_cmp_le, lg_cmp_gt, lg_cmp_lt, lg_cmp_eq, Bool.false_eq_true, Bool.true_eq_false, reduceCtorEq, false_iff, true_iff, iff_true, iff_false, and_true, true_and, and_false, false_and, reduceIte, ite_true, ite_false, eq_self] at *)) <;> omega) ?_
                                  refine wa_aload_n (i := 0) rfl rfl ?_
                                  refine wa_getr ck_12 fl_12_346 ly_84 rf_84_136 ?_
                                  refine wa_iload rfl ?_
                                  refine wa_iald ly_120 (by ((try simp only [vp_in_iff, Int32.lt_iff_toInt_lt, Int32.le_iff_toInt_le, ← Int32.toInt_inj, Int32.reduceToInt, n_1, n_2, n_8, Int32.toNatClampNeg, Int64.lt_iff_toInt_lt, Int64.le_iff_toInt_le, ← Int64.toInt_inj, Int64.reduceToInt, Int32.toInt_toInt64, lg_cmp_ge, lg_cmp_le, lg_cmp_gt, lg_cmp_lt, lg_cmp_eq, Bool.false_eq_true, Bool.true_eq_false, reduceCtorEq, false_iff, true_iff, iff_true, iff_false, and_true, true_and, and_false, false_and, reduceIte, ite_true, ite_false, eq_self] at *)) <;> omega) ?_
                                  refine wa_iconst (v := 2) (by decide) ?_
                                  refine wa_irem (by ((try simp only [vp_in_iff, Int32.lt_iff_toInt_lt, Int32.le_iff_toInt_le, ← Int32.toInt_inj, Int32.reduceToInt, n_1, n_2, n_8, Int32.toNatClampNeg, Int64.lt_iff_toInt_lt, Int64.le_iff_toInt_le, ← Int64.toInt_inj, Int64.reduceToInt, Int32.toInt_toInt64, lg_cmp_ge, lg_cmp_le, lg_cmp_gt, lg_cmp_lt, lg_cmp_eq, Bool.false_eq_true, Bool.true_eq_false, reduceCtorEq, false_iff, true_iff, iff_true, iff_false, and_true, true_and, and_false, false_and, reduceIte, ite_true, ite_false, eq_self] at *)) <;> omega) ?_
                                  refine wa_top (fun v156 hv156 => ?_)
                                  have tv156 := i_remU hv156
                                  clear hv156
                                  refine wa_iload rfl ?_
                                  refine wa_ishl ?_
                                  refine wa_top (fun v157 hv157 => ?_)
                                  clear hv157
                                  refine wa_ior ?_
                                  refine wa_top (fun v158 hv158 => ?_)
                                  clear hv158
                                  refine wa_iast ly_124 (by ((try simp only [vp_in_iff, Int32.lt_iff_toInt_lt, Int32.le_iff_toInt_le, ← Int32.toInt_inj, Int32.reduceToInt, n_1, n_2, n_8, Int32.toNatClampNeg, Int64.lt_iff_toInt_lt, Int64.le_iff_toInt_le, ← Int64.toInt_inj, Int64.reduceToInt, Int32.toInt_toInt64, lg_cmp_ge, lg_cmp_le, lg_cmp_gt, lg_cmp_lt, lg_cmp_eq, Bool.false_eq_true, Bool.true_eq_false, reduceCtorEq, false_iff, true_iff, iff_true, iff_false, and_true, true_and, and_false, false_and, reduceIte, ite_true, ite_false, eq_self] at *)) <;> omega) (fun s159 hs159 => ?_)
                                  have Fs159 : Fm [120, 121, 123, 124, 130, 131, 132] [] σ s159 := by rw [hs159]; exact Fm.si Fs155 rfl
                                  refine wa_aload_n (i := 0) rfl rfl ?_
                                  refine wa_getr ck_12 fl_12_337 ly_84 rf_84_133 ?_
                                  refine wa_iload rfl ?_
                                  refine wa_aload_n (i := 0) rfl rfl ?_
                                  refine wa_getr ck_12 fl_12_337 ly_84 rf_84_133 ?_
                                  refine wa_iload rfl ?_
                                  refine wa_iald ly_123 (by ((try simp only [vp_in_iff, Int32.lt_iff_toInt_lt, Int32.le_iff_toInt_le, ← Int32.toInt_inj, Int32.reduceToInt, n_1, n_2, n_8, Int32.toNatClampNeg, Int64.lt_iff_toInt_lt, Int64.le_iff_toInt_le, ← Int64.toInt_inj, Int64.reduceToInt, Int32.toInt_toInt64, lg_cmp_ge, lg_cmp_le, lg_cmp_gt, lg_cmp_lt, lg_cmp_eq, Bool.false_eq_true, Bool.true_eq_false, reduceCtorEq, false_iff, true_iff, iff_true, iff_false, and_true, true_and, and_false, false_and, reduceIte, ite_true, ite_false, eq_self] at *)) <;> omega) ?_
                                  refine wa_aload_n (i := 0) rfl rfl ?_
                                  refine wa_getr ck_12 fl_12_346 ly_84 rf_84_136 ?_
                                  refine wa_iload rfl ?_
                                  refine wa_iald ly_120 (by ((try simp only [vp_in_iff, Int32.lt_iff_toInt_lt, Int32.le_iff_toInt_le, ← Int32.toInt_inj, Int32.reduceToInt, n_1, n_2, n_8, Int32.toNatClampNeg, Int64.lt_iff_toInt_lt, Int64.le_iff_toInt_le, ← Int64.toInt_inj, Int64.reduceToInt, Int32.toInt_toInt64, lg_cmp_ge, lg_cmp_le, lg_cmp_gt, lg_cmp_lt, lg_cmp_eq, Bool.false_eq_true, Bool.true_eq_false, reduceCtorEq, false_iff, true_iff, iff_true, iff_false, and_true, true_and, and_false, false_and, reduceIte, ite_true, ite_false, eq_self] at *)) <;> omega) ?_
                                  refine wa_iconst (v := 2) (by decide) ?_
                                  refine wa_idiv (by ((try simp only [vp_in_iff, Int32.lt_iff_toInt_lt, Int32.le_iff_toInt_le, ← Int32.toInt_inj, Int32.reduceToInt, n_1, n_2, n_8, Int32.toNatClampNeg, Int64.lt_iff_toInt_lt, Int64.le_iff_toInt_le, ← Int64.toInt_inj, Int64.reduceToInt, Int32.toInt_toInt64, lg_cmp_ge, lg_cmp_le, lg_cmp_gt, lg_cmp_lt, lg_cmp_eq, Bool.false_eq_true, Bool.true_eq_false, reduceCtorEq, false_iff, true_iff, iff_true, iff_false, and_true, true_and, and_false, false_and, reduceIte, ite_true, ite_false, eq_self] at *)) <;> omega) ?_
                                  refine wa_top (fun v160 hv160 => ?_)
                                  have tv160 := i_divU hv160
                                  clear hv160
                                  refine wa_iload rfl ?_
                                  refine wa_ishl ?_
                                  refine wa_top (fun v161 hv161 => ?_)
                                  clear hv161
                                  refine wa_ior ?_
                                  refine wa_top (fun v162 hv162 => ?_)
                                  clear hv162
                                  refine wa_iast ly_123 (by ((try simp only [vp_in_iff, Int32.lt_iff_toInt_lt, Int32.le_iff_toInt_le, ← Int32.toInt_inj, Int32.reduceToInt, n_1, n_2, n_8, Int32.toNatClampNeg, Int64.lt_iff_toInt_lt, Int64.le_iff_toInt_le, ← Int64.toInt_inj, Int64.reduceToInt, Int32.toInt_toInt64, lg_cmp_ge, lg_cmp_le, lg_cmp_gt, lg_cmp_lt, lg_cmp_eq, Bool.false_eq_true, Bool.true_eq_false, reduceCtorEq, false_iff, true_iff, iff_true, iff_false, and_true, true_and, and_false, false_and, reduceIte, ite_true, ite_false, eq_self] at *)) <;> omega) (fun s163 hs163 => ?_)
                                  have Fs163 : Fm [120, 121, 123, 124, 130, 131, 132] [] σ s163 := by rw [hs163]; exact Fm.si Fs159 rfl
                                  refine wa_iinc (v := (1)) (lv' := fun y164 => [(5, .int y164), (7, .int v24), (0, .ref 84), (1, .int a0), (2, .int a1), (3, .int a2), (4, .int l4), (6, .int l6)]) (by decide) rfl (by decide) (fun _ => rfl) (fun y164 hy164 => ?_)
                                  have ty164 := i_addT hy164.symm
                                  clear hy164
                                  refine wa_goto o_X12_judge_56 (by decide) ?_
                                  refine wa_pick [2, 3, 4, 5, 6, 0] rfl ?_
                                  exact ih12 _ (by ((try simp only [vp_in_iff, Int32.lt_iff_toInt_lt, Int32.le_iff_toInt_le, ← Int32.toInt_inj, Int32.reduceToInt, n_1, n_2, n_8, Int32.toNatClampNeg, Int64.lt_iff_toInt_lt, Int64.le_iff_toInt_le, ← Int64.toInt_inj, Int64.reduceToInt, Int32.toInt_toInt64, lg_cmp_ge, lg_cmp_le, lg_cmp_gt, lg_cmp_lt, lg_cmp_eq, Bool.false_eq_true, Bool.true_eq_false, reduceCtorEq, false_iff, true_iff, iff_true, iff_false, and_true, true_and, and_false, false_and, reduceIte, ite_true, ite_false, eq_self] at *)) <;> omega) _ _ ⟨Fs163, ((nxq_gi_si hs163 (by decide)).trans ((nxq_gi_si hs159 (by decide)).trans ((nxq_gi_si hs155 (by decide)).trans ((nxq_gi_si hs114 (by decide)).trans ((Fm.gi fs112 (q := 84) (k := 119) rfl rfl).trans (khi18_0)))))), ((nxq_gi_si hs163 (by decide)).trans ((nxq_gi_si hs159 (by decide)).trans ((nxq_gi_si hs155 (by decide)).trans ((nxq_gi_si hs114 (by decide)).trans ((Fm.gi fs112 (q := 84) (k := 32) rfl rfl).trans (khi18_1)))))), ((nxq_gi_si hs163 (by decide)).trans ((nxq_gi_si hs159 (by decide)).trans ((nxq_gi_si hs155 (by decide)).trans ((nxq_gi_si hs114 (by decide)).trans ((Fm.gi fs112 (q := 84) (k := 33) rfl rfl).trans (khi18_2)))))), ((nxq_gi_si hs163 (by decide)).trans ((nxq_gi_si hs159 (by decide)).trans ((nxq_gi_si hs155 (by decide)).trans ((nxq_gi_si hs114 (by decide)).trans ((Fm.gi fs112 (q := 84) (k := 129) rfl rfl).trans (khi18_3)))))), ((nxq_gi_si hs163 (by decide)).trans ((nxq_gi_si hs159 (by decide)).trans ((nxq_gi_si hs155 (by decide)).trans ((nxq_gi_si hs114 (by decide)).trans ((Fm.gi fs112 (q := 84) (k := 131) rfl rfl).trans (khi18_4)))))), (by ((try simp only [vp_in_iff, Int32.lt_iff_toInt_lt, Int32.le_iff_toInt_le, ← Int32.toInt_inj, Int32.reduceToInt, n_1, n_2, n_8, Int32.toNatClampNeg, Int64.lt_iff_toInt_lt, Int64.le_iff_toInt_le, ← Int64.toInt_inj, Int64.reduceToInt, Int32.toInt_toInt64, lg_cmp_ge, lg_cmp_le, lg_cmp_gt, lg_cmp_lt, lg_cmp_eq, Bool.false_eq_true, Bool.true_eq_false, reduceCtorEq, false_iff, true_iff, iff_true, iff_false, and_true, true_and, and_false, false_and, reduceIte, ite_true, ite_false, eq_self] at *)) <;> omega), trivial⟩ rfl
                                · refine wa_aload_n (i := 0) rfl rfl ?_
                                  refine wa_getr ck_12 fl_12_310 ly_84 rf_84_123 ?_
                                  refine wa_iload_n (i := 3) rfl rfl ?_
                                  refine wa_zald ly_131 (by ((try simp only [vp_in_iff, Int32.lt_iff_toInt_lt, Int32.le_iff_toInt_le, ← Int32.toInt_inj, Int32.reduceToInt, n_1, n_2, n_8, Int32.toNatClampNeg, Int64.lt_iff_toInt_lt, Int64.le_iff_toInt_le, ← Int64.toInt_inj, Int64.reduceToInt, Int32.toInt_toInt64, lg_cmp_ge, lg_cmp_le, lg_cmp_gt, lg_cmp_lt, lg_cmp_eq, Bool.false_eq_true, Bool.true_eq_false, reduceCtorEq, false_iff, true_iff, iff_true, iff_false, and_true, true_and, and_false, false_and, reduceIte, ite_true, ite_false, eq_self] at *)) <;> omega) ?_
                                  refine wa_if_eq o_X12_judge_231 (by decide) (fun h165 => ?_) (fun h165 => ?_)
                                  · replace h165 := bI_f (b := (gb s114 131 (a2).toNatClampNeg)) (rfl) h165
                                    refine wa_iconst (v := 0) (by decide) ?_
                                    refine wa_iadd ?_
                                    refine wa_top (fun v166 hv166 => ?_)
                                    have tv166 := i_addT hv166
                                    clear hv166
                                    refine wa_iast ly_120 (by ((try simp only [vp_in_iff, Int32.lt_iff_toInt_lt, Int32.le_iff_toInt_le, ← Int32.toInt_inj, Int32.reduceToInt, n_1, n_2, n_8, Int32.toNatClampNeg, Int64.lt_iff_toInt_lt, Int64.le_iff_toInt_le, ← Int64.toInt_inj, Int64.reduceToInt, Int32.toInt_toInt64, lg_cmp_ge, lg_cmp_le, lg_cmp_gt, lg_cmp_lt, lg_cmp_eq, Bool.false_eq_true, Bool.true_eq_false, reduceCtorEq, false_iff, true_iff, iff_true, iff_false, and_true, true_and, and_false, false_and, reduceIte, ite_true, ite_false, eq_self] at *)) <;> omega) (fun s167 hs167 => ?_)
                                    have Fs167 : Fm [120, 121, 123, 124, 130, 131, 132] [] σ s167 := by rw [hs167]; exact Fm.si Fs114 rfl
                                    refine wa_aload_n (i := 0) rfl rfl ?_
                                    refine wa_getr ck_12 fl_12_334 ly_84 rf_84_132 ?_
                                    refine wa_iload rfl ?_
                                    refine wa_aload_n (i := 0) rfl rfl ?_
                                    refine wa_getr ck_12 fl_12_334 ly_84 rf_84_132 ?_
                                    refine wa_iload rfl ?_
                                    refine wa_iald ly_124 (by ((try simp only [vp_in_iff, Int32.lt_iff_toInt_lt, Int32.le_iff_toInt_le, ← Int32.toInt_inj, Int32.reduceToInt, n_1, n_2, n_8, Int32.toNatClampNeg, Int64.lt_iff_toInt_lt, Int64.le_iff_toInt_le, ← Int64.toInt_inj, Int64.reduceToInt, Int32.toInt_toInt64, lg_cmp_ge, lg_cmp_le, lg_cmp_gt, lg_cmp_lt, lg_cmp_eq, Bool.false_eq_true, Bool.true_eq_false, reduceCtorEq, false_iff, true_iff, iff_true, iff_false, and_true, true_and, and_false, false_and, reduceIte, ite_true, ite_false, eq_self] at *)) <;> omega) ?_
                                    refine wa_aload_n (i := 0) rfl rfl ?_
                                    refine wa_getr ck_12 fl_12_346 ly_84 rf_84_136 ?_
                                    refine wa_iload rfl ?_
                                    refine wa_iald ly_120 (by ((try simp only [vp_in_iff, Int32.lt_iff_toInt_lt, Int32.le_iff_toInt_le, ← Int32.toInt_inj, Int32.reduceToInt, n_1, n_2, n_8, Int32.toNatClampNeg, Int64.lt_iff_toInt_lt, Int64.le_iff_toInt_le, ← Int64.toInt_inj, Int64.reduceToInt, Int32.toInt_toInt64, lg_cmp_ge, lg_cmp_le, lg_cmp_gt, lg_cmp_lt, lg_cmp_eq, Bool.false_eq_true, Bool.true_eq_false, reduceCtorEq, false_iff, true_iff, iff_true, iff_false, and_true, true_and, and_false, false_and, reduceIte, ite_true, ite_false, eq_self] at *)) <;> omega) ?_
                                    refine wa_iconst (v := 2) (by decide) ?_
                                    refine wa_irem (by ((try simp only [vp_in_iff, Int32.lt_iff_toInt_lt, Int32.le_iff_toInt_le, ← Int32.toInt_inj, Int32.reduceToInt, n_1, n_2, n_8, Int32.toNatClampNeg, Int64.lt_iff_toInt_lt, Int64.le_iff_toInt_le, ← Int64.toInt_inj, Int64.reduceToInt, Int32.toInt_toInt64, lg_cmp_ge, lg_cmp_le, lg_cmp_gt, lg_cmp_lt, lg_cmp_eq, Bool.false_eq_true, Bool.true_eq_false, reduceCtorEq, false_iff, true_iff, iff_true, iff_false, and_true, true_and, and_false, false_and, reduceIte, ite_true, ite_false, eq_self] at *)) <;> omega) ?_
                                    refine wa_top (fun v168 hv168 => ?_)
                                    have tv168 := i_remU hv168
                                    clear hv168
                                    refine wa_iload rfl ?_
                                    refine wa_ishl ?_
                                    refine wa_top (fun v169 hv169 => ?_)
                                    clear hv169
                                    refine wa_ior ?_
                                    refine wa_top (fun v170 hv170 => ?_)
                                    clear hv170
                                    refine wa_iast ly_124 (by ((try simp only [vp_in_iff, Int32.lt_iff_toInt_lt, Int32.le_iff_toInt_le, ← Int32.toInt_inj, Int32.reduceToInt, n_1, n_2, n_8, Int32.toNatClampNeg, Int64.lt_iff_toInt_lt, Int64.le_iff_toInt_le, ← Int64.toInt_inj, Int64.reduceToInt, Int32.toInt_toInt64, lg_cmp_ge, lg_cmp_le, lg_cmp_gt, lg_cmp_lt, lg_cmp_eq, Bool.false_eq_true, Bool.true_eq_false, reduceCtorEq, false_iff, true_iff, iff_true, iff_false, and_true, true_and, and_false, false_and, reduceIte, ite_true, ite_false, eq_self] at *)) <;> omega) (fun s171 hs171 => ?_)
                                    have Fs171 : Fm [120, 121, 123, 124, 130, 131, 132] [] σ s171 := by rw [hs171]; exact Fm.si Fs167 rfl
                                    refine wa_aload_n (i := 0) rfl rfl ?_
                                    refine wa_getr ck_12 fl_12_337 ly_84 rf_84_133 ?_
                                    refine wa_iload rfl ?_
                                    refine wa_aload_n (i := 0) rfl rfl ?_
                                    refine wa_getr ck_12 fl_12_337 ly_84 rf_84_133 ?_
                                    refine wa_iload rfl ?_
                                    refine wa_iald ly_123 (by ((try simp only [vp_in_iff, Int32.lt_iff_toInt_lt, Int32.le_iff_toInt_le, ← Int32.toInt_inj, Int32.reduceToInt, n_1, n_2, n_8, Int32.toNatClampNeg, Int64.lt_iff_toInt_lt, Int64.le_iff_toInt_le, ← Int64.toInt_inj, Int64.reduceToInt, Int32.toInt_toInt64, lg_cmp_ge, lg_cmp_le, lg_cmp_gt, lg_cmp_lt, lg_cmp_eq, Bool.false_eq_true, Bool.true_eq_false, reduceCtorEq, false_iff, true_iff, iff_true, iff_false, and_true, true_and, and_false, false_and, reduceIte, ite_true, ite_false, eq_self] at *)) <;> omega) ?_
                                    refine wa_aload_n (i := 0) rfl rfl ?_
                                    refine wa_getr ck_12 fl_12_346 ly_84 rf_84_136 ?_
                                    refine wa_iload rfl ?_
                                    refine wa_iald ly_120 (by ((try simp only [vp_in_iff, Int32.lt_iff_toInt_lt, Int32.le_iff_toInt_le, ← Int32.toInt_inj, Int32.reduceToInt, n_1, n_2, n_8, Int32.toNatClampNeg, Int64.lt_iff_toInt_lt, Int64.le_iff_toInt_le, ← Int64.toInt_inj, Int64.reduceToInt, Int32.toInt_toInt64, lg_cmp_ge, lg_cmp_le, lg_cmp_gt, lg_cmp_lt, lg_cmp_eq, Bool.false_eq_true, Bool.true_eq_false, reduceCtorEq, false_iff, true_iff, iff_true, iff_false, and_true, true_and, and_false, false_and, reduceIte, ite_true, ite_false, eq_self] at *)) <;> omega) ?_
                                    refine wa_iconst (v := 2) (by decide) ?_
                                    refine wa_idiv (by ((try simp only [vp_in_iff, Int32.lt_iff_toInt_lt, Int32.le_iff_toInt_le, ← Int32.toInt_inj, Int32.reduceToInt, n_1, n_2, n_8, Int32.toNatClampNeg, Int64.lt_iff_toInt_lt, Int64.le_iff_toInt_le, ← Int64.toInt_inj, Int64.reduceToInt, Int32.toInt_toInt64, lg_cmp_ge, lg_cmp_le, lg_cmp_gt, lg_cmp_lt, lg_cmp_eq, Bool.false_eq_true, Bool.true_eq_false, reduceCtorEq, false_iff, true_iff, iff_true, iff_false, and_true, true_and, and_false, false_and, reduceIte, ite_true, ite_false, eq_self] at *)) <;> omega) ?_
                                    refine wa_top (fun v172 hv172 => ?_)
                                    have tv172 := i_divU hv172
                                    clear hv172
                                    refine wa_iload rfl ?_
                                    refine wa_ishl ?_
                                    refine wa_top (fun v173 hv173 => ?_)
                                    clear hv173
                                    refine wa_ior ?_
                                    refine wa_top (fun v174 hv174 => ?_)
                                    clear hv174
                                    refine wa_iast ly_123 (by ((try simp only [vp_in_iff, Int32.lt_iff_toInt_lt, Int32.le_iff_toInt_le, ← Int32.toInt_inj, Int32.reduceToInt, n_1, n_2, n_8, Int32.toNatClampNeg, Int64.lt_iff_toInt_lt, Int64.le_iff_toInt_le, ← Int64.toInt_inj, Int64.reduceToInt, Int32.toInt_toInt64, lg_cmp_ge, lg_cmp_le, lg_cmp_gt, lg_cmp_lt, lg_cmp_eq, Bool.false_eq_true, Bool.true_eq_false, reduceCtorEq, false_iff, true_iff, iff_true, iff_false, and_true, true_and, and_false, false_and, reduceIte, ite_true, ite_false, eq_self] at *)) <;> omega) (fun s175 hs175 => ?_)
                                    have Fs175 : Fm [120, 121, 123, 124, 130, 131, 132] [] σ s175 := by rw [hs175]; exact Fm.si Fs171 rfl
                                    refine wa_iinc (v := (1)) (lv' := fun y176 => [(5, .int y176), (7, .int v24), (0, .ref 84), (1, .int a0), (2, .int a1), (3, .int a2), (4, .int l4), (6, .int l6)]) (by decide) rfl (by decide) (fun _ => rfl) (fun y176 hy176 => ?_)
                                    have ty176 := i_addT hy176.symm
                                    clear hy176
                                    refine wa_goto o_X12_judge_56 (by decide) ?_
                                    refine wa_pick [2, 3, 4, 5, 6, 0] rfl ?_
                                    exact ih12 _ (by ((try simp only [vp_in_iff, Int32.lt_iff_toInt_lt, Int32.le_iff_toInt_le, ← Int32.toInt_inj, Int32.reduceToInt, n_1, n_2, n_8, Int32.toNatClampNeg, Int64.lt_iff_toInt_lt, Int64.le_iff_toInt_le, ← Int64.toInt_inj, Int64.reduceToInt, Int32.toInt_toInt64, lg_cmp_ge, lg_cmp_le, lg_cmp_gt, lg_cmp_lt, lg_cmp_eq, Bool.false_eq_true, Bool.true_eq_false, reduceCtorEq, false_iff, true_iff, iff_true, iff_false, and_true, true_and, and_false, false_and, reduceIte, ite_true, ite_false, eq_self] at *)) <;> omega) _ _ ⟨Fs175, ((nxq_gi_si hs175 (by decide)).trans ((nxq_gi_si hs171 (by decide)).trans ((nxq_gi_si hs167 (by decide)).trans ((nxq_gi_si hs114 (by decide)).trans ((Fm.gi fs112 (q := 84) (k := 119) rfl rfl).trans (khi18_0)))))), ((nxq_gi_si hs175 (by decide)).trans ((nxq_gi_si hs171 (by decide)).trans ((nxq_gi_si hs167 (by decide)).trans ((nxq_gi_si hs114 (by decide)).trans ((Fm.gi fs112 (q := 84) (k := 32) rfl rfl).trans (khi18_1)))))), ((nxq_gi_si hs175 (by decide)).trans ((nxq_gi_si hs171 (by decide)).trans ((nxq_gi_si hs167 (by decide)).trans ((nxq_gi_si hs114 (by decide)).trans ((Fm.gi fs112 (q := 84) (k := 33) rfl rfl).trans (khi18_2)))))), ((nxq_gi_si hs175 (by decide)).trans ((nxq_gi_si hs171 (by decide)).trans ((nxq_gi_si hs167 (by decide)).trans ((nxq_gi_si hs114 (by decide)).trans ((Fm.gi fs112 (q := 84) (k := 129) rfl rfl).trans (khi18_3)))))), ((nxq_gi_si hs175 (by decide)).trans ((nxq_gi_si hs171 (by decide)).trans ((nxq_gi_si hs167 (by decide)).trans ((nxq_gi_si hs114 (by decide)).trans ((Fm.gi fs112 (q := 84) (k := 131) rfl rfl).trans (khi18_4)))))), (by ((try simp only [vp_in_iff, Int32.lt_iff_toInt_lt, Int32.le_iff_toInt_le, ← Int32.toInt_inj, Int32.reduceToInt, n_1, n_2, n_8, Int32.toNatClampNeg, Int64.lt_iff_toInt_lt, Int64.le_iff_toInt_le, ← Int64.toInt_inj, Int64.reduceToInt, Int32.toInt_toInt64, lg_cmp_ge, lg_cmp_le, lg_cmp_gt, lg_cmp_lt, lg_cmp_eq, Bool.false_eq_true, Bool.true_eq_false, reduceCtorEq, false_iff, true_iff, iff_true, iff_false, and_true, true_and, and_false, false_and, reduceIte, ite_true, ite_false, eq_self] at *)) <;> omega), trivial⟩ rfl
                                  · replace h165 := bI_t (b := (gb s114 131 (a2).toNatClampNeg)) (rfl) h165
                                    refine wa_iconst (v := 2) (by decide) ?_
                                    refine wa_goto o_X12_judge_232 (by decide) ?_
                                    refine wa_iadd ?_
                                    refine wa_top (fun v177 hv177 => ?_)
                                    have tv177 := i_addT hv177
                                    clear hv177
                                    refine wa_iast ly_120 (by ((try simp only [vp_in_iff, Int32.lt_iff_toInt_lt, Int32.le_iff_toInt_le, ← Int32.toInt_inj, Int32.reduceToInt, n_1, n_2, n_8, Int32.toNatClampNeg, Int64.lt_iff_toInt_lt, Int64.le_iff_toInt_le, ← Int64.toInt_inj, Int64.reduceToInt, Int32.toInt_toInt64, lg_cmp_ge, lg_cmp_le, lg_cmp_gt, lg_cmp_lt, lg_cmp_eq, Bool.false_eq_true, Bool.true_eq_false, reduceCtorEq, false_iff, true_iff, iff_true, iff_false, and_true, true_and, and_false, false_and, reduceIte, ite_true, ite_false, eq_self] at *)) <;> omega) (fun s178 hs178 => ?_)
                                    have Fs178 : Fm [120, 121, 123, 124, 130, 131, 132] [] σ s178 := by rw [hs178]; exact Fm.si Fs114 rfl
                                    refine wa_aload_n (i := 0) rfl rfl ?_
                                    refine wa_getr ck_12 fl_12_334 ly_84 rf_84_132 ?_
                                    refine wa_iload rfl ?_
                                    refine wa_aload_n (i := 0) rfl rfl ?_
                                    refine wa_getr ck_12 fl_12_334 ly_84 rf_84_132 ?_
                                    refine wa_iload rfl ?_
                                    refine wa_iald ly_124 (by ((try simp only [vp_in_iff, Int32.lt_iff_toInt_lt, Int32.le_iff_toInt_le, ← Int32.toInt_inj, Int32.reduceToInt, n_1, n_2, n_8, Int32.toNatClampNeg, Int64.lt_iff_toInt_lt, Int64.le_iff_toInt_le, ← Int64.toInt_inj, Int64.reduceToInt, Int32.toInt_toInt64, lg_cmp_ge, lg_cmp_le, lg_cmp_gt, lg_cmp_lt, lg_cmp_eq, Bool.false_eq_true, Bool.true_eq_false, reduceCtorEq, false_iff, true_iff, iff_true, iff_false, and_true, true_and, and_false, false_and, reduceIte, ite_true, ite_false, eq_self] at *)) <;> omega) ?_
                                    refine wa_aload_n (i := 0) rfl rfl ?_
                                    refine wa_getr ck_12 fl_12_346 ly_84 rf_84_136 ?_
                                    refine wa_iload rfl ?_
                                    refine wa_iald ly_120 (by ((try simp only [vp_in_iff, Int32.lt_iff_toInt_lt, Int32.le_iff_toInt_le, ← Int32.toInt_inj, Int32.reduceToInt, n_1, n_2, n_8, Int32.toNatClampNeg, Int64.lt_iff_toInt_lt, Int64.le_iff_toInt_le, ← Int64.toInt_inj, Int64.reduceToInt, Int32.toInt_toInt64, lg_cmp_ge, lg_cmp_le, lg_cmp_gt, lg_cmp_lt, lg_cmp_eq, Bool.false_eq_true, Bool.true_eq_false, reduceCtorEq, false_iff, true_iff, iff_true, iff_false, and_true, true_and, and_false, false_and, reduceIte, ite_true, ite_false, eq_self] at *)) <;> omega) ?_
                                    refine wa_iconst (v := 2) (by decide) ?_
                                    refine wa_irem (by ((try simp only [vp_in_iff, Int32.lt_iff_toInt_lt, Int32.le_iff_toInt_le, ← Int32.toInt_inj, Int32.reduceToInt, n_1, n_2, n_8, Int32.toNatClampNeg, Int64.lt_iff_toInt_lt, Int64.le_iff_toInt_le, ← Int64.toInt_inj, Int64.reduceToInt, Int32.toInt_toInt64, lg_cmp_ge, lg_cmp_le, lg_cmp_gt, lg_cmp_lt, lg_cmp_eq, Bool.false_eq_true, Bool.true_eq_false, reduceCtorEq, false_iff, true_iff, iff_true, iff_false, and_true, true_and, and_false, false_and, reduceIte, ite_true, ite_false, eq_self] at *)) <;> omega) ?_
                                    refine wa_top (fun v179 hv179 => ?_)
                                    have tv179 := i_remU hv179
                                    clear hv179
                                    refine wa_iload rfl ?_
                                    refine wa_ishl ?_
                                    refine wa_top (fun v180 hv180 => ?_)
                                    clear hv180
                                    refine wa_ior ?_
                                    refine wa_top (fun v181 hv181 => ?_)
                                    clear hv181
                                    refine wa_iast ly_124 (by ((try simp only [vp_in_iff, Int32.lt_iff_toInt_lt, Int32.le_iff_toInt_le, ← Int32.toInt_inj, Int32.reduceToInt, n_1, n_2, n_8, Int32.toNatClampNeg, Int64.lt_iff_toInt_lt, Int64.le_iff_toInt_le, ← Int64.toInt_inj, Int64.reduceToInt, Int32.toInt_toInt64, lg_cmp_ge, lg_cmp_le, lg_cmp_gt, lg_cmp_lt, lg_cmp_eq, Bool.false_eq_true, Bool.true_eq_false, reduceCtorEq, false_iff, true_iff, iff_true, iff_false, and_true, true_and, and_false, false_and, reduceIte, ite_true, ite_false, eq_self] at *)) <;> omega) (fun s182 hs182 => ?_)
                                    have Fs182 : Fm [120, 121, 123, 124, 130, 131, 132] [] σ s182 := by rw [hs182]; exact Fm.si Fs178 rfl
                                    refine wa_aload_n (i := 0) rfl rfl ?_
                                    refine wa_getr ck_12 fl_12_337 ly_84 rf_84_133 ?_
                                    refine wa_iload rfl ?_
                                    refine wa_aload_n (i := 0) rfl rfl ?_
                                    refine wa_getr ck_12 fl_12_337 ly_84 rf_84_133 ?_
                                    refine wa_iload rfl ?_
                                    refine wa_iald ly_123 (by ((try simp only [vp_in_iff, Int32.lt_iff_toInt_lt, Int32.le_iff_toInt_le, ← Int32.toInt_inj, Int32.reduceToInt, n_1, n_2, n_8, Int32.toNatClampNeg, Int64.lt_iff_toInt_lt, Int64.le_iff_toInt_le, ← Int64.toInt_inj, Int64.reduceToInt, Int32.toInt_toInt64, lg_cmp_ge, lg_cmp_le, lg_cmp_gt, lg_cmp_lt, lg_cmp_eq, Bool.false_eq_true, Bool.true_eq_false, reduceCtorEq, false_iff, true_iff, iff_true, iff_false, and_true, true_and, and_false, false_and, reduceIte, ite_true, ite_false, eq_self] at *)) <;> omega) ?_
                                    refine wa_aload_n (i := 0) rfl rfl ?_
                                    refine wa_getr ck_12 fl_12_346 ly_84 rf_84_136 ?_
                                    refine wa_iload rfl ?_
                                    refine wa_iald ly_120 (by ((try simp only [vp_in_iff, Int32.lt_iff_toInt_lt, Int32.le_iff_toInt_le, ← Int32.toInt_inj, Int32.reduceToInt, n_1, n_2, n_8, Int32.toNatClampNeg, Int64.lt_iff_toInt_lt, Int64.le_iff_toInt_le, ← Int64.toInt_inj, Int64.reduceToInt, Int32.toInt_toInt64, lg_cmp_ge, lg_cmp_le, lg_cmp_gt, lg_cmp_lt, lg_cmp_eq, Bool.false_eq_true, Bool.true_eq_false, reduceCtorEq, false_iff, true_iff, iff_true, iff_false, and_true, true_and, and_false, false_and, reduceIte, ite_true, ite_false, eq_self] at *)) <;> omega) ?_
                                    refine wa_iconst (v := 2) (by decide) ?_
                                    refine wa_idiv (by ((try simp only [vp_in_iff, Int32.lt_iff_toInt_lt, Int32.le_iff_toInt_le, ← Int32.toInt_inj, Int32.reduceToInt, n_1, n_2, n_8, Int32.toNatClampNeg, Int64.lt_iff_toInt_lt, Int64.le_iff_toInt_le, ← Int64.toInt_inj, Int64.reduceToInt, Int32.toInt_toInt64, lg_cmp_ge, lg_cmp_le, lg_cmp_gt, lg_cmp_lt, lg_cmp_eq, Bool.false_eq_true, Bool.true_eq_false, reduceCtorEq, false_iff, true_iff, iff_true, iff_false, and_true, true_and, and_false, false_and, reduceIte, ite_true, ite_false, eq_self] at *)) <;> omega) ?_
                                    refine wa_top (fun v183 hv183 => ?_)
                                    have tv183 := i_divU hv183
                                    clear hv183
                                    refine wa_iload rfl ?_
                                    refine wa_ishl ?_
                                    refine wa_top (fun v184 hv184 => ?_)
                                    clear hv184
                                    refine wa_ior ?_
                                    refine wa_top (fun v185 hv185 => ?_)
                                    clear hv185
                                    refine wa_iast ly_123 (by ((try simp only [vp_in_iff, Int32.lt_iff_toInt_lt, Int32.le_iff_toInt_le, ← Int32.toInt_inj, Int32.reduceToInt, n_1, n_2, n_8, Int32.toNatClampNeg, Int64.lt_iff_toInt_lt, Int64.le_iff_toInt_le, ← Int64.toInt_inj, Int64.reduceToInt, Int32.toInt_toInt64, lg_cmp_ge, lg_cmp_le, lg_cmp_gt, lg_cmp_lt, lg_cmp_eq, Bool.false_eq_true, Bool.true_eq_false, reduceCtorEq, false_iff, true_iff, iff_true, iff_false, and_true, true_and, and_false, false_and, reduceIte, ite_true, ite_false, eq_self] at *)) <;> omega) (fun s186 hs186 => ?_)
                                    have Fs186 : Fm [120, 121, 123, 124, 130, 131, 132] [] σ s186 := by rw [hs186]; exact Fm.si Fs182 rfl
                                    refine wa_iinc (v := (1)) (lv' := fun y187 => [(5, .int y187), (7, .int v24), (0, .ref 84), (1, .int a0), (2, .int a1), (3, .int a2), (4, .int l4), (6, .int l6)]) (by decide) rfl (by decide) (fun _ => rfl) (fun y187 hy187 => ?_)
                                    have ty187 := i_addT hy187.symm
                                    clear hy187
                                    refine wa_goto o_X12_judge_56 (by decide) ?_
                                    refine wa_pick [2, 3, 4, 5, 6, 0] rfl ?_
                                    exact ih12 _ (by ((try simp only [vp_in_iff, Int32.lt_iff_toInt_lt, Int32.le_iff_toInt_le, ← Int32.toInt_inj, Int32.reduceToInt, n_1, n_2, n_8, Int32.toNatClampNeg, Int64.lt_iff_toInt_lt, Int64.le_iff_toInt_le, ← Int64.toInt_inj, Int64.reduceToInt, Int32.toInt_toInt64, lg_cmp_ge, lg_cmp_le, lg_cmp_gt, lg_cmp_lt, lg_cmp_eq, Bool.false_eq_true, Bool.true_eq_false, reduceCtorEq, false_iff, true_iff, iff_true, iff_false, and_true, true_and, and_false, false_and, reduceIte, ite_true, ite_false, eq_self] at *)) <;> omega) _ _ ⟨Fs186, ((nxq_gi_si hs186 (by decide)).trans ((nxq_gi_si hs182 (by decide)).trans ((nxq_gi_si hs178 (by decide)).trans ((nxq_gi_si hs114 (by decide)).trans ((Fm.gi fs112 (q := 84) (k := 119) rfl rfl).trans (khi18_0)))))), ((nxq_gi_si hs186 (by decide)).trans ((nxq_gi_si hs182 (by decide)).trans ((nxq_gi_si hs178 (by decide)).trans ((nxq_gi_si hs114 (by decide)).trans ((Fm.gi fs112 (q := 84) (k := 32) rfl rfl).trans (khi18_1)))))), ((nxq_gi_si hs186 (by decide)).trans ((nxq_gi_si hs182 (by decide)).trans ((nxq_gi_si hs178 (by decide)).trans ((nxq_gi_si hs114 (by decide)).trans ((Fm.gi fs112 (q := 84) (k := 33) rfl rfl).trans (khi18_2)))))), ((nxq_gi_si hs186 (by decide)).trans ((nxq_gi_si hs182 (by decide)).trans ((nxq_gi_si hs178 (by decide)).trans ((nxq_gi_si hs114 (by decide)).trans ((Fm.gi fs112 (q := 84) (k := 129) rfl rfl).trans (khi18_3)))))), ((nxq_gi_si hs186 (by decide)).trans ((nxq_gi_si hs182 (by decide)).trans ((nxq_gi_si hs178 (by decide)).trans ((nxq_gi_si hs114 (by decide)).trans ((Fm.gi fs112 (q := 84) (k := 131) rfl rfl).trans (khi18_4)))))), (by ((try simp only [vp_in_iff, Int32.lt_iff_toInt_lt, Int32.le_iff_toInt_le, ← Int32.toInt_inj, Int32.reduceToInt, n_1, n_2, n_8, Int32.toNatClampNeg, Int64.lt_iff_toInt_lt, Int64.le_iff_toInt_le, ← Int64.toInt_inj, Int64.reduceToInt, Int32.toInt_toInt64, lg_cmp_ge, lg_cmp_le, lg_cmp_gt, lg_cmp_lt, lg_cmp_eq, Bool.false_eq_true, Bool.true_eq_false, reduceCtorEq, false_iff, true_iff, iff_true, iff_false, and_true, true_and, and_false, false_and, reduceIte, ite_true, ite_false, eq_self] at *)) <;> omega), trivial⟩ rfl
                        · have mh19 := nle_mx h19
                          refine wa_aload_n (i := 0) rfl rfl ?_
                          refine wa_getr ck_12 fl_12_307 ly_84 rf_84_122 ?_
                          refine wa_iload rfl ?_
                          refine wa_aload_n (i := 0) rfl rfl ?_
                          refine wa_iload rfl ?_
                          refine wa_aload_n (i := 0) rfl rfl ?_
                          refine wa_getr ck_12 fl_12_317 ly_84 rf_84_125 ?_
                          refine wa_bipush (v := 32) (by decide) ?_
                          refine wa_iload rfl ?_
                          refine wa_imul ?_
                          refine wa_top (fun v188 hv188 => ?_)
                          have tv188 := i_mulT hv188
                          clear hv188
                          refine wa_iload rfl ?_
                          refine wa_iadd ?_
                          refine wa_top (fun v189 hv189 => ?_)
                          have tv189 := i_addT hv189
                          clear hv189
                          refine wa_iald ly_129 (by ((try simp only [vp_in_iff, Int32.lt_iff_toInt_lt, Int32.le_iff_toInt_le, ← Int32.toInt_inj, Int32.reduceToInt, n_1, n_2, n_8, Int32.toNatClampNeg, Int64.lt_iff_toInt_lt, Int64.le_iff_toInt_le, ← Int64.toInt_inj, Int64.reduceToInt, Int32.toInt_toInt64, lg_cmp_ge, lg_cmp_le, lg_cmp_gt, lg_cmp_lt, lg_cmp_eq, Bool.false_eq_true, Bool.true_eq_false, reduceCtorEq, false_iff, true_iff, iff_true, iff_false, and_true, true_and, and_false, false_and, reduceIte, ite_true, ite_false, eq_self] at *)) <;> omega) ?_
                          refine wa_top (fun v190 hv190 => ?_)
                          have rv190 := dv_at (DV_of (fun k => Fm.gi Fs16 (q := 129) (k := k) rfl rfl) (fun k => Fm.gi Fs16 (q := 135) (k := k) rfl rfl) (Fm.gi Fs16 (q := 84) (k := 119) rfl rfl) (Fm.gi Fs16 (q := 84) (k := 129) rfl rfl) P_DV) (p := (l4).toInt.toNat) (k := (l7).toNatClampNeg) hv190 (by ((try simp only [vp_in_iff, Int32.lt_iff_toInt_lt, Int32.le_iff_toInt_le, ← Int32.toInt_inj, Int32.reduceToInt, n_1, n_2, n_8, Int32.toNatClampNeg, Int64.lt_iff_toInt_lt, Int64.le_iff_toInt_le, ← Int64.toInt_inj, Int64.reduceToInt, Int32.toInt_toInt64, lg_cmp_ge, lg_cmp_le, lg_cmp_gt, lg_cmp_lt, lg_cmp_eq, Bool.false_eq_true, Bool.true_eq_false, reduceCtorEq, false_iff, true_iff, iff_true, iff_false, and_true, true_and, and_false, false_and, reduceIte, ite_true, ite_false, eq_self] at *)) <;> omega) (by ((try simp only [vp_in_iff, Int32.lt_iff_toInt_lt, Int32.le_iff_toInt_le, ← Int32.toInt_inj, Int32.reduceToInt, n_1, n_2, n_8, Int32.toNatClampNeg, Int64.lt_iff_toInt_lt, Int64.le_iff_toInt_le, ← Int64.toInt_inj, Int64.reduceToInt, Int32.toInt_toInt64, lg_cmp_ge, lg_cmp_le, lg_cmp_gt, lg_cmp_lt, lg_cmp_eq, Bool.false_eq_true, Bool.true_eq_false, reduceCtorEq, false_iff, true_iff, iff_true, iff_false, and_true, true_and, and_false, false_and, reduceIte, ite_true, ite_false, eq_self] at *)) <;> omega) (by ((try simp only [vp_in_iff, Int32.lt_iff_toInt_lt, Int32.le_iff_toInt_le, ← Int32.toInt_inj, Int32.reduceToInt, n_1, n_2, n_8, Int32.toNatClampNeg, Int64.lt_iff_toInt_lt, Int64.le_iff_toInt_le, ← Int64.toInt_inj, Int64.reduceToInt, Int32.toInt_toInt64, lg_cmp_ge, lg_cmp_le, lg_cmp_gt, lg_cmp_lt, lg_cmp_eq, Bool.false_eq_true, Bool.true_eq_false, reduceCtorEq, false_iff, true_iff, iff_true, iff_false, and_true, true_and, and_false, false_and, reduceIte, ite_true, ite_false, eq_self] at *)) <;> omega) (by ((try simp only [vp_in_iff, Int32.lt_iff_toInt_lt, Int32.le_iff_toInt_le, ← Int32.toInt_inj, Int32.reduceToInt, n_1, n_2, n_8, Int32.toNatClampNeg, Int64.lt_iff_toInt_lt, Int64.le_iff_toInt_le, ← Int64.toInt_inj, Int64.reduceToInt, Int32.toInt_toInt64, lg_cmp_ge, lg_cmp_le, lg_cmp_gt, lg_cmp_lt, lg_cmp_eq, Bool.false_eq_true, Bool.true_eq_false, reduceCtorEq, false_iff, true_iff, iff_true, iff_false, and_true, true_and, and_false, false_and, reduceIte, ite_true, ite_false, eq_self] at *)) <;> omega)
                          clear hv190
                          refine wa_iload rfl ?_
                          refine wa_Vi (d9 := d - 1) [.int _, .int _, .int _] [.int l7, .ref 132] (sp_X12_isSo G (d := d - 1) (by omega) s16 _ _ _ (by ((try simp only [vp_in_iff, Int32.lt_iff_toInt_lt, Int32.le_iff_toInt_le, ← Int32.toInt_inj, Int32.reduceToInt, n_1, n_2, n_8, Int32.toNatClampNeg, Int64.lt_iff_toInt_lt, Int64.le_iff_toInt_le, ← Int64.toInt_inj, Int64.reduceToInt, Int32.toInt_toInt64, lg_cmp_ge, lg_cmp_le, lg_cmp_gt, lg_cmp_lt, lg_cmp_eq, Bool.false_eq_true, Bool.true_eq_false, reduceCtorEq, false_iff, true_iff, iff_true, iff_false, and_true, true_and, and_false, false_and, reduceIte, ite_true, ite_false, eq_self] at *)) <;> omega) (by first | assumption | ((try simp only [vp_in_iff, Int32.lt_iff_toInt_lt, Int32.le_iff_toInt_le, ← Int32.toInt_inj, Int32.reduceToInt, n_1, n_2, n_8, Int32.toNatClampNeg, Int64.lt_iff_toInt_lt, Int64.le_iff_toInt_le, ← Int64.toInt_inj, Int64.reduceToInt, Int32.toInt_toInt64, lg_cmp_ge, lg_cmp_le, lg_cmp_gt, lg_cmp_lt, lg_cmp_eq, Bool.false_eq_true, Bool.true_eq_false, reduceCtorEq, false_iff, true_iff, iff_true, iff_false, and_true, true_and, and_false, false_and, reduceIte, ite_true, ite_false, eq_self] at *)) <;> omega) (by rw [khi18_1]; first | assumption | exact Or.inl rfl | exact Or.inr rfl | (((try simp only [vp_in_iff, Int32.lt_iff_toInt_lt, Int32.le_iff_toInt_le, ← Int32.toInt_inj, Int32.reduceToInt, n_1, n_2, n_8, Int32.toNatClampNeg, Int64.lt_iff_toInt_lt, Int64.le_iff_toInt_le, ← Int64.toInt_inj, Int64.reduceToInt, Int32.toInt_toInt64, lg_cmp_ge, lg_cmp_le, lg_cmp_gt, lg_cmp_lt, lg_cmp_eq, Bool.false_eq_true, Bool.true_eq_false, reduceCtorEq, false_iff, true_iff, iff_true, iff_false, and_true, true_and, and_false, false_and, reduceIte, ite_true, ite_false, eq_self] at *)) <;> omega)) (ar_fm Fs16 rfl rfl A_135) (ar_fm Fs16 rfl rfl A_137)) (rfl) rfl rfl (zr (by omega)) mk_X12_isSo ly_84 ml_12_969 (Nat.le_of_ble_eq_true rfl) (fun x192 s191 hs191 => ?_)
                          obtain ⟨bx192, ex192, zs191, -⟩ := pB hs191
                          subst ex192
                          subst zs191
                          refine wa_zast bx192 (rfl) ly_132 (by ((try simp only [vp_in_iff, Int32.lt_iff_toInt_lt, Int32.le_iff_toInt_le, ← Int32.toInt_inj, Int32.reduceToInt, n_1, n_2, n_8, Int32.toNatClampNeg, Int64.lt_iff_toInt_lt, Int64.le_iff_toInt_le, ← Int64.toInt_inj, Int64.reduceToInt, Int32.toInt_toInt64, lg_cmp_ge, lg_cmp_le, lg_cmp_gt, lg_cmp_lt, lg_cmp_eq, Bool.false_eq_true, Bool.true_eq_false, reduceCtorEq, false_iff, true_iff, iff_true, iff_false, and_true, true_and, and_false, false_and, reduceIte, ite_true, ite_false, eq_self] at *)) <;> omega) (fun s193 hs193 => ?_)
                          have Fs193 : Fm [120, 121, 123, 124, 130, 131, 132] [] σ s193 := by rw [hs193]; exact Fm.sb Fs16 rfl
                          refine wa_iload rfl ?_
                          refine wa_aload_n (i := 0) rfl rfl ?_
                          refine wa_getr ck_12 fl_12_307 ly_84 rf_84_122 ?_
                          refine wa_iload rfl ?_
                          refine wa_zald ly_132 (by ((try simp only [vp_in_iff, Int32.lt_iff_toInt_lt, Int32.le_iff_toInt_le, ← Int32.toInt_inj, Int32.reduceToInt, n_1, n_2, n_8, Int32.toNatClampNeg, Int64.lt_iff_toInt_lt, Int64.le_iff_toInt_le, ← Int64.toInt_inj, Int64.reduceToInt, Int32.toInt_toInt64, lg_cmp_ge, lg_cmp_le, lg_cmp_gt, lg_cmp_lt, lg_cmp_eq, Bool.false_eq_true, Bool.true_eq_false, reduceCtorEq, false_iff, true_iff, iff_true, iff_false, and_true, true_and, and_false, false_and, reduceIte, ite_true, ite_false, eq_self] at *)) <;> omega) ?_
                          refine wa_if_eq o_X12_judge_127 (by decide) (fun h194 => ?_) (fun h194 => ?_)
                          · replace h194 := bI_f (b := (gb s193 132 (l7).toNatClampNeg)) (rfl) h194
                            refine wa_iconst (v := 0) (by decide) ?_
                            refine wa_ior ?_
                            refine wa_top (fun v195 hv195 => ?_)
                            clear hv195
                            refine wa_istoreD (lv' := [(6, .int v195), (0, .ref 84), (1, .int a0), (2, .int a1), (3, .int a2), (4, .int l4), (5, .int l5), (7, .int l7)]) (by decide) rfl ?_
                            refine wa_iinc (v := (1)) (lv' := fun y196 => [(7, .int y196), (6, .int v195), (0, .ref 84), (1, .int a0), (2, .int a1), (3, .int a2), (4, .int l4), (5, .int l5)]) (by decide) rfl (by decide) (fun _ => rfl) (fun y196 hy196 => ?_)
                            have ty196 := i_addT hy196.symm
                            clear hy196
                            refine wa_goto o_X12_judge_71 (by decide) ?_
                            refine wa_pick [2, 3, 4, 5, 6, 7, 1, 0] rfl ?_
                            exact ih17 _ (by ((try simp only [vp_in_iff, Int32.lt_iff_toInt_lt, Int32.le_iff_toInt_le, ← Int32.toInt_inj, Int32.reduceToInt, n_1, n_2, n_8, Int32.toNatClampNeg, Int64.lt_iff_toInt_lt, Int64.le_iff_toInt_le, ← Int64.toInt_inj, Int64.reduceToInt, Int32.toInt_toInt64, lg_cmp_ge, lg_cmp_le, lg_cmp_gt, lg_cmp_lt, lg_cmp_eq, Bool.false_eq_true, Bool.true_eq_false, reduceCtorEq, false_iff, true_iff, iff_true, iff_false, and_true, true_and, and_false, false_and, reduceIte, ite_true, ite_false, eq_self] at *)) <;> omega) _ _ _ ⟨Fs193, ((nx_gi_sb hs193).trans (khi18_0)), ((nx_gi_sb hs193).trans (khi18_1)), ((nx_gi_sb hs193).trans (khi18_2)), ((nx_gi_sb hs193).trans (khi18_3)), ((nx_gi_sb hs193).trans (khi18_4)), (by ((try simp only [vp_in_iff, Int32.lt_iff_toInt_lt, Int32.le_iff_toInt_le, ← Int32.toInt_inj, Int32.reduceToInt, n_1, n_2, n_8, Int32.toNatClampNeg, Int64.lt_iff_toInt_lt, Int64.le_iff_toInt_le, ← Int64.toInt_inj, Int64.reduceToInt, Int32.toInt_toInt64, lg_cmp_ge, lg_cmp_le, lg_cmp_gt, lg_cmp_lt, lg_cmp_eq, Bool.false_eq_true, Bool.true_eq_false, reduceCtorEq, false_iff, true_iff, iff_true, iff_false, and_true, true_and, and_false, false_and, reduceIte, ite_true, ite_false, eq_self] at *)) <;> omega), trivial⟩ rfl
                          · replace h194 := bI_t (b := (gb s193 132 (l7).toNatClampNeg)) (rfl) h194
                            refine wa_iconst (v := 1) (by decide) ?_
                            refine wa_iload rfl ?_
                            refine wa_ishl ?_
                            refine wa_top (fun v197 hv197 => ?_)
                            have tv197 := i_shl1 hv197
                            clear hv197
                            refine wa_goto o_X12_judge_128 (by decide) ?_
                            refine wa_ior ?_
                            refine wa_top (fun v198 hv198 => ?_)
                            clear hv198
                            refine wa_istoreD (lv' := [(6, .int v198), (0, .ref 84), (1, .int a0), (2, .int a1), (3, .int a2), (4, .int l4), (5, .int l5), (7, .int l7)]) (by decide) rfl ?_
                            refine wa_iinc (v := (1)) (lv' := fun y199 => [(7, .int y199), (6, .int v198), (0, .ref 84), (1, .int a0), (2, .int a1), (3, .int a2), (4, .int l4), (5, .int l5)]) (by decide) rfl (by decide) (fun _ => rfl) (fun y199 hy199 => ?_)
                            have ty199 := i_addT hy199.symm
                            clear hy199
                            refine wa_goto o_X12_judge_71 (by decide) ?_
                            refine wa_pick [2, 3, 4, 5, 6, 7, 1, 0] rfl ?_
                            exact ih17 _ (by ((try simp only [vp_in_iff, Int32.lt_iff_toInt_lt, Int32.le_iff_toInt_le, ← Int32.toInt_inj, Int32.reduceToInt, n_1, n_2, n_8, Int32.toNatClampNeg, Int64.lt_iff_toInt_lt, Int64.le_iff_toInt_le, ← Int64.toInt_inj, Int64.reduceToInt, Int32.toInt_toInt64, lg_cmp_ge, lg_cmp_le, lg_cmp_gt, lg_cmp_lt, lg_cmp_eq, Bool.false_eq_true, Bool.true_eq_false, reduceCtorEq, false_iff, true_iff, iff_true, iff_false, and_true, true_and, and_false, false_and, reduceIte, ite_true, ite_false, eq_self] at *)) <;> omega) _ _ _ ⟨Fs193, ((nx_gi_sb hs193).trans (khi18_0)), ((nx_gi_sb hs193).trans (khi18_1)), ((nx_gi_sb hs193).trans (khi18_2)), ((nx_gi_sb hs193).trans (khi18_3)), ((nx_gi_sb hs193).trans (khi18_4)), (by ((try simp only [vp_in_iff, Int32.lt_iff_toInt_lt, Int32.le_iff_toInt_le, ← Int32.toInt_inj, Int32.reduceToInt, n_1, n_2, n_8, Int32.toNatClampNeg, Int64.lt_iff_toInt_lt, Int64.le_iff_toInt_le, ← Int64.toInt_inj, Int64.reduceToInt, Int32.toInt_toInt64, lg_cmp_ge, lg_cmp_le, lg_cmp_gt, lg_cmp_lt, lg_cmp_eq, Bool.false_eq_true, Bool.true_eq_false, reduceCtorEq, false_iff, true_iff, iff_true, iff_false, and_true, true_and, and_false, false_and, reduceIte, ite_true, ite_false, eq_self] at *)) <;> omega), trivial⟩ rfl
                    exact hi18 _ _ _ _ ⟨Fs11, (khi13_0), (khi13_1), (khi13_2), (khi13_3), (khi13_4), (by ((try simp only [vp_in_iff, Int32.lt_iff_toInt_lt, Int32.le_iff_toInt_le, ← Int32.toInt_inj, Int32.reduceToInt, n_1, n_2, n_8, Int32.toNatClampNeg, Int64.lt_iff_toInt_lt, Int64.le_iff_toInt_le, ← Int64.toInt_inj, Int64.reduceToInt, Int32.toInt_toInt64, lg_cmp_ge, lg_cmp_le, lg_cmp_gt, lg_cmp_lt, lg_cmp_eq, Bool.false_eq_true, Bool.true_eq_false, reduceCtorEq, false_iff, true_iff, iff_true, iff_false, and_true, true_and, and_false, false_and, reduceIte, ite_true, ite_false, eq_self] at *)) <;> omega), trivial⟩ rfl
              exact hi13 _ _ _ ⟨Fs10, ((nxq_gi_si hs10 (by decide)).trans ((nxq_gi_si hs9 (by decide)).trans (khi7_0))), ((nxq_gi_si hs10 (by decide)).trans ((nxq_gi_si hs9 (by decide)).trans (khi7_1))), ((nxq_gi_si hs10 (by decide)).trans ((nxq_gi_si hs9 (by decide)).trans (khi7_2))), ((nxq_gi_si hs10 (by decide)).trans ((nxq_gi_si hs9 (by decide)).trans (khi7_3))), ((nxq_gi_si hs10 (by decide)).trans ((nxq_gi_si hs9 (by decide)).trans (khi7_4))), (by ((try simp only [vp_in_iff, Int32.lt_iff_toInt_lt, Int32.le_iff_toInt_le, ← Int32.toInt_inj, Int32.reduceToInt, n_1, n_2, n_8, Int32.toNatClampNeg, Int64.lt_iff_toInt_lt, Int64.le_iff_toInt_le, ← Int64.toInt_inj, Int64.reduceToInt, Int32.toInt_toInt64, lg_cmp_ge, lg_cmp_le, lg_cmp_gt, lg_cmp_lt, lg_cmp_eq, Bool.false_eq_true, Bool.true_eq_false, reduceCtorEq, false_iff, true_iff, iff_true, iff_false, and_true, true_and, and_false, false_and, reduceIte, ite_true, ite_false, eq_self] at *)) <;> omega), trivial⟩ rfl
        exact hi7 _ _ _ ⟨Fs1, (khi3_0), (khi3_1), (khi3_2), (khi3_3), (khi3_4), (by ((try simp only [vp_in_iff, Int32.lt_iff_toInt_lt, Int32.le_iff_toInt_le, ← Int32.toInt_inj, Int32.reduceToInt, n_1, n_2, n_8, Int32.toNatClampNeg, Int64.lt_iff_toInt_lt, Int64.le_iff_toInt_le, ← Int64.toInt_inj, Int64.reduceToInt, Int32.toInt_toInt64, lg_cmp_ge, lg_cmp_le, lg_cmp_gt, lg_cmp_lt, lg_cmp_eq, Bool.false_eq_true, Bool.true_eq_false, reduceCtorEq, false_iff, true_iff, iff_true, iff_false, and_true, true_and, and_false, false_and, reduceIte, ite_true, ite_false, eq_self] at *)) <;> omega), trivial⟩ rfl
      · have mh4 := nle_mx h4
        refine wa_aload_n (i := 0) rfl rfl ?_
        refine wa_getr ck_12 fl_12_346 ly_84 rf_84_136 ?_
        refine wa_iload rfl ?_
        refine wa_iconst (v := (-1)) (by decide) ?_
        refine wa_iast ly_120 (by ((try simp only [vp_in_iff, Int32.lt_iff_toInt_lt, Int32.le_iff_toInt_le, ← Int32.toInt_inj, Int32.reduceToInt, n_1, n_2, n_8, Int32.toNatClampNeg, Int64.lt_iff_toInt_lt, Int64.le_iff_toInt_le, ← Int64.toInt_inj, Int64.reduceToInt, Int32.toInt_toInt64, lg_cmp_ge, lg_cmp_le, lg_cmp_gt, lg_cmp_lt, lg_cmp_eq, Bool.false_eq_true, Bool.true_eq_false, reduceCtorEq, false_iff, true_iff, iff_true, iff_false, and_true, true_and, and_false, false_and, reduceIte, ite_true, ite_false, eq_self] at *)) <;> omega) (fun s200 hs200 => ?_)
        have Fs200 : Fm [120, 121, 123, 124, 130, 131, 132] [] σ s200 := by rw [hs200]; exact Fm.si Fs1 rfl
        refine wa_iinc (v := (1)) (lv' := fun y201 => [(4, .int y201), (0, .ref 84), (1, .int a0), (2, .int a1), (3, .int a2)]) (by decide) rfl (by decide) (fun _ => rfl) (fun y201 hy201 => ?_)
        have ty201 := i_addT hy201.symm
        clear hy201
        refine wa_goto o_X12_judge_3 (by decide) ?_
        refine wa_pick [1, 2, 3, 4, 0] rfl ?_
        exact ih2 _ (by ((try simp only [vp_in_iff, Int32.lt_iff_toInt_lt, Int32.le_iff_toInt_le, ← Int32.toInt_inj, Int32.reduceToInt, n_1, n_2, n_8, Int32.toNatClampNeg, Int64.lt_iff_toInt_lt, Int64.le_iff_toInt_le, ← Int64.toInt_inj, Int64.reduceToInt, Int32.toInt_toInt64, lg_cmp_ge, lg_cmp_le, lg_cmp_gt, lg_cmp_lt, lg_cmp_eq, Bool.false_eq_true, Bool.true_eq_false, reduceCtorEq, false_iff, true_iff, iff_true, iff_false, and_true, true_and, and_false, false_and, reduceIte, ite_true, ite_false, eq_self] at *)) <;> omega) _ _ ⟨Fs200, ((nxq_gi_si hs200 (by decide)).trans (khi3_0)), ((nxq_gi_si hs200 (by decide)).trans (khi3_1)), ((nxq_gi_si hs200 (by decide)).trans (khi3_2)), ((nxq_gi_si hs200 (by decide)).trans (khi3_3)), ((nxq_gi_si hs200 (by decide)).trans (khi3_4)), (by ((try simp only [vp_in_iff, Int32.lt_iff_toInt_lt, Int32.le_iff_toInt_le, ← Int32.toInt_inj, Int32.reduceToInt, n_1, n_2, n_8, Int32.toNatClampNeg, Int64.lt_iff_toInt_lt, Int64.le_iff_toInt_le, ← Int64.toInt_inj, Int64.reduceToInt, Int32.toInt_toInt64, lg_cmp_ge, lg_cmp_le, lg_cmp_gt, lg_cmp_lt, lg_cmp_eq, Bool.false_eq_true, Bool.true_eq_false, reduceCtorEq, false_iff, true_iff, iff_true, iff_false, and_true, true_and, and_false, false_and, reduceIte, ite_true, ite_false, eq_self] at *)) <;> omega), trivial⟩ rfl
  exact hi3 _ _ _ ⟨(Fm.rf [120, 121, 123, 124, 130, 131, 132] [] σ), (rfl), (rfl), (rfl), (rfl), (rfl), (by ((try simp only [vp_in_iff, Int32.lt_iff_toInt_lt, Int32.le_iff_toInt_le, ← Int32.toInt_inj, Int32.reduceToInt, n_1, n_2, n_8, Int32.toNatClampNeg, Int64.lt_iff_toInt_lt, Int64.le_iff_toInt_le, ← Int64.toInt_inj, Int64.reduceToInt, Int32.toInt_toInt64, lg_cmp_ge, lg_cmp_le, lg_cmp_gt, lg_cmp_lt, lg_cmp_eq, Bool.false_eq_true, Bool.true_eq_false, reduceCtorEq, false_iff, true_iff, iff_true, iff_false, and_true, true_and, and_false, false_and, reduceIte, ite_true, ite_false, eq_self] at *)) <;> omega), trivial⟩ rfl
theorem pad_31d : True := trivial
