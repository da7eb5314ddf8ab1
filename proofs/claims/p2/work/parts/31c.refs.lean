set_option maxHeartbeats 4000000 in
theorem sp_X12_isSo (G : kG9) {d : Nat} (hd : 1 ≤ d) (σ : St) (a0 : Int32) (a1 : Int32) (a2 : Int32) (p1 : 0 ≤ a0.toInt ∧ a0.toInt < 700) (p2 : (gi σ 135 (a0).toNatClampNeg).toInt ≤ 0 ∨ a1.toInt < 0 ∨ (16 ≤ a1.toInt ∧ a1.toInt ≤ 207)) (r1 : 0 ≤ (gi σ 84 32).toInt ∧ (gi σ 84 32).toInt ≤ 4) (A_135 : AR ap_135 σ 135) (A_137 : AR ap_137 σ 137) : Ct G M_X12_isSo d [.ref 84, .int a0, .int a1, .int a2] σ (fun r σ' => ∃ x : Bool, r = some (.int (bI x)) ∧ σ = σ' ∧ True) := by
  refine wa_start (by decide) rfl (Nat.le_of_ble_eq_true rfl) (lv := [(0, .ref 84), (1, .int a0), (2, .int a1), (3, .int a2)]) rfl o_X12_isSo_0 rfl ?_
  have ua0 := Int32.toInt_lt a0
  have wa0 := Int32.le_toInt a0
  have ua1 := Int32.toInt_lt a1
  have wa1 := Int32.le_toInt a1
  have ua2 := Int32.toInt_lt a2
  have wa2 := Int32.le_toInt a2
  refine wa_iconst (v := 0) (by decide) ?_
  refine wa_istoreD (lv' := [(4, .int 0), (0, .ref 84), (1, .int a0), (2, .int a1), (3, .int a2)]) (by decide) rfl ?_
  refine wa_aload_n (i := 0) rfl rfl ?_
  refine wa_getr ck_12 fl_12_298 ly_84 rf_84_118 ?_
  refine wa_iload_n (i := 1) rfl rfl ?_
  refine wa_iald ly_135 (by ((try simp only [vp_in_iff, Int32.lt_iff_toInt_lt, Int32.le_iff_toInt_le, ← Int32.toInt_inj, Int32.reduceToInt, n_1, n_2, n_8, Int32.toNatClampNeg, Int64.lt_iff_toInt_lt, Int64.le_iff_toInt_le, ← Int64.toInt_inj, Int64.reduceToInt, Int32.toInt_toInt64, lg_cmp_ge, lg_cmp_le, lg_cmp_gt, lg_cmp_lt, lg_cmp_eq, Bool.false_eq_true, Bool.true_eq_false, reduceCtorEq, false_iff, true_iff, iff_true, iff_false, and_true, true_and, and_false, false_and, reduceIte, ite_true, ite_false, eq_self] at *)) <;> omega) ?_
  refine wa_top (fun v1 hv1 => ?_)
  have rv1 : 0 ≤ v1.toInt ∧ v1.toInt ≤ 12 := by rw [← hv1]; exact ar_at A_135 _
  have qv1 := hv1
  clear hv1
  refine wa_if_le o_X12_isSo_23 (by decide) (fun h2 => ?_) (fun h2 => ?_)
  · refine wa_iconst (v := 1) (by decide) ?_
    refine wa_istoreD (lv' := [(5, .int 1), (4, .int 0), (0, .ref 84), (1, .int a0), (2, .int a1), (3, .int a2)]) (by decide) rfl ?_
    refine wa_iconst (v := 0) (by decide) ?_
    refine wa_istoreD (lv' := [(6, .int 0), (5, .int 1), (4, .int 0), (0, .ref 84), (1, .int a0), (2, .int a1), (3, .int a2)]) (by decide) rfl ?_
    refine wa_pick [3, 4, 5, 6, 2, 1, 0] rfl ?_
    have hi4 : ∀ (n9_29 : Nat) (l4 : Int32) (l6 : Int32), ((0 ≤ l6.toInt) ∧ (True)) → (2147483647 - l6.toInt).toNat = n9_29 → WA G M_X12_isSo (ZM G M_X12_isSo d (fun r σ' => ∃ x : Bool, r = some (.int (bI x)) ∧ σ = σ' ∧ True)) B_X12_isSo_29 [(0, .ref 84), (1, .int a0), (2, .int a1), (3, .int a2), (4, .int l4), (5, .int 1), (6, .int l6)] [] σ := by
      intro n9_29
      induction n9_29 using Nat.strongRecOn with
      | _ n9_29 ih3 =>
        intro l4 l6  i9 m9_29
        obtain ⟨jhi4_0, -⟩ := i9
        have ul4 := Int32.toInt_lt l4
        have wl4 := Int32.le_toInt l4
        have ul6 := Int32.toInt_lt l6
        have wl6 := Int32.le_toInt l6
        refine wa_iload rfl ?_
        refine wa_aload_n (i := 0) rfl rfl ?_
        refine wa_geti ck_12 fl_12_815 ly_84 ?_
        refine wa_icmp_ge o_X12_isSo_74 (by decide) (fun h5 => ?_) (fun h5 => ?_)
        · refine wa_aload_n (i := 0) rfl rfl ?_
          refine wa_getr ck_12 fl_12_298 ly_84 rf_84_118 ?_
          refine wa_iload_n (i := 1) rfl rfl ?_
          refine wa_iald ly_135 (by ((try simp only [vp_in_iff, Int32.lt_iff_toInt_lt, Int32.le_iff_toInt_le, ← Int32.toInt_inj, Int32.reduceToInt, n_1, n_2, n_8, Int32.toNatClampNeg, Int64.lt_iff_toInt_lt, Int64.le_iff_toInt_le, ← Int64.toInt_inj, Int64.reduceToInt, Int32.toInt_toInt64, lg_cmp_ge, lg_cmp_le, lg_cmp_gt, lg_cmp_lt, lg_cmp_eq, Bool.false_eq_true, Bool.true_eq_false, reduceCtorEq, false_iff, true_iff, iff_true, iff_false, and_true, true_and, and_false, false_and, reduceIte, ite_true, ite_false, eq_self] at *)) <;> omega) ?_
          refine wa_top (fun v6 hv6 => ?_)
          have rv6 : 0 ≤ v6.toInt ∧ v6.toInt ≤ 12 := by rw [← hv6]; exact ar_at A_135 _
          have qv6 := hv6
          clear hv6
          refine wa_if_ne o_X12_isSo_95 (by decide) (fun h7 => ?_) (fun h7 => ?_)
          · refine wa_iload_n (i := 2) rfl rfl ?_
            refine wa_iconst (v := (-1)) (by decide) ?_
            refine wa_icmp_eq o_X12_isSo_123 (by decide) (fun h8 => ?_) (fun h8 => ?_)
            · refine wa_iconst (v := 1) (by decide) ?_
              refine wa_goto o_X12_isSo_128 (by decide) ?_
              refine wa_zreturn true (rfl) rfl rfl ?_
              exact ⟨_, rfl, rfl, trivial⟩
            · refine wa_iload_n (i := 2) rfl rfl ?_
              refine wa_if_lt o_X12_isSo_127 (by decide) (fun h9 => ?_) (fun h9 => ?_)
              · refine wa_iconst (v := 0) (by decide) ?_
                refine wa_zreturn false (rfl) rfl rfl ?_
                exact ⟨_, rfl, rfl, trivial⟩
              · refine wa_iload_n (i := 2) rfl rfl ?_
                refine wa_bipush (v := 16) (by decide) ?_
                refine wa_irem (by ((try simp only [vp_in_iff, Int32.lt_iff_toInt_lt, Int32.le_iff_toInt_le, ← Int32.toInt_inj, Int32.reduceToInt, n_1, n_2, n_8, Int32.toNatClampNeg, Int64.lt_iff_toInt_lt, Int64.le_iff_toInt_le, ← Int64.toInt_inj, Int64.reduceToInt, Int32.toInt_toInt64, lg_cmp_ge, lg_cmp_le, lg_cmp_gt, lg_cmp_lt, lg_cmp_eq, Bool.false_eq_true, Bool.true_eq_false, reduceCtorEq, false_iff, true_iff, iff_true, iff_false, and_true, true_and, and_false, false_and, reduceIte, ite_true, ite_false, eq_self] at *)) <;> omega) ?_
                refine wa_top (fun v10 hv10 => ?_)
                have tv10 := i_remU hv10
                clear hv10
                refine wa_iload rfl ?_
                refine wa_iadd ?_
                refine wa_top (fun v11 hv11 => ?_)
                have tv11 := i_addT hv11
                clear hv11
                refine wa_i2l ?_
                refine wa_iload rfl ?_
                refine wa_i2l ?_
                refine wa_Sl (d9 := d - 1) [.long _, .long _] [] (sp_X12_rest G (d := d - 1) (by omega) σ _ _ (by ((try simp only [vp_in_iff, Int32.lt_iff_toInt_lt, Int32.le_iff_toInt_le, ← Int32.toInt_inj, Int32.reduceToInt, n_1, n_2, n_8, Int32.toNatClampNeg, Int64.lt_iff_toInt_lt, Int64.le_iff_toInt_le, ← Int64.toInt_inj, Int64.reduceToInt, Int32.toInt_toInt64, lg_cmp_ge, lg_cmp_le, lg_cmp_gt, lg_cmp_lt, lg_cmp_eq, Bool.false_eq_true, Bool.true_eq_false, reduceCtorEq, false_iff, true_iff, iff_true, iff_false, and_true, true_and, and_false, false_and, reduceIte, ite_true, ite_false, eq_self] at *)) <;> omega)) (rfl) rfl rfl (zr (by omega)) mk_X12_rest ml_12_768 (Nat.le_of_ble_eq_true rfl) (fun x13 s12 hs12 => ?_)
                obtain ⟨zs12, -⟩ := pL hs12
                subst zs12
                refine wa_lconst (v := 0) (by decide) ?_
                refine wa_lcmp ?_
                refine wa_top (fun v14 hv14 => ?_)
                have tv14 := i_cmpT hv14
                clear hv14
                refine wa_if_ne o_X12_isSo_127 (by decide) (fun h15 => ?_) (fun h15 => ?_)
                · refine wa_iconst (v := 0) (by decide) ?_
                  refine wa_zreturn false (rfl) rfl rfl ?_
                  exact ⟨_, rfl, rfl, trivial⟩
                · refine wa_iconst (v := 1) (by decide) ?_
                  refine wa_goto o_X12_isSo_128 (by decide) ?_
                  refine wa_zreturn true (rfl) rfl rfl ?_
                  exact ⟨_, rfl, rfl, trivial⟩
          · refine wa_iload rfl ?_
            refine wa_iload_n (i := 2) rfl rfl ?_
            refine wa_icmp_gt o_X12_isSo_93 (by decide) (fun h16 => ?_) (fun h16 => ?_)
            · refine wa_iconst (v := 0) (by decide) ?_
              refine wa_zreturn false (rfl) rfl rfl ?_
              exact ⟨_, rfl, rfl, trivial⟩
            · refine wa_iconst (v := 1) (by decide) ?_
              refine wa_goto o_X12_isSo_94 (by decide) ?_
              refine wa_zreturn true (rfl) rfl rfl ?_
              exact ⟨_, rfl, rfl, trivial⟩
        · have mh5 := nle_mx h5
          refine wa_iload rfl ?_
          refine wa_iload_n (i := 3) rfl rfl ?_
          refine wa_iload rfl ?_
          refine wa_ishr ?_
          refine wa_top (fun v17 hv17 => ?_)
          clear hv17
          refine wa_iconst (v := 1) (by decide) ?_
          refine wa_iand ?_
          refine wa_top (fun v18 hv18 => ?_)
          have tv18 := i_andT hv18
          clear hv18
          refine wa_iconst (v := 1) (by decide) ?_
          refine wa_icmp_ne o_X12_isSo_64 (by decide) (fun h19 => ?_) (fun h19 => ?_)
          · refine wa_iconst (v := 0) (by decide) ?_
            refine wa_isub ?_
            refine wa_top (fun v20 hv20 => ?_)
            have tv20 := i_subT hv20
            clear hv20
            refine wa_istoreD (lv' := [(4, .int v20), (0, .ref 84), (1, .int a0), (2, .int a1), (3, .int a2), (5, .int 1), (6, .int l6)]) (by decide) rfl ?_
            refine wa_iinc (v := (1)) (lv' := fun y21 => [(6, .int y21), (4, .int v20), (0, .ref 84), (1, .int a0), (2, .int a1), (3, .int a2), (5, .int 1)]) (by decide) rfl (by decide) (fun _ => rfl) (fun y21 hy21 => ?_)
            have ty21 := i_addT hy21.symm
            clear hy21
            refine wa_goto o_X12_isSo_29 (by decide) ?_
            refine wa_pick [2, 3, 4, 5, 1, 6, 0] rfl ?_
            exact ih3 _ (by ((try simp only [vp_in_iff, Int32.lt_iff_toInt_lt, Int32.le_iff_toInt_le, ← Int32.toInt_inj, Int32.reduceToInt, n_1, n_2, n_8, Int32.toNatClampNeg, Int64.lt_iff_toInt_lt, Int64.le_iff_toInt_le, ← Int64.toInt_inj, Int64.reduceToInt, Int32.toInt_toInt64, lg_cmp_ge, lg_cmp_le, lg_cmp_gt, lg_cmp_lt, lg_cmp_eq, Bool.false_eq_true, Bool.true_eq_false, reduceCtorEq, false_iff, true_iff, iff_true, iff_false, and_true, true_and, and_false, false_and, reduceIte, ite_true, ite_false, eq_self] at *)) <;> omega) _ _ ⟨(by ((try simp only [vp_in_iff, Int32.lt_iff_toInt_lt, Int32.le_iff_toInt_le, ← Int32.toInt_inj, Int32.reduceToInt, n_1, n_2, n_8, Int32.toNatClampNeg, Int64.lt_iff_toInt_lt, Int64.le_iff_toInt_le, ← Int64.toInt_inj, Int64.reduceToInt, Int32.toInt_toInt64, lg_cmp_ge, lg_cmp_le, lg_cmp_gt, lg_cmp_lt, lg_cmp_eq, Bool.false_eq_true, Bool.true_eq_false, reduceCtorEq, false_iff, true_iff, iff_true, iff_false, and_true, true_and, and_false, false_and, reduceIte, ite_true, ite_false, eq_self] at *)) <;> omega), trivial⟩ rfl
          · refine wa_aload_n (i := 0) rfl rfl ?_
            refine wa_getr ck_12 fl_12_292 ly_84 rf_84_116 ?_
            refine wa_iconst (v := 4) (by decide) ?_
            refine wa_iload_n (i := 1) rfl rfl ?_
            refine wa_imul ?_
            refine wa_top (fun v22 hv22 => ?_)
            have tv22 := i_mulT hv22
            clear hv22
            refine wa_iload rfl ?_
            refine wa_iadd ?_
            refine wa_top (fun v23 hv23 => ?_)
            have tv23 := i_addT hv23
            clear hv23
            refine wa_iald ly_137 (by ((try simp only [vp_in_iff, Int32.lt_iff_toInt_lt, Int32.le_iff_toInt_le, ← Int32.toInt_inj, Int32.reduceToInt, n_1, n_2, n_8, Int32.toNatClampNeg, Int64.lt_iff_toInt_lt, Int64.le_iff_toInt_le, ← Int64.toInt_inj, Int64.reduceToInt, Int32.toInt_toInt64, lg_cmp_ge, lg_cmp_le, lg_cmp_gt, lg_cmp_lt, lg_cmp_eq, Bool.false_eq_true, Bool.true_eq_false, reduceCtorEq, false_iff, true_iff, iff_true, iff_false, and_true, true_and, and_false, false_and, reduceIte, ite_true, ite_false, eq_self] at *)) <;> omega) ?_
            refine wa_top (fun v24 hv24 => ?_)
            have rv24 : -20 ≤ v24.toInt ∧ v24.toInt ≤ 20 := by rw [← hv24]; exact ar_at A_137 _
            clear hv24
            refine wa_goto o_X12_isSo_65 (by decide) ?_
            refine wa_isub ?_
            refine wa_top (fun v25 hv25 => ?_)
            have tv25 := i_subT hv25
            clear hv25
            refine wa_istoreD (lv' := [(4, .int v25), (0, .ref 84), (1, .int a0), (2, .int a1), (3, .int a2), (5, .int 1), (6, .int l6)]) (by decide) rfl ?_
            refine wa_iinc (v := (1)) (lv' := fun y26 => [(6, .int y26), (4, .int v25), (0, .ref 84), (1, .int a0), (2, .int a1), (3, .int a2), (5, .int 1)]) (by decide) rfl (by decide) (fun _ => rfl) (fun y26 hy26 => ?_)
            have ty26 := i_addT hy26.symm
            clear hy26
            refine wa_goto o_X12_isSo_29 (by decide) ?_
            refine wa_pick [2, 3, 4, 5, 1, 6, 0] rfl ?_
            exact ih3 _ (by ((try simp only [vp_in_iff, Int32.lt_iff_toInt_lt, Int32.le_iff_toInt_le, ← Int32.toInt_inj, Int32.reduceToInt, n_1, n_2, n_8, Int32.toNatClampNeg, Int64.lt_iff_toInt_lt, Int64.le_iff_toInt_le, ← Int64.toInt_inj, Int64.reduceToInt, Int32.toInt_toInt64, lg_cmp_ge, lg_cmp_le, lg_cmp_gt, lg_cmp_lt, lg_cmp_eq, Bool.false_eq_true, Bool.true_eq_false, reduceCtorEq, false_iff, true_iff, iff_true, iff_false, and_true, true_and, and_false, false_and, reduceIte, ite_true, ite_false, eq_self] at *)) <;> omega) _ _ ⟨(by ((try simp only [vp_in_iff, Int32.lt_iff_toInt_lt, Int32.le_iff_toInt_le, ← Int32.toInt_inj, Int32.reduceToInt, n_1, n_2, n_8, Int32.toNatClampNeg, Int64.lt_iff_toInt_lt, Int64.le_iff_toInt_le, ← Int64.toInt_inj, Int64.reduceToInt, Int32.toInt_toInt64, lg_cmp_ge, lg_cmp_le, lg_cmp_gt, lg_cmp_lt, lg_cmp_eq, Bool.false_eq_true, Bool.true_eq_false, reduceCtorEq, false_iff, true_iff, iff_true, iff_false, and_true, true_and, and_false, false_and, reduceIte, ite_true, ite_false, eq_self] at *)) <;> omega), trivial⟩ rfl
    exact hi4 _ _ _ ⟨(by ((try simp only [vp_in_iff, Int32.lt_iff_toInt_lt, Int32.le_iff_toInt_le, ← Int32.toInt_inj, Int32.reduceToInt, n_1, n_2, n_8, Int32.toNatClampNeg, Int64.lt_iff_toInt_lt, Int64.le_iff_toInt_le, ← Int64.toInt_inj, Int64.reduceToInt, Int32.toInt_toInt64, lg_cmp_ge, lg_cmp_le, lg_cmp_gt, lg_cmp_lt, lg_cmp_eq, Bool.false_eq_true, Bool.true_eq_false, reduceCtorEq, false_iff, true_iff, iff_true, iff_false, and_true, true_and, and_false, false_and, reduceIte, ite_true, ite_false, eq_self] at *)) <;> omega), trivial⟩ rfl
  · refine wa_iload_n (i := 2) rfl rfl ?_
    refine wa_if_lt o_X12_isSo_23 (by decide) (fun h27 => ?_) (fun h27 => ?_)
    · refine wa_iconst (v := 1) (by decide) ?_
      refine wa_istoreD (lv' := [(5, .int 1), (4, .int 0), (0, .ref 84), (1, .int a0), (2, .int a1), (3, .int a2)]) (by decide) rfl ?_
      refine wa_iconst (v := 0) (by decide) ?_
      refine wa_istoreD (lv' := [(6, .int 0), (5, .int 1), (4, .int 0), (0, .ref 84), (1, .int a0), (2, .int a1), (3, .int a2)]) (by decide) rfl ?_
      refine wa_pick [3, 4, 5, 6, 2, 1, 0] rfl ?_
      have hi29 : ∀ (n9_29 : Nat) (l4 : Int32) (l6 : Int32), ((0 ≤ l6.toInt) ∧ (True)) → (2147483647 - l6.toInt).toNat = n9_29 → WA G M_X12_isSo (ZM G M_X12_isSo d (fun r σ' => ∃ x : Bool, r = some (.int (bI x)) ∧ σ = σ' ∧ True)) B_X12_isSo_29 [(0, .ref 84), (1, .int a0), (2, .int a1), (3, .int a2), (4, .int l4), (5, .int 1), (6, .int l6)] [] σ := by
        intro n9_29
        induction n9_29 using Nat.strongRecOn with
        | _ n9_29 ih28 =>
          intro l4 l6  i9 m9_29
          obtain ⟨jhi29_0, -⟩ := i9
          have ul4 := Int32.toInt_lt l4
          have wl4 := Int32.le_toInt l4
          have ul6 := Int32.toInt_lt l6
          have wl6 := Int32.le_toInt l6
          refine wa_iload rfl ?_
          refine wa_aload_n (i := 0) rfl rfl ?_
          refine wa_geti ck_12 fl_12_815 ly_84 ?_
          refine wa_icmp_ge o_X12_isSo_74 (by decide) (fun h30 => ?_) (fun h30 => ?_)
          · refine wa_aload_n (i := 0) rfl rfl ?_
            refine wa_getr ck_12 fl_12_298 ly_84 rf_84_118 ?_
            refine wa_iload_n (i := 1) rfl rfl ?_
            refine wa_iald ly_135 (by ((try simp only [vp_in_iff, Int32.lt_iff_toInt_lt, Int32.le_iff_toInt_le, ← Int32.toInt_inj, Int32.reduceToInt, n_1, n_2, n_8, Int32.toNatClampNeg, Int64.lt_iff_toInt_lt, Int64.le_iff_toInt_le, ← Int64.toInt_inj, Int64.reduceToInt, Int32.toInt_toInt64, lg_cmp_ge, lg_cmp_le, lg_cmp_gt, lg_cmp_lt, lg_cmp_eq, Bool.false_eq_true, Bool.true_eq_false, reduceCtorEq, false_iff, true_iff, iff_true, iff_false, and_true, true_and, and_false, false_and, reduceIte, ite_true, ite_false, eq_self] at *)) <;> omega) ?_
            refine wa_top (fun v31 hv31 => ?_)
            have rv31 : 0 ≤ v31.toInt ∧ v31.toInt ≤ 12 := by rw [← hv31]; exact ar_at A_135 _
            have qv31 := hv31
            clear hv31
            refine wa_if_ne o_X12_isSo_95 (by decide) (fun h32 => ?_) (fun h32 => ?_)
            · refine wa_iload_n (i := 2) rfl rfl ?_
              refine wa_iconst (v := (-1)) (by decide) ?_
              refine wa_icmp_eq o_X12_isSo_123 (by decide) (fun h33 => ?_) (fun h33 => ?_)
              · refine wa_iconst (v := 1) (by decide) ?_
                refine wa_goto o_X12_isSo_128 (by decide) ?_
                refine wa_zreturn true (rfl) rfl rfl ?_
                exact ⟨_, rfl, rfl, trivial⟩
              · refine wa_iload_n (i := 2) rfl rfl ?_
                refine wa_if_lt o_X12_isSo_127 (by decide) (fun h34 => ?_) (fun h34 => ?_)
                · refine wa_iconst (v := 0) (by decide) ?_
                  refine wa_zreturn false (rfl) rfl rfl ?_
                  exact ⟨_, rfl, rfl, trivial⟩
                · refine wa_iload_n (i := 2) rfl rfl ?_
                  refine wa_bipush (v := 16) (by decide) ?_
                  refine wa_irem (by ((try simp only [vp_in_iff, Int32.lt_iff_toInt_lt, Int32.le_iff_toInt_le, ← Int32.toInt_inj, Int32.reduceToInt, n_1, n_2, n_8, Int32.toNatClampNeg, Int64.lt_iff_toInt_lt, Int64.le_iff_toInt_le, ← Int64.toInt_inj, Int64.reduceToInt, Int32.toInt_toInt64, lg_cmp_ge, lg_cmp_le, lg_cmp_gt, lg_cmp_lt, lg_cmp_eq, Bool.false_eq_true, Bool.true_eq_false, reduceCtorEq, false_iff, true_iff, iff_true, iff_false, and_true, true_and, and_false, false_and, reduceIte, ite_true, ite_false, eq_self] at *)) <;> omega) ?_
                  refine wa_top (fun v35 hv35 => ?_)
                  have tv35 := i_remU hv35
                  clear hv35
                  refine wa_iload rfl ?_
                  refine wa_iadd ?_
                  refine wa_top (fun v36 hv36 => ?_)
                  have tv36 := i_addT hv36
                  clear hv36
                  refine wa_i2l ?_
                  refine wa_iload rfl ?_
                  refine wa_i2l ?_
                  refine wa_Sl (d9 := d - 1) [.long _, .long _] [] (sp_X12_rest G (d := d - 1) (by omega) σ _ _ (by ((try simp only [vp_in_iff, Int32.lt_iff_toInt_lt, Int32.le_iff_toInt_le, ← Int32.toInt_inj, Int32.reduceToInt, n_1, n_2, n_8, Int32.toNatClampNeg, Int64.lt_iff_toInt_lt, Int64.le_iff_toInt_le, ← Int64.toInt_inj, Int64.reduceToInt, Int32.toInt_toInt64, lg_cmp_ge, lg_cmp_le, lg_cmp_gt, lg_cmp_lt, lg_cmp_eq, Bool.false_eq_true, Bool.true_eq_false, reduceCtorEq, false_iff, true_iff, iff_true, iff_false, and_true, true_and, and_false, false_and, reduceIte, ite_true, ite_false, eq_self] at *)) <;> omega)) (rfl) rfl rfl (zr (by omega)) mk_X12_rest ml_12_768 (Nat.le_of_ble_eq_true rfl) (fun x38 s37 hs37 => ?_)
                  obtain ⟨zs37, -⟩ := pL hs37
                  subst zs37
                  refine wa_lconst (v := 0) (by decide) ?_
                  refine wa_lcmp ?_
                  refine wa_top (fun v39 hv39 => ?_)
                  have tv39 := i_cmpT hv39
                  clear hv39
                  refine wa_if_ne o_X12_isSo_127 (by decide) (fun h40 => ?_) (fun h40 => ?_)
                  · refine wa_iconst (v := 0) (by decide) ?_
                    refine wa_zreturn false (rfl) rfl rfl ?_
                    exact ⟨_, rfl, rfl, trivial⟩
                  · refine wa_iconst (v := 1) (by decide) ?_
                    refine wa_goto o_X12_isSo_128 (by decide) ?_
                    refine wa_zreturn true (rfl) rfl rfl ?_
                    exact ⟨_, rfl, rfl, trivial⟩
            · refine wa_iload rfl ?_
              refine wa_iload_n (i := 2) rfl rfl ?_
              refine wa_icmp_gt o_X12_isSo_93 (by decide) (fun h41 => ?_) (fun h41 => ?_)
              · refine wa_iconst (v := 0) (by decide) ?_
                refine wa_zreturn false (rfl) rfl rfl ?_
                exact ⟨_, rfl, rfl, trivial⟩
              · refine wa_iconst (v := 1) (by decide) ?_
                refine wa_goto o_X12_isSo_94 (by decide) ?_
                refine wa_zreturn true (rfl) rfl rfl ?_
                exact ⟨_, rfl, rfl, trivial⟩
          · have mh30 := nle_mx h30
            refine wa_iload rfl ?_
            refine wa_iload_n (i := 3) rfl rfl ?_
            refine wa_iload rfl ?_
            refine wa_ishr ?_
            refine wa_top (fun v42 hv42 => ?_)
            clear hv42
            refine wa_iconst (v := 1) (by decide) ?_
            refine wa_iand ?_
            refine wa_top (fun v43 hv43 => ?_)
            have tv43 := i_andT hv43
            clear hv43
            refine wa_iconst (v := 1) (by decide) ?_
            refine wa_icmp_ne o_X12_isSo_64 (by decide) (fun h44 => ?_) (fun h44 => ?_)
            · refine wa_iconst (v := 0) (by decide) ?_
              refine wa_isub ?_
              refine wa_top (fun v45 hv45 => ?_)
              have tv45 := i_subT hv45
              clear hv45
              refine wa_istoreD (lv' := [(4, .int v45), (0, .ref 84), (1, .int a0), (2, .int a1), (3, .int a2), (5, .int 1), (6, .int l6)]) (by decide) rfl ?_
              refine wa_iinc (v := (1)) (lv' := fun y46 => [(6, .int y46), (4, .int v45), (0, .ref 84), (1, .int a0), (2, .int a1), (3, .int a2), (5, .int 1)]) (by decide) rfl (by decide) (fun _ => rfl) (fun y46 hy46 => ?_)
              have ty46 := i_addT hy46.symm
              clear hy46
              refine wa_goto o_X12_isSo_29 (by decide) ?_
              refine wa_pick [2, 3, 4, 5, 1, 6, 0] rfl ?_
              exact ih28 _ (by ((try simp only [vp_in_iff, Int32.lt_iff_toInt_lt, Int32.le_iff_toInt_le, ← Int32.toInt_inj, Int32.reduceToInt, n_1, n_2, n_8, Int32.toNatClampNeg, Int64.lt_iff_toInt_lt, Int64.le_iff_toInt_le, ← Int64.toInt_inj, Int64.reduceToInt, Int32.toInt_toInt64, lg_cmp_ge, lg_cmp_le, lg_cmp_gt, lg_cmp_lt, lg_cmp_eq, Bool.false_eq_true, Bool.true_eq_false, reduceCtorEq, false_iff, true_iff, iff_true, iff_false, and_true, true_and, and_false, false_and, reduceIte, ite_true, ite_false, eq_self] at *)) <;> omega) _ _ ⟨(by ((try simp only [vp_in_iff, Int32.lt_iff_toInt_lt, Int32.le_iff_toInt_le, ← Int32.toInt_inj, Int32.reduceToInt, n_1, n_2, n_8, Int32.toNatClampNeg, Int64.lt_iff_toInt_lt, Int64.le_iff_toInt_le, ← Int64.toInt_inj, Int64.reduceToInt, Int32.toInt_toInt64, lg_cmp_ge, lg_cmp_le, lg_cmp_gt, lg_cmp_lt, lg_cmp_eq, Bool.false_eq_true, Bool.true_eq_false, reduceCtorEq, false_iff, true_iff, iff_true, iff_false, and_true, true_and, and_false, false_and, reduceIte, ite_true, ite_false, eq_self] at *)) <;> omega), trivial⟩ rfl
            · refine wa_aload_n (i := 0) rfl rfl ?_
              refine wa_getr ck_12 fl_12_292 ly_84 rf_84_116 ?_
              refine wa_iconst (v := 4) (by decide) ?_
              refine wa_iload_n (i := 1) rfl rfl ?_
              refine wa_imul ?_
              refine wa_top (fun v47 hv47 => ?_)
              have tv47 := i_mulT hv47
              clear hv47
              refine wa_iload rfl ?_
              refine wa_iadd ?_
              refine wa_top (fun v48 hv48 => ?_)
              have tv48 := i_addT hv48
              clear hv48
              refine wa_iald ly_137 (by ((try simp only [vp_in_iff, Int32.lt_iff_toInt_lt, Int32.le_iff_toInt_le, ← Int32.toInt_inj, Int32.reduceToInt, n_1, n_2, n_8, Int32.toNatClampNeg, Int64.lt_iff_toInt_lt, Int64.le_iff_toInt_le, ← Int64.toInt_inj, Int64.reduceToInt, Int32.toInt_toInt64, lg_cmp_ge, lg_cmp_le, lg_cmp_gt, lg_cmp_lt, lg_cmp_eq, Bool.false_eq_true, Bool.true_eq_false, reduceCtorEq, false_iff, true_iff, iff_true, iff_false, and_true, true_and, and_false, false_and, reduceIte, ite_true, ite_false, eq_self] at *)) <;> omega) ?_
              refine wa_top (fun v49 hv49 => ?_)
              have rv49 : -20 ≤ v49.toInt ∧ v49.toInt ≤ 20 := by rw [← hv49]; exact ar_at A_137 _
              clear hv49
              refine wa_goto o_X12_isSo_65 (by decide) ?_
              refine wa_isub ?_
              refine wa_top (fun v50 hv50 => ?_)
              have tv50 := i_subT hv50
              clear hv50
              refine wa_istoreD (lv' := [(4, .int v50), (0, .ref 84), (1, .int a0), (2, .int a1), (3, .int a2), (5, .int 1), (6, .int l6)]) (by decide) rfl ?_
              refine wa_iinc (v := (1)) (lv' := fun y51 => [(6, .int y51), (4, .int v50), (0, .ref 84), (1, .int a0), (2, .int a1), (3, .int a2), (5, .int 1)]) (by decide) rfl (by decide) (fun _ => rfl) (fun y51 hy51 => ?_)
              have ty51 := i_addT hy51.symm
              clear hy51
              refine wa_goto o_X12_isSo_29 (by decide) ?_
              refine wa_pick [2, 3, 4, 5, 1, 6, 0] rfl ?_
              exact ih28 _ (by ((try simp only [vp_in_iff, Int32.lt_iff_toInt_lt, Int32.le_iff_toInt_le, ← Int32.toInt_inj, Int32.reduceToInt, n_1, n_2, n_8, Int32.toNatClampNeg, Int64.lt_iff_toInt_lt, Int64.le_iff_toInt_le, ← Int64.toInt_inj, Int64.reduceToInt, Int32.toInt_toInt64, lg_cmp_ge, lg_cmp_le, lg_cmp_gt, lg_cmp_lt, lg_cmp_eq, Bool.false_eq_true, Bool.true_eq_false, reduceCtorEq, false_iff, true_iff, iff_true, iff_false, and_true, true_and, and_false, false_and, reduceIte, ite_true, ite_false, eq_self] at *)) <;> omega) _ _ ⟨(by ((try simp only [vp_in_iff, Int32.lt_iff_toInt_lt, Int32.le_iff_toInt_le, ← Int32.toInt_inj, Int32.reduceToInt, n_1, n_2, n_8, Int32.toNatClampNeg, Int64.lt_iff_toInt_lt, Int64.le_iff_toInt_le, ← Int64.toInt_inj, Int64.reduceToInt, Int32.toInt_toInt64, lg_cmp_ge, lg_cmp_le, lg_cmp_gt, lg_cmp_lt, lg_cmp_eq, Bool.false_eq_true, Bool.true_eq_false, reduceCtorEq, false_iff, true_iff, iff_true, iff_false, and_true, true_and, and_false, false_and, reduceIte, ite_true, ite_false, eq_self] at *)) <;> omega), trivial⟩ rfl
      exact hi29 _ _ _ ⟨(by ((try simp only [vp_in_iff, Int32.lt_iff_toInt_lt, Int32.le_iff_toInt_le, ← Int32.toInt_inj, Int32.reduceToInt, n_1, n_2, n_8, Int32.toNatClampNeg, Int64.lt_iff_toInt_lt, Int64.le_iff_toInt_le, ← Int64.toInt_inj, Int64.reduceToInt, Int32.toInt_toInt64, lg_cmp_ge, lg_cmp_le, lg_cmp_gt, lg_cmp_lt, lg_cmp_eq, Bool.false_eq_true, Bool.true_eq_false, reduceCtorEq, false_iff, true_iff, iff_true, iff_false, and_true, true_and, and_false, false_and, reduceIte, ite_true, ite_false, eq_self] at *)) <;> omega), trivial⟩ rfl
    · refine wa_iload_n (i := 2) rfl rfl ?_
      refine wa_bipush (v := 16) (by decide) ?_
      refine wa_idiv (by ((try simp only [vp_in_iff, Int32.lt_iff_toInt_lt, Int32.le_iff_toInt_le, ← Int32.toInt_inj, Int32.reduceToInt, n_1, n_2, n_8, Int32.toNatClampNeg, Int64.lt_iff_toInt_lt, Int64.le_iff_toInt_le, ← Int64.toInt_inj, Int64.reduceToInt, Int32.toInt_toInt64, lg_cmp_ge, lg_cmp_le, lg_cmp_gt, lg_cmp_lt, lg_cmp_eq, Bool.false_eq_true, Bool.true_eq_false, reduceCtorEq, false_iff, true_iff, iff_true, iff_false, and_true, true_and, and_false, false_and, reduceIte, ite_true, ite_false, eq_self] at *)) <;> omega) ?_
      refine wa_top (fun v52 hv52 => ?_)
      have tv52 := i_divU hv52
      clear hv52
      refine wa_goto o_X12_isSo_24 (by decide) ?_
      refine wa_istoreD (lv' := [(5, .int v52), (4, .int 0), (0, .ref 84), (1, .int a0), (2, .int a1), (3, .int a2)]) (by decide) rfl ?_
      refine wa_iconst (v := 0) (by decide) ?_
      refine wa_istoreD (lv' := [(6, .int 0), (5, .int v52), (4, .int 0), (0, .ref 84), (1, .int a0), (2, .int a1), (3, .int a2)]) (by decide) rfl ?_
      refine wa_pick [3, 4, 5, 6, 2, 1, 0] rfl ?_
      have hi54 : ∀ (n9_29 : Nat) (l4 : Int32) (l6 : Int32), ((0 ≤ l6.toInt) ∧ (True)) → (2147483647 - l6.toInt).toNat = n9_29 → WA G M_X12_isSo (ZM G M_X12_isSo d (fun r σ' => ∃ x : Bool, r = some (.int (bI x)) ∧ σ = σ' ∧ True)) B_X12_isSo_29 [(0, .ref 84), (1, .int a0), (2, .int a1), (3, .int a2), (4, .int l4), (5, .int v52), (6, .int l6)] [] σ := by
        intro n9_29
        induction n9_29 using Nat.strongRecOn with
        | _ n9_29 ih53 =>
          intro l4 l6  i9 m9_29
          obtain ⟨jhi54_0, -⟩ := i9
          have ul4 := Int32.toInt_lt l4
          have wl4 := Int32.le_toInt l4
          have ul6 := Int32.toInt_lt l6
          have wl6 := Int32.le_toInt l6
          refine wa_iload rfl ?_
          refine wa_aload_n (i := 0) rfl rfl ?_
          refine wa_geti ck_12 fl_12_815 ly_84 ?_
          refine wa_icmp_ge o_X12_isSo_74 (by decide) (fun h55 => ?_) (fun h55 => ?_)
          · refine wa_aload_n (i := 0) rfl rfl ?_
            refine wa_getr ck_12 fl_12_298 ly_84 rf_84_118 ?_
            refine wa_iload_n (i := 1) rfl rfl ?_
            refine wa_iald ly_135 (by ((try simp only [vp_in_iff, Int32.lt_iff_toInt_lt, Int32.le_iff_toInt_le, ← Int32.toInt_inj, Int32.reduceToInt, n_1, n_2, n_8, Int32.toNatClampNeg, Int64.lt_iff_toInt_lt, Int64.le_iff_toInt_le, ← Int64.toInt_inj, Int64.reduceToInt, Int32.toInt_toInt64, lg_cmp_ge, lg_cmp_le, lg_cmp_gt, lg_cmp_lt, lg_cmp_eq, Bool.false_eq_true, Bool.true_eq_false, reduceCtorEq, false_iff, true_iff, iff_true, iff_false, and_true, true_and, and_false, false_and, reduceIte, ite_true, ite_false, eq_self] at *)) <;> omega) ?_
            refine wa_top (fun v56 hv56 => ?_)
            have rv56 : 0 ≤ v56.toInt ∧ v56.toInt ≤ 12 := by rw [← hv56]; exact ar_at A_135 _
            have qv56 := hv56
            clear hv56
            refine wa_if_ne o_X12_isSo_95 (by decide) (fun h57 => ?_) (fun h57 => ?_)
            · refine wa_iload_n (i := 2) rfl rfl ?_
              refine wa_iconst (v := (-1)) (by decide) ?_
              refine wa_icmp_eq o_X12_isSo_123 (by decide) (fun h58 => ?_) (fun h58 => ?_)
              · refine wa_iconst (v := 1) (by decide) ?_
                refine wa_goto o_X12_isSo_128 (by decide) ?_
                refine wa_zreturn true (rfl) rfl rfl ?_
                exact ⟨_, rfl, rfl, trivial⟩
              · refine wa_iload_n (i := 2) rfl rfl ?_
                refine wa_if_lt o_X12_isSo_127 (by decide) (fun h59 => ?_) (fun h59 => ?_)
                · refine wa_iconst (v := 0) (by decide) ?_
                  refine wa_zreturn false (rfl) rfl rfl ?_
                  exact ⟨_, rfl, rfl, trivial⟩
                · refine wa_iload_n (i := 2) rfl rfl ?_
                  refine wa_bipush (v := 16) (by decide) ?_
                  refine wa_irem (by ((try simp only [vp_in_iff, Int32.lt_iff_toInt_lt, Int32.le_iff_toInt_le, ← Int32.toInt_inj, Int32.reduceToInt, n_1, n_2, n_8, Int32.toNatClampNeg, Int64.lt_iff_toInt_lt, Int64.le_iff_toInt_le, ← Int64.toInt_inj, Int64.reduceToInt, Int32.toInt_toInt64, lg_cmp_ge, lg_cmp_le, lg_cmp_gt, lg_cmp_lt, lg_cmp_eq, Bool.false_eq_true, Bool.true_eq_false, reduceCtorEq, false_iff, true_iff, iff_true, iff_false, and_true, true_and, and_false, false_and, reduceIte, ite_true, ite_false, eq_self] at *)) <;> omega) ?_
                  refine wa_top (fun v60 hv60 => ?_)
                  have tv60 := i_remU hv60
                  clear hv60
                  refine wa_iload rfl ?_
                  refine wa_iadd ?_
                  refine wa_top (fun v61 hv61 => ?_)
                  have tv61 := i_addT hv61
                  clear hv61
                  refine wa_i2l ?_
                  refine wa_iload rfl ?_
                  refine wa_i2l ?_
                  refine wa_Sl (d9 := d - 1) [.long _, .long _] [] (sp_X12_rest G (d := d - 1) (by omega) σ _ _ (by ((try simp only [vp_in_iff, Int32.lt_iff_toInt_lt, Int32.le_iff_toInt_le, ← Int32.toInt_inj, Int32.reduceToInt, n_1, n_2, n_8, Int32.toNatClampNeg, Int64.lt_iff_toInt_lt, Int64.le_iff_toInt_le, ← Int64.toInt_inj, Int64.reduceToInt, Int32.toInt_toInt64, lg_cmp_ge, lg_cmp_le, lg_cmp_gt, lg_cmp_lt, lg_cmp_eq, Bool.false_eq_true, Bool.true_eq_false, reduceCtorEq, false_iff, true_iff, iff_true, iff_false, and_true, true_and, and_false, false_and, reduceIte, ite_true, ite_false, eq_self] at *)) <;> omega)) (rfl) rfl rfl (zr (by omega)) mk_X12_rest ml_12_768 (Nat.le_of_ble_eq_true rfl) (fun x63 s62 hs62 => ?_)
                  obtain ⟨zs62, -⟩ := pL hs62
                  subst zs62
                  refine wa_lconst (v := 0) (by decide) ?_
                  refine wa_lcmp ?_
                  refine wa_top (fun v64 hv64 => ?_)
                  have tv64 := i_cmpT hv64
                  clear hv64
                  refine wa_if_ne o_X12_isSo_127 (by decide) (fun h65 => ?_) (fun h65 => ?_)
                  · refine wa_iconst (v := 0) (by decide) ?_
                    refine wa_zreturn false (rfl) rfl rfl ?_
                    exact ⟨_, rfl, rfl, trivial⟩
                  · refine wa_iconst (v := 1) (by decide) ?_
                    refine wa_goto o_X12_isSo_128 (by decide) ?_
                    refine wa_zreturn true (rfl) rfl rfl ?_
                    exact ⟨_, rfl, rfl, trivial⟩
            · refine wa_iload rfl ?_
              refine wa_iload_n (i := 2) rfl rfl ?_
              refine wa_icmp_gt o_X12_isSo_93 (by decide) (fun h66 => ?_) (fun h66 => ?_)
              · refine wa_iconst (v := 0) (by decide) ?_
                refine wa_zreturn false (rfl) rfl rfl ?_
                exact ⟨_, rfl, rfl, trivial⟩
              · refine wa_iconst (v := 1) (by decide) ?_
                refine wa_goto o_X12_isSo_94 (by decide) ?_
                refine wa_zreturn true (rfl) rfl rfl ?_
                exact ⟨_, rfl, rfl, trivial⟩
          · have mh55 := nle_mx h55
            refine wa_iload rfl ?_
            refine wa_iload_n (i := 3) rfl rfl ?_
            refine wa_iload rfl ?_
            refine wa_ishr ?_
            refine wa_top (fun v67 hv67 => ?_)
            clear hv67
            refine wa_iconst (v := 1) (by decide) ?_
            refine wa_iand ?_
            refine wa_top (fun v68 hv68 => ?_)
            have tv68 := i_andT hv68
            clear hv68
            refine wa_iconst (v := 1) (by decide) ?_
            refine wa_icmp_ne o_X12_isSo_64 (by decide) (fun h69 => ?_) (fun h69 => ?_)
            · refine wa_iconst (v := 0) (by decide) ?_
              refine wa_isub ?_
              refine wa_top (fun v70 hv70 => ?_)
              have tv70 := i_subT hv70
              clear hv70
              refine wa_istoreD (lv' := [(4, .int v70), (0, .ref 84), (1, .int a0), (2, .int a1), (3, .int a2), (5, .int v52), (6, .int l6)]) (by decide) rfl ?_
              refine wa_iinc (v := (1)) (lv' := fun y71 => [(6, .int y71), (4, .int v70), (0, .ref 84), (1, .int a0), (2, .int a1), (3, .int a2), (5, .int v52)]) (by decide) rfl (by decide) (fun _ => rfl) (fun y71 hy71 => ?_)
              have ty71 := i_addT hy71.symm
              clear hy71
              refine wa_goto o_X12_isSo_29 (by decide) ?_
              refine wa_pick [2, 3, 4, 5, 1, 6, 0] rfl ?_
              exact ih53 _ (by ((try simp only [vp_in_iff, Int32.lt_iff_toInt_lt, Int32.le_iff_toInt_le, ← Int32.toInt_inj, Int32.reduceToInt, n_1, n_2, n_8, Int32.toNatClampNeg, Int64.lt_iff_toInt_lt, Int64.le_iff_toInt_le, ← Int64.toInt_inj, Int64.reduceToInt, Int32.toInt_toInt64, lg_cmp_ge, lg_cmp_le, lg_cmp_gt, lg_cmp_lt, lg_cmp_eq, Bool.false_eq_true, Bool.true_eq_false, reduceCtorEq, false_iff, true_iff, iff_true, iff_false, and_true, true_and, and_false, false_and, reduceIte, ite_true, ite_false, eq_self] at *)) <;> omega) _ _ ⟨(by ((try simp only [vp_in_iff, Int32.lt_iff_toInt_lt, Int32.le_iff_toInt_le, ← Int32.toInt_inj, Int32.reduceToInt, n_1, n_2, n_8, Int32.toNatClampNeg, Int64.lt_iff_toInt_lt, Int64.le_iff_toInt_le, ← Int64.toInt_inj, Int64.reduceToInt, Int32.toInt_toInt64, lg_cmp_ge, lg_cmp_le, lg_cmp_gt, lg_cmp_lt, lg_cmp_eq, Bool.false_eq_true, Bool.true_eq_false, reduceCtorEq, false_iff, true_iff, iff_true, iff_false, and_true, true_and, and_false, false_and, reduceIte, ite_true, ite_false, eq_self] at *)) <;> omega), trivial⟩ rfl
            · refine wa_aload_n (i := 0) rfl rfl ?_
              refine wa_getr ck_12 fl_12_292 ly_84 rf_84_116 ?_
              refine wa_iconst (v := 4) (by decide) ?_
              refine wa_iload_n (i := 1) rfl rfl ?_
              refine wa_imul ?_
              refine wa_top (fun v72 hv72 => ?_)
              have tv72 := i_mulT hv72
              clear hv72
              refine wa_iload rfl ?_
              refine wa_iadd ?_
              refine wa_top (fun v73 hv73 => ?_)
              have tv73 := i_addT hv73
              clear hv73
              refine wa_iald ly_137 (by ((try simp only [vp_in_iff, Int32.lt_iff_toInt_lt, Int32.le_iff_toInt_le, ← Int32.toInt_inj, Int32.reduceToInt, n_1, n_2, n_8, Int32.toNatClampNeg, Int64.lt_iff_toInt_lt, Int64.le_iff_toInt_le, ← Int64.toInt_inj, Int64.reduceToInt, Int32.toInt_toInt64, lg_cmp_ge, lg_cmp_le, lg_cmp_gt, lg_cmp_lt, lg_cmp_eq, Bool.false_eq_true, Bool.true_eq_false, reduceCtorEq, false_iff, true_iff, iff_true, iff_false, and_true, true_and, and_false, false_and, reduceIte, ite_true, ite_false, eq_self] at *)) <;> omega) ?_
              refine wa_top (fun v74 hv74 => ?_)
              have rv74 : -20 ≤ v74.toInt ∧ v74.toInt ≤ 20 := by rw [← hv74]; exact ar_at A_137 _
              clear hv74
              refine wa_goto o_X12_isSo_65 (by decide) ?_
              refine wa_isub ?_
              refine wa_top (fun v75 hv75 => ?_)
              have tv75 := i_subT hv75
              clear hv75
              refine wa_istoreD (lv' := [(4, .int v75), (0, .ref 84), (1, .int a0), (2, .int a1), (3, .int a2), (5, .int v52), (6, .int l6)]) (by decide) rfl ?_
              refine wa_iinc (v := (1)) (lv' := fun y76 => [(6, .int y76), (4, .int v75), (0, .ref 84), (1, .int a0), (2, .int a1), (3, .int a2), (5, .int v52)]) (by decide) rfl (by decide) (fun _ => rfl) (fun y76 hy76 => ?_)
              have ty76 := i_addT hy76.symm
              clear hy76
              refine wa_goto o_X12_isSo_29 (by decide) ?_
              refine wa_pick [2, 3, 4, 5, 1, 6, 0] rfl ?_
              exact ih53 _ (by ((try simp only [vp_in_iff, Int32.lt_iff_toInt_lt, Int32.le_iff_toInt_le, ← Int32.toInt_inj, Int32.reduceToInt, n_1, n_2, n_8, Int32.toNatClampNeg, Int64.lt_iff_toInt_lt, Int64.le_iff_toInt_le, ← Int64.toInt_inj, Int64.reduceToInt, Int32.toInt_toInt64, lg_cmp_ge, lg_cmp_le, lg_cmp_gt, lg_cmp_lt, lg_cmp_eq, Bool.false_eq_true, Bool.true_eq_false, reduceCtorEq, false_iff, true_iff, iff_true, iff_false, and_true, true_and, and_false, false_and, reduceIte, ite_true, ite_false, eq_self] at *)) <;> omega) _ _ ⟨(by ((try simp only [vp_in_iff, Int32.lt_iff_toInt_lt, Int32.le_iff_toInt_le, ← Int32.toInt_inj, Int32.reduceToInt, n_1, n_2, n_8, Int32.toNatClampNeg, Int64.lt_iff_toInt_lt, Int64.le_iff_toInt_le, ← Int64.toInt_inj, Int64.reduceToInt, Int32.toInt_toInt64, lg_cmp_ge, lg_cmp_le, lg_cmp_gt, lg_cmp_lt, lg_cmp_eq, Bool.false_eq_true, Bool.true_eq_false, reduceCtorEq, false_iff, true_iff, iff_true, iff_false, and_true, true_and, and_false, false_and, reduceIte, ite_true, ite_false, eq_self] at *)) <;> omega), trivial⟩ rfl
      exact hi54 _ _ _ ⟨(by ((try simp only [vp_in_iff, Int32.lt_iff_toInt_lt, Int32.le_iff_toInt_le, ← Int32.toInt_inj, Int32.reduceToInt, n_1, n_2, n_8, Int32.toNatClampNeg, Int64.lt_iff_toInt_lt, Int64.le_iff_toInt_le, ← Int64.toInt_inj, Int64.reduceToInt, Int32.toInt_toInt64, lg_cmp_ge, lg_cmp_le, lg_cmp_gt, lg_cmp_lt, lg_cmp_eq, Bool.false_eq_true, Bool.true_eq_false, reduceCtorEq, false_iff, true_iff, iff_true, iff_false, and_true, true_and, and_false, false_and, reduceIte, ite_true, ite_false, eq_self] at *)) <;> omega), trivial⟩ rfl
set_option maxHeartbeats 4000000 in
theorem sp_X12_placeOf (G : kG9) {d : Nat} (hd : 0 ≤ d) (σ : St) (r1 : (gi σ 84 119).toInt ≤ 32) (r2 : 0 ≤ (gi σ 84 129).toInt ∧ (gi σ 84 129).toInt ≤ 3000) (P_CHA : CHA σ) (P_HDS : HDS σ) (P_DI : DI σ) (P_DV : DV σ) : Ct G M_X12_placeOf d [.ref 84] σ (fun r σ' => ∃ x : Int32, r = some (.int x) ∧ Fm [126, 127, 129] [129] σ σ' ∧ (0 ≤ x.toInt ∧ x.toInt ≤ 3000) ∧ (0 ≤ (gi σ' 84 129).toInt ∧ (gi σ' 84 129).toInt ≤ 3000) ∧ CHA σ' ∧ HDS σ' ∧ DV σ' ∧ True) := by
  refine wa_start (by decide) rfl (Nat.le_of_ble_eq_true rfl) (lv := [(0, .ref 84)]) rfl o_X12_placeOf_0 rfl ?_
  refine wa_bipush (v := 17) (by decide) ?_
  refine wa_istore_nD (lv' := [(1, .int 17), (0, .ref 84)]) (i := 1) rfl (by decide) rfl ?_
  refine wa_iconst (v := 0) (by decide) ?_
  refine wa_istore_nD (lv' := [(2, .int 0), (1, .int 17), (0, .ref 84)]) (i := 2) rfl (by decide) rfl ?_
  refine wa_pick [2, 1, 0] rfl ?_
  have hi2 : ∀ (n9_5 : Nat) (l1 : Int32) (l2 : Int32), ((0 ≤ l2.toInt) ∧ (True)) → (2147483647 - l2.toInt).toNat = n9_5 → WA G M_X12_placeOf (ZM G M_X12_placeOf d (fun r σ' => ∃ x : Int32, r = some (.int x) ∧ Fm [126, 127, 129] [129] σ σ' ∧ (0 ≤ x.toInt ∧ x.toInt ≤ 3000) ∧ (0 ≤ (gi σ' 84 129).toInt ∧ (gi σ' 84 129).toInt ≤ 3000) ∧ CHA σ' ∧ HDS σ' ∧ DV σ' ∧ True)) B_X12_placeOf_5 [(0, .ref 84), (1, .int l1), (2, .int l2)] [] σ := by
    intro n9_5
    induction n9_5 using Nat.strongRecOn with
    | _ n9_5 ih1 =>
      intro l1 l2  i9 m9_5
      obtain ⟨jhi2_0, -⟩ := i9
      have ul1 := Int32.toInt_lt l1
      have wl1 := Int32.le_toInt l1
      have ul2 := Int32.toInt_lt l2
      have wl2 := Int32.le_toInt l2
      refine wa_iload_n (i := 2) rfl rfl ?_
      refine wa_aload_n (i := 0) rfl rfl ?_
      refine wa_geti ck_12 fl_12_928 ly_84 ?_
      refine wa_icmp_ge o_X12_placeOf_39 (by decide) (fun h3 => ?_) (fun h3 => ?_)
      · refine wa_iload_n (i := 1) rfl rfl ?_
        refine wa_sipush (v := 32767) (by decide) ?_
        refine wa_iand ?_
        refine wa_top (fun v4 hv4 => ?_)
        have tv4 := i_andT hv4
        clear hv4
        refine wa_istore_nD (lv' := [(1, .int v4), (0, .ref 84), (2, .int l2)]) (i := 1) rfl (by decide) rfl ?_
        refine wa_aload_n (i := 0) rfl rfl ?_
        refine wa_getr ck_12 fl_12_325 ly_84 rf_84_127 ?_
        refine wa_iload_n (i := 1) rfl rfl ?_
        refine wa_iald ly_127 (by ((try simp only [vp_in_iff, Int32.lt_iff_toInt_lt, Int32.le_iff_toInt_le, ← Int32.toInt_inj, Int32.reduceToInt, n_1, n_2, n_8, Int32.toNatClampNeg, Int64.lt_iff_toInt_lt, Int64.le_iff_toInt_le, ← Int64.toInt_inj, Int64.reduceToInt, Int32.toInt_toInt64, lg_cmp_ge, lg_cmp_le, lg_cmp_gt, lg_cmp_lt, lg_cmp_eq, Bool.false_eq_true, Bool.true_eq_false, reduceCtorEq, false_iff, true_iff, iff_true, iff_false, and_true, true_and, and_false, false_and, reduceIte, ite_true, ite_false, eq_self] at *)) <;> omega) ?_
        refine wa_top (fun v5 hv5 => ?_)
        have rv5 := hds_at P_HDS hv5 (by ((try simp only [vp_in_iff, Int32.lt_iff_toInt_lt, Int32.le_iff_toInt_le, ← Int32.toInt_inj, Int32.reduceToInt, n_1, n_2, n_8, Int32.toNatClampNeg, Int64.lt_iff_toInt_lt, Int64.le_iff_toInt_le, ← Int64.toInt_inj, Int64.reduceToInt, Int32.toInt_toInt64, lg_cmp_ge, lg_cmp_le, lg_cmp_gt, lg_cmp_lt, lg_cmp_eq, Bool.false_eq_true, Bool.true_eq_false, reduceCtorEq, false_iff, true_iff, iff_true, iff_false, and_true, true_and, and_false, false_and, reduceIte, ite_true, ite_false, eq_self] at *)) <;> omega)
        have qv5 := hv5
        clear hv5
        refine wa_istore_nD (lv' := [(2, .int v5), (1, .int v4), (0, .ref 84)]) (i := 2) rfl (by decide) rfl ?_
        refine wa_pick [2, 1, 0] rfl ?_
        have hi7 : ∀ (n9_52 : Nat) (l2 : Int32), ((-1 ≤ l2.toInt) ∧ (l2.toInt < (gi σ 84 129).toInt) ∧ (True)) → (l2.toInt + 1).toNat = n9_52 → WA G M_X12_placeOf (ZM G M_X12_placeOf d (fun r σ' => ∃ x : Int32, r = some (.int x) ∧ Fm [126, 127, 129] [129] σ σ' ∧ (0 ≤ x.toInt ∧ x.toInt ≤ 3000) ∧ (0 ≤ (gi σ' 84 129).toInt ∧ (gi σ' 84 129).toInt ≤ 3000) ∧ CHA σ' ∧ HDS σ' ∧ DV σ' ∧ True)) B_X12_placeOf_52 [(0, .ref 84), (1, .int v4), (2, .int l2)] [] σ := by
          intro n9_52
          induction n9_52 using Nat.strongRecOn with
          | _ n9_52 ih6 =>
            intro l2  i9 m9_52
            obtain ⟨jhi7_0, jhi7_1, -⟩ := i9
            have ul2 := Int32.toInt_lt l2
            have wl2 := Int32.le_toInt l2
            refine wa_iload_n (i := 2) rfl rfl ?_
            refine wa_iconst (v := (-1)) (by decide) ?_
            refine wa_icmp_eq o_X12_placeOf_125 (by decide) (fun h8 => ?_) (fun h8 => ?_)
            · refine wa_aload_n (i := 0) rfl rfl ?_
              refine wa_geti ck_12 fl_12_957 ly_84 ?_
              refine wa_sipush (v := 3000) (by decide) ?_
              refine wa_icmp_ne o_X12_placeOf_139 (by decide) (fun h9 => ?_) (fun h9 => ?_)
              · refine wa_iconst (v := 0) (by decide) ?_
                refine wa_istore_nD (lv' := [(2, .int 0), (0, .ref 84), (1, .int v4)]) (i := 2) rfl (by decide) rfl ?_
                refine wa_pick [1, 2, 0] rfl ?_
                have hi12 : ∀ (n9_141 : Nat) (l2 : Int32) (s10 : St), ((Fm [126, 127, 129] [129] σ s10) ∧ (gi s10 84 119 = gi σ 84 119) ∧ (gi s10 84 129 = gi σ 84 129) ∧ (CHA s10) ∧ (HDS s10) ∧ (DV s10) ∧ (0 ≤ l2.toInt) ∧ (∀ k : Nat, (k : Int) < l2.toInt → gi s10 129 (32 * (gi s10 84 129).toInt.toNat + k) = gi s10 125 k) ∧ (True)) → (2147483647 - l2.toInt).toNat = n9_141 → WA G M_X12_placeOf (ZM G M_X12_placeOf d (fun r σ' => ∃ x : Int32, r = some (.int x) ∧ Fm [126, 127, 129] [129] σ σ' ∧ (0 ≤ x.toInt ∧ x.toInt ≤ 3000) ∧ (0 ≤ (gi σ' 84 129).toInt ∧ (gi σ' 84 129).toInt ≤ 3000) ∧ CHA σ' ∧ HDS σ' ∧ DV σ' ∧ True)) B_X12_placeOf_141 [(0, .ref 84), (1, .int v4), (2, .int l2)] [] s10 := by
                  intro n9_141
                  induction n9_141 using Nat.strongRecOn with
                  | _ n9_141 ih11 =>
                    intro l2 s10 i9 m9_141
                    obtain ⟨Fs10, khi12_0, khi12_1, Ps10_CHA, Ps10_HDS, Ps10_DV, jhi12_0, jhi12_1, -⟩ := i9
                    have ul2 := Int32.toInt_lt l2
                    have wl2 := Int32.le_toInt l2
                    refine wa_iload_n (i := 2) rfl rfl ?_
                    refine wa_aload_n (i := 0) rfl rfl ?_
                    refine wa_geti ck_12 fl_12_928 ly_84 ?_
                    refine wa_rw (khi12_0) ?_
                    refine wa_icmp_ge o_X12_placeOf_175 (by decide) (fun h13 => ?_) (fun h13 => ?_)
                    · refine wa_aload_n (i := 0) rfl rfl ?_
                      refine wa_getr ck_12 fl_12_328 ly_84 rf_84_128 ?_
                      refine wa_aload_n (i := 0) rfl rfl ?_
                      refine wa_geti ck_12 fl_12_957 ly_84 ?_
                      refine wa_rw (khi12_1) ?_
                      refine wa_aload_n (i := 0) rfl rfl ?_
                      refine wa_getr ck_12 fl_12_325 ly_84 rf_84_127 ?_
                      refine wa_iload_n (i := 1) rfl rfl ?_
                      refine wa_iald ly_127 (by ((try simp only [vp_in_iff, Int32.lt_iff_toInt_lt, Int32.le_iff_toInt_le, ← Int32.toInt_inj, Int32.reduceToInt, n_1, n_2, n_8, Int32.toNatClampNeg, Int64.lt_iff_toInt_lt, Int64.le_iff_toInt_le, ← Int64.toInt_inj, Int64.reduceToInt, Int32.toInt_toInt64, lg_cmp_ge, lg_cmp_le, lg_cmp_gt, lg_cmp_lt, lg_cmp_eq, Bool.false_eq_true, Bool.true_eq_false, reduceCtorEq, false_iff, true_iff, iff_true, iff_false, and_true, true_and, and_false, false_and, reduceIte, ite_true, ite_false, eq_self] at *)) <;> omega) ?_
                      refine wa_top (fun v14 hv14 => ?_)
                      have rv14 := hds_at Ps10_HDS hv14 (by ((try simp only [vp_in_iff, Int32.lt_iff_toInt_lt, Int32.le_iff_toInt_le, ← Int32.toInt_inj, Int32.reduceToInt, n_1, n_2, n_8, Int32.toNatClampNeg, Int64.lt_iff_toInt_lt, Int64.le_iff_toInt_le, ← Int64.toInt_inj, Int64.reduceToInt, Int32.toInt_toInt64, lg_cmp_ge, lg_cmp_le, lg_cmp_gt, lg_cmp_lt, lg_cmp_eq, Bool.false_eq_true, Bool.true_eq_false, reduceCtorEq, false_iff, true_iff, iff_true, iff_false, and_true, true_and, and_false, false_and, reduceIte, ite_true, ite_false, eq_self] at *)) <;> omega)
                      have qv14 := hv14
                      clear hv14
                      refine wa_iast ly_126 (by ((try simp only [vp_in_iff, Int32.lt_iff_toInt_lt, Int32.le_iff_toInt_le, ← Int32.toInt_inj, Int32.reduceToInt, n_1, n_2, n_8, Int32.toNatClampNeg, Int64.lt_iff_toInt_lt, Int64.le_iff_toInt_le, ← Int64.toInt_inj, Int64.reduceToInt, Int32.toInt_toInt64, lg_cmp_ge, lg_cmp_le, lg_cmp_gt, lg_cmp_lt, lg_cmp_eq, Bool.false_eq_true, Bool.true_eq_false, reduceCtorEq, false_iff, true_iff, iff_true, iff_false, and_true, true_and, and_false, false_and, reduceIte, ite_true, ite_false, eq_self] at *)) <;> omega) (fun s15 hs15 => ?_)
                      have Fs15 : Fm [126, 127, 129] [129] σ s15 := by rw [hs15]; exact Fm.si Fs10 rfl
                      refine wa_aload_n (i := 0) rfl rfl ?_
                      refine wa_getr ck_12 fl_12_325 ly_84 rf_84_127 ?_
                      refine wa_iload_n (i := 1) rfl rfl ?_
                      refine wa_aload_n (i := 0) rfl rfl ?_
                      refine wa_geti ck_12 fl_12_957 ly_84 ?_
                      refine wa_rw ((nxq_gi_si hs15 (by decide)).trans (khi12_1)) ?_
                      refine wa_iast ly_127 (by ((try simp only [vp_in_iff, Int32.lt_iff_toInt_lt, Int32.le_iff_toInt_le, ← Int32.toInt_inj, Int32.reduceToInt, n_1, n_2, n_8, Int32.toNatClampNeg, Int64.lt_iff_toInt_lt, Int64.le_iff_toInt_le, ← Int64.toInt_inj, Int64.reduceToInt, Int32.toInt_toInt64, lg_cmp_ge, lg_cmp_le, lg_cmp_gt, lg_cmp_lt, lg_cmp_eq, Bool.false_eq_true, Bool.true_eq_false, reduceCtorEq, false_iff, true_iff, iff_true, iff_false, and_true, true_and, and_false, false_and, reduceIte, ite_true, ite_false, eq_self] at *)) <;> omega) (fun s16 hs16 => ?_)
                      have Fs16 : Fm [126, 127, 129] [129] σ s16 := by rw [hs16]; exact Fm.si Fs15 rfl
                      refine wa_aload_n (i := 0) rfl rfl ?_
                      refine wa_dup rfl ?_
                      refine wa_geti ck_12 fl_12_957 ly_84 ?_
                      refine wa_rw ((nxq_gi_si hs16 (by decide)).trans ((nxq_gi_si hs15 (by decide)).trans (khi12_1))) ?_
                      refine wa_iconst (v := 1) (by decide) ?_
                      refine wa_iadd ?_
                      refine wa_top (fun v17 hv17 => ?_)
                      have tv17 := i_addT hv17
                      clear hv17
                      refine wa_puti ck_12 fl_12_957 ly_84 (fun s18 hs18 => ?_)
                      have Fs18 : Fm [126, 127, 129] [129] σ s18 := by rw [hs18]; exact Fm.si Fs16 rfl
                      have Pq := cha_add hs15 hs16 hs18 Ps10_CHA Ps10_HDS (by ((try simp only [vp_in_iff, Int32.lt_iff_toInt_lt, Int32.le_iff_toInt_le, ← Int32.toInt_inj, Int32.reduceToInt, n_1, n_2, n_8, Int32.toNatClampNeg, Int64.lt_iff_toInt_lt, Int64.le_iff_toInt_le, ← Int64.toInt_inj, Int64.reduceToInt, Int32.toInt_toInt64, lg_cmp_ge, lg_cmp_le, lg_cmp_gt, lg_cmp_lt, lg_cmp_eq, Bool.false_eq_true, Bool.true_eq_false, reduceCtorEq, false_iff, true_iff, iff_true, iff_false, and_true, true_and, and_false, false_and, reduceIte, ite_true, ite_false, eq_self] at *)) <;> omega) (Eq.symm (by assumption)) (by ((try simp only [vp_in_iff, Int32.lt_iff_toInt_lt, Int32.le_iff_toInt_le, ← Int32.toInt_inj, Int32.reduceToInt, n_1, n_2, n_8, Int32.toNatClampNeg, Int64.lt_iff_toInt_lt, Int64.le_iff_toInt_le, ← Int64.toInt_inj, Int64.reduceToInt, Int32.toInt_toInt64, lg_cmp_ge, lg_cmp_le, lg_cmp_gt, lg_cmp_lt, lg_cmp_eq, Bool.false_eq_true, Bool.true_eq_false, reduceCtorEq, false_iff, true_iff, iff_true, iff_false, and_true, true_and, and_false, false_and, reduceIte, ite_true, ite_false, eq_self] at *)) <;> omega) ((khi12_1)).symm (by ((try simp only [vp_in_iff, Int32.lt_iff_toInt_lt, Int32.le_iff_toInt_le, ← Int32.toInt_inj, Int32.reduceToInt, n_1, n_2, n_8, Int32.toNatClampNeg, Int64.lt_iff_toInt_lt, Int64.le_iff_toInt_le, ← Int64.toInt_inj, Int64.reduceToInt, Int32.toInt_toInt64, lg_cmp_ge, lg_cmp_le, lg_cmp_gt, lg_cmp_lt, lg_cmp_eq, Bool.false_eq_true, Bool.true_eq_false, reduceCtorEq, false_iff, true_iff, iff_true, iff_false, and_true, true_and, and_false, false_and, reduceIte, ite_true, ite_false, eq_self] at *)) <;> omega)
                      have Ps18_CHA := Pq.1
                      have Ps18_HDS := Pq.2
                      have Ps18_DV := dv_add hs15 hs16 hs18 Ps10_DV (DI_of (fun k => Fm.gi Fs10 (q := 125) (k := k) rfl rfl) (fun k => Fm.gi Fs10 (q := 135) (k := k) rfl rfl) (Fm.gi Fs10 (q := 84) (k := 119) rfl rfl) P_DI) (by ((try simp only [vp_in_iff, Int32.lt_iff_toInt_lt, Int32.le_iff_toInt_le, ← Int32.toInt_inj, Int32.reduceToInt, n_1, n_2, n_8, Int32.toNatClampNeg, Int64.lt_iff_toInt_lt, Int64.le_iff_toInt_le, ← Int64.toInt_inj, Int64.reduceToInt, Int32.toInt_toInt64, lg_cmp_ge, lg_cmp_le, lg_cmp_gt, lg_cmp_lt, lg_cmp_eq, Bool.false_eq_true, Bool.true_eq_false, reduceCtorEq, false_iff, true_iff, iff_true, iff_false, and_true, true_and, and_false, false_and, reduceIte, ite_true, ite_false, eq_self] at *)) <;> omega) (by ((try simp only [vp_in_iff, Int32.lt_iff_toInt_lt, Int32.le_iff_toInt_le, ← Int32.toInt_inj, Int32.reduceToInt, n_1, n_2, n_8, Int32.toNatClampNeg, Int64.lt_iff_toInt_lt, Int64.le_iff_toInt_le, ← Int64.toInt_inj, Int64.reduceToInt, Int32.toInt_toInt64, lg_cmp_ge, lg_cmp_le, lg_cmp_gt, lg_cmp_lt, lg_cmp_eq, Bool.false_eq_true, Bool.true_eq_false, reduceCtorEq, false_iff, true_iff, iff_true, iff_false, and_true, true_and, and_false, false_and, reduceIte, ite_true, ite_false, eq_self] at *)) <;> omega) (by intro k hk; refine ‹∀ k : Nat, _ → gi _ 129 _ = gi _ 125 k› k ?_; ((try simp only [vp_in_iff, Int32.lt_iff_toInt_lt, Int32.le_iff_toInt_le, ← Int32.toInt_inj, Int32.reduceToInt, n_1, n_2, n_8, Int32.toNatClampNeg, Int64.lt_iff_toInt_lt, Int64.le_iff_toInt_le, ← Int64.toInt_inj, Int64.reduceToInt, Int32.toInt_toInt64, lg_cmp_ge, lg_cmp_le, lg_cmp_gt, lg_cmp_lt, lg_cmp_eq, Bool.false_eq_true, Bool.true_eq_false, reduceCtorEq, false_iff, true_iff, iff_true, iff_false, and_true, true_and, and_false, false_and, reduceIte, ite_true, ite_false, eq_self] at *)) <;> omega)
                      refine wa_aload_n (i := 0) rfl rfl ?_
                      refine wa_geti ck_12 fl_12_957 ly_84 ?_
                      refine wa_rw (nxe_gi_si hs18) ?_
                      refine wa_iconst (v := 1) (by decide) ?_
                      refine wa_isub ?_
                      refine wa_top (fun v19 hv19 => ?_)
                      have tv19 := i_subT hv19
                      clear hv19
                      refine wa_ireturn rfl rfl ?_
                      exact ⟨_, rfl, Fs18, (by ((try simp only [vp_in_iff, Int32.lt_iff_toInt_lt, Int32.le_iff_toInt_le, ← Int32.toInt_inj, Int32.reduceToInt, n_1, n_2, n_8, Int32.toNatClampNeg, Int64.lt_iff_toInt_lt, Int64.le_iff_toInt_le, ← Int64.toInt_inj, Int64.reduceToInt, Int32.toInt_toInt64, lg_cmp_ge, lg_cmp_le, lg_cmp_gt, lg_cmp_lt, lg_cmp_eq, Bool.false_eq_true, Bool.true_eq_false, reduceCtorEq, false_iff, true_iff, iff_true, iff_false, and_true, true_and, and_false, false_and, reduceIte, ite_true, ite_false, eq_self] at *)) <;> omega), (by rw [nxe_gi_si hs18]; first | assumption | (((try simp only [vp_in_iff, Int32.lt_iff_toInt_lt, Int32.le_iff_toInt_le, ← Int32.toInt_inj, Int32.reduceToInt, n_1, n_2, n_8, Int32.toNatClampNeg, Int64.lt_iff_toInt_lt, Int64.le_iff_toInt_le, ← Int64.toInt_inj, Int64.reduceToInt, Int32.toInt_toInt64, lg_cmp_ge, lg_cmp_le, lg_cmp_gt, lg_cmp_lt, lg_cmp_eq, Bool.false_eq_true, Bool.true_eq_false, reduceCtorEq, false_iff, true_iff, iff_true, iff_false, and_true, true_and, and_false, false_and, reduceIte, ite_true, ite_false, eq_self] at *)) <;> omega)), Ps18_CHA, Ps18_HDS, Ps18_DV, trivial⟩
                    · have mh13 := nle_mx h13
                      refine wa_aload_n (i := 0) rfl rfl ?_
                      refine wa_getr ck_12 fl_12_317 ly_84 rf_84_125 ?_
                      refine wa_bipush (v := 32) (by decide) ?_
                      refine wa_aload_n (i := 0) rfl rfl ?_
                      refine wa_geti ck_12 fl_12_957 ly_84 ?_
                      refine wa_rw (khi12_1) ?_
                      refine wa_imul ?_
                      refine wa_top (fun v20 hv20 => ?_)
                      have tv20 := i_mulT hv20
                      clear hv20
                      refine wa_iload_n (i := 2) rfl rfl ?_
                      refine wa_iadd ?_
                      refine wa_top (fun v21 hv21 => ?_)
                      have tv21 := i_addT hv21
                      clear hv21
                      refine wa_aload_n (i := 0) rfl rfl ?_
                      refine wa_getr ck_12 fl_12_331 ly_84 rf_84_130 ?_
                      refine wa_iload_n (i := 2) rfl rfl ?_
                      refine wa_iald ly_125 (by ((try simp only [vp_in_iff, Int32.lt_iff_toInt_lt, Int32.le_iff_toInt_le, ← Int32.toInt_inj, Int32.reduceToInt, n_1, n_2, n_8, Int32.toNatClampNeg, Int64.lt_iff_toInt_lt, Int64.le_iff_toInt_le, ← Int64.toInt_inj, Int64.reduceToInt, Int32.toInt_toInt64, lg_cmp_ge, lg_cmp_le, lg_cmp_gt, lg_cmp_lt, lg_cmp_eq, Bool.false_eq_true, Bool.true_eq_false, reduceCtorEq, false_iff, true_iff, iff_true, iff_false, and_true, true_and, and_false, false_and, reduceIte, ite_true, ite_false, eq_self] at *)) <;> omega) ?_
                      refine wa_iast ly_129 (by ((try simp only [vp_in_iff, Int32.lt_iff_toInt_lt, Int32.le_iff_toInt_le, ← Int32.toInt_inj, Int32.reduceToInt, n_1, n_2, n_8, Int32.toNatClampNeg, Int64.lt_iff_toInt_lt, Int64.le_iff_toInt_le, ← Int64.toInt_inj, Int64.reduceToInt, Int32.toInt_toInt64, lg_cmp_ge, lg_cmp_le, lg_cmp_gt, lg_cmp_lt, lg_cmp_eq, Bool.false_eq_true, Bool.true_eq_false, reduceCtorEq, false_iff, true_iff, iff_true, iff_false, and_true, true_and, and_false, false_and, reduceIte, ite_true, ite_false, eq_self] at *)) <;> omega) (fun s22 hs22 => ?_)
                      have Fs22 : Fm [126, 127, 129] [129] σ s22 := by rw [hs22]; exact Fm.si Fs10 rfl
                      have Ps22_DV := dv_w hs22 Ps10_DV (by ((try simp only [vp_in_iff, Int32.lt_iff_toInt_lt, Int32.le_iff_toInt_le, ← Int32.toInt_inj, Int32.reduceToInt, n_1, n_2, n_8, Int32.toNatClampNeg, Int64.lt_iff_toInt_lt, Int64.le_iff_toInt_le, ← Int64.toInt_inj, Int64.reduceToInt, Int32.toInt_toInt64, lg_cmp_ge, lg_cmp_le, lg_cmp_gt, lg_cmp_lt, lg_cmp_eq, Bool.false_eq_true, Bool.true_eq_false, reduceCtorEq, false_iff, true_iff, iff_true, iff_false, and_true, true_and, and_false, false_and, reduceIte, ite_true, ite_false, eq_self] at *)) <;> omega)
                      refine wa_iinc (v := (1)) (lv' := fun y23 => [(2, .int y23), (0, .ref 84), (1, .int v4)]) (by decide) rfl (by decide) (fun _ => rfl) (fun y23 hy23 => ?_)
                      have ty23 := i_addT hy23.symm
                      clear hy23
                      refine wa_goto o_X12_placeOf_141 (by decide) ?_
                      refine wa_pick [1, 2, 0] rfl ?_
                      exact ih11 _ (by ((try simp only [vp_in_iff, Int32.lt_iff_toInt_lt, Int32.le_iff_toInt_le, ← Int32.toInt_inj, Int32.reduceToInt, n_1, n_2, n_8, Int32.toNatClampNeg, Int64.lt_iff_toInt_lt, Int64.le_iff_toInt_le, ← Int64.toInt_inj, Int64.reduceToInt, Int32.toInt_toInt64, lg_cmp_ge, lg_cmp_le, lg_cmp_gt, lg_cmp_lt, lg_cmp_eq, Bool.false_eq_true, Bool.true_eq_false, reduceCtorEq, false_iff, true_iff, iff_true, iff_false, and_true, true_and, and_false, false_and, reduceIte, ite_true, ite_false, eq_self] at *)) <;> omega) _ _ ⟨Fs22, ((nxq_gi_si hs22 (by decide)).trans (khi12_0)), ((nxq_gi_si hs22 (by decide)).trans (khi12_1)), (CHA_of (fun k => nxq_gi_si hs22 (by decide)) (nxq_gi_si hs22 (by decide)) Ps10_CHA), (HDS_of (fun k => nxq_gi_si hs22 (by decide)) (nxq_gi_si hs22 (by decide)) Ps10_HDS), Ps22_DV, (by ((try simp only [vp_in_iff, Int32.lt_iff_toInt_lt, Int32.le_iff_toInt_le, ← Int32.toInt_inj, Int32.reduceToInt, n_1, n_2, n_8, Int32.toNatClampNeg, Int64.lt_iff_toInt_lt, Int64.le_iff_toInt_le, ← Int64.toInt_inj, Int64.reduceToInt, Int32.toInt_toInt64, lg_cmp_ge, lg_cmp_le, lg_cmp_gt, lg_cmp_lt, lg_cmp_eq, Bool.false_eq_true, Bool.true_eq_false, reduceCtorEq, false_iff, true_iff, iff_true, iff_false, and_true, true_and, and_false, false_and, reduceIte, ite_true, ite_false, eq_self] at *)) <;> omega), (by first | exact row_w hs22 (by ((try simp only [vp_in_iff, Int32.lt_iff_toInt_lt, Int32.le_iff_toInt_le, ← Int32.toInt_inj, Int32.reduceToInt, n_1, n_2, n_8, Int32.toNatClampNeg, Int64.lt_iff_toInt_lt, Int64.le_iff_toInt_le, ← Int64.toInt_inj, Int64.reduceToInt, Int32.toInt_toInt64, lg_cmp_ge, lg_cmp_le, lg_cmp_gt, lg_cmp_lt, lg_cmp_eq, Bool.false_eq_true, Bool.true_eq_false, reduceCtorEq, false_iff, true_iff, iff_true, iff_false, and_true, true_and, and_false, false_and, reduceIte, ite_true, ite_false, eq_self] at *)) <;> omega) (by ((try simp only [vp_in_iff, Int32.lt_iff_toInt_lt, Int32.le_iff_toInt_le, ← Int32.toInt_inj, Int32.reduceToInt, n_1, n_2, n_8, Int32.toNatClampNeg, Int64.lt_iff_toInt_lt, Int64.le_iff_toInt_le, ← Int64.toInt_inj, Int64.reduceToInt, Int32.toInt_toInt64, lg_cmp_ge, lg_cmp_le, lg_cmp_gt, lg_cmp_lt, lg_cmp_eq, Bool.false_eq_true, Bool.true_eq_false, reduceCtorEq, false_iff, true_iff, iff_true, iff_false, and_true, true_and, and_false, false_and, reduceIte, ite_true, ite_false, eq_self] at *)) <;> omega) (by ((try simp only [vp_in_iff, Int32.lt_iff_toInt_lt, Int32.le_iff_toInt_le, ← Int32.toInt_inj, Int32.reduceToInt, n_1, n_2, n_8, Int32.toNatClampNeg, Int64.lt_iff_toInt_lt, Int64.le_iff_toInt_le, ← Int64.toInt_inj, Int64.reduceToInt, Int32.toInt_toInt64, lg_cmp_ge, lg_cmp_le, lg_cmp_gt, lg_cmp_lt, lg_cmp_eq, Bool.false_eq_true, Bool.true_eq_false, reduceCtorEq, false_iff, true_iff, iff_true, iff_false, and_true, true_and, and_false, false_and, reduceIte, ite_true, ite_false, eq_self] at *)) <;> omega) (by ((try simp only [vp_in_iff, Int32.lt_iff_toInt_lt, Int32.le_iff_toInt_le, ← Int32.toInt_inj, Int32.reduceToInt, n_1, n_2, n_8, Int32.toNatClampNeg, Int64.lt_iff_toInt_lt, Int64.le_iff_toInt_le, ← Int64.toInt_inj, Int64.reduceToInt, Int32.toInt_toInt64, lg_cmp_ge, lg_cmp_le, lg_cmp_gt, lg_cmp_lt, lg_cmp_eq, Bool.false_eq_true, Bool.true_eq_false, reduceCtorEq, false_iff, true_iff, iff_true, iff_false, and_true, true_and, and_false, false_and, reduceIte, ite_true, ite_false, eq_self] at *)) <;> omega) rfl (by assumption) | (intro k hk; simp only [Int32.reduceToInt] at hk; omega)), trivial⟩ rfl
                exact hi12 _ _ _ ⟨(Fm.rf [126, 127, 129] [129] σ), (rfl), (rfl), P_CHA, P_HDS, P_DV, (by ((try simp only [vp_in_iff, Int32.lt_iff_toInt_lt, Int32.le_iff_toInt_le, ← Int32.toInt_inj, Int32.reduceToInt, n_1, n_2, n_8, Int32.toNatClampNeg, Int64.lt_iff_toInt_lt, Int64.le_iff_toInt_le, ← Int64.toInt_inj, Int64.reduceToInt, Int32.toInt_toInt64, lg_cmp_ge, lg_cmp_le, lg_cmp_gt, lg_cmp_lt, lg_cmp_eq, Bool.false_eq_true, Bool.true_eq_false, reduceCtorEq, false_iff, true_iff, iff_true, iff_false, and_true, true_and, and_false, false_and, reduceIte, ite_true, ite_false, eq_self] at *)) <;> omega), (by first | exact row_w hσ (by ((try simp only [vp_in_iff, Int32.lt_iff_toInt_lt, Int32.le_iff_toInt_le, ← Int32.toInt_inj, Int32.reduceToInt, n_1, n_2, n_8, Int32.toNatClampNeg, Int64.lt_iff_toInt_lt, Int64.le_iff_toInt_le, ← Int64.toInt_inj, Int64.reduceToInt, Int32.toInt_toInt64, lg_cmp_ge, lg_cmp_le, lg_cmp_gt, lg_cmp_lt, lg_cmp_eq, Bool.false_eq_true, Bool.true_eq_false, reduceCtorEq, false_iff, true_iff, iff_true, iff_false, and_true, true_and, and_false, false_and, reduceIte, ite_true, ite_false, eq_self] at *)) <;> omega) (by ((try simp only [vp_in_iff, Int32.lt_iff_toInt_lt, Int32.le_iff_toInt_le, ← Int32.toInt_inj, Int32.reduceToInt, n_1, n_2, n_8, Int32.toNatClampNeg, Int64.lt_iff_toInt_lt, Int64.le_iff_toInt_le, ← Int64.toInt_inj, Int64.reduceToInt, Int32.toInt_toInt64, lg_cmp_ge, lg_cmp_le, lg_cmp_gt, lg_cmp_lt, lg_cmp_eq, Bool.false_eq_true, Bool.true_eq_false, reduceCtorEq, false_iff, true_iff, iff_true, iff_false, and_true, true_and, and_false, false_and, reduceIte, ite_true, ite_false, eq_self] at *)) <;> omega) (by ((try simp only [vp_in_iff, Int32.lt_iff_toInt_lt, Int32.le_iff_toInt_le, ← Int32.toInt_inj, Int32.reduceToInt, n_1, n_2, n_8, Int32.toNatClampNeg, Int64.lt_iff_toInt_lt, Int64.le_iff_toInt_le, ← Int64.toInt_inj, Int64.reduceToInt, Int32.toInt_toInt64, lg_cmp_ge, lg_cmp_le, lg_cmp_gt, lg_cmp_lt, lg_cmp_eq, Bool.false_eq_true, Bool.true_eq_false, reduceCtorEq, false_iff, true_iff, iff_true, iff_false, and_true, true_and, and_false, false_and, reduceIte, ite_true, ite_false, eq_self] at *)) <;> omega) (by ((try simp only [vp_in_iff, Int32.lt_iff_toInt_lt, Int32.le_iff_toInt_le, ← Int32.toInt_inj, Int32.reduceToInt, n_1, n_2, n_8, Int32.toNatClampNeg, Int64.lt_iff_toInt_lt, Int64.le_iff_toInt_le, ← Int64.toInt_inj, Int64.reduceToInt, Int32.toInt_toInt64, lg_cmp_ge, lg_cmp_le, lg_cmp_gt, lg_cmp_lt, lg_cmp_eq, Bool.false_eq_true, Bool.true_eq_false, reduceCtorEq, false_iff, true_iff, iff_true, iff_false, and_true, true_and, and_false, false_and, reduceIte, ite_true, ite_false, eq_self] at *)) <;> omega) rfl (by assumption) | (intro k hk; simp only [Int32.reduceToInt] at hk; omega)), trivial⟩ rfl
              · refine wa_sipush (v := 3000) (by decide) ?_
                refine wa_ireturn rfl rfl ?_
                exact ⟨_, rfl, (Fm.rf [126, 127, 129] [129] σ), (by ((try simp only [vp_in_iff, Int32.lt_iff_toInt_lt, Int32.le_iff_toInt_le, ← Int32.toInt_inj, Int32.reduceToInt, n_1, n_2, n_8, Int32.toNatClampNeg, Int64.lt_iff_toInt_lt, Int64.le_iff_toInt_le, ← Int64.toInt_inj, Int64.reduceToInt, Int32.toInt_toInt64, lg_cmp_ge, lg_cmp_le, lg_cmp_gt, lg_cmp_lt, lg_cmp_eq, Bool.false_eq_true, Bool.true_eq_false, reduceCtorEq, false_iff, true_iff, iff_true, iff_false, and_true, true_and, and_false, false_and, reduceIte, ite_true, ite_false, eq_self] at *)) <;> omega), (by first | assumption | (((try simp only [vp_in_iff, Int32.lt_iff_toInt_lt, Int32.le_iff_toInt_le, ← Int32.toInt_inj, Int32.reduceToInt, n_1, n_2, n_8, Int32.toNatClampNeg, Int64.lt_iff_toInt_lt, Int64.le_iff_toInt_le, ← Int64.toInt_inj, Int64.reduceToInt, Int32.toInt_toInt64, lg_cmp_ge, lg_cmp_le, lg_cmp_gt, lg_cmp_lt, lg_cmp_eq, Bool.false_eq_true, Bool.true_eq_false, reduceCtorEq, false_iff, true_iff, iff_true, iff_false, and_true, true_and, and_false, false_and, reduceIte, ite_true, ite_false, eq_self] at *)) <;> omega)), P_CHA, P_HDS, P_DV, trivial⟩
            · refine wa_iconst (v := 1) (by decide) ?_
              refine wa_istore_nD (lv' := [(3, .int (bI true)), (0, .ref 84), (1, .int v4), (2, .int l2)]) (i := 3) rfl (by decide) rfl ?_
              refine wa_iconst (v := 0) (by decide) ?_
              refine wa_istoreD (lv' := [(4, .int 0), (3, .int (bI true)), (0, .ref 84), (1, .int v4), (2, .int l2)]) (by decide) rfl ?_
              refine wa_pick [2, 3, 4, 1, 0] rfl ?_
              have hi25 : ∀ (n9_62 : Nat) (l3 : Bool) (l4 : Int32), ((0 ≤ l4.toInt) ∧ (True)) → (2147483647 - l4.toInt).toNat = n9_62 → WA G M_X12_placeOf (ZM G M_X12_placeOf d (fun r σ' => ∃ x : Int32, r = some (.int x) ∧ Fm [126, 127, 129] [129] σ σ' ∧ (0 ≤ x.toInt ∧ x.toInt ≤ 3000) ∧ (0 ≤ (gi σ' 84 129).toInt ∧ (gi σ' 84 129).toInt ≤ 3000) ∧ CHA σ' ∧ HDS σ' ∧ DV σ' ∧ True)) B_X12_placeOf_62 [(0, .ref 84), (1, .int v4), (2, .int l2), (3, .int (bI l3)), (4, .int l4)] [] σ := by
                intro n9_62
                induction n9_62 using Nat.strongRecOn with
                | _ n9_62 ih24 =>
                  intro l3 l4  i9 m9_62
                  obtain ⟨jhi25_0, -⟩ := i9
                  have ul4 := Int32.toInt_lt l4
                  have wl4 := Int32.le_toInt l4
                  refine wa_iload rfl ?_
                  refine wa_aload_n (i := 0) rfl rfl ?_
                  refine wa_geti ck_12 fl_12_928 ly_84 ?_
                  refine wa_icmp_ge o_X12_placeOf_109 (by decide) (fun h26 => ?_) (fun h26 => ?_)
                  · refine wa_iload_n (i := 3) rfl rfl ?_
                    refine wa_if_eq o_X12_placeOf_115 (by decide) (fun h27 => ?_) (fun h27 => ?_)
                    · replace h27 := bI_f (b := l3) (rfl) h27
                      refine wa_aload_n (i := 0) rfl rfl ?_
                      refine wa_getr ck_12 fl_12_328 ly_84 rf_84_128 ?_
                      refine wa_iload_n (i := 2) rfl rfl ?_
                      refine wa_iald ly_126 (by ((try simp only [vp_in_iff, Int32.lt_iff_toInt_lt, Int32.le_iff_toInt_le, ← Int32.toInt_inj, Int32.reduceToInt, n_1, n_2, n_8, Int32.toNatClampNeg, Int64.lt_iff_toInt_lt, Int64.le_iff_toInt_le, ← Int64.toInt_inj, Int64.reduceToInt, Int32.toInt_toInt64, lg_cmp_ge, lg_cmp_le, lg_cmp_gt, lg_cmp_lt, lg_cmp_eq, Bool.false_eq_true, Bool.true_eq_false, reduceCtorEq, false_iff, true_iff, iff_true, iff_false, and_true, true_and, and_false, false_and, reduceIte, ite_true, ite_false, eq_self] at *)) <;> omega) ?_
                      refine wa_top (fun v28 hv28 => ?_)
                      have rv28 := cha_at P_CHA hv28 (by ((try simp only [vp_in_iff, Int32.lt_iff_toInt_lt, Int32.le_iff_toInt_le, ← Int32.toInt_inj, Int32.reduceToInt, n_1, n_2, n_8, Int32.toNatClampNeg, Int64.lt_iff_toInt_lt, Int64.le_iff_toInt_le, ← Int64.toInt_inj, Int64.reduceToInt, Int32.toInt_toInt64, lg_cmp_ge, lg_cmp_le, lg_cmp_gt, lg_cmp_lt, lg_cmp_eq, Bool.false_eq_true, Bool.true_eq_false, reduceCtorEq, false_iff, true_iff, iff_true, iff_false, and_true, true_and, and_false, false_and, reduceIte, ite_true, ite_false, eq_self] at *)) <;> omega)
                      clear hv28
                      refine wa_istore_nD (lv' := [(2, .int v28), (0, .ref 84), (1, .int v4), (3, .int (bI l3)), (4, .int l4)]) (i := 2) rfl (by decide) rfl ?_
                      refine wa_goto o_X12_placeOf_52 (by decide) ?_
                      refine wa_pick [1, 2, 0] rfl ?_
                      exact ih6 _ (by ((try simp only [vp_in_iff, Int32.lt_iff_toInt_lt, Int32.le_iff_toInt_le, ← Int32.toInt_inj, Int32.reduceToInt, n_1, n_2, n_8, Int32.toNatClampNeg, Int64.lt_iff_toInt_lt, Int64.le_iff_toInt_le, ← Int64.toInt_inj, Int64.reduceToInt, Int32.toInt_toInt64, lg_cmp_ge, lg_cmp_le, lg_cmp_gt, lg_cmp_lt, lg_cmp_eq, Bool.false_eq_true, Bool.true_eq_false, reduceCtorEq, false_iff, true_iff, iff_true, iff_false, and_true, true_and, and_false, false_and, reduceIte, ite_true, ite_false, eq_self] at *)) <;> omega) _ ⟨(by ((try simp only [vp_in_iff, Int32.lt_iff_toInt_lt, Int32.le_iff_toInt_le, ← Int32.toInt_inj, Int32.reduceToInt, n_1, n_2, n_8, Int32.toNatClampNeg, Int64.lt_iff_toInt_lt, Int64.le_iff_toInt_le, ← Int64.toInt_inj, Int64.reduceToInt, Int32.toInt_toInt64, lg_cmp_ge, lg_cmp_le, lg_cmp_gt, lg_cmp_lt, lg_cmp_eq, Bool.false_eq_true, Bool.true_eq_false, reduceCtorEq, false_iff, true_iff, iff_true, iff_false, and_true, true_and, and_false, false_and, reduceIte, ite_true, ite_false, eq_self] at *)) <;> omega), (by first | assumption | (((try simp only [vp_in_iff, Int32.lt_iff_toInt_lt, Int32.le_iff_toInt_le, ← Int32.toInt_inj, Int32.reduceToInt, n_1, n_2, n_8, Int32.toNatClampNeg, Int64.lt_iff_toInt_lt, Int64.le_iff_toInt_le, ← Int64.toInt_inj, Int64.reduceToInt, Int32.toInt_toInt64, lg_cmp_ge, lg_cmp_le, lg_cmp_gt, lg_cmp_lt, lg_cmp_eq, Bool.false_eq_true, Bool.true_eq_false, reduceCtorEq, false_iff, true_iff, iff_true, iff_false, and_true, true_and, and_false, false_and, reduceIte, ite_true, ite_false, eq_self] at *)) <;> omega)), trivial⟩ rfl
                    · replace h27 := bI_t (b := l3) (rfl) h27
                      refine wa_iload_n (i := 2) rfl rfl ?_
                      refine wa_ireturn rfl rfl ?_
                      exact ⟨_, rfl, (Fm.rf [126, 127, 129] [129] σ), (by ((try simp only [vp_in_iff, Int32.lt_iff_toInt_lt, Int32.le_iff_toInt_le, ← Int32.toInt_inj, Int32.reduceToInt, n_1, n_2, n_8, Int32.toNatClampNeg, Int64.lt_iff_toInt_lt, Int64.le_iff_toInt_le, ← Int64.toInt_inj, Int64.reduceToInt, Int32.toInt_toInt64, lg_cmp_ge, lg_cmp_le, lg_cmp_gt, lg_cmp_lt, lg_cmp_eq, Bool.false_eq_true, Bool.true_eq_false, reduceCtorEq, false_iff, true_iff, iff_true, iff_false, and_true, true_and, and_false, false_and, reduceIte, ite_true, ite_false, eq_self] at *)) <;> omega), (by first | assumption | (((try simp only [vp_in_iff, Int32.lt_iff_toInt_lt, Int32.le_iff_toInt_le, ← Int32.toInt_inj, Int32.reduceToInt, n_1, n_2, n_8, Int32.toNatClampNeg, Int64.lt_iff_toInt_lt, Int64.le_iff_toInt_le, ← Int64.toInt_inj, Int64.reduceToInt, Int32.toInt_toInt64, lg_cmp_ge, lg_cmp_le, lg_cmp_gt, lg_cmp_lt, lg_cmp_eq, Bool.false_eq_true, Bool.true_eq_false, reduceCtorEq, false_iff, true_iff, iff_true, iff_false, and_true, true_and, and_false, false_and, reduceIte, ite_true, ite_false, eq_self] at *)) <;> omega)), P_CHA, P_HDS, P_DV, trivial⟩
                  · have mh26 := nle_mx h26
                    refine wa_iload_n (i := 3) rfl rfl ?_
                    refine wa_if_eq o_X12_placeOf_109 (by decide) (fun h29 => ?_) (fun h29 => ?_)
                    · replace h29 := bI_f (b := l3) (rfl) h29
                      refine wa_iload_n (i := 3) rfl rfl ?_
                      refine wa_if_eq o_X12_placeOf_115 (by decide) (fun h30 => ?_) (fun h30 => ?_)
                      · replace h30 := bI_f (b := l3) (rfl) h30
                        refine wa_aload_n (i := 0) rfl rfl ?_
                        refine wa_getr ck_12 fl_12_328 ly_84 rf_84_128 ?_
                        refine wa_iload_n (i := 2) rfl rfl ?_
                        refine wa_iald ly_126 (by ((try simp only [vp_in_iff, Int32.lt_iff_toInt_lt, Int32.le_iff_toInt_le, ← Int32.toInt_inj, Int32.reduceToInt, n_1, n_2, n_8, Int32.toNatClampNeg, Int64.lt_iff_toInt_lt, Int64.le_iff_toInt_le, ← Int64.toInt_inj, Int64.reduceToInt, Int32.toInt_toInt64, lg_cmp_ge, lg_cmp_le, lg_cmp_gt, lg_cmp_lt, lg_cmp_eq, Bool.false_eq_true, Bool.true_eq_false, reduceCtorEq, false_iff, true_iff, iff_true, iff_false, and_true, true_and, and_false, false_and, reduceIte, ite_true, ite_false, eq_self] at *)) <;> omega) ?_
                        refine wa_top (fun v31 hv31 => ?_)
                        have rv31 := cha_at P_CHA hv31 (by ((try simp only [vp_in_iff, Int32.lt_iff_toInt_lt, Int32.le_iff_toInt_le, ← Int32.toInt_inj, Int32.reduceToInt, n_1, n_2, n_8, Int32.toNatClampNeg, Int64.lt_iff_toInt_lt, Int64.le_iff_toInt_le, ← Int64.toInt_inj, Int64.reduceToInt, Int32.toInt_toInt64, lg_cmp_ge, lg_cmp_le, lg_cmp_gt, lg_cmp_lt, lg_cmp_eq, Bool.false_eq_true, Bool.true_eq_false, reduceCtorEq, false_iff, true_iff, iff_true, iff_false, and_true, true_and, and_false, false_and, reduceIte, ite_true, ite_false, eq_self] at *)) <;> omega)
                        clear hv31
                        refine wa_istore_nD (lv' := [(2, .int v31), (0, .ref 84), (1, .int v4), (3, .int (bI l3)), (4, .int l4)]) (i := 2) rfl (by decide) rfl ?_
                        refine wa_goto o_X12_placeOf_52 (by decide) ?_
                        refine wa_pick [1, 2, 0] rfl ?_
                        exact ih6 _ (by ((try simp only [vp_in_iff, Int32.lt_iff_toInt_lt, Int32.le_iff_toInt_le, ← Int32.toInt_inj, Int32.reduceToInt, n_1, n_2, n_8, Int32.toNatClampNeg, Int64.lt_iff_toInt_lt, Int64.le_iff_toInt_le, ← Int64.toInt_inj, Int64.reduceToInt, Int32.toInt_toInt64, lg_cmp_ge, lg_cmp_le, lg_cmp_gt, lg_cmp_lt, lg_cmp_eq, Bool.false_eq_true, Bool.true_eq_false, reduceCtorEq, false_iff, true_iff, iff_true, iff_false, and_true, true_and, and_false, false_and, reduceIte, ite_true, ite_false, eq_self] at *)) <;> omega) _ ⟨(by ((try simp only [vp_in_iff, Int32.lt_iff_toInt_lt, Int32.le_iff_toInt_le, ← Int32.toInt_inj, Int32.reduceToInt, n_1, n_2, n_8, Int32.toNatClampNeg, Int64.lt_iff_toInt_lt, Int64.le_iff_toInt_le, ← Int64.toInt_inj, Int64.reduceToInt, Int32.toInt_toInt64, lg_cmp_ge, lg_cmp_le, lg_cmp_gt, lg_cmp_lt, lg_cmp_eq, Bool.false_eq_true, Bool.true_eq_false, reduceCtorEq, false_iff, true_iff, iff_true, iff_false, and_true, true_and, and_false, false_and, reduceIte, ite_true, ite_false, eq_self] at *)) <;> omega), (by first | assumption | (((try simp only [vp_in_iff, Int32.lt_iff_toInt_lt, Int32.le_iff_toInt_le, ← Int32.toInt_inj, Int32.reduceToInt, n_1, n_2, n_8, Int32.toNatClampNeg, Int64.lt_iff_toInt_lt, Int64.le_iff_toInt_le, ← Int64.toInt_inj, Int64.reduceToInt, Int32.toInt_toInt64, lg_cmp_ge, lg_cmp_le, lg_cmp_gt, lg_cmp_lt, lg_cmp_eq, Bool.false_eq_true, Bool.true_eq_false, reduceCtorEq, false_iff, true_iff, iff_true, iff_false, and_true, true_and, and_false, false_and, reduceIte, ite_true, ite_false, eq_self] at *)) <;> omega)), trivial⟩ rfl
                      · replace h30 := bI_t (b := l3) (rfl) h30
                        refine wa_iload_n (i := 2) rfl rfl ?_
                        refine wa_ireturn rfl rfl ?_
                        exact ⟨_, rfl, (Fm.rf [126, 127, 129] [129] σ), (by ((try simp only [vp_in_iff, Int32.lt_iff_toInt_lt, Int32.le_iff_toInt_le, ← Int32.toInt_inj, Int32.reduceToInt, n_1, n_2, n_8, Int32.toNatClampNeg, Int64.lt_iff_toInt_lt, Int64.le_iff_toInt_le, ← Int64.toInt_inj, Int64.reduceToInt, Int32.toInt_toInt64, lg_cmp_ge, lg_cmp_le, lg_cmp_gt, lg_cmp_lt, lg_cmp_eq, Bool.false_eq_true, Bool.true_eq_false, reduceCtorEq, false_iff, true_iff, iff_true, iff_false, and_true, true_and, and_false, false_and, reduceIte, ite_true, ite_false, eq_self] at *)) <;> omega), (by first | assumption | (((try simp only [vp_in_iff, Int32.lt_iff_toInt_lt, Int32.le_iff_toInt_le, ← Int32.toInt_inj, Int32.reduceToInt, n_1, n_2, n_8, Int32.toNatClampNeg, Int64.lt_iff_toInt_lt, Int64.le_iff_toInt_le, ← Int64.toInt_inj, Int64.reduceToInt, Int32.toInt_toInt64, lg_cmp_ge, lg_cmp_le, lg_cmp_gt, lg_cmp_lt, lg_cmp_eq, Bool.false_eq_true, Bool.true_eq_false, reduceCtorEq, false_iff, true_iff, iff_true, iff_false, and_true, true_and, and_false, false_and, reduceIte, ite_true, ite_false, eq_self] at *)) <;> omega)), P_CHA, P_HDS, P_DV, trivial⟩
                    · replace h29 := bI_t (b := l3) (rfl) h29
                      refine wa_aload_n (i := 0) rfl rfl ?_
                      refine wa_getr ck_12 fl_12_317 ly_84 rf_84_125 ?_
                      refine wa_bipush (v := 32) (by decide) ?_
                      refine wa_iload_n (i := 2) rfl rfl ?_
                      refine wa_imul ?_
                      refine wa_top (fun v32 hv32 => ?_)
                      have tv32 := i_mulT hv32
                      clear hv32
                      refine wa_iload rfl ?_
                      refine wa_iadd ?_
                      refine wa_top (fun v33 hv33 => ?_)
                      have tv33 := i_addT hv33
                      clear hv33
                      refine wa_iald ly_129 (by ((try simp only [vp_in_iff, Int32.lt_iff_toInt_lt, Int32.le_iff_toInt_le, ← Int32.toInt_inj, Int32.reduceToInt, n_1, n_2, n_8, Int32.toNatClampNeg, Int64.lt_iff_toInt_lt, Int64.le_iff_toInt_le, ← Int64.toInt_inj, Int64.reduceToInt, Int32.toInt_toInt64, lg_cmp_ge, lg_cmp_le, lg_cmp_gt, lg_cmp_lt, lg_cmp_eq, Bool.false_eq_true, Bool.true_eq_false, reduceCtorEq, false_iff, true_iff, iff_true, iff_false, and_true, true_and, and_false, false_and, reduceIte, ite_true, ite_false, eq_self] at *)) <;> omega) ?_
                      refine wa_aload_n (i := 0) rfl rfl ?_
                      refine wa_getr ck_12 fl_12_331 ly_84 rf_84_130 ?_
                      refine wa_iload rfl ?_
                      refine wa_iald ly_125 (by ((try simp only [vp_in_iff, Int32.lt_iff_toInt_lt, Int32.le_iff_toInt_le, ← Int32.toInt_inj, Int32.reduceToInt, n_1, n_2, n_8, Int32.toNatClampNeg, Int64.lt_iff_toInt_lt, Int64.le_iff_toInt_le, ← Int64.toInt_inj, Int64.reduceToInt, Int32.toInt_toInt64, lg_cmp_ge, lg_cmp_le, lg_cmp_gt, lg_cmp_lt, lg_cmp_eq, Bool.false_eq_true, Bool.true_eq_false, reduceCtorEq, false_iff, true_iff, iff_true, iff_false, and_true, true_and, and_false, false_and, reduceIte, ite_true, ite_false, eq_self] at *)) <;> omega) ?_
                      refine wa_icmp_ne o_X12_placeOf_101 (by decide) (fun h34 => ?_) (fun h34 => ?_)
                      · refine wa_iconst (v := 0) (by decide) ?_
                        refine wa_istore_nD (lv' := [(3, .int (bI false)), (0, .ref 84), (1, .int v4), (2, .int l2), (4, .int l4)]) (i := 3) rfl (by decide) rfl ?_
                        refine wa_iinc (v := (1)) (lv' := fun y35 => [(4, .int y35), (3, .int (bI false)), (0, .ref 84), (1, .int v4), (2, .int l2)]) (by decide) rfl (by decide) (fun _ => rfl) (fun y35 hy35 => ?_)
                        have ty35 := i_addT hy35.symm
                        clear hy35
                        refine wa_goto o_X12_placeOf_62 (by decide) ?_
                        refine wa_pick [2, 3, 4, 1, 0] rfl ?_
                        exact ih24 _ (by ((try simp only [vp_in_iff, Int32.lt_iff_toInt_lt, Int32.le_iff_toInt_le, ← Int32.toInt_inj, Int32.reduceToInt, n_1, n_2, n_8, Int32.toNatClampNeg, Int64.lt_iff_toInt_lt, Int64.le_iff_toInt_le, ← Int64.toInt_inj, Int64.reduceToInt, Int32.toInt_toInt64, lg_cmp_ge, lg_cmp_le, lg_cmp_gt, lg_cmp_lt, lg_cmp_eq, Bool.false_eq_true, Bool.true_eq_false, reduceCtorEq, false_iff, true_iff, iff_true, iff_false, and_true, true_and, and_false, false_and, reduceIte, ite_true, ite_false, eq_self] at *)) <;> omega) _ _ ⟨(by ((try simp only [vp_in_iff, Int32.lt_iff_toInt_lt, Int32.le_iff_toInt_le, ← Int32.toInt_inj, Int32.reduceToInt, n_1, n_2, n_8, Int32.toNatClampNeg, Int64.lt_iff_toInt_lt, Int64.le_iff_toInt_le, ← Int64.toInt_inj, Int64.reduceToInt, Int32.toInt_toInt64, lg_cmp_ge, lg_cmp_le, lg_cmp_gt, lg_cmp_lt, lg_cmp_eq, Bool.false_eq_true, Bool.true_eq_false, reduceCtorEq, false_iff, true_iff, iff_true, iff_false, and_true, true_and, and_false, false_and, reduceIte, ite_true, ite_false, eq_self] at *)) <;> omega), trivial⟩ rfl
                      · refine wa_iconst (v := 1) (by decide) ?_
                        refine wa_goto o_X12_placeOf_102 (by decide) ?_
                        refine wa_istore_nD (lv' := [(3, .int (bI true)), (0, .ref 84), (1, .int v4), (2, .int l2), (4, .int l4)]) (i := 3) rfl (by decide) rfl ?_
                        refine wa_iinc (v := (1)) (lv' := fun y36 => [(4, .int y36), (3, .int (bI true)), (0, .ref 84), (1, .int v4), (2, .int l2)]) (by decide) rfl (by decide) (fun _ => rfl) (fun y36 hy36 => ?_)
                        have ty36 := i_addT hy36.symm
                        clear hy36
                        refine wa_goto o_X12_placeOf_62 (by decide) ?_
                        refine wa_pick [2, 3, 4, 1, 0] rfl ?_
                        exact ih24 _ (by ((try simp only [vp_in_iff, Int32.lt_iff_toInt_lt, Int32.le_iff_toInt_le, ← Int32.toInt_inj, Int32.reduceToInt, n_1, n_2, n_8, Int32.toNatClampNeg, Int64.lt_iff_toInt_lt, Int64.le_iff_toInt_le, ← Int64.toInt_inj, Int64.reduceToInt, Int32.toInt_toInt64, lg_cmp_ge, lg_cmp_le, lg_cmp_gt, lg_cmp_lt, lg_cmp_eq, Bool.false_eq_true, Bool.true_eq_false, reduceCtorEq, false_iff, true_iff, iff_true, iff_false, and_true, true_and, and_false, false_and, reduceIte, ite_true, ite_false, eq_self] at *)) <;> omega) _ _ ⟨(by ((try simp only [vp_in_iff, Int32.lt_iff_toInt_lt, Int32.le_iff_toInt_le, ← Int32.toInt_inj, Int32.reduceToInt, n_1, n_2, n_8, Int32.toNatClampNeg, Int64.lt_iff_toInt_lt, Int64.le_iff_toInt_le, ← Int64.toInt_inj, Int64.reduceToInt, Int32.toInt_toInt64, lg_cmp_ge, lg_cmp_le, lg_cmp_gt, lg_cmp_lt, lg_cmp_eq, Bool.false_eq_true, Bool.true_eq_false, reduceCtorEq, false_iff, true_iff, iff_true, iff_false, and_true, true_and, and_false, false_and, reduceIte, ite_true, ite_false, eq_self] at *)) <;> omega), trivial⟩ rfl
              exact hi25 _ _ _ ⟨(by ((try simp only [vp_in_iff, Int32.lt_iff_toInt_lt, Int32.le_iff_toInt_le, ← Int32.toInt_inj, Int32.reduceToInt, n_1, n_2, n_8, Int32.toNatClampNeg, Int64.lt_iff_toInt_lt, Int64.le_iff_toInt_le, ← Int64.toInt_inj, Int64.reduceToInt, Int32.toInt_toInt64, lg_cmp_ge, lg_cmp_le, lg_cmp_gt, lg_cmp_lt, lg_cmp_eq, Bool.false_eq_true, Bool.true_eq_false, reduceCtorEq, false_iff, true_iff, iff_true, iff_false, and_true, true_and, and_false, false_and, reduceIte, ite_true, ite_false, eq_self] at *)) <;> omega), trivial⟩ rfl
        exact hi7 _ _ ⟨(by ((try simp only [vp_in_iff, Int32.lt_iff_toInt_lt, Int32.le_iff_toInt_le, ← Int32.toInt_inj, Int32.reduceToInt, n_1, n_2, n_8, Int32.toNatClampNeg, Int64.lt_iff_toInt_lt, Int64.le_iff_toInt_le, ← Int64.toInt_inj, Int64.reduceToInt, Int32.toInt_toInt64, lg_cmp_ge, lg_cmp_le, lg_cmp_gt, lg_cmp_lt, lg_cmp_eq, Bool.false_eq_true, Bool.true_eq_false, reduceCtorEq, false_iff, true_iff, iff_true, iff_false, and_true, true_and, and_false, false_and, reduceIte, ite_true, ite_false, eq_self] at *)) <;> omega), (by first | assumption | (((try simp only [vp_in_iff, Int32.lt_iff_toInt_lt, Int32.le_iff_toInt_le, ← Int32.toInt_inj, Int32.reduceToInt, n_1, n_2, n_8, Int32.toNatClampNeg, Int64.lt_iff_toInt_lt, Int64.le_iff_toInt_le, ← Int64.toInt_inj, Int64.reduceToInt, Int32.toInt_toInt64, lg_cmp_ge, lg_cmp_le, lg_cmp_gt, lg_cmp_lt, lg_cmp_eq, Bool.false_eq_true, Bool.true_eq_false, reduceCtorEq, false_iff, true_iff, iff_true, iff_false, and_true, true_and, and_false, false_and, reduceIte, ite_true, ite_false, eq_self] at *)) <;> omega)), trivial⟩ rfl
      · have mh3 := nle_mx h3
        refine wa_iload_n (i := 1) rfl rfl ?_
        refine wa_aload_n (i := 0) rfl rfl ?_
        refine wa_getr ck_12 fl_12_331 ly_84 rf_84_130 ?_
        refine wa_iload_n (i := 2) rfl rfl ?_
        refine wa_iald ly_125 (by ((try simp only [vp_in_iff, Int32.lt_iff_toInt_lt, Int32.le_iff_toInt_le, ← Int32.toInt_inj, Int32.reduceToInt, n_1, n_2, n_8, Int32.toNatClampNeg, Int64.lt_iff_toInt_lt, Int64.le_iff_toInt_le, ← Int64.toInt_inj, Int64.reduceToInt, Int32.toInt_toInt64, lg_cmp_ge, lg_cmp_le, lg_cmp_gt, lg_cmp_lt, lg_cmp_eq, Bool.false_eq_true, Bool.true_eq_false, reduceCtorEq, false_iff, true_iff, iff_true, iff_false, and_true, true_and, and_false, false_and, reduceIte, ite_true, ite_false, eq_self] at *)) <;> omega) ?_
        refine wa_ixor ?_
        refine wa_top (fun v37 hv37 => ?_)
        clear hv37
        refine wa_ldcw (v := (-1640531535)) (allW_in (kT_12 _ (List.mem_of_getElem? (i := 92) rfl)) rfl) ?_
        refine wa_imul ?_
        refine wa_top (fun v38 hv38 => ?_)
        have tv38 := i_mulT hv38
        clear hv38
        refine wa_istore_nD (lv' := [(1, .int v38), (0, .ref 84), (2, .int l2)]) (i := 1) rfl (by decide) rfl ?_
        refine wa_iload_n (i := 1) rfl rfl ?_
        refine wa_iload_n (i := 1) rfl rfl ?_
        refine wa_bipush (v := 15) (by decide) ?_
        refine wa_iushr ?_
        refine wa_top (fun v39 hv39 => ?_)
        clear hv39
        refine wa_ixor ?_
        refine wa_top (fun v40 hv40 => ?_)
        clear hv40
        refine wa_istore_nD (lv' := [(1, .int v40), (0, .ref 84), (2, .int l2)]) (i := 1) rfl (by decide) rfl ?_
        refine wa_iinc (v := (1)) (lv' := fun y41 => [(2, .int y41), (1, .int v40), (0, .ref 84)]) (by decide) rfl (by decide) (fun _ => rfl) (fun y41 hy41 => ?_)
        have ty41 := i_addT hy41.symm
        clear hy41
        refine wa_goto o_X12_placeOf_5 (by decide) ?_
        refine wa_pick [2, 1, 0] rfl ?_
        exact ih1 _ (by ((try simp only [vp_in_iff, Int32.lt_iff_toInt_lt, Int32.le_iff_toInt_le, ← Int32.toInt_inj, Int32.reduceToInt, n_1, n_2, n_8, Int32.toNatClampNeg, Int64.lt_iff_toInt_lt, Int64.le_iff_toInt_le, ← Int64.toInt_inj, Int64.reduceToInt, Int32.toInt_toInt64, lg_cmp_ge, lg_cmp_le, lg_cmp_gt, lg_cmp_lt, lg_cmp_eq, Bool.false_eq_true, Bool.true_eq_false, reduceCtorEq, false_iff, true_iff, iff_true, iff_false, and_true, true_and, and_false, false_and, reduceIte, ite_true, ite_false, eq_self] at *)) <;> omega) _ _ ⟨(by ((try simp only [vp_in_iff, Int32.lt_iff_toInt_lt, Int32.le_iff_toInt_le, ← Int32.toInt_inj, Int32.reduceToInt, n_1, n_2, n_8, Int32.toNatClampNeg, Int64.lt_iff_toInt_lt, Int64.le_iff_toInt_le, ← Int64.toInt_inj, Int64.reduceToInt, Int32.toInt_toInt64, lg_cmp_ge, lg_cmp_le, lg_cmp_gt, lg_cmp_lt, lg_cmp_eq, Bool.false_eq_true, Bool.true_eq_false, reduceCtorEq, false_iff, true_iff, iff_true, iff_false, and_true, true_and, and_false, false_and, reduceIte, ite_true, ite_false, eq_self] at *)) <;> omega), trivial⟩ rfl
  exact hi2 _ _ _ ⟨(by ((try simp only [vp_in_iff, Int32.lt_iff_toInt_lt, Int32.le_iff_toInt_le, ← Int32.toInt_inj, Int32.reduceToInt, n_1, n_2, n_8, Int32.toNatClampNeg, Int64.lt_iff_toInt_lt, Int64.le_iff_toInt_le, ← Int64.toInt_inj, Int64.reduceToInt, Int32.toInt_toInt64, lg_cmp_ge, lg_cmp_le, lg_cmp_gt, lg_cmp_lt, lg_cmp_eq, Bool.false_eq_true, Bool.true_eq_false, reduceCtorEq, false_iff, true_iff, iff_true, iff_false, and_true, true_and, and_false, false_and, reduceIte, ite_true, ite_false, eq_self] at *)) <;> omega), trivial⟩ rfl
set_option maxHeartbeats 4000000 in
theorem sp_X12_isAnswer (G : kG9) {d : Nat} (hd : 0 ≤ d) (σ : St) (a0 : Int32) (a1 : Int32) (r1 : 0 ≤ (gi σ 84 33).toInt ∧ (gi σ 84 33).toInt ≤ 24) : Ct G M_X12_isAnswer d [.ref 84, .int a0, .int a1] σ (fun r σ' => ∃ x : Bool, r = some (.int (bI x)) ∧ σ = σ' ∧ True) := by
  refine wa_start (by decide) rfl (Nat.le_of_ble_eq_true rfl) (lv := [(0, .ref 84), (1, .int a0), (2, .int a1)]) rfl o_X12_isAnswer_0 rfl ?_
  have ua0 := Int32.toInt_lt a0
  have wa0 := Int32.le_toInt a0
  have ua1 := Int32.toInt_lt a1
  have wa1 := Int32.le_toInt a1
  refine wa_iload_n (i := 1) rfl rfl ?_
  refine wa_iconst (v := 2) (by decide) ?_
  refine wa_icmp_ne o_X12_isAnswer_12 (by decide) (fun h1 => ?_) (fun h1 => ?_)
  · refine wa_iconst (v := 1) (by decide) ?_
    refine wa_istore_nD (lv' := [(3, .int (bI true)), (0, .ref 84), (1, .int a0), (2, .int a1)]) (i := 3) rfl (by decide) rfl ?_
    refine wa_iconst (v := 0) (by decide) ?_
    refine wa_istoreD (lv' := [(4, .int 0), (3, .int (bI true)), (0, .ref 84), (1, .int a0), (2, .int a1)]) (by decide) rfl ?_
    refine wa_pick [2, 3, 4, 1, 0] rfl ?_
    have hi3 : ∀ (n9_17 : Nat) (l3 : Bool) (l4 : Int32), ((0 ≤ l4.toInt) ∧ (True)) → (2147483647 - l4.toInt).toNat = n9_17 → WA G M_X12_isAnswer (ZM G M_X12_isAnswer d (fun r σ' => ∃ x : Bool, r = some (.int (bI x)) ∧ σ = σ' ∧ True)) B_X12_isAnswer_17 [(0, .ref 84), (1, .int a0), (2, .int a1), (3, .int (bI l3)), (4, .int l4)] [] σ := by
      intro n9_17
      induction n9_17 using Nat.strongRecOn with
      | _ n9_17 ih2 =>
        intro l3 l4  i9 m9_17
        obtain ⟨jhi3_0, -⟩ := i9
        have ul4 := Int32.toInt_lt l4
        have wl4 := Int32.le_toInt l4
        refine wa_iload rfl ?_
        refine wa_aload_n (i := 0) rfl rfl ?_
        refine wa_geti ck_12 fl_12_818 ly_84 ?_
        refine wa_icmp_ge o_X12_isAnswer_72 (by decide) (fun h4 => ?_) (fun h4 => ?_)
        · refine wa_iload_n (i := 1) rfl rfl ?_
          refine wa_if_ne o_X12_isAnswer_80 (by decide) (fun h5 => ?_) (fun h5 => ?_)
          · refine wa_iload_n (i := 1) rfl rfl ?_
            refine wa_iconst (v := 1) (by decide) ?_
            refine wa_icmp_ne o_X12_isAnswer_106 (by decide) (fun h6 => ?_) (fun h6 => ?_)
            · refine wa_iload_n (i := 3) rfl rfl ?_
              refine wa_if_eq o_X12_isAnswer_123 (by decide) (fun h7 => ?_) (fun h7 => ?_)
              · replace h7 := bI_f (b := l3) (rfl) h7
                refine wa_iconst (v := 0) (by decide) ?_
                refine wa_zreturn false (rfl) rfl rfl ?_
                exact ⟨_, rfl, rfl, trivial⟩
              · replace h7 := bI_t (b := l3) (rfl) h7
                refine wa_aload_n (i := 0) rfl rfl ?_
                refine wa_getr ck_12 fl_12_310 ly_84 rf_84_123 ?_
                refine wa_iload_n (i := 2) rfl rfl ?_
                refine wa_zald ly_131 (by ((try simp only [vp_in_iff, Int32.lt_iff_toInt_lt, Int32.le_iff_toInt_le, ← Int32.toInt_inj, Int32.reduceToInt, n_1, n_2, n_8, Int32.toNatClampNeg, Int64.lt_iff_toInt_lt, Int64.le_iff_toInt_le, ← Int64.toInt_inj, Int64.reduceToInt, Int32.toInt_toInt64, lg_cmp_ge, lg_cmp_le, lg_cmp_gt, lg_cmp_lt, lg_cmp_eq, Bool.false_eq_true, Bool.true_eq_false, reduceCtorEq, false_iff, true_iff, iff_true, iff_false, and_true, true_and, and_false, false_and, reduceIte, ite_true, ite_false, eq_self] at *)) <;> omega) ?_
                refine wa_if_eq o_X12_isAnswer_123 (by decide) (fun h8 => ?_) (fun h8 => ?_)
                · replace h8 := bI_f (b := (gb σ 131 (a1).toNatClampNeg)) (rfl) h8
                  refine wa_iconst (v := 0) (by decide) ?_
                  refine wa_zreturn false (rfl) rfl rfl ?_
                  exact ⟨_, rfl, rfl, trivial⟩
                · replace h8 := bI_t (b := (gb σ 131 (a1).toNatClampNeg)) (rfl) h8
                  refine wa_iconst (v := 1) (by decide) ?_
                  refine wa_goto o_X12_isAnswer_124 (by decide) ?_
                  refine wa_zreturn true (rfl) rfl rfl ?_
                  exact ⟨_, rfl, rfl, trivial⟩
            · refine wa_iload_n (i := 3) rfl rfl ?_
              refine wa_if_eq o_X12_isAnswer_102 (by decide) (fun h9 => ?_) (fun h9 => ?_)
              · replace h9 := bI_f (b := l3) (rfl) h9
                refine wa_iconst (v := 0) (by decide) ?_
                refine wa_goto o_X12_isAnswer_124 (by decide) ?_
                refine wa_zreturn false (rfl) rfl rfl ?_
                exact ⟨_, rfl, rfl, trivial⟩
              · replace h9 := bI_t (b := l3) (rfl) h9
                refine wa_aload_n (i := 0) rfl rfl ?_
                refine wa_getr ck_12 fl_12_310 ly_84 rf_84_123 ?_
                refine wa_iload_n (i := 2) rfl rfl ?_
                refine wa_zald ly_131 (by ((try simp only [vp_in_iff, Int32.lt_iff_toInt_lt, Int32.le_iff_toInt_le, ← Int32.toInt_inj, Int32.reduceToInt, n_1, n_2, n_8, Int32.toNatClampNeg, Int64.lt_iff_toInt_lt, Int64.le_iff_toInt_le, ← Int64.toInt_inj, Int64.reduceToInt, Int32.toInt_toInt64, lg_cmp_ge, lg_cmp_le, lg_cmp_gt, lg_cmp_lt, lg_cmp_eq, Bool.false_eq_true, Bool.true_eq_false, reduceCtorEq, false_iff, true_iff, iff_true, iff_false, and_true, true_and, and_false, false_and, reduceIte, ite_true, ite_false, eq_self] at *)) <;> omega) ?_
                refine wa_if_ne o_X12_isAnswer_102 (by decide) (fun h10 => ?_) (fun h10 => ?_)
                · replace h10 := bI_t (b := (gb σ 131 (a1).toNatClampNeg)) (rfl) h10
                  refine wa_iconst (v := 0) (by decide) ?_
                  refine wa_goto o_X12_isAnswer_124 (by decide) ?_
                  refine wa_zreturn false (rfl) rfl rfl ?_
                  exact ⟨_, rfl, rfl, trivial⟩
                · replace h10 := bI_f (b := (gb σ 131 (a1).toNatClampNeg)) (rfl) h10
                  refine wa_iconst (v := 1) (by decide) ?_
                  refine wa_goto o_X12_isAnswer_124 (by decide) ?_
                  refine wa_zreturn true (rfl) rfl rfl ?_
                  exact ⟨_, rfl, rfl, trivial⟩
          · refine wa_iload_n (i := 3) rfl rfl ?_
            refine wa_goto o_X12_isAnswer_124 (by decide) ?_
            refine wa_zreturn l3 (rfl) rfl rfl ?_
            exact ⟨_, rfl, rfl, trivial⟩
        · have mh4 := nle_mx h4
          refine wa_iload_n (i := 3) rfl rfl ?_
          refine wa_if_eq o_X12_isAnswer_64 (by decide) (fun h11 => ?_) (fun h11 => ?_)
          · replace h11 := bI_f (b := l3) (rfl) h11
            refine wa_iconst (v := 0) (by decide) ?_
            refine wa_istore_nD (lv' := [(3, .int (bI false)), (0, .ref 84), (1, .int a0), (2, .int a1), (4, .int l4)]) (i := 3) rfl (by decide) rfl ?_
            refine wa_iinc (v := (1)) (lv' := fun y12 => [(4, .int y12), (3, .int (bI false)), (0, .ref 84), (1, .int a0), (2, .int a1)]) (by decide) rfl (by decide) (fun _ => rfl) (fun y12 hy12 => ?_)
            have ty12 := i_addT hy12.symm
            clear hy12
            refine wa_goto o_X12_isAnswer_17 (by decide) ?_
            refine wa_pick [2, 3, 4, 1, 0] rfl ?_
            exact ih2 _ (by ((try simp only [vp_in_iff, Int32.lt_iff_toInt_lt, Int32.le_iff_toInt_le, ← Int32.toInt_inj, Int32.reduceToInt, n_1, n_2, n_8, Int32.toNatClampNeg, Int64.lt_iff_toInt_lt, Int64.le_iff_toInt_le, ← Int64.toInt_inj, Int64.reduceToInt, Int32.toInt_toInt64, lg_cmp_ge, lg_cmp_le, lg_cmp_gt, lg_cmp_lt, lg_cmp_eq, Bool.false_eq_true, Bool.true_eq_false, reduceCtorEq, false_iff, true_iff, iff_true, iff_false, and_true, true_and, and_false, false_and, reduceIte, ite_true, ite_false, eq_self] at *)) <;> omega) _ _ ⟨(by ((try simp only [vp_in_iff, Int32.lt_iff_toInt_lt, Int32.le_iff_toInt_le, ← Int32.toInt_inj, Int32.reduceToInt, n_1, n_2, n_8, Int32.toNatClampNeg, Int64.lt_iff_toInt_lt, Int64.le_iff_toInt_le, ← Int64.toInt_inj, Int64.reduceToInt, Int32.toInt_toInt64, lg_cmp_ge, lg_cmp_le, lg_cmp_gt, lg_cmp_lt, lg_cmp_eq, Bool.false_eq_true, Bool.true_eq_false, reduceCtorEq, false_iff, true_iff, iff_true, iff_false, and_true, true_and, and_false, false_and, reduceIte, ite_true, ite_false, eq_self] at *)) <;> omega), trivial⟩ rfl
          · replace h11 := bI_t (b := l3) (rfl) h11
            refine wa_aload_n (i := 0) rfl rfl ?_
            refine wa_getr ck_12 fl_12_265 ly_84 rf_84_103 ?_
            refine wa_iload rfl ?_
            refine wa_zald ly_146 (by ((try simp only [vp_in_iff, Int32.lt_iff_toInt_lt, Int32.le_iff_toInt_le, ← Int32.toInt_inj, Int32.reduceToInt, n_1, n_2, n_8, Int32.toNatClampNeg, Int64.lt_iff_toInt_lt, Int64.le_iff_toInt_le, ← Int64.toInt_inj, Int64.reduceToInt, Int32.toInt_toInt64, lg_cmp_ge, lg_cmp_le, lg_cmp_gt, lg_cmp_lt, lg_cmp_eq, Bool.false_eq_true, Bool.true_eq_false, reduceCtorEq, false_iff, true_iff, iff_true, iff_false, and_true, true_and, and_false, false_and, reduceIte, ite_true, ite_false, eq_self] at *)) <;> omega) ?_
            refine wa_if_eq o_X12_isAnswer_60 (by decide) (fun h13 => ?_) (fun h13 => ?_)
            · replace h13 := bI_f (b := (gb σ 146 (l4).toNatClampNeg)) (rfl) h13
              refine wa_iconst (v := 1) (by decide) ?_
              refine wa_goto o_X12_isAnswer_65 (by decide) ?_
              refine wa_istore_nD (lv' := [(3, .int (bI true)), (0, .ref 84), (1, .int a0), (2, .int a1), (4, .int l4)]) (i := 3) rfl (by decide) rfl ?_
              refine wa_iinc (v := (1)) (lv' := fun y14 => [(4, .int y14), (3, .int (bI true)), (0, .ref 84), (1, .int a0), (2, .int a1)]) (by decide) rfl (by decide) (fun _ => rfl) (fun y14 hy14 => ?_)
              have ty14 := i_addT hy14.symm
              clear hy14
              refine wa_goto o_X12_isAnswer_17 (by decide) ?_
              refine wa_pick [2, 3, 4, 1, 0] rfl ?_
              exact ih2 _ (by ((try simp only [vp_in_iff, Int32.lt_iff_toInt_lt, Int32.le_iff_toInt_le, ← Int32.toInt_inj, Int32.reduceToInt, n_1, n_2, n_8, Int32.toNatClampNeg, Int64.lt_iff_toInt_lt, Int64.le_iff_toInt_le, ← Int64.toInt_inj, Int64.reduceToInt, Int32.toInt_toInt64, lg_cmp_ge, lg_cmp_le, lg_cmp_gt, lg_cmp_lt, lg_cmp_eq, Bool.false_eq_true, Bool.true_eq_false, reduceCtorEq, false_iff, true_iff, iff_true, iff_false, and_true, true_and, and_false, false_and, reduceIte, ite_true, ite_false, eq_self] at *)) <;> omega) _ _ ⟨(by ((try simp only [vp_in_iff, Int32.lt_iff_toInt_lt, Int32.le_iff_toInt_le, ← Int32.toInt_inj, Int32.reduceToInt, n_1, n_2, n_8, Int32.toNatClampNeg, Int64.lt_iff_toInt_lt, Int64.le_iff_toInt_le, ← Int64.toInt_inj, Int64.reduceToInt, Int32.toInt_toInt64, lg_cmp_ge, lg_cmp_le, lg_cmp_gt, lg_cmp_lt, lg_cmp_eq, Bool.false_eq_true, Bool.true_eq_false, reduceCtorEq, false_iff, true_iff, iff_true, iff_false, and_true, true_and, and_false, false_and, reduceIte, ite_true, ite_false, eq_self] at *)) <;> omega), trivial⟩ rfl
            · replace h13 := bI_t (b := (gb σ 146 (l4).toNatClampNeg)) (rfl) h13
              refine wa_aload_n (i := 0) rfl rfl ?_
              refine wa_getr ck_12 fl_12_340 ly_84 rf_84_134 ?_
              refine wa_iload rfl ?_
              refine wa_zald ly_122 (by ((try simp only [vp_in_iff, Int32.lt_iff_toInt_lt, Int32.le_iff_toInt_le, ← Int32.toInt_inj, Int32.reduceToInt, n_1, n_2, n_8, Int32.toNatClampNeg, Int64.lt_iff_toInt_lt, Int64.le_iff_toInt_le, ← Int64.toInt_inj, Int64.reduceToInt, Int32.toInt_toInt64, lg_cmp_ge, lg_cmp_le, lg_cmp_gt, lg_cmp_lt, lg_cmp_eq, Bool.false_eq_true, Bool.true_eq_false, reduceCtorEq, false_iff, true_iff, iff_true, iff_false, and_true, true_and, and_false, false_and, reduceIte, ite_true, ite_false, eq_self] at *)) <;> omega) ?_
              refine wa_if_ne o_X12_isAnswer_60 (by decide) (fun h15 => ?_) (fun h15 => ?_)
              · replace h15 := bI_t (b := (gb σ 122 (l4).toNatClampNeg)) (rfl) h15
                refine wa_iconst (v := 1) (by decide) ?_
                refine wa_goto o_X12_isAnswer_65 (by decide) ?_
                refine wa_istore_nD (lv' := [(3, .int (bI true)), (0, .ref 84), (1, .int a0), (2, .int a1), (4, .int l4)]) (i := 3) rfl (by decide) rfl ?_
                refine wa_iinc (v := (1)) (lv' := fun y16 => [(4, .int y16), (3, .int (bI true)), (0, .ref 84), (1, .int a0), (2, .int a1)]) (by decide) rfl (by decide) (fun _ => rfl) (fun y16 hy16 => ?_)
                have ty16 := i_addT hy16.symm
                clear hy16
                refine wa_goto o_X12_isAnswer_17 (by decide) ?_
                refine wa_pick [2, 3, 4, 1, 0] rfl ?_
                exact ih2 _ (by ((try simp only [vp_in_iff, Int32.lt_iff_toInt_lt, Int32.le_iff_toInt_le, ← Int32.toInt_inj, Int32.reduceToInt, n_1, n_2, n_8, Int32.toNatClampNeg, Int64.lt_iff_toInt_lt, Int64.le_iff_toInt_le, ← Int64.toInt_inj, Int64.reduceToInt, Int32.toInt_toInt64, lg_cmp_ge, lg_cmp_le, lg_cmp_gt, lg_cmp_lt, lg_cmp_eq, Bool.false_eq_true, Bool.true_eq_false, reduceCtorEq, false_iff, true_iff, iff_true, iff_false, and_true, true_and, and_false, false_and, reduceIte, ite_true, ite_false, eq_self] at *)) <;> omega) _ _ ⟨(by ((try simp only [vp_in_iff, Int32.lt_iff_toInt_lt, Int32.le_iff_toInt_le, ← Int32.toInt_inj, Int32.reduceToInt, n_1, n_2, n_8, Int32.toNatClampNeg, Int64.lt_iff_toInt_lt, Int64.le_iff_toInt_le, ← Int64.toInt_inj, Int64.reduceToInt, Int32.toInt_toInt64, lg_cmp_ge, lg_cmp_le, lg_cmp_gt, lg_cmp_lt, lg_cmp_eq, Bool.false_eq_true, Bool.true_eq_false, reduceCtorEq, false_iff, true_iff, iff_true, iff_false, and_true, true_and, and_false, false_and, reduceIte, ite_true, ite_false, eq_self] at *)) <;> omega), trivial⟩ rfl
              · replace h15 := bI_f (b := (gb σ 122 (l4).toNatClampNeg)) (rfl) h15
                refine wa_aload_n (i := 0) rfl rfl ?_
                refine wa_getr ck_12 fl_12_310 ly_84 rf_84_123 ?_
                refine wa_iload rfl ?_
                refine wa_zald ly_131 (by ((try simp only [vp_in_iff, Int32.lt_iff_toInt_lt, Int32.le_iff_toInt_le, ← Int32.toInt_inj, Int32.reduceToInt, n_1, n_2, n_8, Int32.toNatClampNeg, Int64.lt_iff_toInt_lt, Int64.le_iff_toInt_le, ← Int64.toInt_inj, Int64.reduceToInt, Int32.toInt_toInt64, lg_cmp_ge, lg_cmp_le, lg_cmp_gt, lg_cmp_lt, lg_cmp_eq, Bool.false_eq_true, Bool.true_eq_false, reduceCtorEq, false_iff, true_iff, iff_true, iff_false, and_true, true_and, and_false, false_and, reduceIte, ite_true, ite_false, eq_self] at *)) <;> omega) ?_
                refine wa_if_eq o_X12_isAnswer_64 (by decide) (fun h17 => ?_) (fun h17 => ?_)
                · replace h17 := bI_f (b := (gb σ 131 (l4).toNatClampNeg)) (rfl) h17
                  refine wa_iconst (v := 0) (by decide) ?_
                  refine wa_istore_nD (lv' := [(3, .int (bI false)), (0, .ref 84), (1, .int a0), (2, .int a1), (4, .int l4)]) (i := 3) rfl (by decide) rfl ?_
                  refine wa_iinc (v := (1)) (lv' := fun y18 => [(4, .int y18), (3, .int (bI false)), (0, .ref 84), (1, .int a0), (2, .int a1)]) (by decide) rfl (by decide) (fun _ => rfl) (fun y18 hy18 => ?_)
                  have ty18 := i_addT hy18.symm
                  clear hy18
                  refine wa_goto o_X12_isAnswer_17 (by decide) ?_
                  refine wa_pick [2, 3, 4, 1, 0] rfl ?_
                  exact ih2 _ (by ((try simp only [vp_in_iff, Int32.lt_iff_toInt_lt, Int32.le_iff_toInt_le, ← Int32.toInt_inj, Int32.reduceToInt, n_1, n_2, n_8, Int32.toNatClampNeg, Int64.lt_iff_toInt_lt, Int64.le_iff_toInt_le, ← Int64.toInt_inj, Int64.reduceToInt, Int32.toInt_toInt64, lg_cmp_ge, lg_cmp_le, lg_cmp_gt, lg_cmp_lt, lg_cmp_eq, Bool.false_eq_true, Bool.true_eq_false, reduceCtorEq, false_iff, true_iff, iff_true, iff_false, and_true, true_and, and_false, false_and, reduceIte, ite_true, ite_false, eq_self] at *)) <;> omega) _ _ ⟨(by ((try simp only [vp_in_iff, Int32.lt_iff_toInt_lt, Int32.le_iff_toInt_le, ← Int32.toInt_inj, Int32.reduceToInt, n_1, n_2, n_8, Int32.toNatClampNeg, Int64.lt_iff_toInt_lt, Int64.le_iff_toInt_le, ← Int64.toInt_inj, Int64.reduceToInt, Int32.toInt_toInt64, lg_cmp_ge, lg_cmp_le, lg_cmp_gt, lg_cmp_lt, lg_cmp_eq, Bool.false_eq_true, Bool.true_eq_false, reduceCtorEq, false_iff, true_iff, iff_true, iff_false, and_true, true_and, and_false, false_and, reduceIte, ite_true, ite_false, eq_self] at *)) <;> omega), trivial⟩ rfl
                · replace h17 := bI_t (b := (gb σ 131 (l4).toNatClampNeg)) (rfl) h17
                  refine wa_iconst (v := 1) (by decide) ?_
                  refine wa_goto o_X12_isAnswer_65 (by decide) ?_
                  refine wa_istore_nD (lv' := [(3, .int (bI true)), (0, .ref 84), (1, .int a0), (2, .int a1), (4, .int l4)]) (i := 3) rfl (by decide) rfl ?_
                  refine wa_iinc (v := (1)) (lv' := fun y19 => [(4, .int y19), (3, .int (bI true)), (0, .ref 84), (1, .int a0), (2, .int a1)]) (by decide) rfl (by decide) (fun _ => rfl) (fun y19 hy19 => ?_)
                  have ty19 := i_addT hy19.symm
                  clear hy19
                  refine wa_goto o_X12_isAnswer_17 (by decide) ?_
                  refine wa_pick [2, 3, 4, 1, 0] rfl ?_
                  exact ih2 _ (by ((try simp only [vp_in_iff, Int32.lt_iff_toInt_lt, Int32.le_iff_toInt_le, ← Int32.toInt_inj, Int32.reduceToInt, n_1, n_2, n_8, Int32.toNatClampNeg, Int64.lt_iff_toInt_lt, Int64.le_iff_toInt_le, ← Int64.toInt_inj, Int64.reduceToInt, Int32.toInt_toInt64, lg_cmp_ge, lg_cmp_le, lg_cmp_gt, lg_cmp_lt, lg_cmp_eq, Bool.false_eq_true, Bool.true_eq_false, reduceCtorEq, false_iff, true_iff, iff_true, iff_false, and_true, true_and, and_false, false_and, reduceIte, ite_true, ite_false, eq_self] at *)) <;> omega) _ _ ⟨(by ((try simp only [vp_in_iff, Int32.lt_iff_toInt_lt, Int32.le_iff_toInt_le, ← Int32.toInt_inj, Int32.reduceToInt, n_1, n_2, n_8, Int32.toNatClampNeg, Int64.lt_iff_toInt_lt, Int64.le_iff_toInt_le, ← Int64.toInt_inj, Int64.reduceToInt, Int32.toInt_toInt64, lg_cmp_ge, lg_cmp_le, lg_cmp_gt, lg_cmp_lt, lg_cmp_eq, Bool.false_eq_true, Bool.true_eq_false, reduceCtorEq, false_iff, true_iff, iff_true, iff_false, and_true, true_and, and_false, false_and, reduceIte, ite_true, ite_false, eq_self] at *)) <;> omega), trivial⟩ rfl
    exact hi3 _ _ _ ⟨(by ((try simp only [vp_in_iff, Int32.lt_iff_toInt_lt, Int32.le_iff_toInt_le, ← Int32.toInt_inj, Int32.reduceToInt, n_1, n_2, n_8, Int32.toNatClampNeg, Int64.lt_iff_toInt_lt, Int64.le_iff_toInt_le, ← Int64.toInt_inj, Int64.reduceToInt, Int32.toInt_toInt64, lg_cmp_ge, lg_cmp_le, lg_cmp_gt, lg_cmp_lt, lg_cmp_eq, Bool.false_eq_true, Bool.true_eq_false, reduceCtorEq, false_iff, true_iff, iff_true, iff_false, and_true, true_and, and_false, false_and, reduceIte, ite_true, ite_false, eq_self] at *)) <;> omega), trivial⟩ rfl
  · refine wa_aload_n (i := 0) rfl rfl ?_
    refine wa_getr ck_12 fl_12_310 ly_84 rf_84_123 ?_
    refine wa_iload_n (i := 2) rfl rfl ?_
    refine wa_zald ly_131 (by ((try simp only [vp_in_iff, Int32.lt_iff_toInt_lt, Int32.le_iff_toInt_le, ← Int32.toInt_inj, Int32.reduceToInt, n_1, n_2, n_8, Int32.toNatClampNeg, Int64.lt_iff_toInt_lt, Int64.le_iff_toInt_le, ← Int64.toInt_inj, Int64.reduceToInt, Int32.toInt_toInt64, lg_cmp_ge, lg_cmp_le, lg_cmp_gt, lg_cmp_lt, lg_cmp_eq, Bool.false_eq_true, Bool.true_eq_false, reduceCtorEq, false_iff, true_iff, iff_true, iff_false, and_true, true_and, and_false, false_and, reduceIte, ite_true, ite_false, eq_self] at *)) <;> omega) ?_
    refine wa_zreturn (gb σ 131 (a1).toNatClampNeg) (rfl) rfl rfl ?_
    exact ⟨_, rfl, rfl, trivial⟩
set_option maxHeartbeats 4000000 in
theorem sp_X12_value (G : kG9) {d : Nat} (hd : 1 ≤ d) (σ : St) (a0 : Int32) (r1 : 0 ≤ (gi σ 84 139).toInt ∧ (gi σ 84 139).toInt ≤ 4) : Ct G M_X12_value d [.ref 84, .int a0] σ (fun r σ' => ∃ x : Int64, r = some (.long x) ∧ Fm [] [0] σ σ' ∧ True) := by
  refine wa_start (by decide) rfl (Nat.le_of_ble_eq_true rfl) (lv := [(0, .ref 84), (1, .int a0)]) rfl o_X12_value_0 rfl ?_
  have ua0 := Int32.toInt_lt a0
  have wa0 := Int32.le_toInt a0
  refine wa_aload_n (i := 0) rfl rfl ?_
  refine wa_aload_n (i := 0) rfl rfl ?_
  refine wa_geti ck_12 fl_12_355 ly_84 ?_
  refine wa_iconst (v := (-1)) (by decide) ?_
  refine wa_icmp_eq o_X12_value_29 (by decide) (fun h1 => ?_) (fun h1 => ?_)
  · refine wa_iconst (v := 1) (by decide) ?_
    refine wa_puti ck_12 fl_12_3 ly_84 (fun s2 hs2 => ?_)
    have Fs2 : Fm [] [0] σ s2 := by rw [hs2]; exact Fm.si (Fm.rf [] [0] σ) rfl
    refine wa_aload_n (i := 0) rfl rfl ?_
    refine wa_geti ck_12 fl_12_3 ly_84 ?_
    refine wa_rw (nxe_gi_si hs2) ?_
    refine wa_if_le o_X12_value_44 (by decide) (fun h3 => ?_) (fun h3 => ?_)
    · refine wa_aload_n (i := 0) rfl rfl ?_
      refine wa_getr ck_12 fl_12_352 ly_84 rf_84_138 ?_
      refine wa_iload_n (i := 1) rfl rfl ?_
      refine wa_lald ly_118 (by ((try simp only [vp_in_iff, Int32.lt_iff_toInt_lt, Int32.le_iff_toInt_le, ← Int32.toInt_inj, Int32.reduceToInt, n_1, n_2, n_8, Int32.toNatClampNeg, Int64.lt_iff_toInt_lt, Int64.le_iff_toInt_le, ← Int64.toInt_inj, Int64.reduceToInt, Int32.toInt_toInt64, lg_cmp_ge, lg_cmp_le, lg_cmp_gt, lg_cmp_lt, lg_cmp_eq, Bool.false_eq_true, Bool.true_eq_false, reduceCtorEq, false_iff, true_iff, iff_true, iff_false, and_true, true_and, and_false, false_and, reduceIte, ite_true, ite_false, eq_self] at *)) <;> omega) ?_
      refine wa_lreturn rfl rfl ?_
      exact ⟨_, rfl, Fs2, trivial⟩
    · refine wa_lconst (v := 0) (by decide) ?_
      refine wa_goto o_X12_value_50 (by decide) ?_
      refine wa_lreturn rfl rfl ?_
      exact ⟨_, rfl, Fs2, trivial⟩
  · refine wa_iload_n (i := 1) rfl rfl ?_
    refine wa_i2l ?_
    refine wa_lconst (v := 0) (by decide) ?_
    refine wa_aload_n (i := 0) rfl rfl ?_
    refine wa_geti ck_12 fl_12_979 ly_84 ?_
    refine wa_iconst (v := 1) (by decide) ?_
    refine wa_isub ?_
    refine wa_top (fun v4 hv4 => ?_)
    have tv4 := i_subT hv4
    clear hv4
    refine wa_i2l ?_
    refine wa_Si (d9 := d - 1) [.long _, .long _, .long _] [.ref 84] (sp_X12_in G (d := d - 1) (by omega) σ _ _ _) (rfl) rfl rfl (zr (by omega)) mk_X12_in ml_12_504 (Nat.le_of_ble_eq_true rfl) (fun x6 s5 hs5 => ?_)
    obtain ⟨bx6, ex6, zs5, cx6_1, -⟩ := pB hs5
    subst ex6
    subst zs5
    refine wa_if_eq o_X12_value_29 (by decide) (fun h7 => ?_) (fun h7 => ?_)
    · replace h7 := bI_f (b := bx6) (rfl) h7
      have uh7_0 := iff_f cx6_1 h7
      refine wa_iconst (v := 1) (by decide) ?_
      refine wa_puti ck_12 fl_12_3 ly_84 (fun s8 hs8 => ?_)
      have Fs8 : Fm [] [0] σ s8 := by rw [hs8]; exact Fm.si (Fm.rf [] [0] σ) rfl
      refine wa_aload_n (i := 0) rfl rfl ?_
      refine wa_geti ck_12 fl_12_3 ly_84 ?_
      refine wa_rw (nxe_gi_si hs8) ?_
      refine wa_if_le o_X12_value_44 (by decide) (fun h9 => ?_) (fun h9 => ?_)
      · refine wa_aload_n (i := 0) rfl rfl ?_
        refine wa_getr ck_12 fl_12_352 ly_84 rf_84_138 ?_
        refine wa_iload_n (i := 1) rfl rfl ?_
        refine wa_lald ly_118 (by ((try simp only [vp_in_iff, Int32.lt_iff_toInt_lt, Int32.le_iff_toInt_le, ← Int32.toInt_inj, Int32.reduceToInt, n_1, n_2, n_8, Int32.toNatClampNeg, Int64.lt_iff_toInt_lt, Int64.le_iff_toInt_le, ← Int64.toInt_inj, Int64.reduceToInt, Int32.toInt_toInt64, lg_cmp_ge, lg_cmp_le, lg_cmp_gt, lg_cmp_lt, lg_cmp_eq, Bool.false_eq_true, Bool.true_eq_false, reduceCtorEq, false_iff, true_iff, iff_true, iff_false, and_true, true_and, and_false, false_and, reduceIte, ite_true, ite_false, eq_self] at *)) <;> omega) ?_
        refine wa_lreturn rfl rfl ?_
        exact ⟨_, rfl, Fs8, trivial⟩
      · refine wa_lconst (v := 0) (by decide) ?_
        refine wa_goto o_X12_value_50 (by decide) ?_
        refine wa_lreturn rfl rfl ?_
        exact ⟨_, rfl, Fs8, trivial⟩
    · replace h7 := bI_t (b := bx6) (rfl) h7
      have uh7_0 := iff_t cx6_1 h7
      refine wa_iconst (v := 0) (by decide) ?_
      refine wa_goto o_X12_value_30 (by decide) ?_
      refine wa_puti ck_12 fl_12_3 ly_84 (fun s10 hs10 => ?_)
      have Fs10 : Fm [] [0] σ s10 := by rw [hs10]; exact Fm.si (Fm.rf [] [0] σ) rfl
      refine wa_aload_n (i := 0) rfl rfl ?_
      refine wa_geti ck_12 fl_12_3 ly_84 ?_
      refine wa_rw (nxe_gi_si hs10) ?_
      refine wa_if_le o_X12_value_44 (by decide) (fun h11 => ?_) (fun h11 => ?_)
      · refine wa_aload_n (i := 0) rfl rfl ?_
        refine wa_getr ck_12 fl_12_352 ly_84 rf_84_138 ?_
        refine wa_iload_n (i := 1) rfl rfl ?_
        refine wa_lald ly_118 (by ((try simp only [vp_in_iff, Int32.lt_iff_toInt_lt, Int32.le_iff_toInt_le, ← Int32.toInt_inj, Int32.reduceToInt, n_1, n_2, n_8, Int32.toNatClampNeg, Int64.lt_iff_toInt_lt, Int64.le_iff_toInt_le, ← Int64.toInt_inj, Int64.reduceToInt, Int32.toInt_toInt64, lg_cmp_ge, lg_cmp_le, lg_cmp_gt, lg_cmp_lt, lg_cmp_eq, Bool.false_eq_true, Bool.true_eq_false, reduceCtorEq, false_iff, true_iff, iff_true, iff_false, and_true, true_and, and_false, false_and, reduceIte, ite_true, ite_false, eq_self] at *)) <;> omega) ?_
        refine wa_lreturn rfl rfl ?_
        exact ⟨_, rfl, Fs10, trivial⟩
      · refine wa_lconst (v := 0) (by decide) ?_
        refine wa_goto o_X12_value_50 (by decide) ?_
        refine wa_lreturn rfl rfl ?_
        exact ⟨_, rfl, Fs10, trivial⟩
set_option maxHeartbeats 4000000 in
theorem sp_X12_height (G : kG9) {d : Nat} (hd : 0 ≤ d) (σ : St) : Ct G M_X12_height d [.ref 84] σ (fun r σ' => ∃ x : Int32, r = some (.int x) ∧ Fm [] [0] σ σ' ∧ True) := by
  refine wa_start (by decide) rfl (Nat.le_of_ble_eq_true rfl) (lv := [(0, .ref 84)]) rfl o_X12_height_0 rfl ?_
  refine wa_aload_n (i := 0) rfl rfl ?_
  refine wa_iconst (v := 0) (by decide) ?_
  refine wa_puti ck_12 fl_12_3 ly_84 (fun s1 hs1 => ?_)
  have Fs1 : Fm [] [0] σ s1 := by rw [hs1]; exact Fm.si (Fm.rf [] [0] σ) rfl
  refine wa_aload_n (i := 0) rfl rfl ?_
  refine wa_geti ck_12 fl_12_355 ly_84 ?_
  refine wa_rw (nxk_gi_si hs1 (by decide)) ?_
  refine wa_ireturn rfl rfl ?_
  exact ⟨_, rfl, Fs1, trivial⟩
set_option maxHeartbeats 4000000 in
theorem sp_X12_max (G : kG9) {d : Nat} (hd : 0 ≤ d) (σ : St) (a0 : Int64) (a1 : Int64) : Ct G M_X12_max d [.long a0, .long a1] σ (fun r σ' => ∃ x : Int64, r = some (.long x) ∧ σ = σ' ∧ True) := by
  refine wa_start (by decide) rfl (Nat.le_of_ble_eq_true rfl) (lv := [(0, .long a0), (2, .long a1)]) rfl o_X12_max_0 rfl ?_
  refine wa_lload_n (i := 0) rfl rfl ?_
  refine wa_lload_n (i := 2) rfl rfl ?_
  refine wa_lcmp ?_
  refine wa_top (fun v1 hv1 => ?_)
  have tv1 := i_cmpT hv1
  clear hv1
  refine wa_if_le o_X12_max_10 (by decide) (fun h2 => ?_) (fun h2 => ?_)
  · refine wa_lload_n (i := 2) rfl rfl ?_
    refine wa_lreturn rfl rfl ?_
    exact ⟨_, rfl, rfl, trivial⟩
  · refine wa_lload_n (i := 0) rfl rfl ?_
    refine wa_goto o_X12_max_11 (by decide) ?_
    refine wa_lreturn rfl rfl ?_
    exact ⟨_, rfl, rfl, trivial⟩
set_option maxHeartbeats 4000000 in
theorem sp_X12_weigh (G : kG9) {d : Nat} (hd : 0 ≤ d) (σ : St) (a0 : Int32) (a1 : Int32) (r1 : 0 ≤ (gi σ 84 32).toInt ∧ (gi σ 84 32).toInt ≤ 4) : Ct G M_X12_weigh d [.ref 84, .int a0, .int a1] σ (fun r σ' => ∃ x : Int64, r = some (.long x) ∧ σ = σ' ∧ True) := by
  refine wa_start (by decide) rfl (Nat.le_of_ble_eq_true rfl) (lv := [(0, .ref 84), (1, .int a0), (2, .int a1)]) rfl o_X12_weigh_0 rfl ?_
  have ua0 := Int32.toInt_lt a0
  have wa0 := Int32.le_toInt a0
  have ua1 := Int32.toInt_lt a1
  have wa1 := Int32.le_toInt a1
  refine wa_lconst (v := 0) (by decide) ?_
  refine wa_lstore_nD (lv' := [(3, .long 0), (0, .ref 84), (1, .int a0), (2, .int a1)]) (i := 3) rfl (by decide) rfl ?_
  refine wa_iconst (v := 0) (by decide) ?_
  refine wa_istoreD (lv' := [(5, .int 0), (3, .long 0), (0, .ref 84), (1, .int a0), (2, .int a1)]) (by decide) rfl ?_
  refine wa_pick [2, 3, 4, 1, 0] rfl ?_
  have hi2 : ∀ (n9_5 : Nat) (l3 : Int64) (l5 : Int32), ((0 ≤ l5.toInt) ∧ (True)) → (2147483647 - l5.toInt).toNat = n9_5 → WA G M_X12_weigh (ZM G M_X12_weigh d (fun r σ' => ∃ x : Int64, r = some (.long x) ∧ σ = σ' ∧ True)) B_X12_weigh_5 [(0, .ref 84), (1, .int a0), (2, .int a1), (3, .long l3), (5, .int l5)] [] σ := by
    intro n9_5
    induction n9_5 using Nat.strongRecOn with
    | _ n9_5 ih1 =>
      intro l3 l5  i9 m9_5
      obtain ⟨jhi2_0, -⟩ := i9
      have ul5 := Int32.toInt_lt l5
      have wl5 := Int32.le_toInt l5
      refine wa_iload rfl ?_
      refine wa_aload_n (i := 0) rfl rfl ?_
      refine wa_geti ck_12 fl_12_815 ly_84 ?_
      refine wa_icmp_ge o_X12_weigh_47 (by decide) (fun h3 => ?_) (fun h3 => ?_)
      · refine wa_lload_n (i := 3) rfl rfl ?_
        refine wa_lreturn rfl rfl ?_
        exact ⟨_, rfl, rfl, trivial⟩
      · have mh3 := nle_mx h3
        refine wa_lload_n (i := 3) rfl rfl ?_
        refine wa_iload_n (i := 1) rfl rfl ?_
        refine wa_iload rfl ?_
        refine wa_ishr ?_
        refine wa_top (fun v4 hv4 => ?_)
        clear hv4
        refine wa_iconst (v := 1) (by decide) ?_
        refine wa_iand ?_
        refine wa_top (fun v5 hv5 => ?_)
        have tv5 := i_andT hv5
        clear hv5
        refine wa_iconst (v := 1) (by decide) ?_
        refine wa_icmp_ne o_X12_weigh_38 (by decide) (fun h6 => ?_) (fun h6 => ?_)
        · refine wa_lconst (v := 0) (by decide) ?_
          refine wa_ladd ?_
          refine wa_topl (fun v7 hv7 => ?_)
          have tv7 := a_l_remU hv7
          clear hv7
          refine wa_lstore_nD (lv' := [(3, .long v7), (0, .ref 84), (1, .int a0), (2, .int a1), (5, .int l5)]) (i := 3) rfl (by decide) rfl ?_
          refine wa_iinc (v := (1)) (lv' := fun y8 => [(5, .int y8), (3, .long v7), (0, .ref 84), (1, .int a0), (2, .int a1)]) (by decide) rfl (by decide) (fun _ => rfl) (fun y8 hy8 => ?_)
          have ty8 := i_addT hy8.symm
          clear hy8
          refine wa_goto o_X12_weigh_5 (by decide) ?_
          refine wa_pick [2, 3, 4, 1, 0] rfl ?_
          exact ih1 _ (by ((try simp only [vp_in_iff, Int32.lt_iff_toInt_lt, Int32.le_iff_toInt_le, ← Int32.toInt_inj, Int32.reduceToInt, n_1, n_2, n_8, Int32.toNatClampNeg, Int64.lt_iff_toInt_lt, Int64.le_iff_toInt_le, ← Int64.toInt_inj, Int64.reduceToInt, Int32.toInt_toInt64, lg_cmp_ge, lg_cmp_le, lg_cmp_gt, lg_cmp_lt, lg_cmp_eq, Bool.false_eq_true, Bool.true_eq_false, reduceCtorEq, false_iff, true_iff, iff_true, iff_false, and_true, true_and, and_false, false_and, reduceIte, ite_true, ite_false, eq_self] at *)) <;> omega) _ _ ⟨(by ((try simp only [vp_in_iff, Int32.lt_iff_toInt_lt, Int32.le_iff_toInt_le, ← Int32.toInt_inj, Int32.reduceToInt, n_1, n_2, n_8, Int32.toNatClampNeg, Int64.lt_iff_toInt_lt, Int64.le_iff_toInt_le, ← Int64.toInt_inj, Int64.reduceToInt, Int32.toInt_toInt64, lg_cmp_ge, lg_cmp_le, lg_cmp_gt, lg_cmp_lt, lg_cmp_eq, Bool.false_eq_true, Bool.true_eq_false, reduceCtorEq, false_iff, true_iff, iff_true, iff_false, and_true, true_and, and_false, false_and, reduceIte, ite_true, ite_false, eq_self] at *)) <;> omega), trivial⟩ rfl
        · refine wa_iload_n (i := 2) rfl rfl ?_
          refine wa_i2l ?_
          refine wa_aload_n (i := 0) rfl rfl ?_
          refine wa_getr ck_12 fl_12_358 ly_84 rf_84_141 ?_
          refine wa_iload rfl ?_
          refine wa_lald ly_117 (by ((try simp only [vp_in_iff, Int32.lt_iff_toInt_lt, Int32.le_iff_toInt_le, ← Int32.toInt_inj, Int32.reduceToInt, n_1, n_2, n_8, Int32.toNatClampNeg, Int64.lt_iff_toInt_lt, Int64.le_iff_toInt_le, ← Int64.toInt_inj, Int64.reduceToInt, Int32.toInt_toInt64, lg_cmp_ge, lg_cmp_le, lg_cmp_gt, lg_cmp_lt, lg_cmp_eq, Bool.false_eq_true, Bool.true_eq_false, reduceCtorEq, false_iff, true_iff, iff_true, iff_false, and_true, true_and, and_false, false_and, reduceIte, ite_true, ite_false, eq_self] at *)) <;> omega) ?_
          refine wa_lmul ?_
          refine wa_topl (fun v9 hv9 => ?_)
          have tv9 := m_l_remU hv9
          clear hv9
          refine wa_goto o_X12_weigh_39 (by decide) ?_
          refine wa_ladd ?_
          refine wa_topl (fun v10 hv10 => ?_)
          have tv10 := a_l_remU hv10
          clear hv10
          refine wa_lstore_nD (lv' := [(3, .long v10), (0, .ref 84), (1, .int a0), (2, .int a1), (5, .int l5)]) (i := 3) rfl (by decide) rfl ?_
          refine wa_iinc (v := (1)) (lv' := fun y11 => [(5, .int y11), (3, .long v10), (0, .ref 84), (1, .int a0), (2, .int a1)]) (by decide) rfl (by decide) (fun _ => rfl) (fun y11 hy11 => ?_)
          have ty11 := i_addT hy11.symm
          clear hy11
          refine wa_goto o_X12_weigh_5 (by decide) ?_
          refine wa_pick [2, 3, 4, 1, 0] rfl ?_
          exact ih1 _ (by ((try simp only [vp_in_iff, Int32.lt_iff_toInt_lt, Int32.le_iff_toInt_le, ← Int32.toInt_inj, Int32.reduceToInt, n_1, n_2, n_8, Int32.toNatClampNeg, Int64.lt_iff_toInt_lt, Int64.le_iff_toInt_le, ← Int64.toInt_inj, Int64.reduceToInt, Int32.toInt_toInt64, lg_cmp_ge, lg_cmp_le, lg_cmp_gt, lg_cmp_lt, lg_cmp_eq, Bool.false_eq_true, Bool.true_eq_false, reduceCtorEq, false_iff, true_iff, iff_true, iff_false, and_true, true_and, and_false, false_and, reduceIte, ite_true, ite_false, eq_self] at *)) <;> omega) _ _ ⟨(by ((try simp only [vp_in_iff, Int32.lt_iff_toInt_lt, Int32.le_iff_toInt_le, ← Int32.toInt_inj, Int32.reduceToInt, n_1, n_2, n_8, Int32.toNatClampNeg, Int64.lt_iff_toInt_lt, Int64.le_iff_toInt_le, ← Int64.toInt_inj, Int64.reduceToInt, Int32.toInt_toInt64, lg_cmp_ge, lg_cmp_le, lg_cmp_gt, lg_cmp_lt, lg_cmp_eq, Bool.false_eq_true, Bool.true_eq_false, reduceCtorEq, false_iff, true_iff, iff_true, iff_false, and_true, true_and, and_false, false_and, reduceIte, ite_true, ite_false, eq_self] at *)) <;> omega), trivial⟩ rfl
  exact hi2 _ _ _ ⟨(by ((try simp only [vp_in_iff, Int32.lt_iff_toInt_lt, Int32.le_iff_toInt_le, ← Int32.toInt_inj, Int32.reduceToInt, n_1, n_2, n_8, Int32.toNatClampNeg, Int64.lt_iff_toInt_lt, Int64.le_iff_toInt_le, ← Int64.toInt_inj, Int64.reduceToInt, Int32.toInt_toInt64, lg_cmp_ge, lg_cmp_le, lg_cmp_gt, lg_cmp_lt, lg_cmp_eq, Bool.false_eq_true, Bool.true_eq_false, reduceCtorEq, false_iff, true_iff, iff_true, iff_false, and_true, true_and, and_false, false_and, reduceIte, ite_true, ite_false, eq_self] at *)) <;> omega), trivial⟩ rfl
set_option maxHeartbeats 4000000 in
theorem sp_X12_mostAt (G : kG9) {d : Nat} (hd : 1 ≤ d) (σ : St) (a0 : Int32) (a1 : Int32) (r1 : 0 ≤ (gi σ 84 32).toInt ∧ (gi σ 84 32).toInt ≤ 4) (r2 : 0 ≤ (gi σ 84 131).toInt ∧ (gi σ 84 131).toInt ≤ 16) (A_124 : AR ap_124 σ 124) (A_128 : AR ap_128 σ 128) : Ct G M_X12_mostAt d [.ref 84, .int a0, .int a1] σ (fun r σ' => ∃ x : Int64, r = some (.long x) ∧ σ = σ' ∧ True) := by
  refine wa_start (by decide) rfl (Nat.le_of_ble_eq_true rfl) (lv := [(0, .ref 84), (1, .int a0), (2, .int a1)]) rfl o_X12_mostAt_0 rfl ?_
  have ua0 := Int32.toInt_lt a0
  have wa0 := Int32.le_toInt a0
  have ua1 := Int32.toInt_lt a1
  have wa1 := Int32.le_toInt a1
  refine wa_ldc2 (v := (-9223372036854775808)) (allW_in (kT_14 _ (List.mem_of_getElem? (i := 167) rfl)) rfl) ?_
  refine wa_lstore_nD (lv' := [(3, .long (-9223372036854775808)), (0, .ref 84), (1, .int a0), (2, .int a1)]) (i := 3) rfl (by decide) rfl ?_
  refine wa_iconst (v := 0) (by decide) ?_
  refine wa_istoreD (lv' := [(5, .int 0), (3, .long (-9223372036854775808)), (0, .ref 84), (1, .int a0), (2, .int a1)]) (by decide) rfl ?_
  refine wa_pick [2, 3, 4, 1, 0] rfl ?_
  have hi2 : ∀ (n9_7 : Nat) (l3 : Int64) (l5 : Int32), ((0 ≤ l5.toInt) ∧ (True)) → (2147483647 - l5.toInt).toNat = n9_7 → WA G M_X12_mostAt (ZM G M_X12_mostAt d (fun r σ' => ∃ x : Int64, r = some (.long x) ∧ σ = σ' ∧ True)) B_X12_mostAt_7 [(0, .ref 84), (1, .int a0), (2, .int a1), (3, .long l3), (5, .int l5)] [] σ := by
    intro n9_7
    induction n9_7 using Nat.strongRecOn with
    | _ n9_7 ih1 =>
      intro l3 l5  i9 m9_7
      obtain ⟨jhi2_0, -⟩ := i9
      have ul5 := Int32.toInt_lt l5
      have wl5 := Int32.le_toInt l5
      refine wa_iload rfl ?_
      refine wa_aload_n (i := 0) rfl rfl ?_
      refine wa_geti ck_12 fl_12_960 ly_84 ?_
      refine wa_icmp_ge o_X12_mostAt_134 (by decide) (fun h3 => ?_) (fun h3 => ?_)
      · refine wa_lload_n (i := 3) rfl rfl ?_
        refine wa_ldc2 (v := (36028797018963968)) (allW_in (kT_14 _ (List.mem_of_getElem? (i := 181) rfl)) rfl) ?_
        refine wa_lcmp ?_
        refine wa_top (fun v4 hv4 => ?_)
        have tv4 := i_cmpT hv4
        clear hv4
        refine wa_if_le o_X12_mostAt_148 (by decide) (fun h5 => ?_) (fun h5 => ?_)
        · refine wa_lload_n (i := 3) rfl rfl ?_
          refine wa_lreturn rfl rfl ?_
          exact ⟨_, rfl, rfl, trivial⟩
        · refine wa_ldc2 (v := (9223372036854775807)) (allW_in (kT_14 _ (List.mem_of_getElem? (i := 168) rfl)) rfl) ?_
          refine wa_goto o_X12_mostAt_149 (by decide) ?_
          refine wa_lreturn rfl rfl ?_
          exact ⟨_, rfl, rfl, trivial⟩
      · have mh3 := nle_mx h3
        refine wa_aload_n (i := 0) rfl rfl ?_
        refine wa_getr ck_12 fl_12_334 ly_84 rf_84_132 ?_
        refine wa_iload_n (i := 1) rfl rfl ?_
        refine wa_iald ly_124 (by ((try simp only [vp_in_iff, Int32.lt_iff_toInt_lt, Int32.le_iff_toInt_le, ← Int32.toInt_inj, Int32.reduceToInt, n_1, n_2, n_8, Int32.toNatClampNeg, Int64.lt_iff_toInt_lt, Int64.le_iff_toInt_le, ← Int64.toInt_inj, Int64.reduceToInt, Int32.toInt_toInt64, lg_cmp_ge, lg_cmp_le, lg_cmp_gt, lg_cmp_lt, lg_cmp_eq, Bool.false_eq_true, Bool.true_eq_false, reduceCtorEq, false_iff, true_iff, iff_true, iff_false, and_true, true_and, and_false, false_and, reduceIte, ite_true, ite_false, eq_self] at *)) <;> omega) ?_
        refine wa_top (fun v6 hv6 => ?_)
        have rv6 : 0 ≤ v6.toInt ∧ v6.toInt ≤ 65535 := by rw [← hv6]; exact ar_at A_124 _
        clear hv6
        refine wa_iload rfl ?_
        refine wa_ishr ?_
        refine wa_top (fun v7 hv7 => ?_)
        clear hv7
        refine wa_iconst (v := 1) (by decide) ?_
        refine wa_iand ?_
        refine wa_top (fun v8 hv8 => ?_)
        have tv8 := i_andT hv8
        clear hv8
        refine wa_iconst (v := 1) (by decide) ?_
        refine wa_icmp_ne o_X12_mostAt_45 (by decide) (fun h9 => ?_) (fun h9 => ?_)
        · refine wa_aload_n (i := 0) rfl rfl ?_
          refine wa_getr ck_12 fl_12_361 ly_84 rf_84_143 ?_
          refine wa_aload_n (i := 0) rfl rfl ?_
          refine wa_getr ck_12 fl_12_321 ly_84 rf_84_126 ?_
          refine wa_bipush (v := 16) (by decide) ?_
          refine wa_iload_n (i := 1) rfl rfl ?_
          refine wa_imul ?_
          refine wa_top (fun v10 hv10 => ?_)
          have tv10 := i_mulT hv10
          clear hv10
          refine wa_iload rfl ?_
          refine wa_iadd ?_
          refine wa_top (fun v11 hv11 => ?_)
          have tv11 := i_addT hv11
          clear hv11
          refine wa_iald ly_128 (by ((try simp only [vp_in_iff, Int32.lt_iff_toInt_lt, Int32.le_iff_toInt_le, ← Int32.toInt_inj, Int32.reduceToInt, n_1, n_2, n_8, Int32.toNatClampNeg, Int64.lt_iff_toInt_lt, Int64.le_iff_toInt_le, ← Int64.toInt_inj, Int64.reduceToInt, Int32.toInt_toInt64, lg_cmp_ge, lg_cmp_le, lg_cmp_gt, lg_cmp_lt, lg_cmp_eq, Bool.false_eq_true, Bool.true_eq_false, reduceCtorEq, false_iff, true_iff, iff_true, iff_false, and_true, true_and, and_false, false_and, reduceIte, ite_true, ite_false, eq_self] at *)) <;> omega) ?_
          refine wa_top (fun v12 hv12 => ?_)
          have rv12 : 0 ≤ v12.toInt ∧ v12.toInt ≤ 2999 := by rw [← hv12]; exact ar_at A_128 _
          clear hv12
          refine wa_lald ly_116 (by ((try simp only [vp_in_iff, Int32.lt_iff_toInt_lt, Int32.le_iff_toInt_le, ← Int32.toInt_inj, Int32.reduceToInt, n_1, n_2, n_8, Int32.toNatClampNeg, Int64.lt_iff_toInt_lt, Int64.le_iff_toInt_le, ← Int64.toInt_inj, Int64.reduceToInt, Int32.toInt_toInt64, lg_cmp_ge, lg_cmp_le, lg_cmp_gt, lg_cmp_lt, lg_cmp_eq, Bool.false_eq_true, Bool.true_eq_false, reduceCtorEq, false_iff, true_iff, iff_true, iff_false, and_true, true_and, and_false, false_and, reduceIte, ite_true, ite_false, eq_self] at *)) <;> omega) ?_
          refine wa_lstoreD (lv' := [(6, .long (gl σ 116 (v12).toNatClampNeg)), (0, .ref 84), (1, .int a0), (2, .int a1), (3, .long l3), (5, .int l5)]) (by decide) rfl ?_
          refine wa_lload rfl ?_
          refine wa_ldc2 (v := (9223372036854775807)) (allW_in (kT_14 _ (List.mem_of_getElem? (i := 168) rfl)) rfl) ?_
          refine wa_lcmp ?_
          refine wa_top (fun v13 hv13 => ?_)
          have tv13 := i_cmpT hv13
          clear hv13
          refine wa_if_ne o_X12_mostAt_77 (by decide) (fun h14 => ?_) (fun h14 => ?_)
          · refine wa_lload rfl ?_
            refine wa_ldc2 (v := (-9223372036854775808)) (allW_in (kT_14 _ (List.mem_of_getElem? (i := 167) rfl)) rfl) ?_
            refine wa_lcmp ?_
            refine wa_top (fun v15 hv15 => ?_)
            have tv15 := i_cmpT hv15
            clear hv15
            refine wa_if_eq o_X12_mostAt_128 (by decide) (fun h16 => ?_) (fun h16 => ?_)
            · refine wa_iinc (v := (1)) (lv' := fun y17 => [(5, .int y17), (6, .long (gl σ 116 (v12).toNatClampNeg)), (0, .ref 84), (1, .int a0), (2, .int a1), (3, .long l3)]) (by decide) rfl (by decide) (fun _ => rfl) (fun y17 hy17 => ?_)
              have ty17 := i_addT hy17.symm
              clear hy17
              refine wa_goto o_X12_mostAt_7 (by decide) ?_
              refine wa_pick [2, 3, 4, 5, 0] rfl ?_
              exact ih1 _ (by ((try simp only [vp_in_iff, Int32.lt_iff_toInt_lt, Int32.le_iff_toInt_le, ← Int32.toInt_inj, Int32.reduceToInt, n_1, n_2, n_8, Int32.toNatClampNeg, Int64.lt_iff_toInt_lt, Int64.le_iff_toInt_le, ← Int64.toInt_inj, Int64.reduceToInt, Int32.toInt_toInt64, lg_cmp_ge, lg_cmp_le, lg_cmp_gt, lg_cmp_lt, lg_cmp_eq, Bool.false_eq_true, Bool.true_eq_false, reduceCtorEq, false_iff, true_iff, iff_true, iff_false, and_true, true_and, and_false, false_and, reduceIte, ite_true, ite_false, eq_self] at *)) <;> omega) _ _ ⟨(by ((try simp only [vp_in_iff, Int32.lt_iff_toInt_lt, Int32.le_iff_toInt_le, ← Int32.toInt_inj, Int32.reduceToInt, n_1, n_2, n_8, Int32.toNatClampNeg, Int64.lt_iff_toInt_lt, Int64.le_iff_toInt_le, ← Int64.toInt_inj, Int64.reduceToInt, Int32.toInt_toInt64, lg_cmp_ge, lg_cmp_le, lg_cmp_gt, lg_cmp_lt, lg_cmp_eq, Bool.false_eq_true, Bool.true_eq_false, reduceCtorEq, false_iff, true_iff, iff_true, iff_false, and_true, true_and, and_false, false_and, reduceIte, ite_true, ite_false, eq_self] at *)) <;> omega), trivial⟩ rfl
            · refine wa_ldc2 (v := (2)) (allW_in (kT_13 _ (List.mem_of_getElem? (i := 18) rfl)) rfl) ?_
              refine wa_lload rfl ?_
              refine wa_lmul ?_
              refine wa_topl (fun v18 hv18 => ?_)
              have tv18 := m_l_remU hv18
              clear hv18
              refine wa_aload_n (i := 0) rfl rfl ?_
              refine wa_iload rfl ?_
              refine wa_iload_n (i := 2) rfl rfl ?_
              refine wa_Vl (d9 := d - 1) [.int _, .int _] [.long v18] (sp_X12_weigh G (d := d - 1) (by omega) σ _ _ (by first | assumption | exact Or.inl rfl | exact Or.inr rfl | (((try simp only [vp_in_iff, Int32.lt_iff_toInt_lt, Int32.le_iff_toInt_le, ← Int32.toInt_inj, Int32.reduceToInt, n_1, n_2, n_8, Int32.toNatClampNeg, Int64.lt_iff_toInt_lt, Int64.le_iff_toInt_le, ← Int64.toInt_inj, Int64.reduceToInt, Int32.toInt_toInt64, lg_cmp_ge, lg_cmp_le, lg_cmp_gt, lg_cmp_lt, lg_cmp_eq, Bool.false_eq_true, Bool.true_eq_false, reduceCtorEq, false_iff, true_iff, iff_true, iff_false, and_true, true_and, and_false, false_and, reduceIte, ite_true, ite_false, eq_self] at *)) <;> omega))) (rfl) rfl rfl (zr (by omega)) mk_X12_weigh ly_84 ml_12_1005 (Nat.le_of_ble_eq_true rfl) (fun x20 s19 hs19 => ?_)
              obtain ⟨zs19, -⟩ := pL hs19
              subst zs19
              refine wa_ladd ?_
              refine wa_topl (fun v21 hv21 => ?_)
              have tv21 := a_l_remU hv21
              clear hv21
              refine wa_lstoreD (lv' := [(8, .long v21), (6, .long (gl σ 116 (v12).toNatClampNeg)), (0, .ref 84), (1, .int a0), (2, .int a1), (3, .long l3), (5, .int l5)]) (by decide) rfl ?_
              refine wa_lload rfl ?_
              refine wa_ldc2 (v := (-1152921504606846976)) (allW_in (kT_14 _ (List.mem_of_getElem? (i := 180) rfl)) rfl) ?_
              refine wa_lcmp ?_
              refine wa_top (fun v22 hv22 => ?_)
              have tv22 := i_cmpT hv22
              clear hv22
              refine wa_if_ge o_X12_mostAt_117 (by decide) (fun h23 => ?_) (fun h23 => ?_)
              · refine wa_lload rfl ?_
                refine wa_lstoreD (lv' := [(8, .long v21), (6, .long (gl σ 116 (v12).toNatClampNeg)), (0, .ref 84), (1, .int a0), (2, .int a1), (3, .long l3), (5, .int l5)]) (by decide) rfl ?_
                refine wa_lload_n (i := 3) rfl rfl ?_
                refine wa_lload rfl ?_
                refine wa_Sl (d9 := d - 1) [.long _, .long _] [] (sp_X12_max G (d := d - 1) (by omega) σ _ _) (rfl) rfl rfl (zr (by omega)) mk_X12_max ml_12_1009 (Nat.le_of_ble_eq_true rfl) (fun x25 s24 hs24 => ?_)
                obtain ⟨zs24, -⟩ := pL hs24
                subst zs24
                refine wa_lstore_nD (lv' := [(3, .long x25), (8, .long v21), (6, .long (gl σ 116 (v12).toNatClampNeg)), (0, .ref 84), (1, .int a0), (2, .int a1), (5, .int l5)]) (i := 3) rfl (by decide) rfl ?_
                refine wa_iinc (v := (1)) (lv' := fun y26 => [(5, .int y26), (3, .long x25), (8, .long v21), (6, .long (gl σ 116 (v12).toNatClampNeg)), (0, .ref 84), (1, .int a0), (2, .int a1)]) (by decide) rfl (by decide) (fun _ => rfl) (fun y26 hy26 => ?_)
                have ty26 := i_addT hy26.symm
                clear hy26
                refine wa_goto o_X12_mostAt_7 (by decide) ?_
                refine wa_pick [4, 5, 6, 1, 0] rfl ?_
                exact ih1 _ (by ((try simp only [vp_in_iff, Int32.lt_iff_toInt_lt, Int32.le_iff_toInt_le, ← Int32.toInt_inj, Int32.reduceToInt, n_1, n_2, n_8, Int32.toNatClampNeg, Int64.lt_iff_toInt_lt, Int64.le_iff_toInt_le, ← Int64.toInt_inj, Int64.reduceToInt, Int32.toInt_toInt64, lg_cmp_ge, lg_cmp_le, lg_cmp_gt, lg_cmp_lt, lg_cmp_eq, Bool.false_eq_true, Bool.true_eq_false, reduceCtorEq, false_iff, true_iff, iff_true, iff_false, and_true, true_and, and_false, false_and, reduceIte, ite_true, ite_false, eq_self] at *)) <;> omega) _ _ ⟨(by ((try simp only [vp_in_iff, Int32.lt_iff_toInt_lt, Int32.le_iff_toInt_le, ← Int32.toInt_inj, Int32.reduceToInt, n_1, n_2, n_8, Int32.toNatClampNeg, Int64.lt_iff_toInt_lt, Int64.le_iff_toInt_le, ← Int64.toInt_inj, Int64.reduceToInt, Int32.toInt_toInt64, lg_cmp_ge, lg_cmp_le, lg_cmp_gt, lg_cmp_lt, lg_cmp_eq, Bool.false_eq_true, Bool.true_eq_false, reduceCtorEq, false_iff, true_iff, iff_true, iff_false, and_true, true_and, and_false, false_and, reduceIte, ite_true, ite_false, eq_self] at *)) <;> omega), trivial⟩ rfl
              · refine wa_ldc2 (v := (-1152921504606846976)) (allW_in (kT_14 _ (List.mem_of_getElem? (i := 180) rfl)) rfl) ?_
                refine wa_goto o_X12_mostAt_119 (by decide) ?_
                refine wa_lstoreD (lv' := [(8, .long (-1152921504606846976)), (6, .long (gl σ 116 (v12).toNatClampNeg)), (0, .ref 84), (1, .int a0), (2, .int a1), (3, .long l3), (5, .int l5)]) (by decide) rfl ?_
                refine wa_lload_n (i := 3) rfl rfl ?_
                refine wa_lload rfl ?_
                refine wa_Sl (d9 := d - 1) [.long _, .long _] [] (sp_X12_max G (d := d - 1) (by omega) σ _ _) (rfl) rfl rfl (zr (by omega)) mk_X12_max ml_12_1009 (Nat.le_of_ble_eq_true rfl) (fun x28 s27 hs27 => ?_)
                obtain ⟨zs27, -⟩ := pL hs27
                subst zs27
                refine wa_lstore_nD (lv' := [(3, .long x28), (8, .long (-1152921504606846976)), (6, .long (gl σ 116 (v12).toNatClampNeg)), (0, .ref 84), (1, .int a0), (2, .int a1), (5, .int l5)]) (i := 3) rfl (by decide) rfl ?_
                refine wa_iinc (v := (1)) (lv' := fun y29 => [(5, .int y29), (3, .long x28), (8, .long (-1152921504606846976)), (6, .long (gl σ 116 (v12).toNatClampNeg)), (0, .ref 84), (1, .int a0), (2, .int a1)]) (by decide) rfl (by decide) (fun _ => rfl) (fun y29 hy29 => ?_)
                have ty29 := i_addT hy29.symm
                clear hy29
                refine wa_goto o_X12_mostAt_7 (by decide) ?_
                refine wa_pick [4, 5, 6, 1, 0] rfl ?_
                exact ih1 _ (by ((try simp only [vp_in_iff, Int32.lt_iff_toInt_lt, Int32.le_iff_toInt_le, ← Int32.toInt_inj, Int32.reduceToInt, n_1, n_2, n_8, Int32.toNatClampNeg, Int64.lt_iff_toInt_lt, Int64.le_iff_toInt_le, ← Int64.toInt_inj, Int64.reduceToInt, Int32.toInt_toInt64, lg_cmp_ge, lg_cmp_le, lg_cmp_gt, lg_cmp_lt, lg_cmp_eq, Bool.false_eq_true, Bool.true_eq_false, reduceCtorEq, false_iff, true_iff, iff_true, iff_false, and_true, true_and, and_false, false_and, reduceIte, ite_true, ite_false, eq_self] at *)) <;> omega) _ _ ⟨(by ((try simp only [vp_in_iff, Int32.lt_iff_toInt_lt, Int32.le_iff_toInt_le, ← Int32.toInt_inj, Int32.reduceToInt, n_1, n_2, n_8, Int32.toNatClampNeg, Int64.lt_iff_toInt_lt, Int64.le_iff_toInt_le, ← Int64.toInt_inj, Int64.reduceToInt, Int32.toInt_toInt64, lg_cmp_ge, lg_cmp_le, lg_cmp_gt, lg_cmp_lt, lg_cmp_eq, Bool.false_eq_true, Bool.true_eq_false, reduceCtorEq, false_iff, true_iff, iff_true, iff_false, and_true, true_and, and_false, false_and, reduceIte, ite_true, ite_false, eq_self] at *)) <;> omega), trivial⟩ rfl
          · refine wa_ldc2 (v := (9223372036854775807)) (allW_in (kT_14 _ (List.mem_of_getElem? (i := 168) rfl)) rfl) ?_
            refine wa_lreturn rfl rfl ?_
            exact ⟨_, rfl, rfl, trivial⟩
        · refine wa_lload_n (i := 3) rfl rfl ?_
          refine wa_lconst (v := 0) (by decide) ?_
          refine wa_aload_n (i := 0) rfl rfl ?_
          refine wa_iload rfl ?_
          refine wa_iload_n (i := 2) rfl rfl ?_
          refine wa_Vl (d9 := d - 1) [.int _, .int _] [.long 0, .long l3] (sp_X12_weigh G (d := d - 1) (by omega) σ _ _ (by first | assumption | exact Or.inl rfl | exact Or.inr rfl | (((try simp only [vp_in_iff, Int32.lt_iff_toInt_lt, Int32.le_iff_toInt_le, ← Int32.toInt_inj, Int32.reduceToInt, n_1, n_2, n_8, Int32.toNatClampNeg, Int64.lt_iff_toInt_lt, Int64.le_iff_toInt_le, ← Int64.toInt_inj, Int64.reduceToInt, Int32.toInt_toInt64, lg_cmp_ge, lg_cmp_le, lg_cmp_gt, lg_cmp_lt, lg_cmp_eq, Bool.false_eq_true, Bool.true_eq_false, reduceCtorEq, false_iff, true_iff, iff_true, iff_false, and_true, true_and, and_false, false_and, reduceIte, ite_true, ite_false, eq_self] at *)) <;> omega))) (rfl) rfl rfl (zr (by omega)) mk_X12_weigh ly_84 ml_12_1005 (Nat.le_of_ble_eq_true rfl) (fun x31 s30 hs30 => ?_)
          obtain ⟨zs30, -⟩ := pL hs30
          subst zs30
          refine wa_lsub ?_
          refine wa_topl (fun v32 hv32 => ?_)
          have tv32 := s_l_remU hv32
          clear hv32
          refine wa_Sl (d9 := d - 1) [.long _, .long _] [] (sp_X12_max G (d := d - 1) (by omega) σ _ _) (rfl) rfl rfl (zr (by omega)) mk_X12_max ml_12_1009 (Nat.le_of_ble_eq_true rfl) (fun x34 s33 hs33 => ?_)
          obtain ⟨zs33, -⟩ := pL hs33
          subst zs33
          refine wa_lstore_nD (lv' := [(3, .long x34), (0, .ref 84), (1, .int a0), (2, .int a1), (5, .int l5)]) (i := 3) rfl (by decide) rfl ?_
          refine wa_aload_n (i := 0) rfl rfl ?_
          refine wa_getr ck_12 fl_12_361 ly_84 rf_84_143 ?_
          refine wa_aload_n (i := 0) rfl rfl ?_
          refine wa_getr ck_12 fl_12_321 ly_84 rf_84_126 ?_
          refine wa_bipush (v := 16) (by decide) ?_
          refine wa_iload_n (i := 1) rfl rfl ?_
          refine wa_imul ?_
          refine wa_top (fun v35 hv35 => ?_)
          have tv35 := i_mulT hv35
          clear hv35
          refine wa_iload rfl ?_
          refine wa_iadd ?_
          refine wa_top (fun v36 hv36 => ?_)
          have tv36 := i_addT hv36
          clear hv36
          refine wa_iald ly_128 (by ((try simp only [vp_in_iff, Int32.lt_iff_toInt_lt, Int32.le_iff_toInt_le, ← Int32.toInt_inj, Int32.reduceToInt, n_1, n_2, n_8, Int32.toNatClampNeg, Int64.lt_iff_toInt_lt, Int64.le_iff_toInt_le, ← Int64.toInt_inj, Int64.reduceToInt, Int32.toInt_toInt64, lg_cmp_ge, lg_cmp_le, lg_cmp_gt, lg_cmp_lt, lg_cmp_eq, Bool.false_eq_true, Bool.true_eq_false, reduceCtorEq, false_iff, true_iff, iff_true, iff_false, and_true, true_and, and_false, false_and, reduceIte, ite_true, ite_false, eq_self] at *)) <;> omega) ?_
          refine wa_top (fun v37 hv37 => ?_)
          have rv37 : 0 ≤ v37.toInt ∧ v37.toInt ≤ 2999 := by rw [← hv37]; exact ar_at A_128 _
          clear hv37
          refine wa_lald ly_116 (by ((try simp only [vp_in_iff, Int32.lt_iff_toInt_lt, Int32.le_iff_toInt_le, ← Int32.toInt_inj, Int32.reduceToInt, n_1, n_2, n_8, Int32.toNatClampNeg, Int64.lt_iff_toInt_lt, Int64.le_iff_toInt_le, ← Int64.toInt_inj, Int64.reduceToInt, Int32.toInt_toInt64, lg_cmp_ge, lg_cmp_le, lg_cmp_gt, lg_cmp_lt, lg_cmp_eq, Bool.false_eq_true, Bool.true_eq_false, reduceCtorEq, false_iff, true_iff, iff_true, iff_false, and_true, true_and, and_false, false_and, reduceIte, ite_true, ite_false, eq_self] at *)) <;> omega) ?_
          refine wa_lstoreD (lv' := [(6, .long (gl σ 116 (v37).toNatClampNeg)), (3, .long x34), (0, .ref 84), (1, .int a0), (2, .int a1), (5, .int l5)]) (by decide) rfl ?_
          refine wa_lload rfl ?_
          refine wa_ldc2 (v := (9223372036854775807)) (allW_in (kT_14 _ (List.mem_of_getElem? (i := 168) rfl)) rfl) ?_
          refine wa_lcmp ?_
          refine wa_top (fun v38 hv38 => ?_)
          have tv38 := i_cmpT hv38
          clear hv38
          refine wa_if_ne o_X12_mostAt_77 (by decide) (fun h39 => ?_) (fun h39 => ?_)
          · refine wa_lload rfl ?_
            refine wa_ldc2 (v := (-9223372036854775808)) (allW_in (kT_14 _ (List.mem_of_getElem? (i := 167) rfl)) rfl) ?_
            refine wa_lcmp ?_
            refine wa_top (fun v40 hv40 => ?_)
            have tv40 := i_cmpT hv40
            clear hv40
            refine wa_if_eq o_X12_mostAt_128 (by decide) (fun h41 => ?_) (fun h41 => ?_)
            · refine wa_iinc (v := (1)) (lv' := fun y42 => [(5, .int y42), (6, .long (gl σ 116 (v37).toNatClampNeg)), (3, .long x34), (0, .ref 84), (1, .int a0), (2, .int a1)]) (by decide) rfl (by decide) (fun _ => rfl) (fun y42 hy42 => ?_)
              have ty42 := i_addT hy42.symm
              clear hy42
              refine wa_goto o_X12_mostAt_7 (by decide) ?_
              refine wa_pick [3, 4, 5, 2, 0] rfl ?_
              exact ih1 _ (by ((try simp only [vp_in_iff, Int32.lt_iff_toInt_lt, Int32.le_iff_toInt_le, ← Int32.toInt_inj, Int32.reduceToInt, n_1, n_2, n_8, Int32.toNatClampNeg, Int64.lt_iff_toInt_lt, Int64.le_iff_toInt_le, ← Int64.toInt_inj, Int64.reduceToInt, Int32.toInt_toInt64, lg_cmp_ge, lg_cmp_le, lg_cmp_gt, lg_cmp_lt, lg_cmp_eq, Bool.false_eq_true, Bool.true_eq_false, reduceCtorEq, false_iff, true_iff, iff_true, iff_false, and_true, true_and, and_false, false_and, reduceIte, ite_true, ite_false, eq_self] at *)) <;> omega) _ _ ⟨(by ((try simp only [vp_in_iff, Int32.lt_iff_toInt_lt, Int32.le_iff_toInt_le, ← Int32.toInt_inj, Int32.reduceToInt, n_1, n_2, n_8, Int32.toNatClampNeg, Int64.lt_iff_toInt_lt, Int64.le_iff_toInt_le, ← Int64.toInt_inj, Int64.reduceToInt, Int32.toInt_toInt64, lg_cmp_ge, lg_cmp_le, lg_cmp_gt, lg_cmp_lt, lg_cmp_eq, Bool.false_eq_true, Bool.true_eq_false, reduceCtorEq, false_iff, true_iff, iff_true, iff_false, and_true, true_and, and_false, false_and, reduceIte, ite_true, ite_false, eq_self] at *)) <;> omega), trivial⟩ rfl
            · refine wa_ldc2 (v := (2)) (allW_in (kT_13 _ (List.mem_of_getElem? (i := 18) rfl)) rfl) ?_
              refine wa_lload rfl ?_
              refine wa_lmul ?_
              refine wa_topl (fun v43 hv43 => ?_)
              have tv43 := m_l_remU hv43
              clear hv43
              refine wa_aload_n (i := 0) rfl rfl ?_
              refine wa_iload rfl ?_
              refine wa_iload_n (i := 2) rfl rfl ?_
              refine wa_Vl (d9 := d - 1) [.int _, .int _] [.long v43] (sp_X12_weigh G (d := d - 1) (by omega) σ _ _ (by first | assumption | exact Or.inl rfl | exact Or.inr rfl | (((try simp only [vp_in_iff, Int32.lt_iff_toInt_lt, Int32.le_iff_toInt_le, ← Int32.toInt_inj, Int32.reduceToInt, n_1, n_2, n_8, Int32.toNatClampNeg, Int64.lt_iff_toInt_lt, Int64.le_iff_toInt_le, ← Int64.toInt_inj, Int64.reduceToInt, Int32.toInt_toInt64, lg_cmp_ge, lg_cmp_le, lg_cmp_gt, lg_cmp_lt, lg_cmp_eq, Bool.false_eq_true, Bool.true_eq_false, reduceCtorEq, false_iff, true_iff, iff_true, iff_false, and_true, true_and, and_false, false_and, reduceIte, ite_true, ite_false, eq_self] at *)) <;> omega))) (rfl) rfl rfl (zr (by omega)) mk_X12_weigh ly_84 ml_12_1005 (Nat.le_of_ble_eq_true rfl) (fun x45 s44 hs44 => ?_)
              obtain ⟨zs44, -⟩ := pL hs44
              subst zs44
              refine wa_ladd ?_
              refine wa_topl (fun v46 hv46 => ?_)
              have tv46 := a_l_remU hv46
              clear hv46
              refine wa_lstoreD (lv' := [(8, .long v46), (6, .long (gl σ 116 (v37).toNatClampNeg)), (3, .long x34), (0, .ref 84), (1, .int a0), (2, .int a1), (5, .int l5)]) (by decide) rfl ?_
              refine wa_lload rfl ?_
              refine wa_ldc2 (v := (-1152921504606846976)) (allW_in (kT_14 _ (List.mem_of_getElem? (i := 180) rfl)) rfl) ?_
              refine wa_lcmp ?_
              refine wa_top (fun v47 hv47 => ?_)
              have tv47 := i_cmpT hv47
              clear hv47
              refine wa_if_ge o_X12_mostAt_117 (by decide) (fun h48 => ?_) (fun h48 => ?_)
              · refine wa_lload rfl ?_
                refine wa_lstoreD (lv' := [(8, .long v46), (6, .long (gl σ 116 (v37).toNatClampNeg)), (3, .long x34), (0, .ref 84), (1, .int a0), (2, .int a1), (5, .int l5)]) (by decide) rfl ?_
                refine wa_lload_n (i := 3) rfl rfl ?_
                refine wa_lload rfl ?_
                refine wa_Sl (d9 := d - 1) [.long _, .long _] [] (sp_X12_max G (d := d - 1) (by omega) σ _ _) (rfl) rfl rfl (zr (by omega)) mk_X12_max ml_12_1009 (Nat.le_of_ble_eq_true rfl) (fun x50 s49 hs49 => ?_)
                obtain ⟨zs49, -⟩ := pL hs49
                subst zs49
                refine wa_lstore_nD (lv' := [(3, .long x50), (8, .long v46), (6, .long (gl σ 116 (v37).toNatClampNeg)), (0, .ref 84), (1, .int a0), (2, .int a1), (5, .int l5)]) (i := 3) rfl (by decide) rfl ?_
                refine wa_iinc (v := (1)) (lv' := fun y51 => [(5, .int y51), (3, .long x50), (8, .long v46), (6, .long (gl σ 116 (v37).toNatClampNeg)), (0, .ref 84), (1, .int a0), (2, .int a1)]) (by decide) rfl (by decide) (fun _ => rfl) (fun y51 hy51 => ?_)
                have ty51 := i_addT hy51.symm
                clear hy51
                refine wa_goto o_X12_mostAt_7 (by decide) ?_
                refine wa_pick [4, 5, 6, 1, 0] rfl ?_
                exact ih1 _ (by ((try simp only [vp_in_iff, Int32.lt_iff_toInt_lt, Int32.le_iff_toInt_le, ← Int32.toInt_inj, Int32.reduceToInt, n_1, n_2, n_8, Int32.toNatClampNeg, Int64.lt_iff_toInt_lt, Int64.le_iff_toInt_le, ← Int64.toInt_inj, Int64.reduceToInt, Int32.toInt_toInt64, lg_cmp_ge, lg_cmp_le, lg_cmp_gt, lg_cmp_lt, lg_cmp_eq, Bool.false_eq_true, Bool.true_eq_false, reduceCtorEq, false_iff, true_iff, iff_true, iff_false, and_true, true_and, and_false, false_and, reduceIte, ite_true, ite_false, eq_self] at *)) <;> omega) _ _ ⟨(by ((try simp only [vp_in_iff, Int32.lt_iff_toInt_lt, Int32.le_iff_toInt_le, ← Int32.toInt_inj, Int32.reduceToInt, n_1, n_2, n_8, Int32.toNatClampNeg, Int64.lt_iff_toInt_lt, Int64.le_iff_toInt_le, ← Int64.toInt_inj, Int64.reduceToInt, Int32.toInt_toInt64, lg_cmp_ge, lg_cmp_le, lg_cmp_gt, lg_cmp_lt, lg_cmp_eq, Bool.false_eq_true, Bool.true_eq_false, reduceCtorEq, false_iff, true_iff, iff_true, iff_false, and_true, true_and, and_false, false_and, reduceIte, ite_true, ite_false, eq_self] at *)) <;> omega), trivial⟩ rfl
              · refine wa_ldc2 (v := (-1152921504606846976)) (allW_in (kT_14 _ (List.mem_of_getElem? (i := 180) rfl)) rfl) ?_
                refine wa_goto o_X12_mostAt_119 (by decide) ?_
                refine wa_lstoreD (lv' := [(8, .long (-1152921504606846976)), (6, .long (gl σ 116 (v37).toNatClampNeg)), (3, .long x34), (0, .ref 84), (1, .int a0), (2, .int a1), (5, .int l5)]) (by decide) rfl ?_
                refine wa_lload_n (i := 3) rfl rfl ?_
                refine wa_lload rfl ?_
                refine wa_Sl (d9 := d - 1) [.long _, .long _] [] (sp_X12_max G (d := d - 1) (by omega) σ _ _) (rfl) rfl rfl (zr (by omega)) mk_X12_max ml_12_1009 (Nat.le_of_ble_eq_true rfl) (fun x53 s52 hs52 => ?_)
                obtain ⟨zs52, -⟩ := pL hs52
                subst zs52
                refine wa_lstore_nD (lv' := [(3, .long x53), (8, .long (-1152921504606846976)), (6, .long (gl σ 116 (v37).toNatClampNeg)), (0, .ref 84), (1, .int a0), (2, .int a1), (5, .int l5)]) (i := 3) rfl (by decide) rfl ?_
                refine wa_iinc (v := (1)) (lv' := fun y54 => [(5, .int y54), (3, .long x53), (8, .long (-1152921504606846976)), (6, .long (gl σ 116 (v37).toNatClampNeg)), (0, .ref 84), (1, .int a0), (2, .int a1)]) (by decide) rfl (by decide) (fun _ => rfl) (fun y54 hy54 => ?_)
                have ty54 := i_addT hy54.symm
                clear hy54
                refine wa_goto o_X12_mostAt_7 (by decide) ?_
                refine wa_pick [4, 5, 6, 1, 0] rfl ?_
                exact ih1 _ (by ((try simp only [vp_in_iff, Int32.lt_iff_toInt_lt, Int32.le_iff_toInt_le, ← Int32.toInt_inj, Int32.reduceToInt, n_1, n_2, n_8, Int32.toNatClampNeg, Int64.lt_iff_toInt_lt, Int64.le_iff_toInt_le, ← Int64.toInt_inj, Int64.reduceToInt, Int32.toInt_toInt64, lg_cmp_ge, lg_cmp_le, lg_cmp_gt, lg_cmp_lt, lg_cmp_eq, Bool.false_eq_true, Bool.true_eq_false, reduceCtorEq, false_iff, true_iff, iff_true, iff_false, and_true, true_and, and_false, false_and, reduceIte, ite_true, ite_false, eq_self] at *)) <;> omega) _ _ ⟨(by ((try simp only [vp_in_iff, Int32.lt_iff_toInt_lt, Int32.le_iff_toInt_le, ← Int32.toInt_inj, Int32.reduceToInt, n_1, n_2, n_8, Int32.toNatClampNeg, Int64.lt_iff_toInt_lt, Int64.le_iff_toInt_le, ← Int64.toInt_inj, Int64.reduceToInt, Int32.toInt_toInt64, lg_cmp_ge, lg_cmp_le, lg_cmp_gt, lg_cmp_lt, lg_cmp_eq, Bool.false_eq_true, Bool.true_eq_false, reduceCtorEq, false_iff, true_iff, iff_true, iff_false, and_true, true_and, and_false, false_and, reduceIte, ite_true, ite_false, eq_self] at *)) <;> omega), trivial⟩ rfl
          · refine wa_ldc2 (v := (9223372036854775807)) (allW_in (kT_14 _ (List.mem_of_getElem? (i := 168) rfl)) rfl) ?_
            refine wa_lreturn rfl rfl ?_
            exact ⟨_, rfl, rfl, trivial⟩
  exact hi2 _ _ _ ⟨(by ((try simp only [vp_in_iff, Int32.lt_iff_toInt_lt, Int32.le_iff_toInt_le, ← Int32.toInt_inj, Int32.reduceToInt, n_1, n_2, n_8, Int32.toNatClampNeg, Int64.lt_iff_toInt_lt, Int64.le_iff_toInt_le, ← Int64.toInt_inj, Int64.reduceToInt, Int32.toInt_toInt64, lg_cmp_ge, lg_cmp_le, lg_cmp_gt, lg_cmp_lt, lg_cmp_eq, Bool.false_eq_true, Bool.true_eq_false, reduceCtorEq, false_iff, true_iff, iff_true, iff_false, and_true, true_and, and_false, false_and, reduceIte, ite_true, ite_false, eq_self] at *)) <;> omega), trivial⟩ rfl
set_option maxHeartbeats 4000000 in
theorem sp_X12_number (G : kG9) {d : Nat} (hd : 0 ≤ d) (σ : St) : Ct G M_X12_number d [.ref 84] σ (fun r σ' => ∃ x : Int64, r = some (.long x) ∧ Fm [] [0] σ σ' ∧ True) := by
  refine wa_start (by decide) rfl (Nat.le_of_ble_eq_true rfl) (lv := [(0, .ref 84)]) rfl o_X12_number_0 rfl ?_
  refine wa_aload_n (i := 0) rfl rfl ?_
  refine wa_iconst (v := 0) (by decide) ?_
  refine wa_puti ck_12 fl_12_3 ly_84 (fun s1 hs1 => ?_)
  have Fs1 : Fm [] [0] σ s1 := by rw [hs1]; exact Fm.si (Fm.rf [] [0] σ) rfl
  refine wa_aload_n (i := 0) rfl rfl ?_
  refine wa_getl ck_12 fl_12_1030 ly_84 ?_
  refine wa_rwl (nx_gl_si hs1) ?_
  refine wa_lreturn rfl rfl ?_
  exact ⟨_, rfl, Fs1, trivial⟩
set_option maxHeartbeats 4000000 in
theorem sp_X12_firstNews (G : kG9) {d : Nat} (hd : 0 ≤ d) (σ : St) (a0 : Int32) (r1 : 0 ≤ (gi σ 84 131).toInt ∧ (gi σ 84 131).toInt ≤ 16) (A_124 : AR ap_124 σ 124) (A_128 : AR ap_128 σ 128) : Ct G M_X12_firstNews d [.ref 84, .int a0] σ (fun r σ' => ∃ x : Int32, r = some (.int x) ∧ σ = σ' ∧ True) := by
  refine wa_start (by decide) rfl (Nat.le_of_ble_eq_true rfl) (lv := [(0, .ref 84), (1, .int a0)]) rfl o_X12_firstNews_0 rfl ?_
  have ua0 := Int32.toInt_lt a0
  have wa0 := Int32.le_toInt a0
  refine wa_iconst (v := 0) (by decide) ?_
  refine wa_istore_nD (lv' := [(2, .int 0), (0, .ref 84), (1, .int a0)]) (i := 2) rfl (by decide) rfl ?_
  refine wa_iconst (v := 0) (by decide) ?_
  refine wa_istore_nD (lv' := [(3, .int 0), (2, .int 0), (0, .ref 84), (1, .int a0)]) (i := 3) rfl (by decide) rfl ?_
  refine wa_pick [2, 3, 1, 0] rfl ?_
  have hi2 : ∀ (n9_4 : Nat) (l2 : Int32) (l3 : Int32), ((0 ≤ l3.toInt) ∧ (True)) → (2147483647 - l3.toInt).toNat = n9_4 → WA G M_X12_firstNews (ZM G M_X12_firstNews d (fun r σ' => ∃ x : Int32, r = some (.int x) ∧ σ = σ' ∧ True)) B_X12_firstNews_4 [(0, .ref 84), (1, .int a0), (2, .int l2), (3, .int l3)] [] σ := by
    intro n9_4
    induction n9_4 using Nat.strongRecOn with
    | _ n9_4 ih1 =>
      intro l2 l3  i9 m9_4
      obtain ⟨jhi2_0, -⟩ := i9
      have ul2 := Int32.toInt_lt l2
      have wl2 := Int32.le_toInt l2
      have ul3 := Int32.toInt_lt l3
      have wl3 := Int32.le_toInt l3
      refine wa_iload_n (i := 3) rfl rfl ?_
      refine wa_aload_n (i := 0) rfl rfl ?_
      refine wa_geti ck_12 fl_12_960 ly_84 ?_
      refine wa_icmp_ge o_X12_firstNews_79 (by decide) (fun h3 => ?_) (fun h3 => ?_)
      · refine wa_iload_n (i := 2) rfl rfl ?_
        refine wa_ireturn rfl rfl ?_
        exact ⟨_, rfl, rfl, trivial⟩
      · have mh3 := nle_mx h3
        refine wa_aload_n (i := 0) rfl rfl ?_
        refine wa_getr ck_12 fl_12_334 ly_84 rf_84_132 ?_
        refine wa_aload_n (i := 0) rfl rfl ?_
        refine wa_getr ck_12 fl_12_321 ly_84 rf_84_126 ?_
        refine wa_bipush (v := 16) (by decide) ?_
        refine wa_iload_n (i := 1) rfl rfl ?_
        refine wa_imul ?_
        refine wa_top (fun v4 hv4 => ?_)
        have tv4 := i_mulT hv4
        clear hv4
        refine wa_iload_n (i := 3) rfl rfl ?_
        refine wa_iadd ?_
        refine wa_top (fun v5 hv5 => ?_)
        have tv5 := i_addT hv5
        clear hv5
        refine wa_iald ly_128 (by ((try simp only [vp_in_iff, Int32.lt_iff_toInt_lt, Int32.le_iff_toInt_le, ← Int32.toInt_inj, Int32.reduceToInt, n_1, n_2, n_8, Int32.toNatClampNeg, Int64.lt_iff_toInt_lt, Int64.le_iff_toInt_le, ← Int64.toInt_inj, Int64.reduceToInt, Int32.toInt_toInt64, lg_cmp_ge, lg_cmp_le, lg_cmp_gt, lg_cmp_lt, lg_cmp_eq, Bool.false_eq_true, Bool.true_eq_false, reduceCtorEq, false_iff, true_iff, iff_true, iff_false, and_true, true_and, and_false, false_and, reduceIte, ite_true, ite_false, eq_self] at *)) <;> omega) ?_
        refine wa_top (fun v6 hv6 => ?_)
        have rv6 : 0 ≤ v6.toInt ∧ v6.toInt ≤ 2999 := by rw [← hv6]; exact ar_at A_128 _
        clear hv6
        refine wa_iald ly_124 (by ((try simp only [vp_in_iff, Int32.lt_iff_toInt_lt, Int32.le_iff_toInt_le, ← Int32.toInt_inj, Int32.reduceToInt, n_1, n_2, n_8, Int32.toNatClampNeg, Int64.lt_iff_toInt_lt, Int64.le_iff_toInt_le, ← Int64.toInt_inj, Int64.reduceToInt, Int32.toInt_toInt64, lg_cmp_ge, lg_cmp_le, lg_cmp_gt, lg_cmp_lt, lg_cmp_eq, Bool.false_eq_true, Bool.true_eq_false, reduceCtorEq, false_iff, true_iff, iff_true, iff_false, and_true, true_and, and_false, false_and, reduceIte, ite_true, ite_false, eq_self] at *)) <;> omega) ?_
        refine wa_top (fun v7 hv7 => ?_)
        have rv7 : 0 ≤ v7.toInt ∧ v7.toInt ≤ 65535 := by rw [← hv7]; exact ar_at A_124 _
        clear hv7
        refine wa_istoreD (lv' := [(4, .int v7), (0, .ref 84), (1, .int a0), (2, .int l2), (3, .int l3)]) (by decide) rfl ?_
        refine wa_iconst (v := 0) (by decide) ?_
        refine wa_istoreD (lv' := [(5, .int 0), (4, .int v7), (0, .ref 84), (1, .int a0), (2, .int l2), (3, .int l3)]) (by decide) rfl ?_
        refine wa_pick [2, 3, 4, 5, 1, 0] rfl ?_
        have hi9 : ∀ (n9_33 : Nat) (l2 : Int32) (l5 : Int32), ((0 ≤ l5.toInt) ∧ (True)) → (2147483647 - l5.toInt).toNat = n9_33 → WA G M_X12_firstNews (ZM G M_X12_firstNews d (fun r σ' => ∃ x : Int32, r = some (.int x) ∧ σ = σ' ∧ True)) B_X12_firstNews_33 [(0, .ref 84), (1, .int a0), (2, .int l2), (3, .int l3), (4, .int v7), (5, .int l5)] [] σ := by
          intro n9_33
          induction n9_33 using Nat.strongRecOn with
          | _ n9_33 ih8 =>
            intro l2 l5  i9 m9_33
            obtain ⟨jhi9_0, -⟩ := i9
            have ul2 := Int32.toInt_lt l2
            have wl2 := Int32.le_toInt l2
            have ul5 := Int32.toInt_lt l5
            have wl5 := Int32.le_toInt l5
            refine wa_iload rfl ?_
            refine wa_aload_n (i := 0) rfl rfl ?_
            refine wa_geti ck_12 fl_12_960 ly_84 ?_
            refine wa_icmp_ge o_X12_firstNews_73 (by decide) (fun h10 => ?_) (fun h10 => ?_)
            · refine wa_iinc (v := (1)) (lv' := fun y11 => [(3, .int y11), (0, .ref 84), (1, .int a0), (2, .int l2), (4, .int v7), (5, .int l5)]) (by decide) rfl (by decide) (fun _ => rfl) (fun y11 hy11 => ?_)
              have ty11 := i_addT hy11.symm
              clear hy11
              refine wa_goto o_X12_firstNews_4 (by decide) ?_
              refine wa_pick [1, 2, 3, 0] rfl ?_
              exact ih1 _ (by ((try simp only [vp_in_iff, Int32.lt_iff_toInt_lt, Int32.le_iff_toInt_le, ← Int32.toInt_inj, Int32.reduceToInt, n_1, n_2, n_8, Int32.toNatClampNeg, Int64.lt_iff_toInt_lt, Int64.le_iff_toInt_le, ← Int64.toInt_inj, Int64.reduceToInt, Int32.toInt_toInt64, lg_cmp_ge, lg_cmp_le, lg_cmp_gt, lg_cmp_lt, lg_cmp_eq, Bool.false_eq_true, Bool.true_eq_false, reduceCtorEq, false_iff, true_iff, iff_true, iff_false, and_true, true_and, and_false, false_and, reduceIte, ite_true, ite_false, eq_self] at *)) <;> omega) _ _ ⟨(by ((try simp only [vp_in_iff, Int32.lt_iff_toInt_lt, Int32.le_iff_toInt_le, ← Int32.toInt_inj, Int32.reduceToInt, n_1, n_2, n_8, Int32.toNatClampNeg, Int64.lt_iff_toInt_lt, Int64.le_iff_toInt_le, ← Int64.toInt_inj, Int64.reduceToInt, Int32.toInt_toInt64, lg_cmp_ge, lg_cmp_le, lg_cmp_gt, lg_cmp_lt, lg_cmp_eq, Bool.false_eq_true, Bool.true_eq_false, reduceCtorEq, false_iff, true_iff, iff_true, iff_false, and_true, true_and, and_false, false_and, reduceIte, ite_true, ite_false, eq_self] at *)) <;> omega), trivial⟩ rfl
            · have mh10 := nle_mx h10
              refine wa_iload_n (i := 2) rfl rfl ?_
              refine wa_iload rfl ?_
              refine wa_iload_n (i := 3) rfl rfl ?_
              refine wa_icmp_eq o_X12_firstNews_64 (by decide) (fun h12 => ?_) (fun h12 => ?_)
              · refine wa_iconst (v := 0) (by decide) ?_
                refine wa_iadd ?_
                refine wa_top (fun v13 hv13 => ?_)
                have tv13 := i_addT hv13
                clear hv13
                refine wa_istore_nD (lv' := [(2, .int v13), (0, .ref 84), (1, .int a0), (3, .int l3), (4, .int v7), (5, .int l5)]) (i := 2) rfl (by decide) rfl ?_
                refine wa_iinc (v := (1)) (lv' := fun y14 => [(5, .int y14), (2, .int v13), (0, .ref 84), (1, .int a0), (3, .int l3), (4, .int v7)]) (by decide) rfl (by decide) (fun _ => rfl) (fun y14 hy14 => ?_)
                have ty14 := i_addT hy14.symm
                clear hy14
                refine wa_goto o_X12_firstNews_33 (by decide) ?_
                refine wa_pick [2, 3, 1, 4, 5, 0] rfl ?_
                exact ih8 _ (by ((try simp only [vp_in_iff, Int32.lt_iff_toInt_lt, Int32.le_iff_toInt_le, ← Int32.toInt_inj, Int32.reduceToInt, n_1, n_2, n_8, Int32.toNatClampNeg, Int64.lt_iff_toInt_lt, Int64.le_iff_toInt_le, ← Int64.toInt_inj, Int64.reduceToInt, Int32.toInt_toInt64, lg_cmp_ge, lg_cmp_le, lg_cmp_gt, lg_cmp_lt, lg_cmp_eq, Bool.false_eq_true, Bool.true_eq_false, reduceCtorEq, false_iff, true_iff, iff_true, iff_false, and_true, true_and, and_false, false_and, reduceIte, ite_true, ite_false, eq_self] at *)) <;> omega) _ _ ⟨(by ((try simp only [vp_in_iff, Int32.lt_iff_toInt_lt, Int32.le_iff_toInt_le, ← Int32.toInt_inj, Int32.reduceToInt, n_1, n_2, n_8, Int32.toNatClampNeg, Int64.lt_iff_toInt_lt, Int64.le_iff_toInt_le, ← Int64.toInt_inj, Int64.reduceToInt, Int32.toInt_toInt64, lg_cmp_ge, lg_cmp_le, lg_cmp_gt, lg_cmp_lt, lg_cmp_eq, Bool.false_eq_true, Bool.true_eq_false, reduceCtorEq, false_iff, true_iff, iff_true, iff_false, and_true, true_and, and_false, false_and, reduceIte, ite_true, ite_false, eq_self] at *)) <;> omega), trivial⟩ rfl
              · refine wa_iload rfl ?_
                refine wa_iload rfl ?_
                refine wa_ishr ?_
                refine wa_top (fun v15 hv15 => ?_)
                clear hv15
                refine wa_iconst (v := 1) (by decide) ?_
                refine wa_iand ?_
                refine wa_top (fun v16 hv16 => ?_)
                have tv16 := i_andT hv16
                clear hv16
                refine wa_iconst (v := 1) (by decide) ?_
                refine wa_icmp_ne o_X12_firstNews_64 (by decide) (fun h17 => ?_) (fun h17 => ?_)
                · refine wa_iconst (v := 0) (by decide) ?_
                  refine wa_iadd ?_
                  refine wa_top (fun v18 hv18 => ?_)
                  have tv18 := i_addT hv18
                  clear hv18
                  refine wa_istore_nD (lv' := [(2, .int v18), (0, .ref 84), (1, .int a0), (3, .int l3), (4, .int v7), (5, .int l5)]) (i := 2) rfl (by decide) rfl ?_
                  refine wa_iinc (v := (1)) (lv' := fun y19 => [(5, .int y19), (2, .int v18), (0, .ref 84), (1, .int a0), (3, .int l3), (4, .int v7)]) (by decide) rfl (by decide) (fun _ => rfl) (fun y19 hy19 => ?_)
                  have ty19 := i_addT hy19.symm
                  clear hy19
                  refine wa_goto o_X12_firstNews_33 (by decide) ?_
                  refine wa_pick [2, 3, 1, 4, 5, 0] rfl ?_
                  exact ih8 _ (by ((try simp only [vp_in_iff, Int32.lt_iff_toInt_lt, Int32.le_iff_toInt_le, ← Int32.toInt_inj, Int32.reduceToInt, n_1, n_2, n_8, Int32.toNatClampNeg, Int64.lt_iff_toInt_lt, Int64.le_iff_toInt_le, ← Int64.toInt_inj, Int64.reduceToInt, Int32.toInt_toInt64, lg_cmp_ge, lg_cmp_le, lg_cmp_gt, lg_cmp_lt, lg_cmp_eq, Bool.false_eq_true, Bool.true_eq_false, reduceCtorEq, false_iff, true_iff, iff_true, iff_false, and_true, true_and, and_false, false_and, reduceIte, ite_true, ite_false, eq_self] at *)) <;> omega) _ _ ⟨(by ((try simp only [vp_in_iff, Int32.lt_iff_toInt_lt, Int32.le_iff_toInt_le, ← Int32.toInt_inj, Int32.reduceToInt, n_1, n_2, n_8, Int32.toNatClampNeg, Int64.lt_iff_toInt_lt, Int64.le_iff_toInt_le, ← Int64.toInt_inj, Int64.reduceToInt, Int32.toInt_toInt64, lg_cmp_ge, lg_cmp_le, lg_cmp_gt, lg_cmp_lt, lg_cmp_eq, Bool.false_eq_true, Bool.true_eq_false, reduceCtorEq, false_iff, true_iff, iff_true, iff_false, and_true, true_and, and_false, false_and, reduceIte, ite_true, ite_false, eq_self] at *)) <;> omega), trivial⟩ rfl
                · refine wa_iconst (v := 1) (by decide) ?_
                  refine wa_goto o_X12_firstNews_65 (by decide) ?_
                  refine wa_iadd ?_
                  refine wa_top (fun v20 hv20 => ?_)
                  have tv20 := i_addT hv20
                  clear hv20
                  refine wa_istore_nD (lv' := [(2, .int v20), (0, .ref 84), (1, .int a0), (3, .int l3), (4, .int v7), (5, .int l5)]) (i := 2) rfl (by decide) rfl ?_
                  refine wa_iinc (v := (1)) (lv' := fun y21 => [(5, .int y21), (2, .int v20), (0, .ref 84), (1, .int a0), (3, .int l3), (4, .int v7)]) (by decide) rfl (by decide) (fun _ => rfl) (fun y21 hy21 => ?_)
                  have ty21 := i_addT hy21.symm
                  clear hy21
                  refine wa_goto o_X12_firstNews_33 (by decide) ?_
                  refine wa_pick [2, 3, 1, 4, 5, 0] rfl ?_
                  exact ih8 _ (by ((try simp only [vp_in_iff, Int32.lt_iff_toInt_lt, Int32.le_iff_toInt_le, ← Int32.toInt_inj, Int32.reduceToInt, n_1, n_2, n_8, Int32.toNatClampNeg, Int64.lt_iff_toInt_lt, Int64.le_iff_toInt_le, ← Int64.toInt_inj, Int64.reduceToInt, Int32.toInt_toInt64, lg_cmp_ge, lg_cmp_le, lg_cmp_gt, lg_cmp_lt, lg_cmp_eq, Bool.false_eq_true, Bool.true_eq_false, reduceCtorEq, false_iff, true_iff, iff_true, iff_false, and_true, true_and, and_false, false_and, reduceIte, ite_true, ite_false, eq_self] at *)) <;> omega) _ _ ⟨(by ((try simp only [vp_in_iff, Int32.lt_iff_toInt_lt, Int32.le_iff_toInt_le, ← Int32.toInt_inj, Int32.reduceToInt, n_1, n_2, n_8, Int32.toNatClampNeg, Int64.lt_iff_toInt_lt, Int64.le_iff_toInt_le, ← Int64.toInt_inj, Int64.reduceToInt, Int32.toInt_toInt64, lg_cmp_ge, lg_cmp_le, lg_cmp_gt, lg_cmp_lt, lg_cmp_eq, Bool.false_eq_true, Bool.true_eq_false, reduceCtorEq, false_iff, true_iff, iff_true, iff_false, and_true, true_and, and_false, false_and, reduceIte, ite_true, ite_false, eq_self] at *)) <;> omega), trivial⟩ rfl
        exact hi9 _ _ _ ⟨(by ((try simp only [vp_in_iff, Int32.lt_iff_toInt_lt, Int32.le_iff_toInt_le, ← Int32.toInt_inj, Int32.reduceToInt, n_1, n_2, n_8, Int32.toNatClampNeg, Int64.lt_iff_toInt_lt, Int64.le_iff_toInt_le, ← Int64.toInt_inj, Int64.reduceToInt, Int32.toInt_toInt64, lg_cmp_ge, lg_cmp_le, lg_cmp_gt, lg_cmp_lt, lg_cmp_eq, Bool.false_eq_true, Bool.true_eq_false, reduceCtorEq, false_iff, true_iff, iff_true, iff_false, and_true, true_and, and_false, false_and, reduceIte, ite_true, ite_false, eq_self] at *)) <;> omega), trivial⟩ rfl
  exact hi2 _ _ _ ⟨(by ((try simp only [vp_in_iff, Int32.lt_iff_toInt_lt, Int32.le_iff_toInt_le, ← Int32.toInt_inj, Int32.reduceToInt, n_1, n_2, n_8, Int32.toNatClampNeg, Int64.lt_iff_toInt_lt, Int64.le_iff_toInt_le, ← Int64.toInt_inj, Int64.reduceToInt, Int32.toInt_toInt64, lg_cmp_ge, lg_cmp_le, lg_cmp_gt, lg_cmp_lt, lg_cmp_eq, Bool.false_eq_true, Bool.true_eq_false, reduceCtorEq, false_iff, true_iff, iff_true, iff_false, and_true, true_and, and_false, false_and, reduceIte, ite_true, ite_false, eq_self] at *)) <;> omega), trivial⟩ rfl
set_option maxHeartbeats 4000000 in
theorem sp_X12_leaveNoneOut (G : kG9) {d : Nat} (hd : 0 ≤ d) (σ : St) : Ct G M_X12_leaveNoneOut d [.ref 84] σ (fun r σ' => Fm [122] [] σ σ' ∧ True) := by
  refine wa_start (by decide) rfl (Nat.le_of_ble_eq_true rfl) (lv := [(0, .ref 84)]) rfl o_X12_leaveNoneOut_0 rfl ?_
  refine wa_iconst (v := 0) (by decide) ?_
  refine wa_istore_nD (lv' := [(1, .int 0), (0, .ref 84)]) (i := 1) rfl (by decide) rfl ?_
  refine wa_pick [1, 0] rfl ?_
  have hi3 : ∀ (n9_2 : Nat) (l1 : Int32) (s1 : St), ((Fm [122] [] σ s1) ∧ (0 ≤ l1.toInt) ∧ (True)) → (2147483647 - l1.toInt).toNat = n9_2 → WA G M_X12_leaveNoneOut (ZM G M_X12_leaveNoneOut d (fun r σ' => Fm [122] [] σ σ' ∧ True)) B_X12_leaveNoneOut_2 [(0, .ref 84), (1, .int l1)] [] s1 := by
    intro n9_2
    induction n9_2 using Nat.strongRecOn with
    | _ n9_2 ih2 =>
      intro l1 s1 i9 m9_2
      obtain ⟨Fs1, jhi3_0, -⟩ := i9
      have ul1 := Int32.toInt_lt l1
      have wl1 := Int32.le_toInt l1
      refine wa_iload_n (i := 1) rfl rfl ?_
      refine wa_bipush (v := 24) (by decide) ?_
      refine wa_icmp_ge o_X12_leaveNoneOut_21 (by decide) (fun h4 => ?_) (fun h4 => ?_)
      · refine wa_return (st := []) rfl rfl ?_
        exact ⟨Fs1, trivial⟩
      · have mh4 := nle_mx h4
        refine wa_aload_n (i := 0) rfl rfl ?_
        refine wa_getr ck_12 fl_12_340 ly_84 rf_84_134 ?_
        refine wa_iload_n (i := 1) rfl rfl ?_
        refine wa_iconst (v := 0) (by decide) ?_
        refine wa_zast false (rfl) ly_122 (by ((try simp only [vp_in_iff, Int32.lt_iff_toInt_lt, Int32.le_iff_toInt_le, ← Int32.toInt_inj, Int32.reduceToInt, n_1, n_2, n_8, Int32.toNatClampNeg, Int64.lt_iff_toInt_lt, Int64.le_iff_toInt_le, ← Int64.toInt_inj, Int64.reduceToInt, Int32.toInt_toInt64, lg_cmp_ge, lg_cmp_le, lg_cmp_gt, lg_cmp_lt, lg_cmp_eq, Bool.false_eq_true, Bool.true_eq_false, reduceCtorEq, false_iff, true_iff, iff_true, iff_false, and_true, true_and, and_false, false_and, reduceIte, ite_true, ite_false, eq_self] at *)) <;> omega) (fun s5 hs5 => ?_)
        have Fs5 : Fm [122] [] σ s5 := by rw [hs5]; exact Fm.sb Fs1 rfl
        refine wa_iinc (v := (1)) (lv' := fun y6 => [(1, .int y6), (0, .ref 84)]) (by decide) rfl (by decide) (fun _ => rfl) (fun y6 hy6 => ?_)
        have ty6 := i_addT hy6.symm
        clear hy6
        refine wa_goto o_X12_leaveNoneOut_2 (by decide) ?_
        refine wa_pick [1, 0] rfl ?_
        exact ih2 _ (by ((try simp only [vp_in_iff, Int32.lt_iff_toInt_lt, Int32.le_iff_toInt_le, ← Int32.toInt_inj, Int32.reduceToInt, n_1, n_2, n_8, Int32.toNatClampNeg, Int64.lt_iff_toInt_lt, Int64.le_iff_toInt_le, ← Int64.toInt_inj, Int64.reduceToInt, Int32.toInt_toInt64, lg_cmp_ge, lg_cmp_le, lg_cmp_gt, lg_cmp_lt, lg_cmp_eq, Bool.false_eq_true, Bool.true_eq_false, reduceCtorEq, false_iff, true_iff, iff_true, iff_false, and_true, true_and, and_false, false_and, reduceIte, ite_true, ite_false, eq_self] at *)) <;> omega) _ _ ⟨Fs5, (by ((try simp only [vp_in_iff, Int32.lt_iff_toInt_lt, Int32.le_iff_toInt_le, ← Int32.toInt_inj, Int32.reduceToInt, n_1, n_2, n_8, Int32.toNatClampNeg, Int64.lt_iff_toInt_lt, Int64.le_iff_toInt_le, ← Int64.toInt_inj, Int64.reduceToInt, Int32.toInt_toInt64, lg_cmp_ge, lg_cmp_le, lg_cmp_gt, lg_cmp_lt, lg_cmp_eq, Bool.false_eq_true, Bool.true_eq_false, reduceCtorEq, false_iff, true_iff, iff_true, iff_false, and_true, true_and, and_false, false_and, reduceIte, ite_true, ite_false, eq_self] at *)) <;> omega), trivial⟩ rfl
  exact hi3 _ _ _ ⟨(Fm.rf [122] [] σ), (by ((try simp only [vp_in_iff, Int32.lt_iff_toInt_lt, Int32.le_iff_toInt_le, ← Int32.toInt_inj, Int32.reduceToInt, n_1, n_2, n_8, Int32.toNatClampNeg, Int64.lt_iff_toInt_lt, Int64.le_iff_toInt_le, ← Int64.toInt_inj, Int64.reduceToInt, Int32.toInt_toInt64, lg_cmp_ge, lg_cmp_le, lg_cmp_gt, lg_cmp_lt, lg_cmp_eq, Bool.false_eq_true, Bool.true_eq_false, reduceCtorEq, false_iff, true_iff, iff_true, iff_false, and_true, true_and, and_false, false_and, reduceIte, ite_true, ite_false, eq_self] at *)) <;> omega), trivial⟩ rfl
set_option maxHeartbeats 4000000 in
theorem sp_X12_inCore (G : kG9) {d : Nat} (hd : 1 ≤ d) (σ : St) (a0 : Int32) (r1 : 0 ≤ (gi σ 84 149).toInt ∧ (gi σ 84 149).toInt ≤ 24) (A_111 : AR ap_111 σ 111) : Ct G M_X12_inCore d [.ref 84, .int a0] σ (fun r σ' => ∃ x : Int32, r = some (.int x) ∧ Fm [] [0] σ σ' ∧ True) := by
  refine wa_start (by decide) rfl (Nat.le_of_ble_eq_true rfl) (lv := [(0, .ref 84), (1, .int a0)]) rfl o_X12_inCore_0 rfl ?_
  have ua0 := Int32.toInt_lt a0
  have wa0 := Int32.le_toInt a0
  refine wa_aload_n (i := 0) rfl rfl ?_
  refine wa_iconst (v := 0) (by decide) ?_
  refine wa_puti ck_12 fl_12_3 ly_84 (fun s1 hs1 => ?_)
  have Fs1 : Fm [] [0] σ s1 := by rw [hs1]; exact Fm.si (Fm.rf [] [0] σ) rfl
  refine wa_iload_n (i := 1) rfl rfl ?_
  refine wa_i2l ?_
  refine wa_lconst (v := 0) (by decide) ?_
  refine wa_aload_n (i := 0) rfl rfl ?_
  refine wa_geti ck_12 fl_12_1050 ly_84 ?_
  refine wa_rw (nxk_gi_si hs1 (by decide)) ?_
  refine wa_iconst (v := 1) (by decide) ?_
  refine wa_isub ?_
  refine wa_top (fun v2 hv2 => ?_)
  have tv2 := i_subT hv2
  clear hv2
  refine wa_i2l ?_
  refine wa_Si (d9 := d - 1) [.long _, .long _, .long _] [] (sp_X12_in G (d := d - 1) (by omega) s1 _ _ _) (rfl) rfl rfl (zr (by omega)) mk_X12_in ml_12_504 (Nat.le_of_ble_eq_true rfl) (fun x4 s3 hs3 => ?_)
  obtain ⟨bx4, ex4, zs3, cx4_1, -⟩ := pB hs3
  subst ex4
  subst zs3
  refine wa_if_eq o_X12_inCore_30 (by decide) (fun h5 => ?_) (fun h5 => ?_)
  · replace h5 := bI_f (b := bx4) (rfl) h5
    have uh5_0 := iff_f cx4_1 h5
    refine wa_iconst (v := (-1)) (by decide) ?_
    refine wa_ireturn rfl rfl ?_
    exact ⟨_, rfl, Fs1, trivial⟩
  · replace h5 := bI_t (b := bx4) (rfl) h5
    have uh5_0 := iff_t cx4_1 h5
    refine wa_aload_n (i := 0) rfl rfl ?_
    refine wa_getr ck_12 fl_12_376 ly_84 rf_84_150 ?_
    refine wa_iload_n (i := 1) rfl rfl ?_
    refine wa_iald ly_111 (by ((try simp only [vp_in_iff, Int32.lt_iff_toInt_lt, Int32.le_iff_toInt_le, ← Int32.toInt_inj, Int32.reduceToInt, n_1, n_2, n_8, Int32.toNatClampNeg, Int64.lt_iff_toInt_lt, Int64.le_iff_toInt_le, ← Int64.toInt_inj, Int64.reduceToInt, Int32.toInt_toInt64, lg_cmp_ge, lg_cmp_le, lg_cmp_gt, lg_cmp_lt, lg_cmp_eq, Bool.false_eq_true, Bool.true_eq_false, reduceCtorEq, false_iff, true_iff, iff_true, iff_false, and_true, true_and, and_false, false_and, reduceIte, ite_true, ite_false, eq_self] at *)) <;> omega) ?_
    refine wa_top (fun v6 hv6 => ?_)
    have rv6 : 0 ≤ v6.toInt ∧ v6.toInt ≤ 23 := by rw [← hv6]; exact ar_at (ar_ni hs1 (by decide) A_111) _
    clear hv6
    refine wa_goto o_X12_inCore_31 (by decide) ?_
    refine wa_ireturn rfl rfl ?_
    exact ⟨_, rfl, Fs1, trivial⟩
set_option maxHeartbeats 4000000 in
theorem sp_X12_isOneSort (G : kG9) {d : Nat} (hd : 0 ≤ d) (σ : St) (a0 : Int32) (a1 : Int32) (a2 : Bool) (r1 : 0 ≤ (gi σ 84 131).toInt ∧ (gi σ 84 131).toInt ≤ 16) (A_124 : AR ap_124 σ 124) (A_128 : AR ap_128 σ 128) : Ct G M_X12_isOneSort d [.ref 84, .int a0, .int a1, .int (bI a2)] σ (fun r σ' => ∃ x : Bool, r = some (.int (bI x)) ∧ σ = σ' ∧ True) := by
  refine wa_start (by decide) rfl (Nat.le_of_ble_eq_true rfl) (lv := [(0, .ref 84), (1, .int a0), (2, .int a1), (3, .int (bI a2))]) rfl o_X12_isOneSort_0 rfl ?_
  have ua0 := Int32.toInt_lt a0
  have wa0 := Int32.le_toInt a0
  have ua1 := Int32.toInt_lt a1
  have wa1 := Int32.le_toInt a1
  refine wa_iload_n (i := 3) rfl rfl ?_
  refine wa_if_eq o_X12_isOneSort_25 (by decide) (fun h1 => ?_) (fun h1 => ?_)
  · replace h1 := bI_f (b := a2) (rfl) h1
    refine wa_aload_n (i := 0) rfl rfl ?_
    refine wa_getr ck_12 fl_12_379 ly_84 rf_84_151 ?_
    refine wa_iload_n (i := 1) rfl rfl ?_
    refine wa_iald ly_110 (by ((try simp only [vp_in_iff, Int32.lt_iff_toInt_lt, Int32.le_iff_toInt_le, ← Int32.toInt_inj, Int32.reduceToInt, n_1, n_2, n_8, Int32.toNatClampNeg, Int64.lt_iff_toInt_lt, Int64.le_iff_toInt_le, ← Int64.toInt_inj, Int64.reduceToInt, Int32.toInt_toInt64, lg_cmp_ge, lg_cmp_le, lg_cmp_gt, lg_cmp_lt, lg_cmp_eq, Bool.false_eq_true, Bool.true_eq_false, reduceCtorEq, false_iff, true_iff, iff_true, iff_false, and_true, true_and, and_false, false_and, reduceIte, ite_true, ite_false, eq_self] at *)) <;> omega) ?_
    refine wa_aload_n (i := 0) rfl rfl ?_
    refine wa_getr ck_12 fl_12_379 ly_84 rf_84_151 ?_
    refine wa_iload_n (i := 2) rfl rfl ?_
    refine wa_iald ly_110 (by ((try simp only [vp_in_iff, Int32.lt_iff_toInt_lt, Int32.le_iff_toInt_le, ← Int32.toInt_inj, Int32.reduceToInt, n_1, n_2, n_8, Int32.toNatClampNeg, Int64.lt_iff_toInt_lt, Int64.le_iff_toInt_le, ← Int64.toInt_inj, Int64.reduceToInt, Int32.toInt_toInt64, lg_cmp_ge, lg_cmp_le, lg_cmp_gt, lg_cmp_lt, lg_cmp_eq, Bool.false_eq_true, Bool.true_eq_false, reduceCtorEq, false_iff, true_iff, iff_true, iff_false, and_true, true_and, and_false, false_and, reduceIte, ite_true, ite_false, eq_self] at *)) <;> omega) ?_
    refine wa_icmp_ne o_X12_isOneSort_44 (by decide) (fun h2 => ?_) (fun h2 => ?_)
    · refine wa_iconst (v := 0) (by decide) ?_
      refine wa_istoreD (lv' := [(4, .int (bI false)), (0, .ref 84), (1, .int a0), (2, .int a1), (3, .int (bI a2))]) (by decide) rfl ?_
      refine wa_iconst (v := 0) (by decide) ?_
      refine wa_istoreD (lv' := [(5, .int 0), (4, .int (bI false)), (0, .ref 84), (1, .int a0), (2, .int a1), (3, .int (bI a2))]) (by decide) rfl ?_
      refine wa_pick [2, 3, 4, 1, 0] rfl ?_
      have hi4 : ∀ (n9_50 : Nat) (l4 : Bool) (l5 : Int32), ((0 ≤ l5.toInt) ∧ (True)) → (2147483647 - l5.toInt).toNat = n9_50 → WA G M_X12_isOneSort (ZM G M_X12_isOneSort d (fun r σ' => ∃ x : Bool, r = some (.int (bI x)) ∧ σ = σ' ∧ True)) B_X12_isOneSort_50 [(0, .ref 84), (1, .int a0), (2, .int a1), (4, .int (bI l4)), (5, .int l5)] [] σ := by
        intro n9_50
        induction n9_50 using Nat.strongRecOn with
        | _ n9_50 ih3 =>
          intro l4 l5  i9 m9_50
          obtain ⟨jhi4_0, -⟩ := i9
          have ul5 := Int32.toInt_lt l5
          have wl5 := Int32.le_toInt l5
          refine wa_iload rfl ?_
          refine wa_aload_n (i := 0) rfl rfl ?_
          refine wa_geti ck_12 fl_12_960 ly_84 ?_
          refine wa_icmp_ge o_X12_isOneSort_114 (by decide) (fun h5 => ?_) (fun h5 => ?_)
          · refine wa_iload rfl ?_
            refine wa_zreturn l4 (rfl) rfl rfl ?_
            exact ⟨_, rfl, rfl, trivial⟩
          · have mh5 := nle_mx h5
            refine wa_iload rfl ?_
            refine wa_if_eq o_X12_isOneSort_114 (by decide) (fun h6 => ?_) (fun h6 => ?_)
            · replace h6 := bI_f (b := l4) (rfl) h6
              refine wa_iload rfl ?_
              refine wa_zreturn l4 (rfl) rfl rfl ?_
              exact ⟨_, rfl, rfl, trivial⟩
            · replace h6 := bI_t (b := l4) (rfl) h6
              refine wa_aload_n (i := 0) rfl rfl ?_
              refine wa_getr ck_12 fl_12_379 ly_84 rf_84_151 ?_
              refine wa_aload_n (i := 0) rfl rfl ?_
              refine wa_getr ck_12 fl_12_321 ly_84 rf_84_126 ?_
              refine wa_bipush (v := 16) (by decide) ?_
              refine wa_iload_n (i := 1) rfl rfl ?_
              refine wa_imul ?_
              refine wa_top (fun v7 hv7 => ?_)
              have tv7 := i_mulT hv7
              clear hv7
              refine wa_iload rfl ?_
              refine wa_iadd ?_
              refine wa_top (fun v8 hv8 => ?_)
              have tv8 := i_addT hv8
              clear hv8
              refine wa_iald ly_128 (by ((try simp only [vp_in_iff, Int32.lt_iff_toInt_lt, Int32.le_iff_toInt_le, ← Int32.toInt_inj, Int32.reduceToInt, n_1, n_2, n_8, Int32.toNatClampNeg, Int64.lt_iff_toInt_lt, Int64.le_iff_toInt_le, ← Int64.toInt_inj, Int64.reduceToInt, Int32.toInt_toInt64, lg_cmp_ge, lg_cmp_le, lg_cmp_gt, lg_cmp_lt, lg_cmp_eq, Bool.false_eq_true, Bool.true_eq_false, reduceCtorEq, false_iff, true_iff, iff_true, iff_false, and_true, true_and, and_false, false_and, reduceIte, ite_true, ite_false, eq_self] at *)) <;> omega) ?_
              refine wa_top (fun v9 hv9 => ?_)
              have rv9 : 0 ≤ v9.toInt ∧ v9.toInt ≤ 2999 := by rw [← hv9]; exact ar_at A_128 _
              clear hv9
              refine wa_iald ly_110 (by ((try simp only [vp_in_iff, Int32.lt_iff_toInt_lt, Int32.le_iff_toInt_le, ← Int32.toInt_inj, Int32.reduceToInt, n_1, n_2, n_8, Int32.toNatClampNeg, Int64.lt_iff_toInt_lt, Int64.le_iff_toInt_le, ← Int64.toInt_inj, Int64.reduceToInt, Int32.toInt_toInt64, lg_cmp_ge, lg_cmp_le, lg_cmp_gt, lg_cmp_lt, lg_cmp_eq, Bool.false_eq_true, Bool.true_eq_false, reduceCtorEq, false_iff, true_iff, iff_true, iff_false, and_true, true_and, and_false, false_and, reduceIte, ite_true, ite_false, eq_self] at *)) <;> omega) ?_
              refine wa_aload_n (i := 0) rfl rfl ?_
              refine wa_getr ck_12 fl_12_379 ly_84 rf_84_151 ?_
              refine wa_aload_n (i := 0) rfl rfl ?_
              refine wa_getr ck_12 fl_12_321 ly_84 rf_84_126 ?_
              refine wa_bipush (v := 16) (by decide) ?_
              refine wa_iload_n (i := 2) rfl rfl ?_
              refine wa_imul ?_
              refine wa_top (fun v10 hv10 => ?_)
              have tv10 := i_mulT hv10
              clear hv10
              refine wa_iload rfl ?_
              refine wa_iadd ?_
              refine wa_top (fun v11 hv11 => ?_)
              have tv11 := i_addT hv11
              clear hv11
              refine wa_iald ly_128 (by ((try simp only [vp_in_iff, Int32.lt_iff_toInt_lt, Int32.le_iff_toInt_le, ← Int32.toInt_inj, Int32.reduceToInt, n_1, n_2, n_8, Int32.toNatClampNeg, Int64.lt_iff_toInt_lt, Int64.le_iff_toInt_le, ← Int64.toInt_inj, Int64.reduceToInt, Int32.toInt_toInt64, lg_cmp_ge, lg_cmp_le, lg_cmp_gt, lg_cmp_lt, lg_cmp_eq, Bool.false_eq_true, Bool.true_eq_false, reduceCtorEq, false_iff, true_iff, iff_true, iff_false, and_true, true_and, and_false, false_and, reduceIte, ite_true, ite_false, eq_self] at *)) <;> omega) ?_
              refine wa_top (fun v12 hv12 => ?_)
              have rv12 : 0 ≤ v12.toInt ∧ v12.toInt ≤ 2999 := by rw [← hv12]; exact ar_at A_128 _
              clear hv12
              refine wa_iald ly_110 (by ((try simp only [vp_in_iff, Int32.lt_iff_toInt_lt, Int32.le_iff_toInt_le, ← Int32.toInt_inj, Int32.reduceToInt, n_1, n_2, n_8, Int32.toNatClampNeg, Int64.lt_iff_toInt_lt, Int64.le_iff_toInt_le, ← Int64.toInt_inj, Int64.reduceToInt, Int32.toInt_toInt64, lg_cmp_ge, lg_cmp_le, lg_cmp_gt, lg_cmp_lt, lg_cmp_eq, Bool.false_eq_true, Bool.true_eq_false, reduceCtorEq, false_iff, true_iff, iff_true, iff_false, and_true, true_and, and_false, false_and, reduceIte, ite_true, ite_false, eq_self] at *)) <;> omega) ?_
              refine wa_icmp_ne o_X12_isOneSort_105 (by decide) (fun h13 => ?_) (fun h13 => ?_)
              · refine wa_iconst (v := 0) (by decide) ?_
                refine wa_istoreD (lv' := [(4, .int (bI false)), (0, .ref 84), (1, .int a0), (2, .int a1), (5, .int l5)]) (by decide) rfl ?_
                refine wa_iinc (v := (1)) (lv' := fun y14 => [(5, .int y14), (4, .int (bI false)), (0, .ref 84), (1, .int a0), (2, .int a1)]) (by decide) rfl (by decide) (fun _ => rfl) (fun y14 hy14 => ?_)
                have ty14 := i_addT hy14.symm
                clear hy14
                refine wa_goto o_X12_isOneSort_50 (by decide) ?_
                refine wa_pick [2, 3, 4, 1, 0] rfl ?_
                exact ih3 _ (by ((try simp only [vp_in_iff, Int32.lt_iff_toInt_lt, Int32.le_iff_toInt_le, ← Int32.toInt_inj, Int32.reduceToInt, n_1, n_2, n_8, Int32.toNatClampNeg, Int64.lt_iff_toInt_lt, Int64.le_iff_toInt_le, ← Int64.toInt_inj, Int64.reduceToInt, Int32.toInt_toInt64, lg_cmp_ge, lg_cmp_le, lg_cmp_gt, lg_cmp_lt, lg_cmp_eq, Bool.false_eq_true, Bool.true_eq_false, reduceCtorEq, false_iff, true_iff, iff_true, iff_false, and_true, true_and, and_false, false_and, reduceIte, ite_true, ite_false, eq_self] at *)) <;> omega) _ _ ⟨(by ((try simp only [vp_in_iff, Int32.lt_iff_toInt_lt, Int32.le_iff_toInt_le, ← Int32.toInt_inj, Int32.reduceToInt, n_1, n_2, n_8, Int32.toNatClampNeg, Int64.lt_iff_toInt_lt, Int64.le_iff_toInt_le, ← Int64.toInt_inj, Int64.reduceToInt, Int32.toInt_toInt64, lg_cmp_ge, lg_cmp_le, lg_cmp_gt, lg_cmp_lt, lg_cmp_eq, Bool.false_eq_true, Bool.true_eq_false, reduceCtorEq, false_iff, true_iff, iff_true, iff_false, and_true, true_and, and_false, false_and, reduceIte, ite_true, ite_false, eq_self] at *)) <;> omega), trivial⟩ rfl
              · refine wa_iconst (v := 1) (by decide) ?_
                refine wa_goto o_X12_isOneSort_106 (by decide) ?_
                refine wa_istoreD (lv' := [(4, .int (bI true)), (0, .ref 84), (1, .int a0), (2, .int a1), (5, .int l5)]) (by decide) rfl ?_
                refine wa_iinc (v := (1)) (lv' := fun y15 => [(5, .int y15), (4, .int (bI true)), (0, .ref 84), (1, .int a0), (2, .int a1)]) (by decide) rfl (by decide) (fun _ => rfl) (fun y15 hy15 => ?_)
                have ty15 := i_addT hy15.symm
                clear hy15
                refine wa_goto o_X12_isOneSort_50 (by decide) ?_
                refine wa_pick [2, 3, 4, 1, 0] rfl ?_
                exact ih3 _ (by ((try simp only [vp_in_iff, Int32.lt_iff_toInt_lt, Int32.le_iff_toInt_le, ← Int32.toInt_inj, Int32.reduceToInt, n_1, n_2, n_8, Int32.toNatClampNeg, Int64.lt_iff_toInt_lt, Int64.le_iff_toInt_le, ← Int64.toInt_inj, Int64.reduceToInt, Int32.toInt_toInt64, lg_cmp_ge, lg_cmp_le, lg_cmp_gt, lg_cmp_lt, lg_cmp_eq, Bool.false_eq_true, Bool.true_eq_false, reduceCtorEq, false_iff, true_iff, iff_true, iff_false, and_true, true_and, and_false, false_and, reduceIte, ite_true, ite_false, eq_self] at *)) <;> omega) _ _ ⟨(by ((try simp only [vp_in_iff, Int32.lt_iff_toInt_lt, Int32.le_iff_toInt_le, ← Int32.toInt_inj, Int32.reduceToInt, n_1, n_2, n_8, Int32.toNatClampNeg, Int64.lt_iff_toInt_lt, Int64.le_iff_toInt_le, ← Int64.toInt_inj, Int64.reduceToInt, Int32.toInt_toInt64, lg_cmp_ge, lg_cmp_le, lg_cmp_gt, lg_cmp_lt, lg_cmp_eq, Bool.false_eq_true, Bool.true_eq_false, reduceCtorEq, false_iff, true_iff, iff_true, iff_false, and_true, true_and, and_false, false_and, reduceIte, ite_true, ite_false, eq_self] at *)) <;> omega), trivial⟩ rfl
      exact hi4 _ _ _ ⟨(by ((try simp only [vp_in_iff, Int32.lt_iff_toInt_lt, Int32.le_iff_toInt_le, ← Int32.toInt_inj, Int32.reduceToInt, n_1, n_2, n_8, Int32.toNatClampNeg, Int64.lt_iff_toInt_lt, Int64.le_iff_toInt_le, ← Int64.toInt_inj, Int64.reduceToInt, Int32.toInt_toInt64, lg_cmp_ge, lg_cmp_le, lg_cmp_gt, lg_cmp_lt, lg_cmp_eq, Bool.false_eq_true, Bool.true_eq_false, reduceCtorEq, false_iff, true_iff, iff_true, iff_false, and_true, true_and, and_false, false_and, reduceIte, ite_true, ite_false, eq_self] at *)) <;> omega), trivial⟩ rfl
    · refine wa_iconst (v := 1) (by decide) ?_
      refine wa_goto o_X12_isOneSort_45 (by decide) ?_
      refine wa_istoreD (lv' := [(4, .int (bI true)), (0, .ref 84), (1, .int a0), (2, .int a1), (3, .int (bI a2))]) (by decide) rfl ?_
      refine wa_iconst (v := 0) (by decide) ?_
      refine wa_istoreD (lv' := [(5, .int 0), (4, .int (bI true)), (0, .ref 84), (1, .int a0), (2, .int a1), (3, .int (bI a2))]) (by decide) rfl ?_
      refine wa_pick [2, 3, 4, 1, 0] rfl ?_
      have hi17 : ∀ (n9_50 : Nat) (l4 : Bool) (l5 : Int32), ((0 ≤ l5.toInt) ∧ (True)) → (2147483647 - l5.toInt).toNat = n9_50 → WA G M_X12_isOneSort (ZM G M_X12_isOneSort d (fun r σ' => ∃ x : Bool, r = some (.int (bI x)) ∧ σ = σ' ∧ True)) B_X12_isOneSort_50 [(0, .ref 84), (1, .int a0), (2, .int a1), (4, .int (bI l4)), (5, .int l5)] [] σ := by
        intro n9_50
        induction n9_50 using Nat.strongRecOn with
        | _ n9_50 ih16 =>
          intro l4 l5  i9 m9_50
          obtain ⟨jhi17_0, -⟩ := i9
          have ul5 := Int32.toInt_lt l5
          have wl5 := Int32.le_toInt l5
          refine wa_iload rfl ?_
          refine wa_aload_n (i := 0) rfl rfl ?_
          refine wa_geti ck_12 fl_12_960 ly_84 ?_
          refine wa_icmp_ge o_X12_isOneSort_114 (by decide) (fun h18 => ?_) (fun h18 => ?_)
          · refine wa_iload rfl ?_
            refine wa_zreturn l4 (rfl) rfl rfl ?_
            exact ⟨_, rfl, rfl, trivial⟩
          · have mh18 := nle_mx h18
            refine wa_iload rfl ?_
            refine wa_if_eq o_X12_isOneSort_114 (by decide) (fun h19 => ?_) (fun h19 => ?_)
            · replace h19 := bI_f (b := l4) (rfl) h19
              refine wa_iload rfl ?_
              refine wa_zreturn l4 (rfl) rfl rfl ?_
              exact ⟨_, rfl, rfl, trivial⟩
            · replace h19 := bI_t (b := l4) (rfl) h19
              refine wa_aload_n (i := 0) rfl rfl ?_
              refine wa_getr ck_12 fl_12_379 ly_84 rf_84_151 ?_
              refine wa_aload_n (i := 0) rfl rfl ?_
              refine wa_getr ck_12 fl_12_321 ly_84 rf_84_126 ?_
              refine wa_bipush (v := 16) (by decide) ?_
              refine wa_iload_n (i := 1) rfl rfl ?_
              refine wa_imul ?_
              refine wa_top (fun v20 hv20 => ?_)
              have tv20 := i_mulT hv20
              clear hv20
              refine wa_iload rfl ?_
              refine wa_iadd ?_
              refine wa_top (fun v21 hv21 => ?_)
              have tv21 := i_addT hv21
              clear hv21
              refine wa_iald ly_128 (by ((try simp only [vp_in_iff, Int32.lt_iff_toInt_lt, Int32.le_iff_toInt_le, ← Int32.toInt_inj, Int32.reduceToInt, n_1, n_2, n_8, Int32.toNatClampNeg, Int64.lt_iff_toInt_lt, Int64.le_iff_toInt_le, ← Int64.toInt_inj, Int64.reduceToInt, Int32.toInt_toInt64, lg_cmp_ge, lg_cmp_le, lg_cmp_gt, lg_cmp_lt, lg_cmp_eq, Bool.false_eq_true, Bool.true_eq_false, reduceCtorEq, false_iff, true_iff, iff_true, iff_false, and_true, true_and, and_false, false_and, reduceIte, ite_true, ite_false, eq_self] at *)) <;> omega) ?_
              refine wa_top (fun v22 hv22 => ?_)
              have rv22 : 0 ≤ v22.toInt ∧ v22.toInt ≤ 2999 := by rw [← hv22]; exact ar_at A_128 _
              clear hv22
              refine wa_iald ly_110 (by ((try simp only [vp_in_iff, Int32.lt_iff_toInt_lt, Int32.le_iff_toInt_le, ← Int32.toInt_inj, Int32.reduceToInt, n_1, n_2, n_8, Int32.toNatClampNeg, Int64.lt_iff_toInt_lt, Int64.le_iff_toInt_le, ← Int64.toInt_inj, Int64.reduceToInt, Int32.toInt_toInt64, lg_cmp_ge, lg_cmp_le, lg_cmp_gt, lg_cmp_lt, lg_cmp_eq, Bool.false_eq_true, Bool.true_eq_false, reduceCtorEq, false_iff, true_iff, iff_true, iff_false, and_true, true_and, and_false, false_and, reduceIte, ite_true, ite_false, eq_self] at *)) <;> omega) ?_
              refine wa_aload_n (i := 0) rfl rfl ?_
              refine wa_getr ck_12 fl_12_379 ly_84 rf_84_151 ?_
              refine wa_aload_n (i := 0) rfl rfl ?_
              refine wa_getr ck_12 fl_12_321 ly_84 rf_84_126 ?_
              refine wa_bipush (v := 16) (by decide) ?_
              refine wa_iload_n (i := 2) rfl rfl ?_
              refine wa_imul ?_
              refine wa_top (fun v23 hv23 => ?_)
              have tv23 := i_mulT hv23
              clear hv23
              refine wa_iload rfl ?_
              refine wa_iadd ?_
              refine wa_top (fun v24 hv24 => ?_)
              have tv24 := i_addT hv24
              clear hv24
              refine wa_iald ly_128 (by ((try simp only [vp_in_iff, Int32.lt_iff_toInt_lt, Int32.le_iff_toInt_le, ← Int32.toInt_inj, Int32.reduceToInt, n_1, n_2, n_8, Int32.toNatClampNeg, Int64.lt_iff_toInt_lt, Int64.le_iff_toInt_le, ← Int64.toInt_inj, Int64.reduceToInt, Int32.toInt_toInt64, lg_cmp_ge, lg_cmp_le, lg_cmp_gt, lg_cmp_lt, lg_cmp_eq, Bool.false_eq_true, Bool.true_eq_false, reduceCtorEq, false_iff, true_iff, iff_true, iff_false, and_true, true_and, and_false, false_and, reduceIte, ite_true, ite_false, eq_self] at *)) <;> omega) ?_
              refine wa_top (fun v25 hv25 => ?_)
              have rv25 : 0 ≤ v25.toInt ∧ v25.toInt ≤ 2999 := by rw [← hv25]; exact ar_at A_128 _
              clear hv25
              refine wa_iald ly_110 (by ((try simp only [vp_in_iff, Int32.lt_iff_toInt_lt, Int32.le_iff_toInt_le, ← Int32.toInt_inj, Int32.reduceToInt, n_1, n_2, n_8, Int32.toNatClampNeg, Int64.lt_iff_toInt_lt, Int64.le_iff_toInt_le, ← Int64.toInt_inj, Int64.reduceToInt, Int32.toInt_toInt64, lg_cmp_ge, lg_cmp_le, lg_cmp_gt, lg_cmp_lt, lg_cmp_eq, Bool.false_eq_true, Bool.true_eq_false, reduceCtorEq, false_iff, true_iff, iff_true, iff_false, and_true, true_and, and_false, false_and, reduceIte, ite_true, ite_false, eq_self] at *)) <;> omega) ?_
              refine wa_icmp_ne o_X12_isOneSort_105 (by decide) (fun h26 => ?_) (fun h26 => ?_)
              · refine wa_iconst (v := 0) (by decide) ?_
                refine wa_istoreD (lv' := [(4, .int (bI false)), (0, .ref 84), (1, .int a0), (2, .int a1), (5, .int l5)]) (by decide) rfl ?_
                refine wa_iinc (v := (1)) (lv' := fun y27 => [(5, .int y27), (4, .int (bI false)), (0, .ref 84), (1, .int a0), (2, .int a1)]) (by decide) rfl (by decide) (fun _ => rfl) (fun y27 hy27 => ?_)
                have ty27 := i_addT hy27.symm
                clear hy27
                refine wa_goto o_X12_isOneSort_50 (by decide) ?_
                refine wa_pick [2, 3, 4, 1, 0] rfl ?_
                exact ih16 _ (by ((try simp only [vp_in_iff, Int32.lt_iff_toInt_lt, Int32.le_iff_toInt_le, ← Int32.toInt_inj, Int32.reduceToInt, n_1, n_2, n_8, Int32.toNatClampNeg, Int64.lt_iff_toInt_lt, Int64.le_iff_toInt_le, ← Int64.toInt_inj, Int64.reduceToInt, Int32.toInt_toInt64, lg_cmp_ge, lg_cmp_le, lg_cmp_gt, lg_cmp_lt, lg_cmp_eq, Bool.false_eq_true, Bool.true_eq_false, reduceCtorEq, false_iff, true_iff, iff_true, iff_false, and_true, true_and, and_false, false_and, reduceIte, ite_true, ite_false, eq_self] at *)) <;> omega) _ _ ⟨(by ((try simp only [vp_in_iff, Int32.lt_iff_toInt_lt, Int32.le_iff_toInt_le, ← Int32.toInt_inj, Int32.reduceToInt, n_1, n_2, n_8, Int32.toNatClampNeg, Int64.lt_iff_toInt_lt, Int64.le_iff_toInt_le, ← Int64.toInt_inj, Int64.reduceToInt, Int32.toInt_toInt64, lg_cmp_ge, lg_cmp_le, lg_cmp_gt, lg_cmp_lt, lg_cmp_eq, Bool.false_eq_true, Bool.true_eq_false, reduceCtorEq, false_iff, true_iff, iff_true, iff_false, and_true, true_and, and_false, false_and, reduceIte, ite_true, ite_false, eq_self] at *)) <;> omega), trivial⟩ rfl
              · refine wa_iconst (v := 1) (by decide) ?_
                refine wa_goto o_X12_isOneSort_106 (by decide) ?_
                refine wa_istoreD (lv' := [(4, .int (bI true)), (0, .ref 84), (1, .int a0), (2, .int a1), (5, .int l5)]) (by decide) rfl ?_
                refine wa_iinc (v := (1)) (lv' := fun y28 => [(5, .int y28), (4, .int (bI true)), (0, .ref 84), (1, .int a0), (2, .int a1)]) (by decide) rfl (by decide) (fun _ => rfl) (fun y28 hy28 => ?_)
                have ty28 := i_addT hy28.symm
                clear hy28
                refine wa_goto o_X12_isOneSort_50 (by decide) ?_
                refine wa_pick [2, 3, 4, 1, 0] rfl ?_
                exact ih16 _ (by ((try simp only [vp_in_iff, Int32.lt_iff_toInt_lt, Int32.le_iff_toInt_le, ← Int32.toInt_inj, Int32.reduceToInt, n_1, n_2, n_8, Int32.toNatClampNeg, Int64.lt_iff_toInt_lt, Int64.le_iff_toInt_le, ← Int64.toInt_inj, Int64.reduceToInt, Int32.toInt_toInt64, lg_cmp_ge, lg_cmp_le, lg_cmp_gt, lg_cmp_lt, lg_cmp_eq, Bool.false_eq_true, Bool.true_eq_false, reduceCtorEq, false_iff, true_iff, iff_true, iff_false, and_true, true_and, and_false, false_and, reduceIte, ite_true, ite_false, eq_self] at *)) <;> omega) _ _ ⟨(by ((try simp only [vp_in_iff, Int32.lt_iff_toInt_lt, Int32.le_iff_toInt_le, ← Int32.toInt_inj, Int32.reduceToInt, n_1, n_2, n_8, Int32.toNatClampNeg, Int64.lt_iff_toInt_lt, Int64.le_iff_toInt_le, ← Int64.toInt_inj, Int64.reduceToInt, Int32.toInt_toInt64, lg_cmp_ge, lg_cmp_le, lg_cmp_gt, lg_cmp_lt, lg_cmp_eq, Bool.false_eq_true, Bool.true_eq_false, reduceCtorEq, false_iff, true_iff, iff_true, iff_false, and_true, true_and, and_false, false_and, reduceIte, ite_true, ite_false, eq_self] at *)) <;> omega), trivial⟩ rfl
      exact hi17 _ _ _ ⟨(by ((try simp only [vp_in_iff, Int32.lt_iff_toInt_lt, Int32.le_iff_toInt_le, ← Int32.toInt_inj, Int32.reduceToInt, n_1, n_2, n_8, Int32.toNatClampNeg, Int64.lt_iff_toInt_lt, Int64.le_iff_toInt_le, ← Int64.toInt_inj, Int64.reduceToInt, Int32.toInt_toInt64, lg_cmp_ge, lg_cmp_le, lg_cmp_gt, lg_cmp_lt, lg_cmp_eq, Bool.false_eq_true, Bool.true_eq_false, reduceCtorEq, false_iff, true_iff, iff_true, iff_false, and_true, true_and, and_false, false_and, reduceIte, ite_true, ite_false, eq_self] at *)) <;> omega), trivial⟩ rfl
  · replace h1 := bI_t (b := a2) (rfl) h1
    refine wa_aload_n (i := 0) rfl rfl ?_
    refine wa_getr ck_12 fl_12_334 ly_84 rf_84_132 ?_
    refine wa_iload_n (i := 1) rfl rfl ?_
    refine wa_iald ly_124 (by ((try simp only [vp_in_iff, Int32.lt_iff_toInt_lt, Int32.le_iff_toInt_le, ← Int32.toInt_inj, Int32.reduceToInt, n_1, n_2, n_8, Int32.toNatClampNeg, Int64.lt_iff_toInt_lt, Int64.le_iff_toInt_le, ← Int64.toInt_inj, Int64.reduceToInt, Int32.toInt_toInt64, lg_cmp_ge, lg_cmp_le, lg_cmp_gt, lg_cmp_lt, lg_cmp_eq, Bool.false_eq_true, Bool.true_eq_false, reduceCtorEq, false_iff, true_iff, iff_true, iff_false, and_true, true_and, and_false, false_and, reduceIte, ite_true, ite_false, eq_self] at *)) <;> omega) ?_
    refine wa_top (fun v29 hv29 => ?_)
    have rv29 : 0 ≤ v29.toInt ∧ v29.toInt ≤ 65535 := by rw [← hv29]; exact ar_at A_124 _
    clear hv29
    refine wa_aload_n (i := 0) rfl rfl ?_
    refine wa_getr ck_12 fl_12_334 ly_84 rf_84_132 ?_
    refine wa_iload_n (i := 2) rfl rfl ?_
    refine wa_iald ly_124 (by ((try simp only [vp_in_iff, Int32.lt_iff_toInt_lt, Int32.le_iff_toInt_le, ← Int32.toInt_inj, Int32.reduceToInt, n_1, n_2, n_8, Int32.toNatClampNeg, Int64.lt_iff_toInt_lt, Int64.le_iff_toInt_le, ← Int64.toInt_inj, Int64.reduceToInt, Int32.toInt_toInt64, lg_cmp_ge, lg_cmp_le, lg_cmp_gt, lg_cmp_lt, lg_cmp_eq, Bool.false_eq_true, Bool.true_eq_false, reduceCtorEq, false_iff, true_iff, iff_true, iff_false, and_true, true_and, and_false, false_and, reduceIte, ite_true, ite_false, eq_self] at *)) <;> omega) ?_
    refine wa_top (fun v30 hv30 => ?_)
    have rv30 : 0 ≤ v30.toInt ∧ v30.toInt ≤ 65535 := by rw [← hv30]; exact ar_at A_124 _
    clear hv30
    refine wa_icmp_ne o_X12_isOneSort_23 (by decide) (fun h31 => ?_) (fun h31 => ?_)
    · refine wa_iconst (v := 0) (by decide) ?_
      refine wa_zreturn false (rfl) rfl rfl ?_
      exact ⟨_, rfl, rfl, trivial⟩
    · refine wa_iconst (v := 1) (by decide) ?_
      refine wa_goto o_X12_isOneSort_24 (by decide) ?_
      refine wa_zreturn true (rfl) rfl rfl ?_
      exact ⟨_, rfl, rfl, trivial⟩
set_option maxHeartbeats 4000000 in
theorem sp_X12_half (G : kG9) {d : Nat} (hd : 1 ≤ d) (σ : St) (a0 : Int32) (a1 : Int32) (r1 : 0 ≤ (gi σ 84 156).toInt ∧ (gi σ 84 156).toInt ≤ 3000) (r2 : 0 ≤ (gi σ 84 157).toInt ∧ (gi σ 84 157).toInt ≤ 16) : Ct G M_X12_half d [.ref 84, .int a0, .int a1] σ (fun r σ' => ∃ x : Int32, r = some (.int x) ∧ Fm [] [0] σ σ' ∧ True) := by
  refine wa_start (by decide) rfl (Nat.le_of_ble_eq_true rfl) (lv := [(0, .ref 84), (1, .int a0), (2, .int a1)]) rfl o_X12_half_0 rfl ?_
  have ua0 := Int32.toInt_lt a0
  have wa0 := Int32.le_toInt a0
  have ua1 := Int32.toInt_lt a1
  have wa1 := Int32.le_toInt a1
  refine wa_aload_n (i := 0) rfl rfl ?_
  refine wa_iload_n (i := 1) rfl rfl ?_
  refine wa_i2l ?_
  refine wa_lconst (v := 0) (by decide) ?_
  refine wa_aload_n (i := 0) rfl rfl ?_
  refine wa_geti ck_12 fl_12_1061 ly_84 ?_
  refine wa_iconst (v := 1) (by decide) ?_
  refine wa_isub ?_
  refine wa_top (fun v1 hv1 => ?_)
  have tv1 := i_subT hv1
  clear hv1
  refine wa_i2l ?_
  refine wa_Si (d9 := d - 1) [.long _, .long _, .long _] [.ref 84] (sp_X12_in G (d := d - 1) (by omega) σ _ _ _) (rfl) rfl rfl (zr (by omega)) mk_X12_in ml_12_504 (Nat.le_of_ble_eq_true rfl) (fun x3 s2 hs2 => ?_)
  obtain ⟨bx3, ex3, zs2, cx3_1, -⟩ := pB hs2
  subst ex3
  subst zs2
  refine wa_if_eq o_X12_half_37 (by decide) (fun h4 => ?_) (fun h4 => ?_)
  · replace h4 := bI_f (b := bx3) (rfl) h4
    have uh4_0 := iff_f cx3_1 h4
    refine wa_iconst (v := 1) (by decide) ?_
    refine wa_puti ck_12 fl_12_3 ly_84 (fun s5 hs5 => ?_)
    have Fs5 : Fm [] [0] σ s5 := by rw [hs5]; exact Fm.si (Fm.rf [] [0] σ) rfl
    refine wa_aload_n (i := 0) rfl rfl ?_
    refine wa_geti ck_12 fl_12_3 ly_84 ?_
    refine wa_rw (nxe_gi_si hs5) ?_
    refine wa_if_le o_X12_half_52 (by decide) (fun h6 => ?_) (fun h6 => ?_)
    · refine wa_aload_n (i := 0) rfl rfl ?_
      refine wa_getr ck_12 fl_12_388 ly_84 rf_84_154 ?_
      refine wa_bipush (v := 16) (by decide) ?_
      refine wa_iload_n (i := 1) rfl rfl ?_
      refine wa_imul ?_
      refine wa_top (fun v7 hv7 => ?_)
      have tv7 := i_mulT hv7
      clear hv7
      refine wa_iload_n (i := 2) rfl rfl ?_
      refine wa_iadd ?_
      refine wa_top (fun v8 hv8 => ?_)
      have tv8 := i_addT hv8
      clear hv8
      refine wa_iald ly_107 (by ((try simp only [vp_in_iff, Int32.lt_iff_toInt_lt, Int32.le_iff_toInt_le, ← Int32.toInt_inj, Int32.reduceToInt, n_1, n_2, n_8, Int32.toNatClampNeg, Int64.lt_iff_toInt_lt, Int64.le_iff_toInt_le, ← Int64.toInt_inj, Int64.reduceToInt, Int32.toInt_toInt64, lg_cmp_ge, lg_cmp_le, lg_cmp_gt, lg_cmp_lt, lg_cmp_eq, Bool.false_eq_true, Bool.true_eq_false, reduceCtorEq, false_iff, true_iff, iff_true, iff_false, and_true, true_and, and_false, false_and, reduceIte, ite_true, ite_false, eq_self] at *)) <;> omega) ?_
      refine wa_ireturn rfl rfl ?_
      exact ⟨_, rfl, Fs5, trivial⟩
    · refine wa_iconst (v := 0) (by decide) ?_
      refine wa_goto o_X12_half_63 (by decide) ?_
      refine wa_ireturn rfl rfl ?_
      exact ⟨_, rfl, Fs5, trivial⟩
  · replace h4 := bI_t (b := bx3) (rfl) h4
    have uh4_0 := iff_t cx3_1 h4
    refine wa_iload_n (i := 2) rfl rfl ?_
    refine wa_i2l ?_
    refine wa_lconst (v := 0) (by decide) ?_
    refine wa_aload_n (i := 0) rfl rfl ?_
    refine wa_geti ck_12 fl_12_1064 ly_84 ?_
    refine wa_iconst (v := 1) (by decide) ?_
    refine wa_isub ?_
    refine wa_top (fun v9 hv9 => ?_)
    have tv9 := i_subT hv9
    clear hv9
    refine wa_i2l ?_
    refine wa_Si (d9 := d - 1) [.long _, .long _, .long _] [.ref 84] (sp_X12_in G (d := d - 1) (by omega) σ _ _ _) (rfl) rfl rfl (zr (by omega)) mk_X12_in ml_12_504 (Nat.le_of_ble_eq_true rfl) (fun x11 s10 hs10 => ?_)
    obtain ⟨bx11, ex11, zs10, cx11_1, -⟩ := pB hs10
    subst ex11
    subst zs10
    refine wa_if_eq o_X12_half_37 (by decide) (fun h12 => ?_) (fun h12 => ?_)
    · replace h12 := bI_f (b := bx11) (rfl) h12
      have uh12_0 := iff_f cx11_1 h12
      refine wa_iconst (v := 1) (by decide) ?_
      refine wa_puti ck_12 fl_12_3 ly_84 (fun s13 hs13 => ?_)
      have Fs13 : Fm [] [0] σ s13 := by rw [hs13]; exact Fm.si (Fm.rf [] [0] σ) rfl
      refine wa_aload_n (i := 0) rfl rfl ?_
      refine wa_geti ck_12 fl_12_3 ly_84 ?_
      refine wa_rw (nxe_gi_si hs13) ?_
      refine wa_if_le o_X12_half_52 (by decide) (fun h14 => ?_) (fun h14 => ?_)
      · refine wa_aload_n (i := 0) rfl rfl ?_
        refine wa_getr ck_12 fl_12_388 ly_84 rf_84_154 ?_
        refine wa_bipush (v := 16) (by decide) ?_
        refine wa_iload_n (i := 1) rfl rfl ?_
        refine wa_imul ?_
        refine wa_top (fun v15 hv15 => ?_)
        have tv15 := i_mulT hv15
        clear hv15
        refine wa_iload_n (i := 2) rfl rfl ?_
        refine wa_iadd ?_
        refine wa_top (fun v16 hv16 => ?_)
        have tv16 := i_addT hv16
        clear hv16
        refine wa_iald ly_107 (by ((try simp only [vp_in_iff, Int32.lt_iff_toInt_lt, Int32.le_iff_toInt_le, ← Int32.toInt_inj, Int32.reduceToInt, n_1, n_2, n_8, Int32.toNatClampNeg, Int64.lt_iff_toInt_lt, Int64.le_iff_toInt_le, ← Int64.toInt_inj, Int64.reduceToInt, Int32.toInt_toInt64, lg_cmp_ge, lg_cmp_le, lg_cmp_gt, lg_cmp_lt, lg_cmp_eq, Bool.false_eq_true, Bool.true_eq_false, reduceCtorEq, false_iff, true_iff, iff_true, iff_false, and_true, true_and, and_false, false_and, reduceIte, ite_true, ite_false, eq_self] at *)) <;> omega) ?_
        refine wa_ireturn rfl rfl ?_
        exact ⟨_, rfl, Fs13, trivial⟩
      · refine wa_iconst (v := 0) (by decide) ?_
        refine wa_goto o_X12_half_63 (by decide) ?_
        refine wa_ireturn rfl rfl ?_
        exact ⟨_, rfl, Fs13, trivial⟩
    · replace h12 := bI_t (b := bx11) (rfl) h12
      have uh12_0 := iff_t cx11_1 h12
      refine wa_iconst (v := 0) (by decide) ?_
      refine wa_goto o_X12_half_38 (by decide) ?_
      refine wa_puti ck_12 fl_12_3 ly_84 (fun s17 hs17 => ?_)
      have Fs17 : Fm [] [0] σ s17 := by rw [hs17]; exact Fm.si (Fm.rf [] [0] σ) rfl
      refine wa_aload_n (i := 0) rfl rfl ?_
      refine wa_geti ck_12 fl_12_3 ly_84 ?_
      refine wa_rw (nxe_gi_si hs17) ?_
      refine wa_if_le o_X12_half_52 (by decide) (fun h18 => ?_) (fun h18 => ?_)
      · refine wa_aload_n (i := 0) rfl rfl ?_
        refine wa_getr ck_12 fl_12_388 ly_84 rf_84_154 ?_
        refine wa_bipush (v := 16) (by decide) ?_
        refine wa_iload_n (i := 1) rfl rfl ?_
        refine wa_imul ?_
        refine wa_top (fun v19 hv19 => ?_)
        have tv19 := i_mulT hv19
        clear hv19
        refine wa_iload_n (i := 2) rfl rfl ?_
        refine wa_iadd ?_
        refine wa_top (fun v20 hv20 => ?_)
        have tv20 := i_addT hv20
        clear hv20
        refine wa_iald ly_107 (by ((try simp only [vp_in_iff, Int32.lt_iff_toInt_lt, Int32.le_iff_toInt_le, ← Int32.toInt_inj, Int32.reduceToInt, n_1, n_2, n_8, Int32.toNatClampNeg, Int64.lt_iff_toInt_lt, Int64.le_iff_toInt_le, ← Int64.toInt_inj, Int64.reduceToInt, Int32.toInt_toInt64, lg_cmp_ge, lg_cmp_le, lg_cmp_gt, lg_cmp_lt, lg_cmp_eq, Bool.false_eq_true, Bool.true_eq_false, reduceCtorEq, false_iff, true_iff, iff_true, iff_false, and_true, true_and, and_false, false_and, reduceIte, ite_true, ite_false, eq_self] at *)) <;> omega) ?_
        refine wa_ireturn rfl rfl ?_
        exact ⟨_, rfl, Fs17, trivial⟩
      · refine wa_iconst (v := 0) (by decide) ?_
        refine wa_goto o_X12_half_63 (by decide) ?_
        refine wa_ireturn rfl rfl ?_
        exact ⟨_, rfl, Fs17, trivial⟩
set_option maxHeartbeats 4000000 in
theorem sp_X12_takes (G : kG9) {d : Nat} (hd : 1 ≤ d) (σ : St) (a0 : Int32) (a1 : Int32) (r1 : 0 ≤ (gi σ 84 156).toInt ∧ (gi σ 84 156).toInt ≤ 3000) (r2 : 0 ≤ (gi σ 84 157).toInt ∧ (gi σ 84 157).toInt ≤ 16) : Ct G M_X12_takes d [.ref 84, .int a0, .int a1] σ (fun r σ' => ∃ x : Int32, r = some (.int x) ∧ Fm [] [0] σ σ' ∧ True) := by
  refine wa_start (by decide) rfl (Nat.le_of_ble_eq_true rfl) (lv := [(0, .ref 84), (1, .int a0), (2, .int a1)]) rfl o_X12_takes_0 rfl ?_
  have ua0 := Int32.toInt_lt a0
  have wa0 := Int32.le_toInt a0
  have ua1 := Int32.toInt_lt a1
  have wa1 := Int32.le_toInt a1
  refine wa_aload_n (i := 0) rfl rfl ?_
  refine wa_iload_n (i := 1) rfl rfl ?_
  refine wa_i2l ?_
  refine wa_lconst (v := 0) (by decide) ?_
  refine wa_aload_n (i := 0) rfl rfl ?_
  refine wa_geti ck_12 fl_12_1061 ly_84 ?_
  refine wa_iconst (v := 1) (by decide) ?_
  refine wa_isub ?_
  refine wa_top (fun v1 hv1 => ?_)
  have tv1 := i_subT hv1
  clear hv1
  refine wa_i2l ?_
  refine wa_Si (d9 := d - 1) [.long _, .long _, .long _] [.ref 84] (sp_X12_in G (d := d - 1) (by omega) σ _ _ _) (rfl) rfl rfl (zr (by omega)) mk_X12_in ml_12_504 (Nat.le_of_ble_eq_true rfl) (fun x3 s2 hs2 => ?_)
  obtain ⟨bx3, ex3, zs2, cx3_1, -⟩ := pB hs2
  subst ex3
  subst zs2
  refine wa_if_eq o_X12_takes_37 (by decide) (fun h4 => ?_) (fun h4 => ?_)
  · replace h4 := bI_f (b := bx3) (rfl) h4
    have uh4_0 := iff_f cx3_1 h4
    refine wa_iconst (v := 1) (by decide) ?_
    refine wa_puti ck_12 fl_12_3 ly_84 (fun s5 hs5 => ?_)
    have Fs5 : Fm [] [0] σ s5 := by rw [hs5]; exact Fm.si (Fm.rf [] [0] σ) rfl
    refine wa_aload_n (i := 0) rfl rfl ?_
    refine wa_geti ck_12 fl_12_3 ly_84 ?_
    refine wa_rw (nxe_gi_si hs5) ?_
    refine wa_if_le o_X12_takes_52 (by decide) (fun h6 => ?_) (fun h6 => ?_)
    · refine wa_aload_n (i := 0) rfl rfl ?_
      refine wa_getr ck_12 fl_12_391 ly_84 rf_84_155 ?_
      refine wa_iload_n (i := 1) rfl rfl ?_
      refine wa_iald ly_106 (by ((try simp only [vp_in_iff, Int32.lt_iff_toInt_lt, Int32.le_iff_toInt_le, ← Int32.toInt_inj, Int32.reduceToInt, n_1, n_2, n_8, Int32.toNatClampNeg, Int64.lt_iff_toInt_lt, Int64.le_iff_toInt_le, ← Int64.toInt_inj, Int64.reduceToInt, Int32.toInt_toInt64, lg_cmp_ge, lg_cmp_le, lg_cmp_gt, lg_cmp_lt, lg_cmp_eq, Bool.false_eq_true, Bool.true_eq_false, reduceCtorEq, false_iff, true_iff, iff_true, iff_false, and_true, true_and, and_false, false_and, reduceIte, ite_true, ite_false, eq_self] at *)) <;> omega) ?_
      refine wa_iload_n (i := 2) rfl rfl ?_
      refine wa_ishr ?_
      refine wa_top (fun v7 hv7 => ?_)
      clear hv7
      refine wa_iconst (v := 1) (by decide) ?_
      refine wa_iand ?_
      refine wa_top (fun v8 hv8 => ?_)
      have tv8 := i_andT hv8
      clear hv8
      refine wa_ireturn rfl rfl ?_
      exact ⟨_, rfl, Fs5, trivial⟩
    · refine wa_iconst (v := 0) (by decide) ?_
      refine wa_goto o_X12_takes_62 (by decide) ?_
      refine wa_ireturn rfl rfl ?_
      exact ⟨_, rfl, Fs5, trivial⟩
  · replace h4 := bI_t (b := bx3) (rfl) h4
    have uh4_0 := iff_t cx3_1 h4
    refine wa_iload_n (i := 2) rfl rfl ?_
    refine wa_i2l ?_
    refine wa_lconst (v := 0) (by decide) ?_
    refine wa_aload_n (i := 0) rfl rfl ?_
    refine wa_geti ck_12 fl_12_1064 ly_84 ?_
    refine wa_iconst (v := 1) (by decide) ?_
    refine wa_isub ?_
    refine wa_top (fun v9 hv9 => ?_)
    have tv9 := i_subT hv9
    clear hv9
    refine wa_i2l ?_
    refine wa_Si (d9 := d - 1) [.long _, .long _, .long _] [.ref 84] (sp_X12_in G (d := d - 1) (by omega) σ _ _ _) (rfl) rfl rfl (zr (by omega)) mk_X12_in ml_12_504 (Nat.le_of_ble_eq_true rfl) (fun x11 s10 hs10 => ?_)
    obtain ⟨bx11, ex11, zs10, cx11_1, -⟩ := pB hs10
    subst ex11
    subst zs10
    refine wa_if_eq o_X12_takes_37 (by decide) (fun h12 => ?_) (fun h12 => ?_)
    · replace h12 := bI_f (b := bx11) (rfl) h12
      have uh12_0 := iff_f cx11_1 h12
      refine wa_iconst (v := 1) (by decide) ?_
      refine wa_puti ck_12 fl_12_3 ly_84 (fun s13 hs13 => ?_)
      have Fs13 : Fm [] [0] σ s13 := by rw [hs13]; exact Fm.si (Fm.rf [] [0] σ) rfl
      refine wa_aload_n (i := 0) rfl rfl ?_
      refine wa_geti ck_12 fl_12_3 ly_84 ?_
      refine wa_rw (nxe_gi_si hs13) ?_
      refine wa_if_le o_X12_takes_52 (by decide) (fun h14 => ?_) (fun h14 => ?_)
      · refine wa_aload_n (i := 0) rfl rfl ?_
        refine wa_getr ck_12 fl_12_391 ly_84 rf_84_155 ?_
        refine wa_iload_n (i := 1) rfl rfl ?_
        refine wa_iald ly_106 (by ((try simp only [vp_in_iff, Int32.lt_iff_toInt_lt, Int32.le_iff_toInt_le, ← Int32.toInt_inj, Int32.reduceToInt, n_1, n_2, n_8, Int32.toNatClampNeg, Int64.lt_iff_toInt_lt, Int64.le_iff_toInt_le, ← Int64.toInt_inj, Int64.reduceToInt, Int32.toInt_toInt64, lg_cmp_ge, lg_cmp_le, lg_cmp_gt, lg_cmp_lt, lg_cmp_eq, Bool.false_eq_true, Bool.true_eq_false, reduceCtorEq, false_iff, true_iff, iff_true, iff_false, and_true, true_and, and_false, false_and, reduceIte, ite_true, ite_false, eq_self] at *)) <;> omega) ?_
        refine wa_iload_n (i := 2) rfl rfl ?_
        refine wa_ishr ?_
        refine wa_top (fun v15 hv15 => ?_)
        clear hv15
        refine wa_iconst (v := 1) (by decide) ?_
        refine wa_iand ?_
        refine wa_top (fun v16 hv16 => ?_)
        have tv16 := i_andT hv16
        clear hv16
        refine wa_ireturn rfl rfl ?_
        exact ⟨_, rfl, Fs13, trivial⟩
      · refine wa_iconst (v := 0) (by decide) ?_
        refine wa_goto o_X12_takes_62 (by decide) ?_
        refine wa_ireturn rfl rfl ?_
        exact ⟨_, rfl, Fs13, trivial⟩
    · replace h12 := bI_t (b := bx11) (rfl) h12
      have uh12_0 := iff_t cx11_1 h12
      refine wa_iconst (v := 0) (by decide) ?_
      refine wa_goto o_X12_takes_38 (by decide) ?_
      refine wa_puti ck_12 fl_12_3 ly_84 (fun s17 hs17 => ?_)
      have Fs17 : Fm [] [0] σ s17 := by rw [hs17]; exact Fm.si (Fm.rf [] [0] σ) rfl
      refine wa_aload_n (i := 0) rfl rfl ?_
      refine wa_geti ck_12 fl_12_3 ly_84 ?_
      refine wa_rw (nxe_gi_si hs17) ?_
      refine wa_if_le o_X12_takes_52 (by decide) (fun h18 => ?_) (fun h18 => ?_)
      · refine wa_aload_n (i := 0) rfl rfl ?_
        refine wa_getr ck_12 fl_12_391 ly_84 rf_84_155 ?_
        refine wa_iload_n (i := 1) rfl rfl ?_
        refine wa_iald ly_106 (by ((try simp only [vp_in_iff, Int32.lt_iff_toInt_lt, Int32.le_iff_toInt_le, ← Int32.toInt_inj, Int32.reduceToInt, n_1, n_2, n_8, Int32.toNatClampNeg, Int64.lt_iff_toInt_lt, Int64.le_iff_toInt_le, ← Int64.toInt_inj, Int64.reduceToInt, Int32.toInt_toInt64, lg_cmp_ge, lg_cmp_le, lg_cmp_gt, lg_cmp_lt, lg_cmp_eq, Bool.false_eq_true, Bool.true_eq_false, reduceCtorEq, false_iff, true_iff, iff_true, iff_false, and_true, true_and, and_false, false_and, reduceIte, ite_true, ite_false, eq_self] at *)) <;> omega) ?_
        refine wa_iload_n (i := 2) rfl rfl ?_
        refine wa_ishr ?_
        refine wa_top (fun v19 hv19 => ?_)
        clear hv19
        refine wa_iconst (v := 1) (by decide) ?_
        refine wa_iand ?_
        refine wa_top (fun v20 hv20 => ?_)
        have tv20 := i_andT hv20
        clear hv20
        refine wa_ireturn rfl rfl ?_
        exact ⟨_, rfl, Fs17, trivial⟩
      · refine wa_iconst (v := 0) (by decide) ?_
        refine wa_goto o_X12_takes_62 (by decide) ?_
        refine wa_ireturn rfl rfl ?_
        exact ⟨_, rfl, Fs17, trivial⟩
set_option maxHeartbeats 4000000 in
theorem sp_X12_isRow (G : kG9) {d : Nat} (hd : 0 ≤ d) (σ : St) (a0 : Int32) : Ct G M_X12_isRow d [.ref 84, .int a0] σ (fun r σ' => ∃ x : Bool, r = some (.int (bI x)) ∧ σ = σ' ∧ True) := by
  refine wa_start (by decide) rfl (Nat.le_of_ble_eq_true rfl) (lv := [(0, .ref 84), (1, .int a0)]) rfl o_X12_isRow_0 rfl ?_
  have ua0 := Int32.toInt_lt a0
  have wa0 := Int32.le_toInt a0
  refine wa_aload_n (i := 0) rfl rfl ?_
  refine wa_getr ck_12 fl_12_397 ly_84 rf_84_159 ?_
  refine wa_iload_n (i := 1) rfl rfl ?_
  refine wa_lald ly_104 (by ((try simp only [vp_in_iff, Int32.lt_iff_toInt_lt, Int32.le_iff_toInt_le, ← Int32.toInt_inj, Int32.reduceToInt, n_1, n_2, n_8, Int32.toNatClampNeg, Int64.lt_iff_toInt_lt, Int64.le_iff_toInt_le, ← Int64.toInt_inj, Int64.reduceToInt, Int32.toInt_toInt64, lg_cmp_ge, lg_cmp_le, lg_cmp_gt, lg_cmp_lt, lg_cmp_eq, Bool.false_eq_true, Bool.true_eq_false, reduceCtorEq, false_iff, true_iff, iff_true, iff_false, and_true, true_and, and_false, false_and, reduceIte, ite_true, ite_false, eq_self] at *)) <;> omega) ?_
  refine wa_aload_n (i := 0) rfl rfl ?_
  refine wa_getl ck_12 fl_12_736 ly_84 ?_
  refine wa_lcmp ?_
  refine wa_top (fun v1 hv1 => ?_)
  have tv1 := i_cmpT hv1
  clear hv1
  refine wa_if_ne o_X12_isRow_18 (by decide) (fun h2 => ?_) (fun h2 => ?_)
  · refine wa_iconst (v := 0) (by decide) ?_
    refine wa_istore_nD (lv' := [(2, .int (bI false)), (0, .ref 84), (1, .int a0)]) (i := 2) rfl (by decide) rfl ?_
    refine wa_iconst (v := 0) (by decide) ?_
    refine wa_istore_nD (lv' := [(3, .int 0), (2, .int (bI false)), (0, .ref 84), (1, .int a0)]) (i := 3) rfl (by decide) rfl ?_
    refine wa_pick [2, 3, 1, 0] rfl ?_
    have hi4 : ∀ (n9_22 : Nat) (l2 : Bool) (l3 : Int32), ((0 ≤ l3.toInt) ∧ (True)) → (2147483647 - l3.toInt).toNat = n9_22 → WA G M_X12_isRow (ZM G M_X12_isRow d (fun r σ' => ∃ x : Bool, r = some (.int (bI x)) ∧ σ = σ' ∧ True)) B_X12_isRow_22 [(0, .ref 84), (1, .int a0), (2, .int (bI l2)), (3, .int l3)] [] σ := by
      intro n9_22
      induction n9_22 using Nat.strongRecOn with
      | _ n9_22 ih3 =>
        intro l2 l3  i9 m9_22
        obtain ⟨jhi4_0, -⟩ := i9
        have ul3 := Int32.toInt_lt l3
        have wl3 := Int32.le_toInt l3
        refine wa_iload_n (i := 3) rfl rfl ?_
        refine wa_iconst (v := 4) (by decide) ?_
        refine wa_icmp_ge o_X12_isRow_63 (by decide) (fun h5 => ?_) (fun h5 => ?_)
        · refine wa_iload_n (i := 2) rfl rfl ?_
          refine wa_zreturn l2 (rfl) rfl rfl ?_
          exact ⟨_, rfl, rfl, trivial⟩
        · have mh5 := nle_mx h5
          refine wa_iload_n (i := 2) rfl rfl ?_
          refine wa_if_eq o_X12_isRow_55 (by decide) (fun h6 => ?_) (fun h6 => ?_)
          · replace h6 := bI_f (b := l2) (rfl) h6
            refine wa_iconst (v := 0) (by decide) ?_
            refine wa_istore_nD (lv' := [(2, .int (bI false)), (0, .ref 84), (1, .int a0), (3, .int l3)]) (i := 2) rfl (by decide) rfl ?_
            refine wa_iinc (v := (1)) (lv' := fun y7 => [(3, .int y7), (2, .int (bI false)), (0, .ref 84), (1, .int a0)]) (by decide) rfl (by decide) (fun _ => rfl) (fun y7 hy7 => ?_)
            have ty7 := i_addT hy7.symm
            clear hy7
            refine wa_goto o_X12_isRow_22 (by decide) ?_
            refine wa_pick [2, 3, 1, 0] rfl ?_
            exact ih3 _ (by ((try simp only [vp_in_iff, Int32.lt_iff_toInt_lt, Int32.le_iff_toInt_le, ← Int32.toInt_inj, Int32.reduceToInt, n_1, n_2, n_8, Int32.toNatClampNeg, Int64.lt_iff_toInt_lt, Int64.le_iff_toInt_le, ← Int64.toInt_inj, Int64.reduceToInt, Int32.toInt_toInt64, lg_cmp_ge, lg_cmp_le, lg_cmp_gt, lg_cmp_lt, lg_cmp_eq, Bool.false_eq_true, Bool.true_eq_false, reduceCtorEq, false_iff, true_iff, iff_true, iff_false, and_true, true_and, and_false, false_and, reduceIte, ite_true, ite_false, eq_self] at *)) <;> omega) _ _ ⟨(by ((try simp only [vp_in_iff, Int32.lt_iff_toInt_lt, Int32.le_iff_toInt_le, ← Int32.toInt_inj, Int32.reduceToInt, n_1, n_2, n_8, Int32.toNatClampNeg, Int64.lt_iff_toInt_lt, Int64.le_iff_toInt_le, ← Int64.toInt_inj, Int64.reduceToInt, Int32.toInt_toInt64, lg_cmp_ge, lg_cmp_le, lg_cmp_gt, lg_cmp_lt, lg_cmp_eq, Bool.false_eq_true, Bool.true_eq_false, reduceCtorEq, false_iff, true_iff, iff_true, iff_false, and_true, true_and, and_false, false_and, reduceIte, ite_true, ite_false, eq_self] at *)) <;> omega), trivial⟩ rfl
          · replace h6 := bI_t (b := l2) (rfl) h6
            refine wa_aload_n (i := 0) rfl rfl ?_
            refine wa_getr ck_12 fl_12_394 ly_84 rf_84_158 ?_
            refine wa_iconst (v := 4) (by decide) ?_
            refine wa_iload_n (i := 1) rfl rfl ?_
            refine wa_imul ?_
            refine wa_top (fun v8 hv8 => ?_)
            have tv8 := i_mulT hv8
            clear hv8
            refine wa_iload_n (i := 3) rfl rfl ?_
            refine wa_iadd ?_
            refine wa_top (fun v9 hv9 => ?_)
            have tv9 := i_addT hv9
            clear hv9
            refine wa_lald ly_105 (by ((try simp only [vp_in_iff, Int32.lt_iff_toInt_lt, Int32.le_iff_toInt_le, ← Int32.toInt_inj, Int32.reduceToInt, n_1, n_2, n_8, Int32.toNatClampNeg, Int64.lt_iff_toInt_lt, Int64.le_iff_toInt_le, ← Int64.toInt_inj, Int64.reduceToInt, Int32.toInt_toInt64, lg_cmp_ge, lg_cmp_le, lg_cmp_gt, lg_cmp_lt, lg_cmp_eq, Bool.false_eq_true, Bool.true_eq_false, reduceCtorEq, false_iff, true_iff, iff_true, iff_false, and_true, true_and, and_false, false_and, reduceIte, ite_true, ite_false, eq_self] at *)) <;> omega) ?_
            refine wa_aload_n (i := 0) rfl rfl ?_
            refine wa_getr ck_12 fl_12_262 ly_84 rf_84_100 ?_
            refine wa_iload_n (i := 3) rfl rfl ?_
            refine wa_lald ly_147 (by ((try simp only [vp_in_iff, Int32.lt_iff_toInt_lt, Int32.le_iff_toInt_le, ← Int32.toInt_inj, Int32.reduceToInt, n_1, n_2, n_8, Int32.toNatClampNeg, Int64.lt_iff_toInt_lt, Int64.le_iff_toInt_le, ← Int64.toInt_inj, Int64.reduceToInt, Int32.toInt_toInt64, lg_cmp_ge, lg_cmp_le, lg_cmp_gt, lg_cmp_lt, lg_cmp_eq, Bool.false_eq_true, Bool.true_eq_false, reduceCtorEq, false_iff, true_iff, iff_true, iff_false, and_true, true_and, and_false, false_and, reduceIte, ite_true, ite_false, eq_self] at *)) <;> omega) ?_
            refine wa_lcmp ?_
            refine wa_top (fun v10 hv10 => ?_)
            have tv10 := i_cmpT hv10
            clear hv10
            refine wa_if_ne o_X12_isRow_55 (by decide) (fun h11 => ?_) (fun h11 => ?_)
            · refine wa_iconst (v := 0) (by decide) ?_
              refine wa_istore_nD (lv' := [(2, .int (bI false)), (0, .ref 84), (1, .int a0), (3, .int l3)]) (i := 2) rfl (by decide) rfl ?_
              refine wa_iinc (v := (1)) (lv' := fun y12 => [(3, .int y12), (2, .int (bI false)), (0, .ref 84), (1, .int a0)]) (by decide) rfl (by decide) (fun _ => rfl) (fun y12 hy12 => ?_)
              have ty12 := i_addT hy12.symm
              clear hy12
              refine wa_goto o_X12_isRow_22 (by decide) ?_
              refine wa_pick [2, 3, 1, 0] rfl ?_
              exact ih3 _ (by ((try simp only [vp_in_iff, Int32.lt_iff_toInt_lt, Int32.le_iff_toInt_le, ← Int32.toInt_inj, Int32.reduceToInt, n_1, n_2, n_8, Int32.toNatClampNeg, Int64.lt_iff_toInt_lt, Int64.le_iff_toInt_le, ← Int64.toInt_inj, Int64.reduceToInt, Int32.toInt_toInt64, lg_cmp_ge, lg_cmp_le, lg_cmp_gt, lg_cmp_lt, lg_cmp_eq, Bool.false_eq_true, Bool.true_eq_false, reduceCtorEq, false_iff, true_iff, iff_true, iff_false, and_true, true_and, and_false, false_and, reduceIte, ite_true, ite_false, eq_self] at *)) <;> omega) _ _ ⟨(by ((try simp only [vp_in_iff, Int32.lt_iff_toInt_lt, Int32.le_iff_toInt_le, ← Int32.toInt_inj, Int32.reduceToInt, n_1, n_2, n_8, Int32.toNatClampNeg, Int64.lt_iff_toInt_lt, Int64.le_iff_toInt_le, ← Int64.toInt_inj, Int64.reduceToInt, Int32.toInt_toInt64, lg_cmp_ge, lg_cmp_le, lg_cmp_gt, lg_cmp_lt, lg_cmp_eq, Bool.false_eq_true, Bool.true_eq_false, reduceCtorEq, false_iff, true_iff, iff_true, iff_false, and_true, true_and, and_false, false_and, reduceIte, ite_true, ite_false, eq_self] at *)) <;> omega), trivial⟩ rfl
            · refine wa_iconst (v := 1) (by decide) ?_
              refine wa_goto o_X12_isRow_56 (by decide) ?_
              refine wa_istore_nD (lv' := [(2, .int (bI true)), (0, .ref 84), (1, .int a0), (3, .int l3)]) (i := 2) rfl (by decide) rfl ?_
              refine wa_iinc (v := (1)) (lv' := fun y13 => [(3, .int y13), (2, .int (bI true)), (0, .ref 84), (1, .int a0)]) (by decide) rfl (by decide) (fun _ => rfl) (fun y13 hy13 => ?_)
              have ty13 := i_addT hy13.symm
              clear hy13
              refine wa_goto o_X12_isRow_22 (by decide) ?_
              refine wa_pick [2, 3, 1, 0] rfl ?_
              exact ih3 _ (by ((try simp only [vp_in_iff, Int32.lt_iff_toInt_lt, Int32.le_iff_toInt_le, ← Int32.toInt_inj, Int32.reduceToInt, n_1, n_2, n_8, Int32.toNatClampNeg, Int64.lt_iff_toInt_lt, Int64.le_iff_toInt_le, ← Int64.toInt_inj, Int64.reduceToInt, Int32.toInt_toInt64, lg_cmp_ge, lg_cmp_le, lg_cmp_gt, lg_cmp_lt, lg_cmp_eq, Bool.false_eq_true, Bool.true_eq_false, reduceCtorEq, false_iff, true_iff, iff_true, iff_false, and_true, true_and, and_false, false_and, reduceIte, ite_true, ite_false, eq_self] at *)) <;> omega) _ _ ⟨(by ((try simp only [vp_in_iff, Int32.lt_iff_toInt_lt, Int32.le_iff_toInt_le, ← Int32.toInt_inj, Int32.reduceToInt, n_1, n_2, n_8, Int32.toNatClampNeg, Int64.lt_iff_toInt_lt, Int64.le_iff_toInt_le, ← Int64.toInt_inj, Int64.reduceToInt, Int32.toInt_toInt64, lg_cmp_ge, lg_cmp_le, lg_cmp_gt, lg_cmp_lt, lg_cmp_eq, Bool.false_eq_true, Bool.true_eq_false, reduceCtorEq, false_iff, true_iff, iff_true, iff_false, and_true, true_and, and_false, false_and, reduceIte, ite_true, ite_false, eq_self] at *)) <;> omega), trivial⟩ rfl
    exact hi4 _ _ _ ⟨(by ((try simp only [vp_in_iff, Int32.lt_iff_toInt_lt, Int32.le_iff_toInt_le, ← Int32.toInt_inj, Int32.reduceToInt, n_1, n_2, n_8, Int32.toNatClampNeg, Int64.lt_iff_toInt_lt, Int64.le_iff_toInt_le, ← Int64.toInt_inj, Int64.reduceToInt, Int32.toInt_toInt64, lg_cmp_ge, lg_cmp_le, lg_cmp_gt, lg_cmp_lt, lg_cmp_eq, Bool.false_eq_true, Bool.true_eq_false, reduceCtorEq, false_iff, true_iff, iff_true, iff_false, and_true, true_and, and_false, false_and, reduceIte, ite_true, ite_false, eq_self] at *)) <;> omega), trivial⟩ rfl
  · refine wa_iconst (v := 1) (by decide) ?_
    refine wa_goto o_X12_isRow_19 (by decide) ?_
    refine wa_istore_nD (lv' := [(2, .int (bI true)), (0, .ref 84), (1, .int a0)]) (i := 2) rfl (by decide) rfl ?_
    refine wa_iconst (v := 0) (by decide) ?_
    refine wa_istore_nD (lv' := [(3, .int 0), (2, .int (bI true)), (0, .ref 84), (1, .int a0)]) (i := 3) rfl (by decide) rfl ?_
    refine wa_pick [2, 3, 1, 0] rfl ?_
    have hi15 : ∀ (n9_22 : Nat) (l2 : Bool) (l3 : Int32), ((0 ≤ l3.toInt) ∧ (True)) → (2147483647 - l3.toInt).toNat = n9_22 → WA G M_X12_isRow (ZM G M_X12_isRow d (fun r σ' => ∃ x : Bool, r = some (.int (bI x)) ∧ σ = σ' ∧ True)) B_X12_isRow_22 [(0, .ref 84), (1, .int a0), (2, .int (bI l2)), (3, .int l3)] [] σ := by
      intro n9_22
      induction n9_22 using Nat.strongRecOn with
      | _ n9_22 ih14 =>
        intro l2 l3  i9 m9_22
        obtain ⟨jhi15_0, -⟩ := i9
        have ul3 := Int32.toInt_lt l3
        have wl3 := Int32.le_toInt l3
        refine wa_iload_n (i := 3) rfl rfl ?_
        refine wa_iconst (v := 4) (by decide) ?_
        refine wa_icmp_ge o_X12_isRow_63 (by decide) (fun h16 => ?_) (fun h16 => ?_)
        · refine wa_iload_n (i := 2) rfl rfl ?_
          refine wa_zreturn l2 (rfl) rfl rfl ?_
          exact ⟨_, rfl, rfl, trivial⟩
        · have mh16 := nle_mx h16
          refine wa_iload_n (i := 2) rfl rfl ?_
          refine wa_if_eq o_X12_isRow_55 (by decide) (fun h17 => ?_) (fun h17 => ?_)
          · replace h17 := bI_f (b := l2) (rfl) h17
            refine wa_iconst (v := 0) (by decide) ?_
            refine wa_istore_nD (lv' := [(2, .int (bI false)), (0, .ref 84), (1, .int a0), (3, .int l3)]) (i := 2) rfl (by decide) rfl ?_
            refine wa_iinc (v := (1)) (lv' := fun y18 => [(3, .int y18), (2, .int (bI false)), (0, .ref 84), (1, .int a0)]) (by decide) rfl (by decide) (fun _ => rfl) (fun y18 hy18 => ?_)
            have ty18 := i_addT hy18.symm
            clear hy18
            refine wa_goto o_X12_isRow_22 (by decide) ?_
            refine wa_pick [2, 3, 1, 0] rfl ?_
            exact ih14 _ (by ((try simp only [vp_in_iff, Int32.lt_iff_toInt_lt, Int32.le_iff_toInt_le, ← Int32.toInt_inj, Int32.reduceToInt, n_1, n_2, n_8, Int32.toNatClampNeg, Int64.lt_iff_toInt_lt, Int64.le_iff_toInt_le, ← Int64.toInt_inj, Int64.reduceToInt, Int32.toInt_toInt64, lg_cmp_ge, lg_cmp_le, lg_cmp_gt, lg_cmp_lt, lg_cmp_eq, Bool.false_eq_true, Bool.true_eq_false, reduceCtorEq, false_iff, true_iff, iff_true, iff_false, and_true, true_and, and_false, false_and, reduceIte, ite_true, ite_false, eq_self] at *)) <;> omega) _ _ ⟨(by ((try simp only [vp_in_iff, Int32.lt_iff_toInt_lt, Int32.le_iff_toInt_le, ← Int32.toInt_inj, Int32.reduceToInt, n_1, n_2, n_8, Int32.toNatClampNeg, Int64.lt_iff_toInt_lt, Int64.le_iff_toInt_le, ← Int64.toInt_inj, Int64.reduceToInt, Int32.toInt_toInt64, lg_cmp_ge, lg_cmp_le, lg_cmp_gt, lg_cmp_lt, lg_cmp_eq, Bool.false_eq_true, Bool.true_eq_false, reduceCtorEq, false_iff, true_iff, iff_true, iff_false, and_true, true_and, and_false, false_and, reduceIte, ite_true, ite_false, eq_self] at *)) <;> omega), trivial⟩ rfl
          · replace h17 := bI_t (b := l2) (rfl) h17
            refine wa_aload_n (i := 0) rfl rfl ?_
            refine wa_getr ck_12 fl_12_394 ly_84 rf_84_158 ?_
            refine wa_iconst (v := 4) (by decide) ?_
            refine wa_iload_n (i := 1) rfl rfl ?_
            refine wa_imul ?_
            refine wa_top (fun v19 hv19 => ?_)
            have tv19 := i_mulT hv19
            clear hv19
            refine wa_iload_n (i := 3) rfl rfl ?_
            refine wa_iadd ?_
            refine wa_top (fun v20 hv20 => ?_)
            have tv20 := i_addT hv20
            clear hv20
            refine wa_lald ly_105 (by ((try simp only [vp_in_iff, Int32.lt_iff_toInt_lt, Int32.le_iff_toInt_le, ← Int32.toInt_inj, Int32.reduceToInt, n_1, n_2, n_8, Int32.toNatClampNeg, Int64.lt_iff_toInt_lt, Int64.le_iff_toInt_le, ← Int64.toInt_inj, Int64.reduceToInt, Int32.toInt_toInt64, lg_cmp_ge, lg_cmp_le, lg_cmp_gt, lg_cmp_lt, lg_cmp_eq, Bool.false_eq_true, Bool.true_eq_false, reduceCtorEq, false_iff, true_iff, iff_true, iff_false, and_true, true_and, and_false, false_and, reduceIte, ite_true, ite_false, eq_self] at *)) <;> omega) ?_
            refine wa_aload_n (i := 0) rfl rfl ?_
            refine wa_getr ck_12 fl_12_262 ly_84 rf_84_100 ?_
            refine wa_iload_n (i := 3) rfl rfl ?_
            refine wa_lald ly_147 (by ((try simp only [vp_in_iff, Int32.lt_iff_toInt_lt, Int32.le_iff_toInt_le, ← Int32.toInt_inj, Int32.reduceToInt, n_1, n_2, n_8, Int32.toNatClampNeg, Int64.lt_iff_toInt_lt, Int64.le_iff_toInt_le, ← Int64.toInt_inj, Int64.reduceToInt, Int32.toInt_toInt64, lg_cmp_ge, lg_cmp_le, lg_cmp_gt, lg_cmp_lt, lg_cmp_eq, Bool.false_eq_true, Bool.true_eq_false, reduceCtorEq, false_iff, true_iff, iff_true, iff_false, and_true, true_and, and_false, false_and, reduceIte, ite_true, ite_false, eq_self] at *)) <;> omega) ?_
            refine wa_lcmp ?_
            refine wa_top (fun v21 hv21 => ?_)
            have tv21 := i_cmpT hv21
            clear hv21
            refine wa_if_ne o_X12_isRow_55 (by decide) (fun h22 => ?_) (fun h22 => ?_)
            · refine wa_iconst (v := 0) (by decide) ?_
              refine wa_istore_nD (lv' := [(2, .int (bI false)), (0, .ref 84), (1, .int a0), (3, .int l3)]) (i := 2) rfl (by decide) rfl ?_
              refine wa_iinc (v := (1)) (lv' := fun y23 => [(3, .int y23), (2, .int (bI false)), (0, .ref 84), (1, .int a0)]) (by decide) rfl (by decide) (fun _ => rfl) (fun y23 hy23 => ?_)
              have ty23 := i_addT hy23.symm
              clear hy23
              refine wa_goto o_X12_isRow_22 (by decide) ?_
              refine wa_pick [2, 3, 1, 0] rfl ?_
              exact ih14 _ (by ((try simp only [vp_in_iff, Int32.lt_iff_toInt_lt, Int32.le_iff_toInt_le, ← Int32.toInt_inj, Int32.reduceToInt, n_1, n_2, n_8, Int32.toNatClampNeg, Int64.lt_iff_toInt_lt, Int64.le_iff_toInt_le, ← Int64.toInt_inj, Int64.reduceToInt, Int32.toInt_toInt64, lg_cmp_ge, lg_cmp_le, lg_cmp_gt, lg_cmp_lt, lg_cmp_eq, Bool.false_eq_true, Bool.true_eq_false, reduceCtorEq, false_iff, true_iff, iff_true, iff_false, and_true, true_and, and_false, false_and, reduceIte, ite_true, ite_false, eq_self] at *)) <;> omega) _ _ ⟨(by ((try simp only [vp_in_iff, Int32.lt_iff_toInt_lt, Int32.le_iff_toInt_le, ← Int32.toInt_inj, Int32.reduceToInt, n_1, n_2, n_8, Int32.toNatClampNeg, Int64.lt_iff_toInt_lt, Int64.le_iff_toInt_le, ← Int64.toInt_inj, Int64.reduceToInt, Int32.toInt_toInt64, lg_cmp_ge, lg_cmp_le, lg_cmp_gt, lg_cmp_lt, lg_cmp_eq, Bool.false_eq_true, Bool.true_eq_false, reduceCtorEq, false_iff, true_iff, iff_true, iff_false, and_true, true_and, and_false, false_and, reduceIte, ite_true, ite_false, eq_self] at *)) <;> omega), trivial⟩ rfl
            · refine wa_iconst (v := 1) (by decide) ?_
              refine wa_goto o_X12_isRow_56 (by decide) ?_
              refine wa_istore_nD (lv' := [(2, .int (bI true)), (0, .ref 84), (1, .int a0), (3, .int l3)]) (i := 2) rfl (by decide) rfl ?_
              refine wa_iinc (v := (1)) (lv' := fun y24 => [(3, .int y24), (2, .int (bI true)), (0, .ref 84), (1, .int a0)]) (by decide) rfl (by decide) (fun _ => rfl) (fun y24 hy24 => ?_)
              have ty24 := i_addT hy24.symm
              clear hy24
              refine wa_goto o_X12_isRow_22 (by decide) ?_
              refine wa_pick [2, 3, 1, 0] rfl ?_
              exact ih14 _ (by ((try simp only [vp_in_iff, Int32.lt_iff_toInt_lt, Int32.le_iff_toInt_le, ← Int32.toInt_inj, Int32.reduceToInt, n_1, n_2, n_8, Int32.toNatClampNeg, Int64.lt_iff_toInt_lt, Int64.le_iff_toInt_le, ← Int64.toInt_inj, Int64.reduceToInt, Int32.toInt_toInt64, lg_cmp_ge, lg_cmp_le, lg_cmp_gt, lg_cmp_lt, lg_cmp_eq, Bool.false_eq_true, Bool.true_eq_false, reduceCtorEq, false_iff, true_iff, iff_true, iff_false, and_true, true_and, and_false, false_and, reduceIte, ite_true, ite_false, eq_self] at *)) <;> omega) _ _ ⟨(by ((try simp only [vp_in_iff, Int32.lt_iff_toInt_lt, Int32.le_iff_toInt_le, ← Int32.toInt_inj, Int32.reduceToInt, n_1, n_2, n_8, Int32.toNatClampNeg, Int64.lt_iff_toInt_lt, Int64.le_iff_toInt_le, ← Int64.toInt_inj, Int64.reduceToInt, Int32.toInt_toInt64, lg_cmp_ge, lg_cmp_le, lg_cmp_gt, lg_cmp_lt, lg_cmp_eq, Bool.false_eq_true, Bool.true_eq_false, reduceCtorEq, false_iff, true_iff, iff_true, iff_false, and_true, true_and, and_false, false_and, reduceIte, ite_true, ite_false, eq_self] at *)) <;> omega), trivial⟩ rfl
    exact hi15 _ _ _ ⟨(by ((try simp only [vp_in_iff, Int32.lt_iff_toInt_lt, Int32.le_iff_toInt_le, ← Int32.toInt_inj, Int32.reduceToInt, n_1, n_2, n_8, Int32.toNatClampNeg, Int64.lt_iff_toInt_lt, Int64.le_iff_toInt_le, ← Int64.toInt_inj, Int64.reduceToInt, Int32.toInt_toInt64, lg_cmp_ge, lg_cmp_le, lg_cmp_gt, lg_cmp_lt, lg_cmp_eq, Bool.false_eq_true, Bool.true_eq_false, reduceCtorEq, false_iff, true_iff, iff_true, iff_false, and_true, true_and, and_false, false_and, reduceIte, ite_true, ite_false, eq_self] at *)) <;> omega), trivial⟩ rfl
set_option maxHeartbeats 4000000 in
theorem sp_X12_addRow (G : kG9) {d : Nat} (hd : 0 ≤ d) (σ : St) : Ct G M_X12_addRow d [.ref 84] σ (fun r σ' => Fm [104, 105] [160] σ σ' ∧ True) := by
  refine wa_start (by decide) rfl (Nat.le_of_ble_eq_true rfl) (lv := [(0, .ref 84)]) rfl o_X12_addRow_0 rfl ?_
  refine wa_iconst (v := 0) (by decide) ?_
  refine wa_istore_nD (lv' := [(1, .int 0), (0, .ref 84)]) (i := 1) rfl (by decide) rfl ?_
  refine wa_pick [1, 0] rfl ?_
  have hi3 : ∀ (n9_2 : Nat) (l1 : Int32) (s1 : St), ((Fm [104, 105] [160] σ s1) ∧ (gi s1 84 160 = gi σ 84 160) ∧ (gl s1 84 101 = gl σ 84 101) ∧ (0 ≤ l1.toInt) ∧ (True)) → (2147483647 - l1.toInt).toNat = n9_2 → WA G M_X12_addRow (ZM G M_X12_addRow d (fun r σ' => Fm [104, 105] [160] σ σ' ∧ True)) B_X12_addRow_2 [(0, .ref 84), (1, .int l1)] [] s1 := by
    intro n9_2
    induction n9_2 using Nat.strongRecOn with
    | _ n9_2 ih2 =>
      intro l1 s1 i9 m9_2
      obtain ⟨Fs1, khi3_0, khi3_1, jhi3_0, -⟩ := i9
      have ul1 := Int32.toInt_lt l1
      have wl1 := Int32.le_toInt l1
      refine wa_iload_n (i := 1) rfl rfl ?_
      refine wa_iconst (v := 4) (by decide) ?_
      refine wa_icmp_ge o_X12_addRow_32 (by decide) (fun h4 => ?_) (fun h4 => ?_)
      · refine wa_aload_n (i := 0) rfl rfl ?_
        refine wa_getr ck_12 fl_12_397 ly_84 rf_84_159 ?_
        refine wa_aload_n (i := 0) rfl rfl ?_
        refine wa_geti ck_12 fl_12_1067 ly_84 ?_
        refine wa_rw (khi3_0) ?_
        refine wa_aload_n (i := 0) rfl rfl ?_
        refine wa_getl ck_12 fl_12_736 ly_84 ?_
        refine wa_rwl (khi3_1) ?_
        refine wa_last ly_104 (by ((try simp only [vp_in_iff, Int32.lt_iff_toInt_lt, Int32.le_iff_toInt_le, ← Int32.toInt_inj, Int32.reduceToInt, n_1, n_2, n_8, Int32.toNatClampNeg, Int64.lt_iff_toInt_lt, Int64.le_iff_toInt_le, ← Int64.toInt_inj, Int64.reduceToInt, Int32.toInt_toInt64, lg_cmp_ge, lg_cmp_le, lg_cmp_gt, lg_cmp_lt, lg_cmp_eq, Bool.false_eq_true, Bool.true_eq_false, reduceCtorEq, false_iff, true_iff, iff_true, iff_false, and_true, true_and, and_false, false_and, reduceIte, ite_true, ite_false, eq_self] at *)) <;> omega) (fun s5 hs5 => ?_)
        have Fs5 : Fm [104, 105] [160] σ s5 := by rw [hs5]; exact Fm.sl Fs1 rfl
        refine wa_aload_n (i := 0) rfl rfl ?_
        refine wa_dup rfl ?_
        refine wa_geti ck_12 fl_12_1067 ly_84 ?_
        refine wa_rw ((nx_gi_sl hs5).trans (khi3_0)) ?_
        refine wa_iconst (v := 1) (by decide) ?_
        refine wa_iadd ?_
        refine wa_top (fun v6 hv6 => ?_)
        have tv6 := i_addT hv6
        clear hv6
        refine wa_puti ck_12 fl_12_1067 ly_84 (fun s7 hs7 => ?_)
        have Fs7 : Fm [104, 105] [160] σ s7 := by rw [hs7]; exact Fm.si Fs5 rfl
        refine wa_return (st := []) rfl rfl ?_
        exact ⟨Fs7, trivial⟩
      · have mh4 := nle_mx h4
        refine wa_aload_n (i := 0) rfl rfl ?_
        refine wa_getr ck_12 fl_12_394 ly_84 rf_84_158 ?_
        refine wa_iconst (v := 4) (by decide) ?_
        refine wa_aload_n (i := 0) rfl rfl ?_
        refine wa_geti ck_12 fl_12_1067 ly_84 ?_
        refine wa_rw (khi3_0) ?_
        refine wa_imul ?_
        refine wa_top (fun v8 hv8 => ?_)
        have tv8 := i_mulT hv8
        clear hv8
        refine wa_iload_n (i := 1) rfl rfl ?_
        refine wa_iadd ?_
        refine wa_top (fun v9 hv9 => ?_)
        have tv9 := i_addT hv9
        clear hv9
        refine wa_aload_n (i := 0) rfl rfl ?_
        refine wa_getr ck_12 fl_12_262 ly_84 rf_84_100 ?_
        refine wa_iload_n (i := 1) rfl rfl ?_
        refine wa_lald ly_147 (by ((try simp only [vp_in_iff, Int32.lt_iff_toInt_lt, Int32.le_iff_toInt_le, ← Int32.toInt_inj, Int32.reduceToInt, n_1, n_2, n_8, Int32.toNatClampNeg, Int64.lt_iff_toInt_lt, Int64.le_iff_toInt_le, ← Int64.toInt_inj, Int64.reduceToInt, Int32.toInt_toInt64, lg_cmp_ge, lg_cmp_le, lg_cmp_gt, lg_cmp_lt, lg_cmp_eq, Bool.false_eq_true, Bool.true_eq_false, reduceCtorEq, false_iff, true_iff, iff_true, iff_false, and_true, true_and, and_false, false_and, reduceIte, ite_true, ite_false, eq_self] at *)) <;> omega) ?_
        refine wa_last ly_105 (by ((try simp only [vp_in_iff, Int32.lt_iff_toInt_lt, Int32.le_iff_toInt_le, ← Int32.toInt_inj, Int32.reduceToInt, n_1, n_2, n_8, Int32.toNatClampNeg, Int64.lt_iff_toInt_lt, Int64.le_iff_toInt_le, ← Int64.toInt_inj, Int64.reduceToInt, Int32.toInt_toInt64, lg_cmp_ge, lg_cmp_le, lg_cmp_gt, lg_cmp_lt, lg_cmp_eq, Bool.false_eq_true, Bool.true_eq_false, reduceCtorEq, false_iff, true_iff, iff_true, iff_false, and_true, true_and, and_false, false_and, reduceIte, ite_true, ite_false, eq_self] at *)) <;> omega) (fun s10 hs10 => ?_)
        have Fs10 : Fm [104, 105] [160] σ s10 := by rw [hs10]; exact Fm.sl Fs1 rfl
        refine wa_iinc (v := (1)) (lv' := fun y11 => [(1, .int y11), (0, .ref 84)]) (by decide) rfl (by decide) (fun _ => rfl) (fun y11 hy11 => ?_)
        have ty11 := i_addT hy11.symm
        clear hy11
        refine wa_goto o_X12_addRow_2 (by decide) ?_
        refine wa_pick [1, 0] rfl ?_
        exact ih2 _ (by ((try simp only [vp_in_iff, Int32.lt_iff_toInt_lt, Int32.le_iff_toInt_le, ← Int32.toInt_inj, Int32.reduceToInt, n_1, n_2, n_8, Int32.toNatClampNeg, Int64.lt_iff_toInt_lt, Int64.le_iff_toInt_le, ← Int64.toInt_inj, Int64.reduceToInt, Int32.toInt_toInt64, lg_cmp_ge, lg_cmp_le, lg_cmp_gt, lg_cmp_lt, lg_cmp_eq, Bool.false_eq_true, Bool.true_eq_false, reduceCtorEq, false_iff, true_iff, iff_true, iff_false, and_true, true_and, and_false, false_and, reduceIte, ite_true, ite_false, eq_self] at *)) <;> omega) _ _ ⟨Fs10, ((nx_gi_sl hs10).trans (khi3_0)), ((nxq_gl_sl hs10 (by decide)).trans (khi3_1)), (by ((try simp only [vp_in_iff, Int32.lt_iff_toInt_lt, Int32.le_iff_toInt_le, ← Int32.toInt_inj, Int32.reduceToInt, n_1, n_2, n_8, Int32.toNatClampNeg, Int64.lt_iff_toInt_lt, Int64.le_iff_toInt_le, ← Int64.toInt_inj, Int64.reduceToInt, Int32.toInt_toInt64, lg_cmp_ge, lg_cmp_le, lg_cmp_gt, lg_cmp_lt, lg_cmp_eq, Bool.false_eq_true, Bool.true_eq_false, reduceCtorEq, false_iff, true_iff, iff_true, iff_false, and_true, true_and, and_false, false_and, reduceIte, ite_true, ite_false, eq_self] at *)) <;> omega), trivial⟩ rfl
  exact hi3 _ _ _ ⟨(Fm.rf [104, 105] [160] σ), (rfl), (rfl), (by ((try simp only [vp_in_iff, Int32.lt_iff_toInt_lt, Int32.le_iff_toInt_le, ← Int32.toInt_inj, Int32.reduceToInt, n_1, n_2, n_8, Int32.toNatClampNeg, Int64.lt_iff_toInt_lt, Int64.le_iff_toInt_le, ← Int64.toInt_inj, Int64.reduceToInt, Int32.toInt_toInt64, lg_cmp_ge, lg_cmp_le, lg_cmp_gt, lg_cmp_lt, lg_cmp_eq, Bool.false_eq_true, Bool.true_eq_false, reduceCtorEq, false_iff, true_iff, iff_true, iff_false, and_true, true_and, and_false, false_and, reduceIte, ite_true, ite_false, eq_self] at *)) <;> omega), trivial⟩ rfl
set_option maxHeartbeats 4000000 in
theorem sp_X12_addNewRow (G : kG9) {d : Nat} (hd : 1 ≤ d) (σ : St) : Ct G M_X12_addNewRow d [.ref 84] σ (fun r σ' => Fm [104, 105] [160] σ σ' ∧ True) := by
  refine wa_start (by decide) rfl (Nat.le_of_ble_eq_true rfl) (lv := [(0, .ref 84)]) rfl o_X12_addNewRow_0 rfl ?_
  refine wa_iconst (v := 0) (by decide) ?_
  refine wa_istore_nD (lv' := [(1, .int 0), (0, .ref 84)]) (i := 1) rfl (by decide) rfl ?_
  refine wa_pick [1, 0] rfl ?_
  have hi3 : ∀ (n9_2 : Nat) (l1 : Int32) (s1 : St), ((Fm [104, 105] [160] σ s1) ∧ (gi s1 84 160 = gi σ 84 160) ∧ (0 ≤ l1.toInt) ∧ (True)) → (2147483647 - l1.toInt).toNat = n9_2 → WA G M_X12_addNewRow (ZM G M_X12_addNewRow d (fun r σ' => Fm [104, 105] [160] σ σ' ∧ True)) B_X12_addNewRow_2 [(0, .ref 84), (1, .int l1)] [] s1 := by
    intro n9_2
    induction n9_2 using Nat.strongRecOn with
    | _ n9_2 ih2 =>
      intro l1 s1 i9 m9_2
      obtain ⟨Fs1, khi3_0, jhi3_0, -⟩ := i9
      have ul1 := Int32.toInt_lt l1
      have wl1 := Int32.le_toInt l1
      refine wa_iload_n (i := 1) rfl rfl ?_
      refine wa_aload_n (i := 0) rfl rfl ?_
      refine wa_geti ck_12 fl_12_1067 ly_84 ?_
      refine wa_rw (khi3_0) ?_
      refine wa_icmp_ge o_X12_addNewRow_25 (by decide) (fun h4 => ?_) (fun h4 => ?_)
      · refine wa_aload_n (i := 0) rfl rfl ?_
        refine wa_Vv (d9 := d - 1) [] [] (sp_X12_addRow G (d := d - 1) (by omega) s1 ) (rfl) rfl rfl (zr (by omega)) mk_X12_addRow ly_84 ml_12_1073 (Nat.le_of_ble_eq_true rfl) (fun s5 hs5 => ?_)
        obtain ⟨fs5, -⟩ := hs5
        have Fs5 : Fm [104, 105] [160] σ s5 := Fm.tr Fs1 (Fm.wd fs5 rfl rfl)
        refine wa_return (st := []) rfl rfl ?_
        exact ⟨Fs5, trivial⟩
      · have mh4 := nle_mx h4
        refine wa_aload_n (i := 0) rfl rfl ?_
        refine wa_iload_n (i := 1) rfl rfl ?_
        refine wa_Vi (d9 := d - 1) [.int _] [] (sp_X12_isRow G (d := d - 1) (by omega) s1 _) (rfl) rfl rfl (zr (by omega)) mk_X12_isRow ly_84 ml_12_1070 (Nat.le_of_ble_eq_true rfl) (fun x8 s7 hs7 => ?_)
        obtain ⟨bx8, ex8, zs7, -⟩ := pB hs7
        subst ex8
        subst zs7
        refine wa_if_eq o_X12_addNewRow_19 (by decide) (fun h9 => ?_) (fun h9 => ?_)
        · replace h9 := bI_f (b := bx8) (rfl) h9
          refine wa_iinc (v := (1)) (lv' := fun y10 => [(1, .int y10), (0, .ref 84)]) (by decide) rfl (by decide) (fun _ => rfl) (fun y10 hy10 => ?_)
          have ty10 := i_addT hy10.symm
          clear hy10
          refine wa_goto o_X12_addNewRow_2 (by decide) ?_
          refine wa_pick [1, 0] rfl ?_
          exact ih2 _ (by ((try simp only [vp_in_iff, Int32.lt_iff_toInt_lt, Int32.le_iff_toInt_le, ← Int32.toInt_inj, Int32.reduceToInt, n_1, n_2, n_8, Int32.toNatClampNeg, Int64.lt_iff_toInt_lt, Int64.le_iff_toInt_le, ← Int64.toInt_inj, Int64.reduceToInt, Int32.toInt_toInt64, lg_cmp_ge, lg_cmp_le, lg_cmp_gt, lg_cmp_lt, lg_cmp_eq, Bool.false_eq_true, Bool.true_eq_false, reduceCtorEq, false_iff, true_iff, iff_true, iff_false, and_true, true_and, and_false, false_and, reduceIte, ite_true, ite_false, eq_self] at *)) <;> omega) _ _ ⟨Fs1, (khi3_0), (by ((try simp only [vp_in_iff, Int32.lt_iff_toInt_lt, Int32.le_iff_toInt_le, ← Int32.toInt_inj, Int32.reduceToInt, n_1, n_2, n_8, Int32.toNatClampNeg, Int64.lt_iff_toInt_lt, Int64.le_iff_toInt_le, ← Int64.toInt_inj, Int64.reduceToInt, Int32.toInt_toInt64, lg_cmp_ge, lg_cmp_le, lg_cmp_gt, lg_cmp_lt, lg_cmp_eq, Bool.false_eq_true, Bool.true_eq_false, reduceCtorEq, false_iff, true_iff, iff_true, iff_false, and_true, true_and, and_false, false_and, reduceIte, ite_true, ite_false, eq_self] at *)) <;> omega), trivial⟩ rfl
        · replace h9 := bI_t (b := bx8) (rfl) h9
          refine wa_return (st := []) rfl rfl ?_
          exact ⟨Fs1, trivial⟩
  exact hi3 _ _ _ ⟨(Fm.rf [104, 105] [160] σ), (rfl), (by ((try simp only [vp_in_iff, Int32.lt_iff_toInt_lt, Int32.le_iff_toInt_le, ← Int32.toInt_inj, Int32.reduceToInt, n_1, n_2, n_8, Int32.toNatClampNeg, Int64.lt_iff_toInt_lt, Int64.le_iff_toInt_le, ← Int64.toInt_inj, Int64.reduceToInt, Int32.toInt_toInt64, lg_cmp_ge, lg_cmp_le, lg_cmp_gt, lg_cmp_lt, lg_cmp_eq, Bool.false_eq_true, Bool.true_eq_false, reduceCtorEq, false_iff, true_iff, iff_true, iff_false, and_true, true_and, and_false, false_and, reduceIte, ite_true, ite_false, eq_self] at *)) <;> omega), trivial⟩ rfl
set_option maxHeartbeats 4000000 in
theorem sp_X12_isAllPlain (G : kG9) {d : Nat} (hd : 0 ≤ d) (σ : St) (r1 : 0 ≤ (gi σ 84 33).toInt ∧ (gi σ 84 33).toInt ≤ 24) : Ct G M_X12_isAllPlain d [.ref 84] σ (fun r σ' => ∃ x : Bool, r = some (.int (bI x)) ∧ σ = σ' ∧ True) := by
  refine wa_start (by decide) rfl (Nat.le_of_ble_eq_true rfl) (lv := [(0, .ref 84)]) rfl o_X12_isAllPlain_0 rfl ?_
  refine wa_iconst (v := 1) (by decide) ?_
  refine wa_istore_nD (lv' := [(1, .int (bI true)), (0, .ref 84)]) (i := 1) rfl (by decide) rfl ?_
  refine wa_iconst (v := 0) (by decide) ?_
  refine wa_istore_nD (lv' := [(2, .int 0), (1, .int (bI true)), (0, .ref 84)]) (i := 2) rfl (by decide) rfl ?_
  refine wa_pick [2, 1, 0] rfl ?_
  have hi2 : ∀ (n9_4 : Nat) (l1 : Bool) (l2 : Int32), ((0 ≤ l2.toInt) ∧ (True)) → (2147483647 - l2.toInt).toNat = n9_4 → WA G M_X12_isAllPlain (ZM G M_X12_isAllPlain d (fun r σ' => ∃ x : Bool, r = some (.int (bI x)) ∧ σ = σ' ∧ True)) B_X12_isAllPlain_4 [(0, .ref 84), (1, .int (bI l1)), (2, .int l2)] [] σ := by
    intro n9_4
    induction n9_4 using Nat.strongRecOn with
    | _ n9_4 ih1 =>
      intro l1 l2  i9 m9_4
      obtain ⟨jhi2_0, -⟩ := i9
      have ul2 := Int32.toInt_lt l2
      have wl2 := Int32.le_toInt l2
      refine wa_iload_n (i := 2) rfl rfl ?_
      refine wa_aload_n (i := 0) rfl rfl ?_
      refine wa_geti ck_12 fl_12_818 ly_84 ?_
      refine wa_icmp_ge o_X12_isAllPlain_46 (by decide) (fun h3 => ?_) (fun h3 => ?_)
      · refine wa_iload_n (i := 1) rfl rfl ?_
        refine wa_zreturn l1 (rfl) rfl rfl ?_
        exact ⟨_, rfl, rfl, trivial⟩
      · have mh3 := nle_mx h3
        refine wa_iload_n (i := 1) rfl rfl ?_
        refine wa_if_eq o_X12_isAllPlain_38 (by decide) (fun h4 => ?_) (fun h4 => ?_)
        · replace h4 := bI_f (b := l1) (rfl) h4
          refine wa_iconst (v := 0) (by decide) ?_
          refine wa_istore_nD (lv' := [(1, .int (bI false)), (0, .ref 84), (2, .int l2)]) (i := 1) rfl (by decide) rfl ?_
          refine wa_iinc (v := (1)) (lv' := fun y5 => [(2, .int y5), (1, .int (bI false)), (0, .ref 84)]) (by decide) rfl (by decide) (fun _ => rfl) (fun y5 hy5 => ?_)
          have ty5 := i_addT hy5.symm
          clear hy5
          refine wa_goto o_X12_isAllPlain_4 (by decide) ?_
          refine wa_pick [2, 1, 0] rfl ?_
          exact ih1 _ (by ((try simp only [vp_in_iff, Int32.lt_iff_toInt_lt, Int32.le_iff_toInt_le, ← Int32.toInt_inj, Int32.reduceToInt, n_1, n_2, n_8, Int32.toNatClampNeg, Int64.lt_iff_toInt_lt, Int64.le_iff_toInt_le, ← Int64.toInt_inj, Int64.reduceToInt, Int32.toInt_toInt64, lg_cmp_ge, lg_cmp_le, lg_cmp_gt, lg_cmp_lt, lg_cmp_eq, Bool.false_eq_true, Bool.true_eq_false, reduceCtorEq, false_iff, true_iff, iff_true, iff_false, and_true, true_and, and_false, false_and, reduceIte, ite_true, ite_false, eq_self] at *)) <;> omega) _ _ ⟨(by ((try simp only [vp_in_iff, Int32.lt_iff_toInt_lt, Int32.le_iff_toInt_le, ← Int32.toInt_inj, Int32.reduceToInt, n_1, n_2, n_8, Int32.toNatClampNeg, Int64.lt_iff_toInt_lt, Int64.le_iff_toInt_le, ← Int64.toInt_inj, Int64.reduceToInt, Int32.toInt_toInt64, lg_cmp_ge, lg_cmp_le, lg_cmp_gt, lg_cmp_lt, lg_cmp_eq, Bool.false_eq_true, Bool.true_eq_false, reduceCtorEq, false_iff, true_iff, iff_true, iff_false, and_true, true_and, and_false, false_and, reduceIte, ite_true, ite_false, eq_self] at *)) <;> omega), trivial⟩ rfl
        · replace h4 := bI_t (b := l1) (rfl) h4
          refine wa_aload_n (i := 0) rfl rfl ?_
          refine wa_getr ck_12 fl_12_265 ly_84 rf_84_103 ?_
          refine wa_iload_n (i := 2) rfl rfl ?_
          refine wa_zald ly_146 (by ((try simp only [vp_in_iff, Int32.lt_iff_toInt_lt, Int32.le_iff_toInt_le, ← Int32.toInt_inj, Int32.reduceToInt, n_1, n_2, n_8, Int32.toNatClampNeg, Int64.lt_iff_toInt_lt, Int64.le_iff_toInt_le, ← Int64.toInt_inj, Int64.reduceToInt, Int32.toInt_toInt64, lg_cmp_ge, lg_cmp_le, lg_cmp_gt, lg_cmp_lt, lg_cmp_eq, Bool.false_eq_true, Bool.true_eq_false, reduceCtorEq, false_iff, true_iff, iff_true, iff_false, and_true, true_and, and_false, false_and, reduceIte, ite_true, ite_false, eq_self] at *)) <;> omega) ?_
          refine wa_if_eq o_X12_isAllPlain_34 (by decide) (fun h6 => ?_) (fun h6 => ?_)
          · replace h6 := bI_f (b := (gb σ 146 (l2).toNatClampNeg)) (rfl) h6
            refine wa_iconst (v := 1) (by decide) ?_
            refine wa_goto o_X12_isAllPlain_39 (by decide) ?_
            refine wa_istore_nD (lv' := [(1, .int (bI true)), (0, .ref 84), (2, .int l2)]) (i := 1) rfl (by decide) rfl ?_
            refine wa_iinc (v := (1)) (lv' := fun y7 => [(2, .int y7), (1, .int (bI true)), (0, .ref 84)]) (by decide) rfl (by decide) (fun _ => rfl) (fun y7 hy7 => ?_)
            have ty7 := i_addT hy7.symm
            clear hy7
            refine wa_goto o_X12_isAllPlain_4 (by decide) ?_
            refine wa_pick [2, 1, 0] rfl ?_
            exact ih1 _ (by ((try simp only [vp_in_iff, Int32.lt_iff_toInt_lt, Int32.le_iff_toInt_le, ← Int32.toInt_inj, Int32.reduceToInt, n_1, n_2, n_8, Int32.toNatClampNeg, Int64.lt_iff_toInt_lt, Int64.le_iff_toInt_le, ← Int64.toInt_inj, Int64.reduceToInt, Int32.toInt_toInt64, lg_cmp_ge, lg_cmp_le, lg_cmp_gt, lg_cmp_lt, lg_cmp_eq, Bool.false_eq_true, Bool.true_eq_false, reduceCtorEq, false_iff, true_iff, iff_true, iff_false, and_true, true_and, and_false, false_and, reduceIte, ite_true, ite_false, eq_self] at *)) <;> omega) _ _ ⟨(by ((try simp only [vp_in_iff, Int32.lt_iff_toInt_lt, Int32.le_iff_toInt_le, ← Int32.toInt_inj, Int32.reduceToInt, n_1, n_2, n_8, Int32.toNatClampNeg, Int64.lt_iff_toInt_lt, Int64.le_iff_toInt_le, ← Int64.toInt_inj, Int64.reduceToInt, Int32.toInt_toInt64, lg_cmp_ge, lg_cmp_le, lg_cmp_gt, lg_cmp_lt, lg_cmp_eq, Bool.false_eq_true, Bool.true_eq_false, reduceCtorEq, false_iff, true_iff, iff_true, iff_false, and_true, true_and, and_false, false_and, reduceIte, ite_true, ite_false, eq_self] at *)) <;> omega), trivial⟩ rfl
          · replace h6 := bI_t (b := (gb σ 146 (l2).toNatClampNeg)) (rfl) h6
            refine wa_aload_n (i := 0) rfl rfl ?_
            refine wa_getr ck_12 fl_12_244 ly_84 rf_84_92 ?_
            refine wa_iload_n (i := 2) rfl rfl ?_
            refine wa_zald ly_153 (by ((try simp only [vp_in_iff, Int32.lt_iff_toInt_lt, Int32.le_iff_toInt_le, ← Int32.toInt_inj, Int32.reduceToInt, n_1, n_2, n_8, Int32.toNatClampNeg, Int64.lt_iff_toInt_lt, Int64.le_iff_toInt_le, ← Int64.toInt_inj, Int64.reduceToInt, Int32.toInt_toInt64, lg_cmp_ge, lg_cmp_le, lg_cmp_gt, lg_cmp_lt, lg_cmp_eq, Bool.false_eq_true, Bool.true_eq_false, reduceCtorEq, false_iff, true_iff, iff_true, iff_false, and_true, true_and, and_false, false_and, reduceIte, ite_true, ite_false, eq_self] at *)) <;> omega) ?_
            refine wa_if_eq o_X12_isAllPlain_38 (by decide) (fun h8 => ?_) (fun h8 => ?_)
            · replace h8 := bI_f (b := (gb σ 153 (l2).toNatClampNeg)) (rfl) h8
              refine wa_iconst (v := 0) (by decide) ?_
              refine wa_istore_nD (lv' := [(1, .int (bI false)), (0, .ref 84), (2, .int l2)]) (i := 1) rfl (by decide) rfl ?_
              refine wa_iinc (v := (1)) (lv' := fun y9 => [(2, .int y9), (1, .int (bI false)), (0, .ref 84)]) (by decide) rfl (by decide) (fun _ => rfl) (fun y9 hy9 => ?_)
              have ty9 := i_addT hy9.symm
              clear hy9
              refine wa_goto o_X12_isAllPlain_4 (by decide) ?_
              refine wa_pick [2, 1, 0] rfl ?_
              exact ih1 _ (by ((try simp only [vp_in_iff, Int32.lt_iff_toInt_lt, Int32.le_iff_toInt_le, ← Int32.toInt_inj, Int32.reduceToInt, n_1, n_2, n_8, Int32.toNatClampNeg, Int64.lt_iff_toInt_lt, Int64.le_iff_toInt_le, ← Int64.toInt_inj, Int64.reduceToInt, Int32.toInt_toInt64, lg_cmp_ge, lg_cmp_le, lg_cmp_gt, lg_cmp_lt, lg_cmp_eq, Bool.false_eq_true, Bool.true_eq_false, reduceCtorEq, false_iff, true_iff, iff_true, iff_false, and_true, true_and, and_false, false_and, reduceIte, ite_true, ite_false, eq_self] at *)) <;> omega) _ _ ⟨(by ((try simp only [vp_in_iff, Int32.lt_iff_toInt_lt, Int32.le_iff_toInt_le, ← Int32.toInt_inj, Int32.reduceToInt, n_1, n_2, n_8, Int32.toNatClampNeg, Int64.lt_iff_toInt_lt, Int64.le_iff_toInt_le, ← Int64.toInt_inj, Int64.reduceToInt, Int32.toInt_toInt64, lg_cmp_ge, lg_cmp_le, lg_cmp_gt, lg_cmp_lt, lg_cmp_eq, Bool.false_eq_true, Bool.true_eq_false, reduceCtorEq, false_iff, true_iff, iff_true, iff_false, and_true, true_and, and_false, false_and, reduceIte, ite_true, ite_false, eq_self] at *)) <;> omega), trivial⟩ rfl
            · replace h8 := bI_t (b := (gb σ 153 (l2).toNatClampNeg)) (rfl) h8
              refine wa_iconst (v := 1) (by decide) ?_
              refine wa_goto o_X12_isAllPlain_39 (by decide) ?_
              refine wa_istore_nD (lv' := [(1, .int (bI true)), (0, .ref 84), (2, .int l2)]) (i := 1) rfl (by decide) rfl ?_
              refine wa_iinc (v := (1)) (lv' := fun y10 => [(2, .int y10), (1, .int (bI true)), (0, .ref 84)]) (by decide) rfl (by decide) (fun _ => rfl) (fun y10 hy10 => ?_)
              have ty10 := i_addT hy10.symm
              clear hy10
              refine wa_goto o_X12_isAllPlain_4 (by decide) ?_
              refine wa_pick [2, 1, 0] rfl ?_
              exact ih1 _ (by ((try simp only [vp_in_iff, Int32.lt_iff_toInt_lt, Int32.le_iff_toInt_le, ← Int32.toInt_inj, Int32.reduceToInt, n_1, n_2, n_8, Int32.toNatClampNeg, Int64.lt_iff_toInt_lt, Int64.le_iff_toInt_le, ← Int64.toInt_inj, Int64.reduceToInt, Int32.toInt_toInt64, lg_cmp_ge, lg_cmp_le, lg_cmp_gt, lg_cmp_lt, lg_cmp_eq, Bool.false_eq_true, Bool.true_eq_false, reduceCtorEq, false_iff, true_iff, iff_true, iff_false, and_true, true_and, and_false, false_and, reduceIte, ite_true, ite_false, eq_self] at *)) <;> omega) _ _ ⟨(by ((try simp only [vp_in_iff, Int32.lt_iff_toInt_lt, Int32.le_iff_toInt_le, ← Int32.toInt_inj, Int32.reduceToInt, n_1, n_2, n_8, Int32.toNatClampNeg, Int64.lt_iff_toInt_lt, Int64.le_iff_toInt_le, ← Int64.toInt_inj, Int64.reduceToInt, Int32.toInt_toInt64, lg_cmp_ge, lg_cmp_le, lg_cmp_gt, lg_cmp_lt, lg_cmp_eq, Bool.false_eq_true, Bool.true_eq_false, reduceCtorEq, false_iff, true_iff, iff_true, iff_false, and_true, true_and, and_false, false_and, reduceIte, ite_true, ite_false, eq_self] at *)) <;> omega), trivial⟩ rfl
  exact hi2 _ _ _ ⟨(by ((try simp only [vp_in_iff, Int32.lt_iff_toInt_lt, Int32.le_iff_toInt_le, ← Int32.toInt_inj, Int32.reduceToInt, n_1, n_2, n_8, Int32.toNatClampNeg, Int64.lt_iff_toInt_lt, Int64.le_iff_toInt_le, ← Int64.toInt_inj, Int64.reduceToInt, Int32.toInt_toInt64, lg_cmp_ge, lg_cmp_le, lg_cmp_gt, lg_cmp_lt, lg_cmp_eq, Bool.false_eq_true, Bool.true_eq_false, reduceCtorEq, false_iff, true_iff, iff_true, iff_false, and_true, true_and, and_false, false_and, reduceIte, ite_true, ite_false, eq_self] at *)) <;> omega), trivial⟩ rfl
set_option maxHeartbeats 4000000 in
theorem sp_X12_factor (G : kG9) {d : Nat} (hd : 0 ≤ d) (σ : St) (a0 : Int32) (a1 : Int32) : Ct G M_X12_factor d [.ref 84, .int a0, .int a1] σ (fun r σ' => ∃ x : Int64, r = some (.long x) ∧ σ = σ' ∧ True) := by
  refine wa_start (by decide) rfl (Nat.le_of_ble_eq_true rfl) (lv := [(0, .ref 84), (1, .int a0), (2, .int a1)]) rfl o_X12_factor_0 rfl ?_
  have ua0 := Int32.toInt_lt a0
  have wa0 := Int32.le_toInt a0
  have ua1 := Int32.toInt_lt a1
  have wa1 := Int32.le_toInt a1
  refine wa_iload_n (i := 1) rfl rfl ?_
  refine wa_aload_n (i := 0) rfl rfl ?_
  refine wa_geti ck_12 fl_12_1067 ly_84 ?_
  refine wa_icmp_ge o_X12_factor_19 (by decide) (fun h1 => ?_) (fun h1 => ?_)
  · refine wa_iload_n (i := 1) rfl rfl ?_
    refine wa_aload_n (i := 0) rfl rfl ?_
    refine wa_geti ck_12 fl_12_1067 ly_84 ?_
    refine wa_isub ?_
    refine wa_top (fun v2 hv2 => ?_)
    have tv2 := i_subT hv2
    clear hv2
    refine wa_istore_nD (lv' := [(3, .int v2), (0, .ref 84), (1, .int a0), (2, .int a1)]) (i := 3) rfl (by decide) rfl ?_
    refine wa_iload_n (i := 3) rfl rfl ?_
    refine wa_iconst (v := 2) (by decide) ?_
    refine wa_idiv (by ((try simp only [vp_in_iff, Int32.lt_iff_toInt_lt, Int32.le_iff_toInt_le, ← Int32.toInt_inj, Int32.reduceToInt, n_1, n_2, n_8, Int32.toNatClampNeg, Int64.lt_iff_toInt_lt, Int64.le_iff_toInt_le, ← Int64.toInt_inj, Int64.reduceToInt, Int32.toInt_toInt64, lg_cmp_ge, lg_cmp_le, lg_cmp_gt, lg_cmp_lt, lg_cmp_eq, Bool.false_eq_true, Bool.true_eq_false, reduceCtorEq, false_iff, true_iff, iff_true, iff_false, and_true, true_and, and_false, false_and, reduceIte, ite_true, ite_false, eq_self] at *)) <;> omega) ?_
    refine wa_top (fun v3 hv3 => ?_)
    have tv3 := i_divU hv3
    clear hv3
    refine wa_iload_n (i := 2) rfl rfl ?_
    refine wa_icmp_ne o_X12_factor_49 (by decide) (fun h4 => ?_) (fun h4 => ?_)
    · refine wa_lconst (v := 0) (by decide) ?_
      refine wa_lreturn rfl rfl ?_
      exact ⟨_, rfl, rfl, trivial⟩
    · refine wa_iload_n (i := 3) rfl rfl ?_
      refine wa_iconst (v := 2) (by decide) ?_
      refine wa_irem (by ((try simp only [vp_in_iff, Int32.lt_iff_toInt_lt, Int32.le_iff_toInt_le, ← Int32.toInt_inj, Int32.reduceToInt, n_1, n_2, n_8, Int32.toNatClampNeg, Int64.lt_iff_toInt_lt, Int64.le_iff_toInt_le, ← Int64.toInt_inj, Int64.reduceToInt, Int32.toInt_toInt64, lg_cmp_ge, lg_cmp_le, lg_cmp_gt, lg_cmp_lt, lg_cmp_eq, Bool.false_eq_true, Bool.true_eq_false, reduceCtorEq, false_iff, true_iff, iff_true, iff_false, and_true, true_and, and_false, false_and, reduceIte, ite_true, ite_false, eq_self] at *)) <;> omega) ?_
      refine wa_top (fun v5 hv5 => ?_)
      have tv5 := i_remU hv5
      clear hv5
      refine wa_if_ne o_X12_factor_43 (by decide) (fun h6 => ?_) (fun h6 => ?_)
      · refine wa_ldc2 (v := (-1)) (allW_in (kT_12 _ (List.mem_of_getElem? (i := 97) rfl)) rfl) ?_
        refine wa_goto o_X12_factor_50 (by decide) ?_
        refine wa_lreturn rfl rfl ?_
        exact ⟨_, rfl, rfl, trivial⟩
      · refine wa_lconst (v := 1) (by decide) ?_
        refine wa_goto o_X12_factor_50 (by decide) ?_
        refine wa_lreturn rfl rfl ?_
        exact ⟨_, rfl, rfl, trivial⟩
  · have mh1 := nle_mx h1
    refine wa_aload_n (i := 0) rfl rfl ?_
    refine wa_getr ck_12 fl_12_394 ly_84 rf_84_158 ?_
    refine wa_iconst (v := 4) (by decide) ?_
    refine wa_iload_n (i := 1) rfl rfl ?_
    refine wa_imul ?_
    refine wa_top (fun v7 hv7 => ?_)
    have tv7 := i_mulT hv7
    clear hv7
    refine wa_iload_n (i := 2) rfl rfl ?_
    refine wa_iadd ?_
    refine wa_top (fun v8 hv8 => ?_)
    have tv8 := i_addT hv8
    clear hv8
    refine wa_lald ly_105 (by ((try simp only [vp_in_iff, Int32.lt_iff_toInt_lt, Int32.le_iff_toInt_le, ← Int32.toInt_inj, Int32.reduceToInt, n_1, n_2, n_8, Int32.toNatClampNeg, Int64.lt_iff_toInt_lt, Int64.le_iff_toInt_le, ← Int64.toInt_inj, Int64.reduceToInt, Int32.toInt_toInt64, lg_cmp_ge, lg_cmp_le, lg_cmp_gt, lg_cmp_lt, lg_cmp_eq, Bool.false_eq_true, Bool.true_eq_false, reduceCtorEq, false_iff, true_iff, iff_true, iff_false, and_true, true_and, and_false, false_and, reduceIte, ite_true, ite_false, eq_self] at *)) <;> omega) ?_
    refine wa_lreturn rfl rfl ?_
    exact ⟨_, rfl, rfl, trivial⟩
set_option maxHeartbeats 4000000 in
theorem sp_X12_two (G : kG9) {d : Nat} (hd : 0 ≤ d) (σ : St) (a0 : Int64) (a1 : Int64) (a2 : Int64) (a3 : Int64) : Ct G M_X12_two d [.long a0, .long a1, .long a2, .long a3] σ (fun r σ' => ∃ x : Int64, r = some (.long x) ∧ σ = σ' ∧ True) := by
  refine wa_start (by decide) rfl (Nat.le_of_ble_eq_true rfl) (lv := [(0, .long a0), (2, .long a1), (4, .long a2), (6, .long a3)]) rfl o_X12_two_0 rfl ?_
  refine wa_lload_n (i := 0) rfl rfl ?_
  refine wa_lload rfl ?_
  refine wa_lmul ?_
  refine wa_topl (fun v1 hv1 => ?_)
  have tv1 := m_l_remU hv1
  clear hv1
  refine wa_lload_n (i := 2) rfl rfl ?_
  refine wa_lload rfl ?_
  refine wa_lmul ?_
  refine wa_topl (fun v2 hv2 => ?_)
  have tv2 := m_l_remU hv2
  clear hv2
  refine wa_lsub ?_
  refine wa_topl (fun v3 hv3 => ?_)
  have tv3 := s_l_remU hv3
  clear hv3
  refine wa_lreturn rfl rfl ?_
  exact ⟨_, rfl, rfl, trivial⟩
set_option maxHeartbeats 4000000 in
theorem sp_X12_three (G : kG9) {d : Nat} (hd : 1 ≤ d) (σ : St) (a0 : Int32) (a1 : Int32) (a2 : Int32) (a3 : Int32) (a4 : Int32) (a5 : Int32) : Ct G M_X12_three d [.ref 84, .int a0, .int a1, .int a2, .int a3, .int a4, .int a5] σ (fun r σ' => ∃ x : Int64, r = some (.long x) ∧ σ = σ' ∧ True) := by
  refine wa_start (by decide) rfl (Nat.le_of_ble_eq_true rfl) (lv := [(0, .ref 84), (1, .int a0), (2, .int a1), (3, .int a2), (4, .int a3), (5, .int a4), (6, .int a5)]) rfl o_X12_three_0 rfl ?_
  have ua0 := Int32.toInt_lt a0
  have wa0 := Int32.le_toInt a0
  have ua1 := Int32.toInt_lt a1
  have wa1 := Int32.le_toInt a1
  have ua2 := Int32.toInt_lt a2
  have wa2 := Int32.le_toInt a2
  have ua3 := Int32.toInt_lt a3
  have wa3 := Int32.le_toInt a3
  have ua4 := Int32.toInt_lt a4
  have wa4 := Int32.le_toInt a4
  have ua5 := Int32.toInt_lt a5
  have wa5 := Int32.le_toInt a5
  refine wa_aload_n (i := 0) rfl rfl ?_
  refine wa_getr ck_12 fl_12_403 ly_84 rf_84_163 ?_
  refine wa_iconst (v := 4) (by decide) ?_
  refine wa_iload_n (i := 1) rfl rfl ?_
  refine wa_imul ?_
  refine wa_top (fun v1 hv1 => ?_)
  have tv1 := i_mulT hv1
  clear hv1
  refine wa_iload rfl ?_
  refine wa_iadd ?_
  refine wa_top (fun v2 hv2 => ?_)
  have tv2 := i_addT hv2
  clear hv2
  refine wa_lald ly_102 (by ((try simp only [vp_in_iff, Int32.lt_iff_toInt_lt, Int32.le_iff_toInt_le, ← Int32.toInt_inj, Int32.reduceToInt, n_1, n_2, n_8, Int32.toNatClampNeg, Int64.lt_iff_toInt_lt, Int64.le_iff_toInt_le, ← Int64.toInt_inj, Int64.reduceToInt, Int32.toInt_toInt64, lg_cmp_ge, lg_cmp_le, lg_cmp_gt, lg_cmp_lt, lg_cmp_eq, Bool.false_eq_true, Bool.true_eq_false, reduceCtorEq, false_iff, true_iff, iff_true, iff_false, and_true, true_and, and_false, false_and, reduceIte, ite_true, ite_false, eq_self] at *)) <;> omega) ?_
  refine wa_aload_n (i := 0) rfl rfl ?_
  refine wa_getr ck_12 fl_12_403 ly_84 rf_84_163 ?_
  refine wa_iconst (v := 4) (by decide) ?_
  refine wa_iload_n (i := 2) rfl rfl ?_
  refine wa_imul ?_
  refine wa_top (fun v3 hv3 => ?_)
  have tv3 := i_mulT hv3
  clear hv3
  refine wa_iload rfl ?_
  refine wa_iadd ?_
  refine wa_top (fun v4 hv4 => ?_)
  have tv4 := i_addT hv4
  clear hv4
  refine wa_lald ly_102 (by ((try simp only [vp_in_iff, Int32.lt_iff_toInt_lt, Int32.le_iff_toInt_le, ← Int32.toInt_inj, Int32.reduceToInt, n_1, n_2, n_8, Int32.toNatClampNeg, Int64.lt_iff_toInt_lt, Int64.le_iff_toInt_le, ← Int64.toInt_inj, Int64.reduceToInt, Int32.toInt_toInt64, lg_cmp_ge, lg_cmp_le, lg_cmp_gt, lg_cmp_lt, lg_cmp_eq, Bool.false_eq_true, Bool.true_eq_false, reduceCtorEq, false_iff, true_iff, iff_true, iff_false, and_true, true_and, and_false, false_and, reduceIte, ite_true, ite_false, eq_self] at *)) <;> omega) ?_
  refine wa_aload_n (i := 0) rfl rfl ?_
  refine wa_getr ck_12 fl_12_403 ly_84 rf_84_163 ?_
  refine wa_iconst (v := 4) (by decide) ?_
  refine wa_iload_n (i := 2) rfl rfl ?_
  refine wa_imul ?_
  refine wa_top (fun v5 hv5 => ?_)
  have tv5 := i_mulT hv5
  clear hv5
  refine wa_iload rfl ?_
  refine wa_iadd ?_
  refine wa_top (fun v6 hv6 => ?_)
  have tv6 := i_addT hv6
  clear hv6
  refine wa_lald ly_102 (by ((try simp only [vp_in_iff, Int32.lt_iff_toInt_lt, Int32.le_iff_toInt_le, ← Int32.toInt_inj, Int32.reduceToInt, n_1, n_2, n_8, Int32.toNatClampNeg, Int64.lt_iff_toInt_lt, Int64.le_iff_toInt_le, ← Int64.toInt_inj, Int64.reduceToInt, Int32.toInt_toInt64, lg_cmp_ge, lg_cmp_le, lg_cmp_gt, lg_cmp_lt, lg_cmp_eq, Bool.false_eq_true, Bool.true_eq_false, reduceCtorEq, false_iff, true_iff, iff_true, iff_false, and_true, true_and, and_false, false_and, reduceIte, ite_true, ite_false, eq_self] at *)) <;> omega) ?_
  refine wa_aload_n (i := 0) rfl rfl ?_
  refine wa_getr ck_12 fl_12_403 ly_84 rf_84_163 ?_
  refine wa_iconst (v := 4) (by decide) ?_
  refine wa_iload_n (i := 3) rfl rfl ?_
  refine wa_imul ?_
  refine wa_top (fun v7 hv7 => ?_)
  have tv7 := i_mulT hv7
  clear hv7
  refine wa_iload rfl ?_
  refine wa_iadd ?_
  refine wa_top (fun v8 hv8 => ?_)
  have tv8 := i_addT hv8
  clear hv8
  refine wa_lald ly_102 (by ((try simp only [vp_in_iff, Int32.lt_iff_toInt_lt, Int32.le_iff_toInt_le, ← Int32.toInt_inj, Int32.reduceToInt, n_1, n_2, n_8, Int32.toNatClampNeg, Int64.lt_iff_toInt_lt, Int64.le_iff_toInt_le, ← Int64.toInt_inj, Int64.reduceToInt, Int32.toInt_toInt64, lg_cmp_ge, lg_cmp_le, lg_cmp_gt, lg_cmp_lt, lg_cmp_eq, Bool.false_eq_true, Bool.true_eq_false, reduceCtorEq, false_iff, true_iff, iff_true, iff_false, and_true, true_and, and_false, false_and, reduceIte, ite_true, ite_false, eq_self] at *)) <;> omega) ?_
  refine wa_aload_n (i := 0) rfl rfl ?_
  refine wa_getr ck_12 fl_12_403 ly_84 rf_84_163 ?_
  refine wa_iconst (v := 4) (by decide) ?_
  refine wa_iload_n (i := 3) rfl rfl ?_
  refine wa_imul ?_
  refine wa_top (fun v9 hv9 => ?_)
  have tv9 := i_mulT hv9
  clear hv9
  refine wa_iload rfl ?_
  refine wa_iadd ?_
  refine wa_top (fun v10 hv10 => ?_)
  have tv10 := i_addT hv10
  clear hv10
  refine wa_lald ly_102 (by ((try simp only [vp_in_iff, Int32.lt_iff_toInt_lt, Int32.le_iff_toInt_le, ← Int32.toInt_inj, Int32.reduceToInt, n_1, n_2, n_8, Int32.toNatClampNeg, Int64.lt_iff_toInt_lt, Int64.le_iff_toInt_le, ← Int64.toInt_inj, Int64.reduceToInt, Int32.toInt_toInt64, lg_cmp_ge, lg_cmp_le, lg_cmp_gt, lg_cmp_lt, lg_cmp_eq, Bool.false_eq_true, Bool.true_eq_false, reduceCtorEq, false_iff, true_iff, iff_true, iff_false, and_true, true_and, and_false, false_and, reduceIte, ite_true, ite_false, eq_self] at *)) <;> omega) ?_
  refine wa_Sl (d9 := d - 1) [.long _, .long _, .long _, .long _] [.long (gl σ 102 (v2).toNatClampNeg)] (sp_X12_two G (d := d - 1) (by omega) σ _ _ _ _) (rfl) rfl rfl (zr (by omega)) mk_X12_two ml_12_1079 (Nat.le_of_ble_eq_true rfl) (fun x12 s11 hs11 => ?_)
  obtain ⟨zs11, -⟩ := pL hs11
  subst zs11
  refine wa_lmul ?_
  refine wa_topl (fun v13 hv13 => ?_)
  have tv13 := m_l_remU hv13
  clear hv13
  refine wa_lstoreD (lv' := [(7, .long v13), (0, .ref 84), (1, .int a0), (2, .int a1), (3, .int a2), (4, .int a3), (5, .int a4), (6, .int a5)]) (by decide) rfl ?_
  refine wa_aload_n (i := 0) rfl rfl ?_
  refine wa_getr ck_12 fl_12_403 ly_84 rf_84_163 ?_
  refine wa_iconst (v := 4) (by decide) ?_
  refine wa_iload_n (i := 1) rfl rfl ?_
  refine wa_imul ?_
  refine wa_top (fun v14 hv14 => ?_)
  have tv14 := i_mulT hv14
  clear hv14
  refine wa_iload rfl ?_
  refine wa_iadd ?_
  refine wa_top (fun v15 hv15 => ?_)
  have tv15 := i_addT hv15
  clear hv15
  refine wa_lald ly_102 (by ((try simp only [vp_in_iff, Int32.lt_iff_toInt_lt, Int32.le_iff_toInt_le, ← Int32.toInt_inj, Int32.reduceToInt, n_1, n_2, n_8, Int32.toNatClampNeg, Int64.lt_iff_toInt_lt, Int64.le_iff_toInt_le, ← Int64.toInt_inj, Int64.reduceToInt, Int32.toInt_toInt64, lg_cmp_ge, lg_cmp_le, lg_cmp_gt, lg_cmp_lt, lg_cmp_eq, Bool.false_eq_true, Bool.true_eq_false, reduceCtorEq, false_iff, true_iff, iff_true, iff_false, and_true, true_and, and_false, false_and, reduceIte, ite_true, ite_false, eq_self] at *)) <;> omega) ?_
  refine wa_aload_n (i := 0) rfl rfl ?_
  refine wa_getr ck_12 fl_12_403 ly_84 rf_84_163 ?_
  refine wa_iconst (v := 4) (by decide) ?_
  refine wa_iload_n (i := 2) rfl rfl ?_
  refine wa_imul ?_
  refine wa_top (fun v16 hv16 => ?_)
  have tv16 := i_mulT hv16
  clear hv16
  refine wa_iload rfl ?_
  refine wa_iadd ?_
  refine wa_top (fun v17 hv17 => ?_)
  have tv17 := i_addT hv17
  clear hv17
  refine wa_lald ly_102 (by ((try simp only [vp_in_iff, Int32.lt_iff_toInt_lt, Int32.le_iff_toInt_le, ← Int32.toInt_inj, Int32.reduceToInt, n_1, n_2, n_8, Int32.toNatClampNeg, Int64.lt_iff_toInt_lt, Int64.le_iff_toInt_le, ← Int64.toInt_inj, Int64.reduceToInt, Int32.toInt_toInt64, lg_cmp_ge, lg_cmp_le, lg_cmp_gt, lg_cmp_lt, lg_cmp_eq, Bool.false_eq_true, Bool.true_eq_false, reduceCtorEq, false_iff, true_iff, iff_true, iff_false, and_true, true_and, and_false, false_and, reduceIte, ite_true, ite_false, eq_self] at *)) <;> omega) ?_
  refine wa_aload_n (i := 0) rfl rfl ?_
  refine wa_getr ck_12 fl_12_403 ly_84 rf_84_163 ?_
  refine wa_iconst (v := 4) (by decide) ?_
  refine wa_iload_n (i := 2) rfl rfl ?_
  refine wa_imul ?_
  refine wa_top (fun v18 hv18 => ?_)
  have tv18 := i_mulT hv18
  clear hv18
  refine wa_iload rfl ?_
  refine wa_iadd ?_
  refine wa_top (fun v19 hv19 => ?_)
  have tv19 := i_addT hv19
  clear hv19
  refine wa_lald ly_102 (by ((try simp only [vp_in_iff, Int32.lt_iff_toInt_lt, Int32.le_iff_toInt_le, ← Int32.toInt_inj, Int32.reduceToInt, n_1, n_2, n_8, Int32.toNatClampNeg, Int64.lt_iff_toInt_lt, Int64.le_iff_toInt_le, ← Int64.toInt_inj, Int64.reduceToInt, Int32.toInt_toInt64, lg_cmp_ge, lg_cmp_le, lg_cmp_gt, lg_cmp_lt, lg_cmp_eq, Bool.false_eq_true, Bool.true_eq_false, reduceCtorEq, false_iff, true_iff, iff_true, iff_false, and_true, true_and, and_false, false_and, reduceIte, ite_true, ite_false, eq_self] at *)) <;> omega) ?_
  refine wa_aload_n (i := 0) rfl rfl ?_
  refine wa_getr ck_12 fl_12_403 ly_84 rf_84_163 ?_
  refine wa_iconst (v := 4) (by decide) ?_
  refine wa_iload_n (i := 3) rfl rfl ?_
  refine wa_imul ?_
  refine wa_top (fun v20 hv20 => ?_)
  have tv20 := i_mulT hv20
  clear hv20
  refine wa_iload rfl ?_
  refine wa_iadd ?_
  refine wa_top (fun v21 hv21 => ?_)
  have tv21 := i_addT hv21
  clear hv21
  refine wa_lald ly_102 (by ((try simp only [vp_in_iff, Int32.lt_iff_toInt_lt, Int32.le_iff_toInt_le, ← Int32.toInt_inj, Int32.reduceToInt, n_1, n_2, n_8, Int32.toNatClampNeg, Int64.lt_iff_toInt_lt, Int64.le_iff_toInt_le, ← Int64.toInt_inj, Int64.reduceToInt, Int32.toInt_toInt64, lg_cmp_ge, lg_cmp_le, lg_cmp_gt, lg_cmp_lt, lg_cmp_eq, Bool.false_eq_true, Bool.true_eq_false, reduceCtorEq, false_iff, true_iff, iff_true, iff_false, and_true, true_and, and_false, false_and, reduceIte, ite_true, ite_false, eq_self] at *)) <;> omega) ?_
  refine wa_aload_n (i := 0) rfl rfl ?_
  refine wa_getr ck_12 fl_12_403 ly_84 rf_84_163 ?_
  refine wa_iconst (v := 4) (by decide) ?_
  refine wa_iload_n (i := 3) rfl rfl ?_
  refine wa_imul ?_
  refine wa_top (fun v22 hv22 => ?_)
  have tv22 := i_mulT hv22
  clear hv22
  refine wa_iload rfl ?_
  refine wa_iadd ?_
  refine wa_top (fun v23 hv23 => ?_)
  have tv23 := i_addT hv23
  clear hv23
  refine wa_lald ly_102 (by ((try simp only [vp_in_iff, Int32.lt_iff_toInt_lt, Int32.le_iff_toInt_le, ← Int32.toInt_inj, Int32.reduceToInt, n_1, n_2, n_8, Int32.toNatClampNeg, Int64.lt_iff_toInt_lt, Int64.le_iff_toInt_le, ← Int64.toInt_inj, Int64.reduceToInt, Int32.toInt_toInt64, lg_cmp_ge, lg_cmp_le, lg_cmp_gt, lg_cmp_lt, lg_cmp_eq, Bool.false_eq_true, Bool.true_eq_false, reduceCtorEq, false_iff, true_iff, iff_true, iff_false, and_true, true_and, and_false, false_and, reduceIte, ite_true, ite_false, eq_self] at *)) <;> omega) ?_
  refine wa_Sl (d9 := d - 1) [.long _, .long _, .long _, .long _] [.long (gl σ 102 (v15).toNatClampNeg)] (sp_X12_two G (d := d - 1) (by omega) σ _ _ _ _) (rfl) rfl rfl (zr (by omega)) mk_X12_two ml_12_1079 (Nat.le_of_ble_eq_true rfl) (fun x25 s24 hs24 => ?_)
  obtain ⟨zs24, -⟩ := pL hs24
  subst zs24
  refine wa_lmul ?_
  refine wa_topl (fun v26 hv26 => ?_)
  have tv26 := m_l_remU hv26
  clear hv26
  refine wa_lstoreD (lv' := [(9, .long v26), (7, .long v13), (0, .ref 84), (1, .int a0), (2, .int a1), (3, .int a2), (4, .int a3), (5, .int a4), (6, .int a5)]) (by decide) rfl ?_
  refine wa_aload_n (i := 0) rfl rfl ?_
  refine wa_getr ck_12 fl_12_403 ly_84 rf_84_163 ?_
  refine wa_iconst (v := 4) (by decide) ?_
  refine wa_iload_n (i := 1) rfl rfl ?_
  refine wa_imul ?_
  refine wa_top (fun v27 hv27 => ?_)
  have tv27 := i_mulT hv27
  clear hv27
  refine wa_iload rfl ?_
  refine wa_iadd ?_
  refine wa_top (fun v28 hv28 => ?_)
  have tv28 := i_addT hv28
  clear hv28
  refine wa_lald ly_102 (by ((try simp only [vp_in_iff, Int32.lt_iff_toInt_lt, Int32.le_iff_toInt_le, ← Int32.toInt_inj, Int32.reduceToInt, n_1, n_2, n_8, Int32.toNatClampNeg, Int64.lt_iff_toInt_lt, Int64.le_iff_toInt_le, ← Int64.toInt_inj, Int64.reduceToInt, Int32.toInt_toInt64, lg_cmp_ge, lg_cmp_le, lg_cmp_gt, lg_cmp_lt, lg_cmp_eq, Bool.false_eq_true, Bool.true_eq_false, reduceCtorEq, false_iff, true_iff, iff_true, iff_false, and_true, true_and, and_false, false_and, reduceIte, ite_true, ite_false, eq_self] at *)) <;> omega) ?_
  refine wa_aload_n (i := 0) rfl rfl ?_
  refine wa_getr ck_12 fl_12_403 ly_84 rf_84_163 ?_
  refine wa_iconst (v := 4) (by decide) ?_
  refine wa_iload_n (i := 2) rfl rfl ?_
  refine wa_imul ?_
  refine wa_top (fun v29 hv29 => ?_)
  have tv29 := i_mulT hv29
  clear hv29
  refine wa_iload rfl ?_
  refine wa_iadd ?_
  refine wa_top (fun v30 hv30 => ?_)
  have tv30 := i_addT hv30
  clear hv30
  refine wa_lald ly_102 (by ((try simp only [vp_in_iff, Int32.lt_iff_toInt_lt, Int32.le_iff_toInt_le, ← Int32.toInt_inj, Int32.reduceToInt, n_1, n_2, n_8, Int32.toNatClampNeg, Int64.lt_iff_toInt_lt, Int64.le_iff_toInt_le, ← Int64.toInt_inj, Int64.reduceToInt, Int32.toInt_toInt64, lg_cmp_ge, lg_cmp_le, lg_cmp_gt, lg_cmp_lt, lg_cmp_eq, Bool.false_eq_true, Bool.true_eq_false, reduceCtorEq, false_iff, true_iff, iff_true, iff_false, and_true, true_and, and_false, false_and, reduceIte, ite_true, ite_false, eq_self] at *)) <;> omega) ?_
  refine wa_aload_n (i := 0) rfl rfl ?_
  refine wa_getr ck_12 fl_12_403 ly_84 rf_84_163 ?_
  refine wa_iconst (v := 4) (by decide) ?_
  refine wa_iload_n (i := 2) rfl rfl ?_
  refine wa_imul ?_
  refine wa_top (fun v31 hv31 => ?_)
  have tv31 := i_mulT hv31
  clear hv31
  refine wa_iload rfl ?_
  refine wa_iadd ?_
  refine wa_top (fun v32 hv32 => ?_)
  have tv32 := i_addT hv32
  clear hv32
  refine wa_lald ly_102 (by ((try simp only [vp_in_iff, Int32.lt_iff_toInt_lt, Int32.le_iff_toInt_le, ← Int32.toInt_inj, Int32.reduceToInt, n_1, n_2, n_8, Int32.toNatClampNeg, Int64.lt_iff_toInt_lt, Int64.le_iff_toInt_le, ← Int64.toInt_inj, Int64.reduceToInt, Int32.toInt_toInt64, lg_cmp_ge, lg_cmp_le, lg_cmp_gt, lg_cmp_lt, lg_cmp_eq, Bool.false_eq_true, Bool.true_eq_false, reduceCtorEq, false_iff, true_iff, iff_true, iff_false, and_true, true_and, and_false, false_and, reduceIte, ite_true, ite_false, eq_self] at *)) <;> omega) ?_
  refine wa_aload_n (i := 0) rfl rfl ?_
  refine wa_getr ck_12 fl_12_403 ly_84 rf_84_163 ?_
  refine wa_iconst (v := 4) (by decide) ?_
  refine wa_iload_n (i := 3) rfl rfl ?_
  refine wa_imul ?_
  refine wa_top (fun v33 hv33 => ?_)
  have tv33 := i_mulT hv33
  clear hv33
  refine wa_iload rfl ?_
  refine wa_iadd ?_
  refine wa_top (fun v34 hv34 => ?_)
  have tv34 := i_addT hv34
  clear hv34
  refine wa_lald ly_102 (by ((try simp only [vp_in_iff, Int32.lt_iff_toInt_lt, Int32.le_iff_toInt_le, ← Int32.toInt_inj, Int32.reduceToInt, n_1, n_2, n_8, Int32.toNatClampNeg, Int64.lt_iff_toInt_lt, Int64.le_iff_toInt_le, ← Int64.toInt_inj, Int64.reduceToInt, Int32.toInt_toInt64, lg_cmp_ge, lg_cmp_le, lg_cmp_gt, lg_cmp_lt, lg_cmp_eq, Bool.false_eq_true, Bool.true_eq_false, reduceCtorEq, false_iff, true_iff, iff_true, iff_false, and_true, true_and, and_false, false_and, reduceIte, ite_true, ite_false, eq_self] at *)) <;> omega) ?_
  refine wa_aload_n (i := 0) rfl rfl ?_
  refine wa_getr ck_12 fl_12_403 ly_84 rf_84_163 ?_
  refine wa_iconst (v := 4) (by decide) ?_
  refine wa_iload_n (i := 3) rfl rfl ?_
  refine wa_imul ?_
  refine wa_top (fun v35 hv35 => ?_)
  have tv35 := i_mulT hv35
  clear hv35
  refine wa_iload rfl ?_
  refine wa_iadd ?_
  refine wa_top (fun v36 hv36 => ?_)
  have tv36 := i_addT hv36
  clear hv36
  refine wa_lald ly_102 (by ((try simp only [vp_in_iff, Int32.lt_iff_toInt_lt, Int32.le_iff_toInt_le, ← Int32.toInt_inj, Int32.reduceToInt, n_1, n_2, n_8, Int32.toNatClampNeg, Int64.lt_iff_toInt_lt, Int64.le_iff_toInt_le, ← Int64.toInt_inj, Int64.reduceToInt, Int32.toInt_toInt64, lg_cmp_ge, lg_cmp_le, lg_cmp_gt, lg_cmp_lt, lg_cmp_eq, Bool.false_eq_true, Bool.true_eq_false, reduceCtorEq, false_iff, true_iff, iff_true, iff_false, and_true, true_and, and_false, false_and, reduceIte, ite_true, ite_false, eq_self] at *)) <;> omega) ?_
  refine wa_Sl (d9 := d - 1) [.long _, .long _, .long _, .long _] [.long (gl σ 102 (v28).toNatClampNeg)] (sp_X12_two G (d := d - 1) (by omega) σ _ _ _ _) (rfl) rfl rfl (zr (by omega)) mk_X12_two ml_12_1079 (Nat.le_of_ble_eq_true rfl) (fun x38 s37 hs37 => ?_)
  obtain ⟨zs37, -⟩ := pL hs37
  subst zs37
  refine wa_lmul ?_
  refine wa_topl (fun v39 hv39 => ?_)
  have tv39 := m_l_remU hv39
  clear hv39
  refine wa_lstoreD (lv' := [(11, .long v39), (9, .long v26), (7, .long v13), (0, .ref 84), (1, .int a0), (2, .int a1), (3, .int a2), (4, .int a3), (5, .int a4), (6, .int a5)]) (by decide) rfl ?_
  refine wa_lload rfl ?_
  refine wa_lload rfl ?_
  refine wa_lsub ?_
  refine wa_topl (fun v40 hv40 => ?_)
  have tv40 := s_l_remU hv40
  clear hv40
  refine wa_lload rfl ?_
  refine wa_ladd ?_
  refine wa_topl (fun v41 hv41 => ?_)
  have tv41 := a_l_remU hv41
  clear hv41
  refine wa_lreturn rfl rfl ?_
  exact ⟨_, rfl, rfl, trivial⟩
set_option maxHeartbeats 4000000 in
theorem sp_X12_determinant (G : kG9) {d : Nat} (hd : 2 ≤ d) (σ : St) (r1 : 0 ≤ (gi σ 84 32).toInt ∧ (gi σ 84 32).toInt ≤ 4) : Ct G M_X12_determinant d [.ref 84] σ (fun r σ' => ∃ x : Int64, r = some (.long x) ∧ σ = σ' ∧ True) := by
  refine wa_start (by decide) rfl (Nat.le_of_ble_eq_true rfl) (lv := [(0, .ref 84)]) rfl o_X12_determinant_0 rfl ?_
  refine wa_aload_n (i := 0) rfl rfl ?_
  refine wa_geti ck_12 fl_12_815 ly_84 ?_
  refine wa_top (fun q1 hq1 => ?_)
  by_cases h2 : q1 = 0
  · refine wa_tIn (by rw [h2]; decide) (by rw [h2]; decide) (by rw [h2] <;> rfl) o_X12_determinant_36 (by decide) ?_
    refine wa_lconst (v := 1) (by decide) ?_
    refine wa_lreturn rfl rfl ?_
    exact ⟨_, rfl, rfl, trivial⟩
  ·
    by_cases h3 : q1 = 1
    · refine wa_tIn (by rw [h3]; decide) (by rw [h3]; decide) (by rw [h3] <;> rfl) o_X12_determinant_38 (by decide) ?_
      refine wa_aload_n (i := 0) rfl rfl ?_
      refine wa_getr ck_12 fl_12_403 ly_84 rf_84_163 ?_
      refine wa_iconst (v := 0) (by decide) ?_
      refine wa_lald ly_102 (by ((try simp only [vp_in_iff, Int32.lt_iff_toInt_lt, Int32.le_iff_toInt_le, ← Int32.toInt_inj, Int32.reduceToInt, n_1, n_2, n_8, Int32.toNatClampNeg, Int64.lt_iff_toInt_lt, Int64.le_iff_toInt_le, ← Int64.toInt_inj, Int64.reduceToInt, Int32.toInt_toInt64, lg_cmp_ge, lg_cmp_le, lg_cmp_gt, lg_cmp_lt, lg_cmp_eq, Bool.false_eq_true, Bool.true_eq_false, reduceCtorEq, false_iff, true_iff, iff_true, iff_false, and_true, true_and, and_false, false_and, reduceIte, ite_true, ite_false, eq_self] at *)) <;> omega) ?_
      refine wa_lreturn rfl rfl ?_
      exact ⟨_, rfl, rfl, trivial⟩
    ·
      by_cases h4 : q1 = 2
      · refine wa_tIn (by rw [h4]; decide) (by rw [h4]; decide) (by rw [h4] <;> rfl) o_X12_determinant_45 (by decide) ?_
        refine wa_aload_n (i := 0) rfl rfl ?_
        refine wa_getr ck_12 fl_12_403 ly_84 rf_84_163 ?_
        refine wa_iconst (v := 0) (by decide) ?_
        refine wa_lald ly_102 (by ((try simp only [vp_in_iff, Int32.lt_iff_toInt_lt, Int32.le_iff_toInt_le, ← Int32.toInt_inj, Int32.reduceToInt, n_1, n_2, n_8, Int32.toNatClampNeg, Int64.lt_iff_toInt_lt, Int64.le_iff_toInt_le, ← Int64.toInt_inj, Int64.reduceToInt, Int32.toInt_toInt64, lg_cmp_ge, lg_cmp_le, lg_cmp_gt, lg_cmp_lt, lg_cmp_eq, Bool.false_eq_true, Bool.true_eq_false, reduceCtorEq, false_iff, true_iff, iff_true, iff_false, and_true, true_and, and_false, false_and, reduceIte, ite_true, ite_false, eq_self] at *)) <;> omega) ?_
        refine wa_aload_n (i := 0) rfl rfl ?_
        refine wa_getr ck_12 fl_12_403 ly_84 rf_84_163 ?_
        refine wa_iconst (v := 1) (by decide) ?_
        refine wa_lald ly_102 (by ((try simp only [vp_in_iff, Int32.lt_iff_toInt_lt, Int32.le_iff_toInt_le, ← Int32.toInt_inj, Int32.reduceToInt, n_1, n_2, n_8, Int32.toNatClampNeg, Int64.lt_iff_toInt_lt, Int64.le_iff_toInt_le, ← Int64.toInt_inj, Int64.reduceToInt, Int32.toInt_toInt64, lg_cmp_ge, lg_cmp_le, lg_cmp_gt, lg_cmp_lt, lg_cmp_eq, Bool.false_eq_true, Bool.true_eq_false, reduceCtorEq, false_iff, true_iff, iff_true, iff_false, and_true, true_and, and_false, false_and, reduceIte, ite_true, ite_false, eq_self] at *)) <;> omega) ?_
        refine wa_aload_n (i := 0) rfl rfl ?_
        refine wa_getr ck_12 fl_12_403 ly_84 rf_84_163 ?_
        refine wa_iconst (v := 4) (by decide) ?_
        refine wa_lald ly_102 (by ((try simp only [vp_in_iff, Int32.lt_iff_toInt_lt, Int32.le_iff_toInt_le, ← Int32.toInt_inj, Int32.reduceToInt, n_1, n_2, n_8, Int32.toNatClampNeg, Int64.lt_iff_toInt_lt, Int64.le_iff_toInt_le, ← Int64.toInt_inj, Int64.reduceToInt, Int32.toInt_toInt64, lg_cmp_ge, lg_cmp_le, lg_cmp_gt, lg_cmp_lt, lg_cmp_eq, Bool.false_eq_true, Bool.true_eq_false, reduceCtorEq, false_iff, true_iff, iff_true, iff_false, and_true, true_and, and_false, false_and, reduceIte, ite_true, ite_false, eq_self] at *)) <;> omega) ?_
        refine wa_aload_n (i := 0) rfl rfl ?_
        refine wa_getr ck_12 fl_12_403 ly_84 rf_84_163 ?_
        refine wa_iconst (v := 5) (by decide) ?_
        refine wa_lald ly_102 (by ((try simp only [vp_in_iff, Int32.lt_iff_toInt_lt, Int32.le_iff_toInt_le, ← Int32.toInt_inj, Int32.reduceToInt, n_1, n_2, n_8, Int32.toNatClampNeg, Int64.lt_iff_toInt_lt, Int64.le_iff_toInt_le, ← Int64.toInt_inj, Int64.reduceToInt, Int32.toInt_toInt64, lg_cmp_ge, lg_cmp_le, lg_cmp_gt, lg_cmp_lt, lg_cmp_eq, Bool.false_eq_true, Bool.true_eq_false, reduceCtorEq, false_iff, true_iff, iff_true, iff_false, and_true, true_and, and_false, false_and, reduceIte, ite_true, ite_false, eq_self] at *)) <;> omega) ?_
        refine wa_Sl (d9 := d - 1) [.long _, .long _, .long _, .long _] [] (sp_X12_two G (d := d - 1) (by omega) σ _ _ _ _) (rfl) rfl rfl (zr (by omega)) mk_X12_two ml_12_1079 (Nat.le_of_ble_eq_true rfl) (fun x6 s5 hs5 => ?_)
        obtain ⟨zs5, -⟩ := pL hs5
        subst zs5
        refine wa_lreturn rfl rfl ?_
        exact ⟨_, rfl, rfl, trivial⟩
      ·
        by_cases h7 : q1 = 3
        · refine wa_tIn (by rw [h7]; decide) (by rw [h7]; decide) (by rw [h7] <;> rfl) o_X12_determinant_73 (by decide) ?_
          refine wa_aload_n (i := 0) rfl rfl ?_
          refine wa_iconst (v := 0) (by decide) ?_
          refine wa_iconst (v := 1) (by decide) ?_
          refine wa_iconst (v := 2) (by decide) ?_
          refine wa_iconst (v := 0) (by decide) ?_
          refine wa_iconst (v := 1) (by decide) ?_
          refine wa_iconst (v := 2) (by decide) ?_
          refine wa_Vl (d9 := d - 1) [.int _, .int _, .int _, .int _, .int _, .int _] [] (sp_X12_three G (d := d - 1) (by omega) σ _ _ _ _ _ _) (rfl) rfl rfl (zr (by omega)) mk_X12_three ly_84 ml_12_1083 (Nat.le_of_ble_eq_true rfl) (fun x9 s8 hs8 => ?_)
          obtain ⟨zs8, -⟩ := pL hs8
          subst zs8
          refine wa_lreturn rfl rfl ?_
          exact ⟨_, rfl, rfl, trivial⟩
        ·
          refine wa_tOut (by (try simp only [vp_in_iff, Int32.lt_iff_toInt_lt, Int32.le_iff_toInt_le, ← Int32.toInt_inj, Int32.reduceToInt, n_1, n_2, n_8, Int32.toNatClampNeg, Int64.lt_iff_toInt_lt, Int64.le_iff_toInt_le, ← Int64.toInt_inj, Int64.reduceToInt, Int32.toInt_toInt64, lg_cmp_ge, lg_cmp_le, lg_cmp_gt, lg_cmp_lt, lg_cmp_eq] at *) <;> omega) o_X12_determinant_84 (by decide) ?_
          refine wa_aload_n (i := 0) rfl rfl ?_
          refine wa_getr ck_12 fl_12_403 ly_84 rf_84_163 ?_
          refine wa_iconst (v := 0) (by decide) ?_
          refine wa_lald ly_102 (by ((try simp only [vp_in_iff, Int32.lt_iff_toInt_lt, Int32.le_iff_toInt_le, ← Int32.toInt_inj, Int32.reduceToInt, n_1, n_2, n_8, Int32.toNatClampNeg, Int64.lt_iff_toInt_lt, Int64.le_iff_toInt_le, ← Int64.toInt_inj, Int64.reduceToInt, Int32.toInt_toInt64, lg_cmp_ge, lg_cmp_le, lg_cmp_gt, lg_cmp_lt, lg_cmp_eq, Bool.false_eq_true, Bool.true_eq_false, reduceCtorEq, false_iff, true_iff, iff_true, iff_false, and_true, true_and, and_false, false_and, reduceIte, ite_true, ite_false, eq_self] at *)) <;> omega) ?_
          refine wa_aload_n (i := 0) rfl rfl ?_
          refine wa_iconst (v := 1) (by decide) ?_
          refine wa_iconst (v := 2) (by decide) ?_
          refine wa_iconst (v := 3) (by decide) ?_
          refine wa_iconst (v := 1) (by decide) ?_
          refine wa_iconst (v := 2) (by decide) ?_
          refine wa_iconst (v := 3) (by decide) ?_
          refine wa_Vl (d9 := d - 1) [.int _, .int _, .int _, .int _, .int _, .int _] [.long (gl σ 102 (0 : Int32).toNatClampNeg)] (sp_X12_three G (d := d - 1) (by omega) σ _ _ _ _ _ _) (rfl) rfl rfl (zr (by omega)) mk_X12_three ly_84 ml_12_1083 (Nat.le_of_ble_eq_true rfl) (fun x11 s10 hs10 => ?_)
          obtain ⟨zs10, -⟩ := pL hs10
          subst zs10
          refine wa_lmul ?_
          refine wa_topl (fun v12 hv12 => ?_)
          have tv12 := m_l_remU hv12
          clear hv12
          refine wa_aload_n (i := 0) rfl rfl ?_
          refine wa_getr ck_12 fl_12_403 ly_84 rf_84_163 ?_
          refine wa_iconst (v := 1) (by decide) ?_
          refine wa_lald ly_102 (by ((try simp only [vp_in_iff, Int32.lt_iff_toInt_lt, Int32.le_iff_toInt_le, ← Int32.toInt_inj, Int32.reduceToInt, n_1, n_2, n_8, Int32.toNatClampNeg, Int64.lt_iff_toInt_lt, Int64.le_iff_toInt_le, ← Int64.toInt_inj, Int64.reduceToInt, Int32.toInt_toInt64, lg_cmp_ge, lg_cmp_le, lg_cmp_gt, lg_cmp_lt, lg_cmp_eq, Bool.false_eq_true, Bool.true_eq_false, reduceCtorEq, false_iff, true_iff, iff_true, iff_false, and_true, true_and, and_false, false_and, reduceIte, ite_true, ite_false, eq_self] at *)) <;> omega) ?_
          refine wa_aload_n (i := 0) rfl rfl ?_
          refine wa_iconst (v := 1) (by decide) ?_
          refine wa_iconst (v := 2) (by decide) ?_
          refine wa_iconst (v := 3) (by decide) ?_
          refine wa_iconst (v := 0) (by decide) ?_
          refine wa_iconst (v := 2) (by decide) ?_
          refine wa_iconst (v := 3) (by decide) ?_
          refine wa_Vl (d9 := d - 1) [.int _, .int _, .int _, .int _, .int _, .int _] [.long (gl σ 102 (1 : Int32).toNatClampNeg), .long v12] (sp_X12_three G (d := d - 1) (by omega) σ _ _ _ _ _ _) (rfl) rfl rfl (zr (by omega)) mk_X12_three ly_84 ml_12_1083 (Nat.le_of_ble_eq_true rfl) (fun x14 s13 hs13 => ?_)
          obtain ⟨zs13, -⟩ := pL hs13
          subst zs13
          refine wa_lmul ?_
          refine wa_topl (fun v15 hv15 => ?_)
          have tv15 := m_l_remU hv15
          clear hv15
          refine wa_lsub ?_
          refine wa_topl (fun v16 hv16 => ?_)
          have tv16 := s_l_remU hv16
          clear hv16
          refine wa_aload_n (i := 0) rfl rfl ?_
          refine wa_getr ck_12 fl_12_403 ly_84 rf_84_163 ?_
          refine wa_iconst (v := 2) (by decide) ?_
          refine wa_lald ly_102 (by ((try simp only [vp_in_iff, Int32.lt_iff_toInt_lt, Int32.le_iff_toInt_le, ← Int32.toInt_inj, Int32.reduceToInt, n_1, n_2, n_8, Int32.toNatClampNeg, Int64.lt_iff_toInt_lt, Int64.le_iff_toInt_le, ← Int64.toInt_inj, Int64.reduceToInt, Int32.toInt_toInt64, lg_cmp_ge, lg_cmp_le, lg_cmp_gt, lg_cmp_lt, lg_cmp_eq, Bool.false_eq_true, Bool.true_eq_false, reduceCtorEq, false_iff, true_iff, iff_true, iff_false, and_true, true_and, and_false, false_and, reduceIte, ite_true, ite_false, eq_self] at *)) <;> omega) ?_
          refine wa_aload_n (i := 0) rfl rfl ?_
          refine wa_iconst (v := 1) (by decide) ?_
          refine wa_iconst (v := 2) (by decide) ?_
          refine wa_iconst (v := 3) (by decide) ?_
          refine wa_iconst (v := 0) (by decide) ?_
          refine wa_iconst (v := 1) (by decide) ?_
          refine wa_iconst (v := 3) (by decide) ?_
          refine wa_Vl (d9 := d - 1) [.int _, .int _, .int _, .int _, .int _, .int _] [.long (gl σ 102 (2 : Int32).toNatClampNeg), .long v16] (sp_X12_three G (d := d - 1) (by omega) σ _ _ _ _ _ _) (rfl) rfl rfl (zr (by omega)) mk_X12_three ly_84 ml_12_1083 (Nat.le_of_ble_eq_true rfl) (fun x18 s17 hs17 => ?_)
          obtain ⟨zs17, -⟩ := pL hs17
          subst zs17
          refine wa_lmul ?_
          refine wa_topl (fun v19 hv19 => ?_)
          have tv19 := m_l_remU hv19
          clear hv19
          refine wa_ladd ?_
          refine wa_topl (fun v20 hv20 => ?_)
          have tv20 := a_l_remU hv20
          clear hv20
          refine wa_aload_n (i := 0) rfl rfl ?_
          refine wa_getr ck_12 fl_12_403 ly_84 rf_84_163 ?_
          refine wa_iconst (v := 3) (by decide) ?_
          refine wa_lald ly_102 (by ((try simp only [vp_in_iff, Int32.lt_iff_toInt_lt, Int32.le_iff_toInt_le, ← Int32.toInt_inj, Int32.reduceToInt, n_1, n_2, n_8, Int32.toNatClampNeg, Int64.lt_iff_toInt_lt, Int64.le_iff_toInt_le, ← Int64.toInt_inj, Int64.reduceToInt, Int32.toInt_toInt64, lg_cmp_ge, lg_cmp_le, lg_cmp_gt, lg_cmp_lt, lg_cmp_eq, Bool.false_eq_true, Bool.true_eq_false, reduceCtorEq, false_iff, true_iff, iff_true, iff_false, and_true, true_and, and_false, false_and, reduceIte, ite_true, ite_false, eq_self] at *)) <;> omega) ?_
          refine wa_aload_n (i := 0) rfl rfl ?_
          refine wa_iconst (v := 1) (by decide) ?_
          refine wa_iconst (v := 2) (by decide) ?_
          refine wa_iconst (v := 3) (by decide) ?_
          refine wa_iconst (v := 0) (by decide) ?_
          refine wa_iconst (v := 1) (by decide) ?_
          refine wa_iconst (v := 2) (by decide) ?_
          refine wa_Vl (d9 := d - 1) [.int _, .int _, .int _, .int _, .int _, .int _] [.long (gl σ 102 (3 : Int32).toNatClampNeg), .long v20] (sp_X12_three G (d := d - 1) (by omega) σ _ _ _ _ _ _) (rfl) rfl rfl (zr (by omega)) mk_X12_three ly_84 ml_12_1083 (Nat.le_of_ble_eq_true rfl) (fun x22 s21 hs21 => ?_)
          obtain ⟨zs21, -⟩ := pL hs21
          subst zs21
          refine wa_lmul ?_
          refine wa_topl (fun v23 hv23 => ?_)
          have tv23 := m_l_remU hv23
          clear hv23
          refine wa_lsub ?_
          refine wa_topl (fun v24 hv24 => ?_)
          have tv24 := s_l_remU hv24
          clear hv24
          refine wa_lreturn rfl rfl ?_
          exact ⟨_, rfl, rfl, trivial⟩
set_option maxHeartbeats 4000000 in
theorem sp_X12_layBasis (G : kG9) {d : Nat} (hd : 1 ≤ d) (σ : St) (r1 : 0 ≤ (gi σ 84 32).toInt ∧ (gi σ 84 32).toInt ≤ 4) : Ct G M_X12_layBasis d [.ref 84] σ (fun r σ' => Fm [102] [] σ σ' ∧ True) := by
  refine wa_start (by decide) rfl (Nat.le_of_ble_eq_true rfl) (lv := [(0, .ref 84)]) rfl o_X12_layBasis_0 rfl ?_
  refine wa_iconst (v := 0) (by decide) ?_
  refine wa_istore_nD (lv' := [(1, .int 0), (0, .ref 84)]) (i := 1) rfl (by decide) rfl ?_
  refine wa_pick [1, 0] rfl ?_
  have hi3 : ∀ (n9_2 : Nat) (l1 : Int32) (s1 : St), ((Fm [102] [] σ s1) ∧ (gi s1 84 32 = gi σ 84 32) ∧ (0 ≤ l1.toInt) ∧ (True)) → (2147483647 - l1.toInt).toNat = n9_2 → WA G M_X12_layBasis (ZM G M_X12_layBasis d (fun r σ' => Fm [102] [] σ σ' ∧ True)) B_X12_layBasis_2 [(0, .ref 84), (1, .int l1)] [] s1 := by
    intro n9_2
    induction n9_2 using Nat.strongRecOn with
    | _ n9_2 ih2 =>
      intro l1 s1 i9 m9_2
      obtain ⟨Fs1, khi3_0, jhi3_0, -⟩ := i9
      have ul1 := Int32.toInt_lt l1
      have wl1 := Int32.le_toInt l1
      refine wa_iload_n (i := 1) rfl rfl ?_
      refine wa_aload_n (i := 0) rfl rfl ?_
      refine wa_geti ck_12 fl_12_815 ly_84 ?_
      refine wa_rw (khi3_0) ?_
      refine wa_icmp_ge o_X12_layBasis_50 (by decide) (fun h4 => ?_) (fun h4 => ?_)
      · refine wa_return (st := []) rfl rfl ?_
        exact ⟨Fs1, trivial⟩
      · have mh4 := nle_mx h4
        refine wa_iconst (v := 0) (by decide) ?_
        refine wa_istore_nD (lv' := [(2, .int 0), (0, .ref 84), (1, .int l1)]) (i := 2) rfl (by decide) rfl ?_
        refine wa_pick [1, 2, 0] rfl ?_
        have hi7 : ∀ (n9_12 : Nat) (l2 : Int32) (s5 : St), ((Fm [102] [] σ s5) ∧ (gi s5 84 32 = gi σ 84 32) ∧ (0 ≤ l2.toInt) ∧ (True)) → (2147483647 - l2.toInt).toNat = n9_12 → WA G M_X12_layBasis (ZM G M_X12_layBasis d (fun r σ' => Fm [102] [] σ σ' ∧ True)) B_X12_layBasis_12 [(0, .ref 84), (1, .int l1), (2, .int l2)] [] s5 := by
          intro n9_12
          induction n9_12 using Nat.strongRecOn with
          | _ n9_12 ih6 =>
            intro l2 s5 i9 m9_12
            obtain ⟨Fs5, khi7_0, jhi7_0, -⟩ := i9
            have ul2 := Int32.toInt_lt l2
            have wl2 := Int32.le_toInt l2
            refine wa_iload_n (i := 2) rfl rfl ?_
            refine wa_iconst (v := 4) (by decide) ?_
            refine wa_icmp_ge o_X12_layBasis_44 (by decide) (fun h8 => ?_) (fun h8 => ?_)
            · refine wa_iinc (v := (1)) (lv' := fun y9 => [(1, .int y9), (0, .ref 84), (2, .int l2)]) (by decide) rfl (by decide) (fun _ => rfl) (fun y9 hy9 => ?_)
              have ty9 := i_addT hy9.symm
              clear hy9
              refine wa_goto o_X12_layBasis_2 (by decide) ?_
              refine wa_pick [1, 0] rfl ?_
              exact ih2 _ (by ((try simp only [vp_in_iff, Int32.lt_iff_toInt_lt, Int32.le_iff_toInt_le, ← Int32.toInt_inj, Int32.reduceToInt, n_1, n_2, n_8, Int32.toNatClampNeg, Int64.lt_iff_toInt_lt, Int64.le_iff_toInt_le, ← Int64.toInt_inj, Int64.reduceToInt, Int32.toInt_toInt64, lg_cmp_ge, lg_cmp_le, lg_cmp_gt, lg_cmp_lt, lg_cmp_eq, Bool.false_eq_true, Bool.true_eq_false, reduceCtorEq, false_iff, true_iff, iff_true, iff_false, and_true, true_and, and_false, false_and, reduceIte, ite_true, ite_false, eq_self] at *)) <;> omega) _ _ ⟨Fs5, (khi7_0), (by ((try simp only [vp_in_iff, Int32.lt_iff_toInt_lt, Int32.le_iff_toInt_le, ← Int32.toInt_inj, Int32.reduceToInt, n_1, n_2, n_8, Int32.toNatClampNeg, Int64.lt_iff_toInt_lt, Int64.le_iff_toInt_le, ← Int64.toInt_inj, Int64.reduceToInt, Int32.toInt_toInt64, lg_cmp_ge, lg_cmp_le, lg_cmp_gt, lg_cmp_lt, lg_cmp_eq, Bool.false_eq_true, Bool.true_eq_false, reduceCtorEq, false_iff, true_iff, iff_true, iff_false, and_true, true_and, and_false, false_and, reduceIte, ite_true, ite_false, eq_self] at *)) <;> omega), trivial⟩ rfl
            · have mh8 := nle_mx h8
              refine wa_aload_n (i := 0) rfl rfl ?_
              refine wa_getr ck_12 fl_12_403 ly_84 rf_84_163 ?_
              refine wa_iconst (v := 4) (by decide) ?_
              refine wa_iload_n (i := 1) rfl rfl ?_
              refine wa_imul ?_
              refine wa_top (fun v10 hv10 => ?_)
              have tv10 := i_mulT hv10
              clear hv10
              refine wa_iload_n (i := 2) rfl rfl ?_
              refine wa_iadd ?_
              refine wa_top (fun v11 hv11 => ?_)
              have tv11 := i_addT hv11
              clear hv11
              refine wa_aload_n (i := 0) rfl rfl ?_
              refine wa_aload_n (i := 0) rfl rfl ?_
              refine wa_getr ck_12 fl_12_400 ly_84 rf_84_162 ?_
              refine wa_iload_n (i := 1) rfl rfl ?_
              refine wa_iald ly_103 (by ((try simp only [vp_in_iff, Int32.lt_iff_toInt_lt, Int32.le_iff_toInt_le, ← Int32.toInt_inj, Int32.reduceToInt, n_1, n_2, n_8, Int32.toNatClampNeg, Int64.lt_iff_toInt_lt, Int64.le_iff_toInt_le, ← Int64.toInt_inj, Int64.reduceToInt, Int32.toInt_toInt64, lg_cmp_ge, lg_cmp_le, lg_cmp_gt, lg_cmp_lt, lg_cmp_eq, Bool.false_eq_true, Bool.true_eq_false, reduceCtorEq, false_iff, true_iff, iff_true, iff_false, and_true, true_and, and_false, false_and, reduceIte, ite_true, ite_false, eq_self] at *)) <;> omega) ?_
              refine wa_iload_n (i := 2) rfl rfl ?_
              refine wa_Vl (d9 := d - 1) [.int _, .int _] [.int v11, .ref 102] (sp_X12_factor G (d := d - 1) (by omega) s5 _ _) (rfl) rfl rfl (zr (by omega)) mk_X12_factor ly_84 ml_12_1087 (Nat.le_of_ble_eq_true rfl) (fun x13 s12 hs12 => ?_)
              obtain ⟨zs12, -⟩ := pL hs12
              subst zs12
              refine wa_last ly_102 (by ((try simp only [vp_in_iff, Int32.lt_iff_toInt_lt, Int32.le_iff_toInt_le, ← Int32.toInt_inj, Int32.reduceToInt, n_1, n_2, n_8, Int32.toNatClampNeg, Int64.lt_iff_toInt_lt, Int64.le_iff_toInt_le, ← Int64.toInt_inj, Int64.reduceToInt, Int32.toInt_toInt64, lg_cmp_ge, lg_cmp_le, lg_cmp_gt, lg_cmp_lt, lg_cmp_eq, Bool.false_eq_true, Bool.true_eq_false, reduceCtorEq, false_iff, true_iff, iff_true, iff_false, and_true, true_and, and_false, false_and, reduceIte, ite_true, ite_false, eq_self] at *)) <;> omega) (fun s14 hs14 => ?_)
              have Fs14 : Fm [102] [] σ s14 := by rw [hs14]; exact Fm.sl Fs5 rfl
              refine wa_iinc (v := (1)) (lv' := fun y15 => [(2, .int y15), (0, .ref 84), (1, .int l1)]) (by decide) rfl (by decide) (fun _ => rfl) (fun y15 hy15 => ?_)
              have ty15 := i_addT hy15.symm
              clear hy15
              refine wa_goto o_X12_layBasis_12 (by decide) ?_
              refine wa_pick [1, 2, 0] rfl ?_
              exact ih6 _ (by ((try simp only [vp_in_iff, Int32.lt_iff_toInt_lt, Int32.le_iff_toInt_le, ← Int32.toInt_inj, Int32.reduceToInt, n_1, n_2, n_8, Int32.toNatClampNeg, Int64.lt_iff_toInt_lt, Int64.le_iff_toInt_le, ← Int64.toInt_inj, Int64.reduceToInt, Int32.toInt_toInt64, lg_cmp_ge, lg_cmp_le, lg_cmp_gt, lg_cmp_lt, lg_cmp_eq, Bool.false_eq_true, Bool.true_eq_false, reduceCtorEq, false_iff, true_iff, iff_true, iff_false, and_true, true_and, and_false, false_and, reduceIte, ite_true, ite_false, eq_self] at *)) <;> omega) _ _ ⟨Fs14, ((nx_gi_sl hs14).trans (khi7_0)), (by ((try simp only [vp_in_iff, Int32.lt_iff_toInt_lt, Int32.le_iff_toInt_le, ← Int32.toInt_inj, Int32.reduceToInt, n_1, n_2, n_8, Int32.toNatClampNeg, Int64.lt_iff_toInt_lt, Int64.le_iff_toInt_le, ← Int64.toInt_inj, Int64.reduceToInt, Int32.toInt_toInt64, lg_cmp_ge, lg_cmp_le, lg_cmp_gt, lg_cmp_lt, lg_cmp_eq, Bool.false_eq_true, Bool.true_eq_false, reduceCtorEq, false_iff, true_iff, iff_true, iff_false, and_true, true_and, and_false, false_and, reduceIte, ite_true, ite_false, eq_self] at *)) <;> omega), trivial⟩ rfl
        exact hi7 _ _ _ ⟨Fs1, (khi3_0), (by ((try simp only [vp_in_iff, Int32.lt_iff_toInt_lt, Int32.le_iff_toInt_le, ← Int32.toInt_inj, Int32.reduceToInt, n_1, n_2, n_8, Int32.toNatClampNeg, Int64.lt_iff_toInt_lt, Int64.le_iff_toInt_le, ← Int64.toInt_inj, Int64.reduceToInt, Int32.toInt_toInt64, lg_cmp_ge, lg_cmp_le, lg_cmp_gt, lg_cmp_lt, lg_cmp_eq, Bool.false_eq_true, Bool.true_eq_false, reduceCtorEq, false_iff, true_iff, iff_true, iff_false, and_true, true_and, and_false, false_and, reduceIte, ite_true, ite_false, eq_self] at *)) <;> omega), trivial⟩ rfl
  exact hi3 _ _ _ ⟨(Fm.rf [102] [] σ), (rfl), (by ((try simp only [vp_in_iff, Int32.lt_iff_toInt_lt, Int32.le_iff_toInt_le, ← Int32.toInt_inj, Int32.reduceToInt, n_1, n_2, n_8, Int32.toNatClampNeg, Int64.lt_iff_toInt_lt, Int64.le_iff_toInt_le, ← Int64.toInt_inj, Int64.reduceToInt, Int32.toInt_toInt64, lg_cmp_ge, lg_cmp_le, lg_cmp_gt, lg_cmp_lt, lg_cmp_eq, Bool.false_eq_true, Bool.true_eq_false, reduceCtorEq, false_iff, true_iff, iff_true, iff_false, and_true, true_and, and_false, false_and, reduceIte, ite_true, ite_false, eq_self] at *)) <;> omega), trivial⟩ rfl
set_option maxHeartbeats 4000000 in
theorem sp_X12_shareOf (G : kG9) {d : Nat} (hd : 3 ≤ d) (σ : St) (a0 : Int32) (a1 : Int32) (r1 : 0 ≤ (gi σ 84 32).toInt ∧ (gi σ 84 32).toInt ≤ 4) : Ct G M_X12_shareOf d [.ref 84, .int a0, .int a1] σ (fun r σ' => ∃ x : Int64, r = some (.long x) ∧ Fm [102] [] σ σ' ∧ True) := by
  refine wa_start (by decide) rfl (Nat.le_of_ble_eq_true rfl) (lv := [(0, .ref 84), (1, .int a0), (2, .int a1)]) rfl o_X12_shareOf_0 rfl ?_
  have ua0 := Int32.toInt_lt a0
  have wa0 := Int32.le_toInt a0
  have ua1 := Int32.toInt_lt a1
  have wa1 := Int32.le_toInt a1
  refine wa_aload_n (i := 0) rfl rfl ?_
  refine wa_Vv (d9 := d - 1) [] [] (sp_X12_layBasis G (d := d - 1) (by omega) σ  (by first | assumption | exact Or.inl rfl | exact Or.inr rfl | (((try simp only [vp_in_iff, Int32.lt_iff_toInt_lt, Int32.le_iff_toInt_le, ← Int32.toInt_inj, Int32.reduceToInt, n_1, n_2, n_8, Int32.toNatClampNeg, Int64.lt_iff_toInt_lt, Int64.le_iff_toInt_le, ← Int64.toInt_inj, Int64.reduceToInt, Int32.toInt_toInt64, lg_cmp_ge, lg_cmp_le, lg_cmp_gt, lg_cmp_lt, lg_cmp_eq, Bool.false_eq_true, Bool.true_eq_false, reduceCtorEq, false_iff, true_iff, iff_true, iff_false, and_true, true_and, and_false, false_and, reduceIte, ite_true, ite_false, eq_self] at *)) <;> omega))) (rfl) rfl rfl (zr (by omega)) mk_X12_layBasis ly_84 ml_12_1090 (Nat.le_of_ble_eq_true rfl) (fun s1 hs1 => ?_)
  obtain ⟨fs1, -⟩ := hs1
  have Fs1 : Fm [102] [] σ s1 := Fm.tr (Fm.rf [102] [] σ) (Fm.wd fs1 rfl rfl)
  refine wa_iconst (v := 0) (by decide) ?_
  refine wa_istore_nD (lv' := [(3, .int 0), (0, .ref 84), (1, .int a0), (2, .int a1)]) (i := 3) rfl (by decide) rfl ?_
  refine wa_pick [1, 2, 3, 0] rfl ?_
  have hi5 : ∀ (n9_6 : Nat) (l3 : Int32) (s3 : St), ((Fm [102] [] σ s3) ∧ (gi s3 84 32 = gi σ 84 32) ∧ (0 ≤ l3.toInt) ∧ (True)) → (2147483647 - l3.toInt).toNat = n9_6 → WA G M_X12_shareOf (ZM G M_X12_shareOf d (fun r σ' => ∃ x : Int64, r = some (.long x) ∧ Fm [102] [] σ σ' ∧ True)) B_X12_shareOf_6 [(0, .ref 84), (1, .int a0), (2, .int a1), (3, .int l3)] [] s3 := by
    intro n9_6
    induction n9_6 using Nat.strongRecOn with
    | _ n9_6 ih4 =>
      intro l3 s3 i9 m9_6
      obtain ⟨Fs3, khi5_0, jhi5_0, -⟩ := i9
      have ul3 := Int32.toInt_lt l3
      have wl3 := Int32.le_toInt l3
      refine wa_iload_n (i := 3) rfl rfl ?_
      refine wa_iconst (v := 4) (by decide) ?_
      refine wa_icmp_ge o_X12_shareOf_54 (by decide) (fun h6 => ?_) (fun h6 => ?_)
      · refine wa_aload_n (i := 0) rfl rfl ?_
        refine wa_Vl (d9 := d - 1) [] [] (sp_X12_determinant G (d := d - 1) (by omega) s3  (by rw [khi5_0]; first | assumption | exact Or.inl rfl | exact Or.inr rfl | (((try simp only [vp_in_iff, Int32.lt_iff_toInt_lt, Int32.le_iff_toInt_le, ← Int32.toInt_inj, Int32.reduceToInt, n_1, n_2, n_8, Int32.toNatClampNeg, Int64.lt_iff_toInt_lt, Int64.le_iff_toInt_le, ← Int64.toInt_inj, Int64.reduceToInt, Int32.toInt_toInt64, lg_cmp_ge, lg_cmp_le, lg_cmp_gt, lg_cmp_lt, lg_cmp_eq, Bool.false_eq_true, Bool.true_eq_false, reduceCtorEq, false_iff, true_iff, iff_true, iff_false, and_true, true_and, and_false, false_and, reduceIte, ite_true, ite_false, eq_self] at *)) <;> omega))) (rfl) rfl rfl (zr (by omega)) mk_X12_determinant ly_84 ml_12_1093 (Nat.le_of_ble_eq_true rfl) (fun x8 s7 hs7 => ?_)
        obtain ⟨zs7, -⟩ := pL hs7
        subst zs7
        refine wa_lreturn rfl rfl ?_
        exact ⟨_, rfl, Fs3, trivial⟩
      · have mh6 := nle_mx h6
        refine wa_aload_n (i := 0) rfl rfl ?_
        refine wa_getr ck_12 fl_12_403 ly_84 rf_84_163 ?_
        refine wa_iconst (v := 4) (by decide) ?_
        refine wa_iload_n (i := 1) rfl rfl ?_
        refine wa_imul ?_
        refine wa_top (fun v9 hv9 => ?_)
        have tv9 := i_mulT hv9
        clear hv9
        refine wa_iload_n (i := 3) rfl rfl ?_
        refine wa_iadd ?_
        refine wa_top (fun v10 hv10 => ?_)
        have tv10 := i_addT hv10
        clear hv10
        refine wa_iload_n (i := 2) rfl rfl ?_
        refine wa_if_ne o_X12_shareOf_33 (by decide) (fun h11 => ?_) (fun h11 => ?_)
        · refine wa_iload_n (i := 2) rfl rfl ?_
          refine wa_iconst (v := 1) (by decide) ?_
          refine wa_isub ?_
          refine wa_top (fun v12 hv12 => ?_)
          have tv12 := i_subT hv12
          clear hv12
          refine wa_iload_n (i := 3) rfl rfl ?_
          refine wa_icmp_ne o_X12_shareOf_46 (by decide) (fun h13 => ?_) (fun h13 => ?_)
          · refine wa_lconst (v := 0) (by decide) ?_
            refine wa_last ly_102 (by ((try simp only [vp_in_iff, Int32.lt_iff_toInt_lt, Int32.le_iff_toInt_le, ← Int32.toInt_inj, Int32.reduceToInt, n_1, n_2, n_8, Int32.toNatClampNeg, Int64.lt_iff_toInt_lt, Int64.le_iff_toInt_le, ← Int64.toInt_inj, Int64.reduceToInt, Int32.toInt_toInt64, lg_cmp_ge, lg_cmp_le, lg_cmp_gt, lg_cmp_lt, lg_cmp_eq, Bool.false_eq_true, Bool.true_eq_false, reduceCtorEq, false_iff, true_iff, iff_true, iff_false, and_true, true_and, and_false, false_and, reduceIte, ite_true, ite_false, eq_self] at *)) <;> omega) (fun s14 hs14 => ?_)
            have Fs14 : Fm [102] [] σ s14 := by rw [hs14]; exact Fm.sl Fs3 rfl
            refine wa_iinc (v := (1)) (lv' := fun y15 => [(3, .int y15), (0, .ref 84), (1, .int a0), (2, .int a1)]) (by decide) rfl (by decide) (fun _ => rfl) (fun y15 hy15 => ?_)
            have ty15 := i_addT hy15.symm
            clear hy15
            refine wa_goto o_X12_shareOf_6 (by decide) ?_
            refine wa_pick [1, 2, 3, 0] rfl ?_
            exact ih4 _ (by ((try simp only [vp_in_iff, Int32.lt_iff_toInt_lt, Int32.le_iff_toInt_le, ← Int32.toInt_inj, Int32.reduceToInt, n_1, n_2, n_8, Int32.toNatClampNeg, Int64.lt_iff_toInt_lt, Int64.le_iff_toInt_le, ← Int64.toInt_inj, Int64.reduceToInt, Int32.toInt_toInt64, lg_cmp_ge, lg_cmp_le, lg_cmp_gt, lg_cmp_lt, lg_cmp_eq, Bool.false_eq_true, Bool.true_eq_false, reduceCtorEq, false_iff, true_iff, iff_true, iff_false, and_true, true_and, and_false, false_and, reduceIte, ite_true, ite_false, eq_self] at *)) <;> omega) _ _ ⟨Fs14, ((nx_gi_sl hs14).trans (khi5_0)), (by ((try simp only [vp_in_iff, Int32.lt_iff_toInt_lt, Int32.le_iff_toInt_le, ← Int32.toInt_inj, Int32.reduceToInt, n_1, n_2, n_8, Int32.toNatClampNeg, Int64.lt_iff_toInt_lt, Int64.le_iff_toInt_le, ← Int64.toInt_inj, Int64.reduceToInt, Int32.toInt_toInt64, lg_cmp_ge, lg_cmp_le, lg_cmp_gt, lg_cmp_lt, lg_cmp_eq, Bool.false_eq_true, Bool.true_eq_false, reduceCtorEq, false_iff, true_iff, iff_true, iff_false, and_true, true_and, and_false, false_and, reduceIte, ite_true, ite_false, eq_self] at *)) <;> omega), trivial⟩ rfl
          · refine wa_ldc2 (v := (-1)) (allW_in (kT_12 _ (List.mem_of_getElem? (i := 97) rfl)) rfl) ?_
            refine wa_goto o_X12_shareOf_47 (by decide) ?_
            refine wa_last ly_102 (by ((try simp only [vp_in_iff, Int32.lt_iff_toInt_lt, Int32.le_iff_toInt_le, ← Int32.toInt_inj, Int32.reduceToInt, n_1, n_2, n_8, Int32.toNatClampNeg, Int64.lt_iff_toInt_lt, Int64.le_iff_toInt_le, ← Int64.toInt_inj, Int64.reduceToInt, Int32.toInt_toInt64, lg_cmp_ge, lg_cmp_le, lg_cmp_gt, lg_cmp_lt, lg_cmp_eq, Bool.false_eq_true, Bool.true_eq_false, reduceCtorEq, false_iff, true_iff, iff_true, iff_false, and_true, true_and, and_false, false_and, reduceIte, ite_true, ite_false, eq_self] at *)) <;> omega) (fun s16 hs16 => ?_)
            have Fs16 : Fm [102] [] σ s16 := by rw [hs16]; exact Fm.sl Fs3 rfl
            refine wa_iinc (v := (1)) (lv' := fun y17 => [(3, .int y17), (0, .ref 84), (1, .int a0), (2, .int a1)]) (by decide) rfl (by decide) (fun _ => rfl) (fun y17 hy17 => ?_)
            have ty17 := i_addT hy17.symm
            clear hy17
            refine wa_goto o_X12_shareOf_6 (by decide) ?_
            refine wa_pick [1, 2, 3, 0] rfl ?_
            exact ih4 _ (by ((try simp only [vp_in_iff, Int32.lt_iff_toInt_lt, Int32.le_iff_toInt_le, ← Int32.toInt_inj, Int32.reduceToInt, n_1, n_2, n_8, Int32.toNatClampNeg, Int64.lt_iff_toInt_lt, Int64.le_iff_toInt_le, ← Int64.toInt_inj, Int64.reduceToInt, Int32.toInt_toInt64, lg_cmp_ge, lg_cmp_le, lg_cmp_gt, lg_cmp_lt, lg_cmp_eq, Bool.false_eq_true, Bool.true_eq_false, reduceCtorEq, false_iff, true_iff, iff_true, iff_false, and_true, true_and, and_false, false_and, reduceIte, ite_true, ite_false, eq_self] at *)) <;> omega) _ _ ⟨Fs16, ((nx_gi_sl hs16).trans (khi5_0)), (by ((try simp only [vp_in_iff, Int32.lt_iff_toInt_lt, Int32.le_iff_toInt_le, ← Int32.toInt_inj, Int32.reduceToInt, n_1, n_2, n_8, Int32.toNatClampNeg, Int64.lt_iff_toInt_lt, Int64.le_iff_toInt_le, ← Int64.toInt_inj, Int64.reduceToInt, Int32.toInt_toInt64, lg_cmp_ge, lg_cmp_le, lg_cmp_gt, lg_cmp_lt, lg_cmp_eq, Bool.false_eq_true, Bool.true_eq_false, reduceCtorEq, false_iff, true_iff, iff_true, iff_false, and_true, true_and, and_false, false_and, reduceIte, ite_true, ite_false, eq_self] at *)) <;> omega), trivial⟩ rfl
        · refine wa_aload_n (i := 0) rfl rfl ?_
          refine wa_getr ck_12 fl_12_358 ly_84 rf_84_141 ?_
          refine wa_iload_n (i := 3) rfl rfl ?_
          refine wa_lald ly_117 (by ((try simp only [vp_in_iff, Int32.lt_iff_toInt_lt, Int32.le_iff_toInt_le, ← Int32.toInt_inj, Int32.reduceToInt, n_1, n_2, n_8, Int32.toNatClampNeg, Int64.lt_iff_toInt_lt, Int64.le_iff_toInt_le, ← Int64.toInt_inj, Int64.reduceToInt, Int32.toInt_toInt64, lg_cmp_ge, lg_cmp_le, lg_cmp_gt, lg_cmp_lt, lg_cmp_eq, Bool.false_eq_true, Bool.true_eq_false, reduceCtorEq, false_iff, true_iff, iff_true, iff_false, and_true, true_and, and_false, false_and, reduceIte, ite_true, ite_false, eq_self] at *)) <;> omega) ?_
          refine wa_goto o_X12_shareOf_47 (by decide) ?_
          refine wa_last ly_102 (by ((try simp only [vp_in_iff, Int32.lt_iff_toInt_lt, Int32.le_iff_toInt_le, ← Int32.toInt_inj, Int32.reduceToInt, n_1, n_2, n_8, Int32.toNatClampNeg, Int64.lt_iff_toInt_lt, Int64.le_iff_toInt_le, ← Int64.toInt_inj, Int64.reduceToInt, Int32.toInt_toInt64, lg_cmp_ge, lg_cmp_le, lg_cmp_gt, lg_cmp_lt, lg_cmp_eq, Bool.false_eq_true, Bool.true_eq_false, reduceCtorEq, false_iff, true_iff, iff_true, iff_false, and_true, true_and, and_false, false_and, reduceIte, ite_true, ite_false, eq_self] at *)) <;> omega) (fun s18 hs18 => ?_)
          have Fs18 : Fm [102] [] σ s18 := by rw [hs18]; exact Fm.sl Fs3 rfl
          refine wa_iinc (v := (1)) (lv' := fun y19 => [(3, .int y19), (0, .ref 84), (1, .int a0), (2, .int a1)]) (by decide) rfl (by decide) (fun _ => rfl) (fun y19 hy19 => ?_)
          have ty19 := i_addT hy19.symm
          clear hy19
          refine wa_goto o_X12_shareOf_6 (by decide) ?_
          refine wa_pick [1, 2, 3, 0] rfl ?_
          exact ih4 _ (by ((try simp only [vp_in_iff, Int32.lt_iff_toInt_lt, Int32.le_iff_toInt_le, ← Int32.toInt_inj, Int32.reduceToInt, n_1, n_2, n_8, Int32.toNatClampNeg, Int64.lt_iff_toInt_lt, Int64.le_iff_toInt_le, ← Int64.toInt_inj, Int64.reduceToInt, Int32.toInt_toInt64, lg_cmp_ge, lg_cmp_le, lg_cmp_gt, lg_cmp_lt, lg_cmp_eq, Bool.false_eq_true, Bool.true_eq_false, reduceCtorEq, false_iff, true_iff, iff_true, iff_false, and_true, true_and, and_false, false_and, reduceIte, ite_true, ite_false, eq_self] at *)) <;> omega) _ _ ⟨Fs18, ((nx_gi_sl hs18).trans (khi5_0)), (by ((try simp only [vp_in_iff, Int32.lt_iff_toInt_lt, Int32.le_iff_toInt_le, ← Int32.toInt_inj, Int32.reduceToInt, n_1, n_2, n_8, Int32.toNatClampNeg, Int64.lt_iff_toInt_lt, Int64.le_iff_toInt_le, ← Int64.toInt_inj, Int64.reduceToInt, Int32.toInt_toInt64, lg_cmp_ge, lg_cmp_le, lg_cmp_gt, lg_cmp_lt, lg_cmp_eq, Bool.false_eq_true, Bool.true_eq_false, reduceCtorEq, false_iff, true_iff, iff_true, iff_false, and_true, true_and, and_false, false_and, reduceIte, ite_true, ite_false, eq_self] at *)) <;> omega), trivial⟩ rfl
  exact hi5 _ _ _ ⟨Fs1, (Fm.gi fs1 (q := 84) (k := 32) rfl rfl), (by ((try simp only [vp_in_iff, Int32.lt_iff_toInt_lt, Int32.le_iff_toInt_le, ← Int32.toInt_inj, Int32.reduceToInt, n_1, n_2, n_8, Int32.toNatClampNeg, Int64.lt_iff_toInt_lt, Int64.le_iff_toInt_le, ← Int64.toInt_inj, Int64.reduceToInt, Int32.toInt_toInt64, lg_cmp_ge, lg_cmp_le, lg_cmp_gt, lg_cmp_lt, lg_cmp_eq, Bool.false_eq_true, Bool.true_eq_false, reduceCtorEq, false_iff, true_iff, iff_true, iff_false, and_true, true_and, and_false, false_and, reduceIte, ite_true, ite_false, eq_self] at *)) <;> omega), trivial⟩ rfl
set_option maxHeartbeats 4000000 in
theorem sp_X12_partOf (G : kG9) {d : Nat} (hd : 3 ≤ d) (σ : St) (a0 : Int32) (a1 : Int32) (r1 : 0 ≤ (gi σ 84 32).toInt ∧ (gi σ 84 32).toInt ≤ 4) : Ct G M_X12_partOf d [.ref 84, .int a0, .int a1] σ (fun r σ' => ∃ x : Int64, r = some (.long x) ∧ Fm [102] [] σ σ' ∧ True) := by
  refine wa_start (by decide) rfl (Nat.le_of_ble_eq_true rfl) (lv := [(0, .ref 84), (1, .int a0), (2, .int a1)]) rfl o_X12_partOf_0 rfl ?_
  have ua0 := Int32.toInt_lt a0
  have wa0 := Int32.le_toInt a0
  have ua1 := Int32.toInt_lt a1
  have wa1 := Int32.le_toInt a1
  refine wa_aload_n (i := 0) rfl rfl ?_
  refine wa_Vv (d9 := d - 1) [] [] (sp_X12_layBasis G (d := d - 1) (by omega) σ  (by first | assumption | exact Or.inl rfl | exact Or.inr rfl | (((try simp only [vp_in_iff, Int32.lt_iff_toInt_lt, Int32.le_iff_toInt_le, ← Int32.toInt_inj, Int32.reduceToInt, n_1, n_2, n_8, Int32.toNatClampNeg, Int64.lt_iff_toInt_lt, Int64.le_iff_toInt_le, ← Int64.toInt_inj, Int64.reduceToInt, Int32.toInt_toInt64, lg_cmp_ge, lg_cmp_le, lg_cmp_gt, lg_cmp_lt, lg_cmp_eq, Bool.false_eq_true, Bool.true_eq_false, reduceCtorEq, false_iff, true_iff, iff_true, iff_false, and_true, true_and, and_false, false_and, reduceIte, ite_true, ite_false, eq_self] at *)) <;> omega))) (rfl) rfl rfl (zr (by omega)) mk_X12_layBasis ly_84 ml_12_1090 (Nat.le_of_ble_eq_true rfl) (fun s1 hs1 => ?_)
  obtain ⟨fs1, -⟩ := hs1
  have Fs1 : Fm [102] [] σ s1 := Fm.tr (Fm.rf [102] [] σ) (Fm.wd fs1 rfl rfl)
  refine wa_iconst (v := 0) (by decide) ?_
  refine wa_istore_nD (lv' := [(3, .int 0), (0, .ref 84), (1, .int a0), (2, .int a1)]) (i := 3) rfl (by decide) rfl ?_
  refine wa_pick [1, 2, 3, 0] rfl ?_
  have hi5 : ∀ (n9_6 : Nat) (l3 : Int32) (s3 : St), ((Fm [102] [] σ s3) ∧ (gi s3 84 32 = gi σ 84 32) ∧ (0 ≤ l3.toInt) ∧ (True)) → (2147483647 - l3.toInt).toNat = n9_6 → WA G M_X12_partOf (ZM G M_X12_partOf d (fun r σ' => ∃ x : Int64, r = some (.long x) ∧ Fm [102] [] σ σ' ∧ True)) B_X12_partOf_6 [(0, .ref 84), (1, .int a0), (2, .int a1), (3, .int l3)] [] s3 := by
    intro n9_6
    induction n9_6 using Nat.strongRecOn with
    | _ n9_6 ih4 =>
      intro l3 s3 i9 m9_6
      obtain ⟨Fs3, khi5_0, jhi5_0, -⟩ := i9
      have ul3 := Int32.toInt_lt l3
      have wl3 := Int32.le_toInt l3
      refine wa_iload_n (i := 3) rfl rfl ?_
      refine wa_iconst (v := 4) (by decide) ?_
      refine wa_icmp_ge o_X12_partOf_33 (by decide) (fun h6 => ?_) (fun h6 => ?_)
      · refine wa_aload_n (i := 0) rfl rfl ?_
        refine wa_Vl (d9 := d - 1) [] [] (sp_X12_determinant G (d := d - 1) (by omega) s3  (by rw [khi5_0]; first | assumption | exact Or.inl rfl | exact Or.inr rfl | (((try simp only [vp_in_iff, Int32.lt_iff_toInt_lt, Int32.le_iff_toInt_le, ← Int32.toInt_inj, Int32.reduceToInt, n_1, n_2, n_8, Int32.toNatClampNeg, Int64.lt_iff_toInt_lt, Int64.le_iff_toInt_le, ← Int64.toInt_inj, Int64.reduceToInt, Int32.toInt_toInt64, lg_cmp_ge, lg_cmp_le, lg_cmp_gt, lg_cmp_lt, lg_cmp_eq, Bool.false_eq_true, Bool.true_eq_false, reduceCtorEq, false_iff, true_iff, iff_true, iff_false, and_true, true_and, and_false, false_and, reduceIte, ite_true, ite_false, eq_self] at *)) <;> omega))) (rfl) rfl rfl (zr (by omega)) mk_X12_determinant ly_84 ml_12_1093 (Nat.le_of_ble_eq_true rfl) (fun x8 s7 hs7 => ?_)
        obtain ⟨zs7, -⟩ := pL hs7
        subst zs7
        refine wa_lreturn rfl rfl ?_
        exact ⟨_, rfl, Fs3, trivial⟩
      · have mh6 := nle_mx h6
        refine wa_aload_n (i := 0) rfl rfl ?_
        refine wa_getr ck_12 fl_12_403 ly_84 rf_84_163 ?_
        refine wa_iconst (v := 4) (by decide) ?_
        refine wa_iload_n (i := 1) rfl rfl ?_
        refine wa_imul ?_
        refine wa_top (fun v9 hv9 => ?_)
        have tv9 := i_mulT hv9
        clear hv9
        refine wa_iload_n (i := 3) rfl rfl ?_
        refine wa_iadd ?_
        refine wa_top (fun v10 hv10 => ?_)
        have tv10 := i_addT hv10
        clear hv10
        refine wa_aload_n (i := 0) rfl rfl ?_
        refine wa_iload_n (i := 2) rfl rfl ?_
        refine wa_iload_n (i := 3) rfl rfl ?_
        refine wa_Vl (d9 := d - 1) [.int _, .int _] [.int v10, .ref 102] (sp_X12_factor G (d := d - 1) (by omega) s3 _ _) (rfl) rfl rfl (zr (by omega)) mk_X12_factor ly_84 ml_12_1087 (Nat.le_of_ble_eq_true rfl) (fun x12 s11 hs11 => ?_)
        obtain ⟨zs11, -⟩ := pL hs11
        subst zs11
        refine wa_last ly_102 (by ((try simp only [vp_in_iff, Int32.lt_iff_toInt_lt, Int32.le_iff_toInt_le, ← Int32.toInt_inj, Int32.reduceToInt, n_1, n_2, n_8, Int32.toNatClampNeg, Int64.lt_iff_toInt_lt, Int64.le_iff_toInt_le, ← Int64.toInt_inj, Int64.reduceToInt, Int32.toInt_toInt64, lg_cmp_ge, lg_cmp_le, lg_cmp_gt, lg_cmp_lt, lg_cmp_eq, Bool.false_eq_true, Bool.true_eq_false, reduceCtorEq, false_iff, true_iff, iff_true, iff_false, and_true, true_and, and_false, false_and, reduceIte, ite_true, ite_false, eq_self] at *)) <;> omega) (fun s13 hs13 => ?_)
        have Fs13 : Fm [102] [] σ s13 := by rw [hs13]; exact Fm.sl Fs3 rfl
        refine wa_iinc (v := (1)) (lv' := fun y14 => [(3, .int y14), (0, .ref 84), (1, .int a0), (2, .int a1)]) (by decide) rfl (by decide) (fun _ => rfl) (fun y14 hy14 => ?_)
        have ty14 := i_addT hy14.symm
        clear hy14
        refine wa_goto o_X12_partOf_6 (by decide) ?_
        refine wa_pick [1, 2, 3, 0] rfl ?_
        exact ih4 _ (by ((try simp only [vp_in_iff, Int32.lt_iff_toInt_lt, Int32.le_iff_toInt_le, ← Int32.toInt_inj, Int32.reduceToInt, n_1, n_2, n_8, Int32.toNatClampNeg, Int64.lt_iff_toInt_lt, Int64.le_iff_toInt_le, ← Int64.toInt_inj, Int64.reduceToInt, Int32.toInt_toInt64, lg_cmp_ge, lg_cmp_le, lg_cmp_gt, lg_cmp_lt, lg_cmp_eq, Bool.false_eq_true, Bool.true_eq_false, reduceCtorEq, false_iff, true_iff, iff_true, iff_false, and_true, true_and, and_false, false_and, reduceIte, ite_true, ite_false, eq_self] at *)) <;> omega) _ _ ⟨Fs13, ((nx_gi_sl hs13).trans (khi5_0)), (by ((try simp only [vp_in_iff, Int32.lt_iff_toInt_lt, Int32.le_iff_toInt_le, ← Int32.toInt_inj, Int32.reduceToInt, n_1, n_2, n_8, Int32.toNatClampNeg, Int64.lt_iff_toInt_lt, Int64.le_iff_toInt_le, ← Int64.toInt_inj, Int64.reduceToInt, Int32.toInt_toInt64, lg_cmp_ge, lg_cmp_le, lg_cmp_gt, lg_cmp_lt, lg_cmp_eq, Bool.false_eq_true, Bool.true_eq_false, reduceCtorEq, false_iff, true_iff, iff_true, iff_false, and_true, true_and, and_false, false_and, reduceIte, ite_true, ite_false, eq_self] at *)) <;> omega), trivial⟩ rfl
  exact hi5 _ _ _ ⟨Fs1, (Fm.gi fs1 (q := 84) (k := 32) rfl rfl), (by ((try simp only [vp_in_iff, Int32.lt_iff_toInt_lt, Int32.le_iff_toInt_le, ← Int32.toInt_inj, Int32.reduceToInt, n_1, n_2, n_8, Int32.toNatClampNeg, Int64.lt_iff_toInt_lt, Int64.le_iff_toInt_le, ← Int64.toInt_inj, Int64.reduceToInt, Int32.toInt_toInt64, lg_cmp_ge, lg_cmp_le, lg_cmp_gt, lg_cmp_lt, lg_cmp_eq, Bool.false_eq_true, Bool.true_eq_false, reduceCtorEq, false_iff, true_iff, iff_true, iff_false, and_true, true_and, and_false, false_and, reduceIte, ite_true, ite_false, eq_self] at *)) <;> omega), trivial⟩ rfl
set_option maxHeartbeats 4000000 in
theorem sp_X12_solve (G : kG9) {d : Nat} (hd : 3 ≤ d) (σ : St) (r1 : 0 ≤ (gi σ 84 32).toInt ∧ (gi σ 84 32).toInt ≤ 4) : Ct G M_X12_solve d [.ref 84] σ (fun r σ' => Fm [100, 101, 102] [164] σ σ' ∧ True) := by
  refine wa_start (by decide) rfl (Nat.le_of_ble_eq_true rfl) (lv := [(0, .ref 84)]) rfl o_X12_solve_0 rfl ?_
  refine wa_aload_n (i := 0) rfl rfl ?_
  refine wa_Vv (d9 := d - 1) [] [] (sp_X12_layBasis G (d := d - 1) (by omega) σ  (by first | assumption | exact Or.inl rfl | exact Or.inr rfl | (((try simp only [vp_in_iff, Int32.lt_iff_toInt_lt, Int32.le_iff_toInt_le, ← Int32.toInt_inj, Int32.reduceToInt, n_1, n_2, n_8, Int32.toNatClampNeg, Int64.lt_iff_toInt_lt, Int64.le_iff_toInt_le, ← Int64.toInt_inj, Int64.reduceToInt, Int32.toInt_toInt64, lg_cmp_ge, lg_cmp_le, lg_cmp_gt, lg_cmp_lt, lg_cmp_eq, Bool.false_eq_true, Bool.true_eq_false, reduceCtorEq, false_iff, true_iff, iff_true, iff_false, and_true, true_and, and_false, false_and, reduceIte, ite_true, ite_false, eq_self] at *)) <;> omega))) (rfl) rfl rfl (zr (by omega)) mk_X12_layBasis ly_84 ml_12_1090 (Nat.le_of_ble_eq_true rfl) (fun s1 hs1 => ?_)
  obtain ⟨fs1, -⟩ := hs1
  have Fs1 : Fm [100, 101, 102] [164] σ s1 := Fm.tr (Fm.rf [100, 101, 102] [164] σ) (Fm.wd fs1 rfl rfl)
  refine wa_aload_n (i := 0) rfl rfl ?_
  refine wa_aload_n (i := 0) rfl rfl ?_
  refine wa_Vl (d9 := d - 1) [] [.ref 84] (sp_X12_determinant G (d := d - 1) (by omega) s1  (by rw [Fm.gi fs1 (q := 84) (k := 32) rfl rfl]; first | assumption | exact Or.inl rfl | exact Or.inr rfl | (((try simp only [vp_in_iff, Int32.lt_iff_toInt_lt, Int32.le_iff_toInt_le, ← Int32.toInt_inj, Int32.reduceToInt, n_1, n_2, n_8, Int32.toNatClampNeg, Int64.lt_iff_toInt_lt, Int64.le_iff_toInt_le, ← Int64.toInt_inj, Int64.reduceToInt, Int32.toInt_toInt64, lg_cmp_ge, lg_cmp_le, lg_cmp_gt, lg_cmp_lt, lg_cmp_eq, Bool.false_eq_true, Bool.true_eq_false, reduceCtorEq, false_iff, true_iff, iff_true, iff_false, and_true, true_and, and_false, false_and, reduceIte, ite_true, ite_false, eq_self] at *)) <;> omega))) (rfl) rfl rfl (zr (by omega)) mk_X12_determinant ly_84 ml_12_1093 (Nat.le_of_ble_eq_true rfl) (fun x4 s3 hs3 => ?_)
  obtain ⟨zs3, -⟩ := pL hs3
  subst zs3
  refine wa_putl ck_12 fl_12_1097 ly_84 (fun s5 hs5 => ?_)
  have Fs5 : Fm [100, 101, 102] [164] σ s5 := by rw [hs5]; exact Fm.sl Fs1 rfl
  refine wa_iconst (v := 0) (by decide) ?_
  refine wa_istore_nD (lv' := [(1, .int 0), (0, .ref 84)]) (i := 1) rfl (by decide) rfl ?_
  refine wa_pick [1, 0] rfl ?_
  have hi8 : ∀ (n9_14 : Nat) (l1 : Int32) (s6 : St), ((Fm [100, 101, 102] [164] σ s6) ∧ (gi s6 84 32 = gi σ 84 32) ∧ (gi s6 84 160 = gi σ 84 160) ∧ (gl s6 84 164 = x4) ∧ (0 ≤ l1.toInt) ∧ (True)) → (2147483647 - l1.toInt).toNat = n9_14 → WA G M_X12_solve (ZM G M_X12_solve d (fun r σ' => Fm [100, 101, 102] [164] σ σ' ∧ True)) B_X12_solve_14 [(0, .ref 84), (1, .int l1)] [] s6 := by
    intro n9_14
    induction n9_14 using Nat.strongRecOn with
    | _ n9_14 ih7 =>
      intro l1 s6 i9 m9_14
      obtain ⟨Fs6, khi8_0, khi8_1, khi8_2, jhi8_0, -⟩ := i9
      have ul1 := Int32.toInt_lt l1
      have wl1 := Int32.le_toInt l1
      refine wa_iload_n (i := 1) rfl rfl ?_
      refine wa_aload_n (i := 0) rfl rfl ?_
      refine wa_geti ck_12 fl_12_815 ly_84 ?_
      refine wa_rw (khi8_0) ?_
      refine wa_icmp_ge o_X12_solve_154 (by decide) (fun h9 => ?_) (fun h9 => ?_)
      · refine wa_aload_n (i := 0) rfl rfl ?_
        refine wa_getl ck_12 fl_12_1097 ly_84 ?_
        refine wa_rwl (khi8_2) ?_
        refine wa_lconst (v := 0) (by decide) ?_
        refine wa_lcmp ?_
        refine wa_top (fun v10 hv10 => ?_)
        have tv10 := i_cmpT hv10
        clear hv10
        refine wa_if_ge o_X12_solve_217 (by decide) (fun h11 => ?_) (fun h11 => ?_)
        · refine wa_return (st := []) rfl rfl ?_
          exact ⟨Fs6, trivial⟩
        · refine wa_aload_n (i := 0) rfl rfl ?_
          refine wa_lconst (v := 0) (by decide) ?_
          refine wa_aload_n (i := 0) rfl rfl ?_
          refine wa_getl ck_12 fl_12_1097 ly_84 ?_
          refine wa_rwl (khi8_2) ?_
          refine wa_lsub ?_
          refine wa_topl (fun v12 hv12 => ?_)
          have tv12 := s_l_remU hv12
          clear hv12
          refine wa_putl ck_12 fl_12_1097 ly_84 (fun s13 hs13 => ?_)
          have Fs13 : Fm [100, 101, 102] [164] σ s13 := by rw [hs13]; exact Fm.sl Fs6 rfl
          refine wa_iconst (v := 0) (by decide) ?_
          refine wa_istore_nD (lv' := [(1, .int 0), (0, .ref 84)]) (i := 1) rfl (by decide) rfl ?_
          refine wa_pick [1, 0] rfl ?_
          have hi16 : ∀ (n9_175 : Nat) (l1 : Int32) (s14 : St), ((Fm [100, 101, 102] [164] σ s14) ∧ (gi s14 84 32 = gi σ 84 32) ∧ (gi s14 84 160 = gi σ 84 160) ∧ (gl s14 84 164 = v12) ∧ (0 ≤ l1.toInt) ∧ (True)) → (2147483647 - l1.toInt).toNat = n9_175 → WA G M_X12_solve (ZM G M_X12_solve d (fun r σ' => Fm [100, 101, 102] [164] σ σ' ∧ True)) B_X12_solve_175 [(0, .ref 84), (1, .int l1)] [] s14 := by
            intro n9_175
            induction n9_175 using Nat.strongRecOn with
            | _ n9_175 ih15 =>
              intro l1 s14 i9 m9_175
              obtain ⟨Fs14, khi16_0, khi16_1, khi16_2, jhi16_0, -⟩ := i9
              have ul1 := Int32.toInt_lt l1
              have wl1 := Int32.le_toInt l1
              refine wa_iload_n (i := 1) rfl rfl ?_
              refine wa_aload_n (i := 0) rfl rfl ?_
              refine wa_geti ck_12 fl_12_815 ly_84 ?_
              refine wa_rw (khi16_0) ?_
              refine wa_icmp_ge o_X12_solve_217 (by decide) (fun h17 => ?_) (fun h17 => ?_)
              · refine wa_return (st := []) rfl rfl ?_
                exact ⟨Fs14, trivial⟩
              · have mh17 := nle_mx h17
                refine wa_aload_n (i := 0) rfl rfl ?_
                refine wa_getr ck_12 fl_12_406 ly_84 rf_84_165 ?_
                refine wa_iload_n (i := 1) rfl rfl ?_
                refine wa_lconst (v := 0) (by decide) ?_
                refine wa_aload_n (i := 0) rfl rfl ?_
                refine wa_getr ck_12 fl_12_406 ly_84 rf_84_165 ?_
                refine wa_iload_n (i := 1) rfl rfl ?_
                refine wa_lald ly_101 (by ((try simp only [vp_in_iff, Int32.lt_iff_toInt_lt, Int32.le_iff_toInt_le, ← Int32.toInt_inj, Int32.reduceToInt, n_1, n_2, n_8, Int32.toNatClampNeg, Int64.lt_iff_toInt_lt, Int64.le_iff_toInt_le, ← Int64.toInt_inj, Int64.reduceToInt, Int32.toInt_toInt64, lg_cmp_ge, lg_cmp_le, lg_cmp_gt, lg_cmp_lt, lg_cmp_eq, Bool.false_eq_true, Bool.true_eq_false, reduceCtorEq, false_iff, true_iff, iff_true, iff_false, and_true, true_and, and_false, false_and, reduceIte, ite_true, ite_false, eq_self] at *)) <;> omega) ?_
                refine wa_lsub ?_
                refine wa_topl (fun v18 hv18 => ?_)
                have tv18 := s_l_remU hv18
                clear hv18
                refine wa_last ly_101 (by ((try simp only [vp_in_iff, Int32.lt_iff_toInt_lt, Int32.le_iff_toInt_le, ← Int32.toInt_inj, Int32.reduceToInt, n_1, n_2, n_8, Int32.toNatClampNeg, Int64.lt_iff_toInt_lt, Int64.le_iff_toInt_le, ← Int64.toInt_inj, Int64.reduceToInt, Int32.toInt_toInt64, lg_cmp_ge, lg_cmp_le, lg_cmp_gt, lg_cmp_lt, lg_cmp_eq, Bool.false_eq_true, Bool.true_eq_false, reduceCtorEq, false_iff, true_iff, iff_true, iff_false, and_true, true_and, and_false, false_and, reduceIte, ite_true, ite_false, eq_self] at *)) <;> omega) (fun s19 hs19 => ?_)
                have Fs19 : Fm [100, 101, 102] [164] σ s19 := by rw [hs19]; exact Fm.sl Fs14 rfl
                refine wa_aload_n (i := 0) rfl rfl ?_
                refine wa_getr ck_12 fl_12_409 ly_84 rf_84_166 ?_
                refine wa_iload_n (i := 1) rfl rfl ?_
                refine wa_lconst (v := 0) (by decide) ?_
                refine wa_aload_n (i := 0) rfl rfl ?_
                refine wa_getr ck_12 fl_12_409 ly_84 rf_84_166 ?_
                refine wa_iload_n (i := 1) rfl rfl ?_
                refine wa_lald ly_100 (by ((try simp only [vp_in_iff, Int32.lt_iff_toInt_lt, Int32.le_iff_toInt_le, ← Int32.toInt_inj, Int32.reduceToInt, n_1, n_2, n_8, Int32.toNatClampNeg, Int64.lt_iff_toInt_lt, Int64.le_iff_toInt_le, ← Int64.toInt_inj, Int64.reduceToInt, Int32.toInt_toInt64, lg_cmp_ge, lg_cmp_le, lg_cmp_gt, lg_cmp_lt, lg_cmp_eq, Bool.false_eq_true, Bool.true_eq_false, reduceCtorEq, false_iff, true_iff, iff_true, iff_false, and_true, true_and, and_false, false_and, reduceIte, ite_true, ite_false, eq_self] at *)) <;> omega) ?_
                refine wa_lsub ?_
                refine wa_topl (fun v20 hv20 => ?_)
                have tv20 := s_l_remU hv20
                clear hv20
                refine wa_last ly_100 (by ((try simp only [vp_in_iff, Int32.lt_iff_toInt_lt, Int32.le_iff_toInt_le, ← Int32.toInt_inj, Int32.reduceToInt, n_1, n_2, n_8, Int32.toNatClampNeg, Int64.lt_iff_toInt_lt, Int64.le_iff_toInt_le, ← Int64.toInt_inj, Int64.reduceToInt, Int32.toInt_toInt64, lg_cmp_ge, lg_cmp_le, lg_cmp_gt, lg_cmp_lt, lg_cmp_eq, Bool.false_eq_true, Bool.true_eq_false, reduceCtorEq, false_iff, true_iff, iff_true, iff_false, and_true, true_and, and_false, false_and, reduceIte, ite_true, ite_false, eq_self] at *)) <;> omega) (fun s21 hs21 => ?_)
                have Fs21 : Fm [100, 101, 102] [164] σ s21 := by rw [hs21]; exact Fm.sl Fs19 rfl
                refine wa_iinc (v := (1)) (lv' := fun y22 => [(1, .int y22), (0, .ref 84)]) (by decide) rfl (by decide) (fun _ => rfl) (fun y22 hy22 => ?_)
                have ty22 := i_addT hy22.symm
                clear hy22
                refine wa_goto o_X12_solve_175 (by decide) ?_
                refine wa_pick [1, 0] rfl ?_
                exact ih15 _ (by ((try simp only [vp_in_iff, Int32.lt_iff_toInt_lt, Int32.le_iff_toInt_le, ← Int32.toInt_inj, Int32.reduceToInt, n_1, n_2, n_8, Int32.toNatClampNeg, Int64.lt_iff_toInt_lt, Int64.le_iff_toInt_le, ← Int64.toInt_inj, Int64.reduceToInt, Int32.toInt_toInt64, lg_cmp_ge, lg_cmp_le, lg_cmp_gt, lg_cmp_lt, lg_cmp_eq, Bool.false_eq_true, Bool.true_eq_false, reduceCtorEq, false_iff, true_iff, iff_true, iff_false, and_true, true_and, and_false, false_and, reduceIte, ite_true, ite_false, eq_self] at *)) <;> omega) _ _ ⟨Fs21, ((nx_gi_sl hs21).trans ((nx_gi_sl hs19).trans (khi16_0))), ((nx_gi_sl hs21).trans ((nx_gi_sl hs19).trans (khi16_1))), ((nxq_gl_sl hs21 (by decide)).trans ((nxq_gl_sl hs19 (by decide)).trans (khi16_2))), (by ((try simp only [vp_in_iff, Int32.lt_iff_toInt_lt, Int32.le_iff_toInt_le, ← Int32.toInt_inj, Int32.reduceToInt, n_1, n_2, n_8, Int32.toNatClampNeg, Int64.lt_iff_toInt_lt, Int64.le_iff_toInt_le, ← Int64.toInt_inj, Int64.reduceToInt, Int32.toInt_toInt64, lg_cmp_ge, lg_cmp_le, lg_cmp_gt, lg_cmp_lt, lg_cmp_eq, Bool.false_eq_true, Bool.true_eq_false, reduceCtorEq, false_iff, true_iff, iff_true, iff_false, and_true, true_and, and_false, false_and, reduceIte, ite_true, ite_false, eq_self] at *)) <;> omega), trivial⟩ rfl
          exact hi16 _ _ _ ⟨Fs13, ((nx_gi_sl hs13).trans (khi8_0)), ((nx_gi_sl hs13).trans (khi8_1)), (nxe_gl_sl hs13), (by ((try simp only [vp_in_iff, Int32.lt_iff_toInt_lt, Int32.le_iff_toInt_le, ← Int32.toInt_inj, Int32.reduceToInt, n_1, n_2, n_8, Int32.toNatClampNeg, Int64.lt_iff_toInt_lt, Int64.le_iff_toInt_le, ← Int64.toInt_inj, Int64.reduceToInt, Int32.toInt_toInt64, lg_cmp_ge, lg_cmp_le, lg_cmp_gt, lg_cmp_lt, lg_cmp_eq, Bool.false_eq_true, Bool.true_eq_false, reduceCtorEq, false_iff, true_iff, iff_true, iff_false, and_true, true_and, and_false, false_and, reduceIte, ite_true, ite_false, eq_self] at *)) <;> omega), trivial⟩ rfl
      · have mh9 := nle_mx h9
        refine wa_aload_n (i := 0) rfl rfl ?_
        refine wa_Vv (d9 := d - 1) [] [] (sp_X12_layBasis G (d := d - 1) (by omega) s6  (by rw [khi8_0]; first | assumption | exact Or.inl rfl | exact Or.inr rfl | (((try simp only [vp_in_iff, Int32.lt_iff_toInt_lt, Int32.le_iff_toInt_le, ← Int32.toInt_inj, Int32.reduceToInt, n_1, n_2, n_8, Int32.toNatClampNeg, Int64.lt_iff_toInt_lt, Int64.le_iff_toInt_le, ← Int64.toInt_inj, Int64.reduceToInt, Int32.toInt_toInt64, lg_cmp_ge, lg_cmp_le, lg_cmp_gt, lg_cmp_lt, lg_cmp_eq, Bool.false_eq_true, Bool.true_eq_false, reduceCtorEq, false_iff, true_iff, iff_true, iff_false, and_true, true_and, and_false, false_and, reduceIte, ite_true, ite_false, eq_self] at *)) <;> omega))) (rfl) rfl rfl (zr (by omega)) mk_X12_layBasis ly_84 ml_12_1090 (Nat.le_of_ble_eq_true rfl) (fun s23 hs23 => ?_)
        obtain ⟨fs23, -⟩ := hs23
        have Fs23 : Fm [100, 101, 102] [164] σ s23 := Fm.tr Fs6 (Fm.wd fs23 rfl rfl)
        refine wa_iconst (v := 0) (by decide) ?_
        refine wa_istore_nD (lv' := [(2, .int 0), (0, .ref 84), (1, .int l1)]) (i := 2) rfl (by decide) rfl ?_
        refine wa_pick [1, 2, 0] rfl ?_
        have hi27 : ∀ (n9_28 : Nat) (l2 : Int32) (s25 : St), ((Fm [100, 101, 102] [164] σ s25) ∧ (gi s25 84 32 = gi σ 84 32) ∧ (gi s25 84 160 = gi σ 84 160) ∧ (gl s25 84 164 = x4) ∧ (0 ≤ l2.toInt) ∧ (True)) → (2147483647 - l2.toInt).toNat = n9_28 → WA G M_X12_solve (ZM G M_X12_solve d (fun r σ' => Fm [100, 101, 102] [164] σ σ' ∧ True)) B_X12_solve_28 [(0, .ref 84), (1, .int l1), (2, .int l2)] [] s25 := by
          intro n9_28
          induction n9_28 using Nat.strongRecOn with
          | _ n9_28 ih26 =>
            intro l2 s25 i9 m9_28
            obtain ⟨Fs25, khi27_0, khi27_1, khi27_2, jhi27_0, -⟩ := i9
            have ul2 := Int32.toInt_lt l2
            have wl2 := Int32.le_toInt l2
            refine wa_iload_n (i := 2) rfl rfl ?_
            refine wa_aload_n (i := 0) rfl rfl ?_
            refine wa_geti ck_12 fl_12_815 ly_84 ?_
            refine wa_rw (khi27_0) ?_
            refine wa_icmp_ge o_X12_solve_80 (by decide) (fun h28 => ?_) (fun h28 => ?_)
            · refine wa_aload_n (i := 0) rfl rfl ?_
              refine wa_getr ck_12 fl_12_406 ly_84 rf_84_165 ?_
              refine wa_iload_n (i := 1) rfl rfl ?_
              refine wa_aload_n (i := 0) rfl rfl ?_
              refine wa_Vl (d9 := d - 1) [] [.int l1, .ref 101] (sp_X12_determinant G (d := d - 1) (by omega) s25  (by rw [khi27_0]; first | assumption | exact Or.inl rfl | exact Or.inr rfl | (((try simp only [vp_in_iff, Int32.lt_iff_toInt_lt, Int32.le_iff_toInt_le, ← Int32.toInt_inj, Int32.reduceToInt, n_1, n_2, n_8, Int32.toNatClampNeg, Int64.lt_iff_toInt_lt, Int64.le_iff_toInt_le, ← Int64.toInt_inj, Int64.reduceToInt, Int32.toInt_toInt64, lg_cmp_ge, lg_cmp_le, lg_cmp_gt, lg_cmp_lt, lg_cmp_eq, Bool.false_eq_true, Bool.true_eq_false, reduceCtorEq, false_iff, true_iff, iff_true, iff_false, and_true, true_and, and_false, false_and, reduceIte, ite_true, ite_false, eq_self] at *)) <;> omega))) (rfl) rfl rfl (zr (by omega)) mk_X12_determinant ly_84 ml_12_1093 (Nat.le_of_ble_eq_true rfl) (fun x30 s29 hs29 => ?_)
              obtain ⟨zs29, -⟩ := pL hs29
              subst zs29
              refine wa_last ly_101 (by ((try simp only [vp_in_iff, Int32.lt_iff_toInt_lt, Int32.le_iff_toInt_le, ← Int32.toInt_inj, Int32.reduceToInt, n_1, n_2, n_8, Int32.toNatClampNeg, Int64.lt_iff_toInt_lt, Int64.le_iff_toInt_le, ← Int64.toInt_inj, Int64.reduceToInt, Int32.toInt_toInt64, lg_cmp_ge, lg_cmp_le, lg_cmp_gt, lg_cmp_lt, lg_cmp_eq, Bool.false_eq_true, Bool.true_eq_false, reduceCtorEq, false_iff, true_iff, iff_true, iff_false, and_true, true_and, and_false, false_and, reduceIte, ite_true, ite_false, eq_self] at *)) <;> omega) (fun s31 hs31 => ?_)
              have Fs31 : Fm [100, 101, 102] [164] σ s31 := by rw [hs31]; exact Fm.sl Fs25 rfl
              refine wa_aload_n (i := 0) rfl rfl ?_
              refine wa_Vv (d9 := d - 1) [] [] (sp_X12_layBasis G (d := d - 1) (by omega) s31  (by rw [(nx_gi_sl hs31).trans (khi27_0)]; first | assumption | exact Or.inl rfl | exact Or.inr rfl | (((try simp only [vp_in_iff, Int32.lt_iff_toInt_lt, Int32.le_iff_toInt_le, ← Int32.toInt_inj, Int32.reduceToInt, n_1, n_2, n_8, Int32.toNatClampNeg, Int64.lt_iff_toInt_lt, Int64.le_iff_toInt_le, ← Int64.toInt_inj, Int64.reduceToInt, Int32.toInt_toInt64, lg_cmp_ge, lg_cmp_le, lg_cmp_gt, lg_cmp_lt, lg_cmp_eq, Bool.false_eq_true, Bool.true_eq_false, reduceCtorEq, false_iff, true_iff, iff_true, iff_false, and_true, true_and, and_false, false_and, reduceIte, ite_true, ite_false, eq_self] at *)) <;> omega))) (rfl) rfl rfl (zr (by omega)) mk_X12_layBasis ly_84 ml_12_1090 (Nat.le_of_ble_eq_true rfl) (fun s32 hs32 => ?_)
              obtain ⟨fs32, -⟩ := hs32
              have Fs32 : Fm [100, 101, 102] [164] σ s32 := Fm.tr Fs31 (Fm.wd fs32 rfl rfl)
              refine wa_iconst (v := 0) (by decide) ?_
              refine wa_istore_nD (lv' := [(2, .int 0), (0, .ref 84), (1, .int l1)]) (i := 2) rfl (by decide) rfl ?_
              refine wa_pick [1, 2, 0] rfl ?_
              have hi36 : ∀ (n9_96 : Nat) (l2 : Int32) (s34 : St), ((Fm [100, 101, 102] [164] σ s34) ∧ (gi s34 84 32 = gi σ 84 32) ∧ (gi s34 84 160 = gi σ 84 160) ∧ (gl s34 84 164 = x4) ∧ (0 ≤ l2.toInt) ∧ (True)) → (2147483647 - l2.toInt).toNat = n9_96 → WA G M_X12_solve (ZM G M_X12_solve d (fun r σ' => Fm [100, 101, 102] [164] σ σ' ∧ True)) B_X12_solve_96 [(0, .ref 84), (1, .int l1), (2, .int l2)] [] s34 := by
                intro n9_96
                induction n9_96 using Nat.strongRecOn with
                | _ n9_96 ih35 =>
                  intro l2 s34 i9 m9_96
                  obtain ⟨Fs34, khi36_0, khi36_1, khi36_2, jhi36_0, -⟩ := i9
                  have ul2 := Int32.toInt_lt l2
                  have wl2 := Int32.le_toInt l2
                  refine wa_iload_n (i := 2) rfl rfl ?_
                  refine wa_aload_n (i := 0) rfl rfl ?_
                  refine wa_geti ck_12 fl_12_815 ly_84 ?_
                  refine wa_rw (khi36_0) ?_
                  refine wa_icmp_ge o_X12_solve_138 (by decide) (fun h37 => ?_) (fun h37 => ?_)
                  · refine wa_aload_n (i := 0) rfl rfl ?_
                    refine wa_getr ck_12 fl_12_409 ly_84 rf_84_166 ?_
                    refine wa_iload_n (i := 1) rfl rfl ?_
                    refine wa_aload_n (i := 0) rfl rfl ?_
                    refine wa_Vl (d9 := d - 1) [] [.int l1, .ref 100] (sp_X12_determinant G (d := d - 1) (by omega) s34  (by rw [khi36_0]; first | assumption | exact Or.inl rfl | exact Or.inr rfl | (((try simp only [vp_in_iff, Int32.lt_iff_toInt_lt, Int32.le_iff_toInt_le, ← Int32.toInt_inj, Int32.reduceToInt, n_1, n_2, n_8, Int32.toNatClampNeg, Int64.lt_iff_toInt_lt, Int64.le_iff_toInt_le, ← Int64.toInt_inj, Int64.reduceToInt, Int32.toInt_toInt64, lg_cmp_ge, lg_cmp_le, lg_cmp_gt, lg_cmp_lt, lg_cmp_eq, Bool.false_eq_true, Bool.true_eq_false, reduceCtorEq, false_iff, true_iff, iff_true, iff_false, and_true, true_and, and_false, false_and, reduceIte, ite_true, ite_false, eq_self] at *)) <;> omega))) (rfl) rfl rfl (zr (by omega)) mk_X12_determinant ly_84 ml_12_1093 (Nat.le_of_ble_eq_true rfl) (fun x39 s38 hs38 => ?_)
                    obtain ⟨zs38, -⟩ := pL hs38
                    subst zs38
                    refine wa_last ly_100 (by ((try simp only [vp_in_iff, Int32.lt_iff_toInt_lt, Int32.le_iff_toInt_le, ← Int32.toInt_inj, Int32.reduceToInt, n_1, n_2, n_8, Int32.toNatClampNeg, Int64.lt_iff_toInt_lt, Int64.le_iff_toInt_le, ← Int64.toInt_inj, Int64.reduceToInt, Int32.toInt_toInt64, lg_cmp_ge, lg_cmp_le, lg_cmp_gt, lg_cmp_lt, lg_cmp_eq, Bool.false_eq_true, Bool.true_eq_false, reduceCtorEq, false_iff, true_iff, iff_true, iff_false, and_true, true_and, and_false, false_and, reduceIte, ite_true, ite_false, eq_self] at *)) <;> omega) (fun s40 hs40 => ?_)
                    have Fs40 : Fm [100, 101, 102] [164] σ s40 := by rw [hs40]; exact Fm.sl Fs34 rfl
                    refine wa_iinc (v := (1)) (lv' := fun y41 => [(1, .int y41), (0, .ref 84), (2, .int l2)]) (by decide) rfl (by decide) (fun _ => rfl) (fun y41 hy41 => ?_)
                    have ty41 := i_addT hy41.symm
                    clear hy41
                    refine wa_goto o_X12_solve_14 (by decide) ?_
                    refine wa_pick [1, 0] rfl ?_
                    exact ih7 _ (by ((try simp only [vp_in_iff, Int32.lt_iff_toInt_lt, Int32.le_iff_toInt_le, ← Int32.toInt_inj, Int32.reduceToInt, n_1, n_2, n_8, Int32.toNatClampNeg, Int64.lt_iff_toInt_lt, Int64.le_iff_toInt_le, ← Int64.toInt_inj, Int64.reduceToInt, Int32.toInt_toInt64, lg_cmp_ge, lg_cmp_le, lg_cmp_gt, lg_cmp_lt, lg_cmp_eq, Bool.false_eq_true, Bool.true_eq_false, reduceCtorEq, false_iff, true_iff, iff_true, iff_false, and_true, true_and, and_false, false_and, reduceIte, ite_true, ite_false, eq_self] at *)) <;> omega) _ _ ⟨Fs40, ((nx_gi_sl hs40).trans (khi36_0)), ((nx_gi_sl hs40).trans (khi36_1)), ((nxq_gl_sl hs40 (by decide)).trans (khi36_2)), (by ((try simp only [vp_in_iff, Int32.lt_iff_toInt_lt, Int32.le_iff_toInt_le, ← Int32.toInt_inj, Int32.reduceToInt, n_1, n_2, n_8, Int32.toNatClampNeg, Int64.lt_iff_toInt_lt, Int64.le_iff_toInt_le, ← Int64.toInt_inj, Int64.reduceToInt, Int32.toInt_toInt64, lg_cmp_ge, lg_cmp_le, lg_cmp_gt, lg_cmp_lt, lg_cmp_eq, Bool.false_eq_true, Bool.true_eq_false, reduceCtorEq, false_iff, true_iff, iff_true, iff_false, and_true, true_and, and_false, false_and, reduceIte, ite_true, ite_false, eq_self] at *)) <;> omega), trivial⟩ rfl
                  · have mh37 := nle_mx h37
                    refine wa_aload_n (i := 0) rfl rfl ?_
                    refine wa_getr ck_12 fl_12_403 ly_84 rf_84_163 ?_
                    refine wa_iconst (v := 4) (by decide) ?_
                    refine wa_iload_n (i := 2) rfl rfl ?_
                    refine wa_imul ?_
                    refine wa_top (fun v42 hv42 => ?_)
                    have tv42 := i_mulT hv42
                    clear hv42
                    refine wa_iload_n (i := 1) rfl rfl ?_
                    refine wa_iadd ?_
                    refine wa_top (fun v43 hv43 => ?_)
                    have tv43 := i_addT hv43
                    clear hv43
                    refine wa_aload_n (i := 0) rfl rfl ?_
                    refine wa_getr ck_12 fl_12_400 ly_84 rf_84_162 ?_
                    refine wa_iload_n (i := 2) rfl rfl ?_
                    refine wa_iald ly_103 (by ((try simp only [vp_in_iff, Int32.lt_iff_toInt_lt, Int32.le_iff_toInt_le, ← Int32.toInt_inj, Int32.reduceToInt, n_1, n_2, n_8, Int32.toNatClampNeg, Int64.lt_iff_toInt_lt, Int64.le_iff_toInt_le, ← Int64.toInt_inj, Int64.reduceToInt, Int32.toInt_toInt64, lg_cmp_ge, lg_cmp_le, lg_cmp_gt, lg_cmp_lt, lg_cmp_eq, Bool.false_eq_true, Bool.true_eq_false, reduceCtorEq, false_iff, true_iff, iff_true, iff_false, and_true, true_and, and_false, false_and, reduceIte, ite_true, ite_false, eq_self] at *)) <;> omega) ?_
                    refine wa_aload_n (i := 0) rfl rfl ?_
                    refine wa_geti ck_12 fl_12_1067 ly_84 ?_
                    refine wa_rw (khi36_1) ?_
                    refine wa_icmp_ge o_X12_solve_130 (by decide) (fun h44 => ?_) (fun h44 => ?_)
                    · refine wa_lconst (v := 1) (by decide) ?_
                      refine wa_last ly_102 (by ((try simp only [vp_in_iff, Int32.lt_iff_toInt_lt, Int32.le_iff_toInt_le, ← Int32.toInt_inj, Int32.reduceToInt, n_1, n_2, n_8, Int32.toNatClampNeg, Int64.lt_iff_toInt_lt, Int64.le_iff_toInt_le, ← Int64.toInt_inj, Int64.reduceToInt, Int32.toInt_toInt64, lg_cmp_ge, lg_cmp_le, lg_cmp_gt, lg_cmp_lt, lg_cmp_eq, Bool.false_eq_true, Bool.true_eq_false, reduceCtorEq, false_iff, true_iff, iff_true, iff_false, and_true, true_and, and_false, false_and, reduceIte, ite_true, ite_false, eq_self] at *)) <;> omega) (fun s45 hs45 => ?_)
                      have Fs45 : Fm [100, 101, 102] [164] σ s45 := by rw [hs45]; exact Fm.sl Fs34 rfl
                      refine wa_iinc (v := (1)) (lv' := fun y46 => [(2, .int y46), (0, .ref 84), (1, .int l1)]) (by decide) rfl (by decide) (fun _ => rfl) (fun y46 hy46 => ?_)
                      have ty46 := i_addT hy46.symm
                      clear hy46
                      refine wa_goto o_X12_solve_96 (by decide) ?_
                      refine wa_pick [1, 2, 0] rfl ?_
                      exact ih35 _ (by ((try simp only [vp_in_iff, Int32.lt_iff_toInt_lt, Int32.le_iff_toInt_le, ← Int32.toInt_inj, Int32.reduceToInt, n_1, n_2, n_8, Int32.toNatClampNeg, Int64.lt_iff_toInt_lt, Int64.le_iff_toInt_le, ← Int64.toInt_inj, Int64.reduceToInt, Int32.toInt_toInt64, lg_cmp_ge, lg_cmp_le, lg_cmp_gt, lg_cmp_lt, lg_cmp_eq, Bool.false_eq_true, Bool.true_eq_false, reduceCtorEq, false_iff, true_iff, iff_true, iff_false, and_true, true_and, and_false, false_and, reduceIte, ite_true, ite_false, eq_self] at *)) <;> omega) _ _ ⟨Fs45, ((nx_gi_sl hs45).trans (khi36_0)), ((nx_gi_sl hs45).trans (khi36_1)), ((nxq_gl_sl hs45 (by decide)).trans (khi36_2)), (by ((try simp only [vp_in_iff, Int32.lt_iff_toInt_lt, Int32.le_iff_toInt_le, ← Int32.toInt_inj, Int32.reduceToInt, n_1, n_2, n_8, Int32.toNatClampNeg, Int64.lt_iff_toInt_lt, Int64.le_iff_toInt_le, ← Int64.toInt_inj, Int64.reduceToInt, Int32.toInt_toInt64, lg_cmp_ge, lg_cmp_le, lg_cmp_gt, lg_cmp_lt, lg_cmp_eq, Bool.false_eq_true, Bool.true_eq_false, reduceCtorEq, false_iff, true_iff, iff_true, iff_false, and_true, true_and, and_false, false_and, reduceIte, ite_true, ite_false, eq_self] at *)) <;> omega), trivial⟩ rfl
                    · have mh44 := nle_mx h44
                      refine wa_lconst (v := 0) (by decide) ?_
                      refine wa_goto o_X12_solve_131 (by decide) ?_
                      refine wa_last ly_102 (by ((try simp only [vp_in_iff, Int32.lt_iff_toInt_lt, Int32.le_iff_toInt_le, ← Int32.toInt_inj, Int32.reduceToInt, n_1, n_2, n_8, Int32.toNatClampNeg, Int64.lt_iff_toInt_lt, Int64.le_iff_toInt_le, ← Int64.toInt_inj, Int64.reduceToInt, Int32.toInt_toInt64, lg_cmp_ge, lg_cmp_le, lg_cmp_gt, lg_cmp_lt, lg_cmp_eq, Bool.false_eq_true, Bool.true_eq_false, reduceCtorEq, false_iff, true_iff, iff_true, iff_false, and_true, true_and, and_false, false_and, reduceIte, ite_true, ite_false, eq_self] at *)) <;> omega) (fun s47 hs47 => ?_)
                      have Fs47 : Fm [100, 101, 102] [164] σ s47 := by rw [hs47]; exact Fm.sl Fs34 rfl
                      refine wa_iinc (v := (1)) (lv' := fun y48 => [(2, .int y48), (0, .ref 84), (1, .int l1)]) (by decide) rfl (by decide) (fun _ => rfl) (fun y48 hy48 => ?_)
                      have ty48 := i_addT hy48.symm
                      clear hy48
                      refine wa_goto o_X12_solve_96 (by decide) ?_
                      refine wa_pick [1, 2, 0] rfl ?_
                      exact ih35 _ (by ((try simp only [vp_in_iff, Int32.lt_iff_toInt_lt, Int32.le_iff_toInt_le, ← Int32.toInt_inj, Int32.reduceToInt, n_1, n_2, n_8, Int32.toNatClampNeg, Int64.lt_iff_toInt_lt, Int64.le_iff_toInt_le, ← Int64.toInt_inj, Int64.reduceToInt, Int32.toInt_toInt64, lg_cmp_ge, lg_cmp_le, lg_cmp_gt, lg_cmp_lt, lg_cmp_eq, Bool.false_eq_true, Bool.true_eq_false, reduceCtorEq, false_iff, true_iff, iff_true, iff_false, and_true, true_and, and_false, false_and, reduceIte, ite_true, ite_false, eq_self] at *)) <;> omega) _ _ ⟨Fs47, ((nx_gi_sl hs47).trans (khi36_0)), ((nx_gi_sl hs47).trans (khi36_1)), ((nxq_gl_sl hs47 (by decide)).trans (khi36_2)), (by ((try simp only [vp_in_iff, Int32.lt_iff_toInt_lt, Int32.le_iff_toInt_le, ← Int32.toInt_inj, Int32.reduceToInt, n_1, n_2, n_8, Int32.toNatClampNeg, Int64.lt_iff_toInt_lt, Int64.le_iff_toInt_le, ← Int64.toInt_inj, Int64.reduceToInt, Int32.toInt_toInt64, lg_cmp_ge, lg_cmp_le, lg_cmp_gt, lg_cmp_lt, lg_cmp_eq, Bool.false_eq_true, Bool.true_eq_false, reduceCtorEq, false_iff, true_iff, iff_true, iff_false, and_true, true_and, and_false, false_and, reduceIte, ite_true, ite_false, eq_self] at *)) <;> omega), trivial⟩ rfl
              exact hi36 _ _ _ ⟨Fs32, ((Fm.gi fs32 (q := 84) (k := 32) rfl rfl).trans ((nx_gi_sl hs31).trans (khi27_0))), ((Fm.gi fs32 (q := 84) (k := 160) rfl rfl).trans ((nx_gi_sl hs31).trans (khi27_1))), ((Fm.gl fs32 (q := 84) (k := 164) rfl rfl).trans ((nxq_gl_sl hs31 (by decide)).trans (khi27_2))), (by ((try simp only [vp_in_iff, Int32.lt_iff_toInt_lt, Int32.le_iff_toInt_le, ← Int32.toInt_inj, Int32.reduceToInt, n_1, n_2, n_8, Int32.toNatClampNeg, Int64.lt_iff_toInt_lt, Int64.le_iff_toInt_le, ← Int64.toInt_inj, Int64.reduceToInt, Int32.toInt_toInt64, lg_cmp_ge, lg_cmp_le, lg_cmp_gt, lg_cmp_lt, lg_cmp_eq, Bool.false_eq_true, Bool.true_eq_false, reduceCtorEq, false_iff, true_iff, iff_true, iff_false, and_true, true_and, and_false, false_and, reduceIte, ite_true, ite_false, eq_self] at *)) <;> omega), trivial⟩ rfl
            · have mh28 := nle_mx h28
              refine wa_aload_n (i := 0) rfl rfl ?_
              refine wa_getr ck_12 fl_12_403 ly_84 rf_84_163 ?_
              refine wa_iconst (v := 4) (by decide) ?_
              refine wa_iload_n (i := 2) rfl rfl ?_
              refine wa_imul ?_
              refine wa_top (fun v49 hv49 => ?_)
              have tv49 := i_mulT hv49
              clear hv49
              refine wa_iload_n (i := 1) rfl rfl ?_
              refine wa_iadd ?_
              refine wa_top (fun v50 hv50 => ?_)
              have tv50 := i_addT hv50
              clear hv50
              refine wa_aload_n (i := 0) rfl rfl ?_
              refine wa_getr ck_12 fl_12_400 ly_84 rf_84_162 ?_
              refine wa_iload_n (i := 2) rfl rfl ?_
              refine wa_iald ly_103 (by ((try simp only [vp_in_iff, Int32.lt_iff_toInt_lt, Int32.le_iff_toInt_le, ← Int32.toInt_inj, Int32.reduceToInt, n_1, n_2, n_8, Int32.toNatClampNeg, Int64.lt_iff_toInt_lt, Int64.le_iff_toInt_le, ← Int64.toInt_inj, Int64.reduceToInt, Int32.toInt_toInt64, lg_cmp_ge, lg_cmp_le, lg_cmp_gt, lg_cmp_lt, lg_cmp_eq, Bool.false_eq_true, Bool.true_eq_false, reduceCtorEq, false_iff, true_iff, iff_true, iff_false, and_true, true_and, and_false, false_and, reduceIte, ite_true, ite_false, eq_self] at *)) <;> omega) ?_
              refine wa_aload_n (i := 0) rfl rfl ?_
              refine wa_geti ck_12 fl_12_1067 ly_84 ?_
              refine wa_rw (khi27_1) ?_
              refine wa_icmp_ge o_X12_solve_72 (by decide) (fun h51 => ?_) (fun h51 => ?_)
              · refine wa_lconst (v := 0) (by decide) ?_
                refine wa_last ly_102 (by ((try simp only [vp_in_iff, Int32.lt_iff_toInt_lt, Int32.le_iff_toInt_le, ← Int32.toInt_inj, Int32.reduceToInt, n_1, n_2, n_8, Int32.toNatClampNeg, Int64.lt_iff_toInt_lt, Int64.le_iff_toInt_le, ← Int64.toInt_inj, Int64.reduceToInt, Int32.toInt_toInt64, lg_cmp_ge, lg_cmp_le, lg_cmp_gt, lg_cmp_lt, lg_cmp_eq, Bool.false_eq_true, Bool.true_eq_false, reduceCtorEq, false_iff, true_iff, iff_true, iff_false, and_true, true_and, and_false, false_and, reduceIte, ite_true, ite_false, eq_self] at *)) <;> omega) (fun s52 hs52 => ?_)
                have Fs52 : Fm [100, 101, 102] [164] σ s52 := by rw [hs52]; exact Fm.sl Fs25 rfl
                refine wa_iinc (v := (1)) (lv' := fun y53 => [(2, .int y53), (0, .ref 84), (1, .int l1)]) (by decide) rfl (by decide) (fun _ => rfl) (fun y53 hy53 => ?_)
                have ty53 := i_addT hy53.symm
                clear hy53
                refine wa_goto o_X12_solve_28 (by decide) ?_
                refine wa_pick [1, 2, 0] rfl ?_
                exact ih26 _ (by ((try simp only [vp_in_iff, Int32.lt_iff_toInt_lt, Int32.le_iff_toInt_le, ← Int32.toInt_inj, Int32.reduceToInt, n_1, n_2, n_8, Int32.toNatClampNeg, Int64.lt_iff_toInt_lt, Int64.le_iff_toInt_le, ← Int64.toInt_inj, Int64.reduceToInt, Int32.toInt_toInt64, lg_cmp_ge, lg_cmp_le, lg_cmp_gt, lg_cmp_lt, lg_cmp_eq, Bool.false_eq_true, Bool.true_eq_false, reduceCtorEq, false_iff, true_iff, iff_true, iff_false, and_true, true_and, and_false, false_and, reduceIte, ite_true, ite_false, eq_self] at *)) <;> omega) _ _ ⟨Fs52, ((nx_gi_sl hs52).trans (khi27_0)), ((nx_gi_sl hs52).trans (khi27_1)), ((nxq_gl_sl hs52 (by decide)).trans (khi27_2)), (by ((try simp only [vp_in_iff, Int32.lt_iff_toInt_lt, Int32.le_iff_toInt_le, ← Int32.toInt_inj, Int32.reduceToInt, n_1, n_2, n_8, Int32.toNatClampNeg, Int64.lt_iff_toInt_lt, Int64.le_iff_toInt_le, ← Int64.toInt_inj, Int64.reduceToInt, Int32.toInt_toInt64, lg_cmp_ge, lg_cmp_le, lg_cmp_gt, lg_cmp_lt, lg_cmp_eq, Bool.false_eq_true, Bool.true_eq_false, reduceCtorEq, false_iff, true_iff, iff_true, iff_false, and_true, true_and, and_false, false_and, reduceIte, ite_true, ite_false, eq_self] at *)) <;> omega), trivial⟩ rfl
              · have mh51 := nle_mx h51
                refine wa_aload_n (i := 0) rfl rfl ?_
                refine wa_getr ck_12 fl_12_397 ly_84 rf_84_159 ?_
                refine wa_aload_n (i := 0) rfl rfl ?_
                refine wa_getr ck_12 fl_12_400 ly_84 rf_84_162 ?_
                refine wa_iload_n (i := 2) rfl rfl ?_
                refine wa_iald ly_103 (by ((try simp only [vp_in_iff, Int32.lt_iff_toInt_lt, Int32.le_iff_toInt_le, ← Int32.toInt_inj, Int32.reduceToInt, n_1, n_2, n_8, Int32.toNatClampNeg, Int64.lt_iff_toInt_lt, Int64.le_iff_toInt_le, ← Int64.toInt_inj, Int64.reduceToInt, Int32.toInt_toInt64, lg_cmp_ge, lg_cmp_le, lg_cmp_gt, lg_cmp_lt, lg_cmp_eq, Bool.false_eq_true, Bool.true_eq_false, reduceCtorEq, false_iff, true_iff, iff_true, iff_false, and_true, true_and, and_false, false_and, reduceIte, ite_true, ite_false, eq_self] at *)) <;> omega) ?_
                refine wa_lald ly_104 (by ((try simp only [vp_in_iff, Int32.lt_iff_toInt_lt, Int32.le_iff_toInt_le, ← Int32.toInt_inj, Int32.reduceToInt, n_1, n_2, n_8, Int32.toNatClampNeg, Int64.lt_iff_toInt_lt, Int64.le_iff_toInt_le, ← Int64.toInt_inj, Int64.reduceToInt, Int32.toInt_toInt64, lg_cmp_ge, lg_cmp_le, lg_cmp_gt, lg_cmp_lt, lg_cmp_eq, Bool.false_eq_true, Bool.true_eq_false, reduceCtorEq, false_iff, true_iff, iff_true, iff_false, and_true, true_and, and_false, false_and, reduceIte, ite_true, ite_false, eq_self] at *)) <;> omega) ?_
                refine wa_goto o_X12_solve_73 (by decide) ?_
                refine wa_last ly_102 (by ((try simp only [vp_in_iff, Int32.lt_iff_toInt_lt, Int32.le_iff_toInt_le, ← Int32.toInt_inj, Int32.reduceToInt, n_1, n_2, n_8, Int32.toNatClampNeg, Int64.lt_iff_toInt_lt, Int64.le_iff_toInt_le, ← Int64.toInt_inj, Int64.reduceToInt, Int32.toInt_toInt64, lg_cmp_ge, lg_cmp_le, lg_cmp_gt, lg_cmp_lt, lg_cmp_eq, Bool.false_eq_true, Bool.true_eq_false, reduceCtorEq, false_iff, true_iff, iff_true, iff_false, and_true, true_and, and_false, false_and, reduceIte, ite_true, ite_false, eq_self] at *)) <;> omega) (fun s54 hs54 => ?_)
                have Fs54 : Fm [100, 101, 102] [164] σ s54 := by rw [hs54]; exact Fm.sl Fs25 rfl
                refine wa_iinc (v := (1)) (lv' := fun y55 => [(2, .int y55), (0, .ref 84), (1, .int l1)]) (by decide) rfl (by decide) (fun _ => rfl) (fun y55 hy55 => ?_)
                have ty55 := i_addT hy55.symm
                clear hy55
                refine wa_goto o_X12_solve_28 (by decide) ?_
                refine wa_pick [1, 2, 0] rfl ?_
                exact ih26 _ (by ((try simp only [vp_in_iff, Int32.lt_iff_toInt_lt, Int32.le_iff_toInt_le, ← Int32.toInt_inj, Int32.reduceToInt, n_1, n_2, n_8, Int32.toNatClampNeg, Int64.lt_iff_toInt_lt, Int64.le_iff_toInt_le, ← Int64.toInt_inj, Int64.reduceToInt, Int32.toInt_toInt64, lg_cmp_ge, lg_cmp_le, lg_cmp_gt, lg_cmp_lt, lg_cmp_eq, Bool.false_eq_true, Bool.true_eq_false, reduceCtorEq, false_iff, true_iff, iff_true, iff_false, and_true, true_and, and_false, false_and, reduceIte, ite_true, ite_false, eq_self] at *)) <;> omega) _ _ ⟨Fs54, ((nx_gi_sl hs54).trans (khi27_0)), ((nx_gi_sl hs54).trans (khi27_1)), ((nxq_gl_sl hs54 (by decide)).trans (khi27_2)), (by ((try simp only [vp_in_iff, Int32.lt_iff_toInt_lt, Int32.le_iff_toInt_le, ← Int32.toInt_inj, Int32.reduceToInt, n_1, n_2, n_8, Int32.toNatClampNeg, Int64.lt_iff_toInt_lt, Int64.le_iff_toInt_le, ← Int64.toInt_inj, Int64.reduceToInt, Int32.toInt_toInt64, lg_cmp_ge, lg_cmp_le, lg_cmp_gt, lg_cmp_lt, lg_cmp_eq, Bool.false_eq_true, Bool.true_eq_false, reduceCtorEq, false_iff, true_iff, iff_true, iff_false, and_true, true_and, and_false, false_and, reduceIte, ite_true, ite_false, eq_self] at *)) <;> omega), trivial⟩ rfl
        exact hi27 _ _ _ ⟨Fs23, ((Fm.gi fs23 (q := 84) (k := 32) rfl rfl).trans (khi8_0)), ((Fm.gi fs23 (q := 84) (k := 160) rfl rfl).trans (khi8_1)), ((Fm.gl fs23 (q := 84) (k := 164) rfl rfl).trans (khi8_2)), (by ((try simp only [vp_in_iff, Int32.lt_iff_toInt_lt, Int32.le_iff_toInt_le, ← Int32.toInt_inj, Int32.reduceToInt, n_1, n_2, n_8, Int32.toNatClampNeg, Int64.lt_iff_toInt_lt, Int64.le_iff_toInt_le, ← Int64.toInt_inj, Int64.reduceToInt, Int32.toInt_toInt64, lg_cmp_ge, lg_cmp_le, lg_cmp_gt, lg_cmp_lt, lg_cmp_eq, Bool.false_eq_true, Bool.true_eq_false, reduceCtorEq, false_iff, true_iff, iff_true, iff_false, and_true, true_and, and_false, false_and, reduceIte, ite_true, ite_false, eq_self] at *)) <;> omega), trivial⟩ rfl
  exact hi8 _ _ _ ⟨Fs5, ((nx_gi_sl hs5).trans (Fm.gi fs1 (q := 84) (k := 32) rfl rfl)), ((nx_gi_sl hs5).trans (Fm.gi fs1 (q := 84) (k := 160) rfl rfl)), (nxe_gl_sl hs5), (by ((try simp only [vp_in_iff, Int32.lt_iff_toInt_lt, Int32.le_iff_toInt_le, ← Int32.toInt_inj, Int32.reduceToInt, n_1, n_2, n_8, Int32.toNatClampNeg, Int64.lt_iff_toInt_lt, Int64.le_iff_toInt_le, ← Int64.toInt_inj, Int64.reduceToInt, Int32.toInt_toInt64, lg_cmp_ge, lg_cmp_le, lg_cmp_gt, lg_cmp_lt, lg_cmp_eq, Bool.false_eq_true, Bool.true_eq_false, reduceCtorEq, false_iff, true_iff, iff_true, iff_false, and_true, true_and, and_false, false_and, reduceIte, ite_true, ite_false, eq_self] at *)) <;> omega), trivial⟩ rfl
set_option maxHeartbeats 4000000 in
theorem sp_X12_multiply (G : kG9) {d : Nat} (hd : 0 ≤ d) (σ : St) (a0 : Int64) (a1 : Int64) : Ct G M_X12_multiply d [.ref 84, .long a0, .long a1] σ (fun r σ' => Fm [] [167, 168] σ σ' ∧ True) := by
  refine wa_start (by decide) rfl (Nat.le_of_ble_eq_true rfl) (lv := [(0, .ref 84), (1, .long a0), (3, .long a1)]) rfl o_X12_multiply_0 rfl ?_
  refine wa_lload_n (i := 1) rfl rfl ?_
  refine wa_bipush (v := 32) (by decide) ?_
  refine wa_lshr ?_
  refine wa_topl (fun v1 hv1 => ?_)
  clear hv1
  refine wa_lstoreD (lv' := [(5, .long v1), (0, .ref 84), (1, .long a0), (3, .long a1)]) (by decide) rfl ?_
  refine wa_lload_n (i := 1) rfl rfl ?_
  refine wa_ldc2 (v := (4294967295)) (allW_in (kT_15 _ (List.mem_of_getElem? (i := 68) rfl)) rfl) ?_
  refine wa_land ?_
  refine wa_topl (fun v2 hv2 => ?_)
  clear hv2
  refine wa_lstoreD (lv' := [(7, .long v2), (5, .long v1), (0, .ref 84), (1, .long a0), (3, .long a1)]) (by decide) rfl ?_
  refine wa_lload_n (i := 3) rfl rfl ?_
  refine wa_bipush (v := 32) (by decide) ?_
  refine wa_lshr ?_
  refine wa_topl (fun v3 hv3 => ?_)
  clear hv3
  refine wa_lstoreD (lv' := [(9, .long v3), (7, .long v2), (5, .long v1), (0, .ref 84), (1, .long a0), (3, .long a1)]) (by decide) rfl ?_
  refine wa_lload_n (i := 3) rfl rfl ?_
  refine wa_ldc2 (v := (4294967295)) (allW_in (kT_15 _ (List.mem_of_getElem? (i := 68) rfl)) rfl) ?_
  refine wa_land ?_
  refine wa_topl (fun v4 hv4 => ?_)
  clear hv4
  refine wa_lstoreD (lv' := [(11, .long v4), (9, .long v3), (7, .long v2), (5, .long v1), (0, .ref 84), (1, .long a0), (3, .long a1)]) (by decide) rfl ?_
  refine wa_lload rfl ?_
  refine wa_lload rfl ?_
  refine wa_lmul ?_
  refine wa_topl (fun v5 hv5 => ?_)
  have tv5 := m_l_remU hv5
  clear hv5
  refine wa_lstoreD (lv' := [(13, .long v5), (11, .long v4), (9, .long v3), (7, .long v2), (5, .long v1), (0, .ref 84), (1, .long a0), (3, .long a1)]) (by decide) rfl ?_
  refine wa_lload rfl ?_
  refine wa_lload rfl ?_
  refine wa_lmul ?_
  refine wa_topl (fun v6 hv6 => ?_)
  have tv6 := m_l_remU hv6
  clear hv6
  refine wa_lload rfl ?_
  refine wa_bipush (v := 32) (by decide) ?_
  refine wa_lushr ?_
  refine wa_topl (fun v7 hv7 => ?_)
  clear hv7
  refine wa_ladd ?_
  refine wa_topl (fun v8 hv8 => ?_)
  have tv8 := a_l_remU hv8
  clear hv8
  refine wa_lstoreD (lv' := [(15, .long v8), (13, .long v5), (11, .long v4), (9, .long v3), (7, .long v2), (5, .long v1), (0, .ref 84), (1, .long a0), (3, .long a1)]) (by decide) rfl ?_
  refine wa_lload rfl ?_
  refine wa_lload rfl ?_
  refine wa_lmul ?_
  refine wa_topl (fun v9 hv9 => ?_)
  have tv9 := m_l_remU hv9
  clear hv9
  refine wa_lload rfl ?_
  refine wa_ldc2 (v := (4294967295)) (allW_in (kT_15 _ (List.mem_of_getElem? (i := 68) rfl)) rfl) ?_
  refine wa_land ?_
  refine wa_topl (fun v10 hv10 => ?_)
  clear hv10
  refine wa_ladd ?_
  refine wa_topl (fun v11 hv11 => ?_)
  have tv11 := a_l_remU hv11
  clear hv11
  refine wa_lstoreD (lv' := [(17, .long v11), (15, .long v8), (13, .long v5), (11, .long v4), (9, .long v3), (7, .long v2), (5, .long v1), (0, .ref 84), (1, .long a0), (3, .long a1)]) (by decide) rfl ?_
  refine wa_aload_n (i := 0) rfl rfl ?_
  refine wa_lload rfl ?_
  refine wa_lload rfl ?_
  refine wa_lmul ?_
  refine wa_topl (fun v12 hv12 => ?_)
  have tv12 := m_l_remU hv12
  clear hv12
  refine wa_lload rfl ?_
  refine wa_bipush (v := 32) (by decide) ?_
  refine wa_lshr ?_
  refine wa_topl (fun v13 hv13 => ?_)
  clear hv13
  refine wa_ladd ?_
  refine wa_topl (fun v14 hv14 => ?_)
  have tv14 := a_l_remU hv14
  clear hv14
  refine wa_lload rfl ?_
  refine wa_bipush (v := 32) (by decide) ?_
  refine wa_lshr ?_
  refine wa_topl (fun v15 hv15 => ?_)
  clear hv15
  refine wa_ladd ?_
  refine wa_topl (fun v16 hv16 => ?_)
  have tv16 := a_l_remU hv16
  clear hv16
  refine wa_putl ck_12 fl_12_1102 ly_84 (fun s17 hs17 => ?_)
  have Fs17 : Fm [] [167, 168] σ s17 := by rw [hs17]; exact Fm.sl (Fm.rf [] [167, 168] σ) rfl
  refine wa_aload_n (i := 0) rfl rfl ?_
  refine wa_lload_n (i := 1) rfl rfl ?_
  refine wa_lload_n (i := 3) rfl rfl ?_
  refine wa_lmul ?_
  refine wa_topl (fun v18 hv18 => ?_)
  have tv18 := m_l_remU hv18
  clear hv18
  refine wa_putl ck_12 fl_12_1105 ly_84 (fun s19 hs19 => ?_)
  have Fs19 : Fm [] [167, 168] σ s19 := by rw [hs19]; exact Fm.sl Fs17 rfl
  refine wa_return (st := []) rfl rfl ?_
  exact ⟨Fs19, trivial⟩
set_option maxHeartbeats 4000000 in
theorem sp_X12_compare (G : kG9) {d : Nat} (hd : 1 ≤ d) (σ : St) (a0 : Int64) (a1 : Int64) (a2 : Int64) (a3 : Int64) : Ct G M_X12_compare d [.ref 84, .long a0, .long a1, .long a2, .long a3] σ (fun r σ' => ∃ x : Int32, r = some (.int x) ∧ Fm [] [167, 168] σ σ' ∧ True) := by
  refine wa_start (by decide) rfl (Nat.le_of_ble_eq_true rfl) (lv := [(0, .ref 84), (1, .long a0), (3, .long a1), (5, .long a2), (7, .long a3)]) rfl o_X12_compare_0 rfl ?_
  refine wa_aload_n (i := 0) rfl rfl ?_
  refine wa_lload_n (i := 1) rfl rfl ?_
  refine wa_lload_n (i := 3) rfl rfl ?_
  refine wa_Vv (d9 := d - 1) [.long _, .long _] [] (sp_X12_multiply G (d := d - 1) (by omega) σ _ _) (rfl) rfl rfl (zr (by omega)) mk_X12_multiply ly_84 ml_12_1108 (Nat.le_of_ble_eq_true rfl) (fun s1 hs1 => ?_)
  obtain ⟨fs1, -⟩ := hs1
  have Fs1 : Fm [] [167, 168] σ s1 := Fm.tr (Fm.rf [] [167, 168] σ) (Fm.wd fs1 rfl rfl)
  refine wa_aload_n (i := 0) rfl rfl ?_
  refine wa_getl ck_12 fl_12_1102 ly_84 ?_
  refine wa_lstoreD (lv' := [(9, .long (gl s1 84 167)), (0, .ref 84), (1, .long a0), (3, .long a1), (5, .long a2), (7, .long a3)]) (by decide) rfl ?_
  refine wa_aload_n (i := 0) rfl rfl ?_
  refine wa_getl ck_12 fl_12_1105 ly_84 ?_
  refine wa_lstoreD (lv' := [(11, .long (gl s1 84 168)), (9, .long (gl s1 84 167)), (0, .ref 84), (1, .long a0), (3, .long a1), (5, .long a2), (7, .long a3)]) (by decide) rfl ?_
  refine wa_aload_n (i := 0) rfl rfl ?_
  refine wa_lload rfl ?_
  refine wa_lload rfl ?_
  refine wa_Vv (d9 := d - 1) [.long _, .long _] [] (sp_X12_multiply G (d := d - 1) (by omega) s1 _ _) (rfl) rfl rfl (zr (by omega)) mk_X12_multiply ly_84 ml_12_1108 (Nat.le_of_ble_eq_true rfl) (fun s3 hs3 => ?_)
  obtain ⟨fs3, -⟩ := hs3
  have Fs3 : Fm [] [167, 168] σ s3 := Fm.tr Fs1 (Fm.wd fs3 rfl rfl)
  refine wa_lload rfl ?_
  refine wa_aload_n (i := 0) rfl rfl ?_
  refine wa_getl ck_12 fl_12_1102 ly_84 ?_
  refine wa_lcmp ?_
  refine wa_top (fun v5 hv5 => ?_)
  have tv5 := i_cmpT hv5
  clear hv5
  refine wa_if_eq o_X12_compare_52 (by decide) (fun h6 => ?_) (fun h6 => ?_)
  · refine wa_lload rfl ?_
    refine wa_aload_n (i := 0) rfl rfl ?_
    refine wa_getl ck_12 fl_12_1105 ly_84 ?_
    refine wa_lcmp ?_
    refine wa_top (fun v7 hv7 => ?_)
    have tv7 := i_cmpT hv7
    clear hv7
    refine wa_if_ne o_X12_compare_66 (by decide) (fun h8 => ?_) (fun h8 => ?_)
    · refine wa_lload rfl ?_
      refine wa_ldc2 (v := (-9223372036854775808)) (allW_in (kT_14 _ (List.mem_of_getElem? (i := 167) rfl)) rfl) ?_
      refine wa_lxor ?_
      refine wa_topl (fun v9 hv9 => ?_)
      clear hv9
      refine wa_aload_n (i := 0) rfl rfl ?_
      refine wa_getl ck_12 fl_12_1105 ly_84 ?_
      refine wa_ldc2 (v := (-9223372036854775808)) (allW_in (kT_14 _ (List.mem_of_getElem? (i := 167) rfl)) rfl) ?_
      refine wa_lxor ?_
      refine wa_topl (fun v10 hv10 => ?_)
      clear hv10
      refine wa_lcmp ?_
      refine wa_top (fun v11 hv11 => ?_)
      have tv11 := i_cmpT hv11
      clear hv11
      refine wa_if_ge o_X12_compare_88 (by decide) (fun h12 => ?_) (fun h12 => ?_)
      · refine wa_iconst (v := 1) (by decide) ?_
        refine wa_ireturn rfl rfl ?_
        exact ⟨_, rfl, Fs3, trivial⟩
      · refine wa_iconst (v := (-1)) (by decide) ?_
        refine wa_goto o_X12_compare_89 (by decide) ?_
        refine wa_ireturn rfl rfl ?_
        exact ⟨_, rfl, Fs3, trivial⟩
    · refine wa_iconst (v := 0) (by decide) ?_
      refine wa_goto o_X12_compare_89 (by decide) ?_
      refine wa_ireturn rfl rfl ?_
      exact ⟨_, rfl, Fs3, trivial⟩
  · refine wa_lload rfl ?_
    refine wa_aload_n (i := 0) rfl rfl ?_
    refine wa_getl ck_12 fl_12_1102 ly_84 ?_
    refine wa_lcmp ?_
    refine wa_top (fun v13 hv13 => ?_)
    have tv13 := i_cmpT hv13
    clear hv13
    refine wa_if_ge o_X12_compare_50 (by decide) (fun h14 => ?_) (fun h14 => ?_)
    · refine wa_iconst (v := 1) (by decide) ?_
      refine wa_ireturn rfl rfl ?_
      exact ⟨_, rfl, Fs3, trivial⟩
    · refine wa_iconst (v := (-1)) (by decide) ?_
      refine wa_goto o_X12_compare_51 (by decide) ?_
      refine wa_ireturn rfl rfl ?_
      exact ⟨_, rfl, Fs3, trivial⟩
set_option maxHeartbeats 4000000 in
theorem sp_X12_compareRow (G : kG9) {d : Nat} (hd : 1 ≤ d) (σ : St) (a0 : Int32) (a1 : Bool) (a2 : Int64) (r1 : 0 ≤ (gi σ 84 32).toInt ∧ (gi σ 84 32).toInt ≤ 4) : Ct G M_X12_compareRow d [.ref 84, .int a0, .int (bI a1), .long a2] σ (fun r σ' => ∃ x : Int32, r = some (.int x) ∧ σ = σ' ∧ True) := by
  refine wa_start (by decide) rfl (Nat.le_of_ble_eq_true rfl) (lv := [(0, .ref 84), (1, .int a0), (2, .int (bI a1)), (3, .long a2)]) rfl o_X12_compareRow_0 rfl ?_
  have ua0 := Int32.toInt_lt a0
  have wa0 := Int32.le_toInt a0
  refine wa_lconst (v := 0) (by decide) ?_
  refine wa_lstoreD (lv' := [(5, .long 0), (0, .ref 84), (1, .int a0), (2, .int (bI a1)), (3, .long a2)]) (by decide) rfl ?_
  refine wa_lconst (v := 0) (by decide) ?_
  refine wa_lstoreD (lv' := [(7, .long 0), (5, .long 0), (0, .ref 84), (1, .int a0), (2, .int (bI a1)), (3, .long a2)]) (by decide) rfl ?_
  refine wa_iconst (v := 0) (by decide) ?_
  refine wa_istoreD (lv' := [(9, .int 0), (7, .long 0), (5, .long 0), (0, .ref 84), (1, .int a0), (2, .int (bI a1)), (3, .long a2)]) (by decide) rfl ?_
  refine wa_pick [3, 4, 5, 6, 2, 1, 0] rfl ?_
  have hi2 : ∀ (n9_9 : Nat) (l5 : Int64) (l7 : Int64) (l9 : Int32), ((0 ≤ l9.toInt) ∧ (True)) → (2147483647 - l9.toInt).toNat = n9_9 → WA G M_X12_compareRow (ZM G M_X12_compareRow d (fun r σ' => ∃ x : Int32, r = some (.int x) ∧ σ = σ' ∧ True)) B_X12_compareRow_9 [(0, .ref 84), (1, .int a0), (2, .int (bI a1)), (3, .long a2), (5, .long l5), (7, .long l7), (9, .int l9)] [] σ := by
    intro n9_9
    induction n9_9 using Nat.strongRecOn with
    | _ n9_9 ih1 =>
      intro l5 l7 l9  i9 m9_9
      obtain ⟨jhi2_0, -⟩ := i9
      have ul9 := Int32.toInt_lt l9
      have wl9 := Int32.le_toInt l9
      refine wa_iload rfl ?_
      refine wa_aload_n (i := 0) rfl rfl ?_
      refine wa_geti ck_12 fl_12_815 ly_84 ?_
      refine wa_icmp_ge o_X12_compareRow_84 (by decide) (fun h3 => ?_) (fun h3 => ?_)
      · refine wa_lload rfl ?_
        refine wa_lload_n (i := 3) rfl rfl ?_
        refine wa_aload_n (i := 0) rfl rfl ?_
        refine wa_getl ck_12 fl_12_1097 ly_84 ?_
        refine wa_bipush (v := 32) (by decide) ?_
        refine wa_lshr ?_
        refine wa_topl (fun v4 hv4 => ?_)
        clear hv4
        refine wa_lmul ?_
        refine wa_topl (fun v5 hv5 => ?_)
        have tv5 := m_l_remU hv5
        clear hv5
        refine wa_lsub ?_
        refine wa_topl (fun v6 hv6 => ?_)
        have tv6 := s_l_remU hv6
        clear hv6
        refine wa_lstoreD (lv' := [(5, .long v6), (0, .ref 84), (1, .int a0), (2, .int (bI a1)), (3, .long a2), (7, .long l7), (9, .int l9)]) (by decide) rfl ?_
        refine wa_lload rfl ?_
        refine wa_lload_n (i := 3) rfl rfl ?_
        refine wa_aload_n (i := 0) rfl rfl ?_
        refine wa_getl ck_12 fl_12_1097 ly_84 ?_
        refine wa_ldc2 (v := (4294967295)) (allW_in (kT_15 _ (List.mem_of_getElem? (i := 68) rfl)) rfl) ?_
        refine wa_land ?_
        refine wa_topl (fun v7 hv7 => ?_)
        clear hv7
        refine wa_lmul ?_
        refine wa_topl (fun v8 hv8 => ?_)
        have tv8 := m_l_remU hv8
        clear hv8
        refine wa_lsub ?_
        refine wa_topl (fun v9 hv9 => ?_)
        have tv9 := s_l_remU hv9
        clear hv9
        refine wa_lstoreD (lv' := [(7, .long v9), (5, .long v6), (0, .ref 84), (1, .int a0), (2, .int (bI a1)), (3, .long a2), (9, .int l9)]) (by decide) rfl ?_
        refine wa_lload rfl ?_
        refine wa_lload rfl ?_
        refine wa_bipush (v := 32) (by decide) ?_
        refine wa_lshr ?_
        refine wa_topl (fun v10 hv10 => ?_)
        clear hv10
        refine wa_ladd ?_
        refine wa_topl (fun v11 hv11 => ?_)
        have tv11 := a_l_remU hv11
        clear hv11
        refine wa_lstoreD (lv' := [(5, .long v11), (7, .long v9), (0, .ref 84), (1, .int a0), (2, .int (bI a1)), (3, .long a2), (9, .int l9)]) (by decide) rfl ?_
        refine wa_lload rfl ?_
        refine wa_ldc2 (v := (4294967295)) (allW_in (kT_15 _ (List.mem_of_getElem? (i := 68) rfl)) rfl) ?_
        refine wa_land ?_
        refine wa_topl (fun v12 hv12 => ?_)
        clear hv12
        refine wa_lstoreD (lv' := [(9, .long v12), (5, .long v11), (7, .long v9), (0, .ref 84), (1, .int a0), (2, .int (bI a1)), (3, .long a2)]) (by decide) rfl ?_
        refine wa_lload rfl ?_
        refine wa_lconst (v := 0) (by decide) ?_
        refine wa_lcmp ?_
        refine wa_top (fun v13 hv13 => ?_)
        have tv13 := i_cmpT hv13
        clear hv13
        refine wa_if_ge o_X12_compareRow_142 (by decide) (fun h14 => ?_) (fun h14 => ?_)
        · refine wa_lload rfl ?_
          refine wa_lconst (v := 0) (by decide) ?_
          refine wa_lcmp ?_
          refine wa_top (fun v15 hv15 => ?_)
          have tv15 := i_cmpT hv15
          clear hv15
          refine wa_if_gt o_X12_compareRow_156 (by decide) (fun h16 => ?_) (fun h16 => ?_)
          · refine wa_iconst (v := 1) (by decide) ?_
            refine wa_goto o_X12_compareRow_161 (by decide) ?_
            refine wa_ireturn rfl rfl ?_
            exact ⟨_, rfl, rfl, trivial⟩
          · refine wa_lload rfl ?_
            refine wa_lconst (v := 0) (by decide) ?_
            refine wa_lcmp ?_
            refine wa_top (fun v17 hv17 => ?_)
            have tv17 := i_cmpT hv17
            clear hv17
            refine wa_if_le o_X12_compareRow_160 (by decide) (fun h18 => ?_) (fun h18 => ?_)
            · refine wa_iconst (v := 0) (by decide) ?_
              refine wa_ireturn rfl rfl ?_
              exact ⟨_, rfl, rfl, trivial⟩
            · refine wa_iconst (v := 1) (by decide) ?_
              refine wa_goto o_X12_compareRow_161 (by decide) ?_
              refine wa_ireturn rfl rfl ?_
              exact ⟨_, rfl, rfl, trivial⟩
        · refine wa_iconst (v := (-1)) (by decide) ?_
          refine wa_goto o_X12_compareRow_161 (by decide) ?_
          refine wa_ireturn rfl rfl ?_
          exact ⟨_, rfl, rfl, trivial⟩
      · have mh3 := nle_mx h3
        refine wa_iload_n (i := 2) rfl rfl ?_
        refine wa_if_eq o_X12_compareRow_32 (by decide) (fun h19 => ?_) (fun h19 => ?_)
        · replace h19 := bI_f (b := a1) (rfl) h19
          refine wa_aload_n (i := 0) rfl rfl ?_
          refine wa_getr ck_12 fl_12_406 ly_84 rf_84_165 ?_
          refine wa_iload rfl ?_
          refine wa_lald ly_101 (by ((try simp only [vp_in_iff, Int32.lt_iff_toInt_lt, Int32.le_iff_toInt_le, ← Int32.toInt_inj, Int32.reduceToInt, n_1, n_2, n_8, Int32.toNatClampNeg, Int64.lt_iff_toInt_lt, Int64.le_iff_toInt_le, ← Int64.toInt_inj, Int64.reduceToInt, Int32.toInt_toInt64, lg_cmp_ge, lg_cmp_le, lg_cmp_gt, lg_cmp_lt, lg_cmp_eq, Bool.false_eq_true, Bool.true_eq_false, reduceCtorEq, false_iff, true_iff, iff_true, iff_false, and_true, true_and, and_false, false_and, reduceIte, ite_true, ite_false, eq_self] at *)) <;> omega) ?_
          refine wa_lstoreD (lv' := [(10, .long (gl σ 101 (l9).toNatClampNeg)), (0, .ref 84), (1, .int a0), (2, .int (bI a1)), (3, .long a2), (5, .long l5), (7, .long l7), (9, .int l9)]) (by decide) rfl ?_
          refine wa_lload rfl ?_
          refine wa_aload_n (i := 0) rfl rfl ?_
          refine wa_iload_n (i := 1) rfl rfl ?_
          refine wa_iload rfl ?_
          refine wa_Vl (d9 := d - 1) [.int _, .int _] [.long l5] (sp_X12_factor G (d := d - 1) (by omega) σ _ _) (rfl) rfl rfl (zr (by omega)) mk_X12_factor ly_84 ml_12_1087 (Nat.le_of_ble_eq_true rfl) (fun x21 s20 hs20 => ?_)
          obtain ⟨zs20, -⟩ := pL hs20
          subst zs20
          refine wa_lload rfl ?_
          refine wa_bipush (v := 32) (by decide) ?_
          refine wa_lshr ?_
          refine wa_topl (fun v22 hv22 => ?_)
          clear hv22
          refine wa_lmul ?_
          refine wa_topl (fun v23 hv23 => ?_)
          have tv23 := m_l_remU hv23
          clear hv23
          refine wa_ladd ?_
          refine wa_topl (fun v24 hv24 => ?_)
          have tv24 := a_l_remU hv24
          clear hv24
          refine wa_lstoreD (lv' := [(5, .long v24), (10, .long (gl σ 101 (l9).toNatClampNeg)), (0, .ref 84), (1, .int a0), (2, .int (bI a1)), (3, .long a2), (7, .long l7), (9, .int l9)]) (by decide) rfl ?_
          refine wa_lload rfl ?_
          refine wa_aload_n (i := 0) rfl rfl ?_
          refine wa_iload_n (i := 1) rfl rfl ?_
          refine wa_iload rfl ?_
          refine wa_Vl (d9 := d - 1) [.int _, .int _] [.long l7] (sp_X12_factor G (d := d - 1) (by omega) σ _ _) (rfl) rfl rfl (zr (by omega)) mk_X12_factor ly_84 ml_12_1087 (Nat.le_of_ble_eq_true rfl) (fun x26 s25 hs25 => ?_)
          obtain ⟨zs25, -⟩ := pL hs25
          subst zs25
          refine wa_lload rfl ?_
          refine wa_ldc2 (v := (4294967295)) (allW_in (kT_15 _ (List.mem_of_getElem? (i := 68) rfl)) rfl) ?_
          refine wa_land ?_
          refine wa_topl (fun v27 hv27 => ?_)
          clear hv27
          refine wa_lmul ?_
          refine wa_topl (fun v28 hv28 => ?_)
          have tv28 := m_l_remU hv28
          clear hv28
          refine wa_ladd ?_
          refine wa_topl (fun v29 hv29 => ?_)
          have tv29 := a_l_remU hv29
          clear hv29
          refine wa_lstoreD (lv' := [(7, .long v29), (5, .long v24), (10, .long (gl σ 101 (l9).toNatClampNeg)), (0, .ref 84), (1, .int a0), (2, .int (bI a1)), (3, .long a2), (9, .int l9)]) (by decide) rfl ?_
          refine wa_iinc (v := (1)) (lv' := fun y30 => [(9, .int y30), (7, .long v29), (5, .long v24), (10, .long (gl σ 101 (l9).toNatClampNeg)), (0, .ref 84), (1, .int a0), (2, .int (bI a1)), (3, .long a2)]) (by decide) rfl (by decide) (fun _ => rfl) (fun y30 hy30 => ?_)
          have ty30 := i_addT hy30.symm
          clear hy30
          refine wa_goto o_X12_compareRow_9 (by decide) ?_
          refine wa_pick [4, 5, 6, 7, 2, 1, 0] rfl ?_
          exact ih1 _ (by ((try simp only [vp_in_iff, Int32.lt_iff_toInt_lt, Int32.le_iff_toInt_le, ← Int32.toInt_inj, Int32.reduceToInt, n_1, n_2, n_8, Int32.toNatClampNeg, Int64.lt_iff_toInt_lt, Int64.le_iff_toInt_le, ← Int64.toInt_inj, Int64.reduceToInt, Int32.toInt_toInt64, lg_cmp_ge, lg_cmp_le, lg_cmp_gt, lg_cmp_lt, lg_cmp_eq, Bool.false_eq_true, Bool.true_eq_false, reduceCtorEq, false_iff, true_iff, iff_true, iff_false, and_true, true_and, and_false, false_and, reduceIte, ite_true, ite_false, eq_self] at *)) <;> omega) _ _ _ ⟨(by ((try simp only [vp_in_iff, Int32.lt_iff_toInt_lt, Int32.le_iff_toInt_le, ← Int32.toInt_inj, Int32.reduceToInt, n_1, n_2, n_8, Int32.toNatClampNeg, Int64.lt_iff_toInt_lt, Int64.le_iff_toInt_le, ← Int64.toInt_inj, Int64.reduceToInt, Int32.toInt_toInt64, lg_cmp_ge, lg_cmp_le, lg_cmp_gt, lg_cmp_lt, lg_cmp_eq, Bool.false_eq_true, Bool.true_eq_false, reduceCtorEq, false_iff, true_iff, iff_true, iff_false, and_true, true_and, and_false, false_and, reduceIte, ite_true, ite_false, eq_self] at *)) <;> omega), trivial⟩ rfl
        · replace h19 := bI_t (b := a1) (rfl) h19
          refine wa_aload_n (i := 0) rfl rfl ?_
          refine wa_getr ck_12 fl_12_409 ly_84 rf_84_166 ?_
          refine wa_iload rfl ?_
          refine wa_lald ly_100 (by ((try simp only [vp_in_iff, Int32.lt_iff_toInt_lt, Int32.le_iff_toInt_le, ← Int32.toInt_inj, Int32.reduceToInt, n_1, n_2, n_8, Int32.toNatClampNeg, Int64.lt_iff_toInt_lt, Int64.le_iff_toInt_le, ← Int64.toInt_inj, Int64.reduceToInt, Int32.toInt_toInt64, lg_cmp_ge, lg_cmp_le, lg_cmp_gt, lg_cmp_lt, lg_cmp_eq, Bool.false_eq_true, Bool.true_eq_false, reduceCtorEq, false_iff, true_iff, iff_true, iff_false, and_true, true_and, and_false, false_and, reduceIte, ite_true, ite_false, eq_self] at *)) <;> omega) ?_
          refine wa_goto o_X12_compareRow_39 (by decide) ?_
          refine wa_lstoreD (lv' := [(10, .long (gl σ 100 (l9).toNatClampNeg)), (0, .ref 84), (1, .int a0), (2, .int (bI a1)), (3, .long a2), (5, .long l5), (7, .long l7), (9, .int l9)]) (by decide) rfl ?_
          refine wa_lload rfl ?_
          refine wa_aload_n (i := 0) rfl rfl ?_
          refine wa_iload_n (i := 1) rfl rfl ?_
          refine wa_iload rfl ?_
          refine wa_Vl (d9 := d - 1) [.int _, .int _] [.long l5] (sp_X12_factor G (d := d - 1) (by omega) σ _ _) (rfl) rfl rfl (zr (by omega)) mk_X12_factor ly_84 ml_12_1087 (Nat.le_of_ble_eq_true rfl) (fun x32 s31 hs31 => ?_)
          obtain ⟨zs31, -⟩ := pL hs31
          subst zs31
          refine wa_lload rfl ?_
          refine wa_bipush (v := 32) (by decide) ?_
          refine wa_lshr ?_
          refine wa_topl (fun v33 hv33 => ?_)
          clear hv33
          refine wa_lmul ?_
          refine wa_topl (fun v34 hv34 => ?_)
          have tv34 := m_l_remU hv34
          clear hv34
          refine wa_ladd ?_
          refine wa_topl (fun v35 hv35 => ?_)
          have tv35 := a_l_remU hv35
          clear hv35
          refine wa_lstoreD (lv' := [(5, .long v35), (10, .long (gl σ 100 (l9).toNatClampNeg)), (0, .ref 84), (1, .int a0), (2, .int (bI a1)), (3, .long a2), (7, .long l7), (9, .int l9)]) (by decide) rfl ?_
          refine wa_lload rfl ?_
          refine wa_aload_n (i := 0) rfl rfl ?_
          refine wa_iload_n (i := 1) rfl rfl ?_
          refine wa_iload rfl ?_
          refine wa_Vl (d9 := d - 1) [.int _, .int _] [.long l7] (sp_X12_factor G (d := d - 1) (by omega) σ _ _) (rfl) rfl rfl (zr (by omega)) mk_X12_factor ly_84 ml_12_1087 (Nat.le_of_ble_eq_true rfl) (fun x37 s36 hs36 => ?_)
          obtain ⟨zs36, -⟩ := pL hs36
          subst zs36
          refine wa_lload rfl ?_
          refine wa_ldc2 (v := (4294967295)) (allW_in (kT_15 _ (List.mem_of_getElem? (i := 68) rfl)) rfl) ?_
          refine wa_land ?_
          refine wa_topl (fun v38 hv38 => ?_)
          clear hv38
          refine wa_lmul ?_
          refine wa_topl (fun v39 hv39 => ?_)
          have tv39 := m_l_remU hv39
          clear hv39
          refine wa_ladd ?_
          refine wa_topl (fun v40 hv40 => ?_)
          have tv40 := a_l_remU hv40
          clear hv40
          refine wa_lstoreD (lv' := [(7, .long v40), (5, .long v35), (10, .long (gl σ 100 (l9).toNatClampNeg)), (0, .ref 84), (1, .int a0), (2, .int (bI a1)), (3, .long a2), (9, .int l9)]) (by decide) rfl ?_
          refine wa_iinc (v := (1)) (lv' := fun y41 => [(9, .int y41), (7, .long v40), (5, .long v35), (10, .long (gl σ 100 (l9).toNatClampNeg)), (0, .ref 84), (1, .int a0), (2, .int (bI a1)), (3, .long a2)]) (by decide) rfl (by decide) (fun _ => rfl) (fun y41 hy41 => ?_)
          have ty41 := i_addT hy41.symm
          clear hy41
          refine wa_goto o_X12_compareRow_9 (by decide) ?_
          refine wa_pick [4, 5, 6, 7, 2, 1, 0] rfl ?_
          exact ih1 _ (by ((try simp only [vp_in_iff, Int32.lt_iff_toInt_lt, Int32.le_iff_toInt_le, ← Int32.toInt_inj, Int32.reduceToInt, n_1, n_2, n_8, Int32.toNatClampNeg, Int64.lt_iff_toInt_lt, Int64.le_iff_toInt_le, ← Int64.toInt_inj, Int64.reduceToInt, Int32.toInt_toInt64, lg_cmp_ge, lg_cmp_le, lg_cmp_gt, lg_cmp_lt, lg_cmp_eq, Bool.false_eq_true, Bool.true_eq_false, reduceCtorEq, false_iff, true_iff, iff_true, iff_false, and_true, true_and, and_false, false_and, reduceIte, ite_true, ite_false, eq_self] at *)) <;> omega) _ _ _ ⟨(by ((try simp only [vp_in_iff, Int32.lt_iff_toInt_lt, Int32.le_iff_toInt_le, ← Int32.toInt_inj, Int32.reduceToInt, n_1, n_2, n_8, Int32.toNatClampNeg, Int64.lt_iff_toInt_lt, Int64.le_iff_toInt_le, ← Int64.toInt_inj, Int64.reduceToInt, Int32.toInt_toInt64, lg_cmp_ge, lg_cmp_le, lg_cmp_gt, lg_cmp_lt, lg_cmp_eq, Bool.false_eq_true, Bool.true_eq_false, reduceCtorEq, false_iff, true_iff, iff_true, iff_false, and_true, true_and, and_false, false_and, reduceIte, ite_true, ite_false, eq_self] at *)) <;> omega), trivial⟩ rfl
  exact hi2 _ _ _ _ ⟨(by ((try simp only [vp_in_iff, Int32.lt_iff_toInt_lt, Int32.le_iff_toInt_le, ← Int32.toInt_inj, Int32.reduceToInt, n_1, n_2, n_8, Int32.toNatClampNeg, Int64.lt_iff_toInt_lt, Int64.le_iff_toInt_le, ← Int64.toInt_inj, Int64.reduceToInt, Int32.toInt_toInt64, lg_cmp_ge, lg_cmp_le, lg_cmp_gt, lg_cmp_lt, lg_cmp_eq, Bool.false_eq_true, Bool.true_eq_false, reduceCtorEq, false_iff, true_iff, iff_true, iff_false, and_true, true_and, and_false, false_and, reduceIte, ite_true, ite_false, eq_self] at *)) <;> omega), trivial⟩ rfl
set_option maxHeartbeats 4000000 in
theorem sp_X12_isBeyond (G : kG9) {d : Nat} (hd : 2 ≤ d) (σ : St) (a0 : Int32) (r1 : 0 ≤ (gi σ 84 32).toInt ∧ (gi σ 84 32).toInt ≤ 4) : Ct G M_X12_isBeyond d [.ref 84, .int a0] σ (fun r σ' => ∃ x : Bool, r = some (.int (bI x)) ∧ σ = σ' ∧ True) := by
  refine wa_start (by decide) rfl (Nat.le_of_ble_eq_true rfl) (lv := [(0, .ref 84), (1, .int a0)]) rfl o_X12_isBeyond_0 rfl ?_
  have ua0 := Int32.toInt_lt a0
  have wa0 := Int32.le_toInt a0
  refine wa_aload_n (i := 0) rfl rfl ?_
  refine wa_iload_n (i := 1) rfl rfl ?_
  refine wa_iconst (v := 1) (by decide) ?_
  refine wa_iload_n (i := 1) rfl rfl ?_
  refine wa_aload_n (i := 0) rfl rfl ?_
  refine wa_geti ck_12 fl_12_1067 ly_84 ?_
  refine wa_icmp_ge o_X12_isBeyond_15 (by decide) (fun h1 => ?_) (fun h1 => ?_)
  · refine wa_lconst (v := 1) (by decide) ?_
    refine wa_Vi (d9 := d - 1) [.int _, .int (bI true), .long _] [] (sp_X12_compareRow G (d := d - 1) (by omega) σ _ true _ (by first | assumption | exact Or.inl rfl | exact Or.inr rfl | (((try simp only [vp_in_iff, Int32.lt_iff_toInt_lt, Int32.le_iff_toInt_le, ← Int32.toInt_inj, Int32.reduceToInt, n_1, n_2, n_8, Int32.toNatClampNeg, Int64.lt_iff_toInt_lt, Int64.le_iff_toInt_le, ← Int64.toInt_inj, Int64.reduceToInt, Int32.toInt_toInt64, lg_cmp_ge, lg_cmp_le, lg_cmp_gt, lg_cmp_lt, lg_cmp_eq, Bool.false_eq_true, Bool.true_eq_false, reduceCtorEq, false_iff, true_iff, iff_true, iff_false, and_true, true_and, and_false, false_and, reduceIte, ite_true, ite_false, eq_self] at *)) <;> omega))) (rfl) rfl rfl (zr (by omega)) mk_X12_compareRow ly_84 ml_12_1112 (Nat.le_of_ble_eq_true rfl) (fun x3 s2 hs2 => ?_)
    obtain ⟨zs2, -⟩ := pI hs2
    subst zs2
    refine wa_istore_nD (lv' := [(2, .int x3), (0, .ref 84), (1, .int a0)]) (i := 2) rfl (by decide) rfl ?_
    refine wa_iload_n (i := 2) rfl rfl ?_
    refine wa_if_gt o_X12_isBeyond_55 (by decide) (fun h4 => ?_) (fun h4 => ?_)
    · refine wa_iconst (v := 1) (by decide) ?_
      refine wa_goto o_X12_isBeyond_60 (by decide) ?_
      refine wa_zreturn true (rfl) rfl rfl ?_
      exact ⟨_, rfl, rfl, trivial⟩
    · refine wa_iload_n (i := 2) rfl rfl ?_
      refine wa_if_ne o_X12_isBeyond_59 (by decide) (fun h5 => ?_) (fun h5 => ?_)
      · refine wa_iconst (v := 0) (by decide) ?_
        refine wa_zreturn false (rfl) rfl rfl ?_
        exact ⟨_, rfl, rfl, trivial⟩
      · refine wa_aload_n (i := 0) rfl rfl ?_
        refine wa_iload_n (i := 1) rfl rfl ?_
        refine wa_iconst (v := 0) (by decide) ?_
        refine wa_iload_n (i := 1) rfl rfl ?_
        refine wa_aload_n (i := 0) rfl rfl ?_
        refine wa_geti ck_12 fl_12_1067 ly_84 ?_
        refine wa_icmp_ge o_X12_isBeyond_48 (by decide) (fun h6 => ?_) (fun h6 => ?_)
        · refine wa_lconst (v := 0) (by decide) ?_
          refine wa_Vi (d9 := d - 1) [.int _, .int (bI false), .long _] [] (sp_X12_compareRow G (d := d - 1) (by omega) σ _ false _ (by first | assumption | exact Or.inl rfl | exact Or.inr rfl | (((try simp only [vp_in_iff, Int32.lt_iff_toInt_lt, Int32.le_iff_toInt_le, ← Int32.toInt_inj, Int32.reduceToInt, n_1, n_2, n_8, Int32.toNatClampNeg, Int64.lt_iff_toInt_lt, Int64.le_iff_toInt_le, ← Int64.toInt_inj, Int64.reduceToInt, Int32.toInt_toInt64, lg_cmp_ge, lg_cmp_le, lg_cmp_gt, lg_cmp_lt, lg_cmp_eq, Bool.false_eq_true, Bool.true_eq_false, reduceCtorEq, false_iff, true_iff, iff_true, iff_false, and_true, true_and, and_false, false_and, reduceIte, ite_true, ite_false, eq_self] at *)) <;> omega))) (rfl) rfl rfl (zr (by omega)) mk_X12_compareRow ly_84 ml_12_1112 (Nat.le_of_ble_eq_true rfl) (fun x8 s7 hs7 => ?_)
          obtain ⟨zs7, -⟩ := pI hs7
          subst zs7
          refine wa_if_le o_X12_isBeyond_59 (by decide) (fun h9 => ?_) (fun h9 => ?_)
          · refine wa_iconst (v := 0) (by decide) ?_
            refine wa_zreturn false (rfl) rfl rfl ?_
            exact ⟨_, rfl, rfl, trivial⟩
          · refine wa_iconst (v := 1) (by decide) ?_
            refine wa_goto o_X12_isBeyond_60 (by decide) ?_
            refine wa_zreturn true (rfl) rfl rfl ?_
            exact ⟨_, rfl, rfl, trivial⟩
        · have mh6 := nle_mx h6
          refine wa_aload_n (i := 0) rfl rfl ?_
          refine wa_getr ck_12 fl_12_397 ly_84 rf_84_159 ?_
          refine wa_iload_n (i := 1) rfl rfl ?_
          refine wa_lald ly_104 (by ((try simp only [vp_in_iff, Int32.lt_iff_toInt_lt, Int32.le_iff_toInt_le, ← Int32.toInt_inj, Int32.reduceToInt, n_1, n_2, n_8, Int32.toNatClampNeg, Int64.lt_iff_toInt_lt, Int64.le_iff_toInt_le, ← Int64.toInt_inj, Int64.reduceToInt, Int32.toInt_toInt64, lg_cmp_ge, lg_cmp_le, lg_cmp_gt, lg_cmp_lt, lg_cmp_eq, Bool.false_eq_true, Bool.true_eq_false, reduceCtorEq, false_iff, true_iff, iff_true, iff_false, and_true, true_and, and_false, false_and, reduceIte, ite_true, ite_false, eq_self] at *)) <;> omega) ?_
          refine wa_goto o_X12_isBeyond_49 (by decide) ?_
          refine wa_Vi (d9 := d - 1) [.int _, .int (bI false), .long _] [] (sp_X12_compareRow G (d := d - 1) (by omega) σ _ false _ (by first | assumption | exact Or.inl rfl | exact Or.inr rfl | (((try simp only [vp_in_iff, Int32.lt_iff_toInt_lt, Int32.le_iff_toInt_le, ← Int32.toInt_inj, Int32.reduceToInt, n_1, n_2, n_8, Int32.toNatClampNeg, Int64.lt_iff_toInt_lt, Int64.le_iff_toInt_le, ← Int64.toInt_inj, Int64.reduceToInt, Int32.toInt_toInt64, lg_cmp_ge, lg_cmp_le, lg_cmp_gt, lg_cmp_lt, lg_cmp_eq, Bool.false_eq_true, Bool.true_eq_false, reduceCtorEq, false_iff, true_iff, iff_true, iff_false, and_true, true_and, and_false, false_and, reduceIte, ite_true, ite_false, eq_self] at *)) <;> omega))) (rfl) rfl rfl (zr (by omega)) mk_X12_compareRow ly_84 ml_12_1112 (Nat.le_of_ble_eq_true rfl) (fun x11 s10 hs10 => ?_)
          obtain ⟨zs10, -⟩ := pI hs10
          subst zs10
          refine wa_if_le o_X12_isBeyond_59 (by decide) (fun h12 => ?_) (fun h12 => ?_)
          · refine wa_iconst (v := 0) (by decide) ?_
            refine wa_zreturn false (rfl) rfl rfl ?_
            exact ⟨_, rfl, rfl, trivial⟩
          · refine wa_iconst (v := 1) (by decide) ?_
            refine wa_goto o_X12_isBeyond_60 (by decide) ?_
            refine wa_zreturn true (rfl) rfl rfl ?_
            exact ⟨_, rfl, rfl, trivial⟩
  · have mh1 := nle_mx h1
    refine wa_lconst (v := 0) (by decide) ?_
    refine wa_goto o_X12_isBeyond_16 (by decide) ?_
    refine wa_Vi (d9 := d - 1) [.int _, .int (bI true), .long _] [] (sp_X12_compareRow G (d := d - 1) (by omega) σ _ true _ (by first | assumption | exact Or.inl rfl | exact Or.inr rfl | (((try simp only [vp_in_iff, Int32.lt_iff_toInt_lt, Int32.le_iff_toInt_le, ← Int32.toInt_inj, Int32.reduceToInt, n_1, n_2, n_8, Int32.toNatClampNeg, Int64.lt_iff_toInt_lt, Int64.le_iff_toInt_le, ← Int64.toInt_inj, Int64.reduceToInt, Int32.toInt_toInt64, lg_cmp_ge, lg_cmp_le, lg_cmp_gt, lg_cmp_lt, lg_cmp_eq, Bool.false_eq_true, Bool.true_eq_false, reduceCtorEq, false_iff, true_iff, iff_true, iff_false, and_true, true_and, and_false, false_and, reduceIte, ite_true, ite_false, eq_self] at *)) <;> omega))) (rfl) rfl rfl (zr (by omega)) mk_X12_compareRow ly_84 ml_12_1112 (Nat.le_of_ble_eq_true rfl) (fun x14 s13 hs13 => ?_)
    obtain ⟨zs13, -⟩ := pI hs13
    subst zs13
    refine wa_istore_nD (lv' := [(2, .int x14), (0, .ref 84), (1, .int a0)]) (i := 2) rfl (by decide) rfl ?_
    refine wa_iload_n (i := 2) rfl rfl ?_
    refine wa_if_gt o_X12_isBeyond_55 (by decide) (fun h15 => ?_) (fun h15 => ?_)
    · refine wa_iconst (v := 1) (by decide) ?_
      refine wa_goto o_X12_isBeyond_60 (by decide) ?_
      refine wa_zreturn true (rfl) rfl rfl ?_
      exact ⟨_, rfl, rfl, trivial⟩
    · refine wa_iload_n (i := 2) rfl rfl ?_
      refine wa_if_ne o_X12_isBeyond_59 (by decide) (fun h16 => ?_) (fun h16 => ?_)
      · refine wa_iconst (v := 0) (by decide) ?_
        refine wa_zreturn false (rfl) rfl rfl ?_
        exact ⟨_, rfl, rfl, trivial⟩
      · refine wa_aload_n (i := 0) rfl rfl ?_
        refine wa_iload_n (i := 1) rfl rfl ?_
        refine wa_iconst (v := 0) (by decide) ?_
        refine wa_iload_n (i := 1) rfl rfl ?_
        refine wa_aload_n (i := 0) rfl rfl ?_
        refine wa_geti ck_12 fl_12_1067 ly_84 ?_
        refine wa_icmp_ge o_X12_isBeyond_48 (by decide) (fun h17 => ?_) (fun h17 => ?_)
        · refine wa_lconst (v := 0) (by decide) ?_
          refine wa_Vi (d9 := d - 1) [.int _, .int (bI false), .long _] [] (sp_X12_compareRow G (d := d - 1) (by omega) σ _ false _ (by first | assumption | exact Or.inl rfl | exact Or.inr rfl | (((try simp only [vp_in_iff, Int32.lt_iff_toInt_lt, Int32.le_iff_toInt_le, ← Int32.toInt_inj, Int32.reduceToInt, n_1, n_2, n_8, Int32.toNatClampNeg, Int64.lt_iff_toInt_lt, Int64.le_iff_toInt_le, ← Int64.toInt_inj, Int64.reduceToInt, Int32.toInt_toInt64, lg_cmp_ge, lg_cmp_le, lg_cmp_gt, lg_cmp_lt, lg_cmp_eq, Bool.false_eq_true, Bool.true_eq_false, reduceCtorEq, false_iff, true_iff, iff_true, iff_false, and_true, true_and, and_false, false_and, reduceIte, ite_true, ite_false, eq_self] at *)) <;> omega))) (rfl) rfl rfl (zr (by omega)) mk_X12_compareRow ly_84 ml_12_1112 (Nat.le_of_ble_eq_true rfl) (fun x19 s18 hs18 => ?_)
          obtain ⟨zs18, -⟩ := pI hs18
          subst zs18
          refine wa_if_le o_X12_isBeyond_59 (by decide) (fun h20 => ?_) (fun h20 => ?_)
          · refine wa_iconst (v := 0) (by decide) ?_
            refine wa_zreturn false (rfl) rfl rfl ?_
            exact ⟨_, rfl, rfl, trivial⟩
          · refine wa_iconst (v := 1) (by decide) ?_
            refine wa_goto o_X12_isBeyond_60 (by decide) ?_
            refine wa_zreturn true (rfl) rfl rfl ?_
            exact ⟨_, rfl, rfl, trivial⟩
        · have mh17 := nle_mx h17
          refine wa_aload_n (i := 0) rfl rfl ?_
          refine wa_getr ck_12 fl_12_397 ly_84 rf_84_159 ?_
          refine wa_iload_n (i := 1) rfl rfl ?_
          refine wa_lald ly_104 (by ((try simp only [vp_in_iff, Int32.lt_iff_toInt_lt, Int32.le_iff_toInt_le, ← Int32.toInt_inj, Int32.reduceToInt, n_1, n_2, n_8, Int32.toNatClampNeg, Int64.lt_iff_toInt_lt, Int64.le_iff_toInt_le, ← Int64.toInt_inj, Int64.reduceToInt, Int32.toInt_toInt64, lg_cmp_ge, lg_cmp_le, lg_cmp_gt, lg_cmp_lt, lg_cmp_eq, Bool.false_eq_true, Bool.true_eq_false, reduceCtorEq, false_iff, true_iff, iff_true, iff_false, and_true, true_and, and_false, false_and, reduceIte, ite_true, ite_false, eq_self] at *)) <;> omega) ?_
          refine wa_goto o_X12_isBeyond_49 (by decide) ?_
          refine wa_Vi (d9 := d - 1) [.int _, .int (bI false), .long _] [] (sp_X12_compareRow G (d := d - 1) (by omega) σ _ false _ (by first | assumption | exact Or.inl rfl | exact Or.inr rfl | (((try simp only [vp_in_iff, Int32.lt_iff_toInt_lt, Int32.le_iff_toInt_le, ← Int32.toInt_inj, Int32.reduceToInt, n_1, n_2, n_8, Int32.toNatClampNeg, Int64.lt_iff_toInt_lt, Int64.le_iff_toInt_le, ← Int64.toInt_inj, Int64.reduceToInt, Int32.toInt_toInt64, lg_cmp_ge, lg_cmp_le, lg_cmp_gt, lg_cmp_lt, lg_cmp_eq, Bool.false_eq_true, Bool.true_eq_false, reduceCtorEq, false_iff, true_iff, iff_true, iff_false, and_true, true_and, and_false, false_and, reduceIte, ite_true, ite_false, eq_self] at *)) <;> omega))) (rfl) rfl rfl (zr (by omega)) mk_X12_compareRow ly_84 ml_12_1112 (Nat.le_of_ble_eq_true rfl) (fun x22 s21 hs21 => ?_)
          obtain ⟨zs21, -⟩ := pI hs21
          subst zs21
          refine wa_if_le o_X12_isBeyond_59 (by decide) (fun h23 => ?_) (fun h23 => ?_)
          · refine wa_iconst (v := 0) (by decide) ?_
            refine wa_zreturn false (rfl) rfl rfl ?_
            exact ⟨_, rfl, rfl, trivial⟩
          · refine wa_iconst (v := 1) (by decide) ?_
            refine wa_goto o_X12_isBeyond_60 (by decide) ?_
            refine wa_zreturn true (rfl) rfl rfl ?_
            exact ⟨_, rfl, rfl, trivial⟩
set_option maxHeartbeats 4000000 in
theorem sp_X12_goesRather (G : kG9) {d : Nat} (hd : 4 ≤ d) (σ : St) (a0 : Int32) (a1 : Int64) (a2 : Int32) (a3 : Int64) (r1 : 0 ≤ (gi σ 84 32).toInt ∧ (gi σ 84 32).toInt ≤ 4) : Ct G M_X12_goesRather d [.ref 84, .int a0, .long a1, .int a2, .long a3] σ (fun r σ' => ∃ x : Bool, r = some (.int (bI x)) ∧ Fm [102] [167, 168] σ σ' ∧ True) := by
  refine wa_start (by decide) rfl (Nat.le_of_ble_eq_true rfl) (lv := [(0, .ref 84), (1, .int a0), (2, .long a1), (4, .int a2), (5, .long a3)]) rfl o_X12_goesRather_0 rfl ?_
  have ua0 := Int32.toInt_lt a0
  have wa0 := Int32.le_toInt a0
  have ua2 := Int32.toInt_lt a2
  have wa2 := Int32.le_toInt a2
  refine wa_iconst (v := 0) (by decide) ?_
  refine wa_istoreD (lv' := [(7, .int 0), (0, .ref 84), (1, .int a0), (2, .long a1), (4, .int a2), (5, .long a3)]) (by decide) rfl ?_
  refine wa_pick [1, 2, 3, 4, 5, 0] rfl ?_
  have hi3 : ∀ (n9_3 : Nat) (l7 : Int32) (s1 : St), ((Fm [102] [167, 168] σ s1) ∧ (gi s1 84 32 = gi σ 84 32) ∧ (gi s1 84 169 = gi σ 84 169) ∧ (0 ≤ l7.toInt) ∧ (True)) → (2147483647 - l7.toInt).toNat = n9_3 → WA G M_X12_goesRather (ZM G M_X12_goesRather d (fun r σ' => ∃ x : Bool, r = some (.int (bI x)) ∧ Fm [102] [167, 168] σ σ' ∧ True)) B_X12_goesRather_3 [(0, .ref 84), (1, .int a0), (2, .long a1), (4, .int a2), (5, .long a3), (7, .int l7)] [] s1 := by
    intro n9_3
    induction n9_3 using Nat.strongRecOn with
    | _ n9_3 ih2 =>
      intro l7 s1 i9 m9_3
      obtain ⟨Fs1, khi3_0, khi3_1, jhi3_0, -⟩ := i9
      have ul7 := Int32.toInt_lt l7
      have wl7 := Int32.le_toInt l7
      refine wa_iload rfl ?_
      refine wa_aload_n (i := 0) rfl rfl ?_
      refine wa_geti ck_12 fl_12_815 ly_84 ?_
      refine wa_rw (khi3_0) ?_
      refine wa_icmp_gt o_X12_goesRather_76 (by decide) (fun h4 => ?_) (fun h4 => ?_)
      · refine wa_iconst (v := 0) (by decide) ?_
        refine wa_zreturn false (rfl) rfl rfl ?_
        exact ⟨_, rfl, Fs1, trivial⟩
      · refine wa_aload_n (i := 0) rfl rfl ?_
        refine wa_aload_n (i := 0) rfl rfl ?_
        refine wa_iload_n (i := 1) rfl rfl ?_
        refine wa_iload rfl ?_
        refine wa_Vl (d9 := d - 1) [.int _, .int _] [.ref 84] (sp_X12_shareOf G (d := d - 1) (by omega) s1 _ _ (by rw [khi3_0]; first | assumption | exact Or.inl rfl | exact Or.inr rfl | (((try simp only [vp_in_iff, Int32.lt_iff_toInt_lt, Int32.le_iff_toInt_le, ← Int32.toInt_inj, Int32.reduceToInt, n_1, n_2, n_8, Int32.toNatClampNeg, Int64.lt_iff_toInt_lt, Int64.le_iff_toInt_le, ← Int64.toInt_inj, Int64.reduceToInt, Int32.toInt_toInt64, lg_cmp_ge, lg_cmp_le, lg_cmp_gt, lg_cmp_lt, lg_cmp_eq, Bool.false_eq_true, Bool.true_eq_false, reduceCtorEq, false_iff, true_iff, iff_true, iff_false, and_true, true_and, and_false, false_and, reduceIte, ite_true, ite_false, eq_self] at *)) <;> omega))) (rfl) rfl rfl (zr (by omega)) mk_X12_shareOf ly_84 ml_12_1116 (Nat.le_of_ble_eq_true rfl) (fun x6 s5 hs5 => ?_)
        obtain ⟨fs5, -⟩ := pL hs5
        have Fs5 : Fm [102] [167, 168] σ s5 := Fm.tr Fs1 (Fm.wd fs5 rfl rfl)
        refine wa_lload rfl ?_
        refine wa_aload_n (i := 0) rfl rfl ?_
        refine wa_iload rfl ?_
        refine wa_iload rfl ?_
        refine wa_Vl (d9 := d - 1) [.int _, .int _] [.long a3, .long x6, .ref 84] (sp_X12_shareOf G (d := d - 1) (by omega) s5 _ _ (by rw [(Fm.gi fs5 (q := 84) (k := 32) rfl rfl).trans (khi3_0)]; first | assumption | exact Or.inl rfl | exact Or.inr rfl | (((try simp only [vp_in_iff, Int32.lt_iff_toInt_lt, Int32.le_iff_toInt_le, ← Int32.toInt_inj, Int32.reduceToInt, n_1, n_2, n_8, Int32.toNatClampNeg, Int64.lt_iff_toInt_lt, Int64.le_iff_toInt_le, ← Int64.toInt_inj, Int64.reduceToInt, Int32.toInt_toInt64, lg_cmp_ge, lg_cmp_le, lg_cmp_gt, lg_cmp_lt, lg_cmp_eq, Bool.false_eq_true, Bool.true_eq_false, reduceCtorEq, false_iff, true_iff, iff_true, iff_false, and_true, true_and, and_false, false_and, reduceIte, ite_true, ite_false, eq_self] at *)) <;> omega))) (rfl) rfl rfl (zr (by omega)) mk_X12_shareOf ly_84 ml_12_1116 (Nat.le_of_ble_eq_true rfl) (fun x8 s7 hs7 => ?_)
        obtain ⟨fs7, -⟩ := pL hs7
        have Fs7 : Fm [102] [167, 168] σ s7 := Fm.tr Fs5 (Fm.wd fs7 rfl rfl)
        refine wa_lload_n (i := 2) rfl rfl ?_
        refine wa_Vi (d9 := d - 1) [.long _, .long _, .long _, .long _] [] (sp_X12_compare G (d := d - 1) (by omega) s7 _ _ _ _) (rfl) rfl rfl (zr (by omega)) mk_X12_compare ly_84 ml_12_1119 (Nat.le_of_ble_eq_true rfl) (fun x10 s9 hs9 => ?_)
        obtain ⟨fs9, -⟩ := pI hs9
        have Fs9 : Fm [102] [167, 168] σ s9 := Fm.tr Fs7 (Fm.wd fs9 rfl rfl)
        refine wa_istoreD (lv' := [(8, .int x10), (0, .ref 84), (1, .int a0), (2, .long a1), (4, .int a2), (5, .long a3), (7, .int l7)]) (by decide) rfl ?_
        refine wa_aload_n (i := 0) rfl rfl ?_
        refine wa_geti ck_12 fl_12_1123 ly_84 ?_
        refine wa_rw ((Fm.gi fs9 (q := 84) (k := 169) rfl rfl).trans ((Fm.gi fs7 (q := 84) (k := 169) rfl rfl).trans ((Fm.gi fs5 (q := 84) (k := 169) rfl rfl).trans (khi3_1)))) ?_
        refine wa_if_ge o_X12_goesRather_50 (by decide) (fun h11 => ?_) (fun h11 => ?_)
        · refine wa_iload rfl ?_
          refine wa_istoreD (lv' := [(8, .int x10), (0, .ref 84), (1, .int a0), (2, .long a1), (4, .int a2), (5, .long a3), (7, .int l7)]) (by decide) rfl ?_
          refine wa_iload rfl ?_
          refine wa_if_eq o_X12_goesRather_70 (by decide) (fun h12 => ?_) (fun h12 => ?_)
          · refine wa_iinc (v := (1)) (lv' := fun y13 => [(7, .int y13), (8, .int x10), (0, .ref 84), (1, .int a0), (2, .long a1), (4, .int a2), (5, .long a3)]) (by decide) rfl (by decide) (fun _ => rfl) (fun y13 hy13 => ?_)
            have ty13 := i_addT hy13.symm
            clear hy13
            refine wa_goto o_X12_goesRather_3 (by decide) ?_
            refine wa_pick [2, 3, 4, 5, 6, 0] rfl ?_
            exact ih2 _ (by ((try simp only [vp_in_iff, Int32.lt_iff_toInt_lt, Int32.le_iff_toInt_le, ← Int32.toInt_inj, Int32.reduceToInt, n_1, n_2, n_8, Int32.toNatClampNeg, Int64.lt_iff_toInt_lt, Int64.le_iff_toInt_le, ← Int64.toInt_inj, Int64.reduceToInt, Int32.toInt_toInt64, lg_cmp_ge, lg_cmp_le, lg_cmp_gt, lg_cmp_lt, lg_cmp_eq, Bool.false_eq_true, Bool.true_eq_false, reduceCtorEq, false_iff, true_iff, iff_true, iff_false, and_true, true_and, and_false, false_and, reduceIte, ite_true, ite_false, eq_self] at *)) <;> omega) _ _ ⟨Fs9, ((Fm.gi fs9 (q := 84) (k := 32) rfl rfl).trans ((Fm.gi fs7 (q := 84) (k := 32) rfl rfl).trans ((Fm.gi fs5 (q := 84) (k := 32) rfl rfl).trans (khi3_0)))), ((Fm.gi fs9 (q := 84) (k := 169) rfl rfl).trans ((Fm.gi fs7 (q := 84) (k := 169) rfl rfl).trans ((Fm.gi fs5 (q := 84) (k := 169) rfl rfl).trans (khi3_1)))), (by ((try simp only [vp_in_iff, Int32.lt_iff_toInt_lt, Int32.le_iff_toInt_le, ← Int32.toInt_inj, Int32.reduceToInt, n_1, n_2, n_8, Int32.toNatClampNeg, Int64.lt_iff_toInt_lt, Int64.le_iff_toInt_le, ← Int64.toInt_inj, Int64.reduceToInt, Int32.toInt_toInt64, lg_cmp_ge, lg_cmp_le, lg_cmp_gt, lg_cmp_lt, lg_cmp_eq, Bool.false_eq_true, Bool.true_eq_false, reduceCtorEq, false_iff, true_iff, iff_true, iff_false, and_true, true_and, and_false, false_and, reduceIte, ite_true, ite_false, eq_self] at *)) <;> omega), trivial⟩ rfl
          · refine wa_iload rfl ?_
            refine wa_if_ge o_X12_goesRather_68 (by decide) (fun h14 => ?_) (fun h14 => ?_)
            · refine wa_iconst (v := 0) (by decide) ?_
              refine wa_zreturn false (rfl) rfl rfl ?_
              exact ⟨_, rfl, Fs9, trivial⟩
            · refine wa_iconst (v := 1) (by decide) ?_
              refine wa_goto o_X12_goesRather_69 (by decide) ?_
              refine wa_zreturn true (rfl) rfl rfl ?_
              exact ⟨_, rfl, Fs9, trivial⟩
        · refine wa_iconst (v := 0) (by decide) ?_
          refine wa_iload rfl ?_
          refine wa_isub ?_
          refine wa_top (fun v15 hv15 => ?_)
          have tv15 := i_subT hv15
          clear hv15
          refine wa_goto o_X12_goesRather_52 (by decide) ?_
          refine wa_istoreD (lv' := [(8, .int v15), (0, .ref 84), (1, .int a0), (2, .long a1), (4, .int a2), (5, .long a3), (7, .int l7)]) (by decide) rfl ?_
          refine wa_iload rfl ?_
          refine wa_if_eq o_X12_goesRather_70 (by decide) (fun h16 => ?_) (fun h16 => ?_)
          · refine wa_iinc (v := (1)) (lv' := fun y17 => [(7, .int y17), (8, .int v15), (0, .ref 84), (1, .int a0), (2, .long a1), (4, .int a2), (5, .long a3)]) (by decide) rfl (by decide) (fun _ => rfl) (fun y17 hy17 => ?_)
            have ty17 := i_addT hy17.symm
            clear hy17
            refine wa_goto o_X12_goesRather_3 (by decide) ?_
            refine wa_pick [2, 3, 4, 5, 6, 0] rfl ?_
            exact ih2 _ (by ((try simp only [vp_in_iff, Int32.lt_iff_toInt_lt, Int32.le_iff_toInt_le, ← Int32.toInt_inj, Int32.reduceToInt, n_1, n_2, n_8, Int32.toNatClampNeg, Int64.lt_iff_toInt_lt, Int64.le_iff_toInt_le, ← Int64.toInt_inj, Int64.reduceToInt, Int32.toInt_toInt64, lg_cmp_ge, lg_cmp_le, lg_cmp_gt, lg_cmp_lt, lg_cmp_eq, Bool.false_eq_true, Bool.true_eq_false, reduceCtorEq, false_iff, true_iff, iff_true, iff_false, and_true, true_and, and_false, false_and, reduceIte, ite_true, ite_false, eq_self] at *)) <;> omega) _ _ ⟨Fs9, ((Fm.gi fs9 (q := 84) (k := 32) rfl rfl).trans ((Fm.gi fs7 (q := 84) (k := 32) rfl rfl).trans ((Fm.gi fs5 (q := 84) (k := 32) rfl rfl).trans (khi3_0)))), ((Fm.gi fs9 (q := 84) (k := 169) rfl rfl).trans ((Fm.gi fs7 (q := 84) (k := 169) rfl rfl).trans ((Fm.gi fs5 (q := 84) (k := 169) rfl rfl).trans (khi3_1)))), (by ((try simp only [vp_in_iff, Int32.lt_iff_toInt_lt, Int32.le_iff_toInt_le, ← Int32.toInt_inj, Int32.reduceToInt, n_1, n_2, n_8, Int32.toNatClampNeg, Int64.lt_iff_toInt_lt, Int64.le_iff_toInt_le, ← Int64.toInt_inj, Int64.reduceToInt, Int32.toInt_toInt64, lg_cmp_ge, lg_cmp_le, lg_cmp_gt, lg_cmp_lt, lg_cmp_eq, Bool.false_eq_true, Bool.true_eq_false, reduceCtorEq, false_iff, true_iff, iff_true, iff_false, and_true, true_and, and_false, false_and, reduceIte, ite_true, ite_false, eq_self] at *)) <;> omega), trivial⟩ rfl
          · refine wa_iload rfl ?_
            refine wa_if_ge o_X12_goesRather_68 (by decide) (fun h18 => ?_) (fun h18 => ?_)
            · refine wa_iconst (v := 0) (by decide) ?_
              refine wa_zreturn false (rfl) rfl rfl ?_
              exact ⟨_, rfl, Fs9, trivial⟩
            · refine wa_iconst (v := 1) (by decide) ?_
              refine wa_goto o_X12_goesRather_69 (by decide) ?_
              refine wa_zreturn true (rfl) rfl rfl ?_
              exact ⟨_, rfl, Fs9, trivial⟩
  exact hi3 _ _ _ ⟨(Fm.rf [102] [167, 168] σ), (rfl), (rfl), (by ((try simp only [vp_in_iff, Int32.lt_iff_toInt_lt, Int32.le_iff_toInt_le, ← Int32.toInt_inj, Int32.reduceToInt, n_1, n_2, n_8, Int32.toNatClampNeg, Int64.lt_iff_toInt_lt, Int64.le_iff_toInt_le, ← Int64.toInt_inj, Int64.reduceToInt, Int32.toInt_toInt64, lg_cmp_ge, lg_cmp_le, lg_cmp_gt, lg_cmp_lt, lg_cmp_eq, Bool.false_eq_true, Bool.true_eq_false, reduceCtorEq, false_iff, true_iff, iff_true, iff_false, and_true, true_and, and_false, false_and, reduceIte, ite_true, ite_false, eq_self] at *)) <;> omega), trivial⟩ rfl
set_option maxHeartbeats 4000000 in
theorem sp_X12_valueOf (G : kG9) {d : Nat} (hd : 0 ≤ d) (σ : St) (a0 : Bool) (r1 : 0 ≤ (gi σ 84 32).toInt ∧ (gi σ 84 32).toInt ≤ 4) : Ct G M_X12_valueOf d [.ref 84, .int (bI a0)] σ (fun r σ' => ∃ x : Int64, r = some (.long x) ∧ σ = σ' ∧ True) := by
  refine wa_start (by decide) rfl (Nat.le_of_ble_eq_true rfl) (lv := [(0, .ref 84), (1, .int (bI a0))]) rfl o_X12_valueOf_0 rfl ?_
  refine wa_lconst (v := 0) (by decide) ?_
  refine wa_lstore_nD (lv' := [(2, .long 0), (0, .ref 84), (1, .int (bI a0))]) (i := 2) rfl (by decide) rfl ?_
  refine wa_iconst (v := 0) (by decide) ?_
  refine wa_istoreD (lv' := [(4, .int 0), (2, .long 0), (0, .ref 84), (1, .int (bI a0))]) (by decide) rfl ?_
  refine wa_pick [2, 3, 1, 0] rfl ?_
  have hi2 : ∀ (n9_5 : Nat) (l2 : Int64) (l4 : Int32), ((0 ≤ l4.toInt) ∧ (True)) → (2147483647 - l4.toInt).toNat = n9_5 → WA G M_X12_valueOf (ZM G M_X12_valueOf d (fun r σ' => ∃ x : Int64, r = some (.long x) ∧ σ = σ' ∧ True)) B_X12_valueOf_5 [(0, .ref 84), (1, .int (bI a0)), (2, .long l2), (4, .int l4)] [] σ := by
    intro n9_5
    induction n9_5 using Nat.strongRecOn with
    | _ n9_5 ih1 =>
      intro l2 l4  i9 m9_5
      obtain ⟨jhi2_0, -⟩ := i9
      have ul4 := Int32.toInt_lt l4
      have wl4 := Int32.le_toInt l4
      refine wa_iload rfl ?_
      refine wa_aload_n (i := 0) rfl rfl ?_
      refine wa_geti ck_12 fl_12_815 ly_84 ?_
      refine wa_icmp_ge o_X12_valueOf_52 (by decide) (fun h3 => ?_) (fun h3 => ?_)
      · refine wa_iload_n (i := 1) rfl rfl ?_
        refine wa_if_eq o_X12_valueOf_60 (by decide) (fun h4 => ?_) (fun h4 => ?_)
        · replace h4 := bI_f (b := a0) (rfl) h4
          refine wa_lload_n (i := 2) rfl rfl ?_
          refine wa_aload_n (i := 0) rfl rfl ?_
          refine wa_getl ck_12 fl_12_1000 ly_84 ?_
          refine wa_aload_n (i := 0) rfl rfl ?_
          refine wa_getl ck_12 fl_12_1097 ly_84 ?_
          refine wa_lmul ?_
          refine wa_topl (fun v5 hv5 => ?_)
          have tv5 := m_l_remU hv5
          clear hv5
          refine wa_ladd ?_
          refine wa_topl (fun v6 hv6 => ?_)
          have tv6 := a_l_remU hv6
          clear hv6
          refine wa_lreturn rfl rfl ?_
          exact ⟨_, rfl, rfl, trivial⟩
        · replace h4 := bI_t (b := a0) (rfl) h4
          refine wa_lload_n (i := 2) rfl rfl ?_
          refine wa_goto o_X12_valueOf_71 (by decide) ?_
          refine wa_lreturn rfl rfl ?_
          exact ⟨_, rfl, rfl, trivial⟩
      · have mh3 := nle_mx h3
        refine wa_lload_n (i := 2) rfl rfl ?_
        refine wa_aload_n (i := 0) rfl rfl ?_
        refine wa_getr ck_12 fl_12_358 ly_84 rf_84_141 ?_
        refine wa_iload rfl ?_
        refine wa_lald ly_117 (by ((try simp only [vp_in_iff, Int32.lt_iff_toInt_lt, Int32.le_iff_toInt_le, ← Int32.toInt_inj, Int32.reduceToInt, n_1, n_2, n_8, Int32.toNatClampNeg, Int64.lt_iff_toInt_lt, Int64.le_iff_toInt_le, ← Int64.toInt_inj, Int64.reduceToInt, Int32.toInt_toInt64, lg_cmp_ge, lg_cmp_le, lg_cmp_gt, lg_cmp_lt, lg_cmp_eq, Bool.false_eq_true, Bool.true_eq_false, reduceCtorEq, false_iff, true_iff, iff_true, iff_false, and_true, true_and, and_false, false_and, reduceIte, ite_true, ite_false, eq_self] at *)) <;> omega) ?_
        refine wa_iload_n (i := 1) rfl rfl ?_
        refine wa_if_eq o_X12_valueOf_36 (by decide) (fun h7 => ?_) (fun h7 => ?_)
        · replace h7 := bI_f (b := a0) (rfl) h7
          refine wa_aload_n (i := 0) rfl rfl ?_
          refine wa_getr ck_12 fl_12_406 ly_84 rf_84_165 ?_
          refine wa_iload rfl ?_
          refine wa_lald ly_101 (by ((try simp only [vp_in_iff, Int32.lt_iff_toInt_lt, Int32.le_iff_toInt_le, ← Int32.toInt_inj, Int32.reduceToInt, n_1, n_2, n_8, Int32.toNatClampNeg, Int64.lt_iff_toInt_lt, Int64.le_iff_toInt_le, ← Int64.toInt_inj, Int64.reduceToInt, Int32.toInt_toInt64, lg_cmp_ge, lg_cmp_le, lg_cmp_gt, lg_cmp_lt, lg_cmp_eq, Bool.false_eq_true, Bool.true_eq_false, reduceCtorEq, false_iff, true_iff, iff_true, iff_false, and_true, true_and, and_false, false_and, reduceIte, ite_true, ite_false, eq_self] at *)) <;> omega) ?_
          refine wa_lmul ?_
          refine wa_topl (fun v8 hv8 => ?_)
          have tv8 := m_l_remU hv8
          clear hv8
          refine wa_ladd ?_
          refine wa_topl (fun v9 hv9 => ?_)
          have tv9 := a_l_remU hv9
          clear hv9
          refine wa_lstore_nD (lv' := [(2, .long v9), (0, .ref 84), (1, .int (bI a0)), (4, .int l4)]) (i := 2) rfl (by decide) rfl ?_
          refine wa_iinc (v := (1)) (lv' := fun y10 => [(4, .int y10), (2, .long v9), (0, .ref 84), (1, .int (bI a0))]) (by decide) rfl (by decide) (fun _ => rfl) (fun y10 hy10 => ?_)
          have ty10 := i_addT hy10.symm
          clear hy10
          refine wa_goto o_X12_valueOf_5 (by decide) ?_
          refine wa_pick [2, 3, 1, 0] rfl ?_
          exact ih1 _ (by ((try simp only [vp_in_iff, Int32.lt_iff_toInt_lt, Int32.le_iff_toInt_le, ← Int32.toInt_inj, Int32.reduceToInt, n_1, n_2, n_8, Int32.toNatClampNeg, Int64.lt_iff_toInt_lt, Int64.le_iff_toInt_le, ← Int64.toInt_inj, Int64.reduceToInt, Int32.toInt_toInt64, lg_cmp_ge, lg_cmp_le, lg_cmp_gt, lg_cmp_lt, lg_cmp_eq, Bool.false_eq_true, Bool.true_eq_false, reduceCtorEq, false_iff, true_iff, iff_true, iff_false, and_true, true_and, and_false, false_and, reduceIte, ite_true, ite_false, eq_self] at *)) <;> omega) _ _ ⟨(by ((try simp only [vp_in_iff, Int32.lt_iff_toInt_lt, Int32.le_iff_toInt_le, ← Int32.toInt_inj, Int32.reduceToInt, n_1, n_2, n_8, Int32.toNatClampNeg, Int64.lt_iff_toInt_lt, Int64.le_iff_toInt_le, ← Int64.toInt_inj, Int64.reduceToInt, Int32.toInt_toInt64, lg_cmp_ge, lg_cmp_le, lg_cmp_gt, lg_cmp_lt, lg_cmp_eq, Bool.false_eq_true, Bool.true_eq_false, reduceCtorEq, false_iff, true_iff, iff_true, iff_false, and_true, true_and, and_false, false_and, reduceIte, ite_true, ite_false, eq_self] at *)) <;> omega), trivial⟩ rfl
        · replace h7 := bI_t (b := a0) (rfl) h7
          refine wa_aload_n (i := 0) rfl rfl ?_
          refine wa_getr ck_12 fl_12_409 ly_84 rf_84_166 ?_
          refine wa_iload rfl ?_
          refine wa_lald ly_100 (by ((try simp only [vp_in_iff, Int32.lt_iff_toInt_lt, Int32.le_iff_toInt_le, ← Int32.toInt_inj, Int32.reduceToInt, n_1, n_2, n_8, Int32.toNatClampNeg, Int64.lt_iff_toInt_lt, Int64.le_iff_toInt_le, ← Int64.toInt_inj, Int64.reduceToInt, Int32.toInt_toInt64, lg_cmp_ge, lg_cmp_le, lg_cmp_gt, lg_cmp_lt, lg_cmp_eq, Bool.false_eq_true, Bool.true_eq_false, reduceCtorEq, false_iff, true_iff, iff_true, iff_false, and_true, true_and, and_false, false_and, reduceIte, ite_true, ite_false, eq_self] at *)) <;> omega) ?_
          refine wa_goto o_X12_valueOf_43 (by decide) ?_
          refine wa_lmul ?_
          refine wa_topl (fun v11 hv11 => ?_)
          have tv11 := m_l_remU hv11
          clear hv11
          refine wa_ladd ?_
          refine wa_topl (fun v12 hv12 => ?_)
          have tv12 := a_l_remU hv12
          clear hv12
          refine wa_lstore_nD (lv' := [(2, .long v12), (0, .ref 84), (1, .int (bI a0)), (4, .int l4)]) (i := 2) rfl (by decide) rfl ?_
          refine wa_iinc (v := (1)) (lv' := fun y13 => [(4, .int y13), (2, .long v12), (0, .ref 84), (1, .int (bI a0))]) (by decide) rfl (by decide) (fun _ => rfl) (fun y13 hy13 => ?_)
          have ty13 := i_addT hy13.symm
          clear hy13
          refine wa_goto o_X12_valueOf_5 (by decide) ?_
          refine wa_pick [2, 3, 1, 0] rfl ?_
          exact ih1 _ (by ((try simp only [vp_in_iff, Int32.lt_iff_toInt_lt, Int32.le_iff_toInt_le, ← Int32.toInt_inj, Int32.reduceToInt, n_1, n_2, n_8, Int32.toNatClampNeg, Int64.lt_iff_toInt_lt, Int64.le_iff_toInt_le, ← Int64.toInt_inj, Int64.reduceToInt, Int32.toInt_toInt64, lg_cmp_ge, lg_cmp_le, lg_cmp_gt, lg_cmp_lt, lg_cmp_eq, Bool.false_eq_true, Bool.true_eq_false, reduceCtorEq, false_iff, true_iff, iff_true, iff_false, and_true, true_and, and_false, false_and, reduceIte, ite_true, ite_false, eq_self] at *)) <;> omega) _ _ ⟨(by ((try simp only [vp_in_iff, Int32.lt_iff_toInt_lt, Int32.le_iff_toInt_le, ← Int32.toInt_inj, Int32.reduceToInt, n_1, n_2, n_8, Int32.toNatClampNeg, Int64.lt_iff_toInt_lt, Int64.le_iff_toInt_le, ← Int64.toInt_inj, Int64.reduceToInt, Int32.toInt_toInt64, lg_cmp_ge, lg_cmp_le, lg_cmp_gt, lg_cmp_lt, lg_cmp_eq, Bool.false_eq_true, Bool.true_eq_false, reduceCtorEq, false_iff, true_iff, iff_true, iff_false, and_true, true_and, and_false, false_and, reduceIte, ite_true, ite_false, eq_self] at *)) <;> omega), trivial⟩ rfl
  exact hi2 _ _ _ ⟨(by ((try simp only [vp_in_iff, Int32.lt_iff_toInt_lt, Int32.le_iff_toInt_le, ← Int32.toInt_inj, Int32.reduceToInt, n_1, n_2, n_8, Int32.toNatClampNeg, Int64.lt_iff_toInt_lt, Int64.le_iff_toInt_le, ← Int64.toInt_inj, Int64.reduceToInt, Int32.toInt_toInt64, lg_cmp_ge, lg_cmp_le, lg_cmp_gt, lg_cmp_lt, lg_cmp_eq, Bool.false_eq_true, Bool.true_eq_false, reduceCtorEq, false_iff, true_iff, iff_true, iff_false, and_true, true_and, and_false, false_and, reduceIte, ite_true, ite_false, eq_self] at *)) <;> omega), trivial⟩ rfl
