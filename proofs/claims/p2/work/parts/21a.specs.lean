set_option maxHeartbeats 4000000 in
theorem sp_X2_fact (G : kG9) {d : Nat} (hd : 0 ≤ d) (σ : St) (a0 : Int32) (a1 : Int32) : Ct G M_X2_fact d [.ref 7, .int a0, .int a1] σ (fun r σ' => ∃ x : Int32, r = some (.int x) ∧ σ = σ' ∧ True) := by
  refine wa_start (by decide) rfl (Nat.le_of_ble_eq_true rfl) (lv := [(0, .ref 7), (1, .int a0), (2, .int a1)]) rfl o_X2_fact_0 rfl ?_
  have ua0 := Int32.toInt_lt a0
  have wa0 := Int32.le_toInt a0
  have ua1 := Int32.toInt_lt a1
  have wa1 := Int32.le_toInt a1
  refine wa_iload_n (i := 1) rfl rfl ?_
  refine wa_if_lt o_X2_fact_34 (by decide) (fun h1 => ?_) (fun h1 => ?_)
  · refine wa_iconst (v := 0) (by decide) ?_
    refine wa_ireturn rfl rfl ?_
    exact ⟨_, rfl, rfl, trivial⟩
  · refine wa_iload_n (i := 1) rfl rfl ?_
    refine wa_bipush (v := 26) (by decide) ?_
    refine wa_icmp_ge o_X2_fact_34 (by decide) (fun h2 => ?_) (fun h2 => ?_)
    · refine wa_iconst (v := 0) (by decide) ?_
      refine wa_ireturn rfl rfl ?_
      exact ⟨_, rfl, rfl, trivial⟩
    · have mh2 := nle_mx h2
      refine wa_iload_n (i := 2) rfl rfl ?_
      refine wa_if_lt o_X2_fact_34 (by decide) (fun h3 => ?_) (fun h3 => ?_)
      · refine wa_iconst (v := 0) (by decide) ?_
        refine wa_ireturn rfl rfl ?_
        exact ⟨_, rfl, rfl, trivial⟩
      · refine wa_iload_n (i := 2) rfl rfl ?_
        refine wa_bipush (v := 10) (by decide) ?_
        refine wa_icmp_ge o_X2_fact_34 (by decide) (fun h4 => ?_) (fun h4 => ?_)
        · refine wa_iconst (v := 0) (by decide) ?_
          refine wa_ireturn rfl rfl ?_
          exact ⟨_, rfl, rfl, trivial⟩
        · have mh4 := nle_mx h4
          refine wa_aload_n (i := 0) rfl rfl ?_
          refine wa_getr ck_2 fl_2_28 ly_7 rf_7_5 ?_
          refine wa_iload_n (i := 1) rfl rfl ?_
          refine wa_bipush (v := 10) (by decide) ?_
          refine wa_imul ?_
          refine wa_top (fun v5 hv5 => ?_)
          have tv5 := i_mulT hv5
          clear hv5
          refine wa_iload_n (i := 2) rfl rfl ?_
          refine wa_iadd ?_
          refine wa_top (fun v6 hv6 => ?_)
          have tv6 := i_addT hv6
          clear hv6
          refine wa_iald ly_13 (by ((try simp only [vp_in_iff, Int32.lt_iff_toInt_lt, Int32.le_iff_toInt_le, ← Int32.toInt_inj, Int32.reduceToInt, n_1, n_2, n_8, Int32.toNatClampNeg, Int64.lt_iff_toInt_lt, Int64.le_iff_toInt_le, ← Int64.toInt_inj, Int64.reduceToInt, Int32.toInt_toInt64, lg_cmp_ge, lg_cmp_le, lg_cmp_gt, lg_cmp_lt, lg_cmp_eq, Bool.false_eq_true, Bool.true_eq_false, reduceCtorEq, false_iff, true_iff, iff_true, iff_false, and_true, true_and, and_false, false_and, reduceIte, ite_true, ite_false, eq_self] at *)) <;> omega) ?_
          refine wa_goto o_X2_fact_35 (by decide) ?_
          refine wa_ireturn rfl rfl ?_
          exact ⟨_, rfl, rfl, trivial⟩
set_option maxHeartbeats 4000000 in
theorem sp_X2_atomOf (G : kG9) {d : Nat} (hd : 0 ≤ d) (σ : St) (a0 : Int32) (a1 : Int32) : Ct G M_X2_atomOf d [.ref 7, .int a0, .int a1] σ (fun r σ' => ∃ x : Int32, r = some (.int x) ∧ σ = σ' ∧ True) := by
  refine wa_start (by decide) rfl (Nat.le_of_ble_eq_true rfl) (lv := [(0, .ref 7), (1, .int a0), (2, .int a1)]) rfl o_X2_atomOf_0 rfl ?_
  have ua0 := Int32.toInt_lt a0
  have wa0 := Int32.le_toInt a0
  have ua1 := Int32.toInt_lt a1
  have wa1 := Int32.le_toInt a1
  refine wa_iload_n (i := 1) rfl rfl ?_
  refine wa_if_lt o_X2_atomOf_34 (by decide) (fun h1 => ?_) (fun h1 => ?_)
  · refine wa_iconst (v := 0) (by decide) ?_
    refine wa_ireturn rfl rfl ?_
    exact ⟨_, rfl, rfl, trivial⟩
  · refine wa_iload_n (i := 1) rfl rfl ?_
    refine wa_bipush (v := 26) (by decide) ?_
    refine wa_icmp_ge o_X2_atomOf_34 (by decide) (fun h2 => ?_) (fun h2 => ?_)
    · refine wa_iconst (v := 0) (by decide) ?_
      refine wa_ireturn rfl rfl ?_
      exact ⟨_, rfl, rfl, trivial⟩
    · have mh2 := nle_mx h2
      refine wa_iload_n (i := 2) rfl rfl ?_
      refine wa_if_lt o_X2_atomOf_34 (by decide) (fun h3 => ?_) (fun h3 => ?_)
      · refine wa_iconst (v := 0) (by decide) ?_
        refine wa_ireturn rfl rfl ?_
        exact ⟨_, rfl, rfl, trivial⟩
      · refine wa_iload_n (i := 2) rfl rfl ?_
        refine wa_bipush (v := 24) (by decide) ?_
        refine wa_icmp_ge o_X2_atomOf_34 (by decide) (fun h4 => ?_) (fun h4 => ?_)
        · refine wa_iconst (v := 0) (by decide) ?_
          refine wa_ireturn rfl rfl ?_
          exact ⟨_, rfl, rfl, trivial⟩
        · have mh4 := nle_mx h4
          refine wa_aload_n (i := 0) rfl rfl ?_
          refine wa_getr ck_2 fl_2_31 ly_7 rf_7_6 ?_
          refine wa_iload_n (i := 1) rfl rfl ?_
          refine wa_bipush (v := 24) (by decide) ?_
          refine wa_imul ?_
          refine wa_top (fun v5 hv5 => ?_)
          have tv5 := i_mulT hv5
          clear hv5
          refine wa_iload_n (i := 2) rfl rfl ?_
          refine wa_iadd ?_
          refine wa_top (fun v6 hv6 => ?_)
          have tv6 := i_addT hv6
          clear hv6
          refine wa_iald ly_14 (by ((try simp only [vp_in_iff, Int32.lt_iff_toInt_lt, Int32.le_iff_toInt_le, ← Int32.toInt_inj, Int32.reduceToInt, n_1, n_2, n_8, Int32.toNatClampNeg, Int64.lt_iff_toInt_lt, Int64.le_iff_toInt_le, ← Int64.toInt_inj, Int64.reduceToInt, Int32.toInt_toInt64, lg_cmp_ge, lg_cmp_le, lg_cmp_gt, lg_cmp_lt, lg_cmp_eq, Bool.false_eq_true, Bool.true_eq_false, reduceCtorEq, false_iff, true_iff, iff_true, iff_false, and_true, true_and, and_false, false_and, reduceIte, ite_true, ite_false, eq_self] at *)) <;> omega) ?_
          refine wa_goto o_X2_atomOf_35 (by decide) ?_
          refine wa_ireturn rfl rfl ?_
          exact ⟨_, rfl, rfl, trivial⟩
set_option maxHeartbeats 4000000 in
theorem sp_X2_pooled (G : kG9) {d : Nat} (hd : 0 ≤ d) (σ : St) (a0 : Int32) (a1 : Int32) : Ct G M_X2_pooled d [.ref 7, .int a0, .int a1] σ (fun r σ' => ∃ x : Int32, r = some (.int x) ∧ σ = σ' ∧ True) := by
  refine wa_start (by decide) rfl (Nat.le_of_ble_eq_true rfl) (lv := [(0, .ref 7), (1, .int a0), (2, .int a1)]) rfl o_X2_pooled_0 rfl ?_
  have ua0 := Int32.toInt_lt a0
  have wa0 := Int32.le_toInt a0
  have ua1 := Int32.toInt_lt a1
  have wa1 := Int32.le_toInt a1
  refine wa_iload_n (i := 1) rfl rfl ?_
  refine wa_if_lt o_X2_pooled_35 (by decide) (fun h1 => ?_) (fun h1 => ?_)
  · refine wa_iconst (v := 0) (by decide) ?_
    refine wa_ireturn rfl rfl ?_
    exact ⟨_, rfl, rfl, trivial⟩
  · refine wa_iload_n (i := 1) rfl rfl ?_
    refine wa_sipush (v := 640) (by decide) ?_
    refine wa_icmp_ge o_X2_pooled_35 (by decide) (fun h2 => ?_) (fun h2 => ?_)
    · refine wa_iconst (v := 0) (by decide) ?_
      refine wa_ireturn rfl rfl ?_
      exact ⟨_, rfl, rfl, trivial⟩
    · have mh2 := nle_mx h2
      refine wa_iload_n (i := 2) rfl rfl ?_
      refine wa_if_lt o_X2_pooled_35 (by decide) (fun h3 => ?_) (fun h3 => ?_)
      · refine wa_iconst (v := 0) (by decide) ?_
        refine wa_ireturn rfl rfl ?_
        exact ⟨_, rfl, rfl, trivial⟩
      · refine wa_iload_n (i := 2) rfl rfl ?_
        refine wa_bipush (v := 6) (by decide) ?_
        refine wa_icmp_ge o_X2_pooled_35 (by decide) (fun h4 => ?_) (fun h4 => ?_)
        · refine wa_iconst (v := 0) (by decide) ?_
          refine wa_ireturn rfl rfl ?_
          exact ⟨_, rfl, rfl, trivial⟩
        · have mh4 := nle_mx h4
          refine wa_aload_n (i := 0) rfl rfl ?_
          refine wa_getr ck_2 fl_2_34 ly_7 rf_7_7 ?_
          refine wa_iload_n (i := 1) rfl rfl ?_
          refine wa_bipush (v := 6) (by decide) ?_
          refine wa_imul ?_
          refine wa_top (fun v5 hv5 => ?_)
          have tv5 := i_mulT hv5
          clear hv5
          refine wa_iload_n (i := 2) rfl rfl ?_
          refine wa_iadd ?_
          refine wa_top (fun v6 hv6 => ?_)
          have tv6 := i_addT hv6
          clear hv6
          refine wa_iald ly_15 (by ((try simp only [vp_in_iff, Int32.lt_iff_toInt_lt, Int32.le_iff_toInt_le, ← Int32.toInt_inj, Int32.reduceToInt, n_1, n_2, n_8, Int32.toNatClampNeg, Int64.lt_iff_toInt_lt, Int64.le_iff_toInt_le, ← Int64.toInt_inj, Int64.reduceToInt, Int32.toInt_toInt64, lg_cmp_ge, lg_cmp_le, lg_cmp_gt, lg_cmp_lt, lg_cmp_eq, Bool.false_eq_true, Bool.true_eq_false, reduceCtorEq, false_iff, true_iff, iff_true, iff_false, and_true, true_and, and_false, false_and, reduceIte, ite_true, ite_false, eq_self] at *)) <;> omega) ?_
          refine wa_goto o_X2_pooled_36 (by decide) ?_
          refine wa_ireturn rfl rfl ?_
          exact ⟨_, rfl, rfl, trivial⟩
set_option maxHeartbeats 4000000 in
theorem sp_X6_addWork (G : kG9) {d : Nat} (hd : 1 ≤ d) (σ : St) (a0 : Int32) (r1 : 0 ≤ (gi σ 31 13).toInt ∧ (gi σ 31 13).toInt ≤ 3000) : Ct G M_X6_addWork d [.ref 31, .int a0] σ (fun r σ' => ∃ x : Bool, r = some (.int (bI x)) ∧ Sm 31 36 σ σ' ∧ (0 ≤ (gi σ' 31 13).toInt ∧ (gi σ' 31 13).toInt ≤ 3000) ∧ True) := by
  refine wa_start (by decide) rfl (Nat.le_of_ble_eq_true rfl) (lv := [(0, .ref 31), (1, .int a0)]) rfl o_X6_addWork_0 rfl ?_
  have ua0 := Int32.toInt_lt a0
  have wa0 := Int32.le_toInt a0
  refine wa_iconst (v := 0) (by decide) ?_
  refine wa_istore_nD (lv' := [(2, .int 0), (0, .ref 31), (1, .int a0)]) (i := 2) rfl (by decide) rfl ?_
  refine wa_pick [1, 2, 0] rfl ?_
  have hi2 : ∀ (n9_2 : Nat) (l2 : Int32), ((0 ≤ l2.toInt) ∧ (True)) → (2147483647 - l2.toInt).toNat = n9_2 → WA G M_X6_addWork (ZM G M_X6_addWork d (fun r σ' => ∃ x : Bool, r = some (.int (bI x)) ∧ Sm 31 36 σ σ' ∧ (0 ≤ (gi σ' 31 13).toInt ∧ (gi σ' 31 13).toInt ≤ 3000) ∧ True)) B_X6_addWork_2 [(0, .ref 31), (1, .int a0), (2, .int l2)] [] σ := by
    intro n9_2
    induction n9_2 using Nat.strongRecOn with
    | _ n9_2 ih1 =>
      intro l2  i9 m9_2
      obtain ⟨jhi2_0, -⟩ := i9
      have ul2 := Int32.toInt_lt l2
      have wl2 := Int32.le_toInt l2
      refine wa_iload_n (i := 2) rfl rfl ?_
      refine wa_aload_n (i := 0) rfl rfl ?_
      refine wa_geti ck_6 fl_6_76 ly_31 ?_
      refine wa_icmp_ge o_X6_addWork_34 (by decide) (fun h3 => ?_) (fun h3 => ?_)
      · refine wa_aload_n (i := 0) rfl rfl ?_
        refine wa_geti ck_6 fl_6_76 ly_31 ?_
        refine wa_if_lt o_X6_addWork_61 (by decide) (fun h4 => ?_) (fun h4 => ?_)
        · refine wa_iconst (v := 0) (by decide) ?_
          refine wa_zreturn false (rfl) rfl rfl ?_
          exact ⟨_, rfl, (Sm.rf 31 36 σ), (by first | assumption | (((try simp only [vp_in_iff, Int32.lt_iff_toInt_lt, Int32.le_iff_toInt_le, ← Int32.toInt_inj, Int32.reduceToInt, n_1, n_2, n_8, Int32.toNatClampNeg, Int64.lt_iff_toInt_lt, Int64.le_iff_toInt_le, ← Int64.toInt_inj, Int64.reduceToInt, Int32.toInt_toInt64, lg_cmp_ge, lg_cmp_le, lg_cmp_gt, lg_cmp_lt, lg_cmp_eq, Bool.false_eq_true, Bool.true_eq_false, reduceCtorEq, false_iff, true_iff, iff_true, iff_false, and_true, true_and, and_false, false_and, reduceIte, ite_true, ite_false, eq_self] at *)) <;> omega)), trivial⟩
        · refine wa_aload_n (i := 0) rfl rfl ?_
          refine wa_geti ck_6 fl_6_76 ly_31 ?_
          refine wa_bipush (v := 32) (by decide) ?_
          refine wa_icmp_ge o_X6_addWork_61 (by decide) (fun h5 => ?_) (fun h5 => ?_)
          · refine wa_iconst (v := 0) (by decide) ?_
            refine wa_zreturn false (rfl) rfl rfl ?_
            exact ⟨_, rfl, (Sm.rf 31 36 σ), (by first | assumption | (((try simp only [vp_in_iff, Int32.lt_iff_toInt_lt, Int32.le_iff_toInt_le, ← Int32.toInt_inj, Int32.reduceToInt, n_1, n_2, n_8, Int32.toNatClampNeg, Int64.lt_iff_toInt_lt, Int64.le_iff_toInt_le, ← Int64.toInt_inj, Int64.reduceToInt, Int32.toInt_toInt64, lg_cmp_ge, lg_cmp_le, lg_cmp_gt, lg_cmp_lt, lg_cmp_eq, Bool.false_eq_true, Bool.true_eq_false, reduceCtorEq, false_iff, true_iff, iff_true, iff_false, and_true, true_and, and_false, false_and, reduceIte, ite_true, ite_false, eq_self] at *)) <;> omega)), trivial⟩
          · have mh5 := nle_mx h5
            refine wa_iload_n (i := 1) rfl rfl ?_
            refine wa_if_lt o_X6_addWork_61 (by decide) (fun h6 => ?_) (fun h6 => ?_)
            · refine wa_iconst (v := 0) (by decide) ?_
              refine wa_zreturn false (rfl) rfl rfl ?_
              exact ⟨_, rfl, (Sm.rf 31 36 σ), (by first | assumption | (((try simp only [vp_in_iff, Int32.lt_iff_toInt_lt, Int32.le_iff_toInt_le, ← Int32.toInt_inj, Int32.reduceToInt, n_1, n_2, n_8, Int32.toNatClampNeg, Int64.lt_iff_toInt_lt, Int64.le_iff_toInt_le, ← Int64.toInt_inj, Int64.reduceToInt, Int32.toInt_toInt64, lg_cmp_ge, lg_cmp_le, lg_cmp_gt, lg_cmp_lt, lg_cmp_eq, Bool.false_eq_true, Bool.true_eq_false, reduceCtorEq, false_iff, true_iff, iff_true, iff_false, and_true, true_and, and_false, false_and, reduceIte, ite_true, ite_false, eq_self] at *)) <;> omega)), trivial⟩
            · refine wa_iload_n (i := 1) rfl rfl ?_
              refine wa_sipush (v := 640) (by decide) ?_
              refine wa_icmp_lt o_X6_addWork_63 (by decide) (fun h7 => ?_) (fun h7 => ?_)
              · refine wa_aload_n (i := 0) rfl rfl ?_
                refine wa_getr ck_6 fl_6_11 ly_31 rf_31_1 ?_
                refine wa_aload_n (i := 0) rfl rfl ?_
                refine wa_geti ck_6 fl_6_76 ly_31 ?_
                refine wa_iload_n (i := 1) rfl rfl ?_
                refine wa_iast ly_32 (by ((try simp only [vp_in_iff, Int32.lt_iff_toInt_lt, Int32.le_iff_toInt_le, ← Int32.toInt_inj, Int32.reduceToInt, n_1, n_2, n_8, Int32.toNatClampNeg, Int64.lt_iff_toInt_lt, Int64.le_iff_toInt_le, ← Int64.toInt_inj, Int64.reduceToInt, Int32.toInt_toInt64, lg_cmp_ge, lg_cmp_le, lg_cmp_gt, lg_cmp_lt, lg_cmp_eq, Bool.false_eq_true, Bool.true_eq_false, reduceCtorEq, false_iff, true_iff, iff_true, iff_false, and_true, true_and, and_false, false_and, reduceIte, ite_true, ite_false, eq_self] at *)) <;> omega) (fun s8 hs8 => ?_)
                have Fs8 : Sm 31 36 σ s8 := by rw [hs8]; exact Sm.si (Sm.rf 31 36 σ) _ _ (by decide) (by decide)
                refine wa_aload_n (i := 0) rfl rfl ?_
                refine wa_getr ck_6 fl_6_17 ly_31 rf_31_2 ?_
                refine wa_iload_n (i := 1) rfl rfl ?_
                refine wa_aload_n (i := 0) rfl rfl ?_
                refine wa_geti ck_6 fl_6_76 ly_31 ?_
                refine wa_rw (nxq_gi_si hs8 (by decide)) ?_
                refine wa_iast ly_33 (by ((try simp only [vp_in_iff, Int32.lt_iff_toInt_lt, Int32.le_iff_toInt_le, ← Int32.toInt_inj, Int32.reduceToInt, n_1, n_2, n_8, Int32.toNatClampNeg, Int64.lt_iff_toInt_lt, Int64.le_iff_toInt_le, ← Int64.toInt_inj, Int64.reduceToInt, Int32.toInt_toInt64, lg_cmp_ge, lg_cmp_le, lg_cmp_gt, lg_cmp_lt, lg_cmp_eq, Bool.false_eq_true, Bool.true_eq_false, reduceCtorEq, false_iff, true_iff, iff_true, iff_false, and_true, true_and, and_false, false_and, reduceIte, ite_true, ite_false, eq_self] at *)) <;> omega) (fun s9 hs9 => ?_)
                have Fs9 : Sm 31 36 σ s9 := by rw [hs9]; exact Sm.si Fs8 _ _ (by decide) (by decide)
                refine wa_aload_n (i := 0) rfl rfl ?_
                refine wa_getr ck_6 fl_6_20 ly_31 rf_31_3 ?_
                refine wa_aload_n (i := 0) rfl rfl ?_
                refine wa_geti ck_6 fl_6_76 ly_31 ?_
                refine wa_rw ((nxq_gi_si hs9 (by decide)).trans (nxq_gi_si hs8 (by decide))) ?_
                refine wa_aload_n (i := 0) rfl rfl ?_
                refine wa_getr ck_6 fl_6_44 ly_31 rf_31_0 ?_
                refine wa_iload_n (i := 1) rfl rfl ?_
                refine wa_iconst (v := 5) (by decide) ?_
                refine wa_Vi (d9 := d - 1) [.int _, .int _] [.int (gi σ 31 10), .ref 34] (sp_X2_pooled G (d := d - 1) (by omega) s9 _ _) (rfl) rfl rfl (zr (by omega)) mk_X2_pooled ly_7 ml_6_79 (Nat.le_of_ble_eq_true rfl) (fun x11 s10 hs10 => ?_)
                obtain ⟨zs10, -⟩ := pI hs10
                subst zs10
                refine wa_if_ne o_X6_addWork_107 (by decide) (fun h12 => ?_) (fun h12 => ?_)
                · refine wa_iconst (v := 0) (by decide) ?_
                  refine wa_zast false (rfl) ly_34 (by ((try simp only [vp_in_iff, Int32.lt_iff_toInt_lt, Int32.le_iff_toInt_le, ← Int32.toInt_inj, Int32.reduceToInt, n_1, n_2, n_8, Int32.toNatClampNeg, Int64.lt_iff_toInt_lt, Int64.le_iff_toInt_le, ← Int64.toInt_inj, Int64.reduceToInt, Int32.toInt_toInt64, lg_cmp_ge, lg_cmp_le, lg_cmp_gt, lg_cmp_lt, lg_cmp_eq, Bool.false_eq_true, Bool.true_eq_false, reduceCtorEq, false_iff, true_iff, iff_true, iff_false, and_true, true_and, and_false, false_and, reduceIte, ite_true, ite_false, eq_self] at *)) <;> omega) (fun s13 hs13 => ?_)
                  have Fs13 : Sm 31 36 σ s13 := by rw [hs13]; exact Sm.sb Fs9 _ _ (by decide) (by decide)
                  refine wa_iconst (v := 0) (by decide) ?_
                  refine wa_istore_nD (lv' := [(2, .int 0), (0, .ref 31), (1, .int a0)]) (i := 2) rfl (by decide) rfl ?_
                  refine wa_pick [1, 2, 0] rfl ?_
                  have hi16 : ∀ (n9_111 : Nat) (l2 : Int32) (s14 : St), ((Sm 31 36 σ s14) ∧ (gi s14 31 13 = gi σ 31 13) ∧ (gi s14 31 10 = gi σ 31 10) ∧ (0 ≤ l2.toInt) ∧ (True)) → (2147483647 - l2.toInt).toNat = n9_111 → WA G M_X6_addWork (ZM G M_X6_addWork d (fun r σ' => ∃ x : Bool, r = some (.int (bI x)) ∧ Sm 31 36 σ σ' ∧ (0 ≤ (gi σ' 31 13).toInt ∧ (gi σ' 31 13).toInt ≤ 3000) ∧ True)) B_X6_addWork_111 [(0, .ref 31), (1, .int a0), (2, .int l2)] [] s14 := by
                    intro n9_111
                    induction n9_111 using Nat.strongRecOn with
                    | _ n9_111 ih15 =>
                      intro l2 s14 i9 m9_111
                      obtain ⟨Fs14, khi16_0, khi16_1, jhi16_0, -⟩ := i9
                      have ul2 := Int32.toInt_lt l2
                      have wl2 := Int32.le_toInt l2
                      refine wa_iload_n (i := 2) rfl rfl ?_
                      refine wa_bipush (v := 16) (by decide) ?_
                      refine wa_icmp_ge o_X6_addWork_175 (by decide) (fun h17 => ?_) (fun h17 => ?_)
                      · refine wa_aload_n (i := 0) rfl rfl ?_
                        refine wa_dup rfl ?_
                        refine wa_geti ck_6 fl_6_76 ly_31 ?_
                        refine wa_rw (khi16_1) ?_
                        refine wa_iconst (v := 1) (by decide) ?_
                        refine wa_iadd ?_
                        refine wa_top (fun v18 hv18 => ?_)
                        have tv18 := i_addT hv18
                        clear hv18
                        refine wa_puti ck_6 fl_6_76 ly_31 (fun s19 hs19 => ?_)
                        have Fs19 : Sm 31 36 σ s19 := by rw [hs19]; exact Sm.si Fs14 _ _ (by decide) (by decide)
                        refine wa_iconst (v := 1) (by decide) ?_
                        refine wa_zreturn true (rfl) rfl rfl ?_
                        exact ⟨_, rfl, Fs19, (by rw [(nxk_gi_si hs19 (by decide)).trans (khi16_0)]; first | assumption | (((try simp only [vp_in_iff, Int32.lt_iff_toInt_lt, Int32.le_iff_toInt_le, ← Int32.toInt_inj, Int32.reduceToInt, n_1, n_2, n_8, Int32.toNatClampNeg, Int64.lt_iff_toInt_lt, Int64.le_iff_toInt_le, ← Int64.toInt_inj, Int64.reduceToInt, Int32.toInt_toInt64, lg_cmp_ge, lg_cmp_le, lg_cmp_gt, lg_cmp_lt, lg_cmp_eq, Bool.false_eq_true, Bool.true_eq_false, reduceCtorEq, false_iff, true_iff, iff_true, iff_false, and_true, true_and, and_false, false_and, reduceIte, ite_true, ite_false, eq_self] at *)) <;> omega)), trivial⟩
                      · have mh17 := nle_mx h17
                        refine wa_iconst (v := 0) (by decide) ?_
                        refine wa_istore_nD (lv' := [(3, .int 0), (0, .ref 31), (1, .int a0), (2, .int l2)]) (i := 3) rfl (by decide) rfl ?_
                        refine wa_iconst (v := 0) (by decide) ?_
                        refine wa_istoreD (lv' := [(4, .int 0), (3, .int 0), (0, .ref 31), (1, .int a0), (2, .int l2)]) (by decide) rfl ?_
                        refine wa_pick [2, 3, 4, 1, 0] rfl ?_
                        have hi22 : ∀ (n9_122 : Nat) (l3 : Int32) (l4 : Int32) (s20 : St), ((Sm 31 36 σ s20) ∧ (gi s20 31 13 = gi σ 31 13) ∧ (gi s20 31 10 = gi σ 31 10) ∧ (0 ≤ l4.toInt) ∧ (True)) → (2147483647 - l4.toInt).toNat = n9_122 → WA G M_X6_addWork (ZM G M_X6_addWork d (fun r σ' => ∃ x : Bool, r = some (.int (bI x)) ∧ Sm 31 36 σ σ' ∧ (0 ≤ (gi σ' 31 13).toInt ∧ (gi σ' 31 13).toInt ≤ 3000) ∧ True)) B_X6_addWork_122 [(0, .ref 31), (1, .int a0), (2, .int l2), (3, .int l3), (4, .int l4)] [] s20 := by
                          intro n9_122
                          induction n9_122 using Nat.strongRecOn with
                          | _ n9_122 ih21 =>
                            intro l3 l4 s20 i9 m9_122
                            obtain ⟨Fs20, khi22_0, khi22_1, jhi22_0, -⟩ := i9
                            have ul3 := Int32.toInt_lt l3
                            have wl3 := Int32.le_toInt l3
                            have ul4 := Int32.toInt_lt l4
                            have wl4 := Int32.le_toInt l4
                            refine wa_iload rfl ?_
                            refine wa_iconst (v := 4) (by decide) ?_
                            refine wa_icmp_ge o_X6_addWork_154 (by decide) (fun h23 => ?_) (fun h23 => ?_)
                            · refine wa_aload_n (i := 0) rfl rfl ?_
                              refine wa_getr ck_6 fl_6_24 ly_31 rf_31_4 ?_
                              refine wa_iload_n (i := 2) rfl rfl ?_
                              refine wa_bipush (v := 32) (by decide) ?_
                              refine wa_imul ?_
                              refine wa_top (fun v24 hv24 => ?_)
                              have tv24 := i_mulT hv24
                              clear hv24
                              refine wa_aload_n (i := 0) rfl rfl ?_
                              refine wa_geti ck_6 fl_6_76 ly_31 ?_
                              refine wa_rw (khi22_1) ?_
                              refine wa_iadd ?_
                              refine wa_top (fun v25 hv25 => ?_)
                              have tv25 := i_addT hv25
                              clear hv25
                              refine wa_iload_n (i := 3) rfl rfl ?_
                              refine wa_iast ly_35 (by ((try simp only [vp_in_iff, Int32.lt_iff_toInt_lt, Int32.le_iff_toInt_le, ← Int32.toInt_inj, Int32.reduceToInt, n_1, n_2, n_8, Int32.toNatClampNeg, Int64.lt_iff_toInt_lt, Int64.le_iff_toInt_le, ← Int64.toInt_inj, Int64.reduceToInt, Int32.toInt_toInt64, lg_cmp_ge, lg_cmp_le, lg_cmp_gt, lg_cmp_lt, lg_cmp_eq, Bool.false_eq_true, Bool.true_eq_false, reduceCtorEq, false_iff, true_iff, iff_true, iff_false, and_true, true_and, and_false, false_and, reduceIte, ite_true, ite_false, eq_self] at *)) <;> omega) (fun s26 hs26 => ?_)
                              have Fs26 : Sm 31 36 σ s26 := by rw [hs26]; exact Sm.si Fs20 _ _ (by decide) (by decide)
                              refine wa_iinc (v := (1)) (lv' := fun y27 => [(2, .int y27), (0, .ref 31), (1, .int a0), (3, .int l3), (4, .int l4)]) (by decide) rfl (by decide) (fun _ => rfl) (fun y27 hy27 => ?_)
                              have ty27 := i_addT hy27.symm
                              clear hy27
                              refine wa_goto o_X6_addWork_111 (by decide) ?_
                              refine wa_pick [1, 2, 0] rfl ?_
                              exact ih15 _ (by ((try simp only [vp_in_iff, Int32.lt_iff_toInt_lt, Int32.le_iff_toInt_le, ← Int32.toInt_inj, Int32.reduceToInt, n_1, n_2, n_8, Int32.toNatClampNeg, Int64.lt_iff_toInt_lt, Int64.le_iff_toInt_le, ← Int64.toInt_inj, Int64.reduceToInt, Int32.toInt_toInt64, lg_cmp_ge, lg_cmp_le, lg_cmp_gt, lg_cmp_lt, lg_cmp_eq, Bool.false_eq_true, Bool.true_eq_false, reduceCtorEq, false_iff, true_iff, iff_true, iff_false, and_true, true_and, and_false, false_and, reduceIte, ite_true, ite_false, eq_self] at *)) <;> omega) _ _ ⟨Fs26, ((nxq_gi_si hs26 (by decide)).trans (khi22_0)), ((nxq_gi_si hs26 (by decide)).trans (khi22_1)), (by ((try simp only [vp_in_iff, Int32.lt_iff_toInt_lt, Int32.le_iff_toInt_le, ← Int32.toInt_inj, Int32.reduceToInt, n_1, n_2, n_8, Int32.toNatClampNeg, Int64.lt_iff_toInt_lt, Int64.le_iff_toInt_le, ← Int64.toInt_inj, Int64.reduceToInt, Int32.toInt_toInt64, lg_cmp_ge, lg_cmp_le, lg_cmp_gt, lg_cmp_lt, lg_cmp_eq, Bool.false_eq_true, Bool.true_eq_false, reduceCtorEq, false_iff, true_iff, iff_true, iff_false, and_true, true_and, and_false, false_and, reduceIte, ite_true, ite_false, eq_self] at *)) <;> omega), trivial⟩ rfl
                            · have mh23 := nle_mx h23
                              refine wa_iload_n (i := 3) rfl rfl ?_
                              refine wa_iload_n (i := 2) rfl rfl ?_
                              refine wa_iload rfl ?_
                              refine wa_iushr ?_
                              refine wa_top (fun v28 hv28 => ?_)
                              clear hv28
                              refine wa_iconst (v := 1) (by decide) ?_
                              refine wa_iand ?_
                              refine wa_top (fun v29 hv29 => ?_)
                              have tv29 := i_andT hv29
                              clear hv29
                              refine wa_aload_n (i := 0) rfl rfl ?_
                              refine wa_getr ck_6 fl_6_44 ly_31 rf_31_0 ?_
                              refine wa_iload_n (i := 1) rfl rfl ?_
                              refine wa_iload rfl ?_
                              refine wa_Vi (d9 := d - 1) [.int _, .int _] [.int v29, .int l3] (sp_X2_pooled G (d := d - 1) (by omega) s20 _ _) (rfl) rfl rfl (zr (by omega)) mk_X2_pooled ly_7 ml_6_79 (Nat.le_of_ble_eq_true rfl) (fun x31 s30 hs30 => ?_)
                              obtain ⟨zs30, -⟩ := pI hs30
                              subst zs30
                              refine wa_imul ?_
                              refine wa_top (fun v32 hv32 => ?_)
                              have tv32 := i_mulT hv32
                              clear hv32
                              refine wa_iadd ?_
                              refine wa_top (fun v33 hv33 => ?_)
                              have tv33 := i_addT hv33
                              clear hv33
                              refine wa_istore_nD (lv' := [(3, .int v33), (0, .ref 31), (1, .int a0), (2, .int l2), (4, .int l4)]) (i := 3) rfl (by decide) rfl ?_
                              refine wa_iinc (v := (1)) (lv' := fun y34 => [(4, .int y34), (3, .int v33), (0, .ref 31), (1, .int a0), (2, .int l2)]) (by decide) rfl (by decide) (fun _ => rfl) (fun y34 hy34 => ?_)
                              have ty34 := i_addT hy34.symm
                              clear hy34
                              refine wa_goto o_X6_addWork_122 (by decide) ?_
                              refine wa_pick [2, 3, 4, 1, 0] rfl ?_
                              exact ih21 _ (by ((try simp only [vp_in_iff, Int32.lt_iff_toInt_lt, Int32.le_iff_toInt_le, ← Int32.toInt_inj, Int32.reduceToInt, n_1, n_2, n_8, Int32.toNatClampNeg, Int64.lt_iff_toInt_lt, Int64.le_iff_toInt_le, ← Int64.toInt_inj, Int64.reduceToInt, Int32.toInt_toInt64, lg_cmp_ge, lg_cmp_le, lg_cmp_gt, lg_cmp_lt, lg_cmp_eq, Bool.false_eq_true, Bool.true_eq_false, reduceCtorEq, false_iff, true_iff, iff_true, iff_false, and_true, true_and, and_false, false_and, reduceIte, ite_true, ite_false, eq_self] at *)) <;> omega) _ _ _ ⟨Fs20, (khi22_0), (khi22_1), (by ((try simp only [vp_in_iff, Int32.lt_iff_toInt_lt, Int32.le_iff_toInt_le, ← Int32.toInt_inj, Int32.reduceToInt, n_1, n_2, n_8, Int32.toNatClampNeg, Int64.lt_iff_toInt_lt, Int64.le_iff_toInt_le, ← Int64.toInt_inj, Int64.reduceToInt, Int32.toInt_toInt64, lg_cmp_ge, lg_cmp_le, lg_cmp_gt, lg_cmp_lt, lg_cmp_eq, Bool.false_eq_true, Bool.true_eq_false, reduceCtorEq, false_iff, true_iff, iff_true, iff_false, and_true, true_and, and_false, false_and, reduceIte, ite_true, ite_false, eq_self] at *)) <;> omega), trivial⟩ rfl
                        exact hi22 _ _ _ _ ⟨Fs14, (khi16_0), (khi16_1), (by ((try simp only [vp_in_iff, Int32.lt_iff_toInt_lt, Int32.le_iff_toInt_le, ← Int32.toInt_inj, Int32.reduceToInt, n_1, n_2, n_8, Int32.toNatClampNeg, Int64.lt_iff_toInt_lt, Int64.le_iff_toInt_le, ← Int64.toInt_inj, Int64.reduceToInt, Int32.toInt_toInt64, lg_cmp_ge, lg_cmp_le, lg_cmp_gt, lg_cmp_lt, lg_cmp_eq, Bool.false_eq_true, Bool.true_eq_false, reduceCtorEq, false_iff, true_iff, iff_true, iff_false, and_true, true_and, and_false, false_and, reduceIte, ite_true, ite_false, eq_self] at *)) <;> omega), trivial⟩ rfl
                  exact hi16 _ _ _ ⟨Fs13, ((nx_gi_sb hs13).trans ((nxq_gi_si hs9 (by decide)).trans (nxq_gi_si hs8 (by decide)))), ((nx_gi_sb hs13).trans ((nxq_gi_si hs9 (by decide)).trans (nxq_gi_si hs8 (by decide)))), (by ((try simp only [vp_in_iff, Int32.lt_iff_toInt_lt, Int32.le_iff_toInt_le, ← Int32.toInt_inj, Int32.reduceToInt, n_1, n_2, n_8, Int32.toNatClampNeg, Int64.lt_iff_toInt_lt, Int64.le_iff_toInt_le, ← Int64.toInt_inj, Int64.reduceToInt, Int32.toInt_toInt64, lg_cmp_ge, lg_cmp_le, lg_cmp_gt, lg_cmp_lt, lg_cmp_eq, Bool.false_eq_true, Bool.true_eq_false, reduceCtorEq, false_iff, true_iff, iff_true, iff_false, and_true, true_and, and_false, false_and, reduceIte, ite_true, ite_false, eq_self] at *)) <;> omega), trivial⟩ rfl
                · refine wa_iconst (v := 1) (by decide) ?_
                  refine wa_goto o_X6_addWork_108 (by decide) ?_
                  refine wa_zast true (rfl) ly_34 (by ((try simp only [vp_in_iff, Int32.lt_iff_toInt_lt, Int32.le_iff_toInt_le, ← Int32.toInt_inj, Int32.reduceToInt, n_1, n_2, n_8, Int32.toNatClampNeg, Int64.lt_iff_toInt_lt, Int64.le_iff_toInt_le, ← Int64.toInt_inj, Int64.reduceToInt, Int32.toInt_toInt64, lg_cmp_ge, lg_cmp_le, lg_cmp_gt, lg_cmp_lt, lg_cmp_eq, Bool.false_eq_true, Bool.true_eq_false, reduceCtorEq, false_iff, true_iff, iff_true, iff_false, and_true, true_and, and_false, false_and, reduceIte, ite_true, ite_false, eq_self] at *)) <;> omega) (fun s35 hs35 => ?_)
                  have Fs35 : Sm 31 36 σ s35 := by rw [hs35]; exact Sm.sb Fs9 _ _ (by decide) (by decide)
                  refine wa_iconst (v := 0) (by decide) ?_
                  refine wa_istore_nD (lv' := [(2, .int 0), (0, .ref 31), (1, .int a0)]) (i := 2) rfl (by decide) rfl ?_
                  refine wa_pick [1, 2, 0] rfl ?_
                  have hi38 : ∀ (n9_111 : Nat) (l2 : Int32) (s36 : St), ((Sm 31 36 σ s36) ∧ (gi s36 31 13 = gi σ 31 13) ∧ (gi s36 31 10 = gi σ 31 10) ∧ (0 ≤ l2.toInt) ∧ (True)) → (2147483647 - l2.toInt).toNat = n9_111 → WA G M_X6_addWork (ZM G M_X6_addWork d (fun r σ' => ∃ x : Bool, r = some (.int (bI x)) ∧ Sm 31 36 σ σ' ∧ (0 ≤ (gi σ' 31 13).toInt ∧ (gi σ' 31 13).toInt ≤ 3000) ∧ True)) B_X6_addWork_111 [(0, .ref 31), (1, .int a0), (2, .int l2)] [] s36 := by
                    intro n9_111
                    induction n9_111 using Nat.strongRecOn with
                    | _ n9_111 ih37 =>
                      intro l2 s36 i9 m9_111
                      obtain ⟨Fs36, khi38_0, khi38_1, jhi38_0, -⟩ := i9
                      have ul2 := Int32.toInt_lt l2
                      have wl2 := Int32.le_toInt l2
                      refine wa_iload_n (i := 2) rfl rfl ?_
                      refine wa_bipush (v := 16) (by decide) ?_
                      refine wa_icmp_ge o_X6_addWork_175 (by decide) (fun h39 => ?_) (fun h39 => ?_)
                      · refine wa_aload_n (i := 0) rfl rfl ?_
                        refine wa_dup rfl ?_
                        refine wa_geti ck_6 fl_6_76 ly_31 ?_
                        refine wa_rw (khi38_1) ?_
                        refine wa_iconst (v := 1) (by decide) ?_
                        refine wa_iadd ?_
                        refine wa_top (fun v40 hv40 => ?_)
                        have tv40 := i_addT hv40
                        clear hv40
                        refine wa_puti ck_6 fl_6_76 ly_31 (fun s41 hs41 => ?_)
                        have Fs41 : Sm 31 36 σ s41 := by rw [hs41]; exact Sm.si Fs36 _ _ (by decide) (by decide)
                        refine wa_iconst (v := 1) (by decide) ?_
                        refine wa_zreturn true (rfl) rfl rfl ?_
                        exact ⟨_, rfl, Fs41, (by rw [(nxk_gi_si hs41 (by decide)).trans (khi38_0)]; first | assumption | (((try simp only [vp_in_iff, Int32.lt_iff_toInt_lt, Int32.le_iff_toInt_le, ← Int32.toInt_inj, Int32.reduceToInt, n_1, n_2, n_8, Int32.toNatClampNeg, Int64.lt_iff_toInt_lt, Int64.le_iff_toInt_le, ← Int64.toInt_inj, Int64.reduceToInt, Int32.toInt_toInt64, lg_cmp_ge, lg_cmp_le, lg_cmp_gt, lg_cmp_lt, lg_cmp_eq, Bool.false_eq_true, Bool.true_eq_false, reduceCtorEq, false_iff, true_iff, iff_true, iff_false, and_true, true_and, and_false, false_and, reduceIte, ite_true, ite_false, eq_self] at *)) <;> omega)), trivial⟩
                      · have mh39 := nle_mx h39
                        refine wa_iconst (v := 0) (by decide) ?_
                        refine wa_istore_nD (lv' := [(3, .int 0), (0, .ref 31), (1, .int a0), (2, .int l2)]) (i := 3) rfl (by decide) rfl ?_
                        refine wa_iconst (v := 0) (by decide) ?_
                        refine wa_istoreD (lv' := [(4, .int 0), (3, .int 0), (0, .ref 31), (1, .int a0), (2, .int l2)]) (by decide) rfl ?_
                        refine wa_pick [2, 3, 4, 1, 0] rfl ?_
                        have hi44 : ∀ (n9_122 : Nat) (l3 : Int32) (l4 : Int32) (s42 : St), ((Sm 31 36 σ s42) ∧ (gi s42 31 13 = gi σ 31 13) ∧ (gi s42 31 10 = gi σ 31 10) ∧ (0 ≤ l4.toInt) ∧ (True)) → (2147483647 - l4.toInt).toNat = n9_122 → WA G M_X6_addWork (ZM G M_X6_addWork d (fun r σ' => ∃ x : Bool, r = some (.int (bI x)) ∧ Sm 31 36 σ σ' ∧ (0 ≤ (gi σ' 31 13).toInt ∧ (gi σ' 31 13).toInt ≤ 3000) ∧ True)) B_X6_addWork_122 [(0, .ref 31), (1, .int a0), (2, .int l2), (3, .int l3), (4, .int l4)] [] s42 := by
                          intro n9_122
                          induction n9_122 using Nat.strongRecOn with
                          | _ n9_122 ih43 =>
                            intro l3 l4 s42 i9 m9_122
                            obtain ⟨Fs42, khi44_0, khi44_1, jhi44_0, -⟩ := i9
                            have ul3 := Int32.toInt_lt l3
                            have wl3 := Int32.le_toInt l3
                            have ul4 := Int32.toInt_lt l4
                            have wl4 := Int32.le_toInt l4
                            refine wa_iload rfl ?_
                            refine wa_iconst (v := 4) (by decide) ?_
                            refine wa_icmp_ge o_X6_addWork_154 (by decide) (fun h45 => ?_) (fun h45 => ?_)
                            · refine wa_aload_n (i := 0) rfl rfl ?_
                              refine wa_getr ck_6 fl_6_24 ly_31 rf_31_4 ?_
                              refine wa_iload_n (i := 2) rfl rfl ?_
                              refine wa_bipush (v := 32) (by decide) ?_
                              refine wa_imul ?_
                              refine wa_top (fun v46 hv46 => ?_)
                              have tv46 := i_mulT hv46
                              clear hv46
                              refine wa_aload_n (i := 0) rfl rfl ?_
                              refine wa_geti ck_6 fl_6_76 ly_31 ?_
                              refine wa_rw (khi44_1) ?_
                              refine wa_iadd ?_
                              refine wa_top (fun v47 hv47 => ?_)
                              have tv47 := i_addT hv47
                              clear hv47
                              refine wa_iload_n (i := 3) rfl rfl ?_
                              refine wa_iast ly_35 (by ((try simp only [vp_in_iff, Int32.lt_iff_toInt_lt, Int32.le_iff_toInt_le, ← Int32.toInt_inj, Int32.reduceToInt, n_1, n_2, n_8, Int32.toNatClampNeg, Int64.lt_iff_toInt_lt, Int64.le_iff_toInt_le, ← Int64.toInt_inj, Int64.reduceToInt, Int32.toInt_toInt64, lg_cmp_ge, lg_cmp_le, lg_cmp_gt, lg_cmp_lt, lg_cmp_eq, Bool.false_eq_true, Bool.true_eq_false, reduceCtorEq, false_iff, true_iff, iff_true, iff_false, and_true, true_and, and_false, false_and, reduceIte, ite_true, ite_false, eq_self] at *)) <;> omega) (fun s48 hs48 => ?_)
                              have Fs48 : Sm 31 36 σ s48 := by rw [hs48]; exact Sm.si Fs42 _ _ (by decide) (by decide)
                              refine wa_iinc (v := (1)) (lv' := fun y49 => [(2, .int y49), (0, .ref 31), (1, .int a0), (3, .int l3), (4, .int l4)]) (by decide) rfl (by decide) (fun _ => rfl) (fun y49 hy49 => ?_)
                              have ty49 := i_addT hy49.symm
                              clear hy49
                              refine wa_goto o_X6_addWork_111 (by decide) ?_
                              refine wa_pick [1, 2, 0] rfl ?_
                              exact ih37 _ (by ((try simp only [vp_in_iff, Int32.lt_iff_toInt_lt, Int32.le_iff_toInt_le, ← Int32.toInt_inj, Int32.reduceToInt, n_1, n_2, n_8, Int32.toNatClampNeg, Int64.lt_iff_toInt_lt, Int64.le_iff_toInt_le, ← Int64.toInt_inj, Int64.reduceToInt, Int32.toInt_toInt64, lg_cmp_ge, lg_cmp_le, lg_cmp_gt, lg_cmp_lt, lg_cmp_eq, Bool.false_eq_true, Bool.true_eq_false, reduceCtorEq, false_iff, true_iff, iff_true, iff_false, and_true, true_and, and_false, false_and, reduceIte, ite_true, ite_false, eq_self] at *)) <;> omega) _ _ ⟨Fs48, ((nxq_gi_si hs48 (by decide)).trans (khi44_0)), ((nxq_gi_si hs48 (by decide)).trans (khi44_1)), (by ((try simp only [vp_in_iff, Int32.lt_iff_toInt_lt, Int32.le_iff_toInt_le, ← Int32.toInt_inj, Int32.reduceToInt, n_1, n_2, n_8, Int32.toNatClampNeg, Int64.lt_iff_toInt_lt, Int64.le_iff_toInt_le, ← Int64.toInt_inj, Int64.reduceToInt, Int32.toInt_toInt64, lg_cmp_ge, lg_cmp_le, lg_cmp_gt, lg_cmp_lt, lg_cmp_eq, Bool.false_eq_true, Bool.true_eq_false, reduceCtorEq, false_iff, true_iff, iff_true, iff_false, and_true, true_and, and_false, false_and, reduceIte, ite_true, ite_false, eq_self] at *)) <;> omega), trivial⟩ rfl
                            · have mh45 := nle_mx h45
                              refine wa_iload_n (i := 3) rfl rfl ?_
                              refine wa_iload_n (i := 2) rfl rfl ?_
                              refine wa_iload rfl ?_
                              refine wa_iushr ?_
                              refine wa_top (fun v50 hv50 => ?_)
                              clear hv50
                              refine wa_iconst (v := 1) (by decide) ?_
                              refine wa_iand ?_
                              refine wa_top (fun v51 hv51 => ?_)
                              have tv51 := i_andT hv51
                              clear hv51
                              refine wa_aload_n (i := 0) rfl rfl ?_
                              refine wa_getr ck_6 fl_6_44 ly_31 rf_31_0 ?_
                              refine wa_iload_n (i := 1) rfl rfl ?_
                              refine wa_iload rfl ?_
                              refine wa_Vi (d9 := d - 1) [.int _, .int _] [.int v51, .int l3] (sp_X2_pooled G (d := d - 1) (by omega) s42 _ _) (rfl) rfl rfl (zr (by omega)) mk_X2_pooled ly_7 ml_6_79 (Nat.le_of_ble_eq_true rfl) (fun x53 s52 hs52 => ?_)
                              obtain ⟨zs52, -⟩ := pI hs52
                              subst zs52
                              refine wa_imul ?_
                              refine wa_top (fun v54 hv54 => ?_)
                              have tv54 := i_mulT hv54
                              clear hv54
                              refine wa_iadd ?_
                              refine wa_top (fun v55 hv55 => ?_)
                              have tv55 := i_addT hv55
                              clear hv55
                              refine wa_istore_nD (lv' := [(3, .int v55), (0, .ref 31), (1, .int a0), (2, .int l2), (4, .int l4)]) (i := 3) rfl (by decide) rfl ?_
                              refine wa_iinc (v := (1)) (lv' := fun y56 => [(4, .int y56), (3, .int v55), (0, .ref 31), (1, .int a0), (2, .int l2)]) (by decide) rfl (by decide) (fun _ => rfl) (fun y56 hy56 => ?_)
                              have ty56 := i_addT hy56.symm
                              clear hy56
                              refine wa_goto o_X6_addWork_122 (by decide) ?_
                              refine wa_pick [2, 3, 4, 1, 0] rfl ?_
                              exact ih43 _ (by ((try simp only [vp_in_iff, Int32.lt_iff_toInt_lt, Int32.le_iff_toInt_le, ← Int32.toInt_inj, Int32.reduceToInt, n_1, n_2, n_8, Int32.toNatClampNeg, Int64.lt_iff_toInt_lt, Int64.le_iff_toInt_le, ← Int64.toInt_inj, Int64.reduceToInt, Int32.toInt_toInt64, lg_cmp_ge, lg_cmp_le, lg_cmp_gt, lg_cmp_lt, lg_cmp_eq, Bool.false_eq_true, Bool.true_eq_false, reduceCtorEq, false_iff, true_iff, iff_true, iff_false, and_true, true_and, and_false, false_and, reduceIte, ite_true, ite_false, eq_self] at *)) <;> omega) _ _ _ ⟨Fs42, (khi44_0), (khi44_1), (by ((try simp only [vp_in_iff, Int32.lt_iff_toInt_lt, Int32.le_iff_toInt_le, ← Int32.toInt_inj, Int32.reduceToInt, n_1, n_2, n_8, Int32.toNatClampNeg, Int64.lt_iff_toInt_lt, Int64.le_iff_toInt_le, ← Int64.toInt_inj, Int64.reduceToInt, Int32.toInt_toInt64, lg_cmp_ge, lg_cmp_le, lg_cmp_gt, lg_cmp_lt, lg_cmp_eq, Bool.false_eq_true, Bool.true_eq_false, reduceCtorEq, false_iff, true_iff, iff_true, iff_false, and_true, true_and, and_false, false_and, reduceIte, ite_true, ite_false, eq_self] at *)) <;> omega), trivial⟩ rfl
                        exact hi44 _ _ _ _ ⟨Fs36, (khi38_0), (khi38_1), (by ((try simp only [vp_in_iff, Int32.lt_iff_toInt_lt, Int32.le_iff_toInt_le, ← Int32.toInt_inj, Int32.reduceToInt, n_1, n_2, n_8, Int32.toNatClampNeg, Int64.lt_iff_toInt_lt, Int64.le_iff_toInt_le, ← Int64.toInt_inj, Int64.reduceToInt, Int32.toInt_toInt64, lg_cmp_ge, lg_cmp_le, lg_cmp_gt, lg_cmp_lt, lg_cmp_eq, Bool.false_eq_true, Bool.true_eq_false, reduceCtorEq, false_iff, true_iff, iff_true, iff_false, and_true, true_and, and_false, false_and, reduceIte, ite_true, ite_false, eq_self] at *)) <;> omega), trivial⟩ rfl
                  exact hi38 _ _ _ ⟨Fs35, ((nx_gi_sb hs35).trans ((nxq_gi_si hs9 (by decide)).trans (nxq_gi_si hs8 (by decide)))), ((nx_gi_sb hs35).trans ((nxq_gi_si hs9 (by decide)).trans (nxq_gi_si hs8 (by decide)))), (by ((try simp only [vp_in_iff, Int32.lt_iff_toInt_lt, Int32.le_iff_toInt_le, ← Int32.toInt_inj, Int32.reduceToInt, n_1, n_2, n_8, Int32.toNatClampNeg, Int64.lt_iff_toInt_lt, Int64.le_iff_toInt_le, ← Int64.toInt_inj, Int64.reduceToInt, Int32.toInt_toInt64, lg_cmp_ge, lg_cmp_le, lg_cmp_gt, lg_cmp_lt, lg_cmp_eq, Bool.false_eq_true, Bool.true_eq_false, reduceCtorEq, false_iff, true_iff, iff_true, iff_false, and_true, true_and, and_false, false_and, reduceIte, ite_true, ite_false, eq_self] at *)) <;> omega), trivial⟩ rfl
              · refine wa_iconst (v := 0) (by decide) ?_
                refine wa_zreturn false (rfl) rfl rfl ?_
                exact ⟨_, rfl, (Sm.rf 31 36 σ), (by first | assumption | (((try simp only [vp_in_iff, Int32.lt_iff_toInt_lt, Int32.le_iff_toInt_le, ← Int32.toInt_inj, Int32.reduceToInt, n_1, n_2, n_8, Int32.toNatClampNeg, Int64.lt_iff_toInt_lt, Int64.le_iff_toInt_le, ← Int64.toInt_inj, Int64.reduceToInt, Int32.toInt_toInt64, lg_cmp_ge, lg_cmp_le, lg_cmp_gt, lg_cmp_lt, lg_cmp_eq, Bool.false_eq_true, Bool.true_eq_false, reduceCtorEq, false_iff, true_iff, iff_true, iff_false, and_true, true_and, and_false, false_and, reduceIte, ite_true, ite_false, eq_self] at *)) <;> omega)), trivial⟩
      · have mh3 := nle_mx h3
        refine wa_iload_n (i := 2) rfl rfl ?_
        refine wa_bipush (v := 32) (by decide) ?_
        refine wa_icmp_ge o_X6_addWork_34 (by decide) (fun h57 => ?_) (fun h57 => ?_)
        · refine wa_aload_n (i := 0) rfl rfl ?_
          refine wa_geti ck_6 fl_6_76 ly_31 ?_
          refine wa_if_lt o_X6_addWork_61 (by decide) (fun h58 => ?_) (fun h58 => ?_)
          · refine wa_iconst (v := 0) (by decide) ?_
            refine wa_zreturn false (rfl) rfl rfl ?_
            exact ⟨_, rfl, (Sm.rf 31 36 σ), (by first | assumption | (((try simp only [vp_in_iff, Int32.lt_iff_toInt_lt, Int32.le_iff_toInt_le, ← Int32.toInt_inj, Int32.reduceToInt, n_1, n_2, n_8, Int32.toNatClampNeg, Int64.lt_iff_toInt_lt, Int64.le_iff_toInt_le, ← Int64.toInt_inj, Int64.reduceToInt, Int32.toInt_toInt64, lg_cmp_ge, lg_cmp_le, lg_cmp_gt, lg_cmp_lt, lg_cmp_eq, Bool.false_eq_true, Bool.true_eq_false, reduceCtorEq, false_iff, true_iff, iff_true, iff_false, and_true, true_and, and_false, false_and, reduceIte, ite_true, ite_false, eq_self] at *)) <;> omega)), trivial⟩
          · refine wa_aload_n (i := 0) rfl rfl ?_
            refine wa_geti ck_6 fl_6_76 ly_31 ?_
            refine wa_bipush (v := 32) (by decide) ?_
            refine wa_icmp_ge o_X6_addWork_61 (by decide) (fun h59 => ?_) (fun h59 => ?_)
            · refine wa_iconst (v := 0) (by decide) ?_
              refine wa_zreturn false (rfl) rfl rfl ?_
              exact ⟨_, rfl, (Sm.rf 31 36 σ), (by first | assumption | (((try simp only [vp_in_iff, Int32.lt_iff_toInt_lt, Int32.le_iff_toInt_le, ← Int32.toInt_inj, Int32.reduceToInt, n_1, n_2, n_8, Int32.toNatClampNeg, Int64.lt_iff_toInt_lt, Int64.le_iff_toInt_le, ← Int64.toInt_inj, Int64.reduceToInt, Int32.toInt_toInt64, lg_cmp_ge, lg_cmp_le, lg_cmp_gt, lg_cmp_lt, lg_cmp_eq, Bool.false_eq_true, Bool.true_eq_false, reduceCtorEq, false_iff, true_iff, iff_true, iff_false, and_true, true_and, and_false, false_and, reduceIte, ite_true, ite_false, eq_self] at *)) <;> omega)), trivial⟩
            · have mh59 := nle_mx h59
              refine wa_iload_n (i := 1) rfl rfl ?_
              refine wa_if_lt o_X6_addWork_61 (by decide) (fun h60 => ?_) (fun h60 => ?_)
              · refine wa_iconst (v := 0) (by decide) ?_
                refine wa_zreturn false (rfl) rfl rfl ?_
                exact ⟨_, rfl, (Sm.rf 31 36 σ), (by first | assumption | (((try simp only [vp_in_iff, Int32.lt_iff_toInt_lt, Int32.le_iff_toInt_le, ← Int32.toInt_inj, Int32.reduceToInt, n_1, n_2, n_8, Int32.toNatClampNeg, Int64.lt_iff_toInt_lt, Int64.le_iff_toInt_le, ← Int64.toInt_inj, Int64.reduceToInt, Int32.toInt_toInt64, lg_cmp_ge, lg_cmp_le, lg_cmp_gt, lg_cmp_lt, lg_cmp_eq, Bool.false_eq_true, Bool.true_eq_false, reduceCtorEq, false_iff, true_iff, iff_true, iff_false, and_true, true_and, and_false, false_and, reduceIte, ite_true, ite_false, eq_self] at *)) <;> omega)), trivial⟩
              · refine wa_iload_n (i := 1) rfl rfl ?_
                refine wa_sipush (v := 640) (by decide) ?_
                refine wa_icmp_lt o_X6_addWork_63 (by decide) (fun h61 => ?_) (fun h61 => ?_)
                · refine wa_aload_n (i := 0) rfl rfl ?_
                  refine wa_getr ck_6 fl_6_11 ly_31 rf_31_1 ?_
                  refine wa_aload_n (i := 0) rfl rfl ?_
                  refine wa_geti ck_6 fl_6_76 ly_31 ?_
                  refine wa_iload_n (i := 1) rfl rfl ?_
                  refine wa_iast ly_32 (by ((try simp only [vp_in_iff, Int32.lt_iff_toInt_lt, Int32.le_iff_toInt_le, ← Int32.toInt_inj, Int32.reduceToInt, n_1, n_2, n_8, Int32.toNatClampNeg, Int64.lt_iff_toInt_lt, Int64.le_iff_toInt_le, ← Int64.toInt_inj, Int64.reduceToInt, Int32.toInt_toInt64, lg_cmp_ge, lg_cmp_le, lg_cmp_gt, lg_cmp_lt, lg_cmp_eq, Bool.false_eq_true, Bool.true_eq_false, reduceCtorEq, false_iff, true_iff, iff_true, iff_false, and_true, true_and, and_false, false_and, reduceIte, ite_true, ite_false, eq_self] at *)) <;> omega) (fun s62 hs62 => ?_)
                  have Fs62 : Sm 31 36 σ s62 := by rw [hs62]; exact Sm.si (Sm.rf 31 36 σ) _ _ (by decide) (by decide)
                  refine wa_aload_n (i := 0) rfl rfl ?_
                  refine wa_getr ck_6 fl_6_17 ly_31 rf_31_2 ?_
                  refine wa_iload_n (i := 1) rfl rfl ?_
                  refine wa_aload_n (i := 0) rfl rfl ?_
                  refine wa_geti ck_6 fl_6_76 ly_31 ?_
                  refine wa_rw (nxq_gi_si hs62 (by decide)) ?_
                  refine wa_iast ly_33 (by ((try simp only [vp_in_iff, Int32.lt_iff_toInt_lt, Int32.le_iff_toInt_le, ← Int32.toInt_inj, Int32.reduceToInt, n_1, n_2, n_8, Int32.toNatClampNeg, Int64.lt_iff_toInt_lt, Int64.le_iff_toInt_le, ← Int64.toInt_inj, Int64.reduceToInt, Int32.toInt_toInt64, lg_cmp_ge, lg_cmp_le, lg_cmp_gt, lg_cmp_lt, lg_cmp_eq, Bool.false_eq_true, Bool.true_eq_false, reduceCtorEq, false_iff, true_iff, iff_true, iff_false, and_true, true_and, and_false, false_and, reduceIte, ite_true, ite_false, eq_self] at *)) <;> omega) (fun s63 hs63 => ?_)
                  have Fs63 : Sm 31 36 σ s63 := by rw [hs63]; exact Sm.si Fs62 _ _ (by decide) (by decide)
                  refine wa_aload_n (i := 0) rfl rfl ?_
                  refine wa_getr ck_6 fl_6_20 ly_31 rf_31_3 ?_
                  refine wa_aload_n (i := 0) rfl rfl ?_
                  refine wa_geti ck_6 fl_6_76 ly_31 ?_
                  refine wa_rw ((nxq_gi_si hs63 (by decide)).trans (nxq_gi_si hs62 (by decide))) ?_
                  refine wa_aload_n (i := 0) rfl rfl ?_
                  refine wa_getr ck_6 fl_6_44 ly_31 rf_31_0 ?_
                  refine wa_iload_n (i := 1) rfl rfl ?_
                  refine wa_iconst (v := 5) (by decide) ?_
                  refine wa_Vi (d9 := d - 1) [.int _, .int _] [.int (gi σ 31 10), .ref 34] (sp_X2_pooled G (d := d - 1) (by omega) s63 _ _) (rfl) rfl rfl (zr (by omega)) mk_X2_pooled ly_7 ml_6_79 (Nat.le_of_ble_eq_true rfl) (fun x65 s64 hs64 => ?_)
                  obtain ⟨zs64, -⟩ := pI hs64
                  subst zs64
                  refine wa_if_ne o_X6_addWork_107 (by decide) (fun h66 => ?_) (fun h66 => ?_)
                  · refine wa_iconst (v := 0) (by decide) ?_
                    refine wa_zast false (rfl) ly_34 (by ((try simp only [vp_in_iff, Int32.lt_iff_toInt_lt, Int32.le_iff_toInt_le, ← Int32.toInt_inj, Int32.reduceToInt, n_1, n_2, n_8, Int32.toNatClampNeg, Int64.lt_iff_toInt_lt, Int64.le_iff_toInt_le, ← Int64.toInt_inj, Int64.reduceToInt, Int32.toInt_toInt64, lg_cmp_ge, lg_cmp_le, lg_cmp_gt, lg_cmp_lt, lg_cmp_eq, Bool.false_eq_true, Bool.true_eq_false, reduceCtorEq, false_iff, true_iff, iff_true, iff_false, and_true, true_and, and_false, false_and, reduceIte, ite_true, ite_false, eq_self] at *)) <;> omega) (fun s67 hs67 => ?_)
                    have Fs67 : Sm 31 36 σ s67 := by rw [hs67]; exact Sm.sb Fs63 _ _ (by decide) (by decide)
                    refine wa_iconst (v := 0) (by decide) ?_
                    refine wa_istore_nD (lv' := [(2, .int 0), (0, .ref 31), (1, .int a0)]) (i := 2) rfl (by decide) rfl ?_
                    refine wa_pick [1, 2, 0] rfl ?_
                    have hi70 : ∀ (n9_111 : Nat) (l2 : Int32) (s68 : St), ((Sm 31 36 σ s68) ∧ (gi s68 31 13 = gi σ 31 13) ∧ (gi s68 31 10 = gi σ 31 10) ∧ (0 ≤ l2.toInt) ∧ (True)) → (2147483647 - l2.toInt).toNat = n9_111 → WA G M_X6_addWork (ZM G M_X6_addWork d (fun r σ' => ∃ x : Bool, r = some (.int (bI x)) ∧ Sm 31 36 σ σ' ∧ (0 ≤ (gi σ' 31 13).toInt ∧ (gi σ' 31 13).toInt ≤ 3000) ∧ True)) B_X6_addWork_111 [(0, .ref 31), (1, .int a0), (2, .int l2)] [] s68 := by
                      intro n9_111
                      induction n9_111 using Nat.strongRecOn with
                      | _ n9_111 ih69 =>
                        intro l2 s68 i9 m9_111
                        obtain ⟨Fs68, khi70_0, khi70_1, jhi70_0, -⟩ := i9
                        have ul2 := Int32.toInt_lt l2
                        have wl2 := Int32.le_toInt l2
                        refine wa_iload_n (i := 2) rfl rfl ?_
                        refine wa_bipush (v := 16) (by decide) ?_
                        refine wa_icmp_ge o_X6_addWork_175 (by decide) (fun h71 => ?_) (fun h71 => ?_)
                        · refine wa_aload_n (i := 0) rfl rfl ?_
                          refine wa_dup rfl ?_
                          refine wa_geti ck_6 fl_6_76 ly_31 ?_
                          refine wa_rw (khi70_1) ?_
                          refine wa_iconst (v := 1) (by decide) ?_
                          refine wa_iadd ?_
                          refine wa_top (fun v72 hv72 => ?_)
                          have tv72 := i_addT hv72
                          clear hv72
                          refine wa_puti ck_6 fl_6_76 ly_31 (fun s73 hs73 => ?_)
                          have Fs73 : Sm 31 36 σ s73 := by rw [hs73]; exact Sm.si Fs68 _ _ (by decide) (by decide)
                          refine wa_iconst (v := 1) (by decide) ?_
                          refine wa_zreturn true (rfl) rfl rfl ?_
                          exact ⟨_, rfl, Fs73, (by rw [(nxk_gi_si hs73 (by decide)).trans (khi70_0)]; first | assumption | (((try simp only [vp_in_iff, Int32.lt_iff_toInt_lt, Int32.le_iff_toInt_le, ← Int32.toInt_inj, Int32.reduceToInt, n_1, n_2, n_8, Int32.toNatClampNeg, Int64.lt_iff_toInt_lt, Int64.le_iff_toInt_le, ← Int64.toInt_inj, Int64.reduceToInt, Int32.toInt_toInt64, lg_cmp_ge, lg_cmp_le, lg_cmp_gt, lg_cmp_lt, lg_cmp_eq, Bool.false_eq_true, Bool.true_eq_false, reduceCtorEq, false_iff, true_iff, iff_true, iff_false, and_true, true_and, and_false, false_and, reduceIte, ite_true, ite_false, eq_self] at *)) <;> omega)), trivial⟩
                        · have mh71 := nle_mx h71
                          refine wa_iconst (v := 0) (by decide) ?_
                          refine wa_istore_nD (lv' := [(3, .int 0), (0, .ref 31), (1, .int a0), (2, .int l2)]) (i := 3) rfl (by decide) rfl ?_
                          refine wa_iconst (v := 0) (by decide) ?_
                          refine wa_istoreD (lv' := [(4, .int 0), (3, .int 0), (0, .ref 31), (1, .int a0), (2, .int l2)]) (by decide) rfl ?_
                          refine wa_pick [2, 3, 4, 1, 0] rfl ?_
                          have hi76 : ∀ (n9_122 : Nat) (l3 : Int32) (l4 : Int32) (s74 : St), ((Sm 31 36 σ s74) ∧ (gi s74 31 13 = gi σ 31 13) ∧ (gi s74 31 10 = gi σ 31 10) ∧ (0 ≤ l4.toInt) ∧ (True)) → (2147483647 - l4.toInt).toNat = n9_122 → WA G M_X6_addWork (ZM G M_X6_addWork d (fun r σ' => ∃ x : Bool, r = some (.int (bI x)) ∧ Sm 31 36 σ σ' ∧ (0 ≤ (gi σ' 31 13).toInt ∧ (gi σ' 31 13).toInt ≤ 3000) ∧ True)) B_X6_addWork_122 [(0, .ref 31), (1, .int a0), (2, .int l2), (3, .int l3), (4, .int l4)] [] s74 := by
                            intro n9_122
                            induction n9_122 using Nat.strongRecOn with
                            | _ n9_122 ih75 =>
                              intro l3 l4 s74 i9 m9_122
                              obtain ⟨Fs74, khi76_0, khi76_1, jhi76_0, -⟩ := i9
                              have ul3 := Int32.toInt_lt l3
                              have wl3 := Int32.le_toInt l3
                              have ul4 := Int32.toInt_lt l4
                              have wl4 := Int32.le_toInt l4
                              refine wa_iload rfl ?_
                              refine wa_iconst (v := 4) (by decide) ?_
                              refine wa_icmp_ge o_X6_addWork_154 (by decide) (fun h77 => ?_) (fun h77 => ?_)
                              · refine wa_aload_n (i := 0) rfl rfl ?_
                                refine wa_getr ck_6 fl_6_24 ly_31 rf_31_4 ?_
                                refine wa_iload_n (i := 2) rfl rfl ?_
                                refine wa_bipush (v := 32) (by decide) ?_
                                refine wa_imul ?_
                                refine wa_top (fun v78 hv78 => ?_)
                                have tv78 := i_mulT hv78
                                clear hv78
                                refine wa_aload_n (i := 0) rfl rfl ?_
                                refine wa_geti ck_6 fl_6_76 ly_31 ?_
                                refine wa_rw (khi76_1) ?_
                                refine wa_iadd ?_
                                refine wa_top (fun v79 hv79 => ?_)
                                have tv79 := i_addT hv79
                                clear hv79
                                refine wa_iload_n (i := 3) rfl rfl ?_
                                refine wa_iast ly_35 (by ((try simp only [vp_in_iff, Int32.lt_iff_toInt_lt, Int32.le_iff_toInt_le, ← Int32.toInt_inj, Int32.reduceToInt, n_1, n_2, n_8, Int32.toNatClampNeg, Int64.lt_iff_toInt_lt, Int64.le_iff_toInt_le, ← Int64.toInt_inj, Int64.reduceToInt, Int32.toInt_toInt64, lg_cmp_ge, lg_cmp_le, lg_cmp_gt, lg_cmp_lt, lg_cmp_eq, Bool.false_eq_true, Bool.true_eq_false, reduceCtorEq, false_iff, true_iff, iff_true, iff_false, and_true, true_and, and_false, false_and, reduceIte, ite_true, ite_false, eq_self] at *)) <;> omega) (fun s80 hs80 => ?_)
                                have Fs80 : Sm 31 36 σ s80 := by rw [hs80]; exact Sm.si Fs74 _ _ (by decide) (by decide)
                                refine wa_iinc (v := (1)) (lv' := fun y81 => [(2, .int y81), (0, .ref 31), (1, .int a0), (3, .int l3), (4, .int l4)]) (by decide) rfl (by decide) (fun _ => rfl) (fun y81 hy81 => ?_)
                                have ty81 := i_addT hy81.symm
                                clear hy81
                                refine wa_goto o_X6_addWork_111 (by decide) ?_
                                refine wa_pick [1, 2, 0] rfl ?_
                                exact ih69 _ (by ((try simp only [vp_in_iff, Int32.lt_iff_toInt_lt, Int32.le_iff_toInt_le, ← Int32.toInt_inj, Int32.reduceToInt, n_1, n_2, n_8, Int32.toNatClampNeg, Int64.lt_iff_toInt_lt, Int64.le_iff_toInt_le, ← Int64.toInt_inj, Int64.reduceToInt, Int32.toInt_toInt64, lg_cmp_ge, lg_cmp_le, lg_cmp_gt, lg_cmp_lt, lg_cmp_eq, Bool.false_eq_true, Bool.true_eq_false, reduceCtorEq, false_iff, true_iff, iff_true, iff_false, and_true, true_and, and_false, false_and, reduceIte, ite_true, ite_false, eq_self] at *)) <;> omega) _ _ ⟨Fs80, ((nxq_gi_si hs80 (by decide)).trans (khi76_0)), ((nxq_gi_si hs80 (by decide)).trans (khi76_1)), (by ((try simp only [vp_in_iff, Int32.lt_iff_toInt_lt, Int32.le_iff_toInt_le, ← Int32.toInt_inj, Int32.reduceToInt, n_1, n_2, n_8, Int32.toNatClampNeg, Int64.lt_iff_toInt_lt, Int64.le_iff_toInt_le, ← Int64.toInt_inj, Int64.reduceToInt, Int32.toInt_toInt64, lg_cmp_ge, lg_cmp_le, lg_cmp_gt, lg_cmp_lt, lg_cmp_eq, Bool.false_eq_true, Bool.true_eq_false, reduceCtorEq, false_iff, true_iff, iff_true, iff_false, and_true, true_and, and_false, false_and, reduceIte, ite_true, ite_false, eq_self] at *)) <;> omega), trivial⟩ rfl
                              · have mh77 := nle_mx h77
                                refine wa_iload_n (i := 3) rfl rfl ?_
                                refine wa_iload_n (i := 2) rfl rfl ?_
                                refine wa_iload rfl ?_
                                refine wa_iushr ?_
                                refine wa_top (fun v82 hv82 => ?_)
                                clear hv82
                                refine wa_iconst (v := 1) (by decide) ?_
                                refine wa_iand ?_
                                refine wa_top (fun v83 hv83 => ?_)
                                have tv83 := i_andT hv83
                                clear hv83
                                refine wa_aload_n (i := 0) rfl rfl ?_
                                refine wa_getr ck_6 fl_6_44 ly_31 rf_31_0 ?_
                                refine wa_iload_n (i := 1) rfl rfl ?_
                                refine wa_iload rfl ?_
                                refine wa_Vi (d9 := d - 1) [.int _, .int _] [.int v83, .int l3] (sp_X2_pooled G (d := d - 1) (by omega) s74 _ _) (rfl) rfl rfl (zr (by omega)) mk_X2_pooled ly_7 ml_6_79 (Nat.le_of_ble_eq_true rfl) (fun x85 s84 hs84 => ?_)
                                obtain ⟨zs84, -⟩ := pI hs84
                                subst zs84
                                refine wa_imul ?_
                                refine wa_top (fun v86 hv86 => ?_)
                                have tv86 := i_mulT hv86
                                clear hv86
                                refine wa_iadd ?_
                                refine wa_top (fun v87 hv87 => ?_)
                                have tv87 := i_addT hv87
                                clear hv87
                                refine wa_istore_nD (lv' := [(3, .int v87), (0, .ref 31), (1, .int a0), (2, .int l2), (4, .int l4)]) (i := 3) rfl (by decide) rfl ?_
                                refine wa_iinc (v := (1)) (lv' := fun y88 => [(4, .int y88), (3, .int v87), (0, .ref 31), (1, .int a0), (2, .int l2)]) (by decide) rfl (by decide) (fun _ => rfl) (fun y88 hy88 => ?_)
                                have ty88 := i_addT hy88.symm
                                clear hy88
                                refine wa_goto o_X6_addWork_122 (by decide) ?_
                                refine wa_pick [2, 3, 4, 1, 0] rfl ?_
                                exact ih75 _ (by ((try simp only [vp_in_iff, Int32.lt_iff_toInt_lt, Int32.le_iff_toInt_le, ← Int32.toInt_inj, Int32.reduceToInt, n_1, n_2, n_8, Int32.toNatClampNeg, Int64.lt_iff_toInt_lt, Int64.le_iff_toInt_le, ← Int64.toInt_inj, Int64.reduceToInt, Int32.toInt_toInt64, lg_cmp_ge, lg_cmp_le, lg_cmp_gt, lg_cmp_lt, lg_cmp_eq, Bool.false_eq_true, Bool.true_eq_false, reduceCtorEq, false_iff, true_iff, iff_true, iff_false, and_true, true_and, and_false, false_and, reduceIte, ite_true, ite_false, eq_self] at *)) <;> omega) _ _ _ ⟨Fs74, (khi76_0), (khi76_1), (by ((try simp only [vp_in_iff, Int32.lt_iff_toInt_lt, Int32.le_iff_toInt_le, ← Int32.toInt_inj, Int32.reduceToInt, n_1, n_2, n_8, Int32.toNatClampNeg, Int64.lt_iff_toInt_lt, Int64.le_iff_toInt_le, ← Int64.toInt_inj, Int64.reduceToInt, Int32.toInt_toInt64, lg_cmp_ge, lg_cmp_le, lg_cmp_gt, lg_cmp_lt, lg_cmp_eq, Bool.false_eq_true, Bool.true_eq_false, reduceCtorEq, false_iff, true_iff, iff_true, iff_false, and_true, true_and, and_false, false_and, reduceIte, ite_true, ite_false, eq_self] at *)) <;> omega), trivial⟩ rfl
                          exact hi76 _ _ _ _ ⟨Fs68, (khi70_0), (khi70_1), (by ((try simp only [vp_in_iff, Int32.lt_iff_toInt_lt, Int32.le_iff_toInt_le, ← Int32.toInt_inj, Int32.reduceToInt, n_1, n_2, n_8, Int32.toNatClampNeg, Int64.lt_iff_toInt_lt, Int64.le_iff_toInt_le, ← Int64.toInt_inj, Int64.reduceToInt, Int32.toInt_toInt64, lg_cmp_ge, lg_cmp_le, lg_cmp_gt, lg_cmp_lt, lg_cmp_eq, Bool.false_eq_true, Bool.true_eq_false, reduceCtorEq, false_iff, true_iff, iff_true, iff_false, and_true, true_and, and_false, false_and, reduceIte, ite_true, ite_false, eq_self] at *)) <;> omega), trivial⟩ rfl
                    exact hi70 _ _ _ ⟨Fs67, ((nx_gi_sb hs67).trans ((nxq_gi_si hs63 (by decide)).trans (nxq_gi_si hs62 (by decide)))), ((nx_gi_sb hs67).trans ((nxq_gi_si hs63 (by decide)).trans (nxq_gi_si hs62 (by decide)))), (by ((try simp only [vp_in_iff, Int32.lt_iff_toInt_lt, Int32.le_iff_toInt_le, ← Int32.toInt_inj, Int32.reduceToInt, n_1, n_2, n_8, Int32.toNatClampNeg, Int64.lt_iff_toInt_lt, Int64.le_iff_toInt_le, ← Int64.toInt_inj, Int64.reduceToInt, Int32.toInt_toInt64, lg_cmp_ge, lg_cmp_le, lg_cmp_gt, lg_cmp_lt, lg_cmp_eq, Bool.false_eq_true, Bool.true_eq_false, reduceCtorEq, false_iff, true_iff, iff_true, iff_false, and_true, true_and, and_false, false_and, reduceIte, ite_true, ite_false, eq_self] at *)) <;> omega), trivial⟩ rfl
                  · refine wa_iconst (v := 1) (by decide) ?_
                    refine wa_goto o_X6_addWork_108 (by decide) ?_
                    refine wa_zast true (rfl) ly_34 (by ((try simp only [vp_in_iff, Int32.lt_iff_toInt_lt, Int32.le_iff_toInt_le, ← Int32.toInt_inj, Int32.reduceToInt, n_1, n_2, n_8, Int32.toNatClampNeg, Int64.lt_iff_toInt_lt, Int64.le_iff_toInt_le, ← Int64.toInt_inj, Int64.reduceToInt, Int32.toInt_toInt64, lg_cmp_ge, lg_cmp_le, lg_cmp_gt, lg_cmp_lt, lg_cmp_eq, Bool.false_eq_true, Bool.true_eq_false, reduceCtorEq, false_iff, true_iff, iff_true, iff_false, and_true, true_and, and_false, false_and, reduceIte, ite_true, ite_false, eq_self] at *)) <;> omega) (fun s89 hs89 => ?_)
                    have Fs89 : Sm 31 36 σ s89 := by rw [hs89]; exact Sm.sb Fs63 _ _ (by decide) (by decide)
                    refine wa_iconst (v := 0) (by decide) ?_
                    refine wa_istore_nD (lv' := [(2, .int 0), (0, .ref 31), (1, .int a0)]) (i := 2) rfl (by decide) rfl ?_
                    refine wa_pick [1, 2, 0] rfl ?_
                    have hi92 : ∀ (n9_111 : Nat) (l2 : Int32) (s90 : St), ((Sm 31 36 σ s90) ∧ (gi s90 31 13 = gi σ 31 13) ∧ (gi s90 31 10 = gi σ 31 10) ∧ (0 ≤ l2.toInt) ∧ (True)) → (2147483647 - l2.toInt).toNat = n9_111 → WA G M_X6_addWork (ZM G M_X6_addWork d (fun r σ' => ∃ x : Bool, r = some (.int (bI x)) ∧ Sm 31 36 σ σ' ∧ (0 ≤ (gi σ' 31 13).toInt ∧ (gi σ' 31 13).toInt ≤ 3000) ∧ True)) B_X6_addWork_111 [(0, .ref 31), (1, .int a0), (2, .int l2)] [] s90 := by
                      intro n9_111
                      induction n9_111 using Nat.strongRecOn with
                      | _ n9_111 ih91 =>
                        intro l2 s90 i9 m9_111
                        obtain ⟨Fs90, khi92_0, khi92_1, jhi92_0, -⟩ := i9
                        have ul2 := Int32.toInt_lt l2
                        have wl2 := Int32.le_toInt l2
                        refine wa_iload_n (i := 2) rfl rfl ?_
                        refine wa_bipush (v := 16) (by decide) ?_
                        refine wa_icmp_ge o_X6_addWork_175 (by decide) (fun h93 => ?_) (fun h93 => ?_)
                        · refine wa_aload_n (i := 0) rfl rfl ?_
                          refine wa_dup rfl ?_
                          refine wa_geti ck_6 fl_6_76 ly_31 ?_
                          refine wa_rw (khi92_1) ?_
                          refine wa_iconst (v := 1) (by decide) ?_
                          refine wa_iadd ?_
                          refine wa_top (fun v94 hv94 => ?_)
                          have tv94 := i_addT hv94
                          clear hv94
                          refine wa_puti ck_6 fl_6_76 ly_31 (fun s95 hs95 => ?_)
                          have Fs95 : Sm 31 36 σ s95 := by rw [hs95]; exact Sm.si Fs90 _ _ (by decide) (by decide)
                          refine wa_iconst (v := 1) (by decide) ?_
                          refine wa_zreturn true (rfl) rfl rfl ?_
                          exact ⟨_, rfl, Fs95, (by rw [(nxk_gi_si hs95 (by decide)).trans (khi92_0)]; first | assumption | (((try simp only [vp_in_iff, Int32.lt_iff_toInt_lt, Int32.le_iff_toInt_le, ← Int32.toInt_inj, Int32.reduceToInt, n_1, n_2, n_8, Int32.toNatClampNeg, Int64.lt_iff_toInt_lt, Int64.le_iff_toInt_le, ← Int64.toInt_inj, Int64.reduceToInt, Int32.toInt_toInt64, lg_cmp_ge, lg_cmp_le, lg_cmp_gt, lg_cmp_lt, lg_cmp_eq, Bool.false_eq_true, Bool.true_eq_false, reduceCtorEq, false_iff, true_iff, iff_true, iff_false, and_true, true_and, and_false, false_and, reduceIte, ite_true, ite_false, eq_self] at *)) <;> omega)), trivial⟩
                        · have mh93 := nle_mx h93
                          refine wa_iconst (v := 0) (by decide) ?_
                          refine wa_istore_nD (lv' := [(3, .int 0), (0, .ref 31), (1, .int a0), (2, .int l2)]) (i := 3) rfl (by decide) rfl ?_
                          refine wa_iconst (v := 0) (by decide) ?_
                          refine wa_istoreD (lv' := [(4, .int 0), (3, .int 0), (0, .ref 31), (1, .int a0), (2, .int l2)]) (by decide) rfl ?_
                          refine wa_pick [2, 3, 4, 1, 0] rfl ?_
                          have hi98 : ∀ (n9_122 : Nat) (l3 : Int32) (l4 : Int32) (s96 : St), ((Sm 31 36 σ s96) ∧ (gi s96 31 13 = gi σ 31 13) ∧ (gi s96 31 10 = gi σ 31 10) ∧ (0 ≤ l4.toInt) ∧ (True)) → (2147483647 - l4.toInt).toNat = n9_122 → WA G M_X6_addWork (ZM G M_X6_addWork d (fun r σ' => ∃ x : Bool, r = some (.int (bI x)) ∧ Sm 31 36 σ σ' ∧ (0 ≤ (gi σ' 31 13).toInt ∧ (gi σ' 31 13).toInt ≤ 3000) ∧ True)) B_X6_addWork_122 [(0, .ref 31), (1, .int a0), (2, .int l2), (3, .int l3), (4, .int l4)] [] s96 := by
                            intro n9_122
                            induction n9_122 using Nat.strongRecOn with
                            | _ n9_122 ih97 =>
                              intro l3 l4 s96 i9 m9_122
                              obtain ⟨Fs96, khi98_0, khi98_1, jhi98_0, -⟩ := i9
                              have ul3 := Int32.toInt_lt l3
                              have wl3 := Int32.le_toInt l3
                              have ul4 := Int32.toInt_lt l4
                              have wl4 := Int32.le_toInt l4
                              refine wa_iload rfl ?_
                              refine wa_iconst (v := 4) (by decide) ?_
                              refine wa_icmp_ge o_X6_addWork_154 (by decide) (fun h99 => ?_) (fun h99 => ?_)
                              · refine wa_aload_n (i := 0) rfl rfl ?_
                                refine wa_getr ck_6 fl_6_24 ly_31 rf_31_4 ?_
                                refine wa_iload_n (i := 2) rfl rfl ?_
                                refine wa_bipush (v := 32) (by decide) ?_
                                refine wa_imul ?_
                                refine wa_top (fun v100 hv100 => ?_)
                                have tv100 := i_mulT hv100
                                clear hv100
                                refine wa_aload_n (i := 0) rfl rfl ?_
                                refine wa_geti ck_6 fl_6_76 ly_31 ?_
                                refine wa_rw (khi98_1) ?_
                                refine wa_iadd ?_
                                refine wa_top (fun v101 hv101 => ?_)
                                have tv101 := i_addT hv101
                                clear hv101
                                refine wa_iload_n (i := 3) rfl rfl ?_
                                refine wa_iast ly_35 (by ((try simp only [vp_in_iff, Int32.lt_iff_toInt_lt, Int32.le_iff_toInt_le, ← Int32.toInt_inj, Int32.reduceToInt, n_1, n_2, n_8, Int32.toNatClampNeg, Int64.lt_iff_toInt_lt, Int64.le_iff_toInt_le, ← Int64.toInt_inj, Int64.reduceToInt, Int32.toInt_toInt64, lg_cmp_ge, lg_cmp_le, lg_cmp_gt, lg_cmp_lt, lg_cmp_eq, Bool.false_eq_true, Bool.true_eq_false, reduceCtorEq, false_iff, true_iff, iff_true, iff_false, and_true, true_and, and_false, false_and, reduceIte, ite_true, ite_false, eq_self] at *)) <;> omega) (fun s102 hs102 => ?_)
                                have Fs102 : Sm 31 36 σ s102 := by rw [hs102]; exact Sm.si Fs96 _ _ (by decide) (by decide)
                                refine wa_iinc (v := (1)) (lv' := fun y103 => [(2, .int y103), (0, .ref 31), (1, .int a0), (3, .int l3), (4, .int l4)]) (by decide) rfl (by decide) (fun _ => rfl) (fun y103 hy103 => ?_)
                                have ty103 := i_addT hy103.symm
                                clear hy103
                                refine wa_goto o_X6_addWork_111 (by decide) ?_
                                refine wa_pick [1, 2, 0] rfl ?_
                                exact ih91 _ (by ((try simp only [vp_in_iff, Int32.lt_iff_toInt_lt, Int32.le_iff_toInt_le, ← Int32.toInt_inj, Int32.reduceToInt, n_1, n_2, n_8, Int32.toNatClampNeg, Int64.lt_iff_toInt_lt, Int64.le_iff_toInt_le, ← Int64.toInt_inj, Int64.reduceToInt, Int32.toInt_toInt64, lg_cmp_ge, lg_cmp_le, lg_cmp_gt, lg_cmp_lt, lg_cmp_eq, Bool.false_eq_true, Bool.true_eq_false, reduceCtorEq, false_iff, true_iff, iff_true, iff_false, and_true, true_and, and_false, false_and, reduceIte, ite_true, ite_false, eq_self] at *)) <;> omega) _ _ ⟨Fs102, ((nxq_gi_si hs102 (by decide)).trans (khi98_0)), ((nxq_gi_si hs102 (by decide)).trans (khi98_1)), (by ((try simp only [vp_in_iff, Int32.lt_iff_toInt_lt, Int32.le_iff_toInt_le, ← Int32.toInt_inj, Int32.reduceToInt, n_1, n_2, n_8, Int32.toNatClampNeg, Int64.lt_iff_toInt_lt, Int64.le_iff_toInt_le, ← Int64.toInt_inj, Int64.reduceToInt, Int32.toInt_toInt64, lg_cmp_ge, lg_cmp_le, lg_cmp_gt, lg_cmp_lt, lg_cmp_eq, Bool.false_eq_true, Bool.true_eq_false, reduceCtorEq, false_iff, true_iff, iff_true, iff_false, and_true, true_and, and_false, false_and, reduceIte, ite_true, ite_false, eq_self] at *)) <;> omega), trivial⟩ rfl
                              · have mh99 := nle_mx h99
                                refine wa_iload_n (i := 3) rfl rfl ?_
                                refine wa_iload_n (i := 2) rfl rfl ?_
                                refine wa_iload rfl ?_
                                refine wa_iushr ?_
                                refine wa_top (fun v104 hv104 => ?_)
                                clear hv104
                                refine wa_iconst (v := 1) (by decide) ?_
                                refine wa_iand ?_
                                refine wa_top (fun v105 hv105 => ?_)
                                have tv105 := i_andT hv105
                                clear hv105
                                refine wa_aload_n (i := 0) rfl rfl ?_
                                refine wa_getr ck_6 fl_6_44 ly_31 rf_31_0 ?_
                                refine wa_iload_n (i := 1) rfl rfl ?_
                                refine wa_iload rfl ?_
                                refine wa_Vi (d9 := d - 1) [.int _, .int _] [.int v105, .int l3] (sp_X2_pooled G (d := d - 1) (by omega) s96 _ _) (rfl) rfl rfl (zr (by omega)) mk_X2_pooled ly_7 ml_6_79 (Nat.le_of_ble_eq_true rfl) (fun x107 s106 hs106 => ?_)
                                obtain ⟨zs106, -⟩ := pI hs106
                                subst zs106
                                refine wa_imul ?_
                                refine wa_top (fun v108 hv108 => ?_)
                                have tv108 := i_mulT hv108
                                clear hv108
                                refine wa_iadd ?_
                                refine wa_top (fun v109 hv109 => ?_)
                                have tv109 := i_addT hv109
                                clear hv109
                                refine wa_istore_nD (lv' := [(3, .int v109), (0, .ref 31), (1, .int a0), (2, .int l2), (4, .int l4)]) (i := 3) rfl (by decide) rfl ?_
                                refine wa_iinc (v := (1)) (lv' := fun y110 => [(4, .int y110), (3, .int v109), (0, .ref 31), (1, .int a0), (2, .int l2)]) (by decide) rfl (by decide) (fun _ => rfl) (fun y110 hy110 => ?_)
                                have ty110 := i_addT hy110.symm
                                clear hy110
                                refine wa_goto o_X6_addWork_122 (by decide) ?_
                                refine wa_pick [2, 3, 4, 1, 0] rfl ?_
                                exact ih97 _ (by ((try simp only [vp_in_iff, Int32.lt_iff_toInt_lt, Int32.le_iff_toInt_le, ← Int32.toInt_inj, Int32.reduceToInt, n_1, n_2, n_8, Int32.toNatClampNeg, Int64.lt_iff_toInt_lt, Int64.le_iff_toInt_le, ← Int64.toInt_inj, Int64.reduceToInt, Int32.toInt_toInt64, lg_cmp_ge, lg_cmp_le, lg_cmp_gt, lg_cmp_lt, lg_cmp_eq, Bool.false_eq_true, Bool.true_eq_false, reduceCtorEq, false_iff, true_iff, iff_true, iff_false, and_true, true_and, and_false, false_and, reduceIte, ite_true, ite_false, eq_self] at *)) <;> omega) _ _ _ ⟨Fs96, (khi98_0), (khi98_1), (by ((try simp only [vp_in_iff, Int32.lt_iff_toInt_lt, Int32.le_iff_toInt_le, ← Int32.toInt_inj, Int32.reduceToInt, n_1, n_2, n_8, Int32.toNatClampNeg, Int64.lt_iff_toInt_lt, Int64.le_iff_toInt_le, ← Int64.toInt_inj, Int64.reduceToInt, Int32.toInt_toInt64, lg_cmp_ge, lg_cmp_le, lg_cmp_gt, lg_cmp_lt, lg_cmp_eq, Bool.false_eq_true, Bool.true_eq_false, reduceCtorEq, false_iff, true_iff, iff_true, iff_false, and_true, true_and, and_false, false_and, reduceIte, ite_true, ite_false, eq_self] at *)) <;> omega), trivial⟩ rfl
                          exact hi98 _ _ _ _ ⟨Fs90, (khi92_0), (khi92_1), (by ((try simp only [vp_in_iff, Int32.lt_iff_toInt_lt, Int32.le_iff_toInt_le, ← Int32.toInt_inj, Int32.reduceToInt, n_1, n_2, n_8, Int32.toNatClampNeg, Int64.lt_iff_toInt_lt, Int64.le_iff_toInt_le, ← Int64.toInt_inj, Int64.reduceToInt, Int32.toInt_toInt64, lg_cmp_ge, lg_cmp_le, lg_cmp_gt, lg_cmp_lt, lg_cmp_eq, Bool.false_eq_true, Bool.true_eq_false, reduceCtorEq, false_iff, true_iff, iff_true, iff_false, and_true, true_and, and_false, false_and, reduceIte, ite_true, ite_false, eq_self] at *)) <;> omega), trivial⟩ rfl
                    exact hi92 _ _ _ ⟨Fs89, ((nx_gi_sb hs89).trans ((nxq_gi_si hs63 (by decide)).trans (nxq_gi_si hs62 (by decide)))), ((nx_gi_sb hs89).trans ((nxq_gi_si hs63 (by decide)).trans (nxq_gi_si hs62 (by decide)))), (by ((try simp only [vp_in_iff, Int32.lt_iff_toInt_lt, Int32.le_iff_toInt_le, ← Int32.toInt_inj, Int32.reduceToInt, n_1, n_2, n_8, Int32.toNatClampNeg, Int64.lt_iff_toInt_lt, Int64.le_iff_toInt_le, ← Int64.toInt_inj, Int64.reduceToInt, Int32.toInt_toInt64, lg_cmp_ge, lg_cmp_le, lg_cmp_gt, lg_cmp_lt, lg_cmp_eq, Bool.false_eq_true, Bool.true_eq_false, reduceCtorEq, false_iff, true_iff, iff_true, iff_false, and_true, true_and, and_false, false_and, reduceIte, ite_true, ite_false, eq_self] at *)) <;> omega), trivial⟩ rfl
                · refine wa_iconst (v := 0) (by decide) ?_
                  refine wa_zreturn false (rfl) rfl rfl ?_
                  exact ⟨_, rfl, (Sm.rf 31 36 σ), (by first | assumption | (((try simp only [vp_in_iff, Int32.lt_iff_toInt_lt, Int32.le_iff_toInt_le, ← Int32.toInt_inj, Int32.reduceToInt, n_1, n_2, n_8, Int32.toNatClampNeg, Int64.lt_iff_toInt_lt, Int64.le_iff_toInt_le, ← Int64.toInt_inj, Int64.reduceToInt, Int32.toInt_toInt64, lg_cmp_ge, lg_cmp_le, lg_cmp_gt, lg_cmp_lt, lg_cmp_eq, Bool.false_eq_true, Bool.true_eq_false, reduceCtorEq, false_iff, true_iff, iff_true, iff_false, and_true, true_and, and_false, false_and, reduceIte, ite_true, ite_false, eq_self] at *)) <;> omega)), trivial⟩
        · have mh57 := nle_mx h57
          refine wa_aload_n (i := 0) rfl rfl ?_
          refine wa_getr ck_6 fl_6_11 ly_31 rf_31_1 ?_
          refine wa_iload_n (i := 2) rfl rfl ?_
          refine wa_iald ly_32 (by ((try simp only [vp_in_iff, Int32.lt_iff_toInt_lt, Int32.le_iff_toInt_le, ← Int32.toInt_inj, Int32.reduceToInt, n_1, n_2, n_8, Int32.toNatClampNeg, Int64.lt_iff_toInt_lt, Int64.le_iff_toInt_le, ← Int64.toInt_inj, Int64.reduceToInt, Int32.toInt_toInt64, lg_cmp_ge, lg_cmp_le, lg_cmp_gt, lg_cmp_lt, lg_cmp_eq, Bool.false_eq_true, Bool.true_eq_false, reduceCtorEq, false_iff, true_iff, iff_true, iff_false, and_true, true_and, and_false, false_and, reduceIte, ite_true, ite_false, eq_self] at *)) <;> omega) ?_
          refine wa_iload_n (i := 1) rfl rfl ?_
          refine wa_icmp_ne o_X6_addWork_28 (by decide) (fun h111 => ?_) (fun h111 => ?_)
          · refine wa_iinc (v := (1)) (lv' := fun y112 => [(2, .int y112), (0, .ref 31), (1, .int a0)]) (by decide) rfl (by decide) (fun _ => rfl) (fun y112 hy112 => ?_)
            have ty112 := i_addT hy112.symm
            clear hy112
            refine wa_goto o_X6_addWork_2 (by decide) ?_
            refine wa_pick [1, 2, 0] rfl ?_
            exact ih1 _ (by ((try simp only [vp_in_iff, Int32.lt_iff_toInt_lt, Int32.le_iff_toInt_le, ← Int32.toInt_inj, Int32.reduceToInt, n_1, n_2, n_8, Int32.toNatClampNeg, Int64.lt_iff_toInt_lt, Int64.le_iff_toInt_le, ← Int64.toInt_inj, Int64.reduceToInt, Int32.toInt_toInt64, lg_cmp_ge, lg_cmp_le, lg_cmp_gt, lg_cmp_lt, lg_cmp_eq, Bool.false_eq_true, Bool.true_eq_false, reduceCtorEq, false_iff, true_iff, iff_true, iff_false, and_true, true_and, and_false, false_and, reduceIte, ite_true, ite_false, eq_self] at *)) <;> omega) _ ⟨(by ((try simp only [vp_in_iff, Int32.lt_iff_toInt_lt, Int32.le_iff_toInt_le, ← Int32.toInt_inj, Int32.reduceToInt, n_1, n_2, n_8, Int32.toNatClampNeg, Int64.lt_iff_toInt_lt, Int64.le_iff_toInt_le, ← Int64.toInt_inj, Int64.reduceToInt, Int32.toInt_toInt64, lg_cmp_ge, lg_cmp_le, lg_cmp_gt, lg_cmp_lt, lg_cmp_eq, Bool.false_eq_true, Bool.true_eq_false, reduceCtorEq, false_iff, true_iff, iff_true, iff_false, and_true, true_and, and_false, false_and, reduceIte, ite_true, ite_false, eq_self] at *)) <;> omega), trivial⟩ rfl
          · refine wa_iconst (v := 1) (by decide) ?_
            refine wa_zreturn true (rfl) rfl rfl ?_
            exact ⟨_, rfl, (Sm.rf 31 36 σ), (by first | assumption | (((try simp only [vp_in_iff, Int32.lt_iff_toInt_lt, Int32.le_iff_toInt_le, ← Int32.toInt_inj, Int32.reduceToInt, n_1, n_2, n_8, Int32.toNatClampNeg, Int64.lt_iff_toInt_lt, Int64.le_iff_toInt_le, ← Int64.toInt_inj, Int64.reduceToInt, Int32.toInt_toInt64, lg_cmp_ge, lg_cmp_le, lg_cmp_gt, lg_cmp_lt, lg_cmp_eq, Bool.false_eq_true, Bool.true_eq_false, reduceCtorEq, false_iff, true_iff, iff_true, iff_false, and_true, true_and, and_false, false_and, reduceIte, ite_true, ite_false, eq_self] at *)) <;> omega)), trivial⟩
  exact hi2 _ _ ⟨(by ((try simp only [vp_in_iff, Int32.lt_iff_toInt_lt, Int32.le_iff_toInt_le, ← Int32.toInt_inj, Int32.reduceToInt, n_1, n_2, n_8, Int32.toNatClampNeg, Int64.lt_iff_toInt_lt, Int64.le_iff_toInt_le, ← Int64.toInt_inj, Int64.reduceToInt, Int32.toInt_toInt64, lg_cmp_ge, lg_cmp_le, lg_cmp_gt, lg_cmp_lt, lg_cmp_eq, Bool.false_eq_true, Bool.true_eq_false, reduceCtorEq, false_iff, true_iff, iff_true, iff_false, and_true, true_and, and_false, false_and, reduceIte, ite_true, ite_false, eq_self] at *)) <;> omega), trivial⟩ rfl
set_option maxHeartbeats 4000000 in
theorem sp_X6_gather (G : kG9) {d : Nat} (hd : 2 ≤ d) (σ : St) (a0 : Int32) (r1 : 0 ≤ (gi σ 31 13).toInt ∧ (gi σ 31 13).toInt ≤ 3000) : Ct G M_X6_gather d [.ref 31, .int a0] σ (fun r σ' => ∃ x : Bool, r = some (.int (bI x)) ∧ Sm 31 36 σ σ' ∧ (0 ≤ (gi σ' 31 13).toInt ∧ (gi σ' 31 13).toInt ≤ 3000) ∧ True) := by
  refine wa_start (by decide) rfl (Nat.le_of_ble_eq_true rfl) (lv := [(0, .ref 31), (1, .int a0)]) rfl o_X6_gather_0 rfl ?_
  have ua0 := Int32.toInt_lt a0
  have wa0 := Int32.le_toInt a0
  refine wa_aload_n (i := 0) rfl rfl ?_
  refine wa_iconst (v := 0) (by decide) ?_
  refine wa_puti ck_6 fl_6_76 ly_31 (fun s1 hs1 => ?_)
  have Fs1 : Sm 31 36 σ s1 := by rw [hs1]; exact Sm.si (Sm.rf 31 36 σ) _ _ (by decide) (by decide)
  refine wa_aload_n (i := 0) rfl rfl ?_
  refine wa_iload_n (i := 1) rfl rfl ?_
  refine wa_puti ck_6 fl_6_90 ly_31 (fun s2 hs2 => ?_)
  have Fs2 : Sm 31 36 σ s2 := by rw [hs2]; exact Sm.si Fs1 _ _ (by decide) (by decide)
  refine wa_aload_n (i := 0) rfl rfl ?_
  refine wa_iconst (v := 1) (by decide) ?_
  refine wa_iconst (v := 0) (by decide) ?_
  refine wa_iconst (v := 4) (by decide) ?_
  refine wa_aload_n (i := 0) rfl rfl ?_
  refine wa_getr ck_6 fl_6_44 ly_31 rf_31_0 ?_
  refine wa_geti ck_2 fl_6_93 ly_7 ?_
  refine wa_rw ((nxq_gi_si hs2 (by decide)).trans (nxq_gi_si hs1 (by decide))) ?_
  refine wa_minI zs (allW_in (kT_6 _ (List.mem_of_getElem? (i := 103) rfl)) rfl) (Nat.le_of_ble_eq_true rfl) ?_
  refine wa_top (fun v3 hv3 => ?_)
  have tv3 := i_minI hv3
  clear hv3
  refine wa_maxI zs (allW_in (kT_6 _ (List.mem_of_getElem? (i := 104) rfl)) rfl) (Nat.le_of_ble_eq_true rfl) ?_
  refine wa_top (fun v4 hv4 => ?_)
  have tv4 := i_maxI hv4
  clear hv4
  refine wa_ishl ?_
  refine wa_top (fun v5 hv5 => ?_)
  clear hv5
  refine wa_puti ck_6 fl_6_56 ly_31 (fun s6 hs6 => ?_)
  have Fs6 : Sm 31 36 σ s6 := by rw [hs6]; exact Sm.si Fs2 _ _ (by decide) (by decide)
  refine wa_iconst (v := 0) (by decide) ?_
  refine wa_istore_nD (lv' := [(2, .int 0), (0, .ref 31), (1, .int a0)]) (i := 2) rfl (by decide) rfl ?_
  refine wa_pick [1, 2, 0] rfl ?_
  have hi9 : ∀ (n9_33 : Nat) (l2 : Int32) (s7 : St), ((Sm 31 36 σ s7) ∧ (gi s7 7 10 = gi σ 7 10) ∧ (0 ≤ l2.toInt) ∧ (0 ≤ (gi s7 31 13).toInt ∧ (gi s7 31 13).toInt ≤ 3000) ∧ (True)) → (2147483647 - l2.toInt).toNat = n9_33 → WA G M_X6_gather (ZM G M_X6_gather d (fun r σ' => ∃ x : Bool, r = some (.int (bI x)) ∧ Sm 31 36 σ σ' ∧ (0 ≤ (gi σ' 31 13).toInt ∧ (gi σ' 31 13).toInt ≤ 3000) ∧ True)) B_X6_gather_33 [(0, .ref 31), (1, .int a0), (2, .int l2)] [] s7 := by
    intro n9_33
    induction n9_33 using Nat.strongRecOn with
    | _ n9_33 ih8 =>
      intro l2 s7 i9 m9_33
      obtain ⟨Fs7, khi9_0, jhi9_0, jhi9_1, -⟩ := i9
      have ul2 := Int32.toInt_lt l2
      have wl2 := Int32.le_toInt l2
      refine wa_iload_n (i := 2) rfl rfl ?_
      refine wa_bipush (v := 24) (by decide) ?_
      refine wa_icmp_gt o_X6_gather_102 (by decide) (fun h10 => ?_) (fun h10 => ?_)
      · refine wa_bipush (v := 24) (by decide) ?_
        refine wa_istore_nD (lv' := [(2, .int 24), (0, .ref 31), (1, .int a0)]) (i := 2) rfl (by decide) rfl ?_
        refine wa_pick [1, 0] rfl ?_
        have hi13 : ∀ (n9_105 : Nat) (l2 : Int32) (s11 : St), ((Sm 31 36 σ s11) ∧ (gi s11 31 13 = gi s7 31 13) ∧ (gi s11 7 10 = gi σ 7 10) ∧ (True)) → (l2.toInt + 1).toNat = n9_105 → WA G M_X6_gather (ZM G M_X6_gather d (fun r σ' => ∃ x : Bool, r = some (.int (bI x)) ∧ Sm 31 36 σ σ' ∧ (0 ≤ (gi σ' 31 13).toInt ∧ (gi σ' 31 13).toInt ≤ 3000) ∧ True)) B_X6_gather_105 [(0, .ref 31), (2, .int l2)] [] s11 := by
          intro n9_105
          induction n9_105 using Nat.strongRecOn with
          | _ n9_105 ih12 =>
            intro l2 s11 i9 m9_105
            obtain ⟨Fs11, khi13_0, khi13_1, -⟩ := i9
            have ul2 := Int32.toInt_lt l2
            have wl2 := Int32.le_toInt l2
            refine wa_iload_n (i := 2) rfl rfl ?_
            refine wa_if_lt o_X6_gather_150 (by decide) (fun h14 => ?_) (fun h14 => ?_)
            · refine wa_iconst (v := 1) (by decide) ?_
              refine wa_zreturn true (rfl) rfl rfl ?_
              exact ⟨_, rfl, Fs11, (by rw [khi13_0]; first | assumption | (((try simp only [vp_in_iff, Int32.lt_iff_toInt_lt, Int32.le_iff_toInt_le, ← Int32.toInt_inj, Int32.reduceToInt, n_1, n_2, n_8, Int32.toNatClampNeg, Int64.lt_iff_toInt_lt, Int64.le_iff_toInt_le, ← Int64.toInt_inj, Int64.reduceToInt, Int32.toInt_toInt64, lg_cmp_ge, lg_cmp_le, lg_cmp_gt, lg_cmp_lt, lg_cmp_eq, Bool.false_eq_true, Bool.true_eq_false, reduceCtorEq, false_iff, true_iff, iff_true, iff_false, and_true, true_and, and_false, false_and, reduceIte, ite_true, ite_false, eq_self] at *)) <;> omega)), trivial⟩
            · refine wa_aload_n (i := 0) rfl rfl ?_
              refine wa_dup rfl ?_
              refine wa_geti ck_6 fl_6_90 ly_31 ?_
              refine wa_aload_n (i := 0) rfl rfl ?_
              refine wa_geti ck_6 fl_6_90 ly_31 ?_
              refine wa_iload_n (i := 2) rfl rfl ?_
              refine wa_iushr ?_
              refine wa_top (fun v15 hv15 => ?_)
              clear hv15
              refine wa_iconst (v := 1) (by decide) ?_
              refine wa_iand ?_
              refine wa_top (fun v16 hv16 => ?_)
              have tv16 := i_andT hv16
              clear hv16
              refine wa_iconst (v := 1) (by decide) ?_
              refine wa_icmp_ne o_X6_gather_139 (by decide) (fun h17 => ?_) (fun h17 => ?_)
              · refine wa_iconst (v := 0) (by decide) ?_
                refine wa_ior ?_
                refine wa_top (fun v18 hv18 => ?_)
                clear hv18
                refine wa_puti ck_6 fl_6_90 ly_31 (fun s19 hs19 => ?_)
                have Fs19 : Sm 31 36 σ s19 := by rw [hs19]; exact Sm.si Fs11 _ _ (by decide) (by decide)
                refine wa_iinc (v := (-1)) (lv' := fun y20 => [(2, .int y20), (0, .ref 31)]) (by decide) rfl (by decide) (fun _ => rfl) (fun y20 hy20 => ?_)
                have ty20 := i_addT hy20.symm
                clear hy20
                refine wa_goto o_X6_gather_105 (by decide) ?_
                refine wa_pick [1, 0] rfl ?_
                exact ih12 _ (by ((try simp only [vp_in_iff, Int32.lt_iff_toInt_lt, Int32.le_iff_toInt_le, ← Int32.toInt_inj, Int32.reduceToInt, n_1, n_2, n_8, Int32.toNatClampNeg, Int64.lt_iff_toInt_lt, Int64.le_iff_toInt_le, ← Int64.toInt_inj, Int64.reduceToInt, Int32.toInt_toInt64, lg_cmp_ge, lg_cmp_le, lg_cmp_gt, lg_cmp_lt, lg_cmp_eq, Bool.false_eq_true, Bool.true_eq_false, reduceCtorEq, false_iff, true_iff, iff_true, iff_false, and_true, true_and, and_false, false_and, reduceIte, ite_true, ite_false, eq_self] at *)) <;> omega) _ _ ⟨Fs19, ((nxk_gi_si hs19 (by decide)).trans (khi13_0)), ((nxq_gi_si hs19 (by decide)).trans (khi13_1)), trivial⟩ rfl
              · refine wa_aload_n (i := 0) rfl rfl ?_
                refine wa_getr ck_6 fl_6_44 ly_31 rf_31_0 ?_
                refine wa_iload_n (i := 2) rfl rfl ?_
                refine wa_bipush (v := 7) (by decide) ?_
                refine wa_Vi (d9 := d - 1) [.int _, .int _] [.int (gi s11 31 11), .ref 31] (sp_X2_fact G (d := d - 1) (by omega) s11 _ _) (rfl) rfl rfl (zr (by omega)) mk_X2_fact ly_7 ml_6_104 (Nat.le_of_ble_eq_true rfl) (fun x22 s21 hs21 => ?_)
                obtain ⟨zs21, -⟩ := pI hs21
                subst zs21
                refine wa_goto o_X6_gather_140 (by decide) ?_
                refine wa_ior ?_
                refine wa_top (fun v23 hv23 => ?_)
                clear hv23
                refine wa_puti ck_6 fl_6_90 ly_31 (fun s24 hs24 => ?_)
                have Fs24 : Sm 31 36 σ s24 := by rw [hs24]; exact Sm.si Fs11 _ _ (by decide) (by decide)
                refine wa_iinc (v := (-1)) (lv' := fun y25 => [(2, .int y25), (0, .ref 31)]) (by decide) rfl (by decide) (fun _ => rfl) (fun y25 hy25 => ?_)
                have ty25 := i_addT hy25.symm
                clear hy25
                refine wa_goto o_X6_gather_105 (by decide) ?_
                refine wa_pick [1, 0] rfl ?_
                exact ih12 _ (by ((try simp only [vp_in_iff, Int32.lt_iff_toInt_lt, Int32.le_iff_toInt_le, ← Int32.toInt_inj, Int32.reduceToInt, n_1, n_2, n_8, Int32.toNatClampNeg, Int64.lt_iff_toInt_lt, Int64.le_iff_toInt_le, ← Int64.toInt_inj, Int64.reduceToInt, Int32.toInt_toInt64, lg_cmp_ge, lg_cmp_le, lg_cmp_gt, lg_cmp_lt, lg_cmp_eq, Bool.false_eq_true, Bool.true_eq_false, reduceCtorEq, false_iff, true_iff, iff_true, iff_false, and_true, true_and, and_false, false_and, reduceIte, ite_true, ite_false, eq_self] at *)) <;> omega) _ _ ⟨Fs24, ((nxk_gi_si hs24 (by decide)).trans (khi13_0)), ((nxq_gi_si hs24 (by decide)).trans (khi13_1)), trivial⟩ rfl
        exact hi13 _ _ _ ⟨Fs7, (rfl), (khi9_0), trivial⟩ rfl
      · refine wa_iload_n (i := 1) rfl rfl ?_
        refine wa_iload_n (i := 2) rfl rfl ?_
        refine wa_iushr ?_
        refine wa_top (fun v26 hv26 => ?_)
        clear hv26
        refine wa_iconst (v := 1) (by decide) ?_
        refine wa_iand ?_
        refine wa_top (fun v27 hv27 => ?_)
        have tv27 := i_andT hv27
        clear hv27
        refine wa_iconst (v := 1) (by decide) ?_
        refine wa_icmp_ne o_X6_gather_60 (by decide) (fun h28 => ?_) (fun h28 => ?_)
        · refine wa_iconst (v := 0) (by decide) ?_
          refine wa_istore_nD (lv' := [(3, .int 0), (0, .ref 31), (1, .int a0), (2, .int l2)]) (i := 3) rfl (by decide) rfl ?_
          refine wa_iconst (v := 0) (by decide) ?_
          refine wa_istoreD (lv' := [(4, .int 0), (3, .int 0), (0, .ref 31), (1, .int a0), (2, .int l2)]) (by decide) rfl ?_
          refine wa_pick [2, 3, 4, 1, 0] rfl ?_
          have hi31 : ∀ (n9_65 : Nat) (l4 : Int32) (s29 : St), ((Sm 31 36 σ s29) ∧ (gi s29 7 10 = gi σ 7 10) ∧ (0 ≤ l4.toInt) ∧ (0 ≤ (gi s29 31 13).toInt ∧ (gi s29 31 13).toInt ≤ 3000) ∧ (True)) → (2147483647 - l4.toInt).toNat = n9_65 → WA G M_X6_gather (ZM G M_X6_gather d (fun r σ' => ∃ x : Bool, r = some (.int (bI x)) ∧ Sm 31 36 σ σ' ∧ (0 ≤ (gi σ' 31 13).toInt ∧ (gi σ' 31 13).toInt ≤ 3000) ∧ True)) B_X6_gather_65 [(0, .ref 31), (1, .int a0), (2, .int l2), (3, .int 0), (4, .int l4)] [] s29 := by
            intro n9_65
            induction n9_65 using Nat.strongRecOn with
            | _ n9_65 ih30 =>
              intro l4 s29 i9 m9_65
              obtain ⟨Fs29, khi31_0, jhi31_0, jhi31_1, -⟩ := i9
              have ul4 := Int32.toInt_lt l4
              have wl4 := Int32.le_toInt l4
              refine wa_iload rfl ?_
              refine wa_iload_n (i := 3) rfl rfl ?_
              refine wa_icmp_ge o_X6_gather_96 (by decide) (fun h32 => ?_) (fun h32 => ?_)
              · refine wa_iinc (v := (1)) (lv' := fun y33 => [(2, .int y33), (0, .ref 31), (1, .int a0), (3, .int 0), (4, .int l4)]) (by decide) rfl (by decide) (fun _ => rfl) (fun y33 hy33 => ?_)
                have ty33 := i_addT hy33.symm
                clear hy33
                refine wa_goto o_X6_gather_33 (by decide) ?_
                refine wa_pick [1, 2, 0] rfl ?_
                exact ih8 _ (by ((try simp only [vp_in_iff, Int32.lt_iff_toInt_lt, Int32.le_iff_toInt_le, ← Int32.toInt_inj, Int32.reduceToInt, n_1, n_2, n_8, Int32.toNatClampNeg, Int64.lt_iff_toInt_lt, Int64.le_iff_toInt_le, ← Int64.toInt_inj, Int64.reduceToInt, Int32.toInt_toInt64, lg_cmp_ge, lg_cmp_le, lg_cmp_gt, lg_cmp_lt, lg_cmp_eq, Bool.false_eq_true, Bool.true_eq_false, reduceCtorEq, false_iff, true_iff, iff_true, iff_false, and_true, true_and, and_false, false_and, reduceIte, ite_true, ite_false, eq_self] at *)) <;> omega) _ _ ⟨Fs29, (khi31_0), (by ((try simp only [vp_in_iff, Int32.lt_iff_toInt_lt, Int32.le_iff_toInt_le, ← Int32.toInt_inj, Int32.reduceToInt, n_1, n_2, n_8, Int32.toNatClampNeg, Int64.lt_iff_toInt_lt, Int64.le_iff_toInt_le, ← Int64.toInt_inj, Int64.reduceToInt, Int32.toInt_toInt64, lg_cmp_ge, lg_cmp_le, lg_cmp_gt, lg_cmp_lt, lg_cmp_eq, Bool.false_eq_true, Bool.true_eq_false, reduceCtorEq, false_iff, true_iff, iff_true, iff_false, and_true, true_and, and_false, false_and, reduceIte, ite_true, ite_false, eq_self] at *)) <;> omega), (by first | assumption | (((try simp only [vp_in_iff, Int32.lt_iff_toInt_lt, Int32.le_iff_toInt_le, ← Int32.toInt_inj, Int32.reduceToInt, n_1, n_2, n_8, Int32.toNatClampNeg, Int64.lt_iff_toInt_lt, Int64.le_iff_toInt_le, ← Int64.toInt_inj, Int64.reduceToInt, Int32.toInt_toInt64, lg_cmp_ge, lg_cmp_le, lg_cmp_gt, lg_cmp_lt, lg_cmp_eq, Bool.false_eq_true, Bool.true_eq_false, reduceCtorEq, false_iff, true_iff, iff_true, iff_false, and_true, true_and, and_false, false_and, reduceIte, ite_true, ite_false, eq_self] at *)) <;> omega)), trivial⟩ rfl
              · have mh32 := nle_mx h32
                refine wa_aload_n (i := 0) rfl rfl ?_
                refine wa_aload_n (i := 0) rfl rfl ?_
                refine wa_getr ck_6 fl_6_44 ly_31 rf_31_0 ?_
                refine wa_iload_n (i := 2) rfl rfl ?_
                refine wa_iload rfl ?_
                refine wa_Vi (d9 := d - 1) [.int _, .int _] [.ref 31] (sp_X2_atomOf G (d := d - 1) (by omega) s29 _ _) (rfl) rfl rfl (zr (by omega)) mk_X2_atomOf ly_7 ml_6_107 (Nat.le_of_ble_eq_true rfl) (fun x35 s34 hs34 => ?_)
                obtain ⟨zs34, -⟩ := pI hs34
                subst zs34
                refine wa_Vi (d9 := d - 1) [.int _] [] (sp_X6_addWork G (d := d - 1) (by omega) s29 _ (by first | assumption | exact Or.inl rfl | exact Or.inr rfl | (((try simp only [vp_in_iff, Int32.lt_iff_toInt_lt, Int32.le_iff_toInt_le, ← Int32.toInt_inj, Int32.reduceToInt, n_1, n_2, n_8, Int32.toNatClampNeg, Int64.lt_iff_toInt_lt, Int64.le_iff_toInt_le, ← Int64.toInt_inj, Int64.reduceToInt, Int32.toInt_toInt64, lg_cmp_ge, lg_cmp_le, lg_cmp_gt, lg_cmp_lt, lg_cmp_eq, Bool.false_eq_true, Bool.true_eq_false, reduceCtorEq, false_iff, true_iff, iff_true, iff_false, and_true, true_and, and_false, false_and, reduceIte, ite_true, ite_false, eq_self] at *)) <;> omega))) (rfl) rfl rfl (zr (by omega)) mk_X6_addWork ly_31 ml_6_110 (Nat.le_of_ble_eq_true rfl) (fun x37 s36 hs36 => ?_)
                obtain ⟨bx37, ex37, fs36, cx37_1, -⟩ := pB hs36
                subst ex37
                have Fs36 := Sm.tr Fs29 (Sm.wd fs36 (lo' := 31) (hi' := 36) (by decide) (by decide))
                refine wa_if_ne o_X6_gather_90 (by decide) (fun h38 => ?_) (fun h38 => ?_)
                · replace h38 := bI_t (b := bx37) (rfl) h38
                  refine wa_iinc (v := (1)) (lv' := fun y39 => [(4, .int y39), (0, .ref 31), (1, .int a0), (2, .int l2), (3, .int 0)]) (by decide) rfl (by decide) (fun _ => rfl) (fun y39 hy39 => ?_)
                  have ty39 := i_addT hy39.symm
                  clear hy39
                  refine wa_goto o_X6_gather_65 (by decide) ?_
                  refine wa_pick [1, 2, 3, 4, 0] rfl ?_
                  exact ih30 _ (by ((try simp only [vp_in_iff, Int32.lt_iff_toInt_lt, Int32.le_iff_toInt_le, ← Int32.toInt_inj, Int32.reduceToInt, n_1, n_2, n_8, Int32.toNatClampNeg, Int64.lt_iff_toInt_lt, Int64.le_iff_toInt_le, ← Int64.toInt_inj, Int64.reduceToInt, Int32.toInt_toInt64, lg_cmp_ge, lg_cmp_le, lg_cmp_gt, lg_cmp_lt, lg_cmp_eq, Bool.false_eq_true, Bool.true_eq_false, reduceCtorEq, false_iff, true_iff, iff_true, iff_false, and_true, true_and, and_false, false_and, reduceIte, ite_true, ite_false, eq_self] at *)) <;> omega) _ _ ⟨Fs36, ((Sm.gi fs36 10 (Or.inl (by decide))).trans (khi31_0)), (by ((try simp only [vp_in_iff, Int32.lt_iff_toInt_lt, Int32.le_iff_toInt_le, ← Int32.toInt_inj, Int32.reduceToInt, n_1, n_2, n_8, Int32.toNatClampNeg, Int64.lt_iff_toInt_lt, Int64.le_iff_toInt_le, ← Int64.toInt_inj, Int64.reduceToInt, Int32.toInt_toInt64, lg_cmp_ge, lg_cmp_le, lg_cmp_gt, lg_cmp_lt, lg_cmp_eq, Bool.false_eq_true, Bool.true_eq_false, reduceCtorEq, false_iff, true_iff, iff_true, iff_false, and_true, true_and, and_false, false_and, reduceIte, ite_true, ite_false, eq_self] at *)) <;> omega), (by first | assumption | (((try simp only [vp_in_iff, Int32.lt_iff_toInt_lt, Int32.le_iff_toInt_le, ← Int32.toInt_inj, Int32.reduceToInt, n_1, n_2, n_8, Int32.toNatClampNeg, Int64.lt_iff_toInt_lt, Int64.le_iff_toInt_le, ← Int64.toInt_inj, Int64.reduceToInt, Int32.toInt_toInt64, lg_cmp_ge, lg_cmp_le, lg_cmp_gt, lg_cmp_lt, lg_cmp_eq, Bool.false_eq_true, Bool.true_eq_false, reduceCtorEq, false_iff, true_iff, iff_true, iff_false, and_true, true_and, and_false, false_and, reduceIte, ite_true, ite_false, eq_self] at *)) <;> omega)), trivial⟩ rfl
                · replace h38 := bI_f (b := bx37) (rfl) h38
                  refine wa_iconst (v := 0) (by decide) ?_
                  refine wa_zreturn false (rfl) rfl rfl ?_
                  exact ⟨_, rfl, Fs36, (by first | assumption | (((try simp only [vp_in_iff, Int32.lt_iff_toInt_lt, Int32.le_iff_toInt_le, ← Int32.toInt_inj, Int32.reduceToInt, n_1, n_2, n_8, Int32.toNatClampNeg, Int64.lt_iff_toInt_lt, Int64.le_iff_toInt_le, ← Int64.toInt_inj, Int64.reduceToInt, Int32.toInt_toInt64, lg_cmp_ge, lg_cmp_le, lg_cmp_gt, lg_cmp_lt, lg_cmp_eq, Bool.false_eq_true, Bool.true_eq_false, reduceCtorEq, false_iff, true_iff, iff_true, iff_false, and_true, true_and, and_false, false_and, reduceIte, ite_true, ite_false, eq_self] at *)) <;> omega)), trivial⟩
          exact hi31 _ _ _ ⟨Fs7, (khi9_0), (by ((try simp only [vp_in_iff, Int32.lt_iff_toInt_lt, Int32.le_iff_toInt_le, ← Int32.toInt_inj, Int32.reduceToInt, n_1, n_2, n_8, Int32.toNatClampNeg, Int64.lt_iff_toInt_lt, Int64.le_iff_toInt_le, ← Int64.toInt_inj, Int64.reduceToInt, Int32.toInt_toInt64, lg_cmp_ge, lg_cmp_le, lg_cmp_gt, lg_cmp_lt, lg_cmp_eq, Bool.false_eq_true, Bool.true_eq_false, reduceCtorEq, false_iff, true_iff, iff_true, iff_false, and_true, true_and, and_false, false_and, reduceIte, ite_true, ite_false, eq_self] at *)) <;> omega), (by first | assumption | (((try simp only [vp_in_iff, Int32.lt_iff_toInt_lt, Int32.le_iff_toInt_le, ← Int32.toInt_inj, Int32.reduceToInt, n_1, n_2, n_8, Int32.toNatClampNeg, Int64.lt_iff_toInt_lt, Int64.le_iff_toInt_le, ← Int64.toInt_inj, Int64.reduceToInt, Int32.toInt_toInt64, lg_cmp_ge, lg_cmp_le, lg_cmp_gt, lg_cmp_lt, lg_cmp_eq, Bool.false_eq_true, Bool.true_eq_false, reduceCtorEq, false_iff, true_iff, iff_true, iff_false, and_true, true_and, and_false, false_and, reduceIte, ite_true, ite_false, eq_self] at *)) <;> omega)), trivial⟩ rfl
        · refine wa_aload_n (i := 0) rfl rfl ?_
          refine wa_getr ck_6 fl_6_44 ly_31 rf_31_0 ?_
          refine wa_iload_n (i := 2) rfl rfl ?_
          refine wa_iconst (v := 4) (by decide) ?_
          refine wa_Vi (d9 := d - 1) [.int _, .int _] [] (sp_X2_fact G (d := d - 1) (by omega) s7 _ _) (rfl) rfl rfl (zr (by omega)) mk_X2_fact ly_7 ml_6_104 (Nat.le_of_ble_eq_true rfl) (fun x41 s40 hs40 => ?_)
          obtain ⟨zs40, -⟩ := pI hs40
          subst zs40
          refine wa_goto o_X6_gather_61 (by decide) ?_
          refine wa_istore_nD (lv' := [(3, .int x41), (0, .ref 31), (1, .int a0), (2, .int l2)]) (i := 3) rfl (by decide) rfl ?_
          refine wa_iconst (v := 0) (by decide) ?_
          refine wa_istoreD (lv' := [(4, .int 0), (3, .int x41), (0, .ref 31), (1, .int a0), (2, .int l2)]) (by decide) rfl ?_
          refine wa_pick [2, 3, 4, 1, 0] rfl ?_
          have hi44 : ∀ (n9_65 : Nat) (l4 : Int32) (s42 : St), ((Sm 31 36 σ s42) ∧ (gi s42 7 10 = gi σ 7 10) ∧ (0 ≤ l4.toInt) ∧ (0 ≤ (gi s42 31 13).toInt ∧ (gi s42 31 13).toInt ≤ 3000) ∧ (True)) → (2147483647 - l4.toInt).toNat = n9_65 → WA G M_X6_gather (ZM G M_X6_gather d (fun r σ' => ∃ x : Bool, r = some (.int (bI x)) ∧ Sm 31 36 σ σ' ∧ (0 ≤ (gi σ' 31 13).toInt ∧ (gi σ' 31 13).toInt ≤ 3000) ∧ True)) B_X6_gather_65 [(0, .ref 31), (1, .int a0), (2, .int l2), (3, .int x41), (4, .int l4)] [] s42 := by
            intro n9_65
            induction n9_65 using Nat.strongRecOn with
            | _ n9_65 ih43 =>
              intro l4 s42 i9 m9_65
              obtain ⟨Fs42, khi44_0, jhi44_0, jhi44_1, -⟩ := i9
              have ul4 := Int32.toInt_lt l4
              have wl4 := Int32.le_toInt l4
              refine wa_iload rfl ?_
              refine wa_iload_n (i := 3) rfl rfl ?_
              refine wa_icmp_ge o_X6_gather_96 (by decide) (fun h45 => ?_) (fun h45 => ?_)
              · refine wa_iinc (v := (1)) (lv' := fun y46 => [(2, .int y46), (0, .ref 31), (1, .int a0), (3, .int x41), (4, .int l4)]) (by decide) rfl (by decide) (fun _ => rfl) (fun y46 hy46 => ?_)
                have ty46 := i_addT hy46.symm
                clear hy46
                refine wa_goto o_X6_gather_33 (by decide) ?_
                refine wa_pick [1, 2, 0] rfl ?_
                exact ih8 _ (by ((try simp only [vp_in_iff, Int32.lt_iff_toInt_lt, Int32.le_iff_toInt_le, ← Int32.toInt_inj, Int32.reduceToInt, n_1, n_2, n_8, Int32.toNatClampNeg, Int64.lt_iff_toInt_lt, Int64.le_iff_toInt_le, ← Int64.toInt_inj, Int64.reduceToInt, Int32.toInt_toInt64, lg_cmp_ge, lg_cmp_le, lg_cmp_gt, lg_cmp_lt, lg_cmp_eq, Bool.false_eq_true, Bool.true_eq_false, reduceCtorEq, false_iff, true_iff, iff_true, iff_false, and_true, true_and, and_false, false_and, reduceIte, ite_true, ite_false, eq_self] at *)) <;> omega) _ _ ⟨Fs42, (khi44_0), (by ((try simp only [vp_in_iff, Int32.lt_iff_toInt_lt, Int32.le_iff_toInt_le, ← Int32.toInt_inj, Int32.reduceToInt, n_1, n_2, n_8, Int32.toNatClampNeg, Int64.lt_iff_toInt_lt, Int64.le_iff_toInt_le, ← Int64.toInt_inj, Int64.reduceToInt, Int32.toInt_toInt64, lg_cmp_ge, lg_cmp_le, lg_cmp_gt, lg_cmp_lt, lg_cmp_eq, Bool.false_eq_true, Bool.true_eq_false, reduceCtorEq, false_iff, true_iff, iff_true, iff_false, and_true, true_and, and_false, false_and, reduceIte, ite_true, ite_false, eq_self] at *)) <;> omega), (by first | assumption | (((try simp only [vp_in_iff, Int32.lt_iff_toInt_lt, Int32.le_iff_toInt_le, ← Int32.toInt_inj, Int32.reduceToInt, n_1, n_2, n_8, Int32.toNatClampNeg, Int64.lt_iff_toInt_lt, Int64.le_iff_toInt_le, ← Int64.toInt_inj, Int64.reduceToInt, Int32.toInt_toInt64, lg_cmp_ge, lg_cmp_le, lg_cmp_gt, lg_cmp_lt, lg_cmp_eq, Bool.false_eq_true, Bool.true_eq_false, reduceCtorEq, false_iff, true_iff, iff_true, iff_false, and_true, true_and, and_false, false_and, reduceIte, ite_true, ite_false, eq_self] at *)) <;> omega)), trivial⟩ rfl
              · have mh45 := nle_mx h45
                refine wa_aload_n (i := 0) rfl rfl ?_
                refine wa_aload_n (i := 0) rfl rfl ?_
                refine wa_getr ck_6 fl_6_44 ly_31 rf_31_0 ?_
                refine wa_iload_n (i := 2) rfl rfl ?_
                refine wa_iload rfl ?_
                refine wa_Vi (d9 := d - 1) [.int _, .int _] [.ref 31] (sp_X2_atomOf G (d := d - 1) (by omega) s42 _ _) (rfl) rfl rfl (zr (by omega)) mk_X2_atomOf ly_7 ml_6_107 (Nat.le_of_ble_eq_true rfl) (fun x48 s47 hs47 => ?_)
                obtain ⟨zs47, -⟩ := pI hs47
                subst zs47
                refine wa_Vi (d9 := d - 1) [.int _] [] (sp_X6_addWork G (d := d - 1) (by omega) s42 _ (by first | assumption | exact Or.inl rfl | exact Or.inr rfl | (((try simp only [vp_in_iff, Int32.lt_iff_toInt_lt, Int32.le_iff_toInt_le, ← Int32.toInt_inj, Int32.reduceToInt, n_1, n_2, n_8, Int32.toNatClampNeg, Int64.lt_iff_toInt_lt, Int64.le_iff_toInt_le, ← Int64.toInt_inj, Int64.reduceToInt, Int32.toInt_toInt64, lg_cmp_ge, lg_cmp_le, lg_cmp_gt, lg_cmp_lt, lg_cmp_eq, Bool.false_eq_true, Bool.true_eq_false, reduceCtorEq, false_iff, true_iff, iff_true, iff_false, and_true, true_and, and_false, false_and, reduceIte, ite_true, ite_false, eq_self] at *)) <;> omega))) (rfl) rfl rfl (zr (by omega)) mk_X6_addWork ly_31 ml_6_110 (Nat.le_of_ble_eq_true rfl) (fun x50 s49 hs49 => ?_)
                obtain ⟨bx50, ex50, fs49, cx50_1, -⟩ := pB hs49
                subst ex50
                have Fs49 := Sm.tr Fs42 (Sm.wd fs49 (lo' := 31) (hi' := 36) (by decide) (by decide))
                refine wa_if_ne o_X6_gather_90 (by decide) (fun h51 => ?_) (fun h51 => ?_)
                · replace h51 := bI_t (b := bx50) (rfl) h51
                  refine wa_iinc (v := (1)) (lv' := fun y52 => [(4, .int y52), (0, .ref 31), (1, .int a0), (2, .int l2), (3, .int x41)]) (by decide) rfl (by decide) (fun _ => rfl) (fun y52 hy52 => ?_)
                  have ty52 := i_addT hy52.symm
                  clear hy52
                  refine wa_goto o_X6_gather_65 (by decide) ?_
                  refine wa_pick [1, 2, 3, 4, 0] rfl ?_
                  exact ih43 _ (by ((try simp only [vp_in_iff, Int32.lt_iff_toInt_lt, Int32.le_iff_toInt_le, ← Int32.toInt_inj, Int32.reduceToInt, n_1, n_2, n_8, Int32.toNatClampNeg, Int64.lt_iff_toInt_lt, Int64.le_iff_toInt_le, ← Int64.toInt_inj, Int64.reduceToInt, Int32.toInt_toInt64, lg_cmp_ge, lg_cmp_le, lg_cmp_gt, lg_cmp_lt, lg_cmp_eq, Bool.false_eq_true, Bool.true_eq_false, reduceCtorEq, false_iff, true_iff, iff_true, iff_false, and_true, true_and, and_false, false_and, reduceIte, ite_true, ite_false, eq_self] at *)) <;> omega) _ _ ⟨Fs49, ((Sm.gi fs49 10 (Or.inl (by decide))).trans (khi44_0)), (by ((try simp only [vp_in_iff, Int32.lt_iff_toInt_lt, Int32.le_iff_toInt_le, ← Int32.toInt_inj, Int32.reduceToInt, n_1, n_2, n_8, Int32.toNatClampNeg, Int64.lt_iff_toInt_lt, Int64.le_iff_toInt_le, ← Int64.toInt_inj, Int64.reduceToInt, Int32.toInt_toInt64, lg_cmp_ge, lg_cmp_le, lg_cmp_gt, lg_cmp_lt, lg_cmp_eq, Bool.false_eq_true, Bool.true_eq_false, reduceCtorEq, false_iff, true_iff, iff_true, iff_false, and_true, true_and, and_false, false_and, reduceIte, ite_true, ite_false, eq_self] at *)) <;> omega), (by first | assumption | (((try simp only [vp_in_iff, Int32.lt_iff_toInt_lt, Int32.le_iff_toInt_le, ← Int32.toInt_inj, Int32.reduceToInt, n_1, n_2, n_8, Int32.toNatClampNeg, Int64.lt_iff_toInt_lt, Int64.le_iff_toInt_le, ← Int64.toInt_inj, Int64.reduceToInt, Int32.toInt_toInt64, lg_cmp_ge, lg_cmp_le, lg_cmp_gt, lg_cmp_lt, lg_cmp_eq, Bool.false_eq_true, Bool.true_eq_false, reduceCtorEq, false_iff, true_iff, iff_true, iff_false, and_true, true_and, and_false, false_and, reduceIte, ite_true, ite_false, eq_self] at *)) <;> omega)), trivial⟩ rfl
                · replace h51 := bI_f (b := bx50) (rfl) h51
                  refine wa_iconst (v := 0) (by decide) ?_
                  refine wa_zreturn false (rfl) rfl rfl ?_
                  exact ⟨_, rfl, Fs49, (by first | assumption | (((try simp only [vp_in_iff, Int32.lt_iff_toInt_lt, Int32.le_iff_toInt_le, ← Int32.toInt_inj, Int32.reduceToInt, n_1, n_2, n_8, Int32.toNatClampNeg, Int64.lt_iff_toInt_lt, Int64.le_iff_toInt_le, ← Int64.toInt_inj, Int64.reduceToInt, Int32.toInt_toInt64, lg_cmp_ge, lg_cmp_le, lg_cmp_gt, lg_cmp_lt, lg_cmp_eq, Bool.false_eq_true, Bool.true_eq_false, reduceCtorEq, false_iff, true_iff, iff_true, iff_false, and_true, true_and, and_false, false_and, reduceIte, ite_true, ite_false, eq_self] at *)) <;> omega)), trivial⟩
          exact hi44 _ _ _ ⟨Fs7, (khi9_0), (by ((try simp only [vp_in_iff, Int32.lt_iff_toInt_lt, Int32.le_iff_toInt_le, ← Int32.toInt_inj, Int32.reduceToInt, n_1, n_2, n_8, Int32.toNatClampNeg, Int64.lt_iff_toInt_lt, Int64.le_iff_toInt_le, ← Int64.toInt_inj, Int64.reduceToInt, Int32.toInt_toInt64, lg_cmp_ge, lg_cmp_le, lg_cmp_gt, lg_cmp_lt, lg_cmp_eq, Bool.false_eq_true, Bool.true_eq_false, reduceCtorEq, false_iff, true_iff, iff_true, iff_false, and_true, true_and, and_false, false_and, reduceIte, ite_true, ite_false, eq_self] at *)) <;> omega), (by first | assumption | (((try simp only [vp_in_iff, Int32.lt_iff_toInt_lt, Int32.le_iff_toInt_le, ← Int32.toInt_inj, Int32.reduceToInt, n_1, n_2, n_8, Int32.toNatClampNeg, Int64.lt_iff_toInt_lt, Int64.le_iff_toInt_le, ← Int64.toInt_inj, Int64.reduceToInt, Int32.toInt_toInt64, lg_cmp_ge, lg_cmp_le, lg_cmp_gt, lg_cmp_lt, lg_cmp_eq, Bool.false_eq_true, Bool.true_eq_false, reduceCtorEq, false_iff, true_iff, iff_true, iff_false, and_true, true_and, and_false, false_and, reduceIte, ite_true, ite_false, eq_self] at *)) <;> omega)), trivial⟩ rfl
  exact hi9 _ _ _ ⟨Fs6, ((nxq_gi_si hs6 (by decide)).trans ((nxq_gi_si hs2 (by decide)).trans (nxq_gi_si hs1 (by decide)))), (by ((try simp only [vp_in_iff, Int32.lt_iff_toInt_lt, Int32.le_iff_toInt_le, ← Int32.toInt_inj, Int32.reduceToInt, n_1, n_2, n_8, Int32.toNatClampNeg, Int64.lt_iff_toInt_lt, Int64.le_iff_toInt_le, ← Int64.toInt_inj, Int64.reduceToInt, Int32.toInt_toInt64, lg_cmp_ge, lg_cmp_le, lg_cmp_gt, lg_cmp_lt, lg_cmp_eq, Bool.false_eq_true, Bool.true_eq_false, reduceCtorEq, false_iff, true_iff, iff_true, iff_false, and_true, true_and, and_false, false_and, reduceIte, ite_true, ite_false, eq_self] at *)) <;> omega), (by rw [(nxk_gi_si hs6 (by decide)).trans ((nxk_gi_si hs2 (by decide)).trans (nxk_gi_si hs1 (by decide)))]; first | assumption | (((try simp only [vp_in_iff, Int32.lt_iff_toInt_lt, Int32.le_iff_toInt_le, ← Int32.toInt_inj, Int32.reduceToInt, n_1, n_2, n_8, Int32.toNatClampNeg, Int64.lt_iff_toInt_lt, Int64.le_iff_toInt_le, ← Int64.toInt_inj, Int64.reduceToInt, Int32.toInt_toInt64, lg_cmp_ge, lg_cmp_le, lg_cmp_gt, lg_cmp_lt, lg_cmp_eq, Bool.false_eq_true, Bool.true_eq_false, reduceCtorEq, false_iff, true_iff, iff_true, iff_false, and_true, true_and, and_false, false_and, reduceIte, ite_true, ite_false, eq_self] at *)) <;> omega)), trivial⟩ rfl
set_option maxHeartbeats 4000000 in
theorem sp_X6_joined (G : kG9) {d : Nat} (hd : 0 ≤ d) (σ : St) (a0 : Int64) (a1 : Int32) : Ct G M_X6_joined d [.long a0, .int a1] σ (fun r σ' => ∃ x : Int64, r = some (.long x) ∧ σ = σ' ∧ True) := by
  refine wa_start (by decide) rfl (Nat.le_of_ble_eq_true rfl) (lv := [(0, .long a0), (2, .int a1)]) rfl o_X6_joined_0 rfl ?_
  have ua1 := Int32.toInt_lt a1
  have wa1 := Int32.le_toInt a1
  refine wa_lload_n (i := 0) rfl rfl ?_
  refine wa_lconst (v := 1) (by decide) ?_
  refine wa_land ?_
  refine wa_topl (fun v1 hv1 => ?_)
  clear hv1
  refine wa_lstore_nD (lv' := [(3, .long v1), (0, .long a0), (2, .int a1)]) (i := 3) rfl (by decide) rfl ?_
  refine wa_lload_n (i := 0) rfl rfl ?_
  refine wa_iconst (v := 1) (by decide) ?_
  refine wa_lushr ?_
  refine wa_topl (fun v2 hv2 => ?_)
  clear hv2
  refine wa_lconst (v := 1) (by decide) ?_
  refine wa_land ?_
  refine wa_topl (fun v3 hv3 => ?_)
  clear hv3
  refine wa_lstoreD (lv' := [(5, .long v3), (3, .long v1), (0, .long a0), (2, .int a1)]) (by decide) rfl ?_
  refine wa_iload_n (i := 2) rfl rfl ?_
  refine wa_bipush (v := (-23)) (by decide) ?_
  refine wa_icmp_ne o_X6_joined_24 (by decide) (fun h4 => ?_) (fun h4 => ?_)
  · refine wa_iload_n (i := 2) rfl rfl ?_
    refine wa_bipush (v := (-24)) (by decide) ?_
    refine wa_icmp_ne o_X6_joined_37 (by decide) (fun h5 => ?_) (fun h5 => ?_)
    · refine wa_iload_n (i := 2) rfl rfl ?_
      refine wa_bipush (v := (-19)) (by decide) ?_
      refine wa_icmp_ne o_X6_joined_52 (by decide) (fun h6 => ?_) (fun h6 => ?_)
      · refine wa_lload rfl ?_
        refine wa_lload_n (i := 3) rfl rfl ?_
        refine wa_lxor ?_
        refine wa_topl (fun v7 hv7 => ?_)
        clear hv7
        refine wa_lconst (v := 1) (by decide) ?_
        refine wa_lxor ?_
        refine wa_topl (fun v8 hv8 => ?_)
        clear hv8
        refine wa_lstoreD (lv' := [(7, .long v8), (5, .long v3), (3, .long v1), (0, .long a0), (2, .int a1)]) (by decide) rfl ?_
        refine wa_lload_n (i := 0) rfl rfl ?_
        refine wa_iconst (v := 2) (by decide) ?_
        refine wa_lushr ?_
        refine wa_topl (fun v9 hv9 => ?_)
        clear hv9
        refine wa_iconst (v := 1) (by decide) ?_
        refine wa_lshl ?_
        refine wa_topl (fun v10 hv10 => ?_)
        clear hv10
        refine wa_lload rfl ?_
        refine wa_lor ?_
        refine wa_topl (fun v11 hv11 => ?_)
        clear hv11
        refine wa_lreturn rfl rfl ?_
        exact ⟨_, rfl, rfl, trivial⟩
      · refine wa_lload rfl ?_
        refine wa_lconst (v := 1) (by decide) ?_
        refine wa_lxor ?_
        refine wa_topl (fun v12 hv12 => ?_)
        clear hv12
        refine wa_lload_n (i := 3) rfl rfl ?_
        refine wa_lor ?_
        refine wa_topl (fun v13 hv13 => ?_)
        clear hv13
        refine wa_goto o_X6_joined_58 (by decide) ?_
        refine wa_lstoreD (lv' := [(7, .long v13), (5, .long v3), (3, .long v1), (0, .long a0), (2, .int a1)]) (by decide) rfl ?_
        refine wa_lload_n (i := 0) rfl rfl ?_
        refine wa_iconst (v := 2) (by decide) ?_
        refine wa_lushr ?_
        refine wa_topl (fun v14 hv14 => ?_)
        clear hv14
        refine wa_iconst (v := 1) (by decide) ?_
        refine wa_lshl ?_
        refine wa_topl (fun v15 hv15 => ?_)
        clear hv15
        refine wa_lload rfl ?_
        refine wa_lor ?_
        refine wa_topl (fun v16 hv16 => ?_)
        clear hv16
        refine wa_lreturn rfl rfl ?_
        exact ⟨_, rfl, rfl, trivial⟩
    · refine wa_lload rfl ?_
      refine wa_lload_n (i := 3) rfl rfl ?_
      refine wa_lor ?_
      refine wa_topl (fun v17 hv17 => ?_)
      clear hv17
      refine wa_goto o_X6_joined_58 (by decide) ?_
      refine wa_lstoreD (lv' := [(7, .long v17), (5, .long v3), (3, .long v1), (0, .long a0), (2, .int a1)]) (by decide) rfl ?_
      refine wa_lload_n (i := 0) rfl rfl ?_
      refine wa_iconst (v := 2) (by decide) ?_
      refine wa_lushr ?_
      refine wa_topl (fun v18 hv18 => ?_)
      clear hv18
      refine wa_iconst (v := 1) (by decide) ?_
      refine wa_lshl ?_
      refine wa_topl (fun v19 hv19 => ?_)
      clear hv19
      refine wa_lload rfl ?_
      refine wa_lor ?_
      refine wa_topl (fun v20 hv20 => ?_)
      clear hv20
      refine wa_lreturn rfl rfl ?_
      exact ⟨_, rfl, rfl, trivial⟩
  · refine wa_lload rfl ?_
    refine wa_lload_n (i := 3) rfl rfl ?_
    refine wa_land ?_
    refine wa_topl (fun v21 hv21 => ?_)
    clear hv21
    refine wa_goto o_X6_joined_58 (by decide) ?_
    refine wa_lstoreD (lv' := [(7, .long v21), (5, .long v3), (3, .long v1), (0, .long a0), (2, .int a1)]) (by decide) rfl ?_
    refine wa_lload_n (i := 0) rfl rfl ?_
    refine wa_iconst (v := 2) (by decide) ?_
    refine wa_lushr ?_
    refine wa_topl (fun v22 hv22 => ?_)
    clear hv22
    refine wa_iconst (v := 1) (by decide) ?_
    refine wa_lshl ?_
    refine wa_topl (fun v23 hv23 => ?_)
    clear hv23
    refine wa_lload rfl ?_
    refine wa_lor ?_
    refine wa_topl (fun v24 hv24 => ?_)
    clear hv24
    refine wa_lreturn rfl rfl ?_
    exact ⟨_, rfl, rfl, trivial⟩
set_option maxHeartbeats 4000000 in
theorem sp_X6_isSo (G : kG9) {d : Nat} (hd : 1 ≤ d) (σ : St) (a0 : Int32) (a1 : Int32) (a2 : Int32) : Ct G M_X6_isSo d [.ref 31, .int a0, .int a1, .int a2] σ (fun r σ' => ∃ x : Bool, r = some (.int (bI x)) ∧ σ = σ' ∧ True) := by
  refine wa_start (by decide) rfl (Nat.le_of_ble_eq_true rfl) (lv := [(0, .ref 31), (1, .int a0), (2, .int a1), (3, .int a2)]) rfl o_X6_isSo_0 rfl ?_
  have ua0 := Int32.toInt_lt a0
  have wa0 := Int32.le_toInt a0
  have ua1 := Int32.toInt_lt a1
  have wa1 := Int32.le_toInt a1
  have ua2 := Int32.toInt_lt a2
  have wa2 := Int32.le_toInt a2
  refine wa_lconst (v := 0) (by decide) ?_
  refine wa_lstoreD (lv' := [(4, .long 0), (0, .ref 31), (1, .int a0), (2, .int a1), (3, .int a2)]) (by decide) rfl ?_
  refine wa_iload_n (i := 1) rfl rfl ?_
  refine wa_sipush (v := 1024) (by decide) ?_
  refine wa_imul ?_
  refine wa_top (fun v1 hv1 => ?_)
  have tv1 := i_mulT hv1
  clear hv1
  refine wa_istoreD (lv' := [(6, .int v1), (4, .long 0), (0, .ref 31), (1, .int a0), (2, .int a1), (3, .int a2)]) (by decide) rfl ?_
  refine wa_iload rfl ?_
  refine wa_aload_n (i := 0) rfl rfl ?_
  refine wa_getr ck_6 fl_6_44 ly_31 rf_31_0 ?_
  refine wa_iload_n (i := 1) rfl rfl ?_
  refine wa_iconst (v := 2) (by decide) ?_
  refine wa_Vi (d9 := d - 1) [.int _, .int _] [.int v1] (sp_X2_fact G (d := d - 1) (by omega) σ _ _) (rfl) rfl rfl (zr (by omega)) mk_X2_fact ly_7 ml_6_104 (Nat.le_of_ble_eq_true rfl) (fun x3 s2 hs2 => ?_)
  obtain ⟨zs2, -⟩ := pI hs2
  subst zs2
  refine wa_iadd ?_
  refine wa_top (fun v4 hv4 => ?_)
  have tv4 := i_addT hv4
  clear hv4
  refine wa_aload_n (i := 0) rfl rfl ?_
  refine wa_getr ck_6 fl_6_44 ly_31 rf_31_0 ?_
  refine wa_getr ck_2 fl_6_131 ly_7 rf_7_4 ?_
  refine wa_alen ly_12 (by decide) ?_
  refine wa_rw (show Int32.ofNat 26624 = 26624 from rfl) ?_
  refine wa_minI zs (allW_in (kT_6 _ (List.mem_of_getElem? (i := 103) rfl)) rfl) (Nat.le_of_ble_eq_true rfl) ?_
  refine wa_top (fun v5 hv5 => ?_)
  have tv5 := i_minI hv5
  clear hv5
  refine wa_istoreD (lv' := [(7, .int v5), (6, .int v1), (4, .long 0), (0, .ref 31), (1, .int a0), (2, .int a1), (3, .int a2)]) (by decide) rfl ?_
  refine wa_iconst (v := 0) (by decide) ?_
  refine wa_iload rfl ?_
  refine wa_maxI zs (allW_in (kT_6 _ (List.mem_of_getElem? (i := 104) rfl)) rfl) (Nat.le_of_ble_eq_true rfl) ?_
  refine wa_top (fun v6 hv6 => ?_)
  have tv6 := i_maxI hv6
  clear hv6
  refine wa_istoreD (lv' := [(8, .int v6), (7, .int v5), (6, .int v1), (4, .long 0), (0, .ref 31), (1, .int a0), (2, .int a1), (3, .int a2)]) (by decide) rfl ?_
  refine wa_pick [4, 6, 7, 3, 1, 0] rfl ?_
  have hi8 : ∀ (n9_43 : Nat) (l4 : Int64) (l8 : Int32), ((0 ≤ l8.toInt) ∧ (True)) → (2147483647 - l8.toInt).toNat = n9_43 → WA G M_X6_isSo (ZM G M_X6_isSo d (fun r σ' => ∃ x : Bool, r = some (.int (bI x)) ∧ σ = σ' ∧ True)) B_X6_isSo_43 [(0, .ref 31), (2, .int a1), (3, .int a2), (4, .long l4), (7, .int v5), (8, .int l8)] [] σ := by
    intro n9_43
    induction n9_43 using Nat.strongRecOn with
    | _ n9_43 ih7 =>
      intro l4 l8  i9 m9_43
      obtain ⟨jhi8_0, -⟩ := i9
      have ul8 := Int32.toInt_lt l8
      have wl8 := Int32.le_toInt l8
      refine wa_iload rfl ?_
      refine wa_iload rfl ?_
      refine wa_icmp_ge o_X6_isSo_188 (by decide) (fun h9 => ?_) (fun h9 => ?_)
      · refine wa_lload rfl ?_
        refine wa_lconst (v := 1) (by decide) ?_
        refine wa_land ?_
        refine wa_topl (fun v10 hv10 => ?_)
        clear hv10
        refine wa_lconst (v := 1) (by decide) ?_
        refine wa_lcmp ?_
        refine wa_top (fun v11 hv11 => ?_)
        have tv11 := i_cmpT hv11
        clear hv11
        refine wa_if_ne o_X6_isSo_201 (by decide) (fun h12 => ?_) (fun h12 => ?_)
        · refine wa_iconst (v := 0) (by decide) ?_
          refine wa_zreturn false (rfl) rfl rfl ?_
          exact ⟨_, rfl, rfl, trivial⟩
        · refine wa_iconst (v := 1) (by decide) ?_
          refine wa_goto o_X6_isSo_202 (by decide) ?_
          refine wa_zreturn true (rfl) rfl rfl ?_
          exact ⟨_, rfl, rfl, trivial⟩
      · have mh9 := nle_mx h9
        refine wa_aload_n (i := 0) rfl rfl ?_
        refine wa_getr ck_6 fl_6_44 ly_31 rf_31_0 ?_
        refine wa_getr ck_2 fl_6_131 ly_7 rf_7_4 ?_
        refine wa_iload rfl ?_
        refine wa_iald ly_12 (by ((try simp only [vp_in_iff, Int32.lt_iff_toInt_lt, Int32.le_iff_toInt_le, ← Int32.toInt_inj, Int32.reduceToInt, n_1, n_2, n_8, Int32.toNatClampNeg, Int64.lt_iff_toInt_lt, Int64.le_iff_toInt_le, ← Int64.toInt_inj, Int64.reduceToInt, Int32.toInt_toInt64, lg_cmp_ge, lg_cmp_le, lg_cmp_gt, lg_cmp_lt, lg_cmp_eq, Bool.false_eq_true, Bool.true_eq_false, reduceCtorEq, false_iff, true_iff, iff_true, iff_false, and_true, true_and, and_false, false_and, reduceIte, ite_true, ite_false, eq_self] at *)) <;> omega) ?_
        refine wa_istoreD (lv' := [(9, .int (gi σ 12 (l8).toNatClampNeg)), (0, .ref 31), (2, .int a1), (3, .int a2), (4, .long l4), (7, .int v5), (8, .int l8)]) (by decide) rfl ?_
        refine wa_iload rfl ?_
        refine wa_if_lt o_X6_isSo_95 (by decide) (fun h13 => ?_) (fun h13 => ?_)
        · refine wa_iload rfl ?_
          refine wa_bipush (v := (-100)) (by decide) ?_
          refine wa_icmp_gt o_X6_isSo_122 (by decide) (fun h14 => ?_) (fun h14 => ?_)
          · refine wa_iload rfl ?_
            refine wa_bipush (v := (-26)) (by decide) ?_
            refine wa_icmp_eq o_X6_isSo_136 (by decide) (fun h15 => ?_) (fun h15 => ?_)
            · refine wa_lload rfl ?_
              refine wa_iconst (v := 1) (by decide) ?_
              refine wa_lshl ?_
              refine wa_topl (fun v16 hv16 => ?_)
              clear hv16
              refine wa_iload rfl ?_
              refine wa_bipush (v := (-26)) (by decide) ?_
              refine wa_icmp_ne o_X6_isSo_151 (by decide) (fun h17 => ?_) (fun h17 => ?_)
              · refine wa_iconst (v := 0) (by decide) ?_
                refine wa_i2l ?_
                refine wa_lor ?_
                refine wa_topl (fun v18 hv18 => ?_)
                clear hv18
                refine wa_lstoreD (lv' := [(4, .long v18), (9, .int (gi σ 12 (l8).toNatClampNeg)), (0, .ref 31), (2, .int a1), (3, .int a2), (7, .int v5), (8, .int l8)]) (by decide) rfl ?_
                refine wa_goto o_X6_isSo_182 (by decide) ?_
                refine wa_iinc (v := (1)) (lv' := fun y19 => [(8, .int y19), (4, .long v18), (9, .int (gi σ 12 (l8).toNatClampNeg)), (0, .ref 31), (2, .int a1), (3, .int a2), (7, .int v5)]) (by decide) rfl (by decide) (fun _ => rfl) (fun y19 hy19 => ?_)
                have ty19 := i_addT hy19.symm
                clear hy19
                refine wa_goto o_X6_isSo_43 (by decide) ?_
                refine wa_pick [3, 4, 5, 1, 6, 0] rfl ?_
                exact ih7 _ (by ((try simp only [vp_in_iff, Int32.lt_iff_toInt_lt, Int32.le_iff_toInt_le, ← Int32.toInt_inj, Int32.reduceToInt, n_1, n_2, n_8, Int32.toNatClampNeg, Int64.lt_iff_toInt_lt, Int64.le_iff_toInt_le, ← Int64.toInt_inj, Int64.reduceToInt, Int32.toInt_toInt64, lg_cmp_ge, lg_cmp_le, lg_cmp_gt, lg_cmp_lt, lg_cmp_eq, Bool.false_eq_true, Bool.true_eq_false, reduceCtorEq, false_iff, true_iff, iff_true, iff_false, and_true, true_and, and_false, false_and, reduceIte, ite_true, ite_false, eq_self] at *)) <;> omega) _ _ ⟨(by ((try simp only [vp_in_iff, Int32.lt_iff_toInt_lt, Int32.le_iff_toInt_le, ← Int32.toInt_inj, Int32.reduceToInt, n_1, n_2, n_8, Int32.toNatClampNeg, Int64.lt_iff_toInt_lt, Int64.le_iff_toInt_le, ← Int64.toInt_inj, Int64.reduceToInt, Int32.toInt_toInt64, lg_cmp_ge, lg_cmp_le, lg_cmp_gt, lg_cmp_lt, lg_cmp_eq, Bool.false_eq_true, Bool.true_eq_false, reduceCtorEq, false_iff, true_iff, iff_true, iff_false, and_true, true_and, and_false, false_and, reduceIte, ite_true, ite_false, eq_self] at *)) <;> omega), trivial⟩ rfl
              · refine wa_iconst (v := 1) (by decide) ?_
                refine wa_goto o_X6_isSo_152 (by decide) ?_
                refine wa_i2l ?_
                refine wa_lor ?_
                refine wa_topl (fun v20 hv20 => ?_)
                clear hv20
                refine wa_lstoreD (lv' := [(4, .long v20), (9, .int (gi σ 12 (l8).toNatClampNeg)), (0, .ref 31), (2, .int a1), (3, .int a2), (7, .int v5), (8, .int l8)]) (by decide) rfl ?_
                refine wa_goto o_X6_isSo_182 (by decide) ?_
                refine wa_iinc (v := (1)) (lv' := fun y21 => [(8, .int y21), (4, .long v20), (9, .int (gi σ 12 (l8).toNatClampNeg)), (0, .ref 31), (2, .int a1), (3, .int a2), (7, .int v5)]) (by decide) rfl (by decide) (fun _ => rfl) (fun y21 hy21 => ?_)
                have ty21 := i_addT hy21.symm
                clear hy21
                refine wa_goto o_X6_isSo_43 (by decide) ?_
                refine wa_pick [3, 4, 5, 1, 6, 0] rfl ?_
                exact ih7 _ (by ((try simp only [vp_in_iff, Int32.lt_iff_toInt_lt, Int32.le_iff_toInt_le, ← Int32.toInt_inj, Int32.reduceToInt, n_1, n_2, n_8, Int32.toNatClampNeg, Int64.lt_iff_toInt_lt, Int64.le_iff_toInt_le, ← Int64.toInt_inj, Int64.reduceToInt, Int32.toInt_toInt64, lg_cmp_ge, lg_cmp_le, lg_cmp_gt, lg_cmp_lt, lg_cmp_eq, Bool.false_eq_true, Bool.true_eq_false, reduceCtorEq, false_iff, true_iff, iff_true, iff_false, and_true, true_and, and_false, false_and, reduceIte, ite_true, ite_false, eq_self] at *)) <;> omega) _ _ ⟨(by ((try simp only [vp_in_iff, Int32.lt_iff_toInt_lt, Int32.le_iff_toInt_le, ← Int32.toInt_inj, Int32.reduceToInt, n_1, n_2, n_8, Int32.toNatClampNeg, Int64.lt_iff_toInt_lt, Int64.le_iff_toInt_le, ← Int64.toInt_inj, Int64.reduceToInt, Int32.toInt_toInt64, lg_cmp_ge, lg_cmp_le, lg_cmp_gt, lg_cmp_lt, lg_cmp_eq, Bool.false_eq_true, Bool.true_eq_false, reduceCtorEq, false_iff, true_iff, iff_true, iff_false, and_true, true_and, and_false, false_and, reduceIte, ite_true, ite_false, eq_self] at *)) <;> omega), trivial⟩ rfl
            · refine wa_iload rfl ?_
              refine wa_bipush (v := (-27)) (by decide) ?_
              refine wa_icmp_ne o_X6_isSo_159 (by decide) (fun h22 => ?_) (fun h22 => ?_)
              · refine wa_iload rfl ?_
                refine wa_bipush (v := (-25)) (by decide) ?_
                refine wa_icmp_ne o_X6_isSo_173 (by decide) (fun h23 => ?_) (fun h23 => ?_)
                · refine wa_lload rfl ?_
                  refine wa_iload rfl ?_
                  refine wa_Sl (d9 := d - 1) [.long _, .int _] [] (sp_X6_joined G (d := d - 1) (by omega) σ _ _) (rfl) rfl rfl (zr (by omega)) mk_X6_joined ml_6_136 (Nat.le_of_ble_eq_true rfl) (fun x25 s24 hs24 => ?_)
                  obtain ⟨zs24, -⟩ := pL hs24
                  subst zs24
                  refine wa_lstoreD (lv' := [(4, .long x25), (9, .int (gi σ 12 (l8).toNatClampNeg)), (0, .ref 31), (2, .int a1), (3, .int a2), (7, .int v5), (8, .int l8)]) (by decide) rfl ?_
                  refine wa_iinc (v := (1)) (lv' := fun y26 => [(8, .int y26), (4, .long x25), (9, .int (gi σ 12 (l8).toNatClampNeg)), (0, .ref 31), (2, .int a1), (3, .int a2), (7, .int v5)]) (by decide) rfl (by decide) (fun _ => rfl) (fun y26 hy26 => ?_)
                  have ty26 := i_addT hy26.symm
                  clear hy26
                  refine wa_goto o_X6_isSo_43 (by decide) ?_
                  refine wa_pick [3, 4, 5, 1, 6, 0] rfl ?_
                  exact ih7 _ (by ((try simp only [vp_in_iff, Int32.lt_iff_toInt_lt, Int32.le_iff_toInt_le, ← Int32.toInt_inj, Int32.reduceToInt, n_1, n_2, n_8, Int32.toNatClampNeg, Int64.lt_iff_toInt_lt, Int64.le_iff_toInt_le, ← Int64.toInt_inj, Int64.reduceToInt, Int32.toInt_toInt64, lg_cmp_ge, lg_cmp_le, lg_cmp_gt, lg_cmp_lt, lg_cmp_eq, Bool.false_eq_true, Bool.true_eq_false, reduceCtorEq, false_iff, true_iff, iff_true, iff_false, and_true, true_and, and_false, false_and, reduceIte, ite_true, ite_false, eq_self] at *)) <;> omega) _ _ ⟨(by ((try simp only [vp_in_iff, Int32.lt_iff_toInt_lt, Int32.le_iff_toInt_le, ← Int32.toInt_inj, Int32.reduceToInt, n_1, n_2, n_8, Int32.toNatClampNeg, Int64.lt_iff_toInt_lt, Int64.le_iff_toInt_le, ← Int64.toInt_inj, Int64.reduceToInt, Int32.toInt_toInt64, lg_cmp_ge, lg_cmp_le, lg_cmp_gt, lg_cmp_lt, lg_cmp_eq, Bool.false_eq_true, Bool.true_eq_false, reduceCtorEq, false_iff, true_iff, iff_true, iff_false, and_true, true_and, and_false, false_and, reduceIte, ite_true, ite_false, eq_self] at *)) <;> omega), trivial⟩ rfl
                · refine wa_lload rfl ?_
                  refine wa_lconst (v := 1) (by decide) ?_
                  refine wa_lxor ?_
                  refine wa_topl (fun v27 hv27 => ?_)
                  clear hv27
                  refine wa_goto o_X6_isSo_180 (by decide) ?_
                  refine wa_lstoreD (lv' := [(4, .long v27), (9, .int (gi σ 12 (l8).toNatClampNeg)), (0, .ref 31), (2, .int a1), (3, .int a2), (7, .int v5), (8, .int l8)]) (by decide) rfl ?_
                  refine wa_iinc (v := (1)) (lv' := fun y28 => [(8, .int y28), (4, .long v27), (9, .int (gi σ 12 (l8).toNatClampNeg)), (0, .ref 31), (2, .int a1), (3, .int a2), (7, .int v5)]) (by decide) rfl (by decide) (fun _ => rfl) (fun y28 hy28 => ?_)
                  have ty28 := i_addT hy28.symm
                  clear hy28
                  refine wa_goto o_X6_isSo_43 (by decide) ?_
                  refine wa_pick [3, 4, 5, 1, 6, 0] rfl ?_
                  exact ih7 _ (by ((try simp only [vp_in_iff, Int32.lt_iff_toInt_lt, Int32.le_iff_toInt_le, ← Int32.toInt_inj, Int32.reduceToInt, n_1, n_2, n_8, Int32.toNatClampNeg, Int64.lt_iff_toInt_lt, Int64.le_iff_toInt_le, ← Int64.toInt_inj, Int64.reduceToInt, Int32.toInt_toInt64, lg_cmp_ge, lg_cmp_le, lg_cmp_gt, lg_cmp_lt, lg_cmp_eq, Bool.false_eq_true, Bool.true_eq_false, reduceCtorEq, false_iff, true_iff, iff_true, iff_false, and_true, true_and, and_false, false_and, reduceIte, ite_true, ite_false, eq_self] at *)) <;> omega) _ _ ⟨(by ((try simp only [vp_in_iff, Int32.lt_iff_toInt_lt, Int32.le_iff_toInt_le, ← Int32.toInt_inj, Int32.reduceToInt, n_1, n_2, n_8, Int32.toNatClampNeg, Int64.lt_iff_toInt_lt, Int64.le_iff_toInt_le, ← Int64.toInt_inj, Int64.reduceToInt, Int32.toInt_toInt64, lg_cmp_ge, lg_cmp_le, lg_cmp_gt, lg_cmp_lt, lg_cmp_eq, Bool.false_eq_true, Bool.true_eq_false, reduceCtorEq, false_iff, true_iff, iff_true, iff_false, and_true, true_and, and_false, false_and, reduceIte, ite_true, ite_false, eq_self] at *)) <;> omega), trivial⟩ rfl
              · refine wa_lload rfl ?_
                refine wa_iconst (v := 1) (by decide) ?_
                refine wa_lshl ?_
                refine wa_topl (fun v29 hv29 => ?_)
                clear hv29
                refine wa_iload rfl ?_
                refine wa_bipush (v := (-26)) (by decide) ?_
                refine wa_icmp_ne o_X6_isSo_151 (by decide) (fun h30 => ?_) (fun h30 => ?_)
                · refine wa_iconst (v := 0) (by decide) ?_
                  refine wa_i2l ?_
                  refine wa_lor ?_
                  refine wa_topl (fun v31 hv31 => ?_)
                  clear hv31
                  refine wa_lstoreD (lv' := [(4, .long v31), (9, .int (gi σ 12 (l8).toNatClampNeg)), (0, .ref 31), (2, .int a1), (3, .int a2), (7, .int v5), (8, .int l8)]) (by decide) rfl ?_
                  refine wa_goto o_X6_isSo_182 (by decide) ?_
                  refine wa_iinc (v := (1)) (lv' := fun y32 => [(8, .int y32), (4, .long v31), (9, .int (gi σ 12 (l8).toNatClampNeg)), (0, .ref 31), (2, .int a1), (3, .int a2), (7, .int v5)]) (by decide) rfl (by decide) (fun _ => rfl) (fun y32 hy32 => ?_)
                  have ty32 := i_addT hy32.symm
                  clear hy32
                  refine wa_goto o_X6_isSo_43 (by decide) ?_
                  refine wa_pick [3, 4, 5, 1, 6, 0] rfl ?_
                  exact ih7 _ (by ((try simp only [vp_in_iff, Int32.lt_iff_toInt_lt, Int32.le_iff_toInt_le, ← Int32.toInt_inj, Int32.reduceToInt, n_1, n_2, n_8, Int32.toNatClampNeg, Int64.lt_iff_toInt_lt, Int64.le_iff_toInt_le, ← Int64.toInt_inj, Int64.reduceToInt, Int32.toInt_toInt64, lg_cmp_ge, lg_cmp_le, lg_cmp_gt, lg_cmp_lt, lg_cmp_eq, Bool.false_eq_true, Bool.true_eq_false, reduceCtorEq, false_iff, true_iff, iff_true, iff_false, and_true, true_and, and_false, false_and, reduceIte, ite_true, ite_false, eq_self] at *)) <;> omega) _ _ ⟨(by ((try simp only [vp_in_iff, Int32.lt_iff_toInt_lt, Int32.le_iff_toInt_le, ← Int32.toInt_inj, Int32.reduceToInt, n_1, n_2, n_8, Int32.toNatClampNeg, Int64.lt_iff_toInt_lt, Int64.le_iff_toInt_le, ← Int64.toInt_inj, Int64.reduceToInt, Int32.toInt_toInt64, lg_cmp_ge, lg_cmp_le, lg_cmp_gt, lg_cmp_lt, lg_cmp_eq, Bool.false_eq_true, Bool.true_eq_false, reduceCtorEq, false_iff, true_iff, iff_true, iff_false, and_true, true_and, and_false, false_and, reduceIte, ite_true, ite_false, eq_self] at *)) <;> omega), trivial⟩ rfl
                · refine wa_iconst (v := 1) (by decide) ?_
                  refine wa_goto o_X6_isSo_152 (by decide) ?_
                  refine wa_i2l ?_
                  refine wa_lor ?_
                  refine wa_topl (fun v33 hv33 => ?_)
                  clear hv33
                  refine wa_lstoreD (lv' := [(4, .long v33), (9, .int (gi σ 12 (l8).toNatClampNeg)), (0, .ref 31), (2, .int a1), (3, .int a2), (7, .int v5), (8, .int l8)]) (by decide) rfl ?_
                  refine wa_goto o_X6_isSo_182 (by decide) ?_
                  refine wa_iinc (v := (1)) (lv' := fun y34 => [(8, .int y34), (4, .long v33), (9, .int (gi σ 12 (l8).toNatClampNeg)), (0, .ref 31), (2, .int a1), (3, .int a2), (7, .int v5)]) (by decide) rfl (by decide) (fun _ => rfl) (fun y34 hy34 => ?_)
                  have ty34 := i_addT hy34.symm
                  clear hy34
                  refine wa_goto o_X6_isSo_43 (by decide) ?_
                  refine wa_pick [3, 4, 5, 1, 6, 0] rfl ?_
                  exact ih7 _ (by ((try simp only [vp_in_iff, Int32.lt_iff_toInt_lt, Int32.le_iff_toInt_le, ← Int32.toInt_inj, Int32.reduceToInt, n_1, n_2, n_8, Int32.toNatClampNeg, Int64.lt_iff_toInt_lt, Int64.le_iff_toInt_le, ← Int64.toInt_inj, Int64.reduceToInt, Int32.toInt_toInt64, lg_cmp_ge, lg_cmp_le, lg_cmp_gt, lg_cmp_lt, lg_cmp_eq, Bool.false_eq_true, Bool.true_eq_false, reduceCtorEq, false_iff, true_iff, iff_true, iff_false, and_true, true_and, and_false, false_and, reduceIte, ite_true, ite_false, eq_self] at *)) <;> omega) _ _ ⟨(by ((try simp only [vp_in_iff, Int32.lt_iff_toInt_lt, Int32.le_iff_toInt_le, ← Int32.toInt_inj, Int32.reduceToInt, n_1, n_2, n_8, Int32.toNatClampNeg, Int64.lt_iff_toInt_lt, Int64.le_iff_toInt_le, ← Int64.toInt_inj, Int64.reduceToInt, Int32.toInt_toInt64, lg_cmp_ge, lg_cmp_le, lg_cmp_gt, lg_cmp_lt, lg_cmp_eq, Bool.false_eq_true, Bool.true_eq_false, reduceCtorEq, false_iff, true_iff, iff_true, iff_false, and_true, true_and, and_false, false_and, reduceIte, ite_true, ite_false, eq_self] at *)) <;> omega), trivial⟩ rfl
          · refine wa_lload rfl ?_
            refine wa_iconst (v := 1) (by decide) ?_
            refine wa_lshl ?_
            refine wa_topl (fun v35 hv35 => ?_)
            clear hv35
            refine wa_iload_n (i := 3) rfl rfl ?_
            refine wa_bipush (v := (-100)) (by decide) ?_
            refine wa_iload rfl ?_
            refine wa_isub ?_
            refine wa_top (fun v36 hv36 => ?_)
            have tv36 := i_subT hv36
            clear hv36
            refine wa_iushr ?_
            refine wa_top (fun v37 hv37 => ?_)
            clear hv37
            refine wa_iconst (v := 1) (by decide) ?_
            refine wa_iand ?_
            refine wa_top (fun v38 hv38 => ?_)
            have tv38 := i_andT hv38
            clear hv38
            refine wa_i2l ?_
            refine wa_lor ?_
            refine wa_topl (fun v39 hv39 => ?_)
            clear hv39
            refine wa_lstoreD (lv' := [(4, .long v39), (9, .int (gi σ 12 (l8).toNatClampNeg)), (0, .ref 31), (2, .int a1), (3, .int a2), (7, .int v5), (8, .int l8)]) (by decide) rfl ?_
            refine wa_goto o_X6_isSo_182 (by decide) ?_
            refine wa_iinc (v := (1)) (lv' := fun y40 => [(8, .int y40), (4, .long v39), (9, .int (gi σ 12 (l8).toNatClampNeg)), (0, .ref 31), (2, .int a1), (3, .int a2), (7, .int v5)]) (by decide) rfl (by decide) (fun _ => rfl) (fun y40 hy40 => ?_)
            have ty40 := i_addT hy40.symm
            clear hy40
            refine wa_goto o_X6_isSo_43 (by decide) ?_
            refine wa_pick [3, 4, 5, 1, 6, 0] rfl ?_
            exact ih7 _ (by ((try simp only [vp_in_iff, Int32.lt_iff_toInt_lt, Int32.le_iff_toInt_le, ← Int32.toInt_inj, Int32.reduceToInt, n_1, n_2, n_8, Int32.toNatClampNeg, Int64.lt_iff_toInt_lt, Int64.le_iff_toInt_le, ← Int64.toInt_inj, Int64.reduceToInt, Int32.toInt_toInt64, lg_cmp_ge, lg_cmp_le, lg_cmp_gt, lg_cmp_lt, lg_cmp_eq, Bool.false_eq_true, Bool.true_eq_false, reduceCtorEq, false_iff, true_iff, iff_true, iff_false, and_true, true_and, and_false, false_and, reduceIte, ite_true, ite_false, eq_self] at *)) <;> omega) _ _ ⟨(by ((try simp only [vp_in_iff, Int32.lt_iff_toInt_lt, Int32.le_iff_toInt_le, ← Int32.toInt_inj, Int32.reduceToInt, n_1, n_2, n_8, Int32.toNatClampNeg, Int64.lt_iff_toInt_lt, Int64.le_iff_toInt_le, ← Int64.toInt_inj, Int64.reduceToInt, Int32.toInt_toInt64, lg_cmp_ge, lg_cmp_le, lg_cmp_gt, lg_cmp_lt, lg_cmp_eq, Bool.false_eq_true, Bool.true_eq_false, reduceCtorEq, false_iff, true_iff, iff_true, iff_false, and_true, true_and, and_false, false_and, reduceIte, ite_true, ite_false, eq_self] at *)) <;> omega), trivial⟩ rfl
        · refine wa_lload rfl ?_
          refine wa_iconst (v := 1) (by decide) ?_
          refine wa_lshl ?_
          refine wa_topl (fun v41 hv41 => ?_)
          clear hv41
          refine wa_iload_n (i := 2) rfl rfl ?_
          refine wa_aload_n (i := 0) rfl rfl ?_
          refine wa_getr ck_6 fl_6_17 ly_31 rf_31_2 ?_
          refine wa_iload rfl ?_
          refine wa_sipush (v := 639) (by decide) ?_
          refine wa_minI zs (allW_in (kT_6 _ (List.mem_of_getElem? (i := 103) rfl)) rfl) (Nat.le_of_ble_eq_true rfl) ?_
          refine wa_top (fun v42 hv42 => ?_)
          have tv42 := i_minI hv42
          clear hv42
          refine wa_iald ly_33 (by ((try simp only [vp_in_iff, Int32.lt_iff_toInt_lt, Int32.le_iff_toInt_le, ← Int32.toInt_inj, Int32.reduceToInt, n_1, n_2, n_8, Int32.toNatClampNeg, Int64.lt_iff_toInt_lt, Int64.le_iff_toInt_le, ← Int64.toInt_inj, Int64.reduceToInt, Int32.toInt_toInt64, lg_cmp_ge, lg_cmp_le, lg_cmp_gt, lg_cmp_lt, lg_cmp_eq, Bool.false_eq_true, Bool.true_eq_false, reduceCtorEq, false_iff, true_iff, iff_true, iff_false, and_true, true_and, and_false, false_and, reduceIte, ite_true, ite_false, eq_self] at *)) <;> omega) ?_
          refine wa_iushr ?_
          refine wa_top (fun v43 hv43 => ?_)
          clear hv43
          refine wa_iconst (v := 1) (by decide) ?_
          refine wa_iand ?_
          refine wa_top (fun v44 hv44 => ?_)
          have tv44 := i_andT hv44
          clear hv44
          refine wa_i2l ?_
          refine wa_lor ?_
          refine wa_topl (fun v45 hv45 => ?_)
          clear hv45
          refine wa_lstoreD (lv' := [(4, .long v45), (9, .int (gi σ 12 (l8).toNatClampNeg)), (0, .ref 31), (2, .int a1), (3, .int a2), (7, .int v5), (8, .int l8)]) (by decide) rfl ?_
          refine wa_goto o_X6_isSo_182 (by decide) ?_
          refine wa_iinc (v := (1)) (lv' := fun y46 => [(8, .int y46), (4, .long v45), (9, .int (gi σ 12 (l8).toNatClampNeg)), (0, .ref 31), (2, .int a1), (3, .int a2), (7, .int v5)]) (by decide) rfl (by decide) (fun _ => rfl) (fun y46 hy46 => ?_)
          have ty46 := i_addT hy46.symm
          clear hy46
          refine wa_goto o_X6_isSo_43 (by decide) ?_
          refine wa_pick [3, 4, 5, 1, 6, 0] rfl ?_
          exact ih7 _ (by ((try simp only [vp_in_iff, Int32.lt_iff_toInt_lt, Int32.le_iff_toInt_le, ← Int32.toInt_inj, Int32.reduceToInt, n_1, n_2, n_8, Int32.toNatClampNeg, Int64.lt_iff_toInt_lt, Int64.le_iff_toInt_le, ← Int64.toInt_inj, Int64.reduceToInt, Int32.toInt_toInt64, lg_cmp_ge, lg_cmp_le, lg_cmp_gt, lg_cmp_lt, lg_cmp_eq, Bool.false_eq_true, Bool.true_eq_false, reduceCtorEq, false_iff, true_iff, iff_true, iff_false, and_true, true_and, and_false, false_and, reduceIte, ite_true, ite_false, eq_self] at *)) <;> omega) _ _ ⟨(by ((try simp only [vp_in_iff, Int32.lt_iff_toInt_lt, Int32.le_iff_toInt_le, ← Int32.toInt_inj, Int32.reduceToInt, n_1, n_2, n_8, Int32.toNatClampNeg, Int64.lt_iff_toInt_lt, Int64.le_iff_toInt_le, ← Int64.toInt_inj, Int64.reduceToInt, Int32.toInt_toInt64, lg_cmp_ge, lg_cmp_le, lg_cmp_gt, lg_cmp_lt, lg_cmp_eq, Bool.false_eq_true, Bool.true_eq_false, reduceCtorEq, false_iff, true_iff, iff_true, iff_false, and_true, true_and, and_false, false_and, reduceIte, ite_true, ite_false, eq_self] at *)) <;> omega), trivial⟩ rfl
  exact hi8 _ _ _ ⟨(by ((try simp only [vp_in_iff, Int32.lt_iff_toInt_lt, Int32.le_iff_toInt_le, ← Int32.toInt_inj, Int32.reduceToInt, n_1, n_2, n_8, Int32.toNatClampNeg, Int64.lt_iff_toInt_lt, Int64.le_iff_toInt_le, ← Int64.toInt_inj, Int64.reduceToInt, Int32.toInt_toInt64, lg_cmp_ge, lg_cmp_le, lg_cmp_gt, lg_cmp_lt, lg_cmp_eq, Bool.false_eq_true, Bool.true_eq_false, reduceCtorEq, false_iff, true_iff, iff_true, iff_false, and_true, true_and, and_false, false_and, reduceIte, ite_true, ite_false, eq_self] at *)) <;> omega), trivial⟩ rfl
set_option maxHeartbeats 4000000 in
theorem sp_X6_soOf (G : kG9) {d : Nat} (hd : 2 ≤ d) (σ : St) (a0 : Int32) : Ct G M_X6_soOf d [.ref 31, .int a0] σ (fun r σ' => ∃ x : Int32, r = some (.int x) ∧ σ = σ' ∧ True) := by
  refine wa_start (by decide) rfl (Nat.le_of_ble_eq_true rfl) (lv := [(0, .ref 31), (1, .int a0)]) rfl o_X6_soOf_0 rfl ?_
  have ua0 := Int32.toInt_lt a0
  have wa0 := Int32.le_toInt a0
  refine wa_iconst (v := 0) (by decide) ?_
  refine wa_istore_nD (lv' := [(2, .int 0), (0, .ref 31), (1, .int a0)]) (i := 2) rfl (by decide) rfl ?_
  refine wa_iconst (v := 0) (by decide) ?_
  refine wa_istore_nD (lv' := [(3, .int 0), (2, .int 0), (0, .ref 31), (1, .int a0)]) (i := 3) rfl (by decide) rfl ?_
  refine wa_pick [2, 3, 1, 0] rfl ?_
  have hi2 : ∀ (n9_4 : Nat) (l2 : Int32) (l3 : Int32), ((0 ≤ l3.toInt) ∧ (True)) → (2147483647 - l3.toInt).toNat = n9_4 → WA G M_X6_soOf (ZM G M_X6_soOf d (fun r σ' => ∃ x : Int32, r = some (.int x) ∧ σ = σ' ∧ True)) B_X6_soOf_4 [(0, .ref 31), (1, .int a0), (2, .int l2), (3, .int l3)] [] σ := by
    intro n9_4
    induction n9_4 using Nat.strongRecOn with
    | _ n9_4 ih1 =>
      intro l2 l3  i9 m9_4
      obtain ⟨jhi2_0, -⟩ := i9
      have ul2 := Int32.toInt_lt l2
      have wl2 := Int32.le_toInt l2
      have ul3 := Int32.toInt_lt l3
      have wl3 := Int32.le_toInt l3
      refine wa_iload_n (i := 3) rfl rfl ?_
      refine wa_bipush (v := 24) (by decide) ?_
      refine wa_icmp_gt o_X6_soOf_44 (by decide) (fun h3 => ?_) (fun h3 => ?_)
      · refine wa_iload_n (i := 2) rfl rfl ?_
        refine wa_ireturn rfl rfl ?_
        exact ⟨_, rfl, rfl, trivial⟩
      · refine wa_aload_n (i := 0) rfl rfl ?_
        refine wa_geti ck_6 fl_6_90 ly_31 ?_
        refine wa_iload_n (i := 3) rfl rfl ?_
        refine wa_iushr ?_
        refine wa_top (fun v4 hv4 => ?_)
        clear hv4
        refine wa_iconst (v := 1) (by decide) ?_
        refine wa_iand ?_
        refine wa_top (fun v5 hv5 => ?_)
        have tv5 := i_andT hv5
        clear hv5
        refine wa_iconst (v := 1) (by decide) ?_
        refine wa_icmp_ne o_X6_soOf_38 (by decide) (fun h6 => ?_) (fun h6 => ?_)
        · refine wa_iinc (v := (1)) (lv' := fun y7 => [(3, .int y7), (0, .ref 31), (1, .int a0), (2, .int l2)]) (by decide) rfl (by decide) (fun _ => rfl) (fun y7 hy7 => ?_)
          have ty7 := i_addT hy7.symm
          clear hy7
          refine wa_goto o_X6_soOf_4 (by decide) ?_
          refine wa_pick [1, 2, 3, 0] rfl ?_
          exact ih1 _ (by ((try simp only [vp_in_iff, Int32.lt_iff_toInt_lt, Int32.le_iff_toInt_le, ← Int32.toInt_inj, Int32.reduceToInt, n_1, n_2, n_8, Int32.toNatClampNeg, Int64.lt_iff_toInt_lt, Int64.le_iff_toInt_le, ← Int64.toInt_inj, Int64.reduceToInt, Int32.toInt_toInt64, lg_cmp_ge, lg_cmp_le, lg_cmp_gt, lg_cmp_lt, lg_cmp_eq, Bool.false_eq_true, Bool.true_eq_false, reduceCtorEq, false_iff, true_iff, iff_true, iff_false, and_true, true_and, and_false, false_and, reduceIte, ite_true, ite_false, eq_self] at *)) <;> omega) _ _ ⟨(by ((try simp only [vp_in_iff, Int32.lt_iff_toInt_lt, Int32.le_iff_toInt_le, ← Int32.toInt_inj, Int32.reduceToInt, n_1, n_2, n_8, Int32.toNatClampNeg, Int64.lt_iff_toInt_lt, Int64.le_iff_toInt_le, ← Int64.toInt_inj, Int64.reduceToInt, Int32.toInt_toInt64, lg_cmp_ge, lg_cmp_le, lg_cmp_gt, lg_cmp_lt, lg_cmp_eq, Bool.false_eq_true, Bool.true_eq_false, reduceCtorEq, false_iff, true_iff, iff_true, iff_false, and_true, true_and, and_false, false_and, reduceIte, ite_true, ite_false, eq_self] at *)) <;> omega), trivial⟩ rfl
        · refine wa_aload_n (i := 0) rfl rfl ?_
          refine wa_iload_n (i := 3) rfl rfl ?_
          refine wa_iload_n (i := 1) rfl rfl ?_
          refine wa_iload_n (i := 2) rfl rfl ?_
          refine wa_Vi (d9 := d - 1) [.int _, .int _, .int _] [] (sp_X6_isSo G (d := d - 1) (by omega) σ _ _ _) (rfl) rfl rfl (zr (by omega)) mk_X6_isSo ly_31 ml_6_127 (Nat.le_of_ble_eq_true rfl) (fun x9 s8 hs8 => ?_)
          obtain ⟨bx9, ex9, zs8, -⟩ := pB hs8
          subst ex9
          subst zs8
          refine wa_if_eq o_X6_soOf_38 (by decide) (fun h10 => ?_) (fun h10 => ?_)
          · replace h10 := bI_f (b := bx9) (rfl) h10
            refine wa_iinc (v := (1)) (lv' := fun y11 => [(3, .int y11), (0, .ref 31), (1, .int a0), (2, .int l2)]) (by decide) rfl (by decide) (fun _ => rfl) (fun y11 hy11 => ?_)
            have ty11 := i_addT hy11.symm
            clear hy11
            refine wa_goto o_X6_soOf_4 (by decide) ?_
            refine wa_pick [1, 2, 3, 0] rfl ?_
            exact ih1 _ (by ((try simp only [vp_in_iff, Int32.lt_iff_toInt_lt, Int32.le_iff_toInt_le, ← Int32.toInt_inj, Int32.reduceToInt, n_1, n_2, n_8, Int32.toNatClampNeg, Int64.lt_iff_toInt_lt, Int64.le_iff_toInt_le, ← Int64.toInt_inj, Int64.reduceToInt, Int32.toInt_toInt64, lg_cmp_ge, lg_cmp_le, lg_cmp_gt, lg_cmp_lt, lg_cmp_eq, Bool.false_eq_true, Bool.true_eq_false, reduceCtorEq, false_iff, true_iff, iff_true, iff_false, and_true, true_and, and_false, false_and, reduceIte, ite_true, ite_false, eq_self] at *)) <;> omega) _ _ ⟨(by ((try simp only [vp_in_iff, Int32.lt_iff_toInt_lt, Int32.le_iff_toInt_le, ← Int32.toInt_inj, Int32.reduceToInt, n_1, n_2, n_8, Int32.toNatClampNeg, Int64.lt_iff_toInt_lt, Int64.le_iff_toInt_le, ← Int64.toInt_inj, Int64.reduceToInt, Int32.toInt_toInt64, lg_cmp_ge, lg_cmp_le, lg_cmp_gt, lg_cmp_lt, lg_cmp_eq, Bool.false_eq_true, Bool.true_eq_false, reduceCtorEq, false_iff, true_iff, iff_true, iff_false, and_true, true_and, and_false, false_and, reduceIte, ite_true, ite_false, eq_self] at *)) <;> omega), trivial⟩ rfl
          · replace h10 := bI_t (b := bx9) (rfl) h10
            refine wa_iload_n (i := 2) rfl rfl ?_
            refine wa_iconst (v := 1) (by decide) ?_
            refine wa_iload_n (i := 3) rfl rfl ?_
            refine wa_ishl ?_
            refine wa_top (fun v12 hv12 => ?_)
            clear hv12
            refine wa_ior ?_
            refine wa_top (fun v13 hv13 => ?_)
            clear hv13
            refine wa_istore_nD (lv' := [(2, .int v13), (0, .ref 31), (1, .int a0), (3, .int l3)]) (i := 2) rfl (by decide) rfl ?_
            refine wa_iinc (v := (1)) (lv' := fun y14 => [(3, .int y14), (2, .int v13), (0, .ref 31), (1, .int a0)]) (by decide) rfl (by decide) (fun _ => rfl) (fun y14 hy14 => ?_)
            have ty14 := i_addT hy14.symm
            clear hy14
            refine wa_goto o_X6_soOf_4 (by decide) ?_
            refine wa_pick [2, 3, 1, 0] rfl ?_
            exact ih1 _ (by ((try simp only [vp_in_iff, Int32.lt_iff_toInt_lt, Int32.le_iff_toInt_le, ← Int32.toInt_inj, Int32.reduceToInt, n_1, n_2, n_8, Int32.toNatClampNeg, Int64.lt_iff_toInt_lt, Int64.le_iff_toInt_le, ← Int64.toInt_inj, Int64.reduceToInt, Int32.toInt_toInt64, lg_cmp_ge, lg_cmp_le, lg_cmp_gt, lg_cmp_lt, lg_cmp_eq, Bool.false_eq_true, Bool.true_eq_false, reduceCtorEq, false_iff, true_iff, iff_true, iff_false, and_true, true_and, and_false, false_and, reduceIte, ite_true, ite_false, eq_self] at *)) <;> omega) _ _ ⟨(by ((try simp only [vp_in_iff, Int32.lt_iff_toInt_lt, Int32.le_iff_toInt_le, ← Int32.toInt_inj, Int32.reduceToInt, n_1, n_2, n_8, Int32.toNatClampNeg, Int64.lt_iff_toInt_lt, Int64.le_iff_toInt_le, ← Int64.toInt_inj, Int64.reduceToInt, Int32.toInt_toInt64, lg_cmp_ge, lg_cmp_le, lg_cmp_gt, lg_cmp_lt, lg_cmp_eq, Bool.false_eq_true, Bool.true_eq_false, reduceCtorEq, false_iff, true_iff, iff_true, iff_false, and_true, true_and, and_false, false_and, reduceIte, ite_true, ite_false, eq_self] at *)) <;> omega), trivial⟩ rfl
  exact hi2 _ _ _ ⟨(by ((try simp only [vp_in_iff, Int32.lt_iff_toInt_lt, Int32.le_iff_toInt_le, ← Int32.toInt_inj, Int32.reduceToInt, n_1, n_2, n_8, Int32.toNatClampNeg, Int64.lt_iff_toInt_lt, Int64.le_iff_toInt_le, ← Int64.toInt_inj, Int64.reduceToInt, Int32.toInt_toInt64, lg_cmp_ge, lg_cmp_le, lg_cmp_gt, lg_cmp_lt, lg_cmp_eq, Bool.false_eq_true, Bool.true_eq_false, reduceCtorEq, false_iff, true_iff, iff_true, iff_false, and_true, true_and, and_false, false_and, reduceIte, ite_true, ite_false, eq_self] at *)) <;> omega), trivial⟩ rfl
set_option maxHeartbeats 4000000 in
theorem sp_X6_soFor (G : kG9) {d : Nat} (hd : 3 ≤ d) (σ : St) (a0 : Int32) (r1 : 0 ≤ (gi σ 31 13).toInt ∧ (gi σ 31 13).toInt ≤ 3000) : Ct G M_X6_soFor d [.ref 31, .int a0, .ref 43] σ (fun r σ' => ∃ x : Int32, r = some (.int x) ∧ Sm 31 36 σ σ' ∧ (0 ≤ (gi σ' 31 13).toInt ∧ (gi σ' 31 13).toInt ≤ 3000) ∧ True) := by
  refine wa_start (by decide) rfl (Nat.le_of_ble_eq_true rfl) (lv := [(0, .ref 31), (1, .int a0), (2, .ref 43)]) rfl o_X6_soFor_0 rfl ?_
  have ua0 := Int32.toInt_lt a0
  have wa0 := Int32.le_toInt a0
  refine wa_aload_n (i := 0) rfl rfl ?_
  refine wa_iload_n (i := 1) rfl rfl ?_
  refine wa_Vi (d9 := d - 1) [.int _] [] (sp_X6_gather G (d := d - 1) (by omega) σ _ (by first | assumption | exact Or.inl rfl | exact Or.inr rfl | (((try simp only [vp_in_iff, Int32.lt_iff_toInt_lt, Int32.le_iff_toInt_le, ← Int32.toInt_inj, Int32.reduceToInt, n_1, n_2, n_8, Int32.toNatClampNeg, Int64.lt_iff_toInt_lt, Int64.le_iff_toInt_le, ← Int64.toInt_inj, Int64.reduceToInt, Int32.toInt_toInt64, lg_cmp_ge, lg_cmp_le, lg_cmp_gt, lg_cmp_lt, lg_cmp_eq, Bool.false_eq_true, Bool.true_eq_false, reduceCtorEq, false_iff, true_iff, iff_true, iff_false, and_true, true_and, and_false, false_and, reduceIte, ite_true, ite_false, eq_self] at *)) <;> omega))) (rfl) rfl rfl (zr (by omega)) mk_X6_gather ly_31 ml_6_67 (Nat.le_of_ble_eq_true rfl) (fun x2 s1 hs1 => ?_)
  obtain ⟨bx2, ex2, fs1, cx2_1, -⟩ := pB hs1
  subst ex2
  have Fs1 := Sm.tr (Sm.rf 31 36 σ) (Sm.wd fs1 (lo' := 31) (hi' := 36) (by decide) (by decide))
  refine wa_if_ne o_X6_soFor_10 (by decide) (fun h3 => ?_) (fun h3 => ?_)
  · replace h3 := bI_t (b := bx2) (rfl) h3
    refine wa_iconst (v := 0) (by decide) ?_
    refine wa_istore_nD (lv' := [(3, .int 0), (0, .ref 31), (1, .int a0), (2, .ref 43)]) (i := 3) rfl (by decide) rfl ?_
    refine wa_iconst (v := 0) (by decide) ?_
    refine wa_istoreD (lv' := [(4, .int 0), (3, .int 0), (0, .ref 31), (1, .int a0), (2, .ref 43)]) (by decide) rfl ?_
    refine wa_pick [2, 4, 1, 0] rfl ?_
    have hi6 : ∀ (n9_15 : Nat) (l3 : Int32) (l4 : Int32) (s4 : St), ((Sm 31 36 σ s4) ∧ (gi s4 31 13 = gi s1 31 13) ∧ (gi s4 31 10 = gi s1 31 10) ∧ (0 ≤ l4.toInt) ∧ (True)) → (2147483647 - l4.toInt).toNat = n9_15 → WA G M_X6_soFor (ZM G M_X6_soFor d (fun r σ' => ∃ x : Int32, r = some (.int x) ∧ Sm 31 36 σ σ' ∧ (0 ≤ (gi σ' 31 13).toInt ∧ (gi σ' 31 13).toInt ≤ 3000) ∧ True)) B_X6_soFor_15 [(0, .ref 31), (2, .ref 43), (3, .int l3), (4, .int l4)] [] s4 := by
      intro n9_15
      induction n9_15 using Nat.strongRecOn with
      | _ n9_15 ih5 =>
        intro l3 l4 s4 i9 m9_15
        obtain ⟨Fs4, khi6_0, khi6_1, jhi6_0, -⟩ := i9
        have ul3 := Int32.toInt_lt l3
        have wl3 := Int32.le_toInt l3
        have ul4 := Int32.toInt_lt l4
        have wl4 := Int32.le_toInt l4
        refine wa_iload rfl ?_
        refine wa_aload_n (i := 0) rfl rfl ?_
        refine wa_geti ck_6 fl_6_76 ly_31 ?_
        refine wa_rw (khi6_1) ?_
        refine wa_icmp_ge o_X6_soFor_187 (by decide) (fun h7 => ?_) (fun h7 => ?_)
        · refine wa_aload_n (i := 0) rfl rfl ?_
          refine wa_iload_n (i := 3) rfl rfl ?_
          refine wa_Vi (d9 := d - 1) [.int _] [] (sp_X6_soOf G (d := d - 1) (by omega) s4 _) (rfl) rfl rfl (zr (by omega)) mk_X6_soOf ly_31 ml_6_63 (Nat.le_of_ble_eq_true rfl) (fun x9 s8 hs8 => ?_)
          obtain ⟨zs8, -⟩ := pI hs8
          subst zs8
          refine wa_ireturn rfl rfl ?_
          exact ⟨_, rfl, Fs4, (by rw [khi6_0]; first | assumption | (((try simp only [vp_in_iff, Int32.lt_iff_toInt_lt, Int32.le_iff_toInt_le, ← Int32.toInt_inj, Int32.reduceToInt, n_1, n_2, n_8, Int32.toNatClampNeg, Int64.lt_iff_toInt_lt, Int64.le_iff_toInt_le, ← Int64.toInt_inj, Int64.reduceToInt, Int32.toInt_toInt64, lg_cmp_ge, lg_cmp_le, lg_cmp_gt, lg_cmp_lt, lg_cmp_eq, Bool.false_eq_true, Bool.true_eq_false, reduceCtorEq, false_iff, true_iff, iff_true, iff_false, and_true, true_and, and_false, false_and, reduceIte, ite_true, ite_false, eq_self] at *)) <;> omega)), trivial⟩
        · have mh7 := nle_mx h7
          refine wa_iload rfl ?_
          refine wa_bipush (v := 32) (by decide) ?_
          refine wa_icmp_ge o_X6_soFor_187 (by decide) (fun h10 => ?_) (fun h10 => ?_)
          · refine wa_aload_n (i := 0) rfl rfl ?_
            refine wa_iload_n (i := 3) rfl rfl ?_
            refine wa_Vi (d9 := d - 1) [.int _] [] (sp_X6_soOf G (d := d - 1) (by omega) s4 _) (rfl) rfl rfl (zr (by omega)) mk_X6_soOf ly_31 ml_6_63 (Nat.le_of_ble_eq_true rfl) (fun x12 s11 hs11 => ?_)
            obtain ⟨zs11, -⟩ := pI hs11
            subst zs11
            refine wa_ireturn rfl rfl ?_
            exact ⟨_, rfl, Fs4, (by rw [khi6_0]; first | assumption | (((try simp only [vp_in_iff, Int32.lt_iff_toInt_lt, Int32.le_iff_toInt_le, ← Int32.toInt_inj, Int32.reduceToInt, n_1, n_2, n_8, Int32.toNatClampNeg, Int64.lt_iff_toInt_lt, Int64.le_iff_toInt_le, ← Int64.toInt_inj, Int64.reduceToInt, Int32.toInt_toInt64, lg_cmp_ge, lg_cmp_le, lg_cmp_gt, lg_cmp_lt, lg_cmp_eq, Bool.false_eq_true, Bool.true_eq_false, reduceCtorEq, false_iff, true_iff, iff_true, iff_false, and_true, true_and, and_false, false_and, reduceIte, ite_true, ite_false, eq_self] at *)) <;> omega)), trivial⟩
          · have mh10 := nle_mx h10
            refine wa_lconst (v := 0) (by decide) ?_
            refine wa_lstoreD (lv' := [(5, .long 0), (0, .ref 31), (2, .ref 43), (3, .int l3), (4, .int l4)]) (by decide) rfl ?_
            refine wa_iconst (v := 0) (by decide) ?_
            refine wa_istoreD (lv' := [(7, .int 0), (5, .long 0), (0, .ref 31), (2, .ref 43), (3, .int l3), (4, .int l4)]) (by decide) rfl ?_
            refine wa_pick [2, 3, 4, 5, 1, 0] rfl ?_
            have hi15 : ∀ (n9_37 : Nat) (l5 : Int64) (l7 : Int32) (s13 : St), ((Sm 31 36 σ s13) ∧ (gi s13 31 13 = gi s1 31 13) ∧ (gi s13 31 10 = gi s1 31 10) ∧ (0 ≤ l7.toInt) ∧ (True)) → (2147483647 - l7.toInt).toNat = n9_37 → WA G M_X6_soFor (ZM G M_X6_soFor d (fun r σ' => ∃ x : Int32, r = some (.int x) ∧ Sm 31 36 σ σ' ∧ (0 ≤ (gi σ' 31 13).toInt ∧ (gi σ' 31 13).toInt ≤ 3000) ∧ True)) B_X6_soFor_37 [(0, .ref 31), (2, .ref 43), (3, .int l3), (4, .int l4), (5, .long l5), (7, .int l7)] [] s13 := by
              intro n9_37
              induction n9_37 using Nat.strongRecOn with
              | _ n9_37 ih14 =>
                intro l5 l7 s13 i9 m9_37
                obtain ⟨Fs13, khi15_0, khi15_1, jhi15_0, -⟩ := i9
                have ul7 := Int32.toInt_lt l7
                have wl7 := Int32.le_toInt l7
                refine wa_iload rfl ?_
                refine wa_iconst (v := 4) (by decide) ?_
                refine wa_icmp_ge o_X6_soFor_83 (by decide) (fun h16 => ?_) (fun h16 => ?_)
                · refine wa_aload_n (i := 0) rfl rfl ?_
                  refine wa_getr ck_6 fl_6_44 ly_31 rf_31_0 ?_
                  refine wa_aload_n (i := 0) rfl rfl ?_
                  refine wa_getr ck_6 fl_6_11 ly_31 rf_31_1 ?_
                  refine wa_iload rfl ?_
                  refine wa_iald ly_32 (by ((try simp only [vp_in_iff, Int32.lt_iff_toInt_lt, Int32.le_iff_toInt_le, ← Int32.toInt_inj, Int32.reduceToInt, n_1, n_2, n_8, Int32.toNatClampNeg, Int64.lt_iff_toInt_lt, Int64.le_iff_toInt_le, ← Int64.toInt_inj, Int64.reduceToInt, Int32.toInt_toInt64, lg_cmp_ge, lg_cmp_le, lg_cmp_gt, lg_cmp_lt, lg_cmp_eq, Bool.false_eq_true, Bool.true_eq_false, reduceCtorEq, false_iff, true_iff, iff_true, iff_false, and_true, true_and, and_false, false_and, reduceIte, ite_true, ite_false, eq_self] at *)) <;> omega) ?_
                  refine wa_iconst (v := 5) (by decide) ?_
                  refine wa_Vi (d9 := d - 1) [.int _, .int _] [] (sp_X2_pooled G (d := d - 1) (by omega) s13 _ _) (rfl) rfl rfl (zr (by omega)) mk_X2_pooled ly_7 ml_6_79 (Nat.le_of_ble_eq_true rfl) (fun x18 s17 hs17 => ?_)
                  obtain ⟨zs17, -⟩ := pI hs17
                  subst zs17
                  refine wa_istoreD (lv' := [(7, .int x18), (0, .ref 31), (2, .ref 43), (3, .int l3), (4, .int l4), (5, .long l5)]) (by decide) rfl ?_
                  refine wa_aload_n (i := 0) rfl rfl ?_
                  refine wa_getr ck_6 fl_6_44 ly_31 rf_31_0 ?_
                  refine wa_aload_n (i := 0) rfl rfl ?_
                  refine wa_getr ck_6 fl_6_11 ly_31 rf_31_1 ?_
                  refine wa_iload rfl ?_
                  refine wa_iald ly_32 (by ((try simp only [vp_in_iff, Int32.lt_iff_toInt_lt, Int32.le_iff_toInt_le, ← Int32.toInt_inj, Int32.reduceToInt, n_1, n_2, n_8, Int32.toNatClampNeg, Int64.lt_iff_toInt_lt, Int64.le_iff_toInt_le, ← Int64.toInt_inj, Int64.reduceToInt, Int32.toInt_toInt64, lg_cmp_ge, lg_cmp_le, lg_cmp_gt, lg_cmp_lt, lg_cmp_eq, Bool.false_eq_true, Bool.true_eq_false, reduceCtorEq, false_iff, true_iff, iff_true, iff_false, and_true, true_and, and_false, false_and, reduceIte, ite_true, ite_false, eq_self] at *)) <;> omega) ?_
                  refine wa_iconst (v := 4) (by decide) ?_
                  refine wa_Vi (d9 := d - 1) [.int _, .int _] [] (sp_X2_pooled G (d := d - 1) (by omega) s13 _ _) (rfl) rfl rfl (zr (by omega)) mk_X2_pooled ly_7 ml_6_79 (Nat.le_of_ble_eq_true rfl) (fun x20 s19 hs19 => ?_)
                  obtain ⟨zs19, -⟩ := pI hs19
                  subst zs19
                  refine wa_istoreD (lv' := [(8, .int x20), (7, .int x18), (0, .ref 31), (2, .ref 43), (3, .int l3), (4, .int l4), (5, .long l5)]) (by decide) rfl ?_
                  refine wa_iload rfl ?_
                  refine wa_if_ne o_X6_soFor_139 (by decide) (fun h21 => ?_) (fun h21 => ?_)
                  · refine wa_lload rfl ?_
                    refine wa_iload rfl ?_
                    refine wa_i2l ?_
                    refine wa_ladd ?_
                    refine wa_topl (fun v22 hv22 => ?_)
                    clear hv22
                    refine wa_iconst (v := 1) (by decide) ?_
                    refine wa_iload rfl ?_
                    refine wa_maxI zs (allW_in (kT_6 _ (List.mem_of_getElem? (i := 104) rfl)) rfl) (Nat.le_of_ble_eq_true rfl) ?_
                    refine wa_top (fun v23 hv23 => ?_)
                    have tv23 := i_maxI hv23
                    clear hv23
                    refine wa_i2l ?_
                    refine wa_lrem (by ((try simp only [vp_in_iff, Int32.lt_iff_toInt_lt, Int32.le_iff_toInt_le, ← Int32.toInt_inj, Int32.reduceToInt, n_1, n_2, n_8, Int32.toNatClampNeg, Int64.lt_iff_toInt_lt, Int64.le_iff_toInt_le, ← Int64.toInt_inj, Int64.reduceToInt, Int32.toInt_toInt64, lg_cmp_ge, lg_cmp_le, lg_cmp_gt, lg_cmp_lt, lg_cmp_eq, Bool.false_eq_true, Bool.true_eq_false, reduceCtorEq, false_iff, true_iff, iff_true, iff_false, and_true, true_and, and_false, false_and, reduceIte, ite_true, ite_false, eq_self] at *)) <;> omega) ?_
                    refine wa_topl (fun v24 hv24 => ?_)
                    clear hv24
                    refine wa_lconst (v := 0) (by decide) ?_
                    refine wa_lcmp ?_
                    refine wa_top (fun v25 hv25 => ?_)
                    have tv25 := i_cmpT hv25
                    clear hv25
                    refine wa_if_ne o_X6_soFor_162 (by decide) (fun h26 => ?_) (fun h26 => ?_)
                    · refine wa_iconst (v := 0) (by decide) ?_
                      refine wa_istoreD (lv' := [(9, .int (bI false)), (8, .int x20), (7, .int x18), (0, .ref 31), (2, .ref 43), (3, .int l3), (4, .int l4), (5, .long l5)]) (by decide) rfl ?_
                      refine wa_iload_n (i := 3) rfl rfl ?_
                      refine wa_iload rfl ?_
                      refine wa_if_eq o_X6_soFor_178 (by decide) (fun h27 => ?_) (fun h27 => ?_)
                      · replace h27 := bI_f (b := false) (rfl) h27
                        refine wa_iconst (v := 0) (by decide) ?_
                        refine wa_ior ?_
                        refine wa_top (fun v28 hv28 => ?_)
                        clear hv28
                        refine wa_istore_nD (lv' := [(3, .int v28), (9, .int (bI false)), (8, .int x20), (7, .int x18), (0, .ref 31), (2, .ref 43), (4, .int l4), (5, .long l5)]) (i := 3) rfl (by decide) rfl ?_
                        refine wa_iinc (v := (1)) (lv' := fun y29 => [(4, .int y29), (3, .int v28), (9, .int (bI false)), (8, .int x20), (7, .int x18), (0, .ref 31), (2, .ref 43), (5, .long l5)]) (by decide) rfl (by decide) (fun _ => rfl) (fun y29 hy29 => ?_)
                        have ty29 := i_addT hy29.symm
                        clear hy29
                        refine wa_goto o_X6_soFor_15 (by decide) ?_
                        refine wa_pick [5, 6, 1, 0] rfl ?_
                        exact ih5 _ (by ((try simp only [vp_in_iff, Int32.lt_iff_toInt_lt, Int32.le_iff_toInt_le, ← Int32.toInt_inj, Int32.reduceToInt, n_1, n_2, n_8, Int32.toNatClampNeg, Int64.lt_iff_toInt_lt, Int64.le_iff_toInt_le, ← Int64.toInt_inj, Int64.reduceToInt, Int32.toInt_toInt64, lg_cmp_ge, lg_cmp_le, lg_cmp_gt, lg_cmp_lt, lg_cmp_eq, Bool.false_eq_true, Bool.true_eq_false, reduceCtorEq, false_iff, true_iff, iff_true, iff_false, and_true, true_and, and_false, false_and, reduceIte, ite_true, ite_false, eq_self] at *)) <;> omega) _ _ _ ⟨Fs13, (khi15_0), (khi15_1), (by ((try simp only [vp_in_iff, Int32.lt_iff_toInt_lt, Int32.le_iff_toInt_le, ← Int32.toInt_inj, Int32.reduceToInt, n_1, n_2, n_8, Int32.toNatClampNeg, Int64.lt_iff_toInt_lt, Int64.le_iff_toInt_le, ← Int64.toInt_inj, Int64.reduceToInt, Int32.toInt_toInt64, lg_cmp_ge, lg_cmp_le, lg_cmp_gt, lg_cmp_lt, lg_cmp_eq, Bool.false_eq_true, Bool.true_eq_false, reduceCtorEq, false_iff, true_iff, iff_true, iff_false, and_true, true_and, and_false, false_and, reduceIte, ite_true, ite_false, eq_self] at *)) <;> omega), trivial⟩ rfl
                      · replace h27 := bI_t (b := false) (rfl) h27
                        refine wa_iconst (v := 1) (by decide) ?_
                        refine wa_iload rfl ?_
                        refine wa_ishl ?_
                        refine wa_top (fun v30 hv30 => ?_)
                        clear hv30
                        refine wa_goto o_X6_soFor_179 (by decide) ?_
                        refine wa_ior ?_
                        refine wa_top (fun v31 hv31 => ?_)
                        clear hv31
                        refine wa_istore_nD (lv' := [(3, .int v31), (9, .int (bI false)), (8, .int x20), (7, .int x18), (0, .ref 31), (2, .ref 43), (4, .int l4), (5, .long l5)]) (i := 3) rfl (by decide) rfl ?_
                        refine wa_iinc (v := (1)) (lv' := fun y32 => [(4, .int y32), (3, .int v31), (9, .int (bI false)), (8, .int x20), (7, .int x18), (0, .ref 31), (2, .ref 43), (5, .long l5)]) (by decide) rfl (by decide) (fun _ => rfl) (fun y32 hy32 => ?_)
                        have ty32 := i_addT hy32.symm
                        clear hy32
                        refine wa_goto o_X6_soFor_15 (by decide) ?_
                        refine wa_pick [5, 6, 1, 0] rfl ?_
                        exact ih5 _ (by ((try simp only [vp_in_iff, Int32.lt_iff_toInt_lt, Int32.le_iff_toInt_le, ← Int32.toInt_inj, Int32.reduceToInt, n_1, n_2, n_8, Int32.toNatClampNeg, Int64.lt_iff_toInt_lt, Int64.le_iff_toInt_le, ← Int64.toInt_inj, Int64.reduceToInt, Int32.toInt_toInt64, lg_cmp_ge, lg_cmp_le, lg_cmp_gt, lg_cmp_lt, lg_cmp_eq, Bool.false_eq_true, Bool.true_eq_false, reduceCtorEq, false_iff, true_iff, iff_true, iff_false, and_true, true_and, and_false, false_and, reduceIte, ite_true, ite_false, eq_self] at *)) <;> omega) _ _ _ ⟨Fs13, (khi15_0), (khi15_1), (by ((try simp only [vp_in_iff, Int32.lt_iff_toInt_lt, Int32.le_iff_toInt_le, ← Int32.toInt_inj, Int32.reduceToInt, n_1, n_2, n_8, Int32.toNatClampNeg, Int64.lt_iff_toInt_lt, Int64.le_iff_toInt_le, ← Int64.toInt_inj, Int64.reduceToInt, Int32.toInt_toInt64, lg_cmp_ge, lg_cmp_le, lg_cmp_gt, lg_cmp_lt, lg_cmp_eq, Bool.false_eq_true, Bool.true_eq_false, reduceCtorEq, false_iff, true_iff, iff_true, iff_false, and_true, true_and, and_false, false_and, reduceIte, ite_true, ite_false, eq_self] at *)) <;> omega), trivial⟩ rfl
                    · refine wa_iconst (v := 1) (by decide) ?_
                      refine wa_goto o_X6_soFor_163 (by decide) ?_
                      refine wa_istoreD (lv' := [(9, .int (bI true)), (8, .int x20), (7, .int x18), (0, .ref 31), (2, .ref 43), (3, .int l3), (4, .int l4), (5, .long l5)]) (by decide) rfl ?_
                      refine wa_iload_n (i := 3) rfl rfl ?_
                      refine wa_iload rfl ?_
                      refine wa_if_eq o_X6_soFor_178 (by decide) (fun h33 => ?_) (fun h33 => ?_)
                      · replace h33 := bI_f (b := true) (rfl) h33
                        refine wa_iconst (v := 0) (by decide) ?_
                        refine wa_ior ?_
                        refine wa_top (fun v34 hv34 => ?_)
                        clear hv34
                        refine wa_istore_nD (lv' := [(3, .int v34), (9, .int (bI true)), (8, .int x20), (7, .int x18), (0, .ref 31), (2, .ref 43), (4, .int l4), (5, .long l5)]) (i := 3) rfl (by decide) rfl ?_
                        refine wa_iinc (v := (1)) (lv' := fun y35 => [(4, .int y35), (3, .int v34), (9, .int (bI true)), (8, .int x20), (7, .int x18), (0, .ref 31), (2, .ref 43), (5, .long l5)]) (by decide) rfl (by decide) (fun _ => rfl) (fun y35 hy35 => ?_)
                        have ty35 := i_addT hy35.symm
                        clear hy35
                        refine wa_goto o_X6_soFor_15 (by decide) ?_
                        refine wa_pick [5, 6, 1, 0] rfl ?_
                        exact ih5 _ (by ((try simp only [vp_in_iff, Int32.lt_iff_toInt_lt, Int32.le_iff_toInt_le, ← Int32.toInt_inj, Int32.reduceToInt, n_1, n_2, n_8, Int32.toNatClampNeg, Int64.lt_iff_toInt_lt, Int64.le_iff_toInt_le, ← Int64.toInt_inj, Int64.reduceToInt, Int32.toInt_toInt64, lg_cmp_ge, lg_cmp_le, lg_cmp_gt, lg_cmp_lt, lg_cmp_eq, Bool.false_eq_true, Bool.true_eq_false, reduceCtorEq, false_iff, true_iff, iff_true, iff_false, and_true, true_and, and_false, false_and, reduceIte, ite_true, ite_false, eq_self] at *)) <;> omega) _ _ _ ⟨Fs13, (khi15_0), (khi15_1), (by ((try simp only [vp_in_iff, Int32.lt_iff_toInt_lt, Int32.le_iff_toInt_le, ← Int32.toInt_inj, Int32.reduceToInt, n_1, n_2, n_8, Int32.toNatClampNeg, Int64.lt_iff_toInt_lt, Int64.le_iff_toInt_le, ← Int64.toInt_inj, Int64.reduceToInt, Int32.toInt_toInt64, lg_cmp_ge, lg_cmp_le, lg_cmp_gt, lg_cmp_lt, lg_cmp_eq, Bool.false_eq_true, Bool.true_eq_false, reduceCtorEq, false_iff, true_iff, iff_true, iff_false, and_true, true_and, and_false, false_and, reduceIte, ite_true, ite_false, eq_self] at *)) <;> omega), trivial⟩ rfl
                      · replace h33 := bI_t (b := true) (rfl) h33
                        refine wa_iconst (v := 1) (by decide) ?_
                        refine wa_iload rfl ?_
                        refine wa_ishl ?_
                        refine wa_top (fun v36 hv36 => ?_)
                        clear hv36
                        refine wa_goto o_X6_soFor_179 (by decide) ?_
                        refine wa_ior ?_
                        refine wa_top (fun v37 hv37 => ?_)
                        clear hv37
                        refine wa_istore_nD (lv' := [(3, .int v37), (9, .int (bI true)), (8, .int x20), (7, .int x18), (0, .ref 31), (2, .ref 43), (4, .int l4), (5, .long l5)]) (i := 3) rfl (by decide) rfl ?_
                        refine wa_iinc (v := (1)) (lv' := fun y38 => [(4, .int y38), (3, .int v37), (9, .int (bI true)), (8, .int x20), (7, .int x18), (0, .ref 31), (2, .ref 43), (5, .long l5)]) (by decide) rfl (by decide) (fun _ => rfl) (fun y38 hy38 => ?_)
                        have ty38 := i_addT hy38.symm
                        clear hy38
                        refine wa_goto o_X6_soFor_15 (by decide) ?_
                        refine wa_pick [5, 6, 1, 0] rfl ?_
                        exact ih5 _ (by ((try simp only [vp_in_iff, Int32.lt_iff_toInt_lt, Int32.le_iff_toInt_le, ← Int32.toInt_inj, Int32.reduceToInt, n_1, n_2, n_8, Int32.toNatClampNeg, Int64.lt_iff_toInt_lt, Int64.le_iff_toInt_le, ← Int64.toInt_inj, Int64.reduceToInt, Int32.toInt_toInt64, lg_cmp_ge, lg_cmp_le, lg_cmp_gt, lg_cmp_lt, lg_cmp_eq, Bool.false_eq_true, Bool.true_eq_false, reduceCtorEq, false_iff, true_iff, iff_true, iff_false, and_true, true_and, and_false, false_and, reduceIte, ite_true, ite_false, eq_self] at *)) <;> omega) _ _ _ ⟨Fs13, (khi15_0), (khi15_1), (by ((try simp only [vp_in_iff, Int32.lt_iff_toInt_lt, Int32.le_iff_toInt_le, ← Int32.toInt_inj, Int32.reduceToInt, n_1, n_2, n_8, Int32.toNatClampNeg, Int64.lt_iff_toInt_lt, Int64.le_iff_toInt_le, ← Int64.toInt_inj, Int64.reduceToInt, Int32.toInt_toInt64, lg_cmp_ge, lg_cmp_le, lg_cmp_gt, lg_cmp_lt, lg_cmp_eq, Bool.false_eq_true, Bool.true_eq_false, reduceCtorEq, false_iff, true_iff, iff_true, iff_false, and_true, true_and, and_false, false_and, reduceIte, ite_true, ite_false, eq_self] at *)) <;> omega), trivial⟩ rfl
                  · refine wa_lload rfl ?_
                    refine wa_iload rfl ?_
                    refine wa_i2l ?_
                    refine wa_lcmp ?_
                    refine wa_top (fun v39 hv39 => ?_)
                    have tv39 := i_cmpT hv39
                    clear hv39
                    refine wa_if_gt o_X6_soFor_135 (by decide) (fun h40 => ?_) (fun h40 => ?_)
                    · refine wa_iconst (v := 0) (by decide) ?_
                      refine wa_goto o_X6_soFor_163 (by decide) ?_
                      refine wa_istoreD (lv' := [(9, .int (bI false)), (8, .int x20), (7, .int x18), (0, .ref 31), (2, .ref 43), (3, .int l3), (4, .int l4), (5, .long l5)]) (by decide) rfl ?_
                      refine wa_iload_n (i := 3) rfl rfl ?_
                      refine wa_iload rfl ?_
                      refine wa_if_eq o_X6_soFor_178 (by decide) (fun h41 => ?_) (fun h41 => ?_)
                      · replace h41 := bI_f (b := false) (rfl) h41
                        refine wa_iconst (v := 0) (by decide) ?_
                        refine wa_ior ?_
                        refine wa_top (fun v42 hv42 => ?_)
                        clear hv42
                        refine wa_istore_nD (lv' := [(3, .int v42), (9, .int (bI false)), (8, .int x20), (7, .int x18), (0, .ref 31), (2, .ref 43), (4, .int l4), (5, .long l5)]) (i := 3) rfl (by decide) rfl ?_
                        refine wa_iinc (v := (1)) (lv' := fun y43 => [(4, .int y43), (3, .int v42), (9, .int (bI false)), (8, .int x20), (7, .int x18), (0, .ref 31), (2, .ref 43), (5, .long l5)]) (by decide) rfl (by decide) (fun _ => rfl) (fun y43 hy43 => ?_)
                        have ty43 := i_addT hy43.symm
                        clear hy43
                        refine wa_goto o_X6_soFor_15 (by decide) ?_
                        refine wa_pick [5, 6, 1, 0] rfl ?_
                        exact ih5 _ (by ((try simp only [vp_in_iff, Int32.lt_iff_toInt_lt, Int32.le_iff_toInt_le, ← Int32.toInt_inj, Int32.reduceToInt, n_1, n_2, n_8, Int32.toNatClampNeg, Int64.lt_iff_toInt_lt, Int64.le_iff_toInt_le, ← Int64.toInt_inj, Int64.reduceToInt, Int32.toInt_toInt64, lg_cmp_ge, lg_cmp_le, lg_cmp_gt, lg_cmp_lt, lg_cmp_eq, Bool.false_eq_true, Bool.true_eq_false, reduceCtorEq, false_iff, true_iff, iff_true, iff_false, and_true, true_and, and_false, false_and, reduceIte, ite_true, ite_false, eq_self] at *)) <;> omega) _ _ _ ⟨Fs13, (khi15_0), (khi15_1), (by ((try simp only [vp_in_iff, Int32.lt_iff_toInt_lt, Int32.le_iff_toInt_le, ← Int32.toInt_inj, Int32.reduceToInt, n_1, n_2, n_8, Int32.toNatClampNeg, Int64.lt_iff_toInt_lt, Int64.le_iff_toInt_le, ← Int64.toInt_inj, Int64.reduceToInt, Int32.toInt_toInt64, lg_cmp_ge, lg_cmp_le, lg_cmp_gt, lg_cmp_lt, lg_cmp_eq, Bool.false_eq_true, Bool.true_eq_false, reduceCtorEq, false_iff, true_iff, iff_true, iff_false, and_true, true_and, and_false, false_and, reduceIte, ite_true, ite_false, eq_self] at *)) <;> omega), trivial⟩ rfl
                      · replace h41 := bI_t (b := false) (rfl) h41
                        refine wa_iconst (v := 1) (by decide) ?_
                        refine wa_iload rfl ?_
                        refine wa_ishl ?_
                        refine wa_top (fun v44 hv44 => ?_)
                        clear hv44
                        refine wa_goto o_X6_soFor_179 (by decide) ?_
                        refine wa_ior ?_
                        refine wa_top (fun v45 hv45 => ?_)
                        clear hv45
                        refine wa_istore_nD (lv' := [(3, .int v45), (9, .int (bI false)), (8, .int x20), (7, .int x18), (0, .ref 31), (2, .ref 43), (4, .int l4), (5, .long l5)]) (i := 3) rfl (by decide) rfl ?_
                        refine wa_iinc (v := (1)) (lv' := fun y46 => [(4, .int y46), (3, .int v45), (9, .int (bI false)), (8, .int x20), (7, .int x18), (0, .ref 31), (2, .ref 43), (5, .long l5)]) (by decide) rfl (by decide) (fun _ => rfl) (fun y46 hy46 => ?_)
                        have ty46 := i_addT hy46.symm
                        clear hy46
                        refine wa_goto o_X6_soFor_15 (by decide) ?_
                        refine wa_pick [5, 6, 1, 0] rfl ?_
                        exact ih5 _ (by ((try simp only [vp_in_iff, Int32.lt_iff_toInt_lt, Int32.le_iff_toInt_le, ← Int32.toInt_inj, Int32.reduceToInt, n_1, n_2, n_8, Int32.toNatClampNeg, Int64.lt_iff_toInt_lt, Int64.le_iff_toInt_le, ← Int64.toInt_inj, Int64.reduceToInt, Int32.toInt_toInt64, lg_cmp_ge, lg_cmp_le, lg_cmp_gt, lg_cmp_lt, lg_cmp_eq, Bool.false_eq_true, Bool.true_eq_false, reduceCtorEq, false_iff, true_iff, iff_true, iff_false, and_true, true_and, and_false, false_and, reduceIte, ite_true, ite_false, eq_self] at *)) <;> omega) _ _ _ ⟨Fs13, (khi15_0), (khi15_1), (by ((try simp only [vp_in_iff, Int32.lt_iff_toInt_lt, Int32.le_iff_toInt_le, ← Int32.toInt_inj, Int32.reduceToInt, n_1, n_2, n_8, Int32.toNatClampNeg, Int64.lt_iff_toInt_lt, Int64.le_iff_toInt_le, ← Int64.toInt_inj, Int64.reduceToInt, Int32.toInt_toInt64, lg_cmp_ge, lg_cmp_le, lg_cmp_gt, lg_cmp_lt, lg_cmp_eq, Bool.false_eq_true, Bool.true_eq_false, reduceCtorEq, false_iff, true_iff, iff_true, iff_false, and_true, true_and, and_false, false_and, reduceIte, ite_true, ite_false, eq_self] at *)) <;> omega), trivial⟩ rfl
                    · refine wa_iconst (v := 1) (by decide) ?_
                      refine wa_goto o_X6_soFor_163 (by decide) ?_
                      refine wa_istoreD (lv' := [(9, .int (bI true)), (8, .int x20), (7, .int x18), (0, .ref 31), (2, .ref 43), (3, .int l3), (4, .int l4), (5, .long l5)]) (by decide) rfl ?_
                      refine wa_iload_n (i := 3) rfl rfl ?_
                      refine wa_iload rfl ?_
                      refine wa_if_eq o_X6_soFor_178 (by decide) (fun h47 => ?_) (fun h47 => ?_)
                      · replace h47 := bI_f (b := true) (rfl) h47
                        refine wa_iconst (v := 0) (by decide) ?_
                        refine wa_ior ?_
                        refine wa_top (fun v48 hv48 => ?_)
                        clear hv48
                        refine wa_istore_nD (lv' := [(3, .int v48), (9, .int (bI true)), (8, .int x20), (7, .int x18), (0, .ref 31), (2, .ref 43), (4, .int l4), (5, .long l5)]) (i := 3) rfl (by decide) rfl ?_
                        refine wa_iinc (v := (1)) (lv' := fun y49 => [(4, .int y49), (3, .int v48), (9, .int (bI true)), (8, .int x20), (7, .int x18), (0, .ref 31), (2, .ref 43), (5, .long l5)]) (by decide) rfl (by decide) (fun _ => rfl) (fun y49 hy49 => ?_)
                        have ty49 := i_addT hy49.symm
                        clear hy49
                        refine wa_goto o_X6_soFor_15 (by decide) ?_
                        refine wa_pick [5, 6, 1, 0] rfl ?_
                        exact ih5 _ (by ((try simp only [vp_in_iff, Int32.lt_iff_toInt_lt, Int32.le_iff_toInt_le, ← Int32.toInt_inj, Int32.reduceToInt, n_1, n_2, n_8, Int32.toNatClampNeg, Int64.lt_iff_toInt_lt, Int64.le_iff_toInt_le, ← Int64.toInt_inj, Int64.reduceToInt, Int32.toInt_toInt64, lg_cmp_ge, lg_cmp_le, lg_cmp_gt, lg_cmp_lt, lg_cmp_eq, Bool.false_eq_true, Bool.true_eq_false, reduceCtorEq, false_iff, true_iff, iff_true, iff_false, and_true, true_and, and_false, false_and, reduceIte, ite_true, ite_false, eq_self] at *)) <;> omega) _ _ _ ⟨Fs13, (khi15_0), (khi15_1), (by ((try simp only [vp_in_iff, Int32.lt_iff_toInt_lt, Int32.le_iff_toInt_le, ← Int32.toInt_inj, Int32.reduceToInt, n_1, n_2, n_8, Int32.toNatClampNeg, Int64.lt_iff_toInt_lt, Int64.le_iff_toInt_le, ← Int64.toInt_inj, Int64.reduceToInt, Int32.toInt_toInt64, lg_cmp_ge, lg_cmp_le, lg_cmp_gt, lg_cmp_lt, lg_cmp_eq, Bool.false_eq_true, Bool.true_eq_false, reduceCtorEq, false_iff, true_iff, iff_true, iff_false, and_true, true_and, and_false, false_and, reduceIte, ite_true, ite_false, eq_self] at *)) <;> omega), trivial⟩ rfl
                      · replace h47 := bI_t (b := true) (rfl) h47
                        refine wa_iconst (v := 1) (by decide) ?_
                        refine wa_iload rfl ?_
                        refine wa_ishl ?_
                        refine wa_top (fun v50 hv50 => ?_)
                        clear hv50
                        refine wa_goto o_X6_soFor_179 (by decide) ?_
                        refine wa_ior ?_
                        refine wa_top (fun v51 hv51 => ?_)
                        clear hv51
                        refine wa_istore_nD (lv' := [(3, .int v51), (9, .int (bI true)), (8, .int x20), (7, .int x18), (0, .ref 31), (2, .ref 43), (4, .int l4), (5, .long l5)]) (i := 3) rfl (by decide) rfl ?_
                        refine wa_iinc (v := (1)) (lv' := fun y52 => [(4, .int y52), (3, .int v51), (9, .int (bI true)), (8, .int x20), (7, .int x18), (0, .ref 31), (2, .ref 43), (5, .long l5)]) (by decide) rfl (by decide) (fun _ => rfl) (fun y52 hy52 => ?_)
                        have ty52 := i_addT hy52.symm
                        clear hy52
                        refine wa_goto o_X6_soFor_15 (by decide) ?_
                        refine wa_pick [5, 6, 1, 0] rfl ?_
                        exact ih5 _ (by ((try simp only [vp_in_iff, Int32.lt_iff_toInt_lt, Int32.le_iff_toInt_le, ← Int32.toInt_inj, Int32.reduceToInt, n_1, n_2, n_8, Int32.toNatClampNeg, Int64.lt_iff_toInt_lt, Int64.le_iff_toInt_le, ← Int64.toInt_inj, Int64.reduceToInt, Int32.toInt_toInt64, lg_cmp_ge, lg_cmp_le, lg_cmp_gt, lg_cmp_lt, lg_cmp_eq, Bool.false_eq_true, Bool.true_eq_false, reduceCtorEq, false_iff, true_iff, iff_true, iff_false, and_true, true_and, and_false, false_and, reduceIte, ite_true, ite_false, eq_self] at *)) <;> omega) _ _ _ ⟨Fs13, (khi15_0), (khi15_1), (by ((try simp only [vp_in_iff, Int32.lt_iff_toInt_lt, Int32.le_iff_toInt_le, ← Int32.toInt_inj, Int32.reduceToInt, n_1, n_2, n_8, Int32.toNatClampNeg, Int64.lt_iff_toInt_lt, Int64.le_iff_toInt_le, ← Int64.toInt_inj, Int64.reduceToInt, Int32.toInt_toInt64, lg_cmp_ge, lg_cmp_le, lg_cmp_gt, lg_cmp_lt, lg_cmp_eq, Bool.false_eq_true, Bool.true_eq_false, reduceCtorEq, false_iff, true_iff, iff_true, iff_false, and_true, true_and, and_false, false_and, reduceIte, ite_true, ite_false, eq_self] at *)) <;> omega), trivial⟩ rfl
                · have mh16 := nle_mx h16
                  refine wa_iload rfl ?_
                  refine wa_aload_n (i := 2) rfl rfl ?_
                  refine wa_alen ly_43 (by decide) ?_
                  refine wa_rw (show Int32.ofNat 4 = 4 from rfl) ?_
                  refine wa_icmp_ge o_X6_soFor_83 (by decide) (fun h53 => ?_) (fun h53 => ?_)
                  · refine wa_aload_n (i := 0) rfl rfl ?_
                    refine wa_getr ck_6 fl_6_44 ly_31 rf_31_0 ?_
                    refine wa_aload_n (i := 0) rfl rfl ?_
                    refine wa_getr ck_6 fl_6_11 ly_31 rf_31_1 ?_
                    refine wa_iload rfl ?_
                    refine wa_iald ly_32 (by ((try simp only [vp_in_iff, Int32.lt_iff_toInt_lt, Int32.le_iff_toInt_le, ← Int32.toInt_inj, Int32.reduceToInt, n_1, n_2, n_8, Int32.toNatClampNeg, Int64.lt_iff_toInt_lt, Int64.le_iff_toInt_le, ← Int64.toInt_inj, Int64.reduceToInt, Int32.toInt_toInt64, lg_cmp_ge, lg_cmp_le, lg_cmp_gt, lg_cmp_lt, lg_cmp_eq, Bool.false_eq_true, Bool.true_eq_false, reduceCtorEq, false_iff, true_iff, iff_true, iff_false, and_true, true_and, and_false, false_and, reduceIte, ite_true, ite_false, eq_self] at *)) <;> omega) ?_
                    refine wa_iconst (v := 5) (by decide) ?_
                    refine wa_Vi (d9 := d - 1) [.int _, .int _] [] (sp_X2_pooled G (d := d - 1) (by omega) s13 _ _) (rfl) rfl rfl (zr (by omega)) mk_X2_pooled ly_7 ml_6_79 (Nat.le_of_ble_eq_true rfl) (fun x55 s54 hs54 => ?_)
                    obtain ⟨zs54, -⟩ := pI hs54
                    subst zs54
                    refine wa_istoreD (lv' := [(7, .int x55), (0, .ref 31), (2, .ref 43), (3, .int l3), (4, .int l4), (5, .long l5)]) (by decide) rfl ?_
                    refine wa_aload_n (i := 0) rfl rfl ?_
                    refine wa_getr ck_6 fl_6_44 ly_31 rf_31_0 ?_
                    refine wa_aload_n (i := 0) rfl rfl ?_
                    refine wa_getr ck_6 fl_6_11 ly_31 rf_31_1 ?_
                    refine wa_iload rfl ?_
                    refine wa_iald ly_32 (by ((try simp only [vp_in_iff, Int32.lt_iff_toInt_lt, Int32.le_iff_toInt_le, ← Int32.toInt_inj, Int32.reduceToInt, n_1, n_2, n_8, Int32.toNatClampNeg, Int64.lt_iff_toInt_lt, Int64.le_iff_toInt_le, ← Int64.toInt_inj, Int64.reduceToInt, Int32.toInt_toInt64, lg_cmp_ge, lg_cmp_le, lg_cmp_gt, lg_cmp_lt, lg_cmp_eq, Bool.false_eq_true, Bool.true_eq_false, reduceCtorEq, false_iff, true_iff, iff_true, iff_false, and_true, true_and, and_false, false_and, reduceIte, ite_true, ite_false, eq_self] at *)) <;> omega) ?_
                    refine wa_iconst (v := 4) (by decide) ?_
                    refine wa_Vi (d9 := d - 1) [.int _, .int _] [] (sp_X2_pooled G (d := d - 1) (by omega) s13 _ _) (rfl) rfl rfl (zr (by omega)) mk_X2_pooled ly_7 ml_6_79 (Nat.le_of_ble_eq_true rfl) (fun x57 s56 hs56 => ?_)
                    obtain ⟨zs56, -⟩ := pI hs56
                    subst zs56
                    refine wa_istoreD (lv' := [(8, .int x57), (7, .int x55), (0, .ref 31), (2, .ref 43), (3, .int l3), (4, .int l4), (5, .long l5)]) (by decide) rfl ?_
                    refine wa_iload rfl ?_
                    refine wa_if_ne o_X6_soFor_139 (by decide) (fun h58 => ?_) (fun h58 => ?_)
                    · refine wa_lload rfl ?_
                      refine wa_iload rfl ?_
                      refine wa_i2l ?_
                      refine wa_ladd ?_
                      refine wa_topl (fun v59 hv59 => ?_)
                      clear hv59
                      refine wa_iconst (v := 1) (by decide) ?_
                      refine wa_iload rfl ?_
                      refine wa_maxI zs (allW_in (kT_6 _ (List.mem_of_getElem? (i := 104) rfl)) rfl) (Nat.le_of_ble_eq_true rfl) ?_
                      refine wa_top (fun v60 hv60 => ?_)
                      have tv60 := i_maxI hv60
                      clear hv60
                      refine wa_i2l ?_
                      refine wa_lrem (by ((try simp only [vp_in_iff, Int32.lt_iff_toInt_lt, Int32.le_iff_toInt_le, ← Int32.toInt_inj, Int32.reduceToInt, n_1, n_2, n_8, Int32.toNatClampNeg, Int64.lt_iff_toInt_lt, Int64.le_iff_toInt_le, ← Int64.toInt_inj, Int64.reduceToInt, Int32.toInt_toInt64, lg_cmp_ge, lg_cmp_le, lg_cmp_gt, lg_cmp_lt, lg_cmp_eq, Bool.false_eq_true, Bool.true_eq_false, reduceCtorEq, false_iff, true_iff, iff_true, iff_false, and_true, true_and, and_false, false_and, reduceIte, ite_true, ite_false, eq_self] at *)) <;> omega) ?_
                      refine wa_topl (fun v61 hv61 => ?_)
                      clear hv61
                      refine wa_lconst (v := 0) (by decide) ?_
                      refine wa_lcmp ?_
                      refine wa_top (fun v62 hv62 => ?_)
                      have tv62 := i_cmpT hv62
                      clear hv62
                      refine wa_if_ne o_X6_soFor_162 (by decide) (fun h63 => ?_) (fun h63 => ?_)
                      · refine wa_iconst (v := 0) (by decide) ?_
                        refine wa_istoreD (lv' := [(9, .int (bI false)), (8, .int x57), (7, .int x55), (0, .ref 31), (2, .ref 43), (3, .int l3), (4, .int l4), (5, .long l5)]) (by decide) rfl ?_
                        refine wa_iload_n (i := 3) rfl rfl ?_
                        refine wa_iload rfl ?_
                        refine wa_if_eq o_X6_soFor_178 (by decide) (fun h64 => ?_) (fun h64 => ?_)
                        · replace h64 := bI_f (b := false) (rfl) h64
                          refine wa_iconst (v := 0) (by decide) ?_
                          refine wa_ior ?_
                          refine wa_top (fun v65 hv65 => ?_)
                          clear hv65
                          refine wa_istore_nD (lv' := [(3, .int v65), (9, .int (bI false)), (8, .int x57), (7, .int x55), (0, .ref 31), (2, .ref 43), (4, .int l4), (5, .long l5)]) (i := 3) rfl (by decide) rfl ?_
                          refine wa_iinc (v := (1)) (lv' := fun y66 => [(4, .int y66), (3, .int v65), (9, .int (bI false)), (8, .int x57), (7, .int x55), (0, .ref 31), (2, .ref 43), (5, .long l5)]) (by decide) rfl (by decide) (fun _ => rfl) (fun y66 hy66 => ?_)
                          have ty66 := i_addT hy66.symm
                          clear hy66
                          refine wa_goto o_X6_soFor_15 (by decide) ?_
                          refine wa_pick [5, 6, 1, 0] rfl ?_
                          exact ih5 _ (by ((try simp only [vp_in_iff, Int32.lt_iff_toInt_lt, Int32.le_iff_toInt_le, ← Int32.toInt_inj, Int32.reduceToInt, n_1, n_2, n_8, Int32.toNatClampNeg, Int64.lt_iff_toInt_lt, Int64.le_iff_toInt_le, ← Int64.toInt_inj, Int64.reduceToInt, Int32.toInt_toInt64, lg_cmp_ge, lg_cmp_le, lg_cmp_gt, lg_cmp_lt, lg_cmp_eq, Bool.false_eq_true, Bool.true_eq_false, reduceCtorEq, false_iff, true_iff, iff_true, iff_false, and_true, true_and, and_false, false_and, reduceIte, ite_true, ite_false, eq_self] at *)) <;> omega) _ _ _ ⟨Fs13, (khi15_0), (khi15_1), (by ((try simp only [vp_in_iff, Int32.lt_iff_toInt_lt, Int32.le_iff_toInt_le, ← Int32.toInt_inj, Int32.reduceToInt, n_1, n_2, n_8, Int32.toNatClampNeg, Int64.lt_iff_toInt_lt, Int64.le_iff_toInt_le, ← Int64.toInt_inj, Int64.reduceToInt, Int32.toInt_toInt64, lg_cmp_ge, lg_cmp_le, lg_cmp_gt, lg_cmp_lt, lg_cmp_eq, Bool.false_eq_true, Bool.true_eq_false, reduceCtorEq, false_iff, true_iff, iff_true, iff_false, and_true, true_and, and_false, false_and, reduceIte, ite_true, ite_false, eq_self] at *)) <;> omega), trivial⟩ rfl
                        · replace h64 := bI_t (b := false) (rfl) h64
                          refine wa_iconst (v := 1) (by decide) ?_
                          refine wa_iload rfl ?_
                          refine wa_ishl ?_
                          refine wa_top (fun v67 hv67 => ?_)
                          clear hv67
                          refine wa_goto o_X6_soFor_179 (by decide) ?_
                          refine wa_ior ?_
                          refine wa_top (fun v68 hv68 => ?_)
                          clear hv68
                          refine wa_istore_nD (lv' := [(3, .int v68), (9, .int (bI false)), (8, .int x57), (7, .int x55), (0, .ref 31), (2, .ref 43), (4, .int l4), (5, .long l5)]) (i := 3) rfl (by decide) rfl ?_
                          refine wa_iinc (v := (1)) (lv' := fun y69 => [(4, .int y69), (3, .int v68), (9, .int (bI false)), (8, .int x57), (7, .int x55), (0, .ref 31), (2, .ref 43), (5, .long l5)]) (by decide) rfl (by decide) (fun _ => rfl) (fun y69 hy69 => ?_)
                          have ty69 := i_addT hy69.symm
                          clear hy69
                          refine wa_goto o_X6_soFor_15 (by decide) ?_
                          refine wa_pick [5, 6, 1, 0] rfl ?_
                          exact ih5 _ (by ((try simp only [vp_in_iff, Int32.lt_iff_toInt_lt, Int32.le_iff_toInt_le, ← Int32.toInt_inj, Int32.reduceToInt, n_1, n_2, n_8, Int32.toNatClampNeg, Int64.lt_iff_toInt_lt, Int64.le_iff_toInt_le, ← Int64.toInt_inj, Int64.reduceToInt, Int32.toInt_toInt64, lg_cmp_ge, lg_cmp_le, lg_cmp_gt, lg_cmp_lt, lg_cmp_eq, Bool.false_eq_true, Bool.true_eq_false, reduceCtorEq, false_iff, true_iff, iff_true, iff_false, and_true, true_and, and_false, false_and, reduceIte, ite_true, ite_false, eq_self] at *)) <;> omega) _ _ _ ⟨Fs13, (khi15_0), (khi15_1), (by ((try simp only [vp_in_iff, Int32.lt_iff_toInt_lt, Int32.le_iff_toInt_le, ← Int32.toInt_inj, Int32.reduceToInt, n_1, n_2, n_8, Int32.toNatClampNeg, Int64.lt_iff_toInt_lt, Int64.le_iff_toInt_le, ← Int64.toInt_inj, Int64.reduceToInt, Int32.toInt_toInt64, lg_cmp_ge, lg_cmp_le, lg_cmp_gt, lg_cmp_lt, lg_cmp_eq, Bool.false_eq_true, Bool.true_eq_false, reduceCtorEq, false_iff, true_iff, iff_true, iff_false, and_true, true_and, and_false, false_and, reduceIte, ite_true, ite_false, eq_self] at *)) <;> omega), trivial⟩ rfl
                      · refine wa_iconst (v := 1) (by decide) ?_
                        refine wa_goto o_X6_soFor_163 (by decide) ?_
                        refine wa_istoreD (lv' := [(9, .int (bI true)), (8, .int x57), (7, .int x55), (0, .ref 31), (2, .ref 43), (3, .int l3), (4, .int l4), (5, .long l5)]) (by decide) rfl ?_
                        refine wa_iload_n (i := 3) rfl rfl ?_
                        refine wa_iload rfl ?_
                        refine wa_if_eq o_X6_soFor_178 (by decide) (fun h70 => ?_) (fun h70 => ?_)
                        · replace h70 := bI_f (b := true) (rfl) h70
                          refine wa_iconst (v := 0) (by decide) ?_
                          refine wa_ior ?_
                          refine wa_top (fun v71 hv71 => ?_)
                          clear hv71
                          refine wa_istore_nD (lv' := [(3, .int v71), (9, .int (bI true)), (8, .int x57), (7, .int x55), (0, .ref 31), (2, .ref 43), (4, .int l4), (5, .long l5)]) (i := 3) rfl (by decide) rfl ?_
                          refine wa_iinc (v := (1)) (lv' := fun y72 => [(4, .int y72), (3, .int v71), (9, .int (bI true)), (8, .int x57), (7, .int x55), (0, .ref 31), (2, .ref 43), (5, .long l5)]) (by decide) rfl (by decide) (fun _ => rfl) (fun y72 hy72 => ?_)
                          have ty72 := i_addT hy72.symm
                          clear hy72
                          refine wa_goto o_X6_soFor_15 (by decide) ?_
                          refine wa_pick [5, 6, 1, 0] rfl ?_
                          exact ih5 _ (by ((try simp only [vp_in_iff, Int32.lt_iff_toInt_lt, Int32.le_iff_toInt_le, ← Int32.toInt_inj, Int32.reduceToInt, n_1, n_2, n_8, Int32.toNatClampNeg, Int64.lt_iff_toInt_lt, Int64.le_iff_toInt_le, ← Int64.toInt_inj, Int64.reduceToInt, Int32.toInt_toInt64, lg_cmp_ge, lg_cmp_le, lg_cmp_gt, lg_cmp_lt, lg_cmp_eq, Bool.false_eq_true, Bool.true_eq_false, reduceCtorEq, false_iff, true_iff, iff_true, iff_false, and_true, true_and, and_false, false_and, reduceIte, ite_true, ite_false, eq_self] at *)) <;> omega) _ _ _ ⟨Fs13, (khi15_0), (khi15_1), (by ((try simp only [vp_in_iff, Int32.lt_iff_toInt_lt, Int32.le_iff_toInt_le, ← Int32.toInt_inj, Int32.reduceToInt, n_1, n_2, n_8, Int32.toNatClampNeg, Int64.lt_iff_toInt_lt, Int64.le_iff_toInt_le, ← Int64.toInt_inj, Int64.reduceToInt, Int32.toInt_toInt64, lg_cmp_ge, lg_cmp_le, lg_cmp_gt, lg_cmp_lt, lg_cmp_eq, Bool.false_eq_true, Bool.true_eq_false, reduceCtorEq, false_iff, true_iff, iff_true, iff_false, and_true, true_and, and_false, false_and, reduceIte, ite_true, ite_false, eq_self] at *)) <;> omega), trivial⟩ rfl
                        · replace h70 := bI_t (b := true) (rfl) h70
                          refine wa_iconst (v := 1) (by decide) ?_
                          refine wa_iload rfl ?_
                          refine wa_ishl ?_
                          refine wa_top (fun v73 hv73 => ?_)
                          clear hv73
                          refine wa_goto o_X6_soFor_179 (by decide) ?_
                          refine wa_ior ?_
                          refine wa_top (fun v74 hv74 => ?_)
                          clear hv74
                          refine wa_istore_nD (lv' := [(3, .int v74), (9, .int (bI true)), (8, .int x57), (7, .int x55), (0, .ref 31), (2, .ref 43), (4, .int l4), (5, .long l5)]) (i := 3) rfl (by decide) rfl ?_
                          refine wa_iinc (v := (1)) (lv' := fun y75 => [(4, .int y75), (3, .int v74), (9, .int (bI true)), (8, .int x57), (7, .int x55), (0, .ref 31), (2, .ref 43), (5, .long l5)]) (by decide) rfl (by decide) (fun _ => rfl) (fun y75 hy75 => ?_)
                          have ty75 := i_addT hy75.symm
                          clear hy75
                          refine wa_goto o_X6_soFor_15 (by decide) ?_
                          refine wa_pick [5, 6, 1, 0] rfl ?_
                          exact ih5 _ (by ((try simp only [vp_in_iff, Int32.lt_iff_toInt_lt, Int32.le_iff_toInt_le, ← Int32.toInt_inj, Int32.reduceToInt, n_1, n_2, n_8, Int32.toNatClampNeg, Int64.lt_iff_toInt_lt, Int64.le_iff_toInt_le, ← Int64.toInt_inj, Int64.reduceToInt, Int32.toInt_toInt64, lg_cmp_ge, lg_cmp_le, lg_cmp_gt, lg_cmp_lt, lg_cmp_eq, Bool.false_eq_true, Bool.true_eq_false, reduceCtorEq, false_iff, true_iff, iff_true, iff_false, and_true, true_and, and_false, false_and, reduceIte, ite_true, ite_false, eq_self] at *)) <;> omega) _ _ _ ⟨Fs13, (khi15_0), (khi15_1), (by ((try simp only [vp_in_iff, Int32.lt_iff_toInt_lt, Int32.le_iff_toInt_le, ← Int32.toInt_inj, Int32.reduceToInt, n_1, n_2, n_8, Int32.toNatClampNeg, Int64.lt_iff_toInt_lt, Int64.le_iff_toInt_le, ← Int64.toInt_inj, Int64.reduceToInt, Int32.toInt_toInt64, lg_cmp_ge, lg_cmp_le, lg_cmp_gt, lg_cmp_lt, lg_cmp_eq, Bool.false_eq_true, Bool.true_eq_false, reduceCtorEq, false_iff, true_iff, iff_true, iff_false, and_true, true_and, and_false, false_and, reduceIte, ite_true, ite_false, eq_self] at *)) <;> omega), trivial⟩ rfl
                    · refine wa_lload rfl ?_
                      refine wa_iload rfl ?_
                      refine wa_i2l ?_
                      refine wa_lcmp ?_
                      refine wa_top (fun v76 hv76 => ?_)
                      have tv76 := i_cmpT hv76
                      clear hv76
                      refine wa_if_gt o_X6_soFor_135 (by decide) (fun h77 => ?_) (fun h77 => ?_)
                      · refine wa_iconst (v := 0) (by decide) ?_
                        refine wa_goto o_X6_soFor_163 (by decide) ?_
                        refine wa_istoreD (lv' := [(9, .int (bI false)), (8, .int x57), (7, .int x55), (0, .ref 31), (2, .ref 43), (3, .int l3), (4, .int l4), (5, .long l5)]) (by decide) rfl ?_
                        refine wa_iload_n (i := 3) rfl rfl ?_
                        refine wa_iload rfl ?_
                        refine wa_if_eq o_X6_soFor_178 (by decide) (fun h78 => ?_) (fun h78 => ?_)
                        · replace h78 := bI_f (b := false) (rfl) h78
                          refine wa_iconst (v := 0) (by decide) ?_
                          refine wa_ior ?_
                          refine wa_top (fun v79 hv79 => ?_)
                          clear hv79
                          refine wa_istore_nD (lv' := [(3, .int v79), (9, .int (bI false)), (8, .int x57), (7, .int x55), (0, .ref 31), (2, .ref 43), (4, .int l4), (5, .long l5)]) (i := 3) rfl (by decide) rfl ?_
                          refine wa_iinc (v := (1)) (lv' := fun y80 => [(4, .int y80), (3, .int v79), (9, .int (bI false)), (8, .int x57), (7, .int x55), (0, .ref 31), (2, .ref 43), (5, .long l5)]) (by decide) rfl (by decide) (fun _ => rfl) (fun y80 hy80 => ?_)
                          have ty80 := i_addT hy80.symm
                          clear hy80
                          refine wa_goto o_X6_soFor_15 (by decide) ?_
                          refine wa_pick [5, 6, 1, 0] rfl ?_
                          exact ih5 _ (by ((try simp only [vp_in_iff, Int32.lt_iff_toInt_lt, Int32.le_iff_toInt_le, ← Int32.toInt_inj, Int32.reduceToInt, n_1, n_2, n_8, Int32.toNatClampNeg, Int64.lt_iff_toInt_lt, Int64.le_iff_toInt_le, ← Int64.toInt_inj, Int64.reduceToInt, Int32.toInt_toInt64, lg_cmp_ge, lg_cmp_le, lg_cmp_gt, lg_cmp_lt, lg_cmp_eq, Bool.false_eq_true, Bool.true_eq_false, reduceCtorEq, false_iff, true_iff, iff_true, iff_false, and_true, true_and, and_false, false_and, reduceIte, ite_true, ite_false, eq_self] at *)) <;> omega) _ _ _ ⟨Fs13, (khi15_0), (khi15_1), (by ((try simp only [vp_in_iff, Int32.lt_iff_toInt_lt, Int32.le_iff_toInt_le, ← Int32.toInt_inj, Int32.reduceToInt, n_1, n_2, n_8, Int32.toNatClampNeg, Int64.lt_iff_toInt_lt, Int64.le_iff_toInt_le, ← Int64.toInt_inj, Int64.reduceToInt, Int32.toInt_toInt64, lg_cmp_ge, lg_cmp_le, lg_cmp_gt, lg_cmp_lt, lg_cmp_eq, Bool.false_eq_true, Bool.true_eq_false, reduceCtorEq, false_iff, true_iff, iff_true, iff_false, and_true, true_and, and_false, false_and, reduceIte, ite_true, ite_false, eq_self] at *)) <;> omega), trivial⟩ rfl
                        · replace h78 := bI_t (b := false) (rfl) h78
                          refine wa_iconst (v := 1) (by decide) ?_
                          refine wa_iload rfl ?_
                          refine wa_ishl ?_
                          refine wa_top (fun v81 hv81 => ?_)
                          clear hv81
                          refine wa_goto o_X6_soFor_179 (by decide) ?_
                          refine wa_ior ?_
                          refine wa_top (fun v82 hv82 => ?_)
                          clear hv82
                          refine wa_istore_nD (lv' := [(3, .int v82), (9, .int (bI false)), (8, .int x57), (7, .int x55), (0, .ref 31), (2, .ref 43), (4, .int l4), (5, .long l5)]) (i := 3) rfl (by decide) rfl ?_
                          refine wa_iinc (v := (1)) (lv' := fun y83 => [(4, .int y83), (3, .int v82), (9, .int (bI false)), (8, .int x57), (7, .int x55), (0, .ref 31), (2, .ref 43), (5, .long l5)]) (by decide) rfl (by decide) (fun _ => rfl) (fun y83 hy83 => ?_)
                          have ty83 := i_addT hy83.symm
                          clear hy83
                          refine wa_goto o_X6_soFor_15 (by decide) ?_
                          refine wa_pick [5, 6, 1, 0] rfl ?_
                          exact ih5 _ (by ((try simp only [vp_in_iff, Int32.lt_iff_toInt_lt, Int32.le_iff_toInt_le, ← Int32.toInt_inj, Int32.reduceToInt, n_1, n_2, n_8, Int32.toNatClampNeg, Int64.lt_iff_toInt_lt, Int64.le_iff_toInt_le, ← Int64.toInt_inj, Int64.reduceToInt, Int32.toInt_toInt64, lg_cmp_ge, lg_cmp_le, lg_cmp_gt, lg_cmp_lt, lg_cmp_eq, Bool.false_eq_true, Bool.true_eq_false, reduceCtorEq, false_iff, true_iff, iff_true, iff_false, and_true, true_and, and_false, false_and, reduceIte, ite_true, ite_false, eq_self] at *)) <;> omega) _ _ _ ⟨Fs13, (khi15_0), (khi15_1), (by ((try simp only [vp_in_iff, Int32.lt_iff_toInt_lt, Int32.le_iff_toInt_le, ← Int32.toInt_inj, Int32.reduceToInt, n_1, n_2, n_8, Int32.toNatClampNeg, Int64.lt_iff_toInt_lt, Int64.le_iff_toInt_le, ← Int64.toInt_inj, Int64.reduceToInt, Int32.toInt_toInt64, lg_cmp_ge, lg_cmp_le, lg_cmp_gt, lg_cmp_lt, lg_cmp_eq, Bool.false_eq_true, Bool.true_eq_false, reduceCtorEq, false_iff, true_iff, iff_true, iff_false, and_true, true_and, and_false, false_and, reduceIte, ite_true, ite_false, eq_self] at *)) <;> omega), trivial⟩ rfl
                      · refine wa_iconst (v := 1) (by decide) ?_
                        refine wa_goto o_X6_soFor_163 (by decide) ?_
                        refine wa_istoreD (lv' := [(9, .int (bI true)), (8, .int x57), (7, .int x55), (0, .ref 31), (2, .ref 43), (3, .int l3), (4, .int l4), (5, .long l5)]) (by decide) rfl ?_
                        refine wa_iload_n (i := 3) rfl rfl ?_
                        refine wa_iload rfl ?_
                        refine wa_if_eq o_X6_soFor_178 (by decide) (fun h84 => ?_) (fun h84 => ?_)
                        · replace h84 := bI_f (b := true) (rfl) h84
                          refine wa_iconst (v := 0) (by decide) ?_
                          refine wa_ior ?_
                          refine wa_top (fun v85 hv85 => ?_)
                          clear hv85
                          refine wa_istore_nD (lv' := [(3, .int v85), (9, .int (bI true)), (8, .int x57), (7, .int x55), (0, .ref 31), (2, .ref 43), (4, .int l4), (5, .long l5)]) (i := 3) rfl (by decide) rfl ?_
                          refine wa_iinc (v := (1)) (lv' := fun y86 => [(4, .int y86), (3, .int v85), (9, .int (bI true)), (8, .int x57), (7, .int x55), (0, .ref 31), (2, .ref 43), (5, .long l5)]) (by decide) rfl (by decide) (fun _ => rfl) (fun y86 hy86 => ?_)
                          have ty86 := i_addT hy86.symm
                          clear hy86
                          refine wa_goto o_X6_soFor_15 (by decide) ?_
                          refine wa_pick [5, 6, 1, 0] rfl ?_
                          exact ih5 _ (by ((try simp only [vp_in_iff, Int32.lt_iff_toInt_lt, Int32.le_iff_toInt_le, ← Int32.toInt_inj, Int32.reduceToInt, n_1, n_2, n_8, Int32.toNatClampNeg, Int64.lt_iff_toInt_lt, Int64.le_iff_toInt_le, ← Int64.toInt_inj, Int64.reduceToInt, Int32.toInt_toInt64, lg_cmp_ge, lg_cmp_le, lg_cmp_gt, lg_cmp_lt, lg_cmp_eq, Bool.false_eq_true, Bool.true_eq_false, reduceCtorEq, false_iff, true_iff, iff_true, iff_false, and_true, true_and, and_false, false_and, reduceIte, ite_true, ite_false, eq_self] at *)) <;> omega) _ _ _ ⟨Fs13, (khi15_0), (khi15_1), (by ((try simp only [vp_in_iff, Int32.lt_iff_toInt_lt, Int32.le_iff_toInt_le, ← Int32.toInt_inj, Int32.reduceToInt, n_1, n_2, n_8, Int32.toNatClampNeg, Int64.lt_iff_toInt_lt, Int64.le_iff_toInt_le, ← Int64.toInt_inj, Int64.reduceToInt, Int32.toInt_toInt64, lg_cmp_ge, lg_cmp_le, lg_cmp_gt, lg_cmp_lt, lg_cmp_eq, Bool.false_eq_true, Bool.true_eq_false, reduceCtorEq, false_iff, true_iff, iff_true, iff_false, and_true, true_and, and_false, false_and, reduceIte, ite_true, ite_false, eq_self] at *)) <;> omega), trivial⟩ rfl
                        · replace h84 := bI_t (b := true) (rfl) h84
                          refine wa_iconst (v := 1) (by decide) ?_
                          refine wa_iload rfl ?_
                          refine wa_ishl ?_
                          refine wa_top (fun v87 hv87 => ?_)
                          clear hv87
                          refine wa_goto o_X6_soFor_179 (by decide) ?_
                          refine wa_ior ?_
                          refine wa_top (fun v88 hv88 => ?_)
                          clear hv88
                          refine wa_istore_nD (lv' := [(3, .int v88), (9, .int (bI true)), (8, .int x57), (7, .int x55), (0, .ref 31), (2, .ref 43), (4, .int l4), (5, .long l5)]) (i := 3) rfl (by decide) rfl ?_
                          refine wa_iinc (v := (1)) (lv' := fun y89 => [(4, .int y89), (3, .int v88), (9, .int (bI true)), (8, .int x57), (7, .int x55), (0, .ref 31), (2, .ref 43), (5, .long l5)]) (by decide) rfl (by decide) (fun _ => rfl) (fun y89 hy89 => ?_)
                          have ty89 := i_addT hy89.symm
                          clear hy89
                          refine wa_goto o_X6_soFor_15 (by decide) ?_
                          refine wa_pick [5, 6, 1, 0] rfl ?_
                          exact ih5 _ (by ((try simp only [vp_in_iff, Int32.lt_iff_toInt_lt, Int32.le_iff_toInt_le, ← Int32.toInt_inj, Int32.reduceToInt, n_1, n_2, n_8, Int32.toNatClampNeg, Int64.lt_iff_toInt_lt, Int64.le_iff_toInt_le, ← Int64.toInt_inj, Int64.reduceToInt, Int32.toInt_toInt64, lg_cmp_ge, lg_cmp_le, lg_cmp_gt, lg_cmp_lt, lg_cmp_eq, Bool.false_eq_true, Bool.true_eq_false, reduceCtorEq, false_iff, true_iff, iff_true, iff_false, and_true, true_and, and_false, false_and, reduceIte, ite_true, ite_false, eq_self] at *)) <;> omega) _ _ _ ⟨Fs13, (khi15_0), (khi15_1), (by ((try simp only [vp_in_iff, Int32.lt_iff_toInt_lt, Int32.le_iff_toInt_le, ← Int32.toInt_inj, Int32.reduceToInt, n_1, n_2, n_8, Int32.toNatClampNeg, Int64.lt_iff_toInt_lt, Int64.le_iff_toInt_le, ← Int64.toInt_inj, Int64.reduceToInt, Int32.toInt_toInt64, lg_cmp_ge, lg_cmp_le, lg_cmp_gt, lg_cmp_lt, lg_cmp_eq, Bool.false_eq_true, Bool.true_eq_false, reduceCtorEq, false_iff, true_iff, iff_true, iff_false, and_true, true_and, and_false, false_and, reduceIte, ite_true, ite_false, eq_self] at *)) <;> omega), trivial⟩ rfl
                  · have mh53 := nle_mx h53
                    refine wa_lload rfl ?_
                    refine wa_aload_n (i := 0) rfl rfl ?_
                    refine wa_getr ck_6 fl_6_44 ly_31 rf_31_0 ?_
                    refine wa_aload_n (i := 0) rfl rfl ?_
                    refine wa_getr ck_6 fl_6_11 ly_31 rf_31_1 ?_
                    refine wa_iload rfl ?_
                    refine wa_iald ly_32 (by ((try simp only [vp_in_iff, Int32.lt_iff_toInt_lt, Int32.le_iff_toInt_le, ← Int32.toInt_inj, Int32.reduceToInt, n_1, n_2, n_8, Int32.toNatClampNeg, Int64.lt_iff_toInt_lt, Int64.le_iff_toInt_le, ← Int64.toInt_inj, Int64.reduceToInt, Int32.toInt_toInt64, lg_cmp_ge, lg_cmp_le, lg_cmp_gt, lg_cmp_lt, lg_cmp_eq, Bool.false_eq_true, Bool.true_eq_false, reduceCtorEq, false_iff, true_iff, iff_true, iff_false, and_true, true_and, and_false, false_and, reduceIte, ite_true, ite_false, eq_self] at *)) <;> omega) ?_
                    refine wa_iload rfl ?_
                    refine wa_Vi (d9 := d - 1) [.int _, .int _] [.long l5] (sp_X2_pooled G (d := d - 1) (by omega) s13 _ _) (rfl) rfl rfl (zr (by omega)) mk_X2_pooled ly_7 ml_6_79 (Nat.le_of_ble_eq_true rfl) (fun x91 s90 hs90 => ?_)
                    obtain ⟨zs90, -⟩ := pI hs90
                    subst zs90
                    refine wa_i2l ?_
                    refine wa_aload_n (i := 2) rfl rfl ?_
                    refine wa_iload rfl ?_
                    refine wa_lald ly_43 (by ((try simp only [vp_in_iff, Int32.lt_iff_toInt_lt, Int32.le_iff_toInt_le, ← Int32.toInt_inj, Int32.reduceToInt, n_1, n_2, n_8, Int32.toNatClampNeg, Int64.lt_iff_toInt_lt, Int64.le_iff_toInt_le, ← Int64.toInt_inj, Int64.reduceToInt, Int32.toInt_toInt64, lg_cmp_ge, lg_cmp_le, lg_cmp_gt, lg_cmp_lt, lg_cmp_eq, Bool.false_eq_true, Bool.true_eq_false, reduceCtorEq, false_iff, true_iff, iff_true, iff_false, and_true, true_and, and_false, false_and, reduceIte, ite_true, ite_false, eq_self] at *)) <;> omega) ?_
                    refine wa_lmul ?_
                    refine wa_topl (fun v92 hv92 => ?_)
                    clear hv92
                    refine wa_ladd ?_
                    refine wa_topl (fun v93 hv93 => ?_)
                    clear hv93
                    refine wa_lstoreD (lv' := [(5, .long v93), (0, .ref 31), (2, .ref 43), (3, .int l3), (4, .int l4), (7, .int l7)]) (by decide) rfl ?_
                    refine wa_iinc (v := (1)) (lv' := fun y94 => [(7, .int y94), (5, .long v93), (0, .ref 31), (2, .ref 43), (3, .int l3), (4, .int l4)]) (by decide) rfl (by decide) (fun _ => rfl) (fun y94 hy94 => ?_)
                    have ty94 := i_addT hy94.symm
                    clear hy94
                    refine wa_goto o_X6_soFor_37 (by decide) ?_
                    refine wa_pick [2, 3, 4, 5, 1, 0] rfl ?_
                    exact ih14 _ (by ((try simp only [vp_in_iff, Int32.lt_iff_toInt_lt, Int32.le_iff_toInt_le, ← Int32.toInt_inj, Int32.reduceToInt, n_1, n_2, n_8, Int32.toNatClampNeg, Int64.lt_iff_toInt_lt, Int64.le_iff_toInt_le, ← Int64.toInt_inj, Int64.reduceToInt, Int32.toInt_toInt64, lg_cmp_ge, lg_cmp_le, lg_cmp_gt, lg_cmp_lt, lg_cmp_eq, Bool.false_eq_true, Bool.true_eq_false, reduceCtorEq, false_iff, true_iff, iff_true, iff_false, and_true, true_and, and_false, false_and, reduceIte, ite_true, ite_false, eq_self] at *)) <;> omega) _ _ _ ⟨Fs13, (khi15_0), (khi15_1), (by ((try simp only [vp_in_iff, Int32.lt_iff_toInt_lt, Int32.le_iff_toInt_le, ← Int32.toInt_inj, Int32.reduceToInt, n_1, n_2, n_8, Int32.toNatClampNeg, Int64.lt_iff_toInt_lt, Int64.le_iff_toInt_le, ← Int64.toInt_inj, Int64.reduceToInt, Int32.toInt_toInt64, lg_cmp_ge, lg_cmp_le, lg_cmp_gt, lg_cmp_lt, lg_cmp_eq, Bool.false_eq_true, Bool.true_eq_false, reduceCtorEq, false_iff, true_iff, iff_true, iff_false, and_true, true_and, and_false, false_and, reduceIte, ite_true, ite_false, eq_self] at *)) <;> omega), trivial⟩ rfl
            exact hi15 _ _ _ _ ⟨Fs4, (khi6_0), (khi6_1), (by ((try simp only [vp_in_iff, Int32.lt_iff_toInt_lt, Int32.le_iff_toInt_le, ← Int32.toInt_inj, Int32.reduceToInt, n_1, n_2, n_8, Int32.toNatClampNeg, Int64.lt_iff_toInt_lt, Int64.le_iff_toInt_le, ← Int64.toInt_inj, Int64.reduceToInt, Int32.toInt_toInt64, lg_cmp_ge, lg_cmp_le, lg_cmp_gt, lg_cmp_lt, lg_cmp_eq, Bool.false_eq_true, Bool.true_eq_false, reduceCtorEq, false_iff, true_iff, iff_true, iff_false, and_true, true_and, and_false, false_and, reduceIte, ite_true, ite_false, eq_self] at *)) <;> omega), trivial⟩ rfl
    exact hi6 _ _ _ _ ⟨Fs1, (rfl), (rfl), (by ((try simp only [vp_in_iff, Int32.lt_iff_toInt_lt, Int32.le_iff_toInt_le, ← Int32.toInt_inj, Int32.reduceToInt, n_1, n_2, n_8, Int32.toNatClampNeg, Int64.lt_iff_toInt_lt, Int64.le_iff_toInt_le, ← Int64.toInt_inj, Int64.reduceToInt, Int32.toInt_toInt64, lg_cmp_ge, lg_cmp_le, lg_cmp_gt, lg_cmp_lt, lg_cmp_eq, Bool.false_eq_true, Bool.true_eq_false, reduceCtorEq, false_iff, true_iff, iff_true, iff_false, and_true, true_and, and_false, false_and, reduceIte, ite_true, ite_false, eq_self] at *)) <;> omega), trivial⟩ rfl
  · replace h3 := bI_f (b := bx2) (rfl) h3
    refine wa_iconst (v := 0) (by decide) ?_
    refine wa_ireturn rfl rfl ?_
    exact ⟨_, rfl, Fs1, (by first | assumption | (((try simp only [vp_in_iff, Int32.lt_iff_toInt_lt, Int32.le_iff_toInt_le, ← Int32.toInt_inj, Int32.reduceToInt, n_1, n_2, n_8, Int32.toNatClampNeg, Int64.lt_iff_toInt_lt, Int64.le_iff_toInt_le, ← Int64.toInt_inj, Int64.reduceToInt, Int32.toInt_toInt64, lg_cmp_ge, lg_cmp_le, lg_cmp_gt, lg_cmp_lt, lg_cmp_eq, Bool.false_eq_true, Bool.true_eq_false, reduceCtorEq, false_iff, true_iff, iff_true, iff_false, and_true, true_and, and_false, false_and, reduceIte, ite_true, ite_false, eq_self] at *)) <;> omega)), trivial⟩
set_option maxHeartbeats 4000000 in
theorem sp_X0_isSoFor (G : kG9) {d : Nat} (hd : 4 ≤ d) (σ : St) (a0 : Int32) (a1 : Int64) (a2 : Int64) (a3 : Int64) (a4 : Int64) (r1 : 0 ≤ (gi σ 31 13).toInt ∧ (gi σ 31 13).toInt ≤ 3000) (r2 : 0 ≤ (gi σ 41 15).toInt ∧ (gi σ 41 15).toInt ≤ 1100) : Ct G M_X0_isSoFor d [.ref 41, .int a0, .long a1, .long a2, .long a3, .long a4] σ (fun r σ' => ∃ x : Bool, r = some (.int (bI x)) ∧ Sm 31 44 σ σ' ∧ (0 ≤ (gi σ' 31 13).toInt ∧ (gi σ' 31 13).toInt ≤ 3000) ∧ (0 ≤ (gi σ' 41 15).toInt ∧ (gi σ' 41 15).toInt ≤ 1100) ∧ True) := by
  refine wa_start (by decide) rfl (Nat.le_of_ble_eq_true rfl) (lv := [(0, .ref 41), (1, .int a0), (2, .long a1), (4, .long a2), (6, .long a3), (8, .long a4)]) rfl o_X0_isSoFor_0 rfl ?_
  have ua0 := Int32.toInt_lt a0
  have wa0 := Int32.le_toInt a0
  refine wa_aload_n (i := 0) rfl rfl ?_
  refine wa_getr ck_0 fl_0_15 ly_41 rf_41_3 ?_
  refine wa_iconst (v := 0) (by decide) ?_
  refine wa_lload_n (i := 2) rfl rfl ?_
  refine wa_last ly_43 (by ((try simp only [vp_in_iff, Int32.lt_iff_toInt_lt, Int32.le_iff_toInt_le, ← Int32.toInt_inj, Int32.reduceToInt, n_1, n_2, n_8, Int32.toNatClampNeg, Int64.lt_iff_toInt_lt, Int64.le_iff_toInt_le, ← Int64.toInt_inj, Int64.reduceToInt, Int32.toInt_toInt64, lg_cmp_ge, lg_cmp_le, lg_cmp_gt, lg_cmp_lt, lg_cmp_eq, Bool.false_eq_true, Bool.true_eq_false, reduceCtorEq, false_iff, true_iff, iff_true, iff_false, and_true, true_and, and_false, false_and, reduceIte, ite_true, ite_false, eq_self] at *)) <;> omega) (fun s1 hs1 => ?_)
  have Fs1 : Sm 31 44 σ s1 := by rw [hs1]; exact Sm.sl (Sm.rf 31 44 σ) _ _ (by decide) (by decide)
  refine wa_aload_n (i := 0) rfl rfl ?_
  refine wa_getr ck_0 fl_0_15 ly_41 rf_41_3 ?_
  refine wa_iconst (v := 1) (by decide) ?_
  refine wa_lload rfl ?_
  refine wa_last ly_43 (by ((try simp only [vp_in_iff, Int32.lt_iff_toInt_lt, Int32.le_iff_toInt_le, ← Int32.toInt_inj, Int32.reduceToInt, n_1, n_2, n_8, Int32.toNatClampNeg, Int64.lt_iff_toInt_lt, Int64.le_iff_toInt_le, ← Int64.toInt_inj, Int64.reduceToInt, Int32.toInt_toInt64, lg_cmp_ge, lg_cmp_le, lg_cmp_gt, lg_cmp_lt, lg_cmp_eq, Bool.false_eq_true, Bool.true_eq_false, reduceCtorEq, false_iff, true_iff, iff_true, iff_false, and_true, true_and, and_false, false_and, reduceIte, ite_true, ite_false, eq_self] at *)) <;> omega) (fun s2 hs2 => ?_)
  have Fs2 : Sm 31 44 σ s2 := by rw [hs2]; exact Sm.sl Fs1 _ _ (by decide) (by decide)
  refine wa_aload_n (i := 0) rfl rfl ?_
  refine wa_getr ck_0 fl_0_15 ly_41 rf_41_3 ?_
  refine wa_iconst (v := 2) (by decide) ?_
  refine wa_lload rfl ?_
  refine wa_last ly_43 (by ((try simp only [vp_in_iff, Int32.lt_iff_toInt_lt, Int32.le_iff_toInt_le, ← Int32.toInt_inj, Int32.reduceToInt, n_1, n_2, n_8, Int32.toNatClampNeg, Int64.lt_iff_toInt_lt, Int64.le_iff_toInt_le, ← Int64.toInt_inj, Int64.reduceToInt, Int32.toInt_toInt64, lg_cmp_ge, lg_cmp_le, lg_cmp_gt, lg_cmp_lt, lg_cmp_eq, Bool.false_eq_true, Bool.true_eq_false, reduceCtorEq, false_iff, true_iff, iff_true, iff_false, and_true, true_and, and_false, false_and, reduceIte, ite_true, ite_false, eq_self] at *)) <;> omega) (fun s3 hs3 => ?_)
  have Fs3 : Sm 31 44 σ s3 := by rw [hs3]; exact Sm.sl Fs2 _ _ (by decide) (by decide)
  refine wa_aload_n (i := 0) rfl rfl ?_
  refine wa_getr ck_0 fl_0_15 ly_41 rf_41_3 ?_
  refine wa_iconst (v := 3) (by decide) ?_
  refine wa_lload rfl ?_
  refine wa_last ly_43 (by ((try simp only [vp_in_iff, Int32.lt_iff_toInt_lt, Int32.le_iff_toInt_le, ← Int32.toInt_inj, Int32.reduceToInt, n_1, n_2, n_8, Int32.toNatClampNeg, Int64.lt_iff_toInt_lt, Int64.le_iff_toInt_le, ← Int64.toInt_inj, Int64.reduceToInt, Int32.toInt_toInt64, lg_cmp_ge, lg_cmp_le, lg_cmp_gt, lg_cmp_lt, lg_cmp_eq, Bool.false_eq_true, Bool.true_eq_false, reduceCtorEq, false_iff, true_iff, iff_true, iff_false, and_true, true_and, and_false, false_and, reduceIte, ite_true, ite_false, eq_self] at *)) <;> omega) (fun s4 hs4 => ?_)
  have Fs4 : Sm 31 44 σ s4 := by rw [hs4]; exact Sm.sl Fs3 _ _ (by decide) (by decide)
  refine wa_iconst (v := 0) (by decide) ?_
  refine wa_aload_n (i := 0) rfl rfl ?_
  refine wa_getr ck_0 fl_0_44 ly_41 rf_41_0 ?_
  refine wa_geti ck_2 fl_0_52 ly_7 ?_
  refine wa_rw ((nx_gi_sl hs4).trans ((nx_gi_sl hs3).trans ((nx_gi_sl hs2).trans (nx_gi_sl hs1)))) ?_
  refine wa_maxI zs (allW_in (kT_6 _ (List.mem_of_getElem? (i := 94) rfl)) rfl) (Nat.le_of_ble_eq_true rfl) ?_
  refine wa_top (fun v5 hv5 => ?_)
  have tv5 := i_maxI hv5
  clear hv5
  refine wa_istoreD (lv' := [(10, .int v5), (0, .ref 41), (1, .int a0), (2, .long a1), (4, .long a2), (6, .long a3), (8, .long a4)]) (by decide) rfl ?_
  refine wa_pick [1, 2, 0] rfl ?_
  have hi8 : ∀ (n9_44 : Nat) (l10 : Int32) (s6 : St), ((Sm 31 44 σ s6) ∧ (gi s6 31 13 = gi σ 31 13) ∧ (gi s6 41 15 = gi σ 41 15) ∧ (gi s6 7 10 = gi σ 7 10) ∧ (0 ≤ l10.toInt) ∧ (True)) → (2147483647 - l10.toInt).toNat = n9_44 → WA G M_X0_isSoFor (ZM G M_X0_isSoFor d (fun r σ' => ∃ x : Bool, r = some (.int (bI x)) ∧ Sm 31 44 σ σ' ∧ (0 ≤ (gi σ' 31 13).toInt ∧ (gi σ' 31 13).toInt ≤ 3000) ∧ (0 ≤ (gi σ' 41 15).toInt ∧ (gi σ' 41 15).toInt ≤ 1100) ∧ True)) B_X0_isSoFor_44 [(0, .ref 41), (1, .int a0), (10, .int l10)] [] s6 := by
    intro n9_44
    induction n9_44 using Nat.strongRecOn with
    | _ n9_44 ih7 =>
      intro l10 s6 i9 m9_44
      obtain ⟨Fs6, khi8_0, khi8_1, khi8_2, jhi8_0, -⟩ := i9
      have ul10 := Int32.toInt_lt l10
      have wl10 := Int32.le_toInt l10
      refine wa_iload rfl ?_
      refine wa_iconst (v := 4) (by decide) ?_
      refine wa_icmp_ge o_X0_isSoFor_64 (by decide) (fun h9 => ?_) (fun h9 => ?_)
      · refine wa_aload_n (i := 0) rfl rfl ?_
        refine wa_getr ck_0 fl_0_48 ly_41 rf_41_1 ?_
        refine wa_iconst (v := 1) (by decide) ?_
        refine wa_iload_n (i := 1) rfl rfl ?_
        refine wa_ishl ?_
        refine wa_top (fun v10 hv10 => ?_)
        clear hv10
        refine wa_aload_n (i := 0) rfl rfl ?_
        refine wa_getr ck_0 fl_0_15 ly_41 rf_41_3 ?_
        refine wa_Vi (d9 := d - 1) [.int _, .ref 43] [] (sp_X6_soFor G (d := d - 1) (by omega) s6 _ (by rw [khi8_0]; first | assumption | exact Or.inl rfl | exact Or.inr rfl | (((try simp only [vp_in_iff, Int32.lt_iff_toInt_lt, Int32.le_iff_toInt_le, ← Int32.toInt_inj, Int32.reduceToInt, n_1, n_2, n_8, Int32.toNatClampNeg, Int64.lt_iff_toInt_lt, Int64.le_iff_toInt_le, ← Int64.toInt_inj, Int64.reduceToInt, Int32.toInt_toInt64, lg_cmp_ge, lg_cmp_le, lg_cmp_gt, lg_cmp_lt, lg_cmp_eq, Bool.false_eq_true, Bool.true_eq_false, reduceCtorEq, false_iff, true_iff, iff_true, iff_false, and_true, true_and, and_false, false_and, reduceIte, ite_true, ite_false, eq_self] at *)) <;> omega))) (rfl) rfl rfl (zr (by omega)) mk_X6_soFor ly_31 ml_0_63 (Nat.le_of_ble_eq_true rfl) (fun x12 s11 hs11 => ?_)
        obtain ⟨fs11, cx12_1, -⟩ := pI hs11
        have Fs11 := Sm.tr Fs6 (Sm.wd fs11 (lo' := 31) (hi' := 44) (by decide) (by decide))
        refine wa_iload_n (i := 1) rfl rfl ?_
        refine wa_iushr ?_
        refine wa_top (fun v13 hv13 => ?_)
        clear hv13
        refine wa_iconst (v := 1) (by decide) ?_
        refine wa_iand ?_
        refine wa_top (fun v14 hv14 => ?_)
        have tv14 := i_andT hv14
        clear hv14
        refine wa_iconst (v := 1) (by decide) ?_
        refine wa_icmp_ne o_X0_isSoFor_90 (by decide) (fun h15 => ?_) (fun h15 => ?_)
        · refine wa_iconst (v := 0) (by decide) ?_
          refine wa_zreturn false (rfl) rfl rfl ?_
          exact ⟨_, rfl, Fs11, (by first | assumption | (((try simp only [vp_in_iff, Int32.lt_iff_toInt_lt, Int32.le_iff_toInt_le, ← Int32.toInt_inj, Int32.reduceToInt, n_1, n_2, n_8, Int32.toNatClampNeg, Int64.lt_iff_toInt_lt, Int64.le_iff_toInt_le, ← Int64.toInt_inj, Int64.reduceToInt, Int32.toInt_toInt64, lg_cmp_ge, lg_cmp_le, lg_cmp_gt, lg_cmp_lt, lg_cmp_eq, Bool.false_eq_true, Bool.true_eq_false, reduceCtorEq, false_iff, true_iff, iff_true, iff_false, and_true, true_and, and_false, false_and, reduceIte, ite_true, ite_false, eq_self] at *)) <;> omega)), (by rw [(Sm.gi fs11 15 (Or.inr (by decide))).trans (khi8_1)]; first | assumption | (((try simp only [vp_in_iff, Int32.lt_iff_toInt_lt, Int32.le_iff_toInt_le, ← Int32.toInt_inj, Int32.reduceToInt, n_1, n_2, n_8, Int32.toNatClampNeg, Int64.lt_iff_toInt_lt, Int64.le_iff_toInt_le, ← Int64.toInt_inj, Int64.reduceToInt, Int32.toInt_toInt64, lg_cmp_ge, lg_cmp_le, lg_cmp_gt, lg_cmp_lt, lg_cmp_eq, Bool.false_eq_true, Bool.true_eq_false, reduceCtorEq, false_iff, true_iff, iff_true, iff_false, and_true, true_and, and_false, false_and, reduceIte, ite_true, ite_false, eq_self] at *)) <;> omega)), trivial⟩
        · refine wa_iconst (v := 1) (by decide) ?_
          refine wa_goto o_X0_isSoFor_91 (by decide) ?_
          refine wa_zreturn true (rfl) rfl rfl ?_
          exact ⟨_, rfl, Fs11, (by first | assumption | (((try simp only [vp_in_iff, Int32.lt_iff_toInt_lt, Int32.le_iff_toInt_le, ← Int32.toInt_inj, Int32.reduceToInt, n_1, n_2, n_8, Int32.toNatClampNeg, Int64.lt_iff_toInt_lt, Int64.le_iff_toInt_le, ← Int64.toInt_inj, Int64.reduceToInt, Int32.toInt_toInt64, lg_cmp_ge, lg_cmp_le, lg_cmp_gt, lg_cmp_lt, lg_cmp_eq, Bool.false_eq_true, Bool.true_eq_false, reduceCtorEq, false_iff, true_iff, iff_true, iff_false, and_true, true_and, and_false, false_and, reduceIte, ite_true, ite_false, eq_self] at *)) <;> omega)), (by rw [(Sm.gi fs11 15 (Or.inr (by decide))).trans (khi8_1)]; first | assumption | (((try simp only [vp_in_iff, Int32.lt_iff_toInt_lt, Int32.le_iff_toInt_le, ← Int32.toInt_inj, Int32.reduceToInt, n_1, n_2, n_8, Int32.toNatClampNeg, Int64.lt_iff_toInt_lt, Int64.le_iff_toInt_le, ← Int64.toInt_inj, Int64.reduceToInt, Int32.toInt_toInt64, lg_cmp_ge, lg_cmp_le, lg_cmp_gt, lg_cmp_lt, lg_cmp_eq, Bool.false_eq_true, Bool.true_eq_false, reduceCtorEq, false_iff, true_iff, iff_true, iff_false, and_true, true_and, and_false, false_and, reduceIte, ite_true, ite_false, eq_self] at *)) <;> omega)), trivial⟩
      · have mh9 := nle_mx h9
        refine wa_aload_n (i := 0) rfl rfl ?_
        refine wa_getr ck_0 fl_0_15 ly_41 rf_41_3 ?_
        refine wa_iload rfl ?_
        refine wa_lconst (v := 0) (by decide) ?_
        refine wa_last ly_43 (by ((try simp only [vp_in_iff, Int32.lt_iff_toInt_lt, Int32.le_iff_toInt_le, ← Int32.toInt_inj, Int32.reduceToInt, n_1, n_2, n_8, Int32.toNatClampNeg, Int64.lt_iff_toInt_lt, Int64.le_iff_toInt_le, ← Int64.toInt_inj, Int64.reduceToInt, Int32.toInt_toInt64, lg_cmp_ge, lg_cmp_le, lg_cmp_gt, lg_cmp_lt, lg_cmp_eq, Bool.false_eq_true, Bool.true_eq_false, reduceCtorEq, false_iff, true_iff, iff_true, iff_false, and_true, true_and, and_false, false_and, reduceIte, ite_true, ite_false, eq_self] at *)) <;> omega) (fun s16 hs16 => ?_)
        have Fs16 : Sm 31 44 σ s16 := by rw [hs16]; exact Sm.sl Fs6 _ _ (by decide) (by decide)
        refine wa_iinc (v := (1)) (lv' := fun y17 => [(10, .int y17), (0, .ref 41), (1, .int a0)]) (by decide) rfl (by decide) (fun _ => rfl) (fun y17 hy17 => ?_)
        have ty17 := i_addT hy17.symm
        clear hy17
        refine wa_goto o_X0_isSoFor_44 (by decide) ?_
        refine wa_pick [1, 2, 0] rfl ?_
        exact ih7 _ (by ((try simp only [vp_in_iff, Int32.lt_iff_toInt_lt, Int32.le_iff_toInt_le, ← Int32.toInt_inj, Int32.reduceToInt, n_1, n_2, n_8, Int32.toNatClampNeg, Int64.lt_iff_toInt_lt, Int64.le_iff_toInt_le, ← Int64.toInt_inj, Int64.reduceToInt, Int32.toInt_toInt64, lg_cmp_ge, lg_cmp_le, lg_cmp_gt, lg_cmp_lt, lg_cmp_eq, Bool.false_eq_true, Bool.true_eq_false, reduceCtorEq, false_iff, true_iff, iff_true, iff_false, and_true, true_and, and_false, false_and, reduceIte, ite_true, ite_false, eq_self] at *)) <;> omega) _ _ ⟨Fs16, ((nx_gi_sl hs16).trans (khi8_0)), ((nx_gi_sl hs16).trans (khi8_1)), ((nx_gi_sl hs16).trans (khi8_2)), (by ((try simp only [vp_in_iff, Int32.lt_iff_toInt_lt, Int32.le_iff_toInt_le, ← Int32.toInt_inj, Int32.reduceToInt, n_1, n_2, n_8, Int32.toNatClampNeg, Int64.lt_iff_toInt_lt, Int64.le_iff_toInt_le, ← Int64.toInt_inj, Int64.reduceToInt, Int32.toInt_toInt64, lg_cmp_ge, lg_cmp_le, lg_cmp_gt, lg_cmp_lt, lg_cmp_eq, Bool.false_eq_true, Bool.true_eq_false, reduceCtorEq, false_iff, true_iff, iff_true, iff_false, and_true, true_and, and_false, false_and, reduceIte, ite_true, ite_false, eq_self] at *)) <;> omega), trivial⟩ rfl
  exact hi8 _ _ _ ⟨Fs4, ((nx_gi_sl hs4).trans ((nx_gi_sl hs3).trans ((nx_gi_sl hs2).trans (nx_gi_sl hs1)))), ((nx_gi_sl hs4).trans ((nx_gi_sl hs3).trans ((nx_gi_sl hs2).trans (nx_gi_sl hs1)))), ((nx_gi_sl hs4).trans ((nx_gi_sl hs3).trans ((nx_gi_sl hs2).trans (nx_gi_sl hs1)))), (by ((try simp only [vp_in_iff, Int32.lt_iff_toInt_lt, Int32.le_iff_toInt_le, ← Int32.toInt_inj, Int32.reduceToInt, n_1, n_2, n_8, Int32.toNatClampNeg, Int64.lt_iff_toInt_lt, Int64.le_iff_toInt_le, ← Int64.toInt_inj, Int64.reduceToInt, Int32.toInt_toInt64, lg_cmp_ge, lg_cmp_le, lg_cmp_gt, lg_cmp_lt, lg_cmp_eq, Bool.false_eq_true, Bool.true_eq_false, reduceCtorEq, false_iff, true_iff, iff_true, iff_false, and_true, true_and, and_false, false_and, reduceIte, ite_true, ite_false, eq_self] at *)) <;> omega), trivial⟩ rfl
set_option maxHeartbeats 4000000 in
theorem sp_X0_isTold (G : kG9) {d : Nat} (hd : 0 ≤ d) (σ : St) (a0 : Int32) : Ct G M_X0_isTold d [.ref 41, .int a0] σ (fun r σ' => ∃ x : Bool, r = some (.int (bI x)) ∧ σ = σ' ∧ True) := by
  refine wa_start (by decide) rfl (Nat.le_of_ble_eq_true rfl) (lv := [(0, .ref 41), (1, .int a0)]) rfl o_X0_isTold_0 rfl ?_
  have ua0 := Int32.toInt_lt a0
  have wa0 := Int32.le_toInt a0
  refine wa_iload_n (i := 1) rfl rfl ?_
  refine wa_if_lt o_X0_isTold_16 (by decide) (fun h1 => ?_) (fun h1 => ?_)
  · refine wa_iconst (v := 0) (by decide) ?_
    refine wa_zreturn false (rfl) rfl rfl ?_
    exact ⟨_, rfl, rfl, trivial⟩
  · refine wa_iload_n (i := 1) rfl rfl ?_
    refine wa_aload_n (i := 0) rfl rfl ?_
    refine wa_geti ck_0 fl_0_69 ly_41 ?_
    refine wa_icmp_ge o_X0_isTold_16 (by decide) (fun h2 => ?_) (fun h2 => ?_)
    · refine wa_iconst (v := 0) (by decide) ?_
      refine wa_zreturn false (rfl) rfl rfl ?_
      exact ⟨_, rfl, rfl, trivial⟩
    · have mh2 := nle_mx h2
      refine wa_iconst (v := 1) (by decide) ?_
      refine wa_goto o_X0_isTold_17 (by decide) ?_
      refine wa_zreturn true (rfl) rfl rfl ?_
      exact ⟨_, rfl, rfl, trivial⟩
set_option maxHeartbeats 4000000 in
theorem sp_X0_toldValue (G : kG9) {d : Nat} (hd : 0 ≤ d) (σ : St) (a0 : Int32) : Ct G M_X0_toldValue d [.ref 41, .int a0] σ (fun r σ' => ∃ x : Int64, r = some (.long x) ∧ σ = σ' ∧ True) := by
  refine wa_start (by decide) rfl (Nat.le_of_ble_eq_true rfl) (lv := [(0, .ref 41), (1, .int a0)]) rfl o_X0_toldValue_0 rfl ?_
  have ua0 := Int32.toInt_lt a0
  have wa0 := Int32.le_toInt a0
  refine wa_iload_n (i := 1) rfl rfl ?_
  refine wa_if_lt o_X0_toldValue_18 (by decide) (fun h1 => ?_) (fun h1 => ?_)
  · refine wa_lconst (v := 0) (by decide) ?_
    refine wa_lreturn rfl rfl ?_
    exact ⟨_, rfl, rfl, trivial⟩
  · refine wa_iload_n (i := 1) rfl rfl ?_
    refine wa_iconst (v := 4) (by decide) ?_
    refine wa_icmp_ge o_X0_toldValue_18 (by decide) (fun h2 => ?_) (fun h2 => ?_)
    · refine wa_lconst (v := 0) (by decide) ?_
      refine wa_lreturn rfl rfl ?_
      exact ⟨_, rfl, rfl, trivial⟩
    · have mh2 := nle_mx h2
      refine wa_aload_n (i := 0) rfl rfl ?_
      refine wa_getr ck_0 fl_0_9 ly_41 rf_41_2 ?_
      refine wa_iload_n (i := 1) rfl rfl ?_
      refine wa_lald ly_42 (by ((try simp only [vp_in_iff, Int32.lt_iff_toInt_lt, Int32.le_iff_toInt_le, ← Int32.toInt_inj, Int32.reduceToInt, n_1, n_2, n_8, Int32.toNatClampNeg, Int64.lt_iff_toInt_lt, Int64.le_iff_toInt_le, ← Int64.toInt_inj, Int64.reduceToInt, Int32.toInt_toInt64, lg_cmp_ge, lg_cmp_le, lg_cmp_gt, lg_cmp_lt, lg_cmp_eq, Bool.false_eq_true, Bool.true_eq_false, reduceCtorEq, false_iff, true_iff, iff_true, iff_false, and_true, true_and, and_false, false_and, reduceIte, ite_true, ite_false, eq_self] at *)) <;> omega) ?_
      refine wa_goto o_X0_toldValue_19 (by decide) ?_
      refine wa_lreturn rfl rfl ?_
      exact ⟨_, rfl, rfl, trivial⟩
set_option maxHeartbeats 4000000 in
theorem sp_X6_accepts (G : kG9) {d : Nat} (hd : 0 ≤ d) (σ : St) (a0 : Int32) (a1 : Int32) (a2 : Int32) (a3 : Int32) : Ct G M_X6_accepts d [.ref 31, .int a0, .int a1, .int a2, .int a3] σ (fun r σ' => ∃ x : Bool, r = some (.int (bI x)) ∧ σ = σ' ∧ True) := by
  refine wa_start (by decide) rfl (Nat.le_of_ble_eq_true rfl) (lv := [(0, .ref 31), (1, .int a0), (2, .int a1), (3, .int a2), (4, .int a3)]) rfl o_X6_accepts_0 rfl ?_
  have ua0 := Int32.toInt_lt a0
  have wa0 := Int32.le_toInt a0
  have ua1 := Int32.toInt_lt a1
  have wa1 := Int32.le_toInt a1
  have ua2 := Int32.toInt_lt a2
  have wa2 := Int32.le_toInt a2
  have ua3 := Int32.toInt_lt a3
  have wa3 := Int32.le_toInt a3
  refine wa_iload_n (i := 1) rfl rfl ?_
  refine wa_if_lt o_X6_accepts_25 (by decide) (fun h1 => ?_) (fun h1 => ?_)
  · refine wa_iconst (v := 0) (by decide) ?_
    refine wa_istoreD (lv' := [(5, .int (bI false)), (0, .ref 31), (1, .int a0), (2, .int a1), (3, .int a2), (4, .int a3)]) (by decide) rfl ?_
    refine wa_iload rfl ?_
    refine wa_if_eq o_X6_accepts_47 (by decide) (fun h2 => ?_) (fun h2 => ?_)
    · replace h2 := bI_f (b := false) (rfl) h2
      refine wa_iconst (v := 0) (by decide) ?_
      refine wa_istoreD (lv' := [(6, .int 0), (5, .int (bI false)), (0, .ref 31), (1, .int a0), (2, .int a1), (3, .int a2), (4, .int a3)]) (by decide) rfl ?_
      refine wa_iload rfl ?_
      refine wa_if_eq o_X6_accepts_75 (by decide) (fun h3 => ?_) (fun h3 => ?_)
      · replace h3 := bI_f (b := false) (rfl) h3
        refine wa_iconst (v := 0) (by decide) ?_
        refine wa_zreturn false (rfl) rfl rfl ?_
        exact ⟨_, rfl, rfl, trivial⟩
      · replace h3 := bI_t (b := false) (rfl) h3
        refine wa_iload rfl ?_
        refine wa_iload_n (i := 3) rfl rfl ?_
        refine wa_iand ?_
        refine wa_top (fun v4 hv4 => ?_)
        have tv4 := i_andT hv4
        clear hv4
        refine wa_iload_n (i := 3) rfl rfl ?_
        refine wa_icmp_ne o_X6_accepts_75 (by decide) (fun h5 => ?_) (fun h5 => ?_)
        · refine wa_iconst (v := 0) (by decide) ?_
          refine wa_zreturn false (rfl) rfl rfl ?_
          exact ⟨_, rfl, rfl, trivial⟩
        · refine wa_iload rfl ?_
          refine wa_iload rfl ?_
          refine wa_iand ?_
          refine wa_top (fun v6 hv6 => ?_)
          have tv6 := i_andT hv6
          clear hv6
          refine wa_if_ne o_X6_accepts_75 (by decide) (fun h7 => ?_) (fun h7 => ?_)
          · refine wa_iconst (v := 0) (by decide) ?_
            refine wa_zreturn false (rfl) rfl rfl ?_
            exact ⟨_, rfl, rfl, trivial⟩
          · refine wa_iconst (v := 1) (by decide) ?_
            refine wa_goto o_X6_accepts_76 (by decide) ?_
            refine wa_zreturn true (rfl) rfl rfl ?_
            exact ⟨_, rfl, rfl, trivial⟩
    · replace h2 := bI_t (b := false) (rfl) h2
      refine wa_aload_n (i := 0) rfl rfl ?_
      refine wa_getr ck_6 fl_6_38 ly_31 rf_31_8 ?_
      refine wa_iload_n (i := 1) rfl rfl ?_
      refine wa_bipush (v := 16) (by decide) ?_
      refine wa_imul ?_
      refine wa_top (fun v8 hv8 => ?_)
      have tv8 := i_mulT hv8
      clear hv8
      refine wa_iload_n (i := 2) rfl rfl ?_
      refine wa_iadd ?_
      refine wa_top (fun v9 hv9 => ?_)
      have tv9 := i_addT hv9
      clear hv9
      refine wa_iald ly_39 (by ((try simp only [vp_in_iff, Int32.lt_iff_toInt_lt, Int32.le_iff_toInt_le, ← Int32.toInt_inj, Int32.reduceToInt, n_1, n_2, n_8, Int32.toNatClampNeg, Int64.lt_iff_toInt_lt, Int64.le_iff_toInt_le, ← Int64.toInt_inj, Int64.reduceToInt, Int32.toInt_toInt64, lg_cmp_ge, lg_cmp_le, lg_cmp_gt, lg_cmp_lt, lg_cmp_eq, Bool.false_eq_true, Bool.true_eq_false, reduceCtorEq, false_iff, true_iff, iff_true, iff_false, and_true, true_and, and_false, false_and, reduceIte, ite_true, ite_false, eq_self] at *)) <;> omega) ?_
      refine wa_goto o_X6_accepts_48 (by decide) ?_
      refine wa_istoreD (lv' := [(6, .int (gi σ 39 (v9).toNatClampNeg)), (5, .int (bI false)), (0, .ref 31), (1, .int a0), (2, .int a1), (3, .int a2), (4, .int a3)]) (by decide) rfl ?_
      refine wa_iload rfl ?_
      refine wa_if_eq o_X6_accepts_75 (by decide) (fun h10 => ?_) (fun h10 => ?_)
      · replace h10 := bI_f (b := false) (rfl) h10
        refine wa_iconst (v := 0) (by decide) ?_
        refine wa_zreturn false (rfl) rfl rfl ?_
        exact ⟨_, rfl, rfl, trivial⟩
      · replace h10 := bI_t (b := false) (rfl) h10
        refine wa_iload rfl ?_
        refine wa_iload_n (i := 3) rfl rfl ?_
        refine wa_iand ?_
        refine wa_top (fun v11 hv11 => ?_)
        have tv11 := i_andT hv11
        clear hv11
        refine wa_iload_n (i := 3) rfl rfl ?_
        refine wa_icmp_ne o_X6_accepts_75 (by decide) (fun h12 => ?_) (fun h12 => ?_)
        · refine wa_iconst (v := 0) (by decide) ?_
          refine wa_zreturn false (rfl) rfl rfl ?_
          exact ⟨_, rfl, rfl, trivial⟩
        · refine wa_iload rfl ?_
          refine wa_iload rfl ?_
          refine wa_iand ?_
          refine wa_top (fun v13 hv13 => ?_)
          have tv13 := i_andT hv13
          clear hv13
          refine wa_if_ne o_X6_accepts_75 (by decide) (fun h14 => ?_) (fun h14 => ?_)
          · refine wa_iconst (v := 0) (by decide) ?_
            refine wa_zreturn false (rfl) rfl rfl ?_
            exact ⟨_, rfl, rfl, trivial⟩
          · refine wa_iconst (v := 1) (by decide) ?_
            refine wa_goto o_X6_accepts_76 (by decide) ?_
            refine wa_zreturn true (rfl) rfl rfl ?_
            exact ⟨_, rfl, rfl, trivial⟩
  · refine wa_iload_n (i := 1) rfl rfl ?_
    refine wa_sipush (v := 3000) (by decide) ?_
    refine wa_icmp_ge o_X6_accepts_25 (by decide) (fun h15 => ?_) (fun h15 => ?_)
    · refine wa_iconst (v := 0) (by decide) ?_
      refine wa_istoreD (lv' := [(5, .int (bI false)), (0, .ref 31), (1, .int a0), (2, .int a1), (3, .int a2), (4, .int a3)]) (by decide) rfl ?_
      refine wa_iload rfl ?_
      refine wa_if_eq o_X6_accepts_47 (by decide) (fun h16 => ?_) (fun h16 => ?_)
      · replace h16 := bI_f (b := false) (rfl) h16
        refine wa_iconst (v := 0) (by decide) ?_
        refine wa_istoreD (lv' := [(6, .int 0), (5, .int (bI false)), (0, .ref 31), (1, .int a0), (2, .int a1), (3, .int a2), (4, .int a3)]) (by decide) rfl ?_
        refine wa_iload rfl ?_
        refine wa_if_eq o_X6_accepts_75 (by decide) (fun h17 => ?_) (fun h17 => ?_)
        · replace h17 := bI_f (b := false) (rfl) h17
          refine wa_iconst (v := 0) (by decide) ?_
          refine wa_zreturn false (rfl) rfl rfl ?_
          exact ⟨_, rfl, rfl, trivial⟩
        · replace h17 := bI_t (b := false) (rfl) h17
          refine wa_iload rfl ?_
          refine wa_iload_n (i := 3) rfl rfl ?_
          refine wa_iand ?_
          refine wa_top (fun v18 hv18 => ?_)
          have tv18 := i_andT hv18
          clear hv18
          refine wa_iload_n (i := 3) rfl rfl ?_
          refine wa_icmp_ne o_X6_accepts_75 (by decide) (fun h19 => ?_) (fun h19 => ?_)
          · refine wa_iconst (v := 0) (by decide) ?_
            refine wa_zreturn false (rfl) rfl rfl ?_
            exact ⟨_, rfl, rfl, trivial⟩
          · refine wa_iload rfl ?_
            refine wa_iload rfl ?_
            refine wa_iand ?_
            refine wa_top (fun v20 hv20 => ?_)
            have tv20 := i_andT hv20
            clear hv20
            refine wa_if_ne o_X6_accepts_75 (by decide) (fun h21 => ?_) (fun h21 => ?_)
            · refine wa_iconst (v := 0) (by decide) ?_
              refine wa_zreturn false (rfl) rfl rfl ?_
              exact ⟨_, rfl, rfl, trivial⟩
            · refine wa_iconst (v := 1) (by decide) ?_
              refine wa_goto o_X6_accepts_76 (by decide) ?_
              refine wa_zreturn true (rfl) rfl rfl ?_
              exact ⟨_, rfl, rfl, trivial⟩
      · replace h16 := bI_t (b := false) (rfl) h16
        refine wa_aload_n (i := 0) rfl rfl ?_
        refine wa_getr ck_6 fl_6_38 ly_31 rf_31_8 ?_
        refine wa_iload_n (i := 1) rfl rfl ?_
        refine wa_bipush (v := 16) (by decide) ?_
        refine wa_imul ?_
        refine wa_top (fun v22 hv22 => ?_)
        have tv22 := i_mulT hv22
        clear hv22
        refine wa_iload_n (i := 2) rfl rfl ?_
        refine wa_iadd ?_
        refine wa_top (fun v23 hv23 => ?_)
        have tv23 := i_addT hv23
        clear hv23
        refine wa_iald ly_39 (by ((try simp only [vp_in_iff, Int32.lt_iff_toInt_lt, Int32.le_iff_toInt_le, ← Int32.toInt_inj, Int32.reduceToInt, n_1, n_2, n_8, Int32.toNatClampNeg, Int64.lt_iff_toInt_lt, Int64.le_iff_toInt_le, ← Int64.toInt_inj, Int64.reduceToInt, Int32.toInt_toInt64, lg_cmp_ge, lg_cmp_le, lg_cmp_gt, lg_cmp_lt, lg_cmp_eq, Bool.false_eq_true, Bool.true_eq_false, reduceCtorEq, false_iff, true_iff, iff_true, iff_false, and_true, true_and, and_false, false_and, reduceIte, ite_true, ite_false, eq_self] at *)) <;> omega) ?_
        refine wa_goto o_X6_accepts_48 (by decide) ?_
        refine wa_istoreD (lv' := [(6, .int (gi σ 39 (v23).toNatClampNeg)), (5, .int (bI false)), (0, .ref 31), (1, .int a0), (2, .int a1), (3, .int a2), (4, .int a3)]) (by decide) rfl ?_
        refine wa_iload rfl ?_
        refine wa_if_eq o_X6_accepts_75 (by decide) (fun h24 => ?_) (fun h24 => ?_)
        · replace h24 := bI_f (b := false) (rfl) h24
          refine wa_iconst (v := 0) (by decide) ?_
          refine wa_zreturn false (rfl) rfl rfl ?_
          exact ⟨_, rfl, rfl, trivial⟩
        · replace h24 := bI_t (b := false) (rfl) h24
          refine wa_iload rfl ?_
          refine wa_iload_n (i := 3) rfl rfl ?_
          refine wa_iand ?_
          refine wa_top (fun v25 hv25 => ?_)
          have tv25 := i_andT hv25
          clear hv25
          refine wa_iload_n (i := 3) rfl rfl ?_
          refine wa_icmp_ne o_X6_accepts_75 (by decide) (fun h26 => ?_) (fun h26 => ?_)
          · refine wa_iconst (v := 0) (by decide) ?_
            refine wa_zreturn false (rfl) rfl rfl ?_
            exact ⟨_, rfl, rfl, trivial⟩
          · refine wa_iload rfl ?_
            refine wa_iload rfl ?_
            refine wa_iand ?_
            refine wa_top (fun v27 hv27 => ?_)
            have tv27 := i_andT hv27
            clear hv27
            refine wa_if_ne o_X6_accepts_75 (by decide) (fun h28 => ?_) (fun h28 => ?_)
            · refine wa_iconst (v := 0) (by decide) ?_
              refine wa_zreturn false (rfl) rfl rfl ?_
              exact ⟨_, rfl, rfl, trivial⟩
            · refine wa_iconst (v := 1) (by decide) ?_
              refine wa_goto o_X6_accepts_76 (by decide) ?_
              refine wa_zreturn true (rfl) rfl rfl ?_
              exact ⟨_, rfl, rfl, trivial⟩
    · have mh15 := nle_mx h15
      refine wa_iload_n (i := 2) rfl rfl ?_
      refine wa_if_lt o_X6_accepts_25 (by decide) (fun h29 => ?_) (fun h29 => ?_)
      · refine wa_iconst (v := 0) (by decide) ?_
        refine wa_istoreD (lv' := [(5, .int (bI false)), (0, .ref 31), (1, .int a0), (2, .int a1), (3, .int a2), (4, .int a3)]) (by decide) rfl ?_
        refine wa_iload rfl ?_
        refine wa_if_eq o_X6_accepts_47 (by decide) (fun h30 => ?_) (fun h30 => ?_)
        · replace h30 := bI_f (b := false) (rfl) h30
          refine wa_iconst (v := 0) (by decide) ?_
          refine wa_istoreD (lv' := [(6, .int 0), (5, .int (bI false)), (0, .ref 31), (1, .int a0), (2, .int a1), (3, .int a2), (4, .int a3)]) (by decide) rfl ?_
          refine wa_iload rfl ?_
          refine wa_if_eq o_X6_accepts_75 (by decide) (fun h31 => ?_) (fun h31 => ?_)
          · replace h31 := bI_f (b := false) (rfl) h31
            refine wa_iconst (v := 0) (by decide) ?_
            refine wa_zreturn false (rfl) rfl rfl ?_
            exact ⟨_, rfl, rfl, trivial⟩
          · replace h31 := bI_t (b := false) (rfl) h31
            refine wa_iload rfl ?_
            refine wa_iload_n (i := 3) rfl rfl ?_
            refine wa_iand ?_
            refine wa_top (fun v32 hv32 => ?_)
            have tv32 := i_andT hv32
            clear hv32
            refine wa_iload_n (i := 3) rfl rfl ?_
            refine wa_icmp_ne o_X6_accepts_75 (by decide) (fun h33 => ?_) (fun h33 => ?_)
            · refine wa_iconst (v := 0) (by decide) ?_
              refine wa_zreturn false (rfl) rfl rfl ?_
              exact ⟨_, rfl, rfl, trivial⟩
            · refine wa_iload rfl ?_
              refine wa_iload rfl ?_
              refine wa_iand ?_
              refine wa_top (fun v34 hv34 => ?_)
              have tv34 := i_andT hv34
              clear hv34
              refine wa_if_ne o_X6_accepts_75 (by decide) (fun h35 => ?_) (fun h35 => ?_)
              · refine wa_iconst (v := 0) (by decide) ?_
                refine wa_zreturn false (rfl) rfl rfl ?_
                exact ⟨_, rfl, rfl, trivial⟩
              · refine wa_iconst (v := 1) (by decide) ?_
                refine wa_goto o_X6_accepts_76 (by decide) ?_
                refine wa_zreturn true (rfl) rfl rfl ?_
                exact ⟨_, rfl, rfl, trivial⟩
        · replace h30 := bI_t (b := false) (rfl) h30
          refine wa_aload_n (i := 0) rfl rfl ?_
          refine wa_getr ck_6 fl_6_38 ly_31 rf_31_8 ?_
          refine wa_iload_n (i := 1) rfl rfl ?_
          refine wa_bipush (v := 16) (by decide) ?_
          refine wa_imul ?_
          refine wa_top (fun v36 hv36 => ?_)
          have tv36 := i_mulT hv36
          clear hv36
          refine wa_iload_n (i := 2) rfl rfl ?_
          refine wa_iadd ?_
          refine wa_top (fun v37 hv37 => ?_)
          have tv37 := i_addT hv37
          clear hv37
          refine wa_iald ly_39 (by ((try simp only [vp_in_iff, Int32.lt_iff_toInt_lt, Int32.le_iff_toInt_le, ← Int32.toInt_inj, Int32.reduceToInt, n_1, n_2, n_8, Int32.toNatClampNeg, Int64.lt_iff_toInt_lt, Int64.le_iff_toInt_le, ← Int64.toInt_inj, Int64.reduceToInt, Int32.toInt_toInt64, lg_cmp_ge, lg_cmp_le, lg_cmp_gt, lg_cmp_lt, lg_cmp_eq, Bool.false_eq_true, Bool.true_eq_false, reduceCtorEq, false_iff, true_iff, iff_true, iff_false, and_true, true_and, and_false, false_and, reduceIte, ite_true, ite_false, eq_self] at *)) <;> omega) ?_
          refine wa_goto o_X6_accepts_48 (by decide) ?_
          refine wa_istoreD (lv' := [(6, .int (gi σ 39 (v37).toNatClampNeg)), (5, .int (bI false)), (0, .ref 31), (1, .int a0), (2, .int a1), (3, .int a2), (4, .int a3)]) (by decide) rfl ?_
          refine wa_iload rfl ?_
          refine wa_if_eq o_X6_accepts_75 (by decide) (fun h38 => ?_) (fun h38 => ?_)
          · replace h38 := bI_f (b := false) (rfl) h38
            refine wa_iconst (v := 0) (by decide) ?_
            refine wa_zreturn false (rfl) rfl rfl ?_
            exact ⟨_, rfl, rfl, trivial⟩
          · replace h38 := bI_t (b := false) (rfl) h38
            refine wa_iload rfl ?_
            refine wa_iload_n (i := 3) rfl rfl ?_
            refine wa_iand ?_
            refine wa_top (fun v39 hv39 => ?_)
            have tv39 := i_andT hv39
            clear hv39
            refine wa_iload_n (i := 3) rfl rfl ?_
            refine wa_icmp_ne o_X6_accepts_75 (by decide) (fun h40 => ?_) (fun h40 => ?_)
            · refine wa_iconst (v := 0) (by decide) ?_
              refine wa_zreturn false (rfl) rfl rfl ?_
              exact ⟨_, rfl, rfl, trivial⟩
            · refine wa_iload rfl ?_
              refine wa_iload rfl ?_
              refine wa_iand ?_
              refine wa_top (fun v41 hv41 => ?_)
              have tv41 := i_andT hv41
              clear hv41
              refine wa_if_ne o_X6_accepts_75 (by decide) (fun h42 => ?_) (fun h42 => ?_)
              · refine wa_iconst (v := 0) (by decide) ?_
                refine wa_zreturn false (rfl) rfl rfl ?_
                exact ⟨_, rfl, rfl, trivial⟩
              · refine wa_iconst (v := 1) (by decide) ?_
                refine wa_goto o_X6_accepts_76 (by decide) ?_
                refine wa_zreturn true (rfl) rfl rfl ?_
                exact ⟨_, rfl, rfl, trivial⟩
      · refine wa_iload_n (i := 2) rfl rfl ?_
        refine wa_bipush (v := 16) (by decide) ?_
        refine wa_icmp_ge o_X6_accepts_25 (by decide) (fun h43 => ?_) (fun h43 => ?_)
        · refine wa_iconst (v := 0) (by decide) ?_
          refine wa_istoreD (lv' := [(5, .int (bI false)), (0, .ref 31), (1, .int a0), (2, .int a1), (3, .int a2), (4, .int a3)]) (by decide) rfl ?_
          refine wa_iload rfl ?_
          refine wa_if_eq o_X6_accepts_47 (by decide) (fun h44 => ?_) (fun h44 => ?_)
          · replace h44 := bI_f (b := false) (rfl) h44
            refine wa_iconst (v := 0) (by decide) ?_
            refine wa_istoreD (lv' := [(6, .int 0), (5, .int (bI false)), (0, .ref 31), (1, .int a0), (2, .int a1), (3, .int a2), (4, .int a3)]) (by decide) rfl ?_
            refine wa_iload rfl ?_
            refine wa_if_eq o_X6_accepts_75 (by decide) (fun h45 => ?_) (fun h45 => ?_)
            · replace h45 := bI_f (b := false) (rfl) h45
              refine wa_iconst (v := 0) (by decide) ?_
              refine wa_zreturn false (rfl) rfl rfl ?_
              exact ⟨_, rfl, rfl, trivial⟩
            · replace h45 := bI_t (b := false) (rfl) h45
              refine wa_iload rfl ?_
              refine wa_iload_n (i := 3) rfl rfl ?_
              refine wa_iand ?_
              refine wa_top (fun v46 hv46 => ?_)
              have tv46 := i_andT hv46
              clear hv46
              refine wa_iload_n (i := 3) rfl rfl ?_
              refine wa_icmp_ne o_X6_accepts_75 (by decide) (fun h47 => ?_) (fun h47 => ?_)
              · refine wa_iconst (v := 0) (by decide) ?_
                refine wa_zreturn false (rfl) rfl rfl ?_
                exact ⟨_, rfl, rfl, trivial⟩
              · refine wa_iload rfl ?_
                refine wa_iload rfl ?_
                refine wa_iand ?_
                refine wa_top (fun v48 hv48 => ?_)
                have tv48 := i_andT hv48
                clear hv48
                refine wa_if_ne o_X6_accepts_75 (by decide) (fun h49 => ?_) (fun h49 => ?_)
                · refine wa_iconst (v := 0) (by decide) ?_
                  refine wa_zreturn false (rfl) rfl rfl ?_
                  exact ⟨_, rfl, rfl, trivial⟩
                · refine wa_iconst (v := 1) (by decide) ?_
                  refine wa_goto o_X6_accepts_76 (by decide) ?_
                  refine wa_zreturn true (rfl) rfl rfl ?_
                  exact ⟨_, rfl, rfl, trivial⟩
          · replace h44 := bI_t (b := false) (rfl) h44
            refine wa_aload_n (i := 0) rfl rfl ?_
            refine wa_getr ck_6 fl_6_38 ly_31 rf_31_8 ?_
            refine wa_iload_n (i := 1) rfl rfl ?_
            refine wa_bipush (v := 16) (by decide) ?_
            refine wa_imul ?_
            refine wa_top (fun v50 hv50 => ?_)
            have tv50 := i_mulT hv50
            clear hv50
            refine wa_iload_n (i := 2) rfl rfl ?_
            refine wa_iadd ?_
            refine wa_top (fun v51 hv51 => ?_)
            have tv51 := i_addT hv51
            clear hv51
            refine wa_iald ly_39 (by ((try simp only [vp_in_iff, Int32.lt_iff_toInt_lt, Int32.le_iff_toInt_le, ← Int32.toInt_inj, Int32.reduceToInt, n_1, n_2, n_8, Int32.toNatClampNeg, Int64.lt_iff_toInt_lt, Int64.le_iff_toInt_le, ← Int64.toInt_inj, Int64.reduceToInt, Int32.toInt_toInt64, lg_cmp_ge, lg_cmp_le, lg_cmp_gt, lg_cmp_lt, lg_cmp_eq, Bool.false_eq_true, Bool.true_eq_false, reduceCtorEq, false_iff, true_iff, iff_true, iff_false, and_true, true_and, and_false, false_and, reduceIte, ite_true, ite_false, eq_self] at *)) <;> omega) ?_
            refine wa_goto o_X6_accepts_48 (by decide) ?_
            refine wa_istoreD (lv' := [(6, .int (gi σ 39 (v51).toNatClampNeg)), (5, .int (bI false)), (0, .ref 31), (1, .int a0), (2, .int a1), (3, .int a2), (4, .int a3)]) (by decide) rfl ?_
            refine wa_iload rfl ?_
            refine wa_if_eq o_X6_accepts_75 (by decide) (fun h52 => ?_) (fun h52 => ?_)
            · replace h52 := bI_f (b := false) (rfl) h52
              refine wa_iconst (v := 0) (by decide) ?_
              refine wa_zreturn false (rfl) rfl rfl ?_
              exact ⟨_, rfl, rfl, trivial⟩
            · replace h52 := bI_t (b := false) (rfl) h52
              refine wa_iload rfl ?_
              refine wa_iload_n (i := 3) rfl rfl ?_
              refine wa_iand ?_
              refine wa_top (fun v53 hv53 => ?_)
              have tv53 := i_andT hv53
              clear hv53
              refine wa_iload_n (i := 3) rfl rfl ?_
              refine wa_icmp_ne o_X6_accepts_75 (by decide) (fun h54 => ?_) (fun h54 => ?_)
              · refine wa_iconst (v := 0) (by decide) ?_
                refine wa_zreturn false (rfl) rfl rfl ?_
                exact ⟨_, rfl, rfl, trivial⟩
              · refine wa_iload rfl ?_
                refine wa_iload rfl ?_
                refine wa_iand ?_
                refine wa_top (fun v55 hv55 => ?_)
                have tv55 := i_andT hv55
                clear hv55
                refine wa_if_ne o_X6_accepts_75 (by decide) (fun h56 => ?_) (fun h56 => ?_)
                · refine wa_iconst (v := 0) (by decide) ?_
                  refine wa_zreturn false (rfl) rfl rfl ?_
                  exact ⟨_, rfl, rfl, trivial⟩
                · refine wa_iconst (v := 1) (by decide) ?_
                  refine wa_goto o_X6_accepts_76 (by decide) ?_
                  refine wa_zreturn true (rfl) rfl rfl ?_
                  exact ⟨_, rfl, rfl, trivial⟩
        · have mh43 := nle_mx h43
          refine wa_iconst (v := 1) (by decide) ?_
          refine wa_goto o_X6_accepts_26 (by decide) ?_
          refine wa_istoreD (lv' := [(5, .int (bI true)), (0, .ref 31), (1, .int a0), (2, .int a1), (3, .int a2), (4, .int a3)]) (by decide) rfl ?_
          refine wa_iload rfl ?_
          refine wa_if_eq o_X6_accepts_47 (by decide) (fun h57 => ?_) (fun h57 => ?_)
          · replace h57 := bI_f (b := true) (rfl) h57
            refine wa_iconst (v := 0) (by decide) ?_
            refine wa_istoreD (lv' := [(6, .int 0), (5, .int (bI true)), (0, .ref 31), (1, .int a0), (2, .int a1), (3, .int a2), (4, .int a3)]) (by decide) rfl ?_
            refine wa_iload rfl ?_
            refine wa_if_eq o_X6_accepts_75 (by decide) (fun h58 => ?_) (fun h58 => ?_)
            · replace h58 := bI_f (b := true) (rfl) h58
              refine wa_iconst (v := 0) (by decide) ?_
              refine wa_zreturn false (rfl) rfl rfl ?_
              exact ⟨_, rfl, rfl, trivial⟩
            · replace h58 := bI_t (b := true) (rfl) h58
              refine wa_iload rfl ?_
              refine wa_iload_n (i := 3) rfl rfl ?_
              refine wa_iand ?_
              refine wa_top (fun v59 hv59 => ?_)
              have tv59 := i_andT hv59
              clear hv59
              refine wa_iload_n (i := 3) rfl rfl ?_
              refine wa_icmp_ne o_X6_accepts_75 (by decide) (fun h60 => ?_) (fun h60 => ?_)
              · refine wa_iconst (v := 0) (by decide) ?_
                refine wa_zreturn false (rfl) rfl rfl ?_
                exact ⟨_, rfl, rfl, trivial⟩
              · refine wa_iload rfl ?_
                refine wa_iload rfl ?_
                refine wa_iand ?_
                refine wa_top (fun v61 hv61 => ?_)
                have tv61 := i_andT hv61
                clear hv61
                refine wa_if_ne o_X6_accepts_75 (by decide) (fun h62 => ?_) (fun h62 => ?_)
                · refine wa_iconst (v := 0) (by decide) ?_
                  refine wa_zreturn false (rfl) rfl rfl ?_
                  exact ⟨_, rfl, rfl, trivial⟩
                · refine wa_iconst (v := 1) (by decide) ?_
                  refine wa_goto o_X6_accepts_76 (by decide) ?_
                  refine wa_zreturn true (rfl) rfl rfl ?_
                  exact ⟨_, rfl, rfl, trivial⟩
          · replace h57 := bI_t (b := true) (rfl) h57
            refine wa_aload_n (i := 0) rfl rfl ?_
            refine wa_getr ck_6 fl_6_38 ly_31 rf_31_8 ?_
            refine wa_iload_n (i := 1) rfl rfl ?_
            refine wa_bipush (v := 16) (by decide) ?_
            refine wa_imul ?_
            refine wa_top (fun v63 hv63 => ?_)
            have tv63 := i_mulT hv63
            clear hv63
            refine wa_iload_n (i := 2) rfl rfl ?_
            refine wa_iadd ?_
            refine wa_top (fun v64 hv64 => ?_)
            have tv64 := i_addT hv64
            clear hv64
            refine wa_iald ly_39 (by ((try simp only [vp_in_iff, Int32.lt_iff_toInt_lt, Int32.le_iff_toInt_le, ← Int32.toInt_inj, Int32.reduceToInt, n_1, n_2, n_8, Int32.toNatClampNeg, Int64.lt_iff_toInt_lt, Int64.le_iff_toInt_le, ← Int64.toInt_inj, Int64.reduceToInt, Int32.toInt_toInt64, lg_cmp_ge, lg_cmp_le, lg_cmp_gt, lg_cmp_lt, lg_cmp_eq, Bool.false_eq_true, Bool.true_eq_false, reduceCtorEq, false_iff, true_iff, iff_true, iff_false, and_true, true_and, and_false, false_and, reduceIte, ite_true, ite_false, eq_self] at *)) <;> omega) ?_
            refine wa_goto o_X6_accepts_48 (by decide) ?_
            refine wa_istoreD (lv' := [(6, .int (gi σ 39 (v64).toNatClampNeg)), (5, .int (bI true)), (0, .ref 31), (1, .int a0), (2, .int a1), (3, .int a2), (4, .int a3)]) (by decide) rfl ?_
            refine wa_iload rfl ?_
            refine wa_if_eq o_X6_accepts_75 (by decide) (fun h65 => ?_) (fun h65 => ?_)
            · replace h65 := bI_f (b := true) (rfl) h65
              refine wa_iconst (v := 0) (by decide) ?_
              refine wa_zreturn false (rfl) rfl rfl ?_
              exact ⟨_, rfl, rfl, trivial⟩
            · replace h65 := bI_t (b := true) (rfl) h65
              refine wa_iload rfl ?_
              refine wa_iload_n (i := 3) rfl rfl ?_
              refine wa_iand ?_
              refine wa_top (fun v66 hv66 => ?_)
              have tv66 := i_andT hv66
              clear hv66
              refine wa_iload_n (i := 3) rfl rfl ?_
              refine wa_icmp_ne o_X6_accepts_75 (by decide) (fun h67 => ?_) (fun h67 => ?_)
              · refine wa_iconst (v := 0) (by decide) ?_
                refine wa_zreturn false (rfl) rfl rfl ?_
                exact ⟨_, rfl, rfl, trivial⟩
              · refine wa_iload rfl ?_
                refine wa_iload rfl ?_
                refine wa_iand ?_
                refine wa_top (fun v68 hv68 => ?_)
                have tv68 := i_andT hv68
                clear hv68
                refine wa_if_ne o_X6_accepts_75 (by decide) (fun h69 => ?_) (fun h69 => ?_)
                · refine wa_iconst (v := 0) (by decide) ?_
                  refine wa_zreturn false (rfl) rfl rfl ?_
                  exact ⟨_, rfl, rfl, trivial⟩
                · refine wa_iconst (v := 1) (by decide) ?_
                  refine wa_goto o_X6_accepts_76 (by decide) ?_
                  refine wa_zreturn true (rfl) rfl rfl ?_
                  exact ⟨_, rfl, rfl, trivial⟩
set_option maxHeartbeats 4000000 in
theorem sp_X6_acceptedBy (G : kG9) {d : Nat} (hd : 1 ≤ d) (σ : St) (a0 : Int32) (a1 : Int32) (a2 : Int32) : Ct G M_X6_acceptedBy d [.ref 31, .int a0, .int a1, .int a2] σ (fun r σ' => ∃ x : Int32, r = some (.int x) ∧ σ = σ' ∧ True) := by
  refine wa_start (by decide) rfl (Nat.le_of_ble_eq_true rfl) (lv := [(0, .ref 31), (1, .int a0), (2, .int a1), (3, .int a2)]) rfl o_X6_acceptedBy_0 rfl ?_
  have ua0 := Int32.toInt_lt a0
  have wa0 := Int32.le_toInt a0
  have ua1 := Int32.toInt_lt a1
  have wa1 := Int32.le_toInt a1
  have ua2 := Int32.toInt_lt a2
  have wa2 := Int32.le_toInt a2
  refine wa_iconst (v := 0) (by decide) ?_
  refine wa_istoreD (lv' := [(4, .int 0), (0, .ref 31), (1, .int a0), (2, .int a1), (3, .int a2)]) (by decide) rfl ?_
  refine wa_iconst (v := 0) (by decide) ?_
  refine wa_istoreD (lv' := [(5, .int 0), (4, .int 0), (0, .ref 31), (1, .int a0), (2, .int a1), (3, .int a2)]) (by decide) rfl ?_
  refine wa_pick [2, 3, 4, 5, 1, 0] rfl ?_
  have hi2 : ∀ (n9_6 : Nat) (l4 : Int32) (l5 : Int32), ((0 ≤ l5.toInt) ∧ (True)) → (2147483647 - l5.toInt).toNat = n9_6 → WA G M_X6_acceptedBy (ZM G M_X6_acceptedBy d (fun r σ' => ∃ x : Int32, r = some (.int x) ∧ σ = σ' ∧ True)) B_X6_acceptedBy_6 [(0, .ref 31), (1, .int a0), (2, .int a1), (3, .int a2), (4, .int l4), (5, .int l5)] [] σ := by
    intro n9_6
    induction n9_6 using Nat.strongRecOn with
    | _ n9_6 ih1 =>
      intro l4 l5  i9 m9_6
      obtain ⟨jhi2_0, -⟩ := i9
      have ul4 := Int32.toInt_lt l4
      have wl4 := Int32.le_toInt l4
      have ul5 := Int32.toInt_lt l5
      have wl5 := Int32.le_toInt l5
      refine wa_iload rfl ?_
      refine wa_aload_n (i := 0) rfl rfl ?_
      refine wa_geti ck_6 fl_6_56 ly_31 ?_
      refine wa_icmp_ge o_X6_acceptedBy_46 (by decide) (fun h3 => ?_) (fun h3 => ?_)
      · refine wa_iload rfl ?_
        refine wa_ireturn rfl rfl ?_
        exact ⟨_, rfl, rfl, trivial⟩
      · have mh3 := nle_mx h3
        refine wa_iload rfl ?_
        refine wa_aload_n (i := 0) rfl rfl ?_
        refine wa_iload_n (i := 1) rfl rfl ?_
        refine wa_iload rfl ?_
        refine wa_iload_n (i := 2) rfl rfl ?_
        refine wa_iload_n (i := 3) rfl rfl ?_
        refine wa_Vi (d9 := d - 1) [.int _, .int _, .int _, .int _] [.int l4] (sp_X6_accepts G (d := d - 1) (by omega) σ _ _ _ _) (rfl) rfl rfl (zr (by omega)) mk_X6_accepts ly_31 ml_6_123 (Nat.le_of_ble_eq_true rfl) (fun x5 s4 hs4 => ?_)
        obtain ⟨bx5, ex5, zs4, -⟩ := pB hs4
        subst ex5
        subst zs4
        refine wa_if_eq o_X6_acceptedBy_36 (by decide) (fun h6 => ?_) (fun h6 => ?_)
        · replace h6 := bI_f (b := bx5) (rfl) h6
          refine wa_iconst (v := 0) (by decide) ?_
          refine wa_ior ?_
          refine wa_top (fun v7 hv7 => ?_)
          clear hv7
          refine wa_istoreD (lv' := [(4, .int v7), (0, .ref 31), (1, .int a0), (2, .int a1), (3, .int a2), (5, .int l5)]) (by decide) rfl ?_
          refine wa_iinc (v := (1)) (lv' := fun y8 => [(5, .int y8), (4, .int v7), (0, .ref 31), (1, .int a0), (2, .int a1), (3, .int a2)]) (by decide) rfl (by decide) (fun _ => rfl) (fun y8 hy8 => ?_)
          have ty8 := i_addT hy8.symm
          clear hy8
          refine wa_goto o_X6_acceptedBy_6 (by decide) ?_
          refine wa_pick [2, 3, 4, 5, 1, 0] rfl ?_
          exact ih1 _ (by ((try simp only [vp_in_iff, Int32.lt_iff_toInt_lt, Int32.le_iff_toInt_le, ← Int32.toInt_inj, Int32.reduceToInt, n_1, n_2, n_8, Int32.toNatClampNeg, Int64.lt_iff_toInt_lt, Int64.le_iff_toInt_le, ← Int64.toInt_inj, Int64.reduceToInt, Int32.toInt_toInt64, lg_cmp_ge, lg_cmp_le, lg_cmp_gt, lg_cmp_lt, lg_cmp_eq, Bool.false_eq_true, Bool.true_eq_false, reduceCtorEq, false_iff, true_iff, iff_true, iff_false, and_true, true_and, and_false, false_and, reduceIte, ite_true, ite_false, eq_self] at *)) <;> omega) _ _ ⟨(by ((try simp only [vp_in_iff, Int32.lt_iff_toInt_lt, Int32.le_iff_toInt_le, ← Int32.toInt_inj, Int32.reduceToInt, n_1, n_2, n_8, Int32.toNatClampNeg, Int64.lt_iff_toInt_lt, Int64.le_iff_toInt_le, ← Int64.toInt_inj, Int64.reduceToInt, Int32.toInt_toInt64, lg_cmp_ge, lg_cmp_le, lg_cmp_gt, lg_cmp_lt, lg_cmp_eq, Bool.false_eq_true, Bool.true_eq_false, reduceCtorEq, false_iff, true_iff, iff_true, iff_false, and_true, true_and, and_false, false_and, reduceIte, ite_true, ite_false, eq_self] at *)) <;> omega), trivial⟩ rfl
        · replace h6 := bI_t (b := bx5) (rfl) h6
          refine wa_iconst (v := 1) (by decide) ?_
          refine wa_iload rfl ?_
          refine wa_ishl ?_
          refine wa_top (fun v9 hv9 => ?_)
          clear hv9
          refine wa_goto o_X6_acceptedBy_37 (by decide) ?_
          refine wa_ior ?_
          refine wa_top (fun v10 hv10 => ?_)
          clear hv10
          refine wa_istoreD (lv' := [(4, .int v10), (0, .ref 31), (1, .int a0), (2, .int a1), (3, .int a2), (5, .int l5)]) (by decide) rfl ?_
          refine wa_iinc (v := (1)) (lv' := fun y11 => [(5, .int y11), (4, .int v10), (0, .ref 31), (1, .int a0), (2, .int a1), (3, .int a2)]) (by decide) rfl (by decide) (fun _ => rfl) (fun y11 hy11 => ?_)
          have ty11 := i_addT hy11.symm
          clear hy11
          refine wa_goto o_X6_acceptedBy_6 (by decide) ?_
          refine wa_pick [2, 3, 4, 5, 1, 0] rfl ?_
          exact ih1 _ (by ((try simp only [vp_in_iff, Int32.lt_iff_toInt_lt, Int32.le_iff_toInt_le, ← Int32.toInt_inj, Int32.reduceToInt, n_1, n_2, n_8, Int32.toNatClampNeg, Int64.lt_iff_toInt_lt, Int64.le_iff_toInt_le, ← Int64.toInt_inj, Int64.reduceToInt, Int32.toInt_toInt64, lg_cmp_ge, lg_cmp_le, lg_cmp_gt, lg_cmp_lt, lg_cmp_eq, Bool.false_eq_true, Bool.true_eq_false, reduceCtorEq, false_iff, true_iff, iff_true, iff_false, and_true, true_and, and_false, false_and, reduceIte, ite_true, ite_false, eq_self] at *)) <;> omega) _ _ ⟨(by ((try simp only [vp_in_iff, Int32.lt_iff_toInt_lt, Int32.le_iff_toInt_le, ← Int32.toInt_inj, Int32.reduceToInt, n_1, n_2, n_8, Int32.toNatClampNeg, Int64.lt_iff_toInt_lt, Int64.le_iff_toInt_le, ← Int64.toInt_inj, Int64.reduceToInt, Int32.toInt_toInt64, lg_cmp_ge, lg_cmp_le, lg_cmp_gt, lg_cmp_lt, lg_cmp_eq, Bool.false_eq_true, Bool.true_eq_false, reduceCtorEq, false_iff, true_iff, iff_true, iff_false, and_true, true_and, and_false, false_and, reduceIte, ite_true, ite_false, eq_self] at *)) <;> omega), trivial⟩ rfl
  exact hi2 _ _ _ ⟨(by ((try simp only [vp_in_iff, Int32.lt_iff_toInt_lt, Int32.le_iff_toInt_le, ← Int32.toInt_inj, Int32.reduceToInt, n_1, n_2, n_8, Int32.toNatClampNeg, Int64.lt_iff_toInt_lt, Int64.le_iff_toInt_le, ← Int64.toInt_inj, Int64.reduceToInt, Int32.toInt_toInt64, lg_cmp_ge, lg_cmp_le, lg_cmp_gt, lg_cmp_lt, lg_cmp_eq, Bool.false_eq_true, Bool.true_eq_false, reduceCtorEq, false_iff, true_iff, iff_true, iff_false, and_true, true_and, and_false, false_and, reduceIte, ite_true, ite_false, eq_self] at *)) <;> omega), trivial⟩ rfl
set_option maxHeartbeats 4000000 in
theorem sp_X0_findEnds (G : kG9) {d : Nat} (hd : 2 ≤ d) (σ : St) (a0 : Int32) (a1 : Int32) (r1 : 0 ≤ (gi σ 31 13).toInt ∧ (gi σ 31 13).toInt ≤ 3000) : Ct G M_X0_findEnds d [.ref 41, .int a0, .int a1] σ (fun r σ' => ∃ x : Int32, r = some (.int x) ∧ Sm 45 46 σ σ' ∧ (x.toInt ≤ 3000) ∧ (0 ≤ x.toInt) ∧ True) := by
  refine wa_start (by decide) rfl (Nat.le_of_ble_eq_true rfl) (lv := [(0, .ref 41), (1, .int a0), (2, .int a1)]) rfl o_X0_findEnds_0 rfl ?_
  have ua0 := Int32.toInt_lt a0
  have wa0 := Int32.le_toInt a0
  have ua1 := Int32.toInt_lt a1
  have wa1 := Int32.le_toInt a1
  refine wa_aload_n (i := 0) rfl rfl ?_
  refine wa_getr ck_0 fl_0_48 ly_41 rf_41_1 ?_
  refine wa_geti ck_6 fl_0_72 ly_31 ?_
  refine wa_sipush (v := 3000) (by decide) ?_
  refine wa_minI zs (allW_in (kT_6 _ (List.mem_of_getElem? (i := 170) rfl)) rfl) (Nat.le_of_ble_eq_true rfl) ?_
  refine wa_top (fun v1 hv1 => ?_)
  have tv1 := i_minI hv1
  clear hv1
  refine wa_istore_nD (lv' := [(3, .int v1), (0, .ref 41), (1, .int a0), (2, .int a1)]) (i := 3) rfl (by decide) rfl ?_
  refine wa_iconst (v := 0) (by decide) ?_
  refine wa_istoreD (lv' := [(4, .int 0), (3, .int v1), (0, .ref 41), (1, .int a0), (2, .int a1)]) (by decide) rfl ?_
  refine wa_pick [2, 3, 4, 1, 0] rfl ?_
  have hi4 : ∀ (n9_17 : Nat) (l4 : Int32) (s2 : St), ((Sm 45 46 σ s2) ∧ (gi s2 31 13 = gi σ 31 13) ∧ (0 ≤ l4.toInt) ∧ (True)) → (2147483647 - l4.toInt).toNat = n9_17 → WA G M_X0_findEnds (ZM G M_X0_findEnds d (fun r σ' => ∃ x : Int32, r = some (.int x) ∧ Sm 45 46 σ σ' ∧ (x.toInt ≤ 3000) ∧ (0 ≤ x.toInt) ∧ True)) B_X0_findEnds_17 [(0, .ref 41), (1, .int a0), (2, .int a1), (3, .int v1), (4, .int l4)] [] s2 := by
    intro n9_17
    induction n9_17 using Nat.strongRecOn with
    | _ n9_17 ih3 =>
      intro l4 s2 i9 m9_17
      obtain ⟨Fs2, khi4_0, jhi4_0, -⟩ := i9
      have ul4 := Int32.toInt_lt l4
      have wl4 := Int32.le_toInt l4
      refine wa_iload rfl ?_
      refine wa_iload_n (i := 3) rfl rfl ?_
      refine wa_icmp_ge o_X0_findEnds_47 (by decide) (fun h5 => ?_) (fun h5 => ?_)
      · refine wa_iload_n (i := 3) rfl rfl ?_
        refine wa_ireturn rfl rfl ?_
        exact ⟨_, rfl, Fs2, (by ((try simp only [vp_in_iff, Int32.lt_iff_toInt_lt, Int32.le_iff_toInt_le, ← Int32.toInt_inj, Int32.reduceToInt, n_1, n_2, n_8, Int32.toNatClampNeg, Int64.lt_iff_toInt_lt, Int64.le_iff_toInt_le, ← Int64.toInt_inj, Int64.reduceToInt, Int32.toInt_toInt64, lg_cmp_ge, lg_cmp_le, lg_cmp_gt, lg_cmp_lt, lg_cmp_eq, Bool.false_eq_true, Bool.true_eq_false, reduceCtorEq, false_iff, true_iff, iff_true, iff_false, and_true, true_and, and_false, false_and, reduceIte, ite_true, ite_false, eq_self] at *)) <;> omega), (by ((try simp only [vp_in_iff, Int32.lt_iff_toInt_lt, Int32.le_iff_toInt_le, ← Int32.toInt_inj, Int32.reduceToInt, n_1, n_2, n_8, Int32.toNatClampNeg, Int64.lt_iff_toInt_lt, Int64.le_iff_toInt_le, ← Int64.toInt_inj, Int64.reduceToInt, Int32.toInt_toInt64, lg_cmp_ge, lg_cmp_le, lg_cmp_gt, lg_cmp_lt, lg_cmp_eq, Bool.false_eq_true, Bool.true_eq_false, reduceCtorEq, false_iff, true_iff, iff_true, iff_false, and_true, true_and, and_false, false_and, reduceIte, ite_true, ite_false, eq_self] at *)) <;> omega), trivial⟩
      · have mh5 := nle_mx h5
        refine wa_aload_n (i := 0) rfl rfl ?_
        refine wa_getr ck_0 fl_0_22 ly_41 rf_41_5 ?_
        refine wa_iload rfl ?_
        refine wa_aload_n (i := 0) rfl rfl ?_
        refine wa_getr ck_0 fl_0_48 ly_41 rf_41_1 ?_
        refine wa_iload rfl ?_
        refine wa_iload_n (i := 1) rfl rfl ?_
        refine wa_iload_n (i := 2) rfl rfl ?_
        refine wa_Vi (d9 := d - 1) [.int _, .int _, .int _] [.int l4, .ref 45] (sp_X6_acceptedBy G (d := d - 1) (by omega) s2 _ _ _) (rfl) rfl rfl (zr (by omega)) mk_X6_acceptedBy ly_31 ml_0_78 (Nat.le_of_ble_eq_true rfl) (fun x7 s6 hs6 => ?_)
        obtain ⟨zs6, -⟩ := pI hs6
        subst zs6
        refine wa_iast ly_45 (by ((try simp only [vp_in_iff, Int32.lt_iff_toInt_lt, Int32.le_iff_toInt_le, ← Int32.toInt_inj, Int32.reduceToInt, n_1, n_2, n_8, Int32.toNatClampNeg, Int64.lt_iff_toInt_lt, Int64.le_iff_toInt_le, ← Int64.toInt_inj, Int64.reduceToInt, Int32.toInt_toInt64, lg_cmp_ge, lg_cmp_le, lg_cmp_gt, lg_cmp_lt, lg_cmp_eq, Bool.false_eq_true, Bool.true_eq_false, reduceCtorEq, false_iff, true_iff, iff_true, iff_false, and_true, true_and, and_false, false_and, reduceIte, ite_true, ite_false, eq_self] at *)) <;> omega) (fun s8 hs8 => ?_)
        have Fs8 : Sm 45 46 σ s8 := by rw [hs8]; exact Sm.si Fs2 _ _ (by decide) (by decide)
        refine wa_iinc (v := (1)) (lv' := fun y9 => [(4, .int y9), (0, .ref 41), (1, .int a0), (2, .int a1), (3, .int v1)]) (by decide) rfl (by decide) (fun _ => rfl) (fun y9 hy9 => ?_)
        have ty9 := i_addT hy9.symm
        clear hy9
        refine wa_goto o_X0_findEnds_17 (by decide) ?_
        refine wa_pick [1, 2, 3, 4, 0] rfl ?_
        exact ih3 _ (by ((try simp only [vp_in_iff, Int32.lt_iff_toInt_lt, Int32.le_iff_toInt_le, ← Int32.toInt_inj, Int32.reduceToInt, n_1, n_2, n_8, Int32.toNatClampNeg, Int64.lt_iff_toInt_lt, Int64.le_iff_toInt_le, ← Int64.toInt_inj, Int64.reduceToInt, Int32.toInt_toInt64, lg_cmp_ge, lg_cmp_le, lg_cmp_gt, lg_cmp_lt, lg_cmp_eq, Bool.false_eq_true, Bool.true_eq_false, reduceCtorEq, false_iff, true_iff, iff_true, iff_false, and_true, true_and, and_false, false_and, reduceIte, ite_true, ite_false, eq_self] at *)) <;> omega) _ _ ⟨Fs8, ((nxq_gi_si hs8 (by decide)).trans (khi4_0)), (by ((try simp only [vp_in_iff, Int32.lt_iff_toInt_lt, Int32.le_iff_toInt_le, ← Int32.toInt_inj, Int32.reduceToInt, n_1, n_2, n_8, Int32.toNatClampNeg, Int64.lt_iff_toInt_lt, Int64.le_iff_toInt_le, ← Int64.toInt_inj, Int64.reduceToInt, Int32.toInt_toInt64, lg_cmp_ge, lg_cmp_le, lg_cmp_gt, lg_cmp_lt, lg_cmp_eq, Bool.false_eq_true, Bool.true_eq_false, reduceCtorEq, false_iff, true_iff, iff_true, iff_false, and_true, true_and, and_false, false_and, reduceIte, ite_true, ite_false, eq_self] at *)) <;> omega), trivial⟩ rfl
  exact hi4 _ _ _ ⟨(Sm.rf 45 46 σ), (rfl), (by ((try simp only [vp_in_iff, Int32.lt_iff_toInt_lt, Int32.le_iff_toInt_le, ← Int32.toInt_inj, Int32.reduceToInt, n_1, n_2, n_8, Int32.toNatClampNeg, Int64.lt_iff_toInt_lt, Int64.le_iff_toInt_le, ← Int64.toInt_inj, Int64.reduceToInt, Int32.toInt_toInt64, lg_cmp_ge, lg_cmp_le, lg_cmp_gt, lg_cmp_lt, lg_cmp_eq, Bool.false_eq_true, Bool.true_eq_false, reduceCtorEq, false_iff, true_iff, iff_true, iff_false, and_true, true_and, and_false, false_and, reduceIte, ite_true, ite_false, eq_self] at *)) <;> omega), trivial⟩ rfl
set_option maxHeartbeats 4000000 in
theorem sp_X0_endsOf (G : kG9) {d : Nat} (hd : 0 ≤ d) (σ : St) (a0 : Int32) : Ct G M_X0_endsOf d [.ref 41, .int a0] σ (fun r σ' => ∃ x : Int32, r = some (.int x) ∧ σ = σ' ∧ True) := by
  refine wa_start (by decide) rfl (Nat.le_of_ble_eq_true rfl) (lv := [(0, .ref 41), (1, .int a0)]) rfl o_X0_endsOf_0 rfl ?_
  have ua0 := Int32.toInt_lt a0
  have wa0 := Int32.le_toInt a0
  refine wa_iload_n (i := 1) rfl rfl ?_
  refine wa_if_lt o_X0_endsOf_20 (by decide) (fun h1 => ?_) (fun h1 => ?_)
  · refine wa_iconst (v := 0) (by decide) ?_
    refine wa_ireturn rfl rfl ?_
    exact ⟨_, rfl, rfl, trivial⟩
  · refine wa_iload_n (i := 1) rfl rfl ?_
    refine wa_sipush (v := 3000) (by decide) ?_
    refine wa_icmp_ge o_X0_endsOf_20 (by decide) (fun h2 => ?_) (fun h2 => ?_)
    · refine wa_iconst (v := 0) (by decide) ?_
      refine wa_ireturn rfl rfl ?_
      exact ⟨_, rfl, rfl, trivial⟩
    · have mh2 := nle_mx h2
      refine wa_aload_n (i := 0) rfl rfl ?_
      refine wa_getr ck_0 fl_0_22 ly_41 rf_41_5 ?_
      refine wa_iload_n (i := 1) rfl rfl ?_
      refine wa_iald ly_45 (by ((try simp only [vp_in_iff, Int32.lt_iff_toInt_lt, Int32.le_iff_toInt_le, ← Int32.toInt_inj, Int32.reduceToInt, n_1, n_2, n_8, Int32.toNatClampNeg, Int64.lt_iff_toInt_lt, Int64.le_iff_toInt_le, ← Int64.toInt_inj, Int64.reduceToInt, Int32.toInt_toInt64, lg_cmp_ge, lg_cmp_le, lg_cmp_gt, lg_cmp_lt, lg_cmp_eq, Bool.false_eq_true, Bool.true_eq_false, reduceCtorEq, false_iff, true_iff, iff_true, iff_false, and_true, true_and, and_false, false_and, reduceIte, ite_true, ite_false, eq_self] at *)) <;> omega) ?_
      refine wa_goto o_X0_endsOf_21 (by decide) ?_
      refine wa_ireturn rfl rfl ?_
      exact ⟨_, rfl, rfl, trivial⟩
set_option maxHeartbeats 4000000 in
theorem sp_X6_behind (G : kG9) {d : Nat} (hd : 0 ≤ d) (σ : St) (a0 : Int32) (a1 : Int32) : Ct G M_X6_behind d [.ref 31, .int a0, .int a1] σ (fun r σ' => ∃ x : Int32, r = some (.int x) ∧ σ = σ' ∧ True) := by
  refine wa_start (by decide) rfl (Nat.le_of_ble_eq_true rfl) (lv := [(0, .ref 31), (1, .int a0), (2, .int a1)]) rfl o_X6_behind_0 rfl ?_
  have ua0 := Int32.toInt_lt a0
  have wa0 := Int32.le_toInt a0
  have ua1 := Int32.toInt_lt a1
  have wa1 := Int32.le_toInt a1
  refine wa_iload_n (i := 1) rfl rfl ?_
  refine wa_if_lt o_X6_behind_25 (by decide) (fun h1 => ?_) (fun h1 => ?_)
  · refine wa_iconst (v := 0) (by decide) ?_
    refine wa_istore_nD (lv' := [(3, .int (bI false)), (0, .ref 31), (1, .int a0), (2, .int a1)]) (i := 3) rfl (by decide) rfl ?_
    refine wa_iload_n (i := 3) rfl rfl ?_
    refine wa_if_eq o_X6_behind_45 (by decide) (fun h2 => ?_) (fun h2 => ?_)
    · replace h2 := bI_f (b := false) (rfl) h2
      refine wa_iconst (v := 0) (by decide) ?_
      refine wa_ireturn rfl rfl ?_
      exact ⟨_, rfl, rfl, trivial⟩
    · replace h2 := bI_t (b := false) (rfl) h2
      refine wa_aload_n (i := 0) rfl rfl ?_
      refine wa_getr ck_6 fl_6_35 ly_31 rf_31_7 ?_
      refine wa_iload_n (i := 1) rfl rfl ?_
      refine wa_bipush (v := 16) (by decide) ?_
      refine wa_imul ?_
      refine wa_top (fun v3 hv3 => ?_)
      have tv3 := i_mulT hv3
      clear hv3
      refine wa_iload_n (i := 2) rfl rfl ?_
      refine wa_iadd ?_
      refine wa_top (fun v4 hv4 => ?_)
      have tv4 := i_addT hv4
      clear hv4
      refine wa_iald ly_38 (by ((try simp only [vp_in_iff, Int32.lt_iff_toInt_lt, Int32.le_iff_toInt_le, ← Int32.toInt_inj, Int32.reduceToInt, n_1, n_2, n_8, Int32.toNatClampNeg, Int64.lt_iff_toInt_lt, Int64.le_iff_toInt_le, ← Int64.toInt_inj, Int64.reduceToInt, Int32.toInt_toInt64, lg_cmp_ge, lg_cmp_le, lg_cmp_gt, lg_cmp_lt, lg_cmp_eq, Bool.false_eq_true, Bool.true_eq_false, reduceCtorEq, false_iff, true_iff, iff_true, iff_false, and_true, true_and, and_false, false_and, reduceIte, ite_true, ite_false, eq_self] at *)) <;> omega) ?_
      refine wa_goto o_X6_behind_46 (by decide) ?_
      refine wa_ireturn rfl rfl ?_
      exact ⟨_, rfl, rfl, trivial⟩
  · refine wa_iload_n (i := 1) rfl rfl ?_
    refine wa_sipush (v := 3000) (by decide) ?_
    refine wa_icmp_ge o_X6_behind_25 (by decide) (fun h5 => ?_) (fun h5 => ?_)
    · refine wa_iconst (v := 0) (by decide) ?_
      refine wa_istore_nD (lv' := [(3, .int (bI false)), (0, .ref 31), (1, .int a0), (2, .int a1)]) (i := 3) rfl (by decide) rfl ?_
      refine wa_iload_n (i := 3) rfl rfl ?_
      refine wa_if_eq o_X6_behind_45 (by decide) (fun h6 => ?_) (fun h6 => ?_)
      · replace h6 := bI_f (b := false) (rfl) h6
        refine wa_iconst (v := 0) (by decide) ?_
        refine wa_ireturn rfl rfl ?_
        exact ⟨_, rfl, rfl, trivial⟩
      · replace h6 := bI_t (b := false) (rfl) h6
        refine wa_aload_n (i := 0) rfl rfl ?_
        refine wa_getr ck_6 fl_6_35 ly_31 rf_31_7 ?_
        refine wa_iload_n (i := 1) rfl rfl ?_
        refine wa_bipush (v := 16) (by decide) ?_
        refine wa_imul ?_
        refine wa_top (fun v7 hv7 => ?_)
        have tv7 := i_mulT hv7
        clear hv7
        refine wa_iload_n (i := 2) rfl rfl ?_
        refine wa_iadd ?_
        refine wa_top (fun v8 hv8 => ?_)
        have tv8 := i_addT hv8
        clear hv8
        refine wa_iald ly_38 (by ((try simp only [vp_in_iff, Int32.lt_iff_toInt_lt, Int32.le_iff_toInt_le, ← Int32.toInt_inj, Int32.reduceToInt, n_1, n_2, n_8, Int32.toNatClampNeg, Int64.lt_iff_toInt_lt, Int64.le_iff_toInt_le, ← Int64.toInt_inj, Int64.reduceToInt, Int32.toInt_toInt64, lg_cmp_ge, lg_cmp_le, lg_cmp_gt, lg_cmp_lt, lg_cmp_eq, Bool.false_eq_true, Bool.true_eq_false, reduceCtorEq, false_iff, true_iff, iff_true, iff_false, and_true, true_and, and_false, false_and, reduceIte, ite_true, ite_false, eq_self] at *)) <;> omega) ?_
        refine wa_goto o_X6_behind_46 (by decide) ?_
        refine wa_ireturn rfl rfl ?_
        exact ⟨_, rfl, rfl, trivial⟩
    · have mh5 := nle_mx h5
      refine wa_iload_n (i := 2) rfl rfl ?_
      refine wa_if_lt o_X6_behind_25 (by decide) (fun h9 => ?_) (fun h9 => ?_)
      · refine wa_iconst (v := 0) (by decide) ?_
        refine wa_istore_nD (lv' := [(3, .int (bI false)), (0, .ref 31), (1, .int a0), (2, .int a1)]) (i := 3) rfl (by decide) rfl ?_
        refine wa_iload_n (i := 3) rfl rfl ?_
        refine wa_if_eq o_X6_behind_45 (by decide) (fun h10 => ?_) (fun h10 => ?_)
        · replace h10 := bI_f (b := false) (rfl) h10
          refine wa_iconst (v := 0) (by decide) ?_
          refine wa_ireturn rfl rfl ?_
          exact ⟨_, rfl, rfl, trivial⟩
        · replace h10 := bI_t (b := false) (rfl) h10
          refine wa_aload_n (i := 0) rfl rfl ?_
          refine wa_getr ck_6 fl_6_35 ly_31 rf_31_7 ?_
          refine wa_iload_n (i := 1) rfl rfl ?_
          refine wa_bipush (v := 16) (by decide) ?_
          refine wa_imul ?_
          refine wa_top (fun v11 hv11 => ?_)
          have tv11 := i_mulT hv11
          clear hv11
          refine wa_iload_n (i := 2) rfl rfl ?_
          refine wa_iadd ?_
          refine wa_top (fun v12 hv12 => ?_)
          have tv12 := i_addT hv12
          clear hv12
          refine wa_iald ly_38 (by ((try simp only [vp_in_iff, Int32.lt_iff_toInt_lt, Int32.le_iff_toInt_le, ← Int32.toInt_inj, Int32.reduceToInt, n_1, n_2, n_8, Int32.toNatClampNeg, Int64.lt_iff_toInt_lt, Int64.le_iff_toInt_le, ← Int64.toInt_inj, Int64.reduceToInt, Int32.toInt_toInt64, lg_cmp_ge, lg_cmp_le, lg_cmp_gt, lg_cmp_lt, lg_cmp_eq, Bool.false_eq_true, Bool.true_eq_false, reduceCtorEq, false_iff, true_iff, iff_true, iff_false, and_true, true_and, and_false, false_and, reduceIte, ite_true, ite_false, eq_self] at *)) <;> omega) ?_
          refine wa_goto o_X6_behind_46 (by decide) ?_
          refine wa_ireturn rfl rfl ?_
          exact ⟨_, rfl, rfl, trivial⟩
      · refine wa_iload_n (i := 2) rfl rfl ?_
        refine wa_bipush (v := 16) (by decide) ?_
        refine wa_icmp_ge o_X6_behind_25 (by decide) (fun h13 => ?_) (fun h13 => ?_)
        · refine wa_iconst (v := 0) (by decide) ?_
          refine wa_istore_nD (lv' := [(3, .int (bI false)), (0, .ref 31), (1, .int a0), (2, .int a1)]) (i := 3) rfl (by decide) rfl ?_
          refine wa_iload_n (i := 3) rfl rfl ?_
          refine wa_if_eq o_X6_behind_45 (by decide) (fun h14 => ?_) (fun h14 => ?_)
          · replace h14 := bI_f (b := false) (rfl) h14
            refine wa_iconst (v := 0) (by decide) ?_
            refine wa_ireturn rfl rfl ?_
            exact ⟨_, rfl, rfl, trivial⟩
          · replace h14 := bI_t (b := false) (rfl) h14
            refine wa_aload_n (i := 0) rfl rfl ?_
            refine wa_getr ck_6 fl_6_35 ly_31 rf_31_7 ?_
            refine wa_iload_n (i := 1) rfl rfl ?_
            refine wa_bipush (v := 16) (by decide) ?_
            refine wa_imul ?_
            refine wa_top (fun v15 hv15 => ?_)
            have tv15 := i_mulT hv15
            clear hv15
            refine wa_iload_n (i := 2) rfl rfl ?_
            refine wa_iadd ?_
            refine wa_top (fun v16 hv16 => ?_)
            have tv16 := i_addT hv16
            clear hv16
            refine wa_iald ly_38 (by ((try simp only [vp_in_iff, Int32.lt_iff_toInt_lt, Int32.le_iff_toInt_le, ← Int32.toInt_inj, Int32.reduceToInt, n_1, n_2, n_8, Int32.toNatClampNeg, Int64.lt_iff_toInt_lt, Int64.le_iff_toInt_le, ← Int64.toInt_inj, Int64.reduceToInt, Int32.toInt_toInt64, lg_cmp_ge, lg_cmp_le, lg_cmp_gt, lg_cmp_lt, lg_cmp_eq, Bool.false_eq_true, Bool.true_eq_false, reduceCtorEq, false_iff, true_iff, iff_true, iff_false, and_true, true_and, and_false, false_and, reduceIte, ite_true, ite_false, eq_self] at *)) <;> omega) ?_
            refine wa_goto o_X6_behind_46 (by decide) ?_
            refine wa_ireturn rfl rfl ?_
            exact ⟨_, rfl, rfl, trivial⟩
        · have mh13 := nle_mx h13
          refine wa_iconst (v := 1) (by decide) ?_
          refine wa_goto o_X6_behind_26 (by decide) ?_
          refine wa_istore_nD (lv' := [(3, .int (bI true)), (0, .ref 31), (1, .int a0), (2, .int a1)]) (i := 3) rfl (by decide) rfl ?_
          refine wa_iload_n (i := 3) rfl rfl ?_
          refine wa_if_eq o_X6_behind_45 (by decide) (fun h17 => ?_) (fun h17 => ?_)
          · replace h17 := bI_f (b := true) (rfl) h17
            refine wa_iconst (v := 0) (by decide) ?_
            refine wa_ireturn rfl rfl ?_
            exact ⟨_, rfl, rfl, trivial⟩
          · replace h17 := bI_t (b := true) (rfl) h17
            refine wa_aload_n (i := 0) rfl rfl ?_
            refine wa_getr ck_6 fl_6_35 ly_31 rf_31_7 ?_
            refine wa_iload_n (i := 1) rfl rfl ?_
            refine wa_bipush (v := 16) (by decide) ?_
            refine wa_imul ?_
            refine wa_top (fun v18 hv18 => ?_)
            have tv18 := i_mulT hv18
            clear hv18
            refine wa_iload_n (i := 2) rfl rfl ?_
            refine wa_iadd ?_
            refine wa_top (fun v19 hv19 => ?_)
            have tv19 := i_addT hv19
            clear hv19
            refine wa_iald ly_38 (by ((try simp only [vp_in_iff, Int32.lt_iff_toInt_lt, Int32.le_iff_toInt_le, ← Int32.toInt_inj, Int32.reduceToInt, n_1, n_2, n_8, Int32.toNatClampNeg, Int64.lt_iff_toInt_lt, Int64.le_iff_toInt_le, ← Int64.toInt_inj, Int64.reduceToInt, Int32.toInt_toInt64, lg_cmp_ge, lg_cmp_le, lg_cmp_gt, lg_cmp_lt, lg_cmp_eq, Bool.false_eq_true, Bool.true_eq_false, reduceCtorEq, false_iff, true_iff, iff_true, iff_false, and_true, true_and, and_false, false_and, reduceIte, ite_true, ite_false, eq_self] at *)) <;> omega) ?_
            refine wa_goto o_X6_behind_46 (by decide) ?_
            refine wa_ireturn rfl rfl ?_
            exact ⟨_, rfl, rfl, trivial⟩
set_option maxHeartbeats 4000000 in
theorem sp_X0_farFrom (G : kG9) {d : Nat} (hd : 0 ≤ d) (σ : St) (a0 : Int32) : Ct G M_X0_farFrom d [.ref 41, .int a0] σ (fun r σ' => ∃ x : Int32, r = some (.int x) ∧ σ = σ' ∧ True) := by
  refine wa_start (by decide) rfl (Nat.le_of_ble_eq_true rfl) (lv := [(0, .ref 41), (1, .int a0)]) rfl o_X0_farFrom_0 rfl ?_
  have ua0 := Int32.toInt_lt a0
  have wa0 := Int32.le_toInt a0
  refine wa_iload_n (i := 1) rfl rfl ?_
  refine wa_if_lt o_X0_farFrom_20 (by decide) (fun h1 => ?_) (fun h1 => ?_)
  · refine wa_iconst (v := (-1)) (by decide) ?_
    refine wa_ireturn rfl rfl ?_
    exact ⟨_, rfl, rfl, trivial⟩
  · refine wa_iload_n (i := 1) rfl rfl ?_
    refine wa_sipush (v := 3000) (by decide) ?_
    refine wa_icmp_ge o_X0_farFrom_20 (by decide) (fun h2 => ?_) (fun h2 => ?_)
    · refine wa_iconst (v := (-1)) (by decide) ?_
      refine wa_ireturn rfl rfl ?_
      exact ⟨_, rfl, rfl, trivial⟩
    · have mh2 := nle_mx h2
      refine wa_aload_n (i := 0) rfl rfl ?_
      refine wa_getr ck_0 fl_0_18 ly_41 rf_41_4 ?_
      refine wa_iload_n (i := 1) rfl rfl ?_
      refine wa_iald ly_44 (by ((try simp only [vp_in_iff, Int32.lt_iff_toInt_lt, Int32.le_iff_toInt_le, ← Int32.toInt_inj, Int32.reduceToInt, n_1, n_2, n_8, Int32.toNatClampNeg, Int64.lt_iff_toInt_lt, Int64.le_iff_toInt_le, ← Int64.toInt_inj, Int64.reduceToInt, Int32.toInt_toInt64, lg_cmp_ge, lg_cmp_le, lg_cmp_gt, lg_cmp_lt, lg_cmp_eq, Bool.false_eq_true, Bool.true_eq_false, reduceCtorEq, false_iff, true_iff, iff_true, iff_false, and_true, true_and, and_false, false_and, reduceIte, ite_true, ite_false, eq_self] at *)) <;> omega) ?_
      refine wa_goto o_X0_farFrom_21 (by decide) ?_
      refine wa_ireturn rfl rfl ?_
      exact ⟨_, rfl, rfl, trivial⟩
set_option maxHeartbeats 4000000 in
theorem sp_X0_spread (G : kG9) {d : Nat} (hd : 1 ≤ d) (σ : St) (a0 : Int32) (a1 : Int32) (p1 : a1.toInt ≤ 3000 ∧ 0 ≤ a1.toInt) : Ct G M_X0_spread d [.ref 41, .int a0, .int a1] σ (fun r σ' => ∃ x : Bool, r = some (.int (bI x)) ∧ Sm 44 45 σ σ' ∧ True) := by
  refine wa_start (by decide) rfl (Nat.le_of_ble_eq_true rfl) (lv := [(0, .ref 41), (1, .int a0), (2, .int a1)]) rfl o_X0_spread_0 rfl ?_
  have ua0 := Int32.toInt_lt a0
  have wa0 := Int32.le_toInt a0
  have ua1 := Int32.toInt_lt a1
  have wa1 := Int32.le_toInt a1
  refine wa_iconst (v := 0) (by decide) ?_
  refine wa_istore_nD (lv' := [(3, .int (bI false)), (0, .ref 41), (1, .int a0), (2, .int a1)]) (i := 3) rfl (by decide) rfl ?_
  refine wa_iconst (v := 0) (by decide) ?_
  refine wa_istoreD (lv' := [(4, .int 0), (3, .int (bI false)), (0, .ref 41), (1, .int a0), (2, .int a1)]) (by decide) rfl ?_
  refine wa_pick [2, 3, 4, 1, 0] rfl ?_
  have hi3 : ∀ (n9_5 : Nat) (l3 : Bool) (l4 : Int32) (s1 : St), ((Sm 44 45 σ s1) ∧ (gi s1 31 12 = gi σ 31 12) ∧ (0 ≤ l4.toInt) ∧ (True)) → (2147483647 - l4.toInt).toNat = n9_5 → WA G M_X0_spread (ZM G M_X0_spread d (fun r σ' => ∃ x : Bool, r = some (.int (bI x)) ∧ Sm 44 45 σ σ' ∧ True)) B_X0_spread_5 [(0, .ref 41), (1, .int a0), (2, .int a1), (3, .int (bI l3)), (4, .int l4)] [] s1 := by
    intro n9_5
    induction n9_5 using Nat.strongRecOn with
    | _ n9_5 ih2 =>
      intro l3 l4 s1 i9 m9_5
      obtain ⟨Fs1, khi3_0, jhi3_0, -⟩ := i9
      have ul4 := Int32.toInt_lt l4
      have wl4 := Int32.le_toInt l4
      refine wa_iload rfl ?_
      refine wa_iload_n (i := 2) rfl rfl ?_
      refine wa_icmp_ge o_X0_spread_80 (by decide) (fun h4 => ?_) (fun h4 => ?_)
      · refine wa_iload_n (i := 3) rfl rfl ?_
        refine wa_zreturn l3 (rfl) rfl rfl ?_
        exact ⟨_, rfl, Fs1, trivial⟩
      · have mh4 := nle_mx h4
        refine wa_iconst (v := 0) (by decide) ?_
        refine wa_istoreD (lv' := [(5, .int 0), (0, .ref 41), (1, .int a0), (2, .int a1), (3, .int (bI l3)), (4, .int l4)]) (by decide) rfl ?_
        refine wa_pick [1, 2, 3, 4, 5, 0] rfl ?_
        have hi7 : ∀ (n9_14 : Nat) (l3 : Bool) (l5 : Int32) (s5 : St), ((Sm 44 45 σ s5) ∧ (gi s5 31 12 = gi σ 31 12) ∧ (0 ≤ l5.toInt) ∧ (True)) → (2147483647 - l5.toInt).toNat = n9_14 → WA G M_X0_spread (ZM G M_X0_spread d (fun r σ' => ∃ x : Bool, r = some (.int (bI x)) ∧ Sm 44 45 σ σ' ∧ True)) B_X0_spread_14 [(0, .ref 41), (1, .int a0), (2, .int a1), (3, .int (bI l3)), (4, .int l4), (5, .int l5)] [] s5 := by
          intro n9_14
          induction n9_14 using Nat.strongRecOn with
          | _ n9_14 ih6 =>
            intro l3 l5 s5 i9 m9_14
            obtain ⟨Fs5, khi7_0, jhi7_0, -⟩ := i9
            have ul5 := Int32.toInt_lt l5
            have wl5 := Int32.le_toInt l5
            refine wa_iload rfl ?_
            refine wa_aload_n (i := 0) rfl rfl ?_
            refine wa_getr ck_0 fl_0_48 ly_41 rf_41_1 ?_
            refine wa_geti ck_6 fl_0_92 ly_31 ?_
            refine wa_rw (khi7_0) ?_
            refine wa_icmp_ge o_X0_spread_74 (by decide) (fun h8 => ?_) (fun h8 => ?_)
            · refine wa_iinc (v := (1)) (lv' := fun y9 => [(4, .int y9), (0, .ref 41), (1, .int a0), (2, .int a1), (3, .int (bI l3)), (5, .int l5)]) (by decide) rfl (by decide) (fun _ => rfl) (fun y9 hy9 => ?_)
              have ty9 := i_addT hy9.symm
              clear hy9
              refine wa_goto o_X0_spread_5 (by decide) ?_
              refine wa_pick [1, 2, 3, 4, 0] rfl ?_
              exact ih2 _ (by ((try simp only [vp_in_iff, Int32.lt_iff_toInt_lt, Int32.le_iff_toInt_le, ← Int32.toInt_inj, Int32.reduceToInt, n_1, n_2, n_8, Int32.toNatClampNeg, Int64.lt_iff_toInt_lt, Int64.le_iff_toInt_le, ← Int64.toInt_inj, Int64.reduceToInt, Int32.toInt_toInt64, lg_cmp_ge, lg_cmp_le, lg_cmp_gt, lg_cmp_lt, lg_cmp_eq, Bool.false_eq_true, Bool.true_eq_false, reduceCtorEq, false_iff, true_iff, iff_true, iff_false, and_true, true_and, and_false, false_and, reduceIte, ite_true, ite_false, eq_self] at *)) <;> omega) _ _ _ ⟨Fs5, (khi7_0), (by ((try simp only [vp_in_iff, Int32.lt_iff_toInt_lt, Int32.le_iff_toInt_le, ← Int32.toInt_inj, Int32.reduceToInt, n_1, n_2, n_8, Int32.toNatClampNeg, Int64.lt_iff_toInt_lt, Int64.le_iff_toInt_le, ← Int64.toInt_inj, Int64.reduceToInt, Int32.toInt_toInt64, lg_cmp_ge, lg_cmp_le, lg_cmp_gt, lg_cmp_lt, lg_cmp_eq, Bool.false_eq_true, Bool.true_eq_false, reduceCtorEq, false_iff, true_iff, iff_true, iff_false, and_true, true_and, and_false, false_and, reduceIte, ite_true, ite_false, eq_self] at *)) <;> omega), trivial⟩ rfl
            · have mh8 := nle_mx h8
              refine wa_aload_n (i := 0) rfl rfl ?_
              refine wa_getr ck_0 fl_0_18 ly_41 rf_41_4 ?_
              refine wa_iload rfl ?_
              refine wa_iald ly_44 (by ((try simp only [vp_in_iff, Int32.lt_iff_toInt_lt, Int32.le_iff_toInt_le, ← Int32.toInt_inj, Int32.reduceToInt, n_1, n_2, n_8, Int32.toNatClampNeg, Int64.lt_iff_toInt_lt, Int64.le_iff_toInt_le, ← Int64.toInt_inj, Int64.reduceToInt, Int32.toInt_toInt64, lg_cmp_ge, lg_cmp_le, lg_cmp_gt, lg_cmp_lt, lg_cmp_eq, Bool.false_eq_true, Bool.true_eq_false, reduceCtorEq, false_iff, true_iff, iff_true, iff_false, and_true, true_and, and_false, false_and, reduceIte, ite_true, ite_false, eq_self] at *)) <;> omega) ?_
              refine wa_iconst (v := (-1)) (by decide) ?_
              refine wa_icmp_ne o_X0_spread_74 (by decide) (fun h10 => ?_) (fun h10 => ?_)
              · refine wa_iinc (v := (1)) (lv' := fun y11 => [(4, .int y11), (0, .ref 41), (1, .int a0), (2, .int a1), (3, .int (bI l3)), (5, .int l5)]) (by decide) rfl (by decide) (fun _ => rfl) (fun y11 hy11 => ?_)
                have ty11 := i_addT hy11.symm
                clear hy11
                refine wa_goto o_X0_spread_5 (by decide) ?_
                refine wa_pick [1, 2, 3, 4, 0] rfl ?_
                exact ih2 _ (by ((try simp only [vp_in_iff, Int32.lt_iff_toInt_lt, Int32.le_iff_toInt_le, ← Int32.toInt_inj, Int32.reduceToInt, n_1, n_2, n_8, Int32.toNatClampNeg, Int64.lt_iff_toInt_lt, Int64.le_iff_toInt_le, ← Int64.toInt_inj, Int64.reduceToInt, Int32.toInt_toInt64, lg_cmp_ge, lg_cmp_le, lg_cmp_gt, lg_cmp_lt, lg_cmp_eq, Bool.false_eq_true, Bool.true_eq_false, reduceCtorEq, false_iff, true_iff, iff_true, iff_false, and_true, true_and, and_false, false_and, reduceIte, ite_true, ite_false, eq_self] at *)) <;> omega) _ _ _ ⟨Fs5, (khi7_0), (by ((try simp only [vp_in_iff, Int32.lt_iff_toInt_lt, Int32.le_iff_toInt_le, ← Int32.toInt_inj, Int32.reduceToInt, n_1, n_2, n_8, Int32.toNatClampNeg, Int64.lt_iff_toInt_lt, Int64.le_iff_toInt_le, ← Int64.toInt_inj, Int64.reduceToInt, Int32.toInt_toInt64, lg_cmp_ge, lg_cmp_le, lg_cmp_gt, lg_cmp_lt, lg_cmp_eq, Bool.false_eq_true, Bool.true_eq_false, reduceCtorEq, false_iff, true_iff, iff_true, iff_false, and_true, true_and, and_false, false_and, reduceIte, ite_true, ite_false, eq_self] at *)) <;> omega), trivial⟩ rfl
              · refine wa_aload_n (i := 0) rfl rfl ?_
                refine wa_aload_n (i := 0) rfl rfl ?_
                refine wa_getr ck_0 fl_0_48 ly_41 rf_41_1 ?_
                refine wa_iload rfl ?_
                refine wa_iload rfl ?_
                refine wa_Vi (d9 := d - 1) [.int _, .int _] [.ref 41] (sp_X6_behind G (d := d - 1) (by omega) s5 _ _) (rfl) rfl rfl (zr (by omega)) mk_X6_behind ly_31 ml_0_95 (Nat.le_of_ble_eq_true rfl) (fun x13 s12 hs12 => ?_)
                obtain ⟨zs12, -⟩ := pI hs12
                subst zs12
                refine wa_Vi (d9 := d - 1) [.int _] [] (sp_X0_farFrom G (d := d - 1) (by omega) s5 _) (rfl) rfl rfl (zr (by omega)) mk_X0_farFrom ly_41 ml_0_98 (Nat.le_of_ble_eq_true rfl) (fun x15 s14 hs14 => ?_)
                obtain ⟨zs14, -⟩ := pI hs14
                subst zs14
                refine wa_iload_n (i := 1) rfl rfl ?_
                refine wa_iconst (v := 1) (by decide) ?_
                refine wa_isub ?_
                refine wa_top (fun v16 hv16 => ?_)
                have tv16 := i_subT hv16
                clear hv16
                refine wa_icmp_ne o_X0_spread_68 (by decide) (fun h17 => ?_) (fun h17 => ?_)
                · refine wa_iinc (v := (1)) (lv' := fun y18 => [(5, .int y18), (0, .ref 41), (1, .int a0), (2, .int a1), (3, .int (bI l3)), (4, .int l4)]) (by decide) rfl (by decide) (fun _ => rfl) (fun y18 hy18 => ?_)
                  have ty18 := i_addT hy18.symm
                  clear hy18
                  refine wa_goto o_X0_spread_14 (by decide) ?_
                  refine wa_pick [1, 2, 3, 4, 5, 0] rfl ?_
                  exact ih6 _ (by ((try simp only [vp_in_iff, Int32.lt_iff_toInt_lt, Int32.le_iff_toInt_le, ← Int32.toInt_inj, Int32.reduceToInt, n_1, n_2, n_8, Int32.toNatClampNeg, Int64.lt_iff_toInt_lt, Int64.le_iff_toInt_le, ← Int64.toInt_inj, Int64.reduceToInt, Int32.toInt_toInt64, lg_cmp_ge, lg_cmp_le, lg_cmp_gt, lg_cmp_lt, lg_cmp_eq, Bool.false_eq_true, Bool.true_eq_false, reduceCtorEq, false_iff, true_iff, iff_true, iff_false, and_true, true_and, and_false, false_and, reduceIte, ite_true, ite_false, eq_self] at *)) <;> omega) _ _ _ ⟨Fs5, (khi7_0), (by ((try simp only [vp_in_iff, Int32.lt_iff_toInt_lt, Int32.le_iff_toInt_le, ← Int32.toInt_inj, Int32.reduceToInt, n_1, n_2, n_8, Int32.toNatClampNeg, Int64.lt_iff_toInt_lt, Int64.le_iff_toInt_le, ← Int64.toInt_inj, Int64.reduceToInt, Int32.toInt_toInt64, lg_cmp_ge, lg_cmp_le, lg_cmp_gt, lg_cmp_lt, lg_cmp_eq, Bool.false_eq_true, Bool.true_eq_false, reduceCtorEq, false_iff, true_iff, iff_true, iff_false, and_true, true_and, and_false, false_and, reduceIte, ite_true, ite_false, eq_self] at *)) <;> omega), trivial⟩ rfl
                · refine wa_aload_n (i := 0) rfl rfl ?_
                  refine wa_getr ck_0 fl_0_18 ly_41 rf_41_4 ?_
                  refine wa_iload rfl ?_
                  refine wa_iload_n (i := 1) rfl rfl ?_
                  refine wa_iast ly_44 (by ((try simp only [vp_in_iff, Int32.lt_iff_toInt_lt, Int32.le_iff_toInt_le, ← Int32.toInt_inj, Int32.reduceToInt, n_1, n_2, n_8, Int32.toNatClampNeg, Int64.lt_iff_toInt_lt, Int64.le_iff_toInt_le, ← Int64.toInt_inj, Int64.reduceToInt, Int32.toInt_toInt64, lg_cmp_ge, lg_cmp_le, lg_cmp_gt, lg_cmp_lt, lg_cmp_eq, Bool.false_eq_true, Bool.true_eq_false, reduceCtorEq, false_iff, true_iff, iff_true, iff_false, and_true, true_and, and_false, false_and, reduceIte, ite_true, ite_false, eq_self] at *)) <;> omega) (fun s19 hs19 => ?_)
                  have Fs19 : Sm 44 45 σ s19 := by rw [hs19]; exact Sm.si Fs5 _ _ (by decide) (by decide)
                  refine wa_iconst (v := 1) (by decide) ?_
                  refine wa_istore_nD (lv' := [(3, .int (bI true)), (0, .ref 41), (1, .int a0), (2, .int a1), (4, .int l4), (5, .int l5)]) (i := 3) rfl (by decide) rfl ?_
                  refine wa_iinc (v := (1)) (lv' := fun y20 => [(5, .int y20), (3, .int (bI true)), (0, .ref 41), (1, .int a0), (2, .int a1), (4, .int l4)]) (by decide) rfl (by decide) (fun _ => rfl) (fun y20 hy20 => ?_)
                  have ty20 := i_addT hy20.symm
                  clear hy20
                  refine wa_goto o_X0_spread_14 (by decide) ?_
                  refine wa_pick [2, 3, 4, 1, 5, 0] rfl ?_
                  exact ih6 _ (by ((try simp only [vp_in_iff, Int32.lt_iff_toInt_lt, Int32.le_iff_toInt_le, ← Int32.toInt_inj, Int32.reduceToInt, n_1, n_2, n_8, Int32.toNatClampNeg, Int64.lt_iff_toInt_lt, Int64.le_iff_toInt_le, ← Int64.toInt_inj, Int64.reduceToInt, Int32.toInt_toInt64, lg_cmp_ge, lg_cmp_le, lg_cmp_gt, lg_cmp_lt, lg_cmp_eq, Bool.false_eq_true, Bool.true_eq_false, reduceCtorEq, false_iff, true_iff, iff_true, iff_false, and_true, true_and, and_false, false_and, reduceIte, ite_true, ite_false, eq_self] at *)) <;> omega) _ _ _ ⟨Fs19, ((nxq_gi_si hs19 (by decide)).trans (khi7_0)), (by ((try simp only [vp_in_iff, Int32.lt_iff_toInt_lt, Int32.le_iff_toInt_le, ← Int32.toInt_inj, Int32.reduceToInt, n_1, n_2, n_8, Int32.toNatClampNeg, Int64.lt_iff_toInt_lt, Int64.le_iff_toInt_le, ← Int64.toInt_inj, Int64.reduceToInt, Int32.toInt_toInt64, lg_cmp_ge, lg_cmp_le, lg_cmp_gt, lg_cmp_lt, lg_cmp_eq, Bool.false_eq_true, Bool.true_eq_false, reduceCtorEq, false_iff, true_iff, iff_true, iff_false, and_true, true_and, and_false, false_and, reduceIte, ite_true, ite_false, eq_self] at *)) <;> omega), trivial⟩ rfl
        exact hi7 _ _ _ _ ⟨Fs1, (khi3_0), (by ((try simp only [vp_in_iff, Int32.lt_iff_toInt_lt, Int32.le_iff_toInt_le, ← Int32.toInt_inj, Int32.reduceToInt, n_1, n_2, n_8, Int32.toNatClampNeg, Int64.lt_iff_toInt_lt, Int64.le_iff_toInt_le, ← Int64.toInt_inj, Int64.reduceToInt, Int32.toInt_toInt64, lg_cmp_ge, lg_cmp_le, lg_cmp_gt, lg_cmp_lt, lg_cmp_eq, Bool.false_eq_true, Bool.true_eq_false, reduceCtorEq, false_iff, true_iff, iff_true, iff_false, and_true, true_and, and_false, false_and, reduceIte, ite_true, ite_false, eq_self] at *)) <;> omega), trivial⟩ rfl
  exact hi3 _ _ _ _ ⟨(Sm.rf 44 45 σ), (rfl), (by ((try simp only [vp_in_iff, Int32.lt_iff_toInt_lt, Int32.le_iff_toInt_le, ← Int32.toInt_inj, Int32.reduceToInt, n_1, n_2, n_8, Int32.toNatClampNeg, Int64.lt_iff_toInt_lt, Int64.le_iff_toInt_le, ← Int64.toInt_inj, Int64.reduceToInt, Int32.toInt_toInt64, lg_cmp_ge, lg_cmp_le, lg_cmp_gt, lg_cmp_lt, lg_cmp_eq, Bool.false_eq_true, Bool.true_eq_false, reduceCtorEq, false_iff, true_iff, iff_true, iff_false, and_true, true_and, and_false, false_and, reduceIte, ite_true, ite_false, eq_self] at *)) <;> omega), trivial⟩ rfl
set_option maxRecDepth 100000 in
set_option maxHeartbeats 4000000 in
theorem sp_J7_fill_d0a16_at_42 (G : kG9) {d : Nat} (hd : 0 ≤ d) (σ : St) (a1 : Int64) : Ct G M_J7_fill_d0a16 d [.ref 42, .long a1] σ (fun r σ' => Sm 42 43 σ σ' ∧ True) := by
  refine wa_startF (by decide +kernel) rfl (Nat.le_of_ble_eq_true rfl) (lv := [(0, .ref 42), (1, .long a1)]) rfl o_J7_fill_d0a16_0 rfl ?_
  refine wa_iconst (v := 0) (by decide) ?_
  refine wa_istore_nD (lv' := [(3, .int 0), (0, .ref 42), (1, .long a1)]) (i := 3) rfl (by decide) rfl ?_
  refine wa_aload_n (i := 0) rfl rfl ?_
  refine wa_alen ly_42 (by decide) ?_
  refine wa_rw (show Int32.ofNat 4 = 4 from rfl) ?_
  refine wa_istoreD (lv' := [(4, .int 4), (3, .int 0), (0, .ref 42), (1, .long a1)]) (by decide) rfl ?_
  refine wa_pick [2, 3, 1, 0] rfl ?_
  have hi3 : ∀ (n9_6 : Nat) (l3 : Int32) (s1 : St), ((Sm 42 43 σ s1) ∧ (0 ≤ l3.toInt) ∧ (True)) → (2147483647 - l3.toInt).toNat = n9_6 → WA G M_J7_fill_d0a16 (ZM G M_J7_fill_d0a16 d (fun r σ' => Sm 42 43 σ σ' ∧ True)) B_J7_fill_d0a16_6 [(0, .ref 42), (1, .long a1), (3, .int l3), (4, .int 4)] [] s1 := by
    intro n9_6
    induction n9_6 using Nat.strongRecOn with
    | _ n9_6 ih2 =>
      intro l3 s1 i9 m9_6
      obtain ⟨Fs1, jhi3_0, -⟩ := i9
      have ul3 := Int32.toInt_lt l3
      have wl3 := Int32.le_toInt l3
      refine wa_iload_n (i := 3) rfl rfl ?_
      refine wa_iload rfl ?_
      refine wa_icmp_ge o_J7_fill_d0a16_22 (by decide) (fun h4 => ?_) (fun h4 => ?_)
      · refine wa_return (st := []) rfl rfl ?_
        exact ⟨Fs1, trivial⟩
      · have mh4 := nle_mx h4
        refine wa_aload_n (i := 0) rfl rfl ?_
        refine wa_iload_n (i := 3) rfl rfl ?_
        refine wa_lload_n (i := 1) rfl rfl ?_
        refine wa_last ly_42 (by ((try simp only [vp_in_iff, Int32.lt_iff_toInt_lt, Int32.le_iff_toInt_le, ← Int32.toInt_inj, Int32.reduceToInt, n_1, n_2, n_8, Int32.toNatClampNeg, Int64.lt_iff_toInt_lt, Int64.le_iff_toInt_le, ← Int64.toInt_inj, Int64.reduceToInt, Int32.toInt_toInt64, lg_cmp_ge, lg_cmp_le, lg_cmp_gt, lg_cmp_lt, lg_cmp_eq, Bool.false_eq_true, Bool.true_eq_false, reduceCtorEq, false_iff, true_iff, iff_true, iff_false, and_true, true_and, and_false, false_and, reduceIte, ite_true, ite_false, eq_self] at *)) <;> omega) (fun s5 hs5 => ?_)
        have Fs5 : Sm 42 43 σ s5 := by rw [hs5]; exact Sm.sl Fs1 _ _ (by decide) (by decide)
        refine wa_iinc (v := (1)) (lv' := fun y6 => [(3, .int y6), (0, .ref 42), (1, .long a1), (4, .int 4)]) (by decide) rfl (by decide) (fun _ => rfl) (fun y6 hy6 => ?_)
        have ty6 := i_addT hy6.symm
        clear hy6
        refine wa_goto o_J7_fill_d0a16_6 (by decide) ?_
        refine wa_pick [1, 2, 0, 3] rfl ?_
        exact ih2 _ (by ((try simp only [vp_in_iff, Int32.lt_iff_toInt_lt, Int32.le_iff_toInt_le, ← Int32.toInt_inj, Int32.reduceToInt, n_1, n_2, n_8, Int32.toNatClampNeg, Int64.lt_iff_toInt_lt, Int64.le_iff_toInt_le, ← Int64.toInt_inj, Int64.reduceToInt, Int32.toInt_toInt64, lg_cmp_ge, lg_cmp_le, lg_cmp_gt, lg_cmp_lt, lg_cmp_eq, Bool.false_eq_true, Bool.true_eq_false, reduceCtorEq, false_iff, true_iff, iff_true, iff_false, and_true, true_and, and_false, false_and, reduceIte, ite_true, ite_false, eq_self] at *)) <;> omega) _ _ ⟨Fs5, (by ((try simp only [vp_in_iff, Int32.lt_iff_toInt_lt, Int32.le_iff_toInt_le, ← Int32.toInt_inj, Int32.reduceToInt, n_1, n_2, n_8, Int32.toNatClampNeg, Int64.lt_iff_toInt_lt, Int64.le_iff_toInt_le, ← Int64.toInt_inj, Int64.reduceToInt, Int32.toInt_toInt64, lg_cmp_ge, lg_cmp_le, lg_cmp_gt, lg_cmp_lt, lg_cmp_eq, Bool.false_eq_true, Bool.true_eq_false, reduceCtorEq, false_iff, true_iff, iff_true, iff_false, and_true, true_and, and_false, false_and, reduceIte, ite_true, ite_false, eq_self] at *)) <;> omega), trivial⟩ rfl
  exact hi3 _ _ _ ⟨(Sm.rf 42 43 σ), (by ((try simp only [vp_in_iff, Int32.lt_iff_toInt_lt, Int32.le_iff_toInt_le, ← Int32.toInt_inj, Int32.reduceToInt, n_1, n_2, n_8, Int32.toNatClampNeg, Int64.lt_iff_toInt_lt, Int64.le_iff_toInt_le, ← Int64.toInt_inj, Int64.reduceToInt, Int32.toInt_toInt64, lg_cmp_ge, lg_cmp_le, lg_cmp_gt, lg_cmp_lt, lg_cmp_eq, Bool.false_eq_true, Bool.true_eq_false, reduceCtorEq, false_iff, true_iff, iff_true, iff_false, and_true, true_and, and_false, false_and, reduceIte, ite_true, ite_false, eq_self] at *)) <;> omega), trivial⟩ rfl
set_option maxHeartbeats 4000000 in
theorem sp_X0_addBits (G : kG9) {d : Nat} (hd : 0 ≤ d) (σ : St) (a0 : Int32) (a1 : Int32) (a2 : Int32) : Ct G M_X0_addBits d [.ref 41, .int a0, .int a1, .int a2] σ (fun r σ' => Sm 42 43 σ σ' ∧ True) := by
  refine wa_start (by decide) rfl (Nat.le_of_ble_eq_true rfl) (lv := [(0, .ref 41), (1, .int a0), (2, .int a1), (3, .int a2)]) rfl o_X0_addBits_0 rfl ?_
  have ua0 := Int32.toInt_lt a0
  have wa0 := Int32.le_toInt a0
  have ua1 := Int32.toInt_lt a1
  have wa1 := Int32.le_toInt a1
  have ua2 := Int32.toInt_lt a2
  have wa2 := Int32.le_toInt a2
  refine wa_iconst (v := 0) (by decide) ?_
  refine wa_istoreD (lv' := [(4, .int 0), (0, .ref 41), (1, .int a0), (2, .int a1), (3, .int a2)]) (by decide) rfl ?_
  refine wa_pick [1, 2, 3, 4, 0] rfl ?_
  have hi3 : ∀ (n9_3 : Nat) (l4 : Int32) (s1 : St), ((Sm 42 43 σ s1) ∧ (0 ≤ l4.toInt) ∧ (True)) → (2147483647 - l4.toInt).toNat = n9_3 → WA G M_X0_addBits (ZM G M_X0_addBits d (fun r σ' => Sm 42 43 σ σ' ∧ True)) B_X0_addBits_3 [(0, .ref 41), (1, .int a0), (2, .int a1), (3, .int a2), (4, .int l4)] [] s1 := by
    intro n9_3
    induction n9_3 using Nat.strongRecOn with
    | _ n9_3 ih2 =>
      intro l4 s1 i9 m9_3
      obtain ⟨Fs1, jhi3_0, -⟩ := i9
      have ul4 := Int32.toInt_lt l4
      have wl4 := Int32.le_toInt l4
      refine wa_iload rfl ?_
      refine wa_iconst (v := 4) (by decide) ?_
      refine wa_icmp_ge o_X0_addBits_44 (by decide) (fun h4 => ?_) (fun h4 => ?_)
      · refine wa_return (st := []) rfl rfl ?_
        exact ⟨Fs1, trivial⟩
      · have mh4 := nle_mx h4
        refine wa_iload_n (i := 2) rfl rfl ?_
        refine wa_bipush (v := 62) (by decide) ?_
        refine wa_icmp_ge o_X0_addBits_44 (by decide) (fun h5 => ?_) (fun h5 => ?_)
        · refine wa_return (st := []) rfl rfl ?_
          exact ⟨Fs1, trivial⟩
        · have mh5 := nle_mx h5
          refine wa_aload_n (i := 0) rfl rfl ?_
          refine wa_getr ck_0 fl_0_9 ly_41 rf_41_2 ?_
          refine wa_iload rfl ?_
          refine wa_dup2 rfl rfl ?_
          refine wa_lald ly_42 (by ((try simp only [vp_in_iff, Int32.lt_iff_toInt_lt, Int32.le_iff_toInt_le, ← Int32.toInt_inj, Int32.reduceToInt, n_1, n_2, n_8, Int32.toNatClampNeg, Int64.lt_iff_toInt_lt, Int64.le_iff_toInt_le, ← Int64.toInt_inj, Int64.reduceToInt, Int32.toInt_toInt64, lg_cmp_ge, lg_cmp_le, lg_cmp_gt, lg_cmp_lt, lg_cmp_eq, Bool.false_eq_true, Bool.true_eq_false, reduceCtorEq, false_iff, true_iff, iff_true, iff_false, and_true, true_and, and_false, false_and, reduceIte, ite_true, ite_false, eq_self] at *)) <;> omega) ?_
          refine wa_iload_n (i := 1) rfl rfl ?_
          refine wa_iload rfl ?_
          refine wa_iushr ?_
          refine wa_top (fun v6 hv6 => ?_)
          clear hv6
          refine wa_iconst (v := 1) (by decide) ?_
          refine wa_iand ?_
          refine wa_top (fun v7 hv7 => ?_)
          have tv7 := i_andT hv7
          clear hv7
          refine wa_iload_n (i := 3) rfl rfl ?_
          refine wa_imul ?_
          refine wa_top (fun v8 hv8 => ?_)
          have tv8 := i_mulT hv8
          clear hv8
          refine wa_i2l ?_
          refine wa_lconst (v := 1) (by decide) ?_
          refine wa_iload_n (i := 2) rfl rfl ?_
          refine wa_lshl ?_
          refine wa_topl (fun v9 hv9 => ?_)
          clear hv9
          refine wa_lmul ?_
          refine wa_topl (fun v10 hv10 => ?_)
          clear hv10
          refine wa_ladd ?_
          refine wa_topl (fun v11 hv11 => ?_)
          clear hv11
          refine wa_last ly_42 (by ((try simp only [vp_in_iff, Int32.lt_iff_toInt_lt, Int32.le_iff_toInt_le, ← Int32.toInt_inj, Int32.reduceToInt, n_1, n_2, n_8, Int32.toNatClampNeg, Int64.lt_iff_toInt_lt, Int64.le_iff_toInt_le, ← Int64.toInt_inj, Int64.reduceToInt, Int32.toInt_toInt64, lg_cmp_ge, lg_cmp_le, lg_cmp_gt, lg_cmp_lt, lg_cmp_eq, Bool.false_eq_true, Bool.true_eq_false, reduceCtorEq, false_iff, true_iff, iff_true, iff_false, and_true, true_and, and_false, false_and, reduceIte, ite_true, ite_false, eq_self] at *)) <;> omega) (fun s12 hs12 => ?_)
          have Fs12 : Sm 42 43 σ s12 := by rw [hs12]; exact Sm.sl Fs1 _ _ (by decide) (by decide)
          refine wa_iinc (v := (1)) (lv' := fun y13 => [(4, .int y13), (0, .ref 41), (1, .int a0), (2, .int a1), (3, .int a2)]) (by decide) rfl (by decide) (fun _ => rfl) (fun y13 hy13 => ?_)
          have ty13 := i_addT hy13.symm
          clear hy13
          refine wa_goto o_X0_addBits_3 (by decide) ?_
          refine wa_pick [1, 2, 3, 4, 0] rfl ?_
          exact ih2 _ (by ((try simp only [vp_in_iff, Int32.lt_iff_toInt_lt, Int32.le_iff_toInt_le, ← Int32.toInt_inj, Int32.reduceToInt, n_1, n_2, n_8, Int32.toNatClampNeg, Int64.lt_iff_toInt_lt, Int64.le_iff_toInt_le, ← Int64.toInt_inj, Int64.reduceToInt, Int32.toInt_toInt64, lg_cmp_ge, lg_cmp_le, lg_cmp_gt, lg_cmp_lt, lg_cmp_eq, Bool.false_eq_true, Bool.true_eq_false, reduceCtorEq, false_iff, true_iff, iff_true, iff_false, and_true, true_and, and_false, false_and, reduceIte, ite_true, ite_false, eq_self] at *)) <;> omega) _ _ ⟨Fs12, (by ((try simp only [vp_in_iff, Int32.lt_iff_toInt_lt, Int32.le_iff_toInt_le, ← Int32.toInt_inj, Int32.reduceToInt, n_1, n_2, n_8, Int32.toNatClampNeg, Int64.lt_iff_toInt_lt, Int64.le_iff_toInt_le, ← Int64.toInt_inj, Int64.reduceToInt, Int32.toInt_toInt64, lg_cmp_ge, lg_cmp_le, lg_cmp_gt, lg_cmp_lt, lg_cmp_eq, Bool.false_eq_true, Bool.true_eq_false, reduceCtorEq, false_iff, true_iff, iff_true, iff_false, and_true, true_and, and_false, false_and, reduceIte, ite_true, ite_false, eq_self] at *)) <;> omega), trivial⟩ rfl
  exact hi3 _ _ _ ⟨(Sm.rf 42 43 σ), (by ((try simp only [vp_in_iff, Int32.lt_iff_toInt_lt, Int32.le_iff_toInt_le, ← Int32.toInt_inj, Int32.reduceToInt, n_1, n_2, n_8, Int32.toNatClampNeg, Int64.lt_iff_toInt_lt, Int64.le_iff_toInt_le, ← Int64.toInt_inj, Int64.reduceToInt, Int32.toInt_toInt64, lg_cmp_ge, lg_cmp_le, lg_cmp_gt, lg_cmp_lt, lg_cmp_eq, Bool.false_eq_true, Bool.true_eq_false, reduceCtorEq, false_iff, true_iff, iff_true, iff_false, and_true, true_and, and_false, false_and, reduceIte, ite_true, ite_false, eq_self] at *)) <;> omega), trivial⟩ rfl
set_option maxHeartbeats 4000000 in
theorem sp_X0_walk (G : kG9) {d : Nat} (hd : 1 ≤ d) (σ : St) (r1 : 0 ≤ (gi σ 41 15).toInt ∧ (gi σ 41 15).toInt ≤ 1100) : Ct G M_X0_walk d [.ref 41] σ (fun r σ' => Sm 41 43 σ σ' ∧ (0 ≤ (gi σ' 41 15).toInt ∧ (gi σ' 41 15).toInt ≤ 1100) ∧ True) := by
  refine wa_start (by decide) rfl (Nat.le_of_ble_eq_true rfl) (lv := [(0, .ref 41)]) rfl o_X0_walk_0 rfl ?_
  refine wa_iconst (v := 0) (by decide) ?_
  refine wa_istore_nD (lv' := [(1, .int 0), (0, .ref 41)]) (i := 1) rfl (by decide) rfl ?_
  refine wa_aload_n (i := 0) rfl rfl ?_
  refine wa_aload_n (i := 0) rfl rfl ?_
  refine wa_getr ck_0 fl_0_18 ly_41 rf_41_4 ?_
  refine wa_iconst (v := 0) (by decide) ?_
  refine wa_iald ly_44 (by ((try simp only [vp_in_iff, Int32.lt_iff_toInt_lt, Int32.le_iff_toInt_le, ← Int32.toInt_inj, Int32.reduceToInt, n_1, n_2, n_8, Int32.toNatClampNeg, Int64.lt_iff_toInt_lt, Int64.le_iff_toInt_le, ← Int64.toInt_inj, Int64.reduceToInt, Int32.toInt_toInt64, lg_cmp_ge, lg_cmp_le, lg_cmp_gt, lg_cmp_lt, lg_cmp_eq, Bool.false_eq_true, Bool.true_eq_false, reduceCtorEq, false_iff, true_iff, iff_true, iff_false, and_true, true_and, and_false, false_and, reduceIte, ite_true, ite_false, eq_self] at *)) <;> omega) ?_
  refine wa_puti ck_0 fl_0_40 ly_41 (fun s1 hs1 => ?_)
  have Fs1 : Sm 41 43 σ s1 := by rw [hs1]; exact Sm.si (Sm.rf 41 43 σ) _ _ (by decide) (by decide)
  refine wa_aload_n (i := 0) rfl rfl ?_
  refine wa_aload_n (i := 0) rfl rfl ?_
  refine wa_getr ck_0 fl_0_44 ly_41 rf_41_0 ?_
  refine wa_geti ck_2 fl_0_52 ly_7 ?_
  refine wa_rw (nxq_gi_si hs1 (by decide)) ?_
  refine wa_puti ck_0 fl_0_69 ly_41 (fun s2 hs2 => ?_)
  have Fs2 : Sm 41 43 σ s2 := by rw [hs2]; exact Sm.si Fs1 _ _ (by decide) (by decide)
  refine wa_aload_n (i := 0) rfl rfl ?_
  refine wa_getr ck_0 fl_0_9 ly_41 rf_41_2 ?_
  refine wa_lconst (v := 0) (by decide) ?_
  refine wa_Sv (d9 := d - 1) [.ref 42, .long _] [] (sp_J7_fill_d0a16_at_42 G (d := d - 1) (by omega) s2 _) (rfl) rfl rfl (zr (by omega)) mk_J7_fill_d0a16 ml_0_102 (Nat.le_of_ble_eq_true rfl) (fun s3 hs3 => ?_)
  obtain ⟨fs3, -⟩ := hs3
  have Fs3 := Sm.tr Fs2 (Sm.wd fs3 (lo' := 41) (hi' := 43) (by decide) (by decide))
  refine wa_aload_n (i := 0) rfl rfl ?_
  refine wa_geti ck_0 fl_0_40 ly_41 ?_
  refine wa_rw ((Sm.gi fs3 12 (Or.inl (by decide))).trans ((nxk_gi_si hs2 (by decide)).trans (nxe_gi_si hs1))) ?_
  refine wa_istore_nD (lv' := [(2, .int (gi σ 44 (0 : Int32).toNatClampNeg)), (1, .int 0), (0, .ref 41)]) (i := 2) rfl (by decide) rfl ?_
  refine wa_pick [2, 1, 0] rfl ?_
  have hi7 : ∀ (n9_36 : Nat) (l1 : Int32) (l2 : Int32) (s5 : St), ((Sm 41 43 σ s5) ∧ (gi s5 41 15 = gi σ 41 15) ∧ (gi s5 7 10 = gi σ 7 10) ∧ (gi s5 41 12 = (gi σ 44 (0 : Int32).toNatClampNeg)) ∧ (True)) → (l2.toInt + 1).toNat = n9_36 → WA G M_X0_walk (ZM G M_X0_walk d (fun r σ' => Sm 41 43 σ σ' ∧ (0 ≤ (gi σ' 41 15).toInt ∧ (gi σ' 41 15).toInt ≤ 1100) ∧ True)) B_X0_walk_36 [(0, .ref 41), (1, .int l1), (2, .int l2)] [] s5 := by
    intro n9_36
    induction n9_36 using Nat.strongRecOn with
    | _ n9_36 ih6 =>
      intro l1 l2 s5 i9 m9_36
      obtain ⟨Fs5, khi7_0, khi7_1, khi7_2, -⟩ := i9
      have ul1 := Int32.toInt_lt l1
      have wl1 := Int32.le_toInt l1
      have ul2 := Int32.toInt_lt l2
      have wl2 := Int32.le_toInt l2
      refine wa_iload_n (i := 2) rfl rfl ?_
      refine wa_if_le o_X0_walk_101 (by decide) (fun h8 => ?_) (fun h8 => ?_)
      · refine wa_iconst (v := 0) (by decide) ?_
        refine wa_istore_nD (lv' := [(2, .int 0), (0, .ref 41), (1, .int l1)]) (i := 2) rfl (by decide) rfl ?_
        refine wa_pick [1, 2, 0] rfl ?_
        have hi11 : ∀ (n9_103 : Nat) (l2 : Int32) (s9 : St), ((Sm 41 43 σ s9) ∧ (gi s9 41 15 = gi σ 41 15) ∧ (gi s9 7 10 = gi σ 7 10) ∧ (gi s9 41 12 = (gi σ 44 (0 : Int32).toNatClampNeg)) ∧ (0 ≤ l2.toInt) ∧ (True)) → (2147483647 - l2.toInt).toNat = n9_103 → WA G M_X0_walk (ZM G M_X0_walk d (fun r σ' => Sm 41 43 σ σ' ∧ (0 ≤ (gi σ' 41 15).toInt ∧ (gi σ' 41 15).toInt ≤ 1100) ∧ True)) B_X0_walk_103 [(0, .ref 41), (1, .int l1), (2, .int l2)] [] s9 := by
          intro n9_103
          induction n9_103 using Nat.strongRecOn with
          | _ n9_103 ih10 =>
            intro l2 s9 i9 m9_103
            obtain ⟨Fs9, khi11_0, khi11_1, khi11_2, jhi11_0, -⟩ := i9
            have ul2 := Int32.toInt_lt l2
            have wl2 := Int32.le_toInt l2
            refine wa_iload_n (i := 2) rfl rfl ?_
            refine wa_bipush (v := 15) (by decide) ?_
            refine wa_icmp_ge o_X0_walk_127 (by decide) (fun h12 => ?_) (fun h12 => ?_)
            · refine wa_aload_n (i := 0) rfl rfl ?_
              refine wa_iload_n (i := 2) rfl rfl ?_
              refine wa_aload_n (i := 0) rfl rfl ?_
              refine wa_geti ck_0 fl_0_40 ly_41 ?_
              refine wa_rw (khi11_2) ?_
              refine wa_iconst (v := (-1)) (by decide) ?_
              refine wa_Vv (d9 := d - 1) [.int _, .int _, .int _] [] (sp_X0_addBits G (d := d - 1) (by omega) s9 _ _ _) (rfl) rfl rfl (zr (by omega)) mk_X0_addBits ly_41 ml_0_108 (Nat.le_of_ble_eq_true rfl) (fun s13 hs13 => ?_)
              obtain ⟨fs13, -⟩ := hs13
              have Fs13 := Sm.tr Fs9 (Sm.wd fs13 (lo' := 41) (hi' := 43) (by decide) (by decide))
              refine wa_return (st := []) rfl rfl ?_
              exact ⟨Fs13, (by rw [(Sm.gi fs13 15 (Or.inl (by decide))).trans (khi11_0)]; first | assumption | (((try simp only [vp_in_iff, Int32.lt_iff_toInt_lt, Int32.le_iff_toInt_le, ← Int32.toInt_inj, Int32.reduceToInt, n_1, n_2, n_8, Int32.toNatClampNeg, Int64.lt_iff_toInt_lt, Int64.le_iff_toInt_le, ← Int64.toInt_inj, Int64.reduceToInt, Int32.toInt_toInt64, lg_cmp_ge, lg_cmp_le, lg_cmp_gt, lg_cmp_lt, lg_cmp_eq, Bool.false_eq_true, Bool.true_eq_false, reduceCtorEq, false_iff, true_iff, iff_true, iff_false, and_true, true_and, and_false, false_and, reduceIte, ite_true, ite_false, eq_self] at *)) <;> omega)), trivial⟩
            · have mh12 := nle_mx h12
              refine wa_aload_n (i := 0) rfl rfl ?_
              refine wa_iload_n (i := 1) rfl rfl ?_
              refine wa_Vi (d9 := d - 1) [.int _] [] (sp_X0_endsOf G (d := d - 1) (by omega) s9 _) (rfl) rfl rfl (zr (by omega)) mk_X0_endsOf ly_41 ml_0_112 (Nat.le_of_ble_eq_true rfl) (fun x16 s15 hs15 => ?_)
              obtain ⟨zs15, -⟩ := pI hs15
              subst zs15
              refine wa_iload_n (i := 2) rfl rfl ?_
              refine wa_iushr ?_
              refine wa_top (fun v17 hv17 => ?_)
              clear hv17
              refine wa_iconst (v := 1) (by decide) ?_
              refine wa_iand ?_
              refine wa_top (fun v18 hv18 => ?_)
              have tv18 := i_andT hv18
              clear hv18
              refine wa_if_ne o_X0_walk_127 (by decide) (fun h19 => ?_) (fun h19 => ?_)
              · refine wa_aload_n (i := 0) rfl rfl ?_
                refine wa_iload_n (i := 2) rfl rfl ?_
                refine wa_aload_n (i := 0) rfl rfl ?_
                refine wa_geti ck_0 fl_0_40 ly_41 ?_
                refine wa_rw (khi11_2) ?_
                refine wa_iconst (v := (-1)) (by decide) ?_
                refine wa_Vv (d9 := d - 1) [.int _, .int _, .int _] [] (sp_X0_addBits G (d := d - 1) (by omega) s9 _ _ _) (rfl) rfl rfl (zr (by omega)) mk_X0_addBits ly_41 ml_0_108 (Nat.le_of_ble_eq_true rfl) (fun s20 hs20 => ?_)
                obtain ⟨fs20, -⟩ := hs20
                have Fs20 := Sm.tr Fs9 (Sm.wd fs20 (lo' := 41) (hi' := 43) (by decide) (by decide))
                refine wa_return (st := []) rfl rfl ?_
                exact ⟨Fs20, (by rw [(Sm.gi fs20 15 (Or.inl (by decide))).trans (khi11_0)]; first | assumption | (((try simp only [vp_in_iff, Int32.lt_iff_toInt_lt, Int32.le_iff_toInt_le, ← Int32.toInt_inj, Int32.reduceToInt, n_1, n_2, n_8, Int32.toNatClampNeg, Int64.lt_iff_toInt_lt, Int64.le_iff_toInt_le, ← Int64.toInt_inj, Int64.reduceToInt, Int32.toInt_toInt64, lg_cmp_ge, lg_cmp_le, lg_cmp_gt, lg_cmp_lt, lg_cmp_eq, Bool.false_eq_true, Bool.true_eq_false, reduceCtorEq, false_iff, true_iff, iff_true, iff_false, and_true, true_and, and_false, false_and, reduceIte, ite_true, ite_false, eq_self] at *)) <;> omega)), trivial⟩
              · refine wa_iinc (v := (1)) (lv' := fun y22 => [(2, .int y22), (0, .ref 41), (1, .int l1)]) (by decide) rfl (by decide) (fun _ => rfl) (fun y22 hy22 => ?_)
                have ty22 := i_addT hy22.symm
                clear hy22
                refine wa_goto o_X0_walk_103 (by decide) ?_
                refine wa_pick [1, 2, 0] rfl ?_
                exact ih10 _ (by ((try simp only [vp_in_iff, Int32.lt_iff_toInt_lt, Int32.le_iff_toInt_le, ← Int32.toInt_inj, Int32.reduceToInt, n_1, n_2, n_8, Int32.toNatClampNeg, Int64.lt_iff_toInt_lt, Int64.le_iff_toInt_le, ← Int64.toInt_inj, Int64.reduceToInt, Int32.toInt_toInt64, lg_cmp_ge, lg_cmp_le, lg_cmp_gt, lg_cmp_lt, lg_cmp_eq, Bool.false_eq_true, Bool.true_eq_false, reduceCtorEq, false_iff, true_iff, iff_true, iff_false, and_true, true_and, and_false, false_and, reduceIte, ite_true, ite_false, eq_self] at *)) <;> omega) _ _ ⟨Fs9, (khi11_0), (khi11_1), (khi11_2), (by ((try simp only [vp_in_iff, Int32.lt_iff_toInt_lt, Int32.le_iff_toInt_le, ← Int32.toInt_inj, Int32.reduceToInt, n_1, n_2, n_8, Int32.toNatClampNeg, Int64.lt_iff_toInt_lt, Int64.le_iff_toInt_le, ← Int64.toInt_inj, Int64.reduceToInt, Int32.toInt_toInt64, lg_cmp_ge, lg_cmp_le, lg_cmp_gt, lg_cmp_lt, lg_cmp_eq, Bool.false_eq_true, Bool.true_eq_false, reduceCtorEq, false_iff, true_iff, iff_true, iff_false, and_true, true_and, and_false, false_and, reduceIte, ite_true, ite_false, eq_self] at *)) <;> omega), trivial⟩ rfl
        exact hi11 _ _ _ ⟨Fs5, (khi7_0), (khi7_1), (khi7_2), (by ((try simp only [vp_in_iff, Int32.lt_iff_toInt_lt, Int32.le_iff_toInt_le, ← Int32.toInt_inj, Int32.reduceToInt, n_1, n_2, n_8, Int32.toNatClampNeg, Int64.lt_iff_toInt_lt, Int64.le_iff_toInt_le, ← Int64.toInt_inj, Int64.reduceToInt, Int32.toInt_toInt64, lg_cmp_ge, lg_cmp_le, lg_cmp_gt, lg_cmp_lt, lg_cmp_eq, Bool.false_eq_true, Bool.true_eq_false, reduceCtorEq, false_iff, true_iff, iff_true, iff_false, and_true, true_and, and_false, false_and, reduceIte, ite_true, ite_false, eq_self] at *)) <;> omega), trivial⟩ rfl
      · refine wa_iconst (v := 0) (by decide) ?_
        refine wa_istore_nD (lv' := [(3, .int 0), (0, .ref 41), (1, .int l1), (2, .int l2)]) (i := 3) rfl (by decide) rfl ?_
        refine wa_pick [1, 2, 3, 0] rfl ?_
        have hi25 : ∀ (n9_42 : Nat) (l3 : Int32) (s23 : St), ((Sm 41 43 σ s23) ∧ (gi s23 41 15 = gi σ 41 15) ∧ (gi s23 7 10 = gi σ 7 10) ∧ (gi s23 41 12 = (gi σ 44 (0 : Int32).toNatClampNeg)) ∧ (0 ≤ l3.toInt) ∧ (True)) → (2147483647 - l3.toInt).toNat = n9_42 → WA G M_X0_walk (ZM G M_X0_walk d (fun r σ' => Sm 41 43 σ σ' ∧ (0 ≤ (gi σ' 41 15).toInt ∧ (gi σ' 41 15).toInt ≤ 1100) ∧ True)) B_X0_walk_42 [(0, .ref 41), (1, .int l1), (2, .int l2), (3, .int l3)] [] s23 := by
          intro n9_42
          induction n9_42 using Nat.strongRecOn with
          | _ n9_42 ih24 =>
            intro l3 s23 i9 m9_42
            obtain ⟨Fs23, khi25_0, khi25_1, khi25_2, jhi25_0, -⟩ := i9
            have ul3 := Int32.toInt_lt l3
            have wl3 := Int32.le_toInt l3
            refine wa_iload_n (i := 3) rfl rfl ?_
            refine wa_bipush (v := 15) (by decide) ?_
            refine wa_icmp_ge o_X0_walk_73 (by decide) (fun h26 => ?_) (fun h26 => ?_)
            · refine wa_aload_n (i := 0) rfl rfl ?_
              refine wa_iload_n (i := 3) rfl rfl ?_
              refine wa_aload_n (i := 0) rfl rfl ?_
              refine wa_geti ck_0 fl_0_40 ly_41 ?_
              refine wa_rw (khi25_2) ?_
              refine wa_iload_n (i := 2) rfl rfl ?_
              refine wa_isub ?_
              refine wa_top (fun v27 hv27 => ?_)
              have tv27 := i_subT hv27
              clear hv27
              refine wa_iconst (v := 1) (by decide) ?_
              refine wa_Vv (d9 := d - 1) [.int _, .int _, .int _] [] (sp_X0_addBits G (d := d - 1) (by omega) s23 _ _ _) (rfl) rfl rfl (zr (by omega)) mk_X0_addBits ly_41 ml_0_108 (Nat.le_of_ble_eq_true rfl) (fun s28 hs28 => ?_)
              obtain ⟨fs28, -⟩ := hs28
              have Fs28 := Sm.tr Fs23 (Sm.wd fs28 (lo' := 41) (hi' := 43) (by decide) (by decide))
              refine wa_aload_n (i := 0) rfl rfl ?_
              refine wa_getr ck_0 fl_0_48 ly_41 rf_41_1 ?_
              refine wa_iload_n (i := 1) rfl rfl ?_
              refine wa_iload_n (i := 3) rfl rfl ?_
              refine wa_Vi (d9 := d - 1) [.int _, .int _] [] (sp_X6_behind G (d := d - 1) (by omega) s28 _ _) (rfl) rfl rfl (zr (by omega)) mk_X6_behind ly_31 ml_0_95 (Nat.le_of_ble_eq_true rfl) (fun x31 s30 hs30 => ?_)
              obtain ⟨zs30, -⟩ := pI hs30
              subst zs30
              refine wa_istore_nD (lv' := [(1, .int x31), (0, .ref 41), (2, .int l2), (3, .int l3)]) (i := 1) rfl (by decide) rfl ?_
              refine wa_iinc (v := (-1)) (lv' := fun y32 => [(2, .int y32), (1, .int x31), (0, .ref 41), (3, .int l3)]) (by decide) rfl (by decide) (fun _ => rfl) (fun y32 hy32 => ?_)
              have ty32 := i_addT hy32.symm
              clear hy32
              refine wa_goto o_X0_walk_36 (by decide) ?_
              refine wa_pick [2, 1, 0] rfl ?_
              exact ih6 _ (by ((try simp only [vp_in_iff, Int32.lt_iff_toInt_lt, Int32.le_iff_toInt_le, ← Int32.toInt_inj, Int32.reduceToInt, n_1, n_2, n_8, Int32.toNatClampNeg, Int64.lt_iff_toInt_lt, Int64.le_iff_toInt_le, ← Int64.toInt_inj, Int64.reduceToInt, Int32.toInt_toInt64, lg_cmp_ge, lg_cmp_le, lg_cmp_gt, lg_cmp_lt, lg_cmp_eq, Bool.false_eq_true, Bool.true_eq_false, reduceCtorEq, false_iff, true_iff, iff_true, iff_false, and_true, true_and, and_false, false_and, reduceIte, ite_true, ite_false, eq_self] at *)) <;> omega) _ _ _ ⟨Fs28, ((Sm.gi fs28 15 (Or.inl (by decide))).trans (khi25_0)), ((Sm.gi fs28 10 (Or.inl (by decide))).trans (khi25_1)), ((Sm.gi fs28 12 (Or.inl (by decide))).trans (khi25_2)), trivial⟩ rfl
            · have mh26 := nle_mx h26
              refine wa_aload_n (i := 0) rfl rfl ?_
              refine wa_aload_n (i := 0) rfl rfl ?_
              refine wa_getr ck_0 fl_0_48 ly_41 rf_41_1 ?_
              refine wa_iload_n (i := 1) rfl rfl ?_
              refine wa_iload_n (i := 3) rfl rfl ?_
              refine wa_Vi (d9 := d - 1) [.int _, .int _] [.ref 41] (sp_X6_behind G (d := d - 1) (by omega) s23 _ _) (rfl) rfl rfl (zr (by omega)) mk_X6_behind ly_31 ml_0_95 (Nat.le_of_ble_eq_true rfl) (fun x34 s33 hs33 => ?_)
              obtain ⟨zs33, -⟩ := pI hs33
              subst zs33
              refine wa_Vi (d9 := d - 1) [.int _] [] (sp_X0_farFrom G (d := d - 1) (by omega) s23 _) (rfl) rfl rfl (zr (by omega)) mk_X0_farFrom ly_41 ml_0_98 (Nat.le_of_ble_eq_true rfl) (fun x36 s35 hs35 => ?_)
              obtain ⟨zs35, -⟩ := pI hs35
              subst zs35
              refine wa_iload_n (i := 2) rfl rfl ?_
              refine wa_iconst (v := 1) (by decide) ?_
              refine wa_isub ?_
              refine wa_top (fun v37 hv37 => ?_)
              have tv37 := i_subT hv37
              clear hv37
              refine wa_icmp_eq o_X0_walk_73 (by decide) (fun h38 => ?_) (fun h38 => ?_)
              · refine wa_aload_n (i := 0) rfl rfl ?_
                refine wa_iload_n (i := 3) rfl rfl ?_
                refine wa_aload_n (i := 0) rfl rfl ?_
                refine wa_geti ck_0 fl_0_40 ly_41 ?_
                refine wa_rw (khi25_2) ?_
                refine wa_iload_n (i := 2) rfl rfl ?_
                refine wa_isub ?_
                refine wa_top (fun v39 hv39 => ?_)
                have tv39 := i_subT hv39
                clear hv39
                refine wa_iconst (v := 1) (by decide) ?_
                refine wa_Vv (d9 := d - 1) [.int _, .int _, .int _] [] (sp_X0_addBits G (d := d - 1) (by omega) s23 _ _ _) (rfl) rfl rfl (zr (by omega)) mk_X0_addBits ly_41 ml_0_108 (Nat.le_of_ble_eq_true rfl) (fun s40 hs40 => ?_)
                obtain ⟨fs40, -⟩ := hs40
                have Fs40 := Sm.tr Fs23 (Sm.wd fs40 (lo' := 41) (hi' := 43) (by decide) (by decide))
                refine wa_aload_n (i := 0) rfl rfl ?_
                refine wa_getr ck_0 fl_0_48 ly_41 rf_41_1 ?_
                refine wa_iload_n (i := 1) rfl rfl ?_
                refine wa_iload_n (i := 3) rfl rfl ?_
                refine wa_Vi (d9 := d - 1) [.int _, .int _] [] (sp_X6_behind G (d := d - 1) (by omega) s40 _ _) (rfl) rfl rfl (zr (by omega)) mk_X6_behind ly_31 ml_0_95 (Nat.le_of_ble_eq_true rfl) (fun x43 s42 hs42 => ?_)
                obtain ⟨zs42, -⟩ := pI hs42
                subst zs42
                refine wa_istore_nD (lv' := [(1, .int x43), (0, .ref 41), (2, .int l2), (3, .int l3)]) (i := 1) rfl (by decide) rfl ?_
                refine wa_iinc (v := (-1)) (lv' := fun y44 => [(2, .int y44), (1, .int x43), (0, .ref 41), (3, .int l3)]) (by decide) rfl (by decide) (fun _ => rfl) (fun y44 hy44 => ?_)
                have ty44 := i_addT hy44.symm
                clear hy44
                refine wa_goto o_X0_walk_36 (by decide) ?_
                refine wa_pick [2, 1, 0] rfl ?_
                exact ih6 _ (by ((try simp only [vp_in_iff, Int32.lt_iff_toInt_lt, Int32.le_iff_toInt_le, ← Int32.toInt_inj, Int32.reduceToInt, n_1, n_2, n_8, Int32.toNatClampNeg, Int64.lt_iff_toInt_lt, Int64.le_iff_toInt_le, ← Int64.toInt_inj, Int64.reduceToInt, Int32.toInt_toInt64, lg_cmp_ge, lg_cmp_le, lg_cmp_gt, lg_cmp_lt, lg_cmp_eq, Bool.false_eq_true, Bool.true_eq_false, reduceCtorEq, false_iff, true_iff, iff_true, iff_false, and_true, true_and, and_false, false_and, reduceIte, ite_true, ite_false, eq_self] at *)) <;> omega) _ _ _ ⟨Fs40, ((Sm.gi fs40 15 (Or.inl (by decide))).trans (khi25_0)), ((Sm.gi fs40 10 (Or.inl (by decide))).trans (khi25_1)), ((Sm.gi fs40 12 (Or.inl (by decide))).trans (khi25_2)), trivial⟩ rfl
              · refine wa_iinc (v := (1)) (lv' := fun y45 => [(3, .int y45), (0, .ref 41), (1, .int l1), (2, .int l2)]) (by decide) rfl (by decide) (fun _ => rfl) (fun y45 hy45 => ?_)
                have ty45 := i_addT hy45.symm
                clear hy45
                refine wa_goto o_X0_walk_42 (by decide) ?_
                refine wa_pick [1, 2, 3, 0] rfl ?_
                exact ih24 _ (by ((try simp only [vp_in_iff, Int32.lt_iff_toInt_lt, Int32.le_iff_toInt_le, ← Int32.toInt_inj, Int32.reduceToInt, n_1, n_2, n_8, Int32.toNatClampNeg, Int64.lt_iff_toInt_lt, Int64.le_iff_toInt_le, ← Int64.toInt_inj, Int64.reduceToInt, Int32.toInt_toInt64, lg_cmp_ge, lg_cmp_le, lg_cmp_gt, lg_cmp_lt, lg_cmp_eq, Bool.false_eq_true, Bool.true_eq_false, reduceCtorEq, false_iff, true_iff, iff_true, iff_false, and_true, true_and, and_false, false_and, reduceIte, ite_true, ite_false, eq_self] at *)) <;> omega) _ _ ⟨Fs23, (khi25_0), (khi25_1), (khi25_2), (by ((try simp only [vp_in_iff, Int32.lt_iff_toInt_lt, Int32.le_iff_toInt_le, ← Int32.toInt_inj, Int32.reduceToInt, n_1, n_2, n_8, Int32.toNatClampNeg, Int64.lt_iff_toInt_lt, Int64.le_iff_toInt_le, ← Int64.toInt_inj, Int64.reduceToInt, Int32.toInt_toInt64, lg_cmp_ge, lg_cmp_le, lg_cmp_gt, lg_cmp_lt, lg_cmp_eq, Bool.false_eq_true, Bool.true_eq_false, reduceCtorEq, false_iff, true_iff, iff_true, iff_false, and_true, true_and, and_false, false_and, reduceIte, ite_true, ite_false, eq_self] at *)) <;> omega), trivial⟩ rfl
        exact hi25 _ _ _ ⟨Fs5, (khi7_0), (khi7_1), (khi7_2), (by ((try simp only [vp_in_iff, Int32.lt_iff_toInt_lt, Int32.le_iff_toInt_le, ← Int32.toInt_inj, Int32.reduceToInt, n_1, n_2, n_8, Int32.toNatClampNeg, Int64.lt_iff_toInt_lt, Int64.le_iff_toInt_le, ← Int64.toInt_inj, Int64.reduceToInt, Int32.toInt_toInt64, lg_cmp_ge, lg_cmp_le, lg_cmp_gt, lg_cmp_lt, lg_cmp_eq, Bool.false_eq_true, Bool.true_eq_false, reduceCtorEq, false_iff, true_iff, iff_true, iff_false, and_true, true_and, and_false, false_and, reduceIte, ite_true, ite_false, eq_self] at *)) <;> omega), trivial⟩ rfl
  exact hi7 _ _ _ _ ⟨Fs3, ((Sm.gi fs3 15 (Or.inl (by decide))).trans ((nxk_gi_si hs2 (by decide)).trans (nxk_gi_si hs1 (by decide)))), ((Sm.gi fs3 10 (Or.inl (by decide))).trans ((nxq_gi_si hs2 (by decide)).trans (nxq_gi_si hs1 (by decide)))), ((Sm.gi fs3 12 (Or.inl (by decide))).trans ((nxk_gi_si hs2 (by decide)).trans (nxe_gi_si hs1))), trivial⟩ rfl
set_option maxHeartbeats 4000000 in
theorem sp_X0_tellLeast (G : kG9) {d : Nat} (hd : 3 ≤ d) (σ : St) (a0 : Int32) (a1 : Int32) (r1 : 0 ≤ (gi σ 31 13).toInt ∧ (gi σ 31 13).toInt ≤ 3000) (r2 : 0 ≤ (gi σ 41 15).toInt ∧ (gi σ 41 15).toInt ≤ 1100) : Ct G M_X0_tellLeast d [.ref 41, .int a0, .int a1] σ (fun r σ' => ∃ x : Bool, r = some (.int (bI x)) ∧ Sm 41 46 σ σ' ∧ (0 ≤ (gi σ' 41 15).toInt ∧ (gi σ' 41 15).toInt ≤ 1100) ∧ True) := by
  refine wa_start (by decide) rfl (Nat.le_of_ble_eq_true rfl) (lv := [(0, .ref 41), (1, .int a0), (2, .int a1)]) rfl o_X0_tellLeast_0 rfl ?_
  have ua0 := Int32.toInt_lt a0
  have wa0 := Int32.le_toInt a0
  have ua1 := Int32.toInt_lt a1
  have wa1 := Int32.le_toInt a1
  refine wa_aload_n (i := 0) rfl rfl ?_
  refine wa_iload_n (i := 1) rfl rfl ?_
  refine wa_iload_n (i := 2) rfl rfl ?_
  refine wa_Vi (d9 := d - 1) [.int _, .int _] [] (sp_X0_findEnds G (d := d - 1) (by omega) σ _ _ (by first | assumption | exact Or.inl rfl | exact Or.inr rfl | (((try simp only [vp_in_iff, Int32.lt_iff_toInt_lt, Int32.le_iff_toInt_le, ← Int32.toInt_inj, Int32.reduceToInt, n_1, n_2, n_8, Int32.toNatClampNeg, Int64.lt_iff_toInt_lt, Int64.le_iff_toInt_le, ← Int64.toInt_inj, Int64.reduceToInt, Int32.toInt_toInt64, lg_cmp_ge, lg_cmp_le, lg_cmp_gt, lg_cmp_lt, lg_cmp_eq, Bool.false_eq_true, Bool.true_eq_false, reduceCtorEq, false_iff, true_iff, iff_true, iff_false, and_true, true_and, and_false, false_and, reduceIte, ite_true, ite_false, eq_self] at *)) <;> omega))) (rfl) rfl rfl (zr (by omega)) mk_X0_findEnds ly_41 ml_0_82 (Nat.le_of_ble_eq_true rfl) (fun x2 s1 hs1 => ?_)
  obtain ⟨fs1, cx2_1, cx2_2, -⟩ := pI hs1
  have Fs1 := Sm.tr (Sm.rf 41 46 σ) (Sm.wd fs1 (lo' := 41) (hi' := 46) (by decide) (by decide))
  refine wa_istore_nD (lv' := [(3, .int x2), (0, .ref 41), (1, .int a0), (2, .int a1)]) (i := 3) rfl (by decide) rfl ?_
  refine wa_iconst (v := 0) (by decide) ?_
  refine wa_istoreD (lv' := [(4, .int 0), (3, .int x2), (0, .ref 41), (1, .int a0), (2, .int a1)]) (by decide) rfl ?_
  refine wa_pick [2, 1, 0] rfl ?_
  have hi5 : ∀ (n9_10 : Nat) (l4 : Int32) (s3 : St), ((Sm 41 46 σ s3) ∧ (gi s3 31 13 = gi σ 31 13) ∧ (gi s3 41 15 = gi σ 41 15) ∧ (0 ≤ l4.toInt) ∧ (True)) → (2147483647 - l4.toInt).toNat = n9_10 → WA G M_X0_tellLeast (ZM G M_X0_tellLeast d (fun r σ' => ∃ x : Bool, r = some (.int (bI x)) ∧ Sm 41 46 σ σ' ∧ (0 ≤ (gi σ' 41 15).toInt ∧ (gi σ' 41 15).toInt ≤ 1100) ∧ True)) B_X0_tellLeast_10 [(0, .ref 41), (3, .int x2), (4, .int l4)] [] s3 := by
    intro n9_10
    induction n9_10 using Nat.strongRecOn with
    | _ n9_10 ih4 =>
      intro l4 s3 i9 m9_10
      obtain ⟨Fs3, khi5_0, khi5_1, jhi5_0, -⟩ := i9
      have ul4 := Int32.toInt_lt l4
      have wl4 := Int32.le_toInt l4
      refine wa_iload rfl ?_
      refine wa_iload_n (i := 3) rfl rfl ?_
      refine wa_icmp_ge o_X0_tellLeast_44 (by decide) (fun h6 => ?_) (fun h6 => ?_)
      · refine wa_iconst (v := 1) (by decide) ?_
        refine wa_istoreD (lv' := [(4, .int (bI true)), (0, .ref 41), (3, .int x2)]) (by decide) rfl ?_
        refine wa_iconst (v := 1) (by decide) ?_
        refine wa_istoreD (lv' := [(5, .int 1), (4, .int (bI true)), (0, .ref 41), (3, .int x2)]) (by decide) rfl ?_
        refine wa_pick [2, 3, 1, 0] rfl ?_
        have hi9 : ∀ (n9_50 : Nat) (l4 : Bool) (l5 : Int32) (s7 : St), ((Sm 41 46 σ s7) ∧ (gi s7 31 13 = gi σ 31 13) ∧ (gi s7 41 15 = gi σ 41 15) ∧ (0 ≤ l5.toInt) ∧ (True)) → (2147483647 - l5.toInt).toNat = n9_50 → WA G M_X0_tellLeast (ZM G M_X0_tellLeast d (fun r σ' => ∃ x : Bool, r = some (.int (bI x)) ∧ Sm 41 46 σ σ' ∧ (0 ≤ (gi σ' 41 15).toInt ∧ (gi σ' 41 15).toInt ≤ 1100) ∧ True)) B_X0_tellLeast_50 [(0, .ref 41), (3, .int x2), (4, .int (bI l4)), (5, .int l5)] [] s7 := by
          intro n9_50
          induction n9_50 using Nat.strongRecOn with
          | _ n9_50 ih8 =>
            intro l4 l5 s7 i9 m9_50
            obtain ⟨Fs7, khi9_0, khi9_1, jhi9_0, -⟩ := i9
            have ul5 := Int32.toInt_lt l5
            have wl5 := Int32.le_toInt l5
            refine wa_iload rfl ?_
            refine wa_iload_n (i := 3) rfl rfl ?_
            refine wa_icmp_gt o_X0_tellLeast_86 (by decide) (fun h10 => ?_) (fun h10 => ?_)
            · refine wa_aload_n (i := 0) rfl rfl ?_
              refine wa_getr ck_0 fl_0_18 ly_41 rf_41_4 ?_
              refine wa_iconst (v := 0) (by decide) ?_
              refine wa_iald ly_44 (by ((try simp only [vp_in_iff, Int32.lt_iff_toInt_lt, Int32.le_iff_toInt_le, ← Int32.toInt_inj, Int32.reduceToInt, n_1, n_2, n_8, Int32.toNatClampNeg, Int64.lt_iff_toInt_lt, Int64.le_iff_toInt_le, ← Int64.toInt_inj, Int64.reduceToInt, Int32.toInt_toInt64, lg_cmp_ge, lg_cmp_le, lg_cmp_gt, lg_cmp_lt, lg_cmp_eq, Bool.false_eq_true, Bool.true_eq_false, reduceCtorEq, false_iff, true_iff, iff_true, iff_false, and_true, true_and, and_false, false_and, reduceIte, ite_true, ite_false, eq_self] at *)) <;> omega) ?_
              refine wa_iconst (v := (-1)) (by decide) ?_
              refine wa_icmp_ne o_X0_tellLeast_98 (by decide) (fun h11 => ?_) (fun h11 => ?_)
              · refine wa_aload_n (i := 0) rfl rfl ?_
                refine wa_Vv (d9 := d - 1) [] [] (sp_X0_walk G (d := d - 1) (by omega) s7  (by rw [khi9_1]; first | assumption | exact Or.inl rfl | exact Or.inr rfl | (((try simp only [vp_in_iff, Int32.lt_iff_toInt_lt, Int32.le_iff_toInt_le, ← Int32.toInt_inj, Int32.reduceToInt, n_1, n_2, n_8, Int32.toNatClampNeg, Int64.lt_iff_toInt_lt, Int64.le_iff_toInt_le, ← Int64.toInt_inj, Int64.reduceToInt, Int32.toInt_toInt64, lg_cmp_ge, lg_cmp_le, lg_cmp_gt, lg_cmp_lt, lg_cmp_eq, Bool.false_eq_true, Bool.true_eq_false, reduceCtorEq, false_iff, true_iff, iff_true, iff_false, and_true, true_and, and_false, false_and, reduceIte, ite_true, ite_false, eq_self] at *)) <;> omega))) (rfl) rfl rfl (zr (by omega)) mk_X0_walk ly_41 ml_0_89 (Nat.le_of_ble_eq_true rfl) (fun s12 hs12 => ?_)
                obtain ⟨fs12, cx13_1, -⟩ := hs12
                have Fs12 := Sm.tr Fs7 (Sm.wd fs12 (lo' := 41) (hi' := 46) (by decide) (by decide))
                refine wa_iconst (v := 1) (by decide) ?_
                refine wa_zreturn true (rfl) rfl rfl ?_
                exact ⟨_, rfl, Fs12, (by first | assumption | (((try simp only [vp_in_iff, Int32.lt_iff_toInt_lt, Int32.le_iff_toInt_le, ← Int32.toInt_inj, Int32.reduceToInt, n_1, n_2, n_8, Int32.toNatClampNeg, Int64.lt_iff_toInt_lt, Int64.le_iff_toInt_le, ← Int64.toInt_inj, Int64.reduceToInt, Int32.toInt_toInt64, lg_cmp_ge, lg_cmp_le, lg_cmp_gt, lg_cmp_lt, lg_cmp_eq, Bool.false_eq_true, Bool.true_eq_false, reduceCtorEq, false_iff, true_iff, iff_true, iff_false, and_true, true_and, and_false, false_and, reduceIte, ite_true, ite_false, eq_self] at *)) <;> omega)), trivial⟩
              · refine wa_iconst (v := 0) (by decide) ?_
                refine wa_zreturn false (rfl) rfl rfl ?_
                exact ⟨_, rfl, Fs7, (by rw [khi9_1]; first | assumption | (((try simp only [vp_in_iff, Int32.lt_iff_toInt_lt, Int32.le_iff_toInt_le, ← Int32.toInt_inj, Int32.reduceToInt, n_1, n_2, n_8, Int32.toNatClampNeg, Int64.lt_iff_toInt_lt, Int64.le_iff_toInt_le, ← Int64.toInt_inj, Int64.reduceToInt, Int32.toInt_toInt64, lg_cmp_ge, lg_cmp_le, lg_cmp_gt, lg_cmp_lt, lg_cmp_eq, Bool.false_eq_true, Bool.true_eq_false, reduceCtorEq, false_iff, true_iff, iff_true, iff_false, and_true, true_and, and_false, false_and, reduceIte, ite_true, ite_false, eq_self] at *)) <;> omega)), trivial⟩
            · refine wa_iload rfl ?_
              refine wa_if_eq o_X0_tellLeast_86 (by decide) (fun h14 => ?_) (fun h14 => ?_)
              · replace h14 := bI_f (b := l4) (rfl) h14
                refine wa_aload_n (i := 0) rfl rfl ?_
                refine wa_getr ck_0 fl_0_18 ly_41 rf_41_4 ?_
                refine wa_iconst (v := 0) (by decide) ?_
                refine wa_iald ly_44 (by ((try simp only [vp_in_iff, Int32.lt_iff_toInt_lt, Int32.le_iff_toInt_le, ← Int32.toInt_inj, Int32.reduceToInt, n_1, n_2, n_8, Int32.toNatClampNeg, Int64.lt_iff_toInt_lt, Int64.le_iff_toInt_le, ← Int64.toInt_inj, Int64.reduceToInt, Int32.toInt_toInt64, lg_cmp_ge, lg_cmp_le, lg_cmp_gt, lg_cmp_lt, lg_cmp_eq, Bool.false_eq_true, Bool.true_eq_false, reduceCtorEq, false_iff, true_iff, iff_true, iff_false, and_true, true_and, and_false, false_and, reduceIte, ite_true, ite_false, eq_self] at *)) <;> omega) ?_
                refine wa_iconst (v := (-1)) (by decide) ?_
                refine wa_icmp_ne o_X0_tellLeast_98 (by decide) (fun h15 => ?_) (fun h15 => ?_)
                · refine wa_aload_n (i := 0) rfl rfl ?_
                  refine wa_Vv (d9 := d - 1) [] [] (sp_X0_walk G (d := d - 1) (by omega) s7  (by rw [khi9_1]; first | assumption | exact Or.inl rfl | exact Or.inr rfl | (((try simp only [vp_in_iff, Int32.lt_iff_toInt_lt, Int32.le_iff_toInt_le, ← Int32.toInt_inj, Int32.reduceToInt, n_1, n_2, n_8, Int32.toNatClampNeg, Int64.lt_iff_toInt_lt, Int64.le_iff_toInt_le, ← Int64.toInt_inj, Int64.reduceToInt, Int32.toInt_toInt64, lg_cmp_ge, lg_cmp_le, lg_cmp_gt, lg_cmp_lt, lg_cmp_eq, Bool.false_eq_true, Bool.true_eq_false, reduceCtorEq, false_iff, true_iff, iff_true, iff_false, and_true, true_and, and_false, false_and, reduceIte, ite_true, ite_false, eq_self] at *)) <;> omega))) (rfl) rfl rfl (zr (by omega)) mk_X0_walk ly_41 ml_0_89 (Nat.le_of_ble_eq_true rfl) (fun s16 hs16 => ?_)
                  obtain ⟨fs16, cx17_1, -⟩ := hs16
                  have Fs16 := Sm.tr Fs7 (Sm.wd fs16 (lo' := 41) (hi' := 46) (by decide) (by decide))
                  refine wa_iconst (v := 1) (by decide) ?_
                  refine wa_zreturn true (rfl) rfl rfl ?_
                  exact ⟨_, rfl, Fs16, (by first | assumption | (((try simp only [vp_in_iff, Int32.lt_iff_toInt_lt, Int32.le_iff_toInt_le, ← Int32.toInt_inj, Int32.reduceToInt, n_1, n_2, n_8, Int32.toNatClampNeg, Int64.lt_iff_toInt_lt, Int64.le_iff_toInt_le, ← Int64.toInt_inj, Int64.reduceToInt, Int32.toInt_toInt64, lg_cmp_ge, lg_cmp_le, lg_cmp_gt, lg_cmp_lt, lg_cmp_eq, Bool.false_eq_true, Bool.true_eq_false, reduceCtorEq, false_iff, true_iff, iff_true, iff_false, and_true, true_and, and_false, false_and, reduceIte, ite_true, ite_false, eq_self] at *)) <;> omega)), trivial⟩
                · refine wa_iconst (v := 0) (by decide) ?_
                  refine wa_zreturn false (rfl) rfl rfl ?_
                  exact ⟨_, rfl, Fs7, (by rw [khi9_1]; first | assumption | (((try simp only [vp_in_iff, Int32.lt_iff_toInt_lt, Int32.le_iff_toInt_le, ← Int32.toInt_inj, Int32.reduceToInt, n_1, n_2, n_8, Int32.toNatClampNeg, Int64.lt_iff_toInt_lt, Int64.le_iff_toInt_le, ← Int64.toInt_inj, Int64.reduceToInt, Int32.toInt_toInt64, lg_cmp_ge, lg_cmp_le, lg_cmp_gt, lg_cmp_lt, lg_cmp_eq, Bool.false_eq_true, Bool.true_eq_false, reduceCtorEq, false_iff, true_iff, iff_true, iff_false, and_true, true_and, and_false, false_and, reduceIte, ite_true, ite_false, eq_self] at *)) <;> omega)), trivial⟩
              · replace h14 := bI_t (b := l4) (rfl) h14
                refine wa_aload_n (i := 0) rfl rfl ?_
                refine wa_getr ck_0 fl_0_18 ly_41 rf_41_4 ?_
                refine wa_iconst (v := 0) (by decide) ?_
                refine wa_iald ly_44 (by ((try simp only [vp_in_iff, Int32.lt_iff_toInt_lt, Int32.le_iff_toInt_le, ← Int32.toInt_inj, Int32.reduceToInt, n_1, n_2, n_8, Int32.toNatClampNeg, Int64.lt_iff_toInt_lt, Int64.le_iff_toInt_le, ← Int64.toInt_inj, Int64.reduceToInt, Int32.toInt_toInt64, lg_cmp_ge, lg_cmp_le, lg_cmp_gt, lg_cmp_lt, lg_cmp_eq, Bool.false_eq_true, Bool.true_eq_false, reduceCtorEq, false_iff, true_iff, iff_true, iff_false, and_true, true_and, and_false, false_and, reduceIte, ite_true, ite_false, eq_self] at *)) <;> omega) ?_
                refine wa_iconst (v := (-1)) (by decide) ?_
                refine wa_icmp_ne o_X0_tellLeast_86 (by decide) (fun h18 => ?_) (fun h18 => ?_)
                · refine wa_aload_n (i := 0) rfl rfl ?_
                  refine wa_getr ck_0 fl_0_18 ly_41 rf_41_4 ?_
                  refine wa_iconst (v := 0) (by decide) ?_
                  refine wa_iald ly_44 (by ((try simp only [vp_in_iff, Int32.lt_iff_toInt_lt, Int32.le_iff_toInt_le, ← Int32.toInt_inj, Int32.reduceToInt, n_1, n_2, n_8, Int32.toNatClampNeg, Int64.lt_iff_toInt_lt, Int64.le_iff_toInt_le, ← Int64.toInt_inj, Int64.reduceToInt, Int32.toInt_toInt64, lg_cmp_ge, lg_cmp_le, lg_cmp_gt, lg_cmp_lt, lg_cmp_eq, Bool.false_eq_true, Bool.true_eq_false, reduceCtorEq, false_iff, true_iff, iff_true, iff_false, and_true, true_and, and_false, false_and, reduceIte, ite_true, ite_false, eq_self] at *)) <;> omega) ?_
                  refine wa_iconst (v := (-1)) (by decide) ?_
                  refine wa_icmp_ne o_X0_tellLeast_98 (by decide) (fun h19 => ?_) (fun h19 => ?_)
                  · refine wa_aload_n (i := 0) rfl rfl ?_
                    refine wa_Vv (d9 := d - 1) [] [] (sp_X0_walk G (d := d - 1) (by omega) s7  (by rw [khi9_1]; first | assumption | exact Or.inl rfl | exact Or.inr rfl | (((try simp only [vp_in_iff, Int32.lt_iff_toInt_lt, Int32.le_iff_toInt_le, ← Int32.toInt_inj, Int32.reduceToInt, n_1, n_2, n_8, Int32.toNatClampNeg, Int64.lt_iff_toInt_lt, Int64.le_iff_toInt_le, ← Int64.toInt_inj, Int64.reduceToInt, Int32.toInt_toInt64, lg_cmp_ge, lg_cmp_le, lg_cmp_gt, lg_cmp_lt, lg_cmp_eq, Bool.false_eq_true, Bool.true_eq_false, reduceCtorEq, false_iff, true_iff, iff_true, iff_false, and_true, true_and, and_false, false_and, reduceIte, ite_true, ite_false, eq_self] at *)) <;> omega))) (rfl) rfl rfl (zr (by omega)) mk_X0_walk ly_41 ml_0_89 (Nat.le_of_ble_eq_true rfl) (fun s20 hs20 => ?_)
                    obtain ⟨fs20, cx21_1, -⟩ := hs20
                    have Fs20 := Sm.tr Fs7 (Sm.wd fs20 (lo' := 41) (hi' := 46) (by decide) (by decide))
                    refine wa_iconst (v := 1) (by decide) ?_
                    refine wa_zreturn true (rfl) rfl rfl ?_
                    exact ⟨_, rfl, Fs20, (by first | assumption | (((try simp only [vp_in_iff, Int32.lt_iff_toInt_lt, Int32.le_iff_toInt_le, ← Int32.toInt_inj, Int32.reduceToInt, n_1, n_2, n_8, Int32.toNatClampNeg, Int64.lt_iff_toInt_lt, Int64.le_iff_toInt_le, ← Int64.toInt_inj, Int64.reduceToInt, Int32.toInt_toInt64, lg_cmp_ge, lg_cmp_le, lg_cmp_gt, lg_cmp_lt, lg_cmp_eq, Bool.false_eq_true, Bool.true_eq_false, reduceCtorEq, false_iff, true_iff, iff_true, iff_false, and_true, true_and, and_false, false_and, reduceIte, ite_true, ite_false, eq_self] at *)) <;> omega)), trivial⟩
                  · refine wa_iconst (v := 0) (by decide) ?_
                    refine wa_zreturn false (rfl) rfl rfl ?_
                    exact ⟨_, rfl, Fs7, (by rw [khi9_1]; first | assumption | (((try simp only [vp_in_iff, Int32.lt_iff_toInt_lt, Int32.le_iff_toInt_le, ← Int32.toInt_inj, Int32.reduceToInt, n_1, n_2, n_8, Int32.toNatClampNeg, Int64.lt_iff_toInt_lt, Int64.le_iff_toInt_le, ← Int64.toInt_inj, Int64.reduceToInt, Int32.toInt_toInt64, lg_cmp_ge, lg_cmp_le, lg_cmp_gt, lg_cmp_lt, lg_cmp_eq, Bool.false_eq_true, Bool.true_eq_false, reduceCtorEq, false_iff, true_iff, iff_true, iff_false, and_true, true_and, and_false, false_and, reduceIte, ite_true, ite_false, eq_self] at *)) <;> omega)), trivial⟩
                · refine wa_aload_n (i := 0) rfl rfl ?_
                  refine wa_iload rfl ?_
                  refine wa_iload_n (i := 3) rfl rfl ?_
                  refine wa_Vi (d9 := d - 1) [.int _, .int _] [] (sp_X0_spread G (d := d - 1) (by omega) s7 _ _ (by ((try simp only [vp_in_iff, Int32.lt_iff_toInt_lt, Int32.le_iff_toInt_le, ← Int32.toInt_inj, Int32.reduceToInt, n_1, n_2, n_8, Int32.toNatClampNeg, Int64.lt_iff_toInt_lt, Int64.le_iff_toInt_le, ← Int64.toInt_inj, Int64.reduceToInt, Int32.toInt_toInt64, lg_cmp_ge, lg_cmp_le, lg_cmp_gt, lg_cmp_lt, lg_cmp_eq, Bool.false_eq_true, Bool.true_eq_false, reduceCtorEq, false_iff, true_iff, iff_true, iff_false, and_true, true_and, and_false, false_and, reduceIte, ite_true, ite_false, eq_self] at *)) <;> omega)) (rfl) rfl rfl (zr (by omega)) mk_X0_spread ly_41 ml_0_85 (Nat.le_of_ble_eq_true rfl) (fun x23 s22 hs22 => ?_)
                  obtain ⟨bx23, ex23, fs22, -⟩ := pB hs22
                  subst ex23
                  have Fs22 := Sm.tr Fs7 (Sm.wd fs22 (lo' := 41) (hi' := 46) (by decide) (by decide))
                  refine wa_istoreD (lv' := [(4, .int (bI bx23)), (0, .ref 41), (3, .int x2), (5, .int l5)]) (by decide) rfl ?_
                  refine wa_iinc (v := (1)) (lv' := fun y24 => [(5, .int y24), (4, .int (bI bx23)), (0, .ref 41), (3, .int x2)]) (by decide) rfl (by decide) (fun _ => rfl) (fun y24 hy24 => ?_)
                  have ty24 := i_addT hy24.symm
                  clear hy24
                  refine wa_goto o_X0_tellLeast_50 (by decide) ?_
                  refine wa_pick [2, 3, 1, 0] rfl ?_
                  exact ih8 _ (by ((try simp only [vp_in_iff, Int32.lt_iff_toInt_lt, Int32.le_iff_toInt_le, ← Int32.toInt_inj, Int32.reduceToInt, n_1, n_2, n_8, Int32.toNatClampNeg, Int64.lt_iff_toInt_lt, Int64.le_iff_toInt_le, ← Int64.toInt_inj, Int64.reduceToInt, Int32.toInt_toInt64, lg_cmp_ge, lg_cmp_le, lg_cmp_gt, lg_cmp_lt, lg_cmp_eq, Bool.false_eq_true, Bool.true_eq_false, reduceCtorEq, false_iff, true_iff, iff_true, iff_false, and_true, true_and, and_false, false_and, reduceIte, ite_true, ite_false, eq_self] at *)) <;> omega) _ _ _ ⟨Fs22, ((Sm.gi fs22 13 (Or.inl (by decide))).trans (khi9_0)), ((Sm.gi fs22 15 (Or.inl (by decide))).trans (khi9_1)), (by ((try simp only [vp_in_iff, Int32.lt_iff_toInt_lt, Int32.le_iff_toInt_le, ← Int32.toInt_inj, Int32.reduceToInt, n_1, n_2, n_8, Int32.toNatClampNeg, Int64.lt_iff_toInt_lt, Int64.le_iff_toInt_le, ← Int64.toInt_inj, Int64.reduceToInt, Int32.toInt_toInt64, lg_cmp_ge, lg_cmp_le, lg_cmp_gt, lg_cmp_lt, lg_cmp_eq, Bool.false_eq_true, Bool.true_eq_false, reduceCtorEq, false_iff, true_iff, iff_true, iff_false, and_true, true_and, and_false, false_and, reduceIte, ite_true, ite_false, eq_self] at *)) <;> omega), trivial⟩ rfl
        exact hi9 _ _ _ _ ⟨Fs3, (khi5_0), (khi5_1), (by ((try simp only [vp_in_iff, Int32.lt_iff_toInt_lt, Int32.le_iff_toInt_le, ← Int32.toInt_inj, Int32.reduceToInt, n_1, n_2, n_8, Int32.toNatClampNeg, Int64.lt_iff_toInt_lt, Int64.le_iff_toInt_le, ← Int64.toInt_inj, Int64.reduceToInt, Int32.toInt_toInt64, lg_cmp_ge, lg_cmp_le, lg_cmp_gt, lg_cmp_lt, lg_cmp_eq, Bool.false_eq_true, Bool.true_eq_false, reduceCtorEq, false_iff, true_iff, iff_true, iff_false, and_true, true_and, and_false, false_and, reduceIte, ite_true, ite_false, eq_self] at *)) <;> omega), trivial⟩ rfl
      · have mh6 := nle_mx h6
        refine wa_aload_n (i := 0) rfl rfl ?_
        refine wa_getr ck_0 fl_0_18 ly_41 rf_41_4 ?_
        refine wa_iload rfl ?_
        refine wa_aload_n (i := 0) rfl rfl ?_
        refine wa_getr ck_0 fl_0_22 ly_41 rf_41_5 ?_
        refine wa_iload rfl ?_
        refine wa_iald ly_45 (by ((try simp only [vp_in_iff, Int32.lt_iff_toInt_lt, Int32.le_iff_toInt_le, ← Int32.toInt_inj, Int32.reduceToInt, n_1, n_2, n_8, Int32.toNatClampNeg, Int64.lt_iff_toInt_lt, Int64.le_iff_toInt_le, ← Int64.toInt_inj, Int64.reduceToInt, Int32.toInt_toInt64, lg_cmp_ge, lg_cmp_le, lg_cmp_gt, lg_cmp_lt, lg_cmp_eq, Bool.false_eq_true, Bool.true_eq_false, reduceCtorEq, false_iff, true_iff, iff_true, iff_false, and_true, true_and, and_false, false_and, reduceIte, ite_true, ite_false, eq_self] at *)) <;> omega) ?_
        refine wa_if_eq o_X0_tellLeast_36 (by decide) (fun h25 => ?_) (fun h25 => ?_)
        · refine wa_iconst (v := (-1)) (by decide) ?_
          refine wa_iast ly_44 (by ((try simp only [vp_in_iff, Int32.lt_iff_toInt_lt, Int32.le_iff_toInt_le, ← Int32.toInt_inj, Int32.reduceToInt, n_1, n_2, n_8, Int32.toNatClampNeg, Int64.lt_iff_toInt_lt, Int64.le_iff_toInt_le, ← Int64.toInt_inj, Int64.reduceToInt, Int32.toInt_toInt64, lg_cmp_ge, lg_cmp_le, lg_cmp_gt, lg_cmp_lt, lg_cmp_eq, Bool.false_eq_true, Bool.true_eq_false, reduceCtorEq, false_iff, true_iff, iff_true, iff_false, and_true, true_and, and_false, false_and, reduceIte, ite_true, ite_false, eq_self] at *)) <;> omega) (fun s26 hs26 => ?_)
          have Fs26 : Sm 41 46 σ s26 := by rw [hs26]; exact Sm.si Fs3 _ _ (by decide) (by decide)
          refine wa_iinc (v := (1)) (lv' := fun y27 => [(4, .int y27), (0, .ref 41), (3, .int x2)]) (by decide) rfl (by decide) (fun _ => rfl) (fun y27 hy27 => ?_)
          have ty27 := i_addT hy27.symm
          clear hy27
          refine wa_goto o_X0_tellLeast_10 (by decide) ?_
          refine wa_pick [1, 2, 0] rfl ?_
          exact ih4 _ (by ((try simp only [vp_in_iff, Int32.lt_iff_toInt_lt, Int32.le_iff_toInt_le, ← Int32.toInt_inj, Int32.reduceToInt, n_1, n_2, n_8, Int32.toNatClampNeg, Int64.lt_iff_toInt_lt, Int64.le_iff_toInt_le, ← Int64.toInt_inj, Int64.reduceToInt, Int32.toInt_toInt64, lg_cmp_ge, lg_cmp_le, lg_cmp_gt, lg_cmp_lt, lg_cmp_eq, Bool.false_eq_true, Bool.true_eq_false, reduceCtorEq, false_iff, true_iff, iff_true, iff_false, and_true, true_and, and_false, false_and, reduceIte, ite_true, ite_false, eq_self] at *)) <;> omega) _ _ ⟨Fs26, ((nxq_gi_si hs26 (by decide)).trans (khi5_0)), ((nxq_gi_si hs26 (by decide)).trans (khi5_1)), (by ((try simp only [vp_in_iff, Int32.lt_iff_toInt_lt, Int32.le_iff_toInt_le, ← Int32.toInt_inj, Int32.reduceToInt, n_1, n_2, n_8, Int32.toNatClampNeg, Int64.lt_iff_toInt_lt, Int64.le_iff_toInt_le, ← Int64.toInt_inj, Int64.reduceToInt, Int32.toInt_toInt64, lg_cmp_ge, lg_cmp_le, lg_cmp_gt, lg_cmp_lt, lg_cmp_eq, Bool.false_eq_true, Bool.true_eq_false, reduceCtorEq, false_iff, true_iff, iff_true, iff_false, and_true, true_and, and_false, false_and, reduceIte, ite_true, ite_false, eq_self] at *)) <;> omega), trivial⟩ rfl
        · refine wa_iconst (v := 0) (by decide) ?_
          refine wa_goto o_X0_tellLeast_37 (by decide) ?_
          refine wa_iast ly_44 (by ((try simp only [vp_in_iff, Int32.lt_iff_toInt_lt, Int32.le_iff_toInt_le, ← Int32.toInt_inj, Int32.reduceToInt, n_1, n_2, n_8, Int32.toNatClampNeg, Int64.lt_iff_toInt_lt, Int64.le_iff_toInt_le, ← Int64.toInt_inj, Int64.reduceToInt, Int32.toInt_toInt64, lg_cmp_ge, lg_cmp_le, lg_cmp_gt, lg_cmp_lt, lg_cmp_eq, Bool.false_eq_true, Bool.true_eq_false, reduceCtorEq, false_iff, true_iff, iff_true, iff_false, and_true, true_and, and_false, false_and, reduceIte, ite_true, ite_false, eq_self] at *)) <;> omega) (fun s28 hs28 => ?_)
          have Fs28 : Sm 41 46 σ s28 := by rw [hs28]; exact Sm.si Fs3 _ _ (by decide) (by decide)
          refine wa_iinc (v := (1)) (lv' := fun y29 => [(4, .int y29), (0, .ref 41), (3, .int x2)]) (by decide) rfl (by decide) (fun _ => rfl) (fun y29 hy29 => ?_)
          have ty29 := i_addT hy29.symm
          clear hy29
          refine wa_goto o_X0_tellLeast_10 (by decide) ?_
          refine wa_pick [1, 2, 0] rfl ?_
          exact ih4 _ (by ((try simp only [vp_in_iff, Int32.lt_iff_toInt_lt, Int32.le_iff_toInt_le, ← Int32.toInt_inj, Int32.reduceToInt, n_1, n_2, n_8, Int32.toNatClampNeg, Int64.lt_iff_toInt_lt, Int64.le_iff_toInt_le, ← Int64.toInt_inj, Int64.reduceToInt, Int32.toInt_toInt64, lg_cmp_ge, lg_cmp_le, lg_cmp_gt, lg_cmp_lt, lg_cmp_eq, Bool.false_eq_true, Bool.true_eq_false, reduceCtorEq, false_iff, true_iff, iff_true, iff_false, and_true, true_and, and_false, false_and, reduceIte, ite_true, ite_false, eq_self] at *)) <;> omega) _ _ ⟨Fs28, ((nxq_gi_si hs28 (by decide)).trans (khi5_0)), ((nxq_gi_si hs28 (by decide)).trans (khi5_1)), (by ((try simp only [vp_in_iff, Int32.lt_iff_toInt_lt, Int32.le_iff_toInt_le, ← Int32.toInt_inj, Int32.reduceToInt, n_1, n_2, n_8, Int32.toNatClampNeg, Int64.lt_iff_toInt_lt, Int64.le_iff_toInt_le, ← Int64.toInt_inj, Int64.reduceToInt, Int32.toInt_toInt64, lg_cmp_ge, lg_cmp_le, lg_cmp_gt, lg_cmp_lt, lg_cmp_eq, Bool.false_eq_true, Bool.true_eq_false, reduceCtorEq, false_iff, true_iff, iff_true, iff_false, and_true, true_and, and_false, false_and, reduceIte, ite_true, ite_false, eq_self] at *)) <;> omega), trivial⟩ rfl
  exact hi5 _ _ _ ⟨Fs1, (Sm.gi fs1 13 (Or.inl (by decide))), (Sm.gi fs1 15 (Or.inl (by decide))), (by ((try simp only [vp_in_iff, Int32.lt_iff_toInt_lt, Int32.le_iff_toInt_le, ← Int32.toInt_inj, Int32.reduceToInt, n_1, n_2, n_8, Int32.toNatClampNeg, Int64.lt_iff_toInt_lt, Int64.le_iff_toInt_le, ← Int64.toInt_inj, Int64.reduceToInt, Int32.toInt_toInt64, lg_cmp_ge, lg_cmp_le, lg_cmp_gt, lg_cmp_lt, lg_cmp_eq, Bool.false_eq_true, Bool.true_eq_false, reduceCtorEq, false_iff, true_iff, iff_true, iff_false, and_true, true_and, and_false, false_and, reduceIte, ite_true, ite_false, eq_self] at *)) <;> omega), trivial⟩ rfl
set_option maxHeartbeats 4000000 in
theorem sp_X0_weigh (G : kG9) {d : Nat} (hd : 0 ≤ d) (σ : St) (a1 : Int32) : Ct G M_X0_weigh d [.ref 41, .ref 29, .int a1] σ (fun r σ' => Sm 46 47 σ σ' ∧ True) := by
  refine wa_start (by decide) rfl (Nat.le_of_ble_eq_true rfl) (lv := [(0, .ref 41), (1, .ref 29), (2, .int a1)]) rfl o_X0_weigh_0 rfl ?_
  have ua1 := Int32.toInt_lt a1
  have wa1 := Int32.le_toInt a1
  refine wa_iconst (v := 0) (by decide) ?_
  refine wa_istore_nD (lv' := [(3, .int 0), (0, .ref 41), (1, .ref 29), (2, .int a1)]) (i := 3) rfl (by decide) rfl ?_
  refine wa_pick [1, 2, 3, 0] rfl ?_
  have hi3 : ∀ (n9_2 : Nat) (l3 : Int32) (s1 : St), ((Sm 46 47 σ s1) ∧ (0 ≤ l3.toInt) ∧ (True)) → (2147483647 - l3.toInt).toNat = n9_2 → WA G M_X0_weigh (ZM G M_X0_weigh d (fun r σ' => Sm 46 47 σ σ' ∧ True)) B_X0_weigh_2 [(0, .ref 41), (1, .ref 29), (2, .int a1), (3, .int l3)] [] s1 := by
    intro n9_2
    induction n9_2 using Nat.strongRecOn with
    | _ n9_2 ih2 =>
      intro l3 s1 i9 m9_2
      obtain ⟨Fs1, jhi3_0, -⟩ := i9
      have ul3 := Int32.toInt_lt l3
      have wl3 := Int32.le_toInt l3
      refine wa_iload_n (i := 3) rfl rfl ?_
      refine wa_bipush (v := 16) (by decide) ?_
      refine wa_icmp_ge o_X0_weigh_66 (by decide) (fun h4 => ?_) (fun h4 => ?_)
      · refine wa_return (st := []) rfl rfl ?_
        exact ⟨Fs1, trivial⟩
      · have mh4 := nle_mx h4
        refine wa_aload_n (i := 0) rfl rfl ?_
        refine wa_getr ck_0 fl_0_25 ly_41 rf_41_6 ?_
        refine wa_iload_n (i := 3) rfl rfl ?_
        refine wa_lconst (v := 0) (by decide) ?_
        refine wa_last ly_46 (by ((try simp only [vp_in_iff, Int32.lt_iff_toInt_lt, Int32.le_iff_toInt_le, ← Int32.toInt_inj, Int32.reduceToInt, n_1, n_2, n_8, Int32.toNatClampNeg, Int64.lt_iff_toInt_lt, Int64.le_iff_toInt_le, ← Int64.toInt_inj, Int64.reduceToInt, Int32.toInt_toInt64, lg_cmp_ge, lg_cmp_le, lg_cmp_gt, lg_cmp_lt, lg_cmp_eq, Bool.false_eq_true, Bool.true_eq_false, reduceCtorEq, false_iff, true_iff, iff_true, iff_false, and_true, true_and, and_false, false_and, reduceIte, ite_true, ite_false, eq_self] at *)) <;> omega) (fun s5 hs5 => ?_)
        have Fs5 : Sm 46 47 σ s5 := by rw [hs5]; exact Sm.sl Fs1 _ _ (by decide) (by decide)
        refine wa_iconst (v := 0) (by decide) ?_
        refine wa_istoreD (lv' := [(4, .int 0), (0, .ref 41), (1, .ref 29), (2, .int a1), (3, .int l3)]) (by decide) rfl ?_
        refine wa_pick [1, 2, 3, 4, 0] rfl ?_
        have hi8 : ∀ (n9_18 : Nat) (l4 : Int32) (s6 : St), ((Sm 46 47 σ s6) ∧ (0 ≤ l4.toInt) ∧ (True)) → (2147483647 - l4.toInt).toNat = n9_18 → WA G M_X0_weigh (ZM G M_X0_weigh d (fun r σ' => Sm 46 47 σ σ' ∧ True)) B_X0_weigh_18 [(0, .ref 41), (1, .ref 29), (2, .int a1), (3, .int l3), (4, .int l4)] [] s6 := by
          intro n9_18
          induction n9_18 using Nat.strongRecOn with
          | _ n9_18 ih7 =>
            intro l4 s6 i9 m9_18
            obtain ⟨Fs6, jhi8_0, -⟩ := i9
            have ul4 := Int32.toInt_lt l4
            have wl4 := Int32.le_toInt l4
            refine wa_iload rfl ?_
            refine wa_iconst (v := 4) (by decide) ?_
            refine wa_icmp_ge o_X0_weigh_60 (by decide) (fun h9 => ?_) (fun h9 => ?_)
            · refine wa_iinc (v := (1)) (lv' := fun y10 => [(3, .int y10), (0, .ref 41), (1, .ref 29), (2, .int a1), (4, .int l4)]) (by decide) rfl (by decide) (fun _ => rfl) (fun y10 hy10 => ?_)
              have ty10 := i_addT hy10.symm
              clear hy10
              refine wa_goto o_X0_weigh_2 (by decide) ?_
              refine wa_pick [1, 2, 3, 0] rfl ?_
              exact ih2 _ (by ((try simp only [vp_in_iff, Int32.lt_iff_toInt_lt, Int32.le_iff_toInt_le, ← Int32.toInt_inj, Int32.reduceToInt, n_1, n_2, n_8, Int32.toNatClampNeg, Int64.lt_iff_toInt_lt, Int64.le_iff_toInt_le, ← Int64.toInt_inj, Int64.reduceToInt, Int32.toInt_toInt64, lg_cmp_ge, lg_cmp_le, lg_cmp_gt, lg_cmp_lt, lg_cmp_eq, Bool.false_eq_true, Bool.true_eq_false, reduceCtorEq, false_iff, true_iff, iff_true, iff_false, and_true, true_and, and_false, false_and, reduceIte, ite_true, ite_false, eq_self] at *)) <;> omega) _ _ ⟨Fs6, (by ((try simp only [vp_in_iff, Int32.lt_iff_toInt_lt, Int32.le_iff_toInt_le, ← Int32.toInt_inj, Int32.reduceToInt, n_1, n_2, n_8, Int32.toNatClampNeg, Int64.lt_iff_toInt_lt, Int64.le_iff_toInt_le, ← Int64.toInt_inj, Int64.reduceToInt, Int32.toInt_toInt64, lg_cmp_ge, lg_cmp_le, lg_cmp_gt, lg_cmp_lt, lg_cmp_eq, Bool.false_eq_true, Bool.true_eq_false, reduceCtorEq, false_iff, true_iff, iff_true, iff_false, and_true, true_and, and_false, false_and, reduceIte, ite_true, ite_false, eq_self] at *)) <;> omega), trivial⟩ rfl
            · have mh9 := nle_mx h9
              refine wa_iload rfl ?_
              refine wa_aload_n (i := 1) rfl rfl ?_
              refine wa_alen ly_29 (by decide) ?_
              refine wa_rw (show Int32.ofNat 5 = 5 from rfl) ?_
              refine wa_icmp_ge o_X0_weigh_60 (by decide) (fun h11 => ?_) (fun h11 => ?_)
              · refine wa_iinc (v := (1)) (lv' := fun y12 => [(3, .int y12), (0, .ref 41), (1, .ref 29), (2, .int a1), (4, .int l4)]) (by decide) rfl (by decide) (fun _ => rfl) (fun y12 hy12 => ?_)
                have ty12 := i_addT hy12.symm
                clear hy12
                refine wa_goto o_X0_weigh_2 (by decide) ?_
                refine wa_pick [1, 2, 3, 0] rfl ?_
                exact ih2 _ (by ((try simp only [vp_in_iff, Int32.lt_iff_toInt_lt, Int32.le_iff_toInt_le, ← Int32.toInt_inj, Int32.reduceToInt, n_1, n_2, n_8, Int32.toNatClampNeg, Int64.lt_iff_toInt_lt, Int64.le_iff_toInt_le, ← Int64.toInt_inj, Int64.reduceToInt, Int32.toInt_toInt64, lg_cmp_ge, lg_cmp_le, lg_cmp_gt, lg_cmp_lt, lg_cmp_eq, Bool.false_eq_true, Bool.true_eq_false, reduceCtorEq, false_iff, true_iff, iff_true, iff_false, and_true, true_and, and_false, false_and, reduceIte, ite_true, ite_false, eq_self] at *)) <;> omega) _ _ ⟨Fs6, (by ((try simp only [vp_in_iff, Int32.lt_iff_toInt_lt, Int32.le_iff_toInt_le, ← Int32.toInt_inj, Int32.reduceToInt, n_1, n_2, n_8, Int32.toNatClampNeg, Int64.lt_iff_toInt_lt, Int64.le_iff_toInt_le, ← Int64.toInt_inj, Int64.reduceToInt, Int32.toInt_toInt64, lg_cmp_ge, lg_cmp_le, lg_cmp_gt, lg_cmp_lt, lg_cmp_eq, Bool.false_eq_true, Bool.true_eq_false, reduceCtorEq, false_iff, true_iff, iff_true, iff_false, and_true, true_and, and_false, false_and, reduceIte, ite_true, ite_false, eq_self] at *)) <;> omega), trivial⟩ rfl
              · have mh11 := nle_mx h11
                refine wa_aload_n (i := 0) rfl rfl ?_
                refine wa_getr ck_0 fl_0_25 ly_41 rf_41_6 ?_
                refine wa_iload_n (i := 3) rfl rfl ?_
                refine wa_dup2 rfl rfl ?_
                refine wa_lald ly_46 (by ((try simp only [vp_in_iff, Int32.lt_iff_toInt_lt, Int32.le_iff_toInt_le, ← Int32.toInt_inj, Int32.reduceToInt, n_1, n_2, n_8, Int32.toNatClampNeg, Int64.lt_iff_toInt_lt, Int64.le_iff_toInt_le, ← Int64.toInt_inj, Int64.reduceToInt, Int32.toInt_toInt64, lg_cmp_ge, lg_cmp_le, lg_cmp_gt, lg_cmp_lt, lg_cmp_eq, Bool.false_eq_true, Bool.true_eq_false, reduceCtorEq, false_iff, true_iff, iff_true, iff_false, and_true, true_and, and_false, false_and, reduceIte, ite_true, ite_false, eq_self] at *)) <;> omega) ?_
                refine wa_iload_n (i := 3) rfl rfl ?_
                refine wa_iload rfl ?_
                refine wa_iushr ?_
                refine wa_top (fun v13 hv13 => ?_)
                clear hv13
                refine wa_iconst (v := 1) (by decide) ?_
                refine wa_iand ?_
                refine wa_top (fun v14 hv14 => ?_)
                have tv14 := i_andT hv14
                clear hv14
                refine wa_iload_n (i := 2) rfl rfl ?_
                refine wa_imul ?_
                refine wa_top (fun v15 hv15 => ?_)
                have tv15 := i_mulT hv15
                clear hv15
                refine wa_i2l ?_
                refine wa_aload_n (i := 1) rfl rfl ?_
                refine wa_iload rfl ?_
                refine wa_lald ly_29 (by ((try simp only [vp_in_iff, Int32.lt_iff_toInt_lt, Int32.le_iff_toInt_le, ← Int32.toInt_inj, Int32.reduceToInt, n_1, n_2, n_8, Int32.toNatClampNeg, Int64.lt_iff_toInt_lt, Int64.le_iff_toInt_le, ← Int64.toInt_inj, Int64.reduceToInt, Int32.toInt_toInt64, lg_cmp_ge, lg_cmp_le, lg_cmp_gt, lg_cmp_lt, lg_cmp_eq, Bool.false_eq_true, Bool.true_eq_false, reduceCtorEq, false_iff, true_iff, iff_true, iff_false, and_true, true_and, and_false, false_and, reduceIte, ite_true, ite_false, eq_self] at *)) <;> omega) ?_
                refine wa_lmul ?_
                refine wa_topl (fun v16 hv16 => ?_)
                clear hv16
                refine wa_ladd ?_
                refine wa_topl (fun v17 hv17 => ?_)
                clear hv17
                refine wa_last ly_46 (by ((try simp only [vp_in_iff, Int32.lt_iff_toInt_lt, Int32.le_iff_toInt_le, ← Int32.toInt_inj, Int32.reduceToInt, n_1, n_2, n_8, Int32.toNatClampNeg, Int64.lt_iff_toInt_lt, Int64.le_iff_toInt_le, ← Int64.toInt_inj, Int64.reduceToInt, Int32.toInt_toInt64, lg_cmp_ge, lg_cmp_le, lg_cmp_gt, lg_cmp_lt, lg_cmp_eq, Bool.false_eq_true, Bool.true_eq_false, reduceCtorEq, false_iff, true_iff, iff_true, iff_false, and_true, true_and, and_false, false_and, reduceIte, ite_true, ite_false, eq_self] at *)) <;> omega) (fun s18 hs18 => ?_)
                have Fs18 : Sm 46 47 σ s18 := by rw [hs18]; exact Sm.sl Fs6 _ _ (by decide) (by decide)
                refine wa_iinc (v := (1)) (lv' := fun y19 => [(4, .int y19), (0, .ref 41), (1, .ref 29), (2, .int a1), (3, .int l3)]) (by decide) rfl (by decide) (fun _ => rfl) (fun y19 hy19 => ?_)
                have ty19 := i_addT hy19.symm
                clear hy19
                refine wa_goto o_X0_weigh_18 (by decide) ?_
                refine wa_pick [1, 2, 3, 4, 0] rfl ?_
                exact ih7 _ (by ((try simp only [vp_in_iff, Int32.lt_iff_toInt_lt, Int32.le_iff_toInt_le, ← Int32.toInt_inj, Int32.reduceToInt, n_1, n_2, n_8, Int32.toNatClampNeg, Int64.lt_iff_toInt_lt, Int64.le_iff_toInt_le, ← Int64.toInt_inj, Int64.reduceToInt, Int32.toInt_toInt64, lg_cmp_ge, lg_cmp_le, lg_cmp_gt, lg_cmp_lt, lg_cmp_eq, Bool.false_eq_true, Bool.true_eq_false, reduceCtorEq, false_iff, true_iff, iff_true, iff_false, and_true, true_and, and_false, false_and, reduceIte, ite_true, ite_false, eq_self] at *)) <;> omega) _ _ ⟨Fs18, (by ((try simp only [vp_in_iff, Int32.lt_iff_toInt_lt, Int32.le_iff_toInt_le, ← Int32.toInt_inj, Int32.reduceToInt, n_1, n_2, n_8, Int32.toNatClampNeg, Int64.lt_iff_toInt_lt, Int64.le_iff_toInt_le, ← Int64.toInt_inj, Int64.reduceToInt, Int32.toInt_toInt64, lg_cmp_ge, lg_cmp_le, lg_cmp_gt, lg_cmp_lt, lg_cmp_eq, Bool.false_eq_true, Bool.true_eq_false, reduceCtorEq, false_iff, true_iff, iff_true, iff_false, and_true, true_and, and_false, false_and, reduceIte, ite_true, ite_false, eq_self] at *)) <;> omega), trivial⟩ rfl
        exact hi8 _ _ _ ⟨Fs5, (by ((try simp only [vp_in_iff, Int32.lt_iff_toInt_lt, Int32.le_iff_toInt_le, ← Int32.toInt_inj, Int32.reduceToInt, n_1, n_2, n_8, Int32.toNatClampNeg, Int64.lt_iff_toInt_lt, Int64.le_iff_toInt_le, ← Int64.toInt_inj, Int64.reduceToInt, Int32.toInt_toInt64, lg_cmp_ge, lg_cmp_le, lg_cmp_gt, lg_cmp_lt, lg_cmp_eq, Bool.false_eq_true, Bool.true_eq_false, reduceCtorEq, false_iff, true_iff, iff_true, iff_false, and_true, true_and, and_false, false_and, reduceIte, ite_true, ite_false, eq_self] at *)) <;> omega), trivial⟩ rfl
  exact hi3 _ _ _ ⟨(Sm.rf 46 47 σ), (by ((try simp only [vp_in_iff, Int32.lt_iff_toInt_lt, Int32.le_iff_toInt_le, ← Int32.toInt_inj, Int32.reduceToInt, n_1, n_2, n_8, Int32.toNatClampNeg, Int64.lt_iff_toInt_lt, Int64.le_iff_toInt_le, ← Int64.toInt_inj, Int64.reduceToInt, Int32.toInt_toInt64, lg_cmp_ge, lg_cmp_le, lg_cmp_gt, lg_cmp_lt, lg_cmp_eq, Bool.false_eq_true, Bool.true_eq_false, reduceCtorEq, false_iff, true_iff, iff_true, iff_false, and_true, true_and, and_false, false_and, reduceIte, ite_true, ite_false, eq_self] at *)) <;> omega), trivial⟩ rfl
set_option maxHeartbeats 4000000 in
theorem sp_X0_isBeyond (G : kG9) {d : Nat} (hd : 0 ≤ d) (σ : St) (a0 : Int32) : Ct G M_X0_isBeyond d [.ref 41, .int a0] σ (fun r σ' => ∃ x : Bool, r = some (.int (bI x)) ∧ σ = σ' ∧ True) := by
  refine wa_start (by decide) rfl (Nat.le_of_ble_eq_true rfl) (lv := [(0, .ref 41), (1, .int a0)]) rfl o_X0_isBeyond_0 rfl ?_
  have ua0 := Int32.toInt_lt a0
  have wa0 := Int32.le_toInt a0
  refine wa_iconst (v := 0) (by decide) ?_
  refine wa_istore_nD (lv' := [(2, .int 0), (0, .ref 41), (1, .int a0)]) (i := 2) rfl (by decide) rfl ?_
  refine wa_pick [1, 2, 0] rfl ?_
  have hi2 : ∀ (n9_2 : Nat) (l2 : Int32), ((0 ≤ l2.toInt) ∧ (True)) → (2147483647 - l2.toInt).toNat = n9_2 → WA G M_X0_isBeyond (ZM G M_X0_isBeyond d (fun r σ' => ∃ x : Bool, r = some (.int (bI x)) ∧ σ = σ' ∧ True)) B_X0_isBeyond_2 [(0, .ref 41), (1, .int a0), (2, .int l2)] [] σ := by
    intro n9_2
    induction n9_2 using Nat.strongRecOn with
    | _ n9_2 ih1 =>
      intro l2  i9 m9_2
      obtain ⟨jhi2_0, -⟩ := i9
      have ul2 := Int32.toInt_lt l2
      have wl2 := Int32.le_toInt l2
      refine wa_iload_n (i := 2) rfl rfl ?_
      refine wa_iload_n (i := 1) rfl rfl ?_
      refine wa_icmp_ge o_X0_isBeyond_35 (by decide) (fun h3 => ?_) (fun h3 => ?_)
      · refine wa_iconst (v := 0) (by decide) ?_
        refine wa_zreturn false (rfl) rfl rfl ?_
        exact ⟨_, rfl, rfl, trivial⟩
      · have mh3 := nle_mx h3
        refine wa_iload_n (i := 2) rfl rfl ?_
        refine wa_sipush (v := 3000) (by decide) ?_
        refine wa_icmp_ge o_X0_isBeyond_35 (by decide) (fun h4 => ?_) (fun h4 => ?_)
        · refine wa_iconst (v := 0) (by decide) ?_
          refine wa_zreturn false (rfl) rfl rfl ?_
          exact ⟨_, rfl, rfl, trivial⟩
        · have mh4 := nle_mx h4
          refine wa_aload_n (i := 0) rfl rfl ?_
          refine wa_getr ck_0 fl_0_28 ly_41 rf_41_7 ?_
          refine wa_iload_n (i := 2) rfl rfl ?_
          refine wa_lald ly_47 (by ((try simp only [vp_in_iff, Int32.lt_iff_toInt_lt, Int32.le_iff_toInt_le, ← Int32.toInt_inj, Int32.reduceToInt, n_1, n_2, n_8, Int32.toNatClampNeg, Int64.lt_iff_toInt_lt, Int64.le_iff_toInt_le, ← Int64.toInt_inj, Int64.reduceToInt, Int32.toInt_toInt64, lg_cmp_ge, lg_cmp_le, lg_cmp_gt, lg_cmp_lt, lg_cmp_eq, Bool.false_eq_true, Bool.true_eq_false, reduceCtorEq, false_iff, true_iff, iff_true, iff_false, and_true, true_and, and_false, false_and, reduceIte, ite_true, ite_false, eq_self] at *)) <;> omega) ?_
          refine wa_ldc2 (v := (4503599627370496)) (allW_in (kT_7 _ (List.mem_of_getElem? (i := 11) rfl)) rfl) ?_
          refine wa_lcmp ?_
          refine wa_top (fun v5 hv5 => ?_)
          have tv5 := i_cmpT hv5
          clear hv5
          refine wa_if_le o_X0_isBeyond_29 (by decide) (fun h6 => ?_) (fun h6 => ?_)
          · refine wa_iinc (v := (1)) (lv' := fun y7 => [(2, .int y7), (0, .ref 41), (1, .int a0)]) (by decide) rfl (by decide) (fun _ => rfl) (fun y7 hy7 => ?_)
            have ty7 := i_addT hy7.symm
            clear hy7
            refine wa_goto o_X0_isBeyond_2 (by decide) ?_
            refine wa_pick [1, 2, 0] rfl ?_
            exact ih1 _ (by ((try simp only [vp_in_iff, Int32.lt_iff_toInt_lt, Int32.le_iff_toInt_le, ← Int32.toInt_inj, Int32.reduceToInt, n_1, n_2, n_8, Int32.toNatClampNeg, Int64.lt_iff_toInt_lt, Int64.le_iff_toInt_le, ← Int64.toInt_inj, Int64.reduceToInt, Int32.toInt_toInt64, lg_cmp_ge, lg_cmp_le, lg_cmp_gt, lg_cmp_lt, lg_cmp_eq, Bool.false_eq_true, Bool.true_eq_false, reduceCtorEq, false_iff, true_iff, iff_true, iff_false, and_true, true_and, and_false, false_and, reduceIte, ite_true, ite_false, eq_self] at *)) <;> omega) _ ⟨(by ((try simp only [vp_in_iff, Int32.lt_iff_toInt_lt, Int32.le_iff_toInt_le, ← Int32.toInt_inj, Int32.reduceToInt, n_1, n_2, n_8, Int32.toNatClampNeg, Int64.lt_iff_toInt_lt, Int64.le_iff_toInt_le, ← Int64.toInt_inj, Int64.reduceToInt, Int32.toInt_toInt64, lg_cmp_ge, lg_cmp_le, lg_cmp_gt, lg_cmp_lt, lg_cmp_eq, Bool.false_eq_true, Bool.true_eq_false, reduceCtorEq, false_iff, true_iff, iff_true, iff_false, and_true, true_and, and_false, false_and, reduceIte, ite_true, ite_false, eq_self] at *)) <;> omega), trivial⟩ rfl
          · refine wa_iconst (v := 1) (by decide) ?_
            refine wa_zreturn true (rfl) rfl rfl ?_
            exact ⟨_, rfl, rfl, trivial⟩
  exact hi2 _ _ ⟨(by ((try simp only [vp_in_iff, Int32.lt_iff_toInt_lt, Int32.le_iff_toInt_le, ← Int32.toInt_inj, Int32.reduceToInt, n_1, n_2, n_8, Int32.toNatClampNeg, Int64.lt_iff_toInt_lt, Int64.le_iff_toInt_le, ← Int64.toInt_inj, Int64.reduceToInt, Int32.toInt_toInt64, lg_cmp_ge, lg_cmp_le, lg_cmp_gt, lg_cmp_lt, lg_cmp_eq, Bool.false_eq_true, Bool.true_eq_false, reduceCtorEq, false_iff, true_iff, iff_true, iff_false, and_true, true_and, and_false, false_and, reduceIte, ite_true, ite_false, eq_self] at *)) <;> omega), trivial⟩ rfl
set_option maxHeartbeats 4000000 in
theorem sp_X0_gainFrom (G : kG9) {d : Nat} (hd : 0 ≤ d) (σ : St) (a0 : Int32) : Ct G M_X0_gainFrom d [.ref 41, .int a0] σ (fun r σ' => ∃ x : Int64, r = some (.long x) ∧ σ = σ' ∧ True) := by
  refine wa_start (by decide) rfl (Nat.le_of_ble_eq_true rfl) (lv := [(0, .ref 41), (1, .int a0)]) rfl o_X0_gainFrom_0 rfl ?_
  have ua0 := Int32.toInt_lt a0
  have wa0 := Int32.le_toInt a0
  refine wa_iload_n (i := 1) rfl rfl ?_
  refine wa_if_lt o_X0_gainFrom_20 (by decide) (fun h1 => ?_) (fun h1 => ?_)
  · refine wa_ldc2 (v := (-9223372036854775808)) (allW_in (kT_7 _ (List.mem_of_getElem? (i := 4) rfl)) rfl) ?_
    refine wa_lreturn rfl rfl ?_
    exact ⟨_, rfl, rfl, trivial⟩
  · refine wa_iload_n (i := 1) rfl rfl ?_
    refine wa_sipush (v := 3000) (by decide) ?_
    refine wa_icmp_ge o_X0_gainFrom_20 (by decide) (fun h2 => ?_) (fun h2 => ?_)
    · refine wa_ldc2 (v := (-9223372036854775808)) (allW_in (kT_7 _ (List.mem_of_getElem? (i := 4) rfl)) rfl) ?_
      refine wa_lreturn rfl rfl ?_
      exact ⟨_, rfl, rfl, trivial⟩
    · have mh2 := nle_mx h2
      refine wa_aload_n (i := 0) rfl rfl ?_
      refine wa_getr ck_0 fl_0_28 ly_41 rf_41_7 ?_
      refine wa_iload_n (i := 1) rfl rfl ?_
      refine wa_lald ly_47 (by ((try simp only [vp_in_iff, Int32.lt_iff_toInt_lt, Int32.le_iff_toInt_le, ← Int32.toInt_inj, Int32.reduceToInt, n_1, n_2, n_8, Int32.toNatClampNeg, Int64.lt_iff_toInt_lt, Int64.le_iff_toInt_le, ← Int64.toInt_inj, Int64.reduceToInt, Int32.toInt_toInt64, lg_cmp_ge, lg_cmp_le, lg_cmp_gt, lg_cmp_lt, lg_cmp_eq, Bool.false_eq_true, Bool.true_eq_false, reduceCtorEq, false_iff, true_iff, iff_true, iff_false, and_true, true_and, and_false, false_and, reduceIte, ite_true, ite_false, eq_self] at *)) <;> omega) ?_
      refine wa_goto o_X0_gainFrom_23 (by decide) ?_
      refine wa_lreturn rfl rfl ?_
      exact ⟨_, rfl, rfl, trivial⟩
set_option maxHeartbeats 4000000 in
theorem sp_X0_gain (G : kG9) {d : Nat} (hd : 1 ≤ d) (σ : St) (a0 : Int32) (p1 : a0.toInt ≤ 3000 ∧ 0 ≤ a0.toInt) : Ct G M_X0_gain d [.ref 41, .int a0] σ (fun r σ' => ∃ x : Bool, r = some (.int (bI x)) ∧ Sm 47 49 σ σ' ∧ True) := by
  refine wa_start (by decide) rfl (Nat.le_of_ble_eq_true rfl) (lv := [(0, .ref 41), (1, .int a0)]) rfl o_X0_gain_0 rfl ?_
  have ua0 := Int32.toInt_lt a0
  have wa0 := Int32.le_toInt a0
  refine wa_iconst (v := 0) (by decide) ?_
  refine wa_istore_nD (lv' := [(2, .int (bI false)), (0, .ref 41), (1, .int a0)]) (i := 2) rfl (by decide) rfl ?_
  refine wa_iconst (v := 0) (by decide) ?_
  refine wa_istore_nD (lv' := [(3, .int 0), (2, .int (bI false)), (0, .ref 41), (1, .int a0)]) (i := 3) rfl (by decide) rfl ?_
  refine wa_pick [2, 3, 1, 0] rfl ?_
  have hi3 : ∀ (n9_4 : Nat) (l2 : Bool) (l3 : Int32) (s1 : St), ((Sm 47 49 σ s1) ∧ (gi s1 31 12 = gi σ 31 12) ∧ (0 ≤ l3.toInt) ∧ (True)) → (2147483647 - l3.toInt).toNat = n9_4 → WA G M_X0_gain (ZM G M_X0_gain d (fun r σ' => ∃ x : Bool, r = some (.int (bI x)) ∧ Sm 47 49 σ σ' ∧ True)) B_X0_gain_4 [(0, .ref 41), (1, .int a0), (2, .int (bI l2)), (3, .int l3)] [] s1 := by
    intro n9_4
    induction n9_4 using Nat.strongRecOn with
    | _ n9_4 ih2 =>
      intro l2 l3 s1 i9 m9_4
      obtain ⟨Fs1, khi3_0, jhi3_0, -⟩ := i9
      have ul3 := Int32.toInt_lt l3
      have wl3 := Int32.le_toInt l3
      refine wa_iload_n (i := 3) rfl rfl ?_
      refine wa_iload_n (i := 1) rfl rfl ?_
      refine wa_icmp_ge o_X0_gain_128 (by decide) (fun h4 => ?_) (fun h4 => ?_)
      · refine wa_aload_n (i := 0) rfl rfl ?_
        refine wa_getr ck_0 fl_0_31 ly_41 rf_41_8 ?_
        refine wa_iconst (v := 0) (by decide) ?_
        refine wa_aload_n (i := 0) rfl rfl ?_
        refine wa_getr ck_0 fl_0_28 ly_41 rf_41_7 ?_
        refine wa_iconst (v := 0) (by decide) ?_
        refine wa_iload_n (i := 1) rfl rfl ?_
        refine wa_sipush (v := 3000) (by decide) ?_
        refine wa_minI zs (allW_in (kT_6 _ (List.mem_of_getElem? (i := 170) rfl)) rfl) (Nat.le_of_ble_eq_true rfl) ?_
        refine wa_top (fun v5 hv5 => ?_)
        have tv5 := i_minI hv5
        clear hv5
        refine wa_copyL zs ly_48 ly_47 (allW_in (kT_7 _ (List.mem_of_getElem? (i := 22) rfl)) rfl) (by ((try simp only [vp_in_iff, Int32.lt_iff_toInt_lt, Int32.le_iff_toInt_le, ← Int32.toInt_inj, Int32.reduceToInt, n_1, n_2, n_8, Int32.toNatClampNeg, Int64.lt_iff_toInt_lt, Int64.le_iff_toInt_le, ← Int64.toInt_inj, Int64.reduceToInt, Int32.toInt_toInt64, lg_cmp_ge, lg_cmp_le, lg_cmp_gt, lg_cmp_lt, lg_cmp_eq, Bool.false_eq_true, Bool.true_eq_false, reduceCtorEq, false_iff, true_iff, iff_true, iff_false, and_true, true_and, and_false, false_and, reduceIte, ite_true, ite_false, eq_self] at *)) <;> omega) (by ((try simp only [vp_in_iff, Int32.lt_iff_toInt_lt, Int32.le_iff_toInt_le, ← Int32.toInt_inj, Int32.reduceToInt, n_1, n_2, n_8, Int32.toNatClampNeg, Int64.lt_iff_toInt_lt, Int64.le_iff_toInt_le, ← Int64.toInt_inj, Int64.reduceToInt, Int32.toInt_toInt64, lg_cmp_ge, lg_cmp_le, lg_cmp_gt, lg_cmp_lt, lg_cmp_eq, Bool.false_eq_true, Bool.true_eq_false, reduceCtorEq, false_iff, true_iff, iff_true, iff_false, and_true, true_and, and_false, false_and, reduceIte, ite_true, ite_false, eq_self] at *)) <;> omega) (by ((try simp only [vp_in_iff, Int32.lt_iff_toInt_lt, Int32.le_iff_toInt_le, ← Int32.toInt_inj, Int32.reduceToInt, n_1, n_2, n_8, Int32.toNatClampNeg, Int64.lt_iff_toInt_lt, Int64.le_iff_toInt_le, ← Int64.toInt_inj, Int64.reduceToInt, Int32.toInt_toInt64, lg_cmp_ge, lg_cmp_le, lg_cmp_gt, lg_cmp_lt, lg_cmp_eq, Bool.false_eq_true, Bool.true_eq_false, reduceCtorEq, false_iff, true_iff, iff_true, iff_false, and_true, true_and, and_false, false_and, reduceIte, ite_true, ite_false, eq_self] at *)) <;> omega) (by ((try simp only [vp_in_iff, Int32.lt_iff_toInt_lt, Int32.le_iff_toInt_le, ← Int32.toInt_inj, Int32.reduceToInt, n_1, n_2, n_8, Int32.toNatClampNeg, Int64.lt_iff_toInt_lt, Int64.le_iff_toInt_le, ← Int64.toInt_inj, Int64.reduceToInt, Int32.toInt_toInt64, lg_cmp_ge, lg_cmp_le, lg_cmp_gt, lg_cmp_lt, lg_cmp_eq, Bool.false_eq_true, Bool.true_eq_false, reduceCtorEq, false_iff, true_iff, iff_true, iff_false, and_true, true_and, and_false, false_and, reduceIte, ite_true, ite_false, eq_self] at *)) <;> omega) (by ((try simp only [vp_in_iff, Int32.lt_iff_toInt_lt, Int32.le_iff_toInt_le, ← Int32.toInt_inj, Int32.reduceToInt, n_1, n_2, n_8, Int32.toNatClampNeg, Int64.lt_iff_toInt_lt, Int64.le_iff_toInt_le, ← Int64.toInt_inj, Int64.reduceToInt, Int32.toInt_toInt64, lg_cmp_ge, lg_cmp_le, lg_cmp_gt, lg_cmp_lt, lg_cmp_eq, Bool.false_eq_true, Bool.true_eq_false, reduceCtorEq, false_iff, true_iff, iff_true, iff_false, and_true, true_and, and_false, false_and, reduceIte, ite_true, ite_false, eq_self] at *)) <;> omega) (Nat.le_of_ble_eq_true rfl) (fun s6 hs6 => ?_)
        have Fs6 : Sm 47 49 σ s6 := by rw [hs6]; exact Sm.rl Fs1 _ (by decide) (by decide)
        refine wa_iload_n (i := 2) rfl rfl ?_
        refine wa_zreturn l2 (rfl) rfl rfl ?_
        exact ⟨_, rfl, Fs6, trivial⟩
      · have mh4 := nle_mx h4
        refine wa_ldc2 (v := (-9223372036854775808)) (allW_in (kT_7 _ (List.mem_of_getElem? (i := 4) rfl)) rfl) ?_
        refine wa_lstoreD (lv' := [(4, .long (-9223372036854775808)), (0, .ref 41), (1, .int a0), (2, .int (bI l2)), (3, .int l3)]) (by decide) rfl ?_
        refine wa_iconst (v := 0) (by decide) ?_
        refine wa_istoreD (lv' := [(6, .int 0), (4, .long (-9223372036854775808)), (0, .ref 41), (1, .int a0), (2, .int (bI l2)), (3, .int l3)]) (by decide) rfl ?_
        refine wa_pick [2, 3, 4, 5, 1, 0] rfl ?_
        have hi9 : ∀ (n9_17 : Nat) (l4 : Int64) (l6 : Int32) (s7 : St), ((Sm 47 49 σ s7) ∧ (gi s7 31 12 = gi σ 31 12) ∧ (0 ≤ l6.toInt) ∧ (True)) → (2147483647 - l6.toInt).toNat = n9_17 → WA G M_X0_gain (ZM G M_X0_gain d (fun r σ' => ∃ x : Bool, r = some (.int (bI x)) ∧ Sm 47 49 σ σ' ∧ True)) B_X0_gain_17 [(0, .ref 41), (1, .int a0), (2, .int (bI l2)), (3, .int l3), (4, .long l4), (6, .int l6)] [] s7 := by
          intro n9_17
          induction n9_17 using Nat.strongRecOn with
          | _ n9_17 ih8 =>
            intro l4 l6 s7 i9 m9_17
            obtain ⟨Fs7, khi9_0, jhi9_0, -⟩ := i9
            have ul6 := Int32.toInt_lt l6
            have wl6 := Int32.le_toInt l6
            refine wa_iload rfl ?_
            refine wa_aload_n (i := 0) rfl rfl ?_
            refine wa_getr ck_0 fl_0_48 ly_41 rf_41_1 ?_
            refine wa_geti ck_6 fl_0_92 ly_31 ?_
            refine wa_rw (khi9_0) ?_
            refine wa_icmp_ge o_X0_gain_94 (by decide) (fun h10 => ?_) (fun h10 => ?_)
            · refine wa_aload_n (i := 0) rfl rfl ?_
              refine wa_getr ck_0 fl_0_31 ly_41 rf_41_8 ?_
              refine wa_iload_n (i := 3) rfl rfl ?_
              refine wa_lload rfl ?_
              refine wa_last ly_48 (by ((try simp only [vp_in_iff, Int32.lt_iff_toInt_lt, Int32.le_iff_toInt_le, ← Int32.toInt_inj, Int32.reduceToInt, n_1, n_2, n_8, Int32.toNatClampNeg, Int64.lt_iff_toInt_lt, Int64.le_iff_toInt_le, ← Int64.toInt_inj, Int64.reduceToInt, Int32.toInt_toInt64, lg_cmp_ge, lg_cmp_le, lg_cmp_gt, lg_cmp_lt, lg_cmp_eq, Bool.false_eq_true, Bool.true_eq_false, reduceCtorEq, false_iff, true_iff, iff_true, iff_false, and_true, true_and, and_false, false_and, reduceIte, ite_true, ite_false, eq_self] at *)) <;> omega) (fun s11 hs11 => ?_)
              have Fs11 : Sm 47 49 σ s11 := by rw [hs11]; exact Sm.sl Fs7 _ _ (by decide) (by decide)
              refine wa_iload_n (i := 2) rfl rfl ?_
              refine wa_lload rfl ?_
              refine wa_aload_n (i := 0) rfl rfl ?_
              refine wa_getr ck_0 fl_0_28 ly_41 rf_41_7 ?_
              refine wa_iload_n (i := 3) rfl rfl ?_
              refine wa_lald ly_47 (by ((try simp only [vp_in_iff, Int32.lt_iff_toInt_lt, Int32.le_iff_toInt_le, ← Int32.toInt_inj, Int32.reduceToInt, n_1, n_2, n_8, Int32.toNatClampNeg, Int64.lt_iff_toInt_lt, Int64.le_iff_toInt_le, ← Int64.toInt_inj, Int64.reduceToInt, Int32.toInt_toInt64, lg_cmp_ge, lg_cmp_le, lg_cmp_gt, lg_cmp_lt, lg_cmp_eq, Bool.false_eq_true, Bool.true_eq_false, reduceCtorEq, false_iff, true_iff, iff_true, iff_false, and_true, true_and, and_false, false_and, reduceIte, ite_true, ite_false, eq_self] at *)) <;> omega) ?_
              refine wa_lcmp ?_
              refine wa_top (fun v12 hv12 => ?_)
              have tv12 := i_cmpT hv12
              clear hv12
              refine wa_if_eq o_X0_gain_119 (by decide) (fun h13 => ?_) (fun h13 => ?_)
              · refine wa_iconst (v := 0) (by decide) ?_
                refine wa_ior ?_
                refine wa_rw (bI_or (a := l2) (b := false) rfl rfl) ?_
                refine wa_istore_nD (lv' := [(2, .int (bI (l2 || false))), (0, .ref 41), (1, .int a0), (3, .int l3), (4, .long l4), (6, .int l6)]) (i := 2) rfl (by decide) rfl ?_
                refine wa_iinc (v := (1)) (lv' := fun y14 => [(3, .int y14), (2, .int (bI (l2 || false))), (0, .ref 41), (1, .int a0), (4, .long l4), (6, .int l6)]) (by decide) rfl (by decide) (fun _ => rfl) (fun y14 hy14 => ?_)
                have ty14 := i_addT hy14.symm
                clear hy14
                refine wa_goto o_X0_gain_4 (by decide) ?_
                refine wa_pick [2, 3, 1, 0] rfl ?_
                exact ih2 _ (by ((try simp only [vp_in_iff, Int32.lt_iff_toInt_lt, Int32.le_iff_toInt_le, ← Int32.toInt_inj, Int32.reduceToInt, n_1, n_2, n_8, Int32.toNatClampNeg, Int64.lt_iff_toInt_lt, Int64.le_iff_toInt_le, ← Int64.toInt_inj, Int64.reduceToInt, Int32.toInt_toInt64, lg_cmp_ge, lg_cmp_le, lg_cmp_gt, lg_cmp_lt, lg_cmp_eq, Bool.false_eq_true, Bool.true_eq_false, reduceCtorEq, false_iff, true_iff, iff_true, iff_false, and_true, true_and, and_false, false_and, reduceIte, ite_true, ite_false, eq_self] at *)) <;> omega) _ _ _ ⟨Fs11, ((nx_gi_sl hs11).trans (khi9_0)), (by ((try simp only [vp_in_iff, Int32.lt_iff_toInt_lt, Int32.le_iff_toInt_le, ← Int32.toInt_inj, Int32.reduceToInt, n_1, n_2, n_8, Int32.toNatClampNeg, Int64.lt_iff_toInt_lt, Int64.le_iff_toInt_le, ← Int64.toInt_inj, Int64.reduceToInt, Int32.toInt_toInt64, lg_cmp_ge, lg_cmp_le, lg_cmp_gt, lg_cmp_lt, lg_cmp_eq, Bool.false_eq_true, Bool.true_eq_false, reduceCtorEq, false_iff, true_iff, iff_true, iff_false, and_true, true_and, and_false, false_and, reduceIte, ite_true, ite_false, eq_self] at *)) <;> omega), trivial⟩ rfl
              · refine wa_iconst (v := 1) (by decide) ?_
                refine wa_goto o_X0_gain_120 (by decide) ?_
                refine wa_ior ?_
                refine wa_rw (bI_or (a := l2) (b := true) rfl rfl) ?_
                refine wa_istore_nD (lv' := [(2, .int (bI (l2 || true))), (0, .ref 41), (1, .int a0), (3, .int l3), (4, .long l4), (6, .int l6)]) (i := 2) rfl (by decide) rfl ?_
                refine wa_iinc (v := (1)) (lv' := fun y15 => [(3, .int y15), (2, .int (bI (l2 || true))), (0, .ref 41), (1, .int a0), (4, .long l4), (6, .int l6)]) (by decide) rfl (by decide) (fun _ => rfl) (fun y15 hy15 => ?_)
                have ty15 := i_addT hy15.symm
                clear hy15
                refine wa_goto o_X0_gain_4 (by decide) ?_
                refine wa_pick [2, 3, 1, 0] rfl ?_
                exact ih2 _ (by ((try simp only [vp_in_iff, Int32.lt_iff_toInt_lt, Int32.le_iff_toInt_le, ← Int32.toInt_inj, Int32.reduceToInt, n_1, n_2, n_8, Int32.toNatClampNeg, Int64.lt_iff_toInt_lt, Int64.le_iff_toInt_le, ← Int64.toInt_inj, Int64.reduceToInt, Int32.toInt_toInt64, lg_cmp_ge, lg_cmp_le, lg_cmp_gt, lg_cmp_lt, lg_cmp_eq, Bool.false_eq_true, Bool.true_eq_false, reduceCtorEq, false_iff, true_iff, iff_true, iff_false, and_true, true_and, and_false, false_and, reduceIte, ite_true, ite_false, eq_self] at *)) <;> omega) _ _ _ ⟨Fs11, ((nx_gi_sl hs11).trans (khi9_0)), (by ((try simp only [vp_in_iff, Int32.lt_iff_toInt_lt, Int32.le_iff_toInt_le, ← Int32.toInt_inj, Int32.reduceToInt, n_1, n_2, n_8, Int32.toNatClampNeg, Int64.lt_iff_toInt_lt, Int64.le_iff_toInt_le, ← Int64.toInt_inj, Int64.reduceToInt, Int32.toInt_toInt64, lg_cmp_ge, lg_cmp_le, lg_cmp_gt, lg_cmp_lt, lg_cmp_eq, Bool.false_eq_true, Bool.true_eq_false, reduceCtorEq, false_iff, true_iff, iff_true, iff_false, and_true, true_and, and_false, false_and, reduceIte, ite_true, ite_false, eq_self] at *)) <;> omega), trivial⟩ rfl
            · have mh10 := nle_mx h10
              refine wa_iload rfl ?_
              refine wa_bipush (v := 16) (by decide) ?_
              refine wa_icmp_ge o_X0_gain_94 (by decide) (fun h16 => ?_) (fun h16 => ?_)
              · refine wa_aload_n (i := 0) rfl rfl ?_
                refine wa_getr ck_0 fl_0_31 ly_41 rf_41_8 ?_
                refine wa_iload_n (i := 3) rfl rfl ?_
                refine wa_lload rfl ?_
                refine wa_last ly_48 (by ((try simp only [vp_in_iff, Int32.lt_iff_toInt_lt, Int32.le_iff_toInt_le, ← Int32.toInt_inj, Int32.reduceToInt, n_1, n_2, n_8, Int32.toNatClampNeg, Int64.lt_iff_toInt_lt, Int64.le_iff_toInt_le, ← Int64.toInt_inj, Int64.reduceToInt, Int32.toInt_toInt64, lg_cmp_ge, lg_cmp_le, lg_cmp_gt, lg_cmp_lt, lg_cmp_eq, Bool.false_eq_true, Bool.true_eq_false, reduceCtorEq, false_iff, true_iff, iff_true, iff_false, and_true, true_and, and_false, false_and, reduceIte, ite_true, ite_false, eq_self] at *)) <;> omega) (fun s17 hs17 => ?_)
                have Fs17 : Sm 47 49 σ s17 := by rw [hs17]; exact Sm.sl Fs7 _ _ (by decide) (by decide)
                refine wa_iload_n (i := 2) rfl rfl ?_
                refine wa_lload rfl ?_
                refine wa_aload_n (i := 0) rfl rfl ?_
                refine wa_getr ck_0 fl_0_28 ly_41 rf_41_7 ?_
                refine wa_iload_n (i := 3) rfl rfl ?_
                refine wa_lald ly_47 (by ((try simp only [vp_in_iff, Int32.lt_iff_toInt_lt, Int32.le_iff_toInt_le, ← Int32.toInt_inj, Int32.reduceToInt, n_1, n_2, n_8, Int32.toNatClampNeg, Int64.lt_iff_toInt_lt, Int64.le_iff_toInt_le, ← Int64.toInt_inj, Int64.reduceToInt, Int32.toInt_toInt64, lg_cmp_ge, lg_cmp_le, lg_cmp_gt, lg_cmp_lt, lg_cmp_eq, Bool.false_eq_true, Bool.true_eq_false, reduceCtorEq, false_iff, true_iff, iff_true, iff_false, and_true, true_and, and_false, false_and, reduceIte, ite_true, ite_false, eq_self] at *)) <;> omega) ?_
                refine wa_lcmp ?_
                refine wa_top (fun v18 hv18 => ?_)
                have tv18 := i_cmpT hv18
                clear hv18
                refine wa_if_eq o_X0_gain_119 (by decide) (fun h19 => ?_) (fun h19 => ?_)
                · refine wa_iconst (v := 0) (by decide) ?_
                  refine wa_ior ?_
                  refine wa_rw (bI_or (a := l2) (b := false) rfl rfl) ?_
                  refine wa_istore_nD (lv' := [(2, .int (bI (l2 || false))), (0, .ref 41), (1, .int a0), (3, .int l3), (4, .long l4), (6, .int l6)]) (i := 2) rfl (by decide) rfl ?_
                  refine wa_iinc (v := (1)) (lv' := fun y20 => [(3, .int y20), (2, .int (bI (l2 || false))), (0, .ref 41), (1, .int a0), (4, .long l4), (6, .int l6)]) (by decide) rfl (by decide) (fun _ => rfl) (fun y20 hy20 => ?_)
                  have ty20 := i_addT hy20.symm
                  clear hy20
                  refine wa_goto o_X0_gain_4 (by decide) ?_
                  refine wa_pick [2, 3, 1, 0] rfl ?_
                  exact ih2 _ (by ((try simp only [vp_in_iff, Int32.lt_iff_toInt_lt, Int32.le_iff_toInt_le, ← Int32.toInt_inj, Int32.reduceToInt, n_1, n_2, n_8, Int32.toNatClampNeg, Int64.lt_iff_toInt_lt, Int64.le_iff_toInt_le, ← Int64.toInt_inj, Int64.reduceToInt, Int32.toInt_toInt64, lg_cmp_ge, lg_cmp_le, lg_cmp_gt, lg_cmp_lt, lg_cmp_eq, Bool.false_eq_true, Bool.true_eq_false, reduceCtorEq, false_iff, true_iff, iff_true, iff_false, and_true, true_and, and_false, false_and, reduceIte, ite_true, ite_false, eq_self] at *)) <;> omega) _ _ _ ⟨Fs17, ((nx_gi_sl hs17).trans (khi9_0)), (by ((try simp only [vp_in_iff, Int32.lt_iff_toInt_lt, Int32.le_iff_toInt_le, ← Int32.toInt_inj, Int32.reduceToInt, n_1, n_2, n_8, Int32.toNatClampNeg, Int64.lt_iff_toInt_lt, Int64.le_iff_toInt_le, ← Int64.toInt_inj, Int64.reduceToInt, Int32.toInt_toInt64, lg_cmp_ge, lg_cmp_le, lg_cmp_gt, lg_cmp_lt, lg_cmp_eq, Bool.false_eq_true, Bool.true_eq_false, reduceCtorEq, false_iff, true_iff, iff_true, iff_false, and_true, true_and, and_false, false_and, reduceIte, ite_true, ite_false, eq_self] at *)) <;> omega), trivial⟩ rfl
                · refine wa_iconst (v := 1) (by decide) ?_
                  refine wa_goto o_X0_gain_120 (by decide) ?_
                  refine wa_ior ?_
                  refine wa_rw (bI_or (a := l2) (b := true) rfl rfl) ?_
                  refine wa_istore_nD (lv' := [(2, .int (bI (l2 || true))), (0, .ref 41), (1, .int a0), (3, .int l3), (4, .long l4), (6, .int l6)]) (i := 2) rfl (by decide) rfl ?_
                  refine wa_iinc (v := (1)) (lv' := fun y21 => [(3, .int y21), (2, .int (bI (l2 || true))), (0, .ref 41), (1, .int a0), (4, .long l4), (6, .int l6)]) (by decide) rfl (by decide) (fun _ => rfl) (fun y21 hy21 => ?_)
                  have ty21 := i_addT hy21.symm
                  clear hy21
                  refine wa_goto o_X0_gain_4 (by decide) ?_
                  refine wa_pick [2, 3, 1, 0] rfl ?_
                  exact ih2 _ (by ((try simp only [vp_in_iff, Int32.lt_iff_toInt_lt, Int32.le_iff_toInt_le, ← Int32.toInt_inj, Int32.reduceToInt, n_1, n_2, n_8, Int32.toNatClampNeg, Int64.lt_iff_toInt_lt, Int64.le_iff_toInt_le, ← Int64.toInt_inj, Int64.reduceToInt, Int32.toInt_toInt64, lg_cmp_ge, lg_cmp_le, lg_cmp_gt, lg_cmp_lt, lg_cmp_eq, Bool.false_eq_true, Bool.true_eq_false, reduceCtorEq, false_iff, true_iff, iff_true, iff_false, and_true, true_and, and_false, false_and, reduceIte, ite_true, ite_false, eq_self] at *)) <;> omega) _ _ _ ⟨Fs17, ((nx_gi_sl hs17).trans (khi9_0)), (by ((try simp only [vp_in_iff, Int32.lt_iff_toInt_lt, Int32.le_iff_toInt_le, ← Int32.toInt_inj, Int32.reduceToInt, n_1, n_2, n_8, Int32.toNatClampNeg, Int64.lt_iff_toInt_lt, Int64.le_iff_toInt_le, ← Int64.toInt_inj, Int64.reduceToInt, Int32.toInt_toInt64, lg_cmp_ge, lg_cmp_le, lg_cmp_gt, lg_cmp_lt, lg_cmp_eq, Bool.false_eq_true, Bool.true_eq_false, reduceCtorEq, false_iff, true_iff, iff_true, iff_false, and_true, true_and, and_false, false_and, reduceIte, ite_true, ite_false, eq_self] at *)) <;> omega), trivial⟩ rfl
              · have mh16 := nle_mx h16
                refine wa_aload_n (i := 0) rfl rfl ?_
                refine wa_aload_n (i := 0) rfl rfl ?_
                refine wa_getr ck_0 fl_0_48 ly_41 rf_41_1 ?_
                refine wa_iload_n (i := 3) rfl rfl ?_
                refine wa_iload rfl ?_
                refine wa_Vi (d9 := d - 1) [.int _, .int _] [.ref 41] (sp_X6_behind G (d := d - 1) (by omega) s7 _ _) (rfl) rfl rfl (zr (by omega)) mk_X6_behind ly_31 ml_0_95 (Nat.le_of_ble_eq_true rfl) (fun x23 s22 hs22 => ?_)
                obtain ⟨zs22, -⟩ := pI hs22
                subst zs22
                refine wa_Vl (d9 := d - 1) [.int _] [] (sp_X0_gainFrom G (d := d - 1) (by omega) s7 _) (rfl) rfl rfl (zr (by omega)) mk_X0_gainFrom ly_41 ml_0_138 (Nat.le_of_ble_eq_true rfl) (fun x25 s24 hs24 => ?_)
                obtain ⟨zs24, -⟩ := pL hs24
                subst zs24
                refine wa_lstoreD (lv' := [(7, .long x25), (0, .ref 41), (1, .int a0), (2, .int (bI l2)), (3, .int l3), (4, .long l4), (6, .int l6)]) (by decide) rfl ?_
                refine wa_lload rfl ?_
                refine wa_ldc2 (v := (-9223372036854775808)) (allW_in (kT_7 _ (List.mem_of_getElem? (i := 4) rfl)) rfl) ?_
                refine wa_lcmp ?_
                refine wa_top (fun v26 hv26 => ?_)
                have tv26 := i_cmpT hv26
                clear hv26
                refine wa_if_eq o_X0_gain_88 (by decide) (fun h27 => ?_) (fun h27 => ?_)
                · refine wa_iinc (v := (1)) (lv' := fun y28 => [(6, .int y28), (7, .long x25), (0, .ref 41), (1, .int a0), (2, .int (bI l2)), (3, .int l3), (4, .long l4)]) (by decide) rfl (by decide) (fun _ => rfl) (fun y28 hy28 => ?_)
                  have ty28 := i_addT hy28.symm
                  clear hy28
                  refine wa_goto o_X0_gain_17 (by decide) ?_
                  refine wa_pick [2, 3, 4, 5, 6, 0] rfl ?_
                  exact ih8 _ (by ((try simp only [vp_in_iff, Int32.lt_iff_toInt_lt, Int32.le_iff_toInt_le, ← Int32.toInt_inj, Int32.reduceToInt, n_1, n_2, n_8, Int32.toNatClampNeg, Int64.lt_iff_toInt_lt, Int64.le_iff_toInt_le, ← Int64.toInt_inj, Int64.reduceToInt, Int32.toInt_toInt64, lg_cmp_ge, lg_cmp_le, lg_cmp_gt, lg_cmp_lt, lg_cmp_eq, Bool.false_eq_true, Bool.true_eq_false, reduceCtorEq, false_iff, true_iff, iff_true, iff_false, and_true, true_and, and_false, false_and, reduceIte, ite_true, ite_false, eq_self] at *)) <;> omega) _ _ _ ⟨Fs7, (khi9_0), (by ((try simp only [vp_in_iff, Int32.lt_iff_toInt_lt, Int32.le_iff_toInt_le, ← Int32.toInt_inj, Int32.reduceToInt, n_1, n_2, n_8, Int32.toNatClampNeg, Int64.lt_iff_toInt_lt, Int64.le_iff_toInt_le, ← Int64.toInt_inj, Int64.reduceToInt, Int32.toInt_toInt64, lg_cmp_ge, lg_cmp_le, lg_cmp_gt, lg_cmp_lt, lg_cmp_eq, Bool.false_eq_true, Bool.true_eq_false, reduceCtorEq, false_iff, true_iff, iff_true, iff_false, and_true, true_and, and_false, false_and, reduceIte, ite_true, ite_false, eq_self] at *)) <;> omega), trivial⟩ rfl
                · refine wa_lload rfl ?_
                  refine wa_ldc2 (v := (-4503599627370496)) (allW_in (kT_7 _ (List.mem_of_getElem? (i := 20) rfl)) rfl) ?_
                  refine wa_ldc2 (v := (2)) (allW_in (kT_7 _ (List.mem_of_getElem? (i := 21) rfl)) rfl) ?_
                  refine wa_lload rfl ?_
                  refine wa_lmul ?_
                  refine wa_topl (fun v29 hv29 => ?_)
                  clear hv29
                  refine wa_aload_n (i := 0) rfl rfl ?_
                  refine wa_getr ck_0 fl_0_25 ly_41 rf_41_6 ?_
                  refine wa_iload rfl ?_
                  refine wa_lald ly_46 (by ((try simp only [vp_in_iff, Int32.lt_iff_toInt_lt, Int32.le_iff_toInt_le, ← Int32.toInt_inj, Int32.reduceToInt, n_1, n_2, n_8, Int32.toNatClampNeg, Int64.lt_iff_toInt_lt, Int64.le_iff_toInt_le, ← Int64.toInt_inj, Int64.reduceToInt, Int32.toInt_toInt64, lg_cmp_ge, lg_cmp_le, lg_cmp_gt, lg_cmp_lt, lg_cmp_eq, Bool.false_eq_true, Bool.true_eq_false, reduceCtorEq, false_iff, true_iff, iff_true, iff_false, and_true, true_and, and_false, false_and, reduceIte, ite_true, ite_false, eq_self] at *)) <;> omega) ?_
                  refine wa_ladd ?_
                  refine wa_topl (fun v30 hv30 => ?_)
                  clear hv30
                  refine wa_maxL zs (allW_in (kT_7 _ (List.mem_of_getElem? (i := 5) rfl)) rfl) (Nat.le_of_ble_eq_true rfl) ?_
                  refine wa_topl (fun v31 hv31 => ?_)
                  have tv31 := i_maxL hv31
                  clear hv31
                  refine wa_maxL zs (allW_in (kT_7 _ (List.mem_of_getElem? (i := 5) rfl)) rfl) (Nat.le_of_ble_eq_true rfl) ?_
                  refine wa_topl (fun v32 hv32 => ?_)
                  have tv32 := i_maxL hv32
                  clear hv32
                  refine wa_lstoreD (lv' := [(4, .long v32), (7, .long x25), (0, .ref 41), (1, .int a0), (2, .int (bI l2)), (3, .int l3), (6, .int l6)]) (by decide) rfl ?_
                  refine wa_iinc (v := (1)) (lv' := fun y33 => [(6, .int y33), (4, .long v32), (7, .long x25), (0, .ref 41), (1, .int a0), (2, .int (bI l2)), (3, .int l3)]) (by decide) rfl (by decide) (fun _ => rfl) (fun y33 hy33 => ?_)
                  have ty33 := i_addT hy33.symm
                  clear hy33
                  refine wa_goto o_X0_gain_17 (by decide) ?_
                  refine wa_pick [3, 4, 5, 6, 1, 0] rfl ?_
                  exact ih8 _ (by ((try simp only [vp_in_iff, Int32.lt_iff_toInt_lt, Int32.le_iff_toInt_le, ← Int32.toInt_inj, Int32.reduceToInt, n_1, n_2, n_8, Int32.toNatClampNeg, Int64.lt_iff_toInt_lt, Int64.le_iff_toInt_le, ← Int64.toInt_inj, Int64.reduceToInt, Int32.toInt_toInt64, lg_cmp_ge, lg_cmp_le, lg_cmp_gt, lg_cmp_lt, lg_cmp_eq, Bool.false_eq_true, Bool.true_eq_false, reduceCtorEq, false_iff, true_iff, iff_true, iff_false, and_true, true_and, and_false, false_and, reduceIte, ite_true, ite_false, eq_self] at *)) <;> omega) _ _ _ ⟨Fs7, (khi9_0), (by ((try simp only [vp_in_iff, Int32.lt_iff_toInt_lt, Int32.le_iff_toInt_le, ← Int32.toInt_inj, Int32.reduceToInt, n_1, n_2, n_8, Int32.toNatClampNeg, Int64.lt_iff_toInt_lt, Int64.le_iff_toInt_le, ← Int64.toInt_inj, Int64.reduceToInt, Int32.toInt_toInt64, lg_cmp_ge, lg_cmp_le, lg_cmp_gt, lg_cmp_lt, lg_cmp_eq, Bool.false_eq_true, Bool.true_eq_false, reduceCtorEq, false_iff, true_iff, iff_true, iff_false, and_true, true_and, and_false, false_and, reduceIte, ite_true, ite_false, eq_self] at *)) <;> omega), trivial⟩ rfl
        exact hi9 _ _ _ _ ⟨Fs1, (khi3_0), (by ((try simp only [vp_in_iff, Int32.lt_iff_toInt_lt, Int32.le_iff_toInt_le, ← Int32.toInt_inj, Int32.reduceToInt, n_1, n_2, n_8, Int32.toNatClampNeg, Int64.lt_iff_toInt_lt, Int64.le_iff_toInt_le, ← Int64.toInt_inj, Int64.reduceToInt, Int32.toInt_toInt64, lg_cmp_ge, lg_cmp_le, lg_cmp_gt, lg_cmp_lt, lg_cmp_eq, Bool.false_eq_true, Bool.true_eq_false, reduceCtorEq, false_iff, true_iff, iff_true, iff_false, and_true, true_and, and_false, false_and, reduceIte, ite_true, ite_false, eq_self] at *)) <;> omega), trivial⟩ rfl
  exact hi3 _ _ _ _ ⟨(Sm.rf 47 49 σ), (rfl), (by ((try simp only [vp_in_iff, Int32.lt_iff_toInt_lt, Int32.le_iff_toInt_le, ← Int32.toInt_inj, Int32.reduceToInt, n_1, n_2, n_8, Int32.toNatClampNeg, Int64.lt_iff_toInt_lt, Int64.le_iff_toInt_le, ← Int64.toInt_inj, Int64.reduceToInt, Int32.toInt_toInt64, lg_cmp_ge, lg_cmp_le, lg_cmp_gt, lg_cmp_lt, lg_cmp_eq, Bool.false_eq_true, Bool.true_eq_false, reduceCtorEq, false_iff, true_iff, iff_true, iff_false, and_true, true_and, and_false, false_and, reduceIte, ite_true, ite_false, eq_self] at *)) <;> omega), trivial⟩ rfl
set_option maxHeartbeats 4000000 in
theorem sp_X0_tellExtreme (G : kG9) {d : Nat} (hd : 3 ≤ d) (σ : St) (a0 : Int32) (a2 : Bool) (r1 : 0 ≤ (gi σ 31 13).toInt ∧ (gi σ 31 13).toInt ≤ 3000) (r2 : 0 ≤ (gi σ 41 15).toInt ∧ (gi σ 41 15).toInt ≤ 1100) : Ct G M_X0_tellExtreme d [.ref 41, .int a0, .ref 29, .int (bI a2)] σ (fun r σ' => ∃ x : Int32, r = some (.int x) ∧ Sm 41 49 σ σ' ∧ (0 ≤ (gi σ' 41 15).toInt ∧ (gi σ' 41 15).toInt ≤ 1100) ∧ True) := by
  refine wa_start (by decide) rfl (Nat.le_of_ble_eq_true rfl) (lv := [(0, .ref 41), (1, .int a0), (2, .ref 29), (3, .int (bI a2))]) rfl o_X0_tellExtreme_0 rfl ?_
  have ua0 := Int32.toInt_lt a0
  have wa0 := Int32.le_toInt a0
  refine wa_aload_n (i := 0) rfl rfl ?_
  refine wa_iload_n (i := 1) rfl rfl ?_
  refine wa_iconst (v := 0) (by decide) ?_
  refine wa_Vi (d9 := d - 1) [.int _, .int _] [] (sp_X0_findEnds G (d := d - 1) (by omega) σ _ _ (by first | assumption | exact Or.inl rfl | exact Or.inr rfl | (((try simp only [vp_in_iff, Int32.lt_iff_toInt_lt, Int32.le_iff_toInt_le, ← Int32.toInt_inj, Int32.reduceToInt, n_1, n_2, n_8, Int32.toNatClampNeg, Int64.lt_iff_toInt_lt, Int64.le_iff_toInt_le, ← Int64.toInt_inj, Int64.reduceToInt, Int32.toInt_toInt64, lg_cmp_ge, lg_cmp_le, lg_cmp_gt, lg_cmp_lt, lg_cmp_eq, Bool.false_eq_true, Bool.true_eq_false, reduceCtorEq, false_iff, true_iff, iff_true, iff_false, and_true, true_and, and_false, false_and, reduceIte, ite_true, ite_false, eq_self] at *)) <;> omega))) (rfl) rfl rfl (zr (by omega)) mk_X0_findEnds ly_41 ml_0_82 (Nat.le_of_ble_eq_true rfl) (fun x2 s1 hs1 => ?_)
  obtain ⟨fs1, cx2_1, cx2_2, -⟩ := pI hs1
  have Fs1 := Sm.tr (Sm.rf 41 49 σ) (Sm.wd fs1 (lo' := 41) (hi' := 49) (by decide) (by decide))
  refine wa_istoreD (lv' := [(4, .int x2), (0, .ref 41), (1, .int a0), (2, .ref 29), (3, .int (bI a2))]) (by decide) rfl ?_
  refine wa_iload_n (i := 3) rfl rfl ?_
  refine wa_if_eq o_X0_tellExtreme_16 (by decide) (fun h3 => ?_) (fun h3 => ?_)
  · replace h3 := bI_f (b := a2) (rfl) h3
    refine wa_iconst (v := (-1)) (by decide) ?_
    refine wa_istoreD (lv' := [(5, .int (-1)), (4, .int x2), (0, .ref 41), (1, .int a0), (2, .ref 29), (3, .int (bI a2))]) (by decide) rfl ?_
    refine wa_aload_n (i := 0) rfl rfl ?_
    refine wa_aload_n (i := 2) rfl rfl ?_
    refine wa_iload rfl ?_
    refine wa_Vv (d9 := d - 1) [.ref 29, .int _] [] (sp_X0_weigh G (d := d - 1) (by omega) s1 _) (rfl) rfl rfl (zr (by omega)) mk_X0_weigh ly_41 ml_0_115 (Nat.le_of_ble_eq_true rfl) (fun s4 hs4 => ?_)
    obtain ⟨fs4, -⟩ := hs4
    have Fs4 := Sm.tr Fs1 (Sm.wd fs4 (lo' := 41) (hi' := 49) (by decide) (by decide))
    refine wa_iconst (v := 0) (by decide) ?_
    refine wa_istoreD (lv' := [(6, .int 0), (5, .int (-1)), (4, .int x2), (0, .ref 41), (1, .int a0), (2, .ref 29), (3, .int (bI a2))]) (by decide) rfl ?_
    refine wa_pick [3, 5, 2, 1, 0] rfl ?_
    have hi8 : ∀ (n9_29 : Nat) (l6 : Int32) (s6 : St), ((Sm 41 49 σ s6) ∧ (gi s6 31 13 = gi σ 31 13) ∧ (gi s6 41 15 = gi σ 41 15) ∧ (0 ≤ l6.toInt) ∧ (True)) → (2147483647 - l6.toInt).toNat = n9_29 → WA G M_X0_tellExtreme (ZM G M_X0_tellExtreme d (fun r σ' => ∃ x : Int32, r = some (.int x) ∧ Sm 41 49 σ σ' ∧ (0 ≤ (gi σ' 41 15).toInt ∧ (gi σ' 41 15).toInt ≤ 1100) ∧ True)) B_X0_tellExtreme_29 [(0, .ref 41), (2, .ref 29), (4, .int x2), (5, .int (-1)), (6, .int l6)] [] s6 := by
      intro n9_29
      induction n9_29 using Nat.strongRecOn with
      | _ n9_29 ih7 =>
        intro l6 s6 i9 m9_29
        obtain ⟨Fs6, khi8_0, khi8_1, jhi8_0, -⟩ := i9
        have ul6 := Int32.toInt_lt l6
        have wl6 := Int32.le_toInt l6
        refine wa_iload rfl ?_
        refine wa_iload rfl ?_
        refine wa_icmp_ge o_X0_tellExtreme_109 (by decide) (fun h9 => ?_) (fun h9 => ?_)
        · refine wa_iconst (v := 1) (by decide) ?_
          refine wa_istoreD (lv' := [(6, .int (bI true)), (0, .ref 41), (2, .ref 29), (4, .int x2), (5, .int (-1))]) (by decide) rfl ?_
          refine wa_iconst (v := 0) (by decide) ?_
          refine wa_istoreD (lv' := [(7, .int 0), (6, .int (bI true)), (0, .ref 41), (2, .ref 29), (4, .int x2), (5, .int (-1))]) (by decide) rfl ?_
          refine wa_pick [2, 3, 4, 5, 1, 0] rfl ?_
          have hi12 : ∀ (n9_115 : Nat) (l6 : Bool) (l7 : Int32) (s10 : St), ((Sm 41 49 σ s10) ∧ (gi s10 31 13 = gi σ 31 13) ∧ (gi s10 41 15 = gi σ 41 15) ∧ (0 ≤ l7.toInt) ∧ (True)) → (2147483647 - l7.toInt).toNat = n9_115 → WA G M_X0_tellExtreme (ZM G M_X0_tellExtreme d (fun r σ' => ∃ x : Int32, r = some (.int x) ∧ Sm 41 49 σ σ' ∧ (0 ≤ (gi σ' 41 15).toInt ∧ (gi σ' 41 15).toInt ≤ 1100) ∧ True)) B_X0_tellExtreme_115 [(0, .ref 41), (2, .ref 29), (4, .int x2), (5, .int (-1)), (6, .int (bI l6)), (7, .int l7)] [] s10 := by
            intro n9_115
            induction n9_115 using Nat.strongRecOn with
            | _ n9_115 ih11 =>
              intro l6 l7 s10 i9 m9_115
              obtain ⟨Fs10, khi12_0, khi12_1, jhi12_0, -⟩ := i9
              have ul7 := Int32.toInt_lt l7
              have wl7 := Int32.le_toInt l7
              refine wa_iload rfl ?_
              refine wa_ldc (v := (1000000)) (allW_in (kT_7 _ (List.mem_of_getElem? (i := 6) rfl)) rfl) ?_
              refine wa_icmp_ge o_X0_tellExtreme_152 (by decide) (fun h13 => ?_) (fun h13 => ?_)
              · refine wa_aload_n (i := 0) rfl rfl ?_
                refine wa_getr ck_0 fl_0_28 ly_41 rf_41_7 ?_
                refine wa_iconst (v := 0) (by decide) ?_
                refine wa_lald ly_47 (by ((try simp only [vp_in_iff, Int32.lt_iff_toInt_lt, Int32.le_iff_toInt_le, ← Int32.toInt_inj, Int32.reduceToInt, n_1, n_2, n_8, Int32.toNatClampNeg, Int64.lt_iff_toInt_lt, Int64.le_iff_toInt_le, ← Int64.toInt_inj, Int64.reduceToInt, Int32.toInt_toInt64, lg_cmp_ge, lg_cmp_le, lg_cmp_gt, lg_cmp_lt, lg_cmp_eq, Bool.false_eq_true, Bool.true_eq_false, reduceCtorEq, false_iff, true_iff, iff_true, iff_false, and_true, true_and, and_false, false_and, reduceIte, ite_true, ite_false, eq_self] at *)) <;> omega) ?_
                refine wa_ldc2 (v := (-9223372036854775808)) (allW_in (kT_7 _ (List.mem_of_getElem? (i := 4) rfl)) rfl) ?_
                refine wa_lcmp ?_
                refine wa_top (fun v14 hv14 => ?_)
                have tv14 := i_cmpT hv14
                clear hv14
                refine wa_if_ne o_X0_tellExtreme_167 (by decide) (fun h15 => ?_) (fun h15 => ?_)
                · refine wa_aload_n (i := 0) rfl rfl ?_
                  refine wa_iload rfl ?_
                  refine wa_i2l ?_
                  refine wa_aload_n (i := 0) rfl rfl ?_
                  refine wa_getr ck_0 fl_0_28 ly_41 rf_41_7 ?_
                  refine wa_iconst (v := 0) (by decide) ?_
                  refine wa_lald ly_47 (by ((try simp only [vp_in_iff, Int32.lt_iff_toInt_lt, Int32.le_iff_toInt_le, ← Int32.toInt_inj, Int32.reduceToInt, n_1, n_2, n_8, Int32.toNatClampNeg, Int64.lt_iff_toInt_lt, Int64.le_iff_toInt_le, ← Int64.toInt_inj, Int64.reduceToInt, Int32.toInt_toInt64, lg_cmp_ge, lg_cmp_le, lg_cmp_gt, lg_cmp_lt, lg_cmp_eq, Bool.false_eq_true, Bool.true_eq_false, reduceCtorEq, false_iff, true_iff, iff_true, iff_false, and_true, true_and, and_false, false_and, reduceIte, ite_true, ite_false, eq_self] at *)) <;> omega) ?_
                  refine wa_lmul ?_
                  refine wa_topl (fun v16 hv16 => ?_)
                  clear hv16
                  refine wa_aload_n (i := 2) rfl rfl ?_
                  refine wa_alen ly_29 (by decide) ?_
                  refine wa_rw (show Int32.ofNat 5 = 5 from rfl) ?_
                  refine wa_iconst (v := 4) (by decide) ?_
                  refine wa_icmp_le o_X0_tellExtreme_190 (by decide) (fun h17 => ?_) (fun h17 => ?_)
                  · refine wa_lconst (v := 0) (by decide) ?_
                    refine wa_ladd ?_
                    refine wa_topl (fun v18 hv18 => ?_)
                    clear hv18
                    refine wa_putl ck_0 fl_0_132 ly_41 (fun s19 hs19 => ?_)
                    have Fs19 : Sm 41 49 σ s19 := by rw [hs19]; exact Sm.sl Fs10 _ _ (by decide) (by decide)
                    refine wa_iconst (v := 1) (by decide) ?_
                    refine wa_ireturn rfl rfl ?_
                    exact ⟨_, rfl, Fs19, (by rw [(nx_gi_sl hs19).trans (khi12_1)]; first | assumption | (((try simp only [vp_in_iff, Int32.lt_iff_toInt_lt, Int32.le_iff_toInt_le, ← Int32.toInt_inj, Int32.reduceToInt, n_1, n_2, n_8, Int32.toNatClampNeg, Int64.lt_iff_toInt_lt, Int64.le_iff_toInt_le, ← Int64.toInt_inj, Int64.reduceToInt, Int32.toInt_toInt64, lg_cmp_ge, lg_cmp_le, lg_cmp_gt, lg_cmp_lt, lg_cmp_eq, Bool.false_eq_true, Bool.true_eq_false, reduceCtorEq, false_iff, true_iff, iff_true, iff_false, and_true, true_and, and_false, false_and, reduceIte, ite_true, ite_false, eq_self] at *)) <;> omega)), trivial⟩
                  · refine wa_aload_n (i := 2) rfl rfl ?_
                    refine wa_iconst (v := 4) (by decide) ?_
                    refine wa_lald ly_29 (by ((try simp only [vp_in_iff, Int32.lt_iff_toInt_lt, Int32.le_iff_toInt_le, ← Int32.toInt_inj, Int32.reduceToInt, n_1, n_2, n_8, Int32.toNatClampNeg, Int64.lt_iff_toInt_lt, Int64.le_iff_toInt_le, ← Int64.toInt_inj, Int64.reduceToInt, Int32.toInt_toInt64, lg_cmp_ge, lg_cmp_le, lg_cmp_gt, lg_cmp_lt, lg_cmp_eq, Bool.false_eq_true, Bool.true_eq_false, reduceCtorEq, false_iff, true_iff, iff_true, iff_false, and_true, true_and, and_false, false_and, reduceIte, ite_true, ite_false, eq_self] at *)) <;> omega) ?_
                    refine wa_goto o_X0_tellExtreme_191 (by decide) ?_
                    refine wa_ladd ?_
                    refine wa_topl (fun v20 hv20 => ?_)
                    clear hv20
                    refine wa_putl ck_0 fl_0_132 ly_41 (fun s21 hs21 => ?_)
                    have Fs21 : Sm 41 49 σ s21 := by rw [hs21]; exact Sm.sl Fs10 _ _ (by decide) (by decide)
                    refine wa_iconst (v := 1) (by decide) ?_
                    refine wa_ireturn rfl rfl ?_
                    exact ⟨_, rfl, Fs21, (by rw [(nx_gi_sl hs21).trans (khi12_1)]; first | assumption | (((try simp only [vp_in_iff, Int32.lt_iff_toInt_lt, Int32.le_iff_toInt_le, ← Int32.toInt_inj, Int32.reduceToInt, n_1, n_2, n_8, Int32.toNatClampNeg, Int64.lt_iff_toInt_lt, Int64.le_iff_toInt_le, ← Int64.toInt_inj, Int64.reduceToInt, Int32.toInt_toInt64, lg_cmp_ge, lg_cmp_le, lg_cmp_gt, lg_cmp_lt, lg_cmp_eq, Bool.false_eq_true, Bool.true_eq_false, reduceCtorEq, false_iff, true_iff, iff_true, iff_false, and_true, true_and, and_false, false_and, reduceIte, ite_true, ite_false, eq_self] at *)) <;> omega)), trivial⟩
                · refine wa_iconst (v := 0) (by decide) ?_
                  refine wa_ireturn rfl rfl ?_
                  exact ⟨_, rfl, Fs10, (by rw [khi12_1]; first | assumption | (((try simp only [vp_in_iff, Int32.lt_iff_toInt_lt, Int32.le_iff_toInt_le, ← Int32.toInt_inj, Int32.reduceToInt, n_1, n_2, n_8, Int32.toNatClampNeg, Int64.lt_iff_toInt_lt, Int64.le_iff_toInt_le, ← Int64.toInt_inj, Int64.reduceToInt, Int32.toInt_toInt64, lg_cmp_ge, lg_cmp_le, lg_cmp_gt, lg_cmp_lt, lg_cmp_eq, Bool.false_eq_true, Bool.true_eq_false, reduceCtorEq, false_iff, true_iff, iff_true, iff_false, and_true, true_and, and_false, false_and, reduceIte, ite_true, ite_false, eq_self] at *)) <;> omega)), trivial⟩
              · have mh13 := nle_mx h13
                refine wa_iload rfl ?_
                refine wa_if_eq o_X0_tellExtreme_152 (by decide) (fun h22 => ?_) (fun h22 => ?_)
                · replace h22 := bI_f (b := l6) (rfl) h22
                  refine wa_aload_n (i := 0) rfl rfl ?_
                  refine wa_getr ck_0 fl_0_28 ly_41 rf_41_7 ?_
                  refine wa_iconst (v := 0) (by decide) ?_
                  refine wa_lald ly_47 (by ((try simp only [vp_in_iff, Int32.lt_iff_toInt_lt, Int32.le_iff_toInt_le, ← Int32.toInt_inj, Int32.reduceToInt, n_1, n_2, n_8, Int32.toNatClampNeg, Int64.lt_iff_toInt_lt, Int64.le_iff_toInt_le, ← Int64.toInt_inj, Int64.reduceToInt, Int32.toInt_toInt64, lg_cmp_ge, lg_cmp_le, lg_cmp_gt, lg_cmp_lt, lg_cmp_eq, Bool.false_eq_true, Bool.true_eq_false, reduceCtorEq, false_iff, true_iff, iff_true, iff_false, and_true, true_and, and_false, false_and, reduceIte, ite_true, ite_false, eq_self] at *)) <;> omega) ?_
                  refine wa_ldc2 (v := (-9223372036854775808)) (allW_in (kT_7 _ (List.mem_of_getElem? (i := 4) rfl)) rfl) ?_
                  refine wa_lcmp ?_
                  refine wa_top (fun v23 hv23 => ?_)
                  have tv23 := i_cmpT hv23
                  clear hv23
                  refine wa_if_ne o_X0_tellExtreme_167 (by decide) (fun h24 => ?_) (fun h24 => ?_)
                  · refine wa_aload_n (i := 0) rfl rfl ?_
                    refine wa_iload rfl ?_
                    refine wa_i2l ?_
                    refine wa_aload_n (i := 0) rfl rfl ?_
                    refine wa_getr ck_0 fl_0_28 ly_41 rf_41_7 ?_
                    refine wa_iconst (v := 0) (by decide) ?_
                    refine wa_lald ly_47 (by ((try simp only [vp_in_iff, Int32.lt_iff_toInt_lt, Int32.le_iff_toInt_le, ← Int32.toInt_inj, Int32.reduceToInt, n_1, n_2, n_8, Int32.toNatClampNeg, Int64.lt_iff_toInt_lt, Int64.le_iff_toInt_le, ← Int64.toInt_inj, Int64.reduceToInt, Int32.toInt_toInt64, lg_cmp_ge, lg_cmp_le, lg_cmp_gt, lg_cmp_lt, lg_cmp_eq, Bool.false_eq_true, Bool.true_eq_false, reduceCtorEq, false_iff, true_iff, iff_true, iff_false, and_true, true_and, and_false, false_and, reduceIte, ite_true, ite_false, eq_self] at *)) <;> omega) ?_
                    refine wa_lmul ?_
                    refine wa_topl (fun v25 hv25 => ?_)
                    clear hv25
                    refine wa_aload_n (i := 2) rfl rfl ?_
                    refine wa_alen ly_29 (by decide) ?_
                    refine wa_rw (show Int32.ofNat 5 = 5 from rfl) ?_
                    refine wa_iconst (v := 4) (by decide) ?_
                    refine wa_icmp_le o_X0_tellExtreme_190 (by decide) (fun h26 => ?_) (fun h26 => ?_)
                    · refine wa_lconst (v := 0) (by decide) ?_
                      refine wa_ladd ?_
                      refine wa_topl (fun v27 hv27 => ?_)
                      clear hv27
                      refine wa_putl ck_0 fl_0_132 ly_41 (fun s28 hs28 => ?_)
                      have Fs28 : Sm 41 49 σ s28 := by rw [hs28]; exact Sm.sl Fs10 _ _ (by decide) (by decide)
                      refine wa_iconst (v := 1) (by decide) ?_
                      refine wa_ireturn rfl rfl ?_
                      exact ⟨_, rfl, Fs28, (by rw [(nx_gi_sl hs28).trans (khi12_1)]; first | assumption | (((try simp only [vp_in_iff, Int32.lt_iff_toInt_lt, Int32.le_iff_toInt_le, ← Int32.toInt_inj, Int32.reduceToInt, n_1, n_2, n_8, Int32.toNatClampNeg, Int64.lt_iff_toInt_lt, Int64.le_iff_toInt_le, ← Int64.toInt_inj, Int64.reduceToInt, Int32.toInt_toInt64, lg_cmp_ge, lg_cmp_le, lg_cmp_gt, lg_cmp_lt, lg_cmp_eq, Bool.false_eq_true, Bool.true_eq_false, reduceCtorEq, false_iff, true_iff, iff_true, iff_false, and_true, true_and, and_false, false_and, reduceIte, ite_true, ite_false, eq_self] at *)) <;> omega)), trivial⟩
                    · refine wa_aload_n (i := 2) rfl rfl ?_
                      refine wa_iconst (v := 4) (by decide) ?_
                      refine wa_lald ly_29 (by ((try simp only [vp_in_iff, Int32.lt_iff_toInt_lt, Int32.le_iff_toInt_le, ← Int32.toInt_inj, Int32.reduceToInt, n_1, n_2, n_8, Int32.toNatClampNeg, Int64.lt_iff_toInt_lt, Int64.le_iff_toInt_le, ← Int64.toInt_inj, Int64.reduceToInt, Int32.toInt_toInt64, lg_cmp_ge, lg_cmp_le, lg_cmp_gt, lg_cmp_lt, lg_cmp_eq, Bool.false_eq_true, Bool.true_eq_false, reduceCtorEq, false_iff, true_iff, iff_true, iff_false, and_true, true_and, and_false, false_and, reduceIte, ite_true, ite_false, eq_self] at *)) <;> omega) ?_
                      refine wa_goto o_X0_tellExtreme_191 (by decide) ?_
                      refine wa_ladd ?_
                      refine wa_topl (fun v29 hv29 => ?_)
                      clear hv29
                      refine wa_putl ck_0 fl_0_132 ly_41 (fun s30 hs30 => ?_)
                      have Fs30 : Sm 41 49 σ s30 := by rw [hs30]; exact Sm.sl Fs10 _ _ (by decide) (by decide)
                      refine wa_iconst (v := 1) (by decide) ?_
                      refine wa_ireturn rfl rfl ?_
                      exact ⟨_, rfl, Fs30, (by rw [(nx_gi_sl hs30).trans (khi12_1)]; first | assumption | (((try simp only [vp_in_iff, Int32.lt_iff_toInt_lt, Int32.le_iff_toInt_le, ← Int32.toInt_inj, Int32.reduceToInt, n_1, n_2, n_8, Int32.toNatClampNeg, Int64.lt_iff_toInt_lt, Int64.le_iff_toInt_le, ← Int64.toInt_inj, Int64.reduceToInt, Int32.toInt_toInt64, lg_cmp_ge, lg_cmp_le, lg_cmp_gt, lg_cmp_lt, lg_cmp_eq, Bool.false_eq_true, Bool.true_eq_false, reduceCtorEq, false_iff, true_iff, iff_true, iff_false, and_true, true_and, and_false, false_and, reduceIte, ite_true, ite_false, eq_self] at *)) <;> omega)), trivial⟩
                  · refine wa_iconst (v := 0) (by decide) ?_
                    refine wa_ireturn rfl rfl ?_
                    exact ⟨_, rfl, Fs10, (by rw [khi12_1]; first | assumption | (((try simp only [vp_in_iff, Int32.lt_iff_toInt_lt, Int32.le_iff_toInt_le, ← Int32.toInt_inj, Int32.reduceToInt, n_1, n_2, n_8, Int32.toNatClampNeg, Int64.lt_iff_toInt_lt, Int64.le_iff_toInt_le, ← Int64.toInt_inj, Int64.reduceToInt, Int32.toInt_toInt64, lg_cmp_ge, lg_cmp_le, lg_cmp_gt, lg_cmp_lt, lg_cmp_eq, Bool.false_eq_true, Bool.true_eq_false, reduceCtorEq, false_iff, true_iff, iff_true, iff_false, and_true, true_and, and_false, false_and, reduceIte, ite_true, ite_false, eq_self] at *)) <;> omega)), trivial⟩
                · replace h22 := bI_t (b := l6) (rfl) h22
                  refine wa_aload_n (i := 0) rfl rfl ?_
                  refine wa_iload rfl ?_
                  refine wa_Vi (d9 := d - 1) [.int _] [] (sp_X0_isBeyond G (d := d - 1) (by omega) s10 _) (rfl) rfl rfl (zr (by omega)) mk_X0_isBeyond ly_41 ml_0_125 (Nat.le_of_ble_eq_true rfl) (fun x32 s31 hs31 => ?_)
                  obtain ⟨bx32, ex32, zs31, -⟩ := pB hs31
                  subst ex32
                  subst zs31
                  refine wa_if_eq o_X0_tellExtreme_138 (by decide) (fun h33 => ?_) (fun h33 => ?_)
                  · replace h33 := bI_f (b := bx32) (rfl) h33
                    refine wa_aload_n (i := 0) rfl rfl ?_
                    refine wa_iload rfl ?_
                    refine wa_Vi (d9 := d - 1) [.int _] [] (sp_X0_gain G (d := d - 1) (by omega) s10 _ (by ((try simp only [vp_in_iff, Int32.lt_iff_toInt_lt, Int32.le_iff_toInt_le, ← Int32.toInt_inj, Int32.reduceToInt, n_1, n_2, n_8, Int32.toNatClampNeg, Int64.lt_iff_toInt_lt, Int64.le_iff_toInt_le, ← Int64.toInt_inj, Int64.reduceToInt, Int32.toInt_toInt64, lg_cmp_ge, lg_cmp_le, lg_cmp_gt, lg_cmp_lt, lg_cmp_eq, Bool.false_eq_true, Bool.true_eq_false, reduceCtorEq, false_iff, true_iff, iff_true, iff_false, and_true, true_and, and_false, false_and, reduceIte, ite_true, ite_false, eq_self] at *)) <;> omega)) (rfl) rfl rfl (zr (by omega)) mk_X0_gain ly_41 ml_0_129 (Nat.le_of_ble_eq_true rfl) (fun x35 s34 hs34 => ?_)
                    obtain ⟨bx35, ex35, fs34, -⟩ := pB hs34
                    subst ex35
                    have Fs34 := Sm.tr Fs10 (Sm.wd fs34 (lo' := 41) (hi' := 49) (by decide) (by decide))
                    refine wa_istoreD (lv' := [(6, .int (bI bx35)), (0, .ref 41), (2, .ref 29), (4, .int x2), (5, .int (-1)), (7, .int l7)]) (by decide) rfl ?_
                    refine wa_iinc (v := (1)) (lv' := fun y36 => [(7, .int y36), (6, .int (bI bx35)), (0, .ref 41), (2, .ref 29), (4, .int x2), (5, .int (-1))]) (by decide) rfl (by decide) (fun _ => rfl) (fun y36 hy36 => ?_)
                    have ty36 := i_addT hy36.symm
                    clear hy36
                    refine wa_goto o_X0_tellExtreme_115 (by decide) ?_
                    refine wa_pick [2, 3, 4, 5, 1, 0] rfl ?_
                    exact ih11 _ (by ((try simp only [vp_in_iff, Int32.lt_iff_toInt_lt, Int32.le_iff_toInt_le, ← Int32.toInt_inj, Int32.reduceToInt, n_1, n_2, n_8, Int32.toNatClampNeg, Int64.lt_iff_toInt_lt, Int64.le_iff_toInt_le, ← Int64.toInt_inj, Int64.reduceToInt, Int32.toInt_toInt64, lg_cmp_ge, lg_cmp_le, lg_cmp_gt, lg_cmp_lt, lg_cmp_eq, Bool.false_eq_true, Bool.true_eq_false, reduceCtorEq, false_iff, true_iff, iff_true, iff_false, and_true, true_and, and_false, false_and, reduceIte, ite_true, ite_false, eq_self] at *)) <;> omega) _ _ _ ⟨Fs34, ((Sm.gi fs34 13 (Or.inl (by decide))).trans (khi12_0)), ((Sm.gi fs34 15 (Or.inl (by decide))).trans (khi12_1)), (by ((try simp only [vp_in_iff, Int32.lt_iff_toInt_lt, Int32.le_iff_toInt_le, ← Int32.toInt_inj, Int32.reduceToInt, n_1, n_2, n_8, Int32.toNatClampNeg, Int64.lt_iff_toInt_lt, Int64.le_iff_toInt_le, ← Int64.toInt_inj, Int64.reduceToInt, Int32.toInt_toInt64, lg_cmp_ge, lg_cmp_le, lg_cmp_gt, lg_cmp_lt, lg_cmp_eq, Bool.false_eq_true, Bool.true_eq_false, reduceCtorEq, false_iff, true_iff, iff_true, iff_false, and_true, true_and, and_false, false_and, reduceIte, ite_true, ite_false, eq_self] at *)) <;> omega), trivial⟩ rfl
                  · replace h33 := bI_t (b := bx32) (rfl) h33
                    refine wa_iconst (v := 2) (by decide) ?_
                    refine wa_ireturn rfl rfl ?_
                    exact ⟨_, rfl, Fs10, (by rw [khi12_1]; first | assumption | (((try simp only [vp_in_iff, Int32.lt_iff_toInt_lt, Int32.le_iff_toInt_le, ← Int32.toInt_inj, Int32.reduceToInt, n_1, n_2, n_8, Int32.toNatClampNeg, Int64.lt_iff_toInt_lt, Int64.le_iff_toInt_le, ← Int64.toInt_inj, Int64.reduceToInt, Int32.toInt_toInt64, lg_cmp_ge, lg_cmp_le, lg_cmp_gt, lg_cmp_lt, lg_cmp_eq, Bool.false_eq_true, Bool.true_eq_false, reduceCtorEq, false_iff, true_iff, iff_true, iff_false, and_true, true_and, and_false, false_and, reduceIte, ite_true, ite_false, eq_self] at *)) <;> omega)), trivial⟩
          exact hi12 _ _ _ _ ⟨Fs6, (khi8_0), (khi8_1), (by ((try simp only [vp_in_iff, Int32.lt_iff_toInt_lt, Int32.le_iff_toInt_le, ← Int32.toInt_inj, Int32.reduceToInt, n_1, n_2, n_8, Int32.toNatClampNeg, Int64.lt_iff_toInt_lt, Int64.le_iff_toInt_le, ← Int64.toInt_inj, Int64.reduceToInt, Int32.toInt_toInt64, lg_cmp_ge, lg_cmp_le, lg_cmp_gt, lg_cmp_lt, lg_cmp_eq, Bool.false_eq_true, Bool.true_eq_false, reduceCtorEq, false_iff, true_iff, iff_true, iff_false, and_true, true_and, and_false, false_and, reduceIte, ite_true, ite_false, eq_self] at *)) <;> omega), trivial⟩ rfl
        · have mh9 := nle_mx h9
          refine wa_aload_n (i := 0) rfl rfl ?_
          refine wa_getr ck_0 fl_0_28 ly_41 rf_41_7 ?_
          refine wa_iload rfl ?_
          refine wa_ldc2 (v := (-9223372036854775808)) (allW_in (kT_7 _ (List.mem_of_getElem? (i := 4) rfl)) rfl) ?_
          refine wa_last ly_47 (by ((try simp only [vp_in_iff, Int32.lt_iff_toInt_lt, Int32.le_iff_toInt_le, ← Int32.toInt_inj, Int32.reduceToInt, n_1, n_2, n_8, Int32.toNatClampNeg, Int64.lt_iff_toInt_lt, Int64.le_iff_toInt_le, ← Int64.toInt_inj, Int64.reduceToInt, Int32.toInt_toInt64, lg_cmp_ge, lg_cmp_le, lg_cmp_gt, lg_cmp_lt, lg_cmp_eq, Bool.false_eq_true, Bool.true_eq_false, reduceCtorEq, false_iff, true_iff, iff_true, iff_false, and_true, true_and, and_false, false_and, reduceIte, ite_true, ite_false, eq_self] at *)) <;> omega) (fun s37 hs37 => ?_)
          have Fs37 : Sm 41 49 σ s37 := by rw [hs37]; exact Sm.sl Fs6 _ _ (by decide) (by decide)
          refine wa_iconst (v := 0) (by decide) ?_
          refine wa_istoreD (lv' := [(7, .int 0), (0, .ref 41), (2, .ref 29), (4, .int x2), (5, .int (-1)), (6, .int l6)]) (by decide) rfl ?_
          refine wa_pick [1, 2, 3, 4, 5, 0] rfl ?_
          have hi40 : ∀ (n9_49 : Nat) (l7 : Int32) (s38 : St), ((Sm 41 49 σ s38) ∧ (gi s38 31 13 = gi σ 31 13) ∧ (gi s38 41 15 = gi σ 41 15) ∧ (0 ≤ l7.toInt) ∧ (True)) → (2147483647 - l7.toInt).toNat = n9_49 → WA G M_X0_tellExtreme (ZM G M_X0_tellExtreme d (fun r σ' => ∃ x : Int32, r = some (.int x) ∧ Sm 41 49 σ σ' ∧ (0 ≤ (gi σ' 41 15).toInt ∧ (gi σ' 41 15).toInt ≤ 1100) ∧ True)) B_X0_tellExtreme_49 [(0, .ref 41), (2, .ref 29), (4, .int x2), (5, .int (-1)), (6, .int l6), (7, .int l7)] [] s38 := by
            intro n9_49
            induction n9_49 using Nat.strongRecOn with
            | _ n9_49 ih39 =>
              intro l7 s38 i9 m9_49
              obtain ⟨Fs38, khi40_0, khi40_1, jhi40_0, -⟩ := i9
              have ul7 := Int32.toInt_lt l7
              have wl7 := Int32.le_toInt l7
              refine wa_iload rfl ?_
              refine wa_bipush (v := 16) (by decide) ?_
              refine wa_icmp_ge o_X0_tellExtreme_103 (by decide) (fun h41 => ?_) (fun h41 => ?_)
              · refine wa_iinc (v := (1)) (lv' := fun y42 => [(6, .int y42), (0, .ref 41), (2, .ref 29), (4, .int x2), (5, .int (-1)), (7, .int l7)]) (by decide) rfl (by decide) (fun _ => rfl) (fun y42 hy42 => ?_)
                have ty42 := i_addT hy42.symm
                clear hy42
                refine wa_goto o_X0_tellExtreme_29 (by decide) ?_
                refine wa_pick [1, 2, 3, 4, 0] rfl ?_
                exact ih7 _ (by ((try simp only [vp_in_iff, Int32.lt_iff_toInt_lt, Int32.le_iff_toInt_le, ← Int32.toInt_inj, Int32.reduceToInt, n_1, n_2, n_8, Int32.toNatClampNeg, Int64.lt_iff_toInt_lt, Int64.le_iff_toInt_le, ← Int64.toInt_inj, Int64.reduceToInt, Int32.toInt_toInt64, lg_cmp_ge, lg_cmp_le, lg_cmp_gt, lg_cmp_lt, lg_cmp_eq, Bool.false_eq_true, Bool.true_eq_false, reduceCtorEq, false_iff, true_iff, iff_true, iff_false, and_true, true_and, and_false, false_and, reduceIte, ite_true, ite_false, eq_self] at *)) <;> omega) _ _ ⟨Fs38, (khi40_0), (khi40_1), (by ((try simp only [vp_in_iff, Int32.lt_iff_toInt_lt, Int32.le_iff_toInt_le, ← Int32.toInt_inj, Int32.reduceToInt, n_1, n_2, n_8, Int32.toNatClampNeg, Int64.lt_iff_toInt_lt, Int64.le_iff_toInt_le, ← Int64.toInt_inj, Int64.reduceToInt, Int32.toInt_toInt64, lg_cmp_ge, lg_cmp_le, lg_cmp_gt, lg_cmp_lt, lg_cmp_eq, Bool.false_eq_true, Bool.true_eq_false, reduceCtorEq, false_iff, true_iff, iff_true, iff_false, and_true, true_and, and_false, false_and, reduceIte, ite_true, ite_false, eq_self] at *)) <;> omega), trivial⟩ rfl
              · have mh41 := nle_mx h41
                refine wa_aload_n (i := 0) rfl rfl ?_
                refine wa_getr ck_0 fl_0_22 ly_41 rf_41_5 ?_
                refine wa_iload rfl ?_
                refine wa_iald ly_45 (by ((try simp only [vp_in_iff, Int32.lt_iff_toInt_lt, Int32.le_iff_toInt_le, ← Int32.toInt_inj, Int32.reduceToInt, n_1, n_2, n_8, Int32.toNatClampNeg, Int64.lt_iff_toInt_lt, Int64.le_iff_toInt_le, ← Int64.toInt_inj, Int64.reduceToInt, Int32.toInt_toInt64, lg_cmp_ge, lg_cmp_le, lg_cmp_gt, lg_cmp_lt, lg_cmp_eq, Bool.false_eq_true, Bool.true_eq_false, reduceCtorEq, false_iff, true_iff, iff_true, iff_false, and_true, true_and, and_false, false_and, reduceIte, ite_true, ite_false, eq_self] at *)) <;> omega) ?_
                refine wa_iload rfl ?_
                refine wa_iushr ?_
                refine wa_top (fun v43 hv43 => ?_)
                clear hv43
                refine wa_iconst (v := 1) (by decide) ?_
                refine wa_iand ?_
                refine wa_top (fun v44 hv44 => ?_)
                have tv44 := i_andT hv44
                clear hv44
                refine wa_iconst (v := 1) (by decide) ?_
                refine wa_icmp_ne o_X0_tellExtreme_97 (by decide) (fun h45 => ?_) (fun h45 => ?_)
                · refine wa_iinc (v := (1)) (lv' := fun y46 => [(7, .int y46), (0, .ref 41), (2, .ref 29), (4, .int x2), (5, .int (-1)), (6, .int l6)]) (by decide) rfl (by decide) (fun _ => rfl) (fun y46 hy46 => ?_)
                  have ty46 := i_addT hy46.symm
                  clear hy46
                  refine wa_goto o_X0_tellExtreme_49 (by decide) ?_
                  refine wa_pick [1, 2, 3, 4, 5, 0] rfl ?_
                  exact ih39 _ (by ((try simp only [vp_in_iff, Int32.lt_iff_toInt_lt, Int32.le_iff_toInt_le, ← Int32.toInt_inj, Int32.reduceToInt, n_1, n_2, n_8, Int32.toNatClampNeg, Int64.lt_iff_toInt_lt, Int64.le_iff_toInt_le, ← Int64.toInt_inj, Int64.reduceToInt, Int32.toInt_toInt64, lg_cmp_ge, lg_cmp_le, lg_cmp_gt, lg_cmp_lt, lg_cmp_eq, Bool.false_eq_true, Bool.true_eq_false, reduceCtorEq, false_iff, true_iff, iff_true, iff_false, and_true, true_and, and_false, false_and, reduceIte, ite_true, ite_false, eq_self] at *)) <;> omega) _ _ ⟨Fs38, (khi40_0), (khi40_1), (by ((try simp only [vp_in_iff, Int32.lt_iff_toInt_lt, Int32.le_iff_toInt_le, ← Int32.toInt_inj, Int32.reduceToInt, n_1, n_2, n_8, Int32.toNatClampNeg, Int64.lt_iff_toInt_lt, Int64.le_iff_toInt_le, ← Int64.toInt_inj, Int64.reduceToInt, Int32.toInt_toInt64, lg_cmp_ge, lg_cmp_le, lg_cmp_gt, lg_cmp_lt, lg_cmp_eq, Bool.false_eq_true, Bool.true_eq_false, reduceCtorEq, false_iff, true_iff, iff_true, iff_false, and_true, true_and, and_false, false_and, reduceIte, ite_true, ite_false, eq_self] at *)) <;> omega), trivial⟩ rfl
                · refine wa_aload_n (i := 0) rfl rfl ?_
                  refine wa_getr ck_0 fl_0_28 ly_41 rf_41_7 ?_
                  refine wa_iload rfl ?_
                  refine wa_aload_n (i := 0) rfl rfl ?_
                  refine wa_getr ck_0 fl_0_28 ly_41 rf_41_7 ?_
                  refine wa_iload rfl ?_
                  refine wa_lald ly_47 (by ((try simp only [vp_in_iff, Int32.lt_iff_toInt_lt, Int32.le_iff_toInt_le, ← Int32.toInt_inj, Int32.reduceToInt, n_1, n_2, n_8, Int32.toNatClampNeg, Int64.lt_iff_toInt_lt, Int64.le_iff_toInt_le, ← Int64.toInt_inj, Int64.reduceToInt, Int32.toInt_toInt64, lg_cmp_ge, lg_cmp_le, lg_cmp_gt, lg_cmp_lt, lg_cmp_eq, Bool.false_eq_true, Bool.true_eq_false, reduceCtorEq, false_iff, true_iff, iff_true, iff_false, and_true, true_and, and_false, false_and, reduceIte, ite_true, ite_false, eq_self] at *)) <;> omega) ?_
                  refine wa_aload_n (i := 0) rfl rfl ?_
                  refine wa_getr ck_0 fl_0_25 ly_41 rf_41_6 ?_
                  refine wa_iload rfl ?_
                  refine wa_lald ly_46 (by ((try simp only [vp_in_iff, Int32.lt_iff_toInt_lt, Int32.le_iff_toInt_le, ← Int32.toInt_inj, Int32.reduceToInt, n_1, n_2, n_8, Int32.toNatClampNeg, Int64.lt_iff_toInt_lt, Int64.le_iff_toInt_le, ← Int64.toInt_inj, Int64.reduceToInt, Int32.toInt_toInt64, lg_cmp_ge, lg_cmp_le, lg_cmp_gt, lg_cmp_lt, lg_cmp_eq, Bool.false_eq_true, Bool.true_eq_false, reduceCtorEq, false_iff, true_iff, iff_true, iff_false, and_true, true_and, and_false, false_and, reduceIte, ite_true, ite_false, eq_self] at *)) <;> omega) ?_
                  refine wa_lneg ?_
                  refine wa_topl (fun v47 hv47 => ?_)
                  clear hv47
                  refine wa_maxL zs (allW_in (kT_7 _ (List.mem_of_getElem? (i := 5) rfl)) rfl) (Nat.le_of_ble_eq_true rfl) ?_
                  refine wa_topl (fun v48 hv48 => ?_)
                  have tv48 := i_maxL hv48
                  clear hv48
                  refine wa_last ly_47 (by ((try simp only [vp_in_iff, Int32.lt_iff_toInt_lt, Int32.le_iff_toInt_le, ← Int32.toInt_inj, Int32.reduceToInt, n_1, n_2, n_8, Int32.toNatClampNeg, Int64.lt_iff_toInt_lt, Int64.le_iff_toInt_le, ← Int64.toInt_inj, Int64.reduceToInt, Int32.toInt_toInt64, lg_cmp_ge, lg_cmp_le, lg_cmp_gt, lg_cmp_lt, lg_cmp_eq, Bool.false_eq_true, Bool.true_eq_false, reduceCtorEq, false_iff, true_iff, iff_true, iff_false, and_true, true_and, and_false, false_and, reduceIte, ite_true, ite_false, eq_self] at *)) <;> omega) (fun s49 hs49 => ?_)
                  have Fs49 : Sm 41 49 σ s49 := by rw [hs49]; exact Sm.sl Fs38 _ _ (by decide) (by decide)
                  refine wa_iinc (v := (1)) (lv' := fun y50 => [(7, .int y50), (0, .ref 41), (2, .ref 29), (4, .int x2), (5, .int (-1)), (6, .int l6)]) (by decide) rfl (by decide) (fun _ => rfl) (fun y50 hy50 => ?_)
                  have ty50 := i_addT hy50.symm
                  clear hy50
                  refine wa_goto o_X0_tellExtreme_49 (by decide) ?_
                  refine wa_pick [1, 2, 3, 4, 5, 0] rfl ?_
                  exact ih39 _ (by ((try simp only [vp_in_iff, Int32.lt_iff_toInt_lt, Int32.le_iff_toInt_le, ← Int32.toInt_inj, Int32.reduceToInt, n_1, n_2, n_8, Int32.toNatClampNeg, Int64.lt_iff_toInt_lt, Int64.le_iff_toInt_le, ← Int64.toInt_inj, Int64.reduceToInt, Int32.toInt_toInt64, lg_cmp_ge, lg_cmp_le, lg_cmp_gt, lg_cmp_lt, lg_cmp_eq, Bool.false_eq_true, Bool.true_eq_false, reduceCtorEq, false_iff, true_iff, iff_true, iff_false, and_true, true_and, and_false, false_and, reduceIte, ite_true, ite_false, eq_self] at *)) <;> omega) _ _ ⟨Fs49, ((nx_gi_sl hs49).trans (khi40_0)), ((nx_gi_sl hs49).trans (khi40_1)), (by ((try simp only [vp_in_iff, Int32.lt_iff_toInt_lt, Int32.le_iff_toInt_le, ← Int32.toInt_inj, Int32.reduceToInt, n_1, n_2, n_8, Int32.toNatClampNeg, Int64.lt_iff_toInt_lt, Int64.le_iff_toInt_le, ← Int64.toInt_inj, Int64.reduceToInt, Int32.toInt_toInt64, lg_cmp_ge, lg_cmp_le, lg_cmp_gt, lg_cmp_lt, lg_cmp_eq, Bool.false_eq_true, Bool.true_eq_false, reduceCtorEq, false_iff, true_iff, iff_true, iff_false, and_true, true_and, and_false, false_and, reduceIte, ite_true, ite_false, eq_self] at *)) <;> omega), trivial⟩ rfl
          exact hi40 _ _ _ ⟨Fs37, ((nx_gi_sl hs37).trans (khi8_0)), ((nx_gi_sl hs37).trans (khi8_1)), (by ((try simp only [vp_in_iff, Int32.lt_iff_toInt_lt, Int32.le_iff_toInt_le, ← Int32.toInt_inj, Int32.reduceToInt, n_1, n_2, n_8, Int32.toNatClampNeg, Int64.lt_iff_toInt_lt, Int64.le_iff_toInt_le, ← Int64.toInt_inj, Int64.reduceToInt, Int32.toInt_toInt64, lg_cmp_ge, lg_cmp_le, lg_cmp_gt, lg_cmp_lt, lg_cmp_eq, Bool.false_eq_true, Bool.true_eq_false, reduceCtorEq, false_iff, true_iff, iff_true, iff_false, and_true, true_and, and_false, false_and, reduceIte, ite_true, ite_false, eq_self] at *)) <;> omega), trivial⟩ rfl
    exact hi8 _ _ _ ⟨Fs4, ((Sm.gi fs4 13 (Or.inl (by decide))).trans (Sm.gi fs1 13 (Or.inl (by decide)))), ((Sm.gi fs4 15 (Or.inl (by decide))).trans (Sm.gi fs1 15 (Or.inl (by decide)))), (by ((try simp only [vp_in_iff, Int32.lt_iff_toInt_lt, Int32.le_iff_toInt_le, ← Int32.toInt_inj, Int32.reduceToInt, n_1, n_2, n_8, Int32.toNatClampNeg, Int64.lt_iff_toInt_lt, Int64.le_iff_toInt_le, ← Int64.toInt_inj, Int64.reduceToInt, Int32.toInt_toInt64, lg_cmp_ge, lg_cmp_le, lg_cmp_gt, lg_cmp_lt, lg_cmp_eq, Bool.false_eq_true, Bool.true_eq_false, reduceCtorEq, false_iff, true_iff, iff_true, iff_false, and_true, true_and, and_false, false_and, reduceIte, ite_true, ite_false, eq_self] at *)) <;> omega), trivial⟩ rfl
  · replace h3 := bI_t (b := a2) (rfl) h3
    refine wa_iconst (v := 1) (by decide) ?_
    refine wa_goto o_X0_tellExtreme_17 (by decide) ?_
    refine wa_istoreD (lv' := [(5, .int 1), (4, .int x2), (0, .ref 41), (1, .int a0), (2, .ref 29), (3, .int (bI a2))]) (by decide) rfl ?_
    refine wa_aload_n (i := 0) rfl rfl ?_
    refine wa_aload_n (i := 2) rfl rfl ?_
    refine wa_iload rfl ?_
    refine wa_Vv (d9 := d - 1) [.ref 29, .int _] [] (sp_X0_weigh G (d := d - 1) (by omega) s1 _) (rfl) rfl rfl (zr (by omega)) mk_X0_weigh ly_41 ml_0_115 (Nat.le_of_ble_eq_true rfl) (fun s51 hs51 => ?_)
    obtain ⟨fs51, -⟩ := hs51
    have Fs51 := Sm.tr Fs1 (Sm.wd fs51 (lo' := 41) (hi' := 49) (by decide) (by decide))
    refine wa_iconst (v := 0) (by decide) ?_
    refine wa_istoreD (lv' := [(6, .int 0), (5, .int 1), (4, .int x2), (0, .ref 41), (1, .int a0), (2, .ref 29), (3, .int (bI a2))]) (by decide) rfl ?_
    refine wa_pick [3, 5, 2, 1, 0] rfl ?_
    have hi55 : ∀ (n9_29 : Nat) (l6 : Int32) (s53 : St), ((Sm 41 49 σ s53) ∧ (gi s53 31 13 = gi σ 31 13) ∧ (gi s53 41 15 = gi σ 41 15) ∧ (0 ≤ l6.toInt) ∧ (True)) → (2147483647 - l6.toInt).toNat = n9_29 → WA G M_X0_tellExtreme (ZM G M_X0_tellExtreme d (fun r σ' => ∃ x : Int32, r = some (.int x) ∧ Sm 41 49 σ σ' ∧ (0 ≤ (gi σ' 41 15).toInt ∧ (gi σ' 41 15).toInt ≤ 1100) ∧ True)) B_X0_tellExtreme_29 [(0, .ref 41), (2, .ref 29), (4, .int x2), (5, .int 1), (6, .int l6)] [] s53 := by
      intro n9_29
      induction n9_29 using Nat.strongRecOn with
      | _ n9_29 ih54 =>
        intro l6 s53 i9 m9_29
        obtain ⟨Fs53, khi55_0, khi55_1, jhi55_0, -⟩ := i9
        have ul6 := Int32.toInt_lt l6
        have wl6 := Int32.le_toInt l6
        refine wa_iload rfl ?_
        refine wa_iload rfl ?_
        refine wa_icmp_ge o_X0_tellExtreme_109 (by decide) (fun h56 => ?_) (fun h56 => ?_)
        · refine wa_iconst (v := 1) (by decide) ?_
          refine wa_istoreD (lv' := [(6, .int (bI true)), (0, .ref 41), (2, .ref 29), (4, .int x2), (5, .int 1)]) (by decide) rfl ?_
          refine wa_iconst (v := 0) (by decide) ?_
          refine wa_istoreD (lv' := [(7, .int 0), (6, .int (bI true)), (0, .ref 41), (2, .ref 29), (4, .int x2), (5, .int 1)]) (by decide) rfl ?_
          refine wa_pick [2, 3, 4, 5, 1, 0] rfl ?_
          have hi59 : ∀ (n9_115 : Nat) (l6 : Bool) (l7 : Int32) (s57 : St), ((Sm 41 49 σ s57) ∧ (gi s57 31 13 = gi σ 31 13) ∧ (gi s57 41 15 = gi σ 41 15) ∧ (0 ≤ l7.toInt) ∧ (True)) → (2147483647 - l7.toInt).toNat = n9_115 → WA G M_X0_tellExtreme (ZM G M_X0_tellExtreme d (fun r σ' => ∃ x : Int32, r = some (.int x) ∧ Sm 41 49 σ σ' ∧ (0 ≤ (gi σ' 41 15).toInt ∧ (gi σ' 41 15).toInt ≤ 1100) ∧ True)) B_X0_tellExtreme_115 [(0, .ref 41), (2, .ref 29), (4, .int x2), (5, .int 1), (6, .int (bI l6)), (7, .int l7)] [] s57 := by
            intro n9_115
            induction n9_115 using Nat.strongRecOn with
            | _ n9_115 ih58 =>
              intro l6 l7 s57 i9 m9_115
              obtain ⟨Fs57, khi59_0, khi59_1, jhi59_0, -⟩ := i9
              have ul7 := Int32.toInt_lt l7
              have wl7 := Int32.le_toInt l7
              refine wa_iload rfl ?_
              refine wa_ldc (v := (1000000)) (allW_in (kT_7 _ (List.mem_of_getElem? (i := 6) rfl)) rfl) ?_
              refine wa_icmp_ge o_X0_tellExtreme_152 (by decide) (fun h60 => ?_) (fun h60 => ?_)
              · refine wa_aload_n (i := 0) rfl rfl ?_
                refine wa_getr ck_0 fl_0_28 ly_41 rf_41_7 ?_
                refine wa_iconst (v := 0) (by decide) ?_
                refine wa_lald ly_47 (by ((try simp only [vp_in_iff, Int32.lt_iff_toInt_lt, Int32.le_iff_toInt_le, ← Int32.toInt_inj, Int32.reduceToInt, n_1, n_2, n_8, Int32.toNatClampNeg, Int64.lt_iff_toInt_lt, Int64.le_iff_toInt_le, ← Int64.toInt_inj, Int64.reduceToInt, Int32.toInt_toInt64, lg_cmp_ge, lg_cmp_le, lg_cmp_gt, lg_cmp_lt, lg_cmp_eq, Bool.false_eq_true, Bool.true_eq_false, reduceCtorEq, false_iff, true_iff, iff_true, iff_false, and_true, true_and, and_false, false_and, reduceIte, ite_true, ite_false, eq_self] at *)) <;> omega) ?_
                refine wa_ldc2 (v := (-9223372036854775808)) (allW_in (kT_7 _ (List.mem_of_getElem? (i := 4) rfl)) rfl) ?_
                refine wa_lcmp ?_
                refine wa_top (fun v61 hv61 => ?_)
                have tv61 := i_cmpT hv61
                clear hv61
                refine wa_if_ne o_X0_tellExtreme_167 (by decide) (fun h62 => ?_) (fun h62 => ?_)
                · refine wa_aload_n (i := 0) rfl rfl ?_
                  refine wa_iload rfl ?_
                  refine wa_i2l ?_
                  refine wa_aload_n (i := 0) rfl rfl ?_
                  refine wa_getr ck_0 fl_0_28 ly_41 rf_41_7 ?_
                  refine wa_iconst (v := 0) (by decide) ?_
                  refine wa_lald ly_47 (by ((try simp only [vp_in_iff, Int32.lt_iff_toInt_lt, Int32.le_iff_toInt_le, ← Int32.toInt_inj, Int32.reduceToInt, n_1, n_2, n_8, Int32.toNatClampNeg, Int64.lt_iff_toInt_lt, Int64.le_iff_toInt_le, ← Int64.toInt_inj, Int64.reduceToInt, Int32.toInt_toInt64, lg_cmp_ge, lg_cmp_le, lg_cmp_gt, lg_cmp_lt, lg_cmp_eq, Bool.false_eq_true, Bool.true_eq_false, reduceCtorEq, false_iff, true_iff, iff_true, iff_false, and_true, true_and, and_false, false_and, reduceIte, ite_true, ite_false, eq_self] at *)) <;> omega) ?_
                  refine wa_lmul ?_
                  refine wa_topl (fun v63 hv63 => ?_)
                  clear hv63
                  refine wa_aload_n (i := 2) rfl rfl ?_
                  refine wa_alen ly_29 (by decide) ?_
                  refine wa_rw (show Int32.ofNat 5 = 5 from rfl) ?_
                  refine wa_iconst (v := 4) (by decide) ?_
                  refine wa_icmp_le o_X0_tellExtreme_190 (by decide) (fun h64 => ?_) (fun h64 => ?_)
                  · refine wa_lconst (v := 0) (by decide) ?_
                    refine wa_ladd ?_
                    refine wa_topl (fun v65 hv65 => ?_)
                    clear hv65
                    refine wa_putl ck_0 fl_0_132 ly_41 (fun s66 hs66 => ?_)
                    have Fs66 : Sm 41 49 σ s66 := by rw [hs66]; exact Sm.sl Fs57 _ _ (by decide) (by decide)
                    refine wa_iconst (v := 1) (by decide) ?_
                    refine wa_ireturn rfl rfl ?_
                    exact ⟨_, rfl, Fs66, (by rw [(nx_gi_sl hs66).trans (khi59_1)]; first | assumption | (((try simp only [vp_in_iff, Int32.lt_iff_toInt_lt, Int32.le_iff_toInt_le, ← Int32.toInt_inj, Int32.reduceToInt, n_1, n_2, n_8, Int32.toNatClampNeg, Int64.lt_iff_toInt_lt, Int64.le_iff_toInt_le, ← Int64.toInt_inj, Int64.reduceToInt, Int32.toInt_toInt64, lg_cmp_ge, lg_cmp_le, lg_cmp_gt, lg_cmp_lt, lg_cmp_eq, Bool.false_eq_true, Bool.true_eq_false, reduceCtorEq, false_iff, true_iff, iff_true, iff_false, and_true, true_and, and_false, false_and, reduceIte, ite_true, ite_false, eq_self] at *)) <;> omega)), trivial⟩
                  · refine wa_aload_n (i := 2) rfl rfl ?_
                    refine wa_iconst (v := 4) (by decide) ?_
                    refine wa_lald ly_29 (by ((try simp only [vp_in_iff, Int32.lt_iff_toInt_lt, Int32.le_iff_toInt_le, ← Int32.toInt_inj, Int32.reduceToInt, n_1, n_2, n_8, Int32.toNatClampNeg, Int64.lt_iff_toInt_lt, Int64.le_iff_toInt_le, ← Int64.toInt_inj, Int64.reduceToInt, Int32.toInt_toInt64, lg_cmp_ge, lg_cmp_le, lg_cmp_gt, lg_cmp_lt, lg_cmp_eq, Bool.false_eq_true, Bool.true_eq_false, reduceCtorEq, false_iff, true_iff, iff_true, iff_false, and_true, true_and, and_false, false_and, reduceIte, ite_true, ite_false, eq_self] at *)) <;> omega) ?_
                    refine wa_goto o_X0_tellExtreme_191 (by decide) ?_
                    refine wa_ladd ?_
                    refine wa_topl (fun v67 hv67 => ?_)
                    clear hv67
                    refine wa_putl ck_0 fl_0_132 ly_41 (fun s68 hs68 => ?_)
                    have Fs68 : Sm 41 49 σ s68 := by rw [hs68]; exact Sm.sl Fs57 _ _ (by decide) (by decide)
                    refine wa_iconst (v := 1) (by decide) ?_
                    refine wa_ireturn rfl rfl ?_
                    exact ⟨_, rfl, Fs68, (by rw [(nx_gi_sl hs68).trans (khi59_1)]; first | assumption | (((try simp only [vp_in_iff, Int32.lt_iff_toInt_lt, Int32.le_iff_toInt_le, ← Int32.toInt_inj, Int32.reduceToInt, n_1, n_2, n_8, Int32.toNatClampNeg, Int64.lt_iff_toInt_lt, Int64.le_iff_toInt_le, ← Int64.toInt_inj, Int64.reduceToInt, Int32.toInt_toInt64, lg_cmp_ge, lg_cmp_le, lg_cmp_gt, lg_cmp_lt, lg_cmp_eq, Bool.false_eq_true, Bool.true_eq_false, reduceCtorEq, false_iff, true_iff, iff_true, iff_false, and_true, true_and, and_false, false_and, reduceIte, ite_true, ite_false, eq_self] at *)) <;> omega)), trivial⟩
                · refine wa_iconst (v := 0) (by decide) ?_
                  refine wa_ireturn rfl rfl ?_
                  exact ⟨_, rfl, Fs57, (by rw [khi59_1]; first | assumption | (((try simp only [vp_in_iff, Int32.lt_iff_toInt_lt, Int32.le_iff_toInt_le, ← Int32.toInt_inj, Int32.reduceToInt, n_1, n_2, n_8, Int32.toNatClampNeg, Int64.lt_iff_toInt_lt, Int64.le_iff_toInt_le, ← Int64.toInt_inj, Int64.reduceToInt, Int32.toInt_toInt64, lg_cmp_ge, lg_cmp_le, lg_cmp_gt, lg_cmp_lt, lg_cmp_eq, Bool.false_eq_true, Bool.true_eq_false, reduceCtorEq, false_iff, true_iff, iff_true, iff_false, and_true, true_and, and_false, false_and, reduceIte, ite_true, ite_false, eq_self] at *)) <;> omega)), trivial⟩
              · have mh60 := nle_mx h60
                refine wa_iload rfl ?_
                refine wa_if_eq o_X0_tellExtreme_152 (by decide) (fun h69 => ?_) (fun h69 => ?_)
                · replace h69 := bI_f (b := l6) (rfl) h69
                  refine wa_aload_n (i := 0) rfl rfl ?_
                  refine wa_getr ck_0 fl_0_28 ly_41 rf_41_7 ?_
                  refine wa_iconst (v := 0) (by decide) ?_
                  refine wa_lald ly_47 (by ((try simp only [vp_in_iff, Int32.lt_iff_toInt_lt, Int32.le_iff_toInt_le, ← Int32.toInt_inj, Int32.reduceToInt, n_1, n_2, n_8, Int32.toNatClampNeg, Int64.lt_iff_toInt_lt, Int64.le_iff_toInt_le, ← Int64.toInt_inj, Int64.reduceToInt, Int32.toInt_toInt64, lg_cmp_ge, lg_cmp_le, lg_cmp_gt, lg_cmp_lt, lg_cmp_eq, Bool.false_eq_true, Bool.true_eq_false, reduceCtorEq, false_iff, true_iff, iff_true, iff_false, and_true, true_and, and_false, false_and, reduceIte, ite_true, ite_false, eq_self] at *)) <;> omega) ?_
                  refine wa_ldc2 (v := (-9223372036854775808)) (allW_in (kT_7 _ (List.mem_of_getElem? (i := 4) rfl)) rfl) ?_
                  refine wa_lcmp ?_
                  refine wa_top (fun v70 hv70 => ?_)
                  have tv70 := i_cmpT hv70
                  clear hv70
                  refine wa_if_ne o_X0_tellExtreme_167 (by decide) (fun h71 => ?_) (fun h71 => ?_)
                  · refine wa_aload_n (i := 0) rfl rfl ?_
                    refine wa_iload rfl ?_
                    refine wa_i2l ?_
                    refine wa_aload_n (i := 0) rfl rfl ?_
                    refine wa_getr ck_0 fl_0_28 ly_41 rf_41_7 ?_
                    refine wa_iconst (v := 0) (by decide) ?_
                    refine wa_lald ly_47 (by ((try simp only [vp_in_iff, Int32.lt_iff_toInt_lt, Int32.le_iff_toInt_le, ← Int32.toInt_inj, Int32.reduceToInt, n_1, n_2, n_8, Int32.toNatClampNeg, Int64.lt_iff_toInt_lt, Int64.le_iff_toInt_le, ← Int64.toInt_inj, Int64.reduceToInt, Int32.toInt_toInt64, lg_cmp_ge, lg_cmp_le, lg_cmp_gt, lg_cmp_lt, lg_cmp_eq, Bool.false_eq_true, Bool.true_eq_false, reduceCtorEq, false_iff, true_iff, iff_true, iff_false, and_true, true_and, and_false, false_and, reduceIte, ite_true, ite_false, eq_self] at *)) <;> omega) ?_
                    refine wa_lmul ?_
                    refine wa_topl (fun v72 hv72 => ?_)
                    clear hv72
                    refine wa_aload_n (i := 2) rfl rfl ?_
                    refine wa_alen ly_29 (by decide) ?_
                    refine wa_rw (show Int32.ofNat 5 = 5 from rfl) ?_
                    refine wa_iconst (v := 4) (by decide) ?_
                    refine wa_icmp_le o_X0_tellExtreme_190 (by decide) (fun h73 => ?_) (fun h73 => ?_)
                    · refine wa_lconst (v := 0) (by decide) ?_
                      refine wa_ladd ?_
                      refine wa_topl (fun v74 hv74 => ?_)
                      clear hv74
                      refine wa_putl ck_0 fl_0_132 ly_41 (fun s75 hs75 => ?_)
                      have Fs75 : Sm 41 49 σ s75 := by rw [hs75]; exact Sm.sl Fs57 _ _ (by decide) (by decide)
                      refine wa_iconst (v := 1) (by decide) ?_
                      refine wa_ireturn rfl rfl ?_
                      exact ⟨_, rfl, Fs75, (by rw [(nx_gi_sl hs75).trans (khi59_1)]; first | assumption | (((try simp only [vp_in_iff, Int32.lt_iff_toInt_lt, Int32.le_iff_toInt_le, ← Int32.toInt_inj, Int32.reduceToInt, n_1, n_2, n_8, Int32.toNatClampNeg, Int64.lt_iff_toInt_lt, Int64.le_iff_toInt_le, ← Int64.toInt_inj, Int64.reduceToInt, Int32.toInt_toInt64, lg_cmp_ge, lg_cmp_le, lg_cmp_gt, lg_cmp_lt, lg_cmp_eq, Bool.false_eq_true, Bool.true_eq_false, reduceCtorEq, false_iff, true_iff, iff_true, iff_false, and_true, true_and, and_false, false_and, reduceIte, ite_true, ite_false, eq_self] at *)) <;> omega)), trivial⟩
                    · refine wa_aload_n (i := 2) rfl rfl ?_
                      refine wa_iconst (v := 4) (by decide) ?_
                      refine wa_lald ly_29 (by ((try simp only [vp_in_iff, Int32.lt_iff_toInt_lt, Int32.le_iff_toInt_le, ← Int32.toInt_inj, Int32.reduceToInt, n_1, n_2, n_8, Int32.toNatClampNeg, Int64.lt_iff_toInt_lt, Int64.le_iff_toInt_le, ← Int64.toInt_inj, Int64.reduceToInt, Int32.toInt_toInt64, lg_cmp_ge, lg_cmp_le, lg_cmp_gt, lg_cmp_lt, lg_cmp_eq, Bool.false_eq_true, Bool.true_eq_false, reduceCtorEq, false_iff, true_iff, iff_true, iff_false, and_true, true_and, and_false, false_and, reduceIte, ite_true, ite_false, eq_self] at *)) <;> omega) ?_
                      refine wa_goto o_X0_tellExtreme_191 (by decide) ?_
                      refine wa_ladd ?_
                      refine wa_topl (fun v76 hv76 => ?_)
                      clear hv76
                      refine wa_putl ck_0 fl_0_132 ly_41 (fun s77 hs77 => ?_)
                      have Fs77 : Sm 41 49 σ s77 := by rw [hs77]; exact Sm.sl Fs57 _ _ (by decide) (by decide)
                      refine wa_iconst (v := 1) (by decide) ?_
                      refine wa_ireturn rfl rfl ?_
                      exact ⟨_, rfl, Fs77, (by rw [(nx_gi_sl hs77).trans (khi59_1)]; first | assumption | (((try simp only [vp_in_iff, Int32.lt_iff_toInt_lt, Int32.le_iff_toInt_le, ← Int32.toInt_inj, Int32.reduceToInt, n_1, n_2, n_8, Int32.toNatClampNeg, Int64.lt_iff_toInt_lt, Int64.le_iff_toInt_le, ← Int64.toInt_inj, Int64.reduceToInt, Int32.toInt_toInt64, lg_cmp_ge, lg_cmp_le, lg_cmp_gt, lg_cmp_lt, lg_cmp_eq, Bool.false_eq_true, Bool.true_eq_false, reduceCtorEq, false_iff, true_iff, iff_true, iff_false, and_true, true_and, and_false, false_and, reduceIte, ite_true, ite_false, eq_self] at *)) <;> omega)), trivial⟩
                  · refine wa_iconst (v := 0) (by decide) ?_
                    refine wa_ireturn rfl rfl ?_
                    exact ⟨_, rfl, Fs57, (by rw [khi59_1]; first | assumption | (((try simp only [vp_in_iff, Int32.lt_iff_toInt_lt, Int32.le_iff_toInt_le, ← Int32.toInt_inj, Int32.reduceToInt, n_1, n_2, n_8, Int32.toNatClampNeg, Int64.lt_iff_toInt_lt, Int64.le_iff_toInt_le, ← Int64.toInt_inj, Int64.reduceToInt, Int32.toInt_toInt64, lg_cmp_ge, lg_cmp_le, lg_cmp_gt, lg_cmp_lt, lg_cmp_eq, Bool.false_eq_true, Bool.true_eq_false, reduceCtorEq, false_iff, true_iff, iff_true, iff_false, and_true, true_and, and_false, false_and, reduceIte, ite_true, ite_false, eq_self] at *)) <;> omega)), trivial⟩
                · replace h69 := bI_t (b := l6) (rfl) h69
                  refine wa_aload_n (i := 0) rfl rfl ?_
                  refine wa_iload rfl ?_
                  refine wa_Vi (d9 := d - 1) [.int _] [] (sp_X0_isBeyond G (d := d - 1) (by omega) s57 _) (rfl) rfl rfl (zr (by omega)) mk_X0_isBeyond ly_41 ml_0_125 (Nat.le_of_ble_eq_true rfl) (fun x79 s78 hs78 => ?_)
                  obtain ⟨bx79, ex79, zs78, -⟩ := pB hs78
                  subst ex79
                  subst zs78
                  refine wa_if_eq o_X0_tellExtreme_138 (by decide) (fun h80 => ?_) (fun h80 => ?_)
                  · replace h80 := bI_f (b := bx79) (rfl) h80
                    refine wa_aload_n (i := 0) rfl rfl ?_
                    refine wa_iload rfl ?_
                    refine wa_Vi (d9 := d - 1) [.int _] [] (sp_X0_gain G (d := d - 1) (by omega) s57 _ (by ((try simp only [vp_in_iff, Int32.lt_iff_toInt_lt, Int32.le_iff_toInt_le, ← Int32.toInt_inj, Int32.reduceToInt, n_1, n_2, n_8, Int32.toNatClampNeg, Int64.lt_iff_toInt_lt, Int64.le_iff_toInt_le, ← Int64.toInt_inj, Int64.reduceToInt, Int32.toInt_toInt64, lg_cmp_ge, lg_cmp_le, lg_cmp_gt, lg_cmp_lt, lg_cmp_eq, Bool.false_eq_true, Bool.true_eq_false, reduceCtorEq, false_iff, true_iff, iff_true, iff_false, and_true, true_and, and_false, false_and, reduceIte, ite_true, ite_false, eq_self] at *)) <;> omega)) (rfl) rfl rfl (zr (by omega)) mk_X0_gain ly_41 ml_0_129 (Nat.le_of_ble_eq_true rfl) (fun x82 s81 hs81 => ?_)
                    obtain ⟨bx82, ex82, fs81, -⟩ := pB hs81
                    subst ex82
                    have Fs81 := Sm.tr Fs57 (Sm.wd fs81 (lo' := 41) (hi' := 49) (by decide) (by decide))
                    refine wa_istoreD (lv' := [(6, .int (bI bx82)), (0, .ref 41), (2, .ref 29), (4, .int x2), (5, .int 1), (7, .int l7)]) (by decide) rfl ?_
                    refine wa_iinc (v := (1)) (lv' := fun y83 => [(7, .int y83), (6, .int (bI bx82)), (0, .ref 41), (2, .ref 29), (4, .int x2), (5, .int 1)]) (by decide) rfl (by decide) (fun _ => rfl) (fun y83 hy83 => ?_)
                    have ty83 := i_addT hy83.symm
                    clear hy83
                    refine wa_goto o_X0_tellExtreme_115 (by decide) ?_
                    refine wa_pick [2, 3, 4, 5, 1, 0] rfl ?_
                    exact ih58 _ (by ((try simp only [vp_in_iff, Int32.lt_iff_toInt_lt, Int32.le_iff_toInt_le, ← Int32.toInt_inj, Int32.reduceToInt, n_1, n_2, n_8, Int32.toNatClampNeg, Int64.lt_iff_toInt_lt, Int64.le_iff_toInt_le, ← Int64.toInt_inj, Int64.reduceToInt, Int32.toInt_toInt64, lg_cmp_ge, lg_cmp_le, lg_cmp_gt, lg_cmp_lt, lg_cmp_eq, Bool.false_eq_true, Bool.true_eq_false, reduceCtorEq, false_iff, true_iff, iff_true, iff_false, and_true, true_and, and_false, false_and, reduceIte, ite_true, ite_false, eq_self] at *)) <;> omega) _ _ _ ⟨Fs81, ((Sm.gi fs81 13 (Or.inl (by decide))).trans (khi59_0)), ((Sm.gi fs81 15 (Or.inl (by decide))).trans (khi59_1)), (by ((try simp only [vp_in_iff, Int32.lt_iff_toInt_lt, Int32.le_iff_toInt_le, ← Int32.toInt_inj, Int32.reduceToInt, n_1, n_2, n_8, Int32.toNatClampNeg, Int64.lt_iff_toInt_lt, Int64.le_iff_toInt_le, ← Int64.toInt_inj, Int64.reduceToInt, Int32.toInt_toInt64, lg_cmp_ge, lg_cmp_le, lg_cmp_gt, lg_cmp_lt, lg_cmp_eq, Bool.false_eq_true, Bool.true_eq_false, reduceCtorEq, false_iff, true_iff, iff_true, iff_false, and_true, true_and, and_false, false_and, reduceIte, ite_true, ite_false, eq_self] at *)) <;> omega), trivial⟩ rfl
                  · replace h80 := bI_t (b := bx79) (rfl) h80
                    refine wa_iconst (v := 2) (by decide) ?_
                    refine wa_ireturn rfl rfl ?_
                    exact ⟨_, rfl, Fs57, (by rw [khi59_1]; first | assumption | (((try simp only [vp_in_iff, Int32.lt_iff_toInt_lt, Int32.le_iff_toInt_le, ← Int32.toInt_inj, Int32.reduceToInt, n_1, n_2, n_8, Int32.toNatClampNeg, Int64.lt_iff_toInt_lt, Int64.le_iff_toInt_le, ← Int64.toInt_inj, Int64.reduceToInt, Int32.toInt_toInt64, lg_cmp_ge, lg_cmp_le, lg_cmp_gt, lg_cmp_lt, lg_cmp_eq, Bool.false_eq_true, Bool.true_eq_false, reduceCtorEq, false_iff, true_iff, iff_true, iff_false, and_true, true_and, and_false, false_and, reduceIte, ite_true, ite_false, eq_self] at *)) <;> omega)), trivial⟩
          exact hi59 _ _ _ _ ⟨Fs53, (khi55_0), (khi55_1), (by ((try simp only [vp_in_iff, Int32.lt_iff_toInt_lt, Int32.le_iff_toInt_le, ← Int32.toInt_inj, Int32.reduceToInt, n_1, n_2, n_8, Int32.toNatClampNeg, Int64.lt_iff_toInt_lt, Int64.le_iff_toInt_le, ← Int64.toInt_inj, Int64.reduceToInt, Int32.toInt_toInt64, lg_cmp_ge, lg_cmp_le, lg_cmp_gt, lg_cmp_lt, lg_cmp_eq, Bool.false_eq_true, Bool.true_eq_false, reduceCtorEq, false_iff, true_iff, iff_true, iff_false, and_true, true_and, and_false, false_and, reduceIte, ite_true, ite_false, eq_self] at *)) <;> omega), trivial⟩ rfl
        · have mh56 := nle_mx h56
          refine wa_aload_n (i := 0) rfl rfl ?_
          refine wa_getr ck_0 fl_0_28 ly_41 rf_41_7 ?_
          refine wa_iload rfl ?_
          refine wa_ldc2 (v := (-9223372036854775808)) (allW_in (kT_7 _ (List.mem_of_getElem? (i := 4) rfl)) rfl) ?_
          refine wa_last ly_47 (by ((try simp only [vp_in_iff, Int32.lt_iff_toInt_lt, Int32.le_iff_toInt_le, ← Int32.toInt_inj, Int32.reduceToInt, n_1, n_2, n_8, Int32.toNatClampNeg, Int64.lt_iff_toInt_lt, Int64.le_iff_toInt_le, ← Int64.toInt_inj, Int64.reduceToInt, Int32.toInt_toInt64, lg_cmp_ge, lg_cmp_le, lg_cmp_gt, lg_cmp_lt, lg_cmp_eq, Bool.false_eq_true, Bool.true_eq_false, reduceCtorEq, false_iff, true_iff, iff_true, iff_false, and_true, true_and, and_false, false_and, reduceIte, ite_true, ite_false, eq_self] at *)) <;> omega) (fun s84 hs84 => ?_)
          have Fs84 : Sm 41 49 σ s84 := by rw [hs84]; exact Sm.sl Fs53 _ _ (by decide) (by decide)
          refine wa_iconst (v := 0) (by decide) ?_
          refine wa_istoreD (lv' := [(7, .int 0), (0, .ref 41), (2, .ref 29), (4, .int x2), (5, .int 1), (6, .int l6)]) (by decide) rfl ?_
          refine wa_pick [1, 2, 3, 4, 5, 0] rfl ?_
          have hi87 : ∀ (n9_49 : Nat) (l7 : Int32) (s85 : St), ((Sm 41 49 σ s85) ∧ (gi s85 31 13 = gi σ 31 13) ∧ (gi s85 41 15 = gi σ 41 15) ∧ (0 ≤ l7.toInt) ∧ (True)) → (2147483647 - l7.toInt).toNat = n9_49 → WA G M_X0_tellExtreme (ZM G M_X0_tellExtreme d (fun r σ' => ∃ x : Int32, r = some (.int x) ∧ Sm 41 49 σ σ' ∧ (0 ≤ (gi σ' 41 15).toInt ∧ (gi σ' 41 15).toInt ≤ 1100) ∧ True)) B_X0_tellExtreme_49 [(0, .ref 41), (2, .ref 29), (4, .int x2), (5, .int 1), (6, .int l6), (7, .int l7)] [] s85 := by
            intro n9_49
            induction n9_49 using Nat.strongRecOn with
            | _ n9_49 ih86 =>
              intro l7 s85 i9 m9_49
              obtain ⟨Fs85, khi87_0, khi87_1, jhi87_0, -⟩ := i9
              have ul7 := Int32.toInt_lt l7
              have wl7 := Int32.le_toInt l7
              refine wa_iload rfl ?_
              refine wa_bipush (v := 16) (by decide) ?_
              refine wa_icmp_ge o_X0_tellExtreme_103 (by decide) (fun h88 => ?_) (fun h88 => ?_)
              · refine wa_iinc (v := (1)) (lv' := fun y89 => [(6, .int y89), (0, .ref 41), (2, .ref 29), (4, .int x2), (5, .int 1), (7, .int l7)]) (by decide) rfl (by decide) (fun _ => rfl) (fun y89 hy89 => ?_)
                have ty89 := i_addT hy89.symm
                clear hy89
                refine wa_goto o_X0_tellExtreme_29 (by decide) ?_
                refine wa_pick [1, 2, 3, 4, 0] rfl ?_
                exact ih54 _ (by ((try simp only [vp_in_iff, Int32.lt_iff_toInt_lt, Int32.le_iff_toInt_le, ← Int32.toInt_inj, Int32.reduceToInt, n_1, n_2, n_8, Int32.toNatClampNeg, Int64.lt_iff_toInt_lt, Int64.le_iff_toInt_le, ← Int64.toInt_inj, Int64.reduceToInt, Int32.toInt_toInt64, lg_cmp_ge, lg_cmp_le, lg_cmp_gt, lg_cmp_lt, lg_cmp_eq, Bool.false_eq_true, Bool.true_eq_false, reduceCtorEq, false_iff, true_iff, iff_true, iff_false, and_true, true_and, and_false, false_and, reduceIte, ite_true, ite_false, eq_self] at *)) <;> omega) _ _ ⟨Fs85, (khi87_0), (khi87_1), (by ((try simp only [vp_in_iff, Int32.lt_iff_toInt_lt, Int32.le_iff_toInt_le, ← Int32.toInt_inj, Int32.reduceToInt, n_1, n_2, n_8, Int32.toNatClampNeg, Int64.lt_iff_toInt_lt, Int64.le_iff_toInt_le, ← Int64.toInt_inj, Int64.reduceToInt, Int32.toInt_toInt64, lg_cmp_ge, lg_cmp_le, lg_cmp_gt, lg_cmp_lt, lg_cmp_eq, Bool.false_eq_true, Bool.true_eq_false, reduceCtorEq, false_iff, true_iff, iff_true, iff_false, and_true, true_and, and_false, false_and, reduceIte, ite_true, ite_false, eq_self] at *)) <;> omega), trivial⟩ rfl
              · have mh88 := nle_mx h88
                refine wa_aload_n (i := 0) rfl rfl ?_
                refine wa_getr ck_0 fl_0_22 ly_41 rf_41_5 ?_
                refine wa_iload rfl ?_
                refine wa_iald ly_45 (by ((try simp only [vp_in_iff, Int32.lt_iff_toInt_lt, Int32.le_iff_toInt_le, ← Int32.toInt_inj, Int32.reduceToInt, n_1, n_2, n_8, Int32.toNatClampNeg, Int64.lt_iff_toInt_lt, Int64.le_iff_toInt_le, ← Int64.toInt_inj, Int64.reduceToInt, Int32.toInt_toInt64, lg_cmp_ge, lg_cmp_le, lg_cmp_gt, lg_cmp_lt, lg_cmp_eq, Bool.false_eq_true, Bool.true_eq_false, reduceCtorEq, false_iff, true_iff, iff_true, iff_false, and_true, true_and, and_false, false_and, reduceIte, ite_true, ite_false, eq_self] at *)) <;> omega) ?_
                refine wa_iload rfl ?_
                refine wa_iushr ?_
                refine wa_top (fun v90 hv90 => ?_)
                clear hv90
                refine wa_iconst (v := 1) (by decide) ?_
                refine wa_iand ?_
                refine wa_top (fun v91 hv91 => ?_)
                have tv91 := i_andT hv91
                clear hv91
                refine wa_iconst (v := 1) (by decide) ?_
                refine wa_icmp_ne o_X0_tellExtreme_97 (by decide) (fun h92 => ?_) (fun h92 => ?_)
                · refine wa_iinc (v := (1)) (lv' := fun y93 => [(7, .int y93), (0, .ref 41), (2, .ref 29), (4, .int x2), (5, .int 1), (6, .int l6)]) (by decide) rfl (by decide) (fun _ => rfl) (fun y93 hy93 => ?_)
                  have ty93 := i_addT hy93.symm
                  clear hy93
                  refine wa_goto o_X0_tellExtreme_49 (by decide) ?_
                  refine wa_pick [1, 2, 3, 4, 5, 0] rfl ?_
                  exact ih86 _ (by ((try simp only [vp_in_iff, Int32.lt_iff_toInt_lt, Int32.le_iff_toInt_le, ← Int32.toInt_inj, Int32.reduceToInt, n_1, n_2, n_8, Int32.toNatClampNeg, Int64.lt_iff_toInt_lt, Int64.le_iff_toInt_le, ← Int64.toInt_inj, Int64.reduceToInt, Int32.toInt_toInt64, lg_cmp_ge, lg_cmp_le, lg_cmp_gt, lg_cmp_lt, lg_cmp_eq, Bool.false_eq_true, Bool.true_eq_false, reduceCtorEq, false_iff, true_iff, iff_true, iff_false, and_true, true_and, and_false, false_and, reduceIte, ite_true, ite_false, eq_self] at *)) <;> omega) _ _ ⟨Fs85, (khi87_0), (khi87_1), (by ((try simp only [vp_in_iff, Int32.lt_iff_toInt_lt, Int32.le_iff_toInt_le, ← Int32.toInt_inj, Int32.reduceToInt, n_1, n_2, n_8, Int32.toNatClampNeg, Int64.lt_iff_toInt_lt, Int64.le_iff_toInt_le, ← Int64.toInt_inj, Int64.reduceToInt, Int32.toInt_toInt64, lg_cmp_ge, lg_cmp_le, lg_cmp_gt, lg_cmp_lt, lg_cmp_eq, Bool.false_eq_true, Bool.true_eq_false, reduceCtorEq, false_iff, true_iff, iff_true, iff_false, and_true, true_and, and_false, false_and, reduceIte, ite_true, ite_false, eq_self] at *)) <;> omega), trivial⟩ rfl
                · refine wa_aload_n (i := 0) rfl rfl ?_
                  refine wa_getr ck_0 fl_0_28 ly_41 rf_41_7 ?_
                  refine wa_iload rfl ?_
                  refine wa_aload_n (i := 0) rfl rfl ?_
                  refine wa_getr ck_0 fl_0_28 ly_41 rf_41_7 ?_
                  refine wa_iload rfl ?_
                  refine wa_lald ly_47 (by ((try simp only [vp_in_iff, Int32.lt_iff_toInt_lt, Int32.le_iff_toInt_le, ← Int32.toInt_inj, Int32.reduceToInt, n_1, n_2, n_8, Int32.toNatClampNeg, Int64.lt_iff_toInt_lt, Int64.le_iff_toInt_le, ← Int64.toInt_inj, Int64.reduceToInt, Int32.toInt_toInt64, lg_cmp_ge, lg_cmp_le, lg_cmp_gt, lg_cmp_lt, lg_cmp_eq, Bool.false_eq_true, Bool.true_eq_false, reduceCtorEq, false_iff, true_iff, iff_true, iff_false, and_true, true_and, and_false, false_and, reduceIte, ite_true, ite_false, eq_self] at *)) <;> omega) ?_
                  refine wa_aload_n (i := 0) rfl rfl ?_
                  refine wa_getr ck_0 fl_0_25 ly_41 rf_41_6 ?_
                  refine wa_iload rfl ?_
                  refine wa_lald ly_46 (by ((try simp only [vp_in_iff, Int32.lt_iff_toInt_lt, Int32.le_iff_toInt_le, ← Int32.toInt_inj, Int32.reduceToInt, n_1, n_2, n_8, Int32.toNatClampNeg, Int64.lt_iff_toInt_lt, Int64.le_iff_toInt_le, ← Int64.toInt_inj, Int64.reduceToInt, Int32.toInt_toInt64, lg_cmp_ge, lg_cmp_le, lg_cmp_gt, lg_cmp_lt, lg_cmp_eq, Bool.false_eq_true, Bool.true_eq_false, reduceCtorEq, false_iff, true_iff, iff_true, iff_false, and_true, true_and, and_false, false_and, reduceIte, ite_true, ite_false, eq_self] at *)) <;> omega) ?_
                  refine wa_lneg ?_
                  refine wa_topl (fun v94 hv94 => ?_)
                  clear hv94
                  refine wa_maxL zs (allW_in (kT_7 _ (List.mem_of_getElem? (i := 5) rfl)) rfl) (Nat.le_of_ble_eq_true rfl) ?_
                  refine wa_topl (fun v95 hv95 => ?_)
                  have tv95 := i_maxL hv95
                  clear hv95
                  refine wa_last ly_47 (by ((try simp only [vp_in_iff, Int32.lt_iff_toInt_lt, Int32.le_iff_toInt_le, ← Int32.toInt_inj, Int32.reduceToInt, n_1, n_2, n_8, Int32.toNatClampNeg, Int64.lt_iff_toInt_lt, Int64.le_iff_toInt_le, ← Int64.toInt_inj, Int64.reduceToInt, Int32.toInt_toInt64, lg_cmp_ge, lg_cmp_le, lg_cmp_gt, lg_cmp_lt, lg_cmp_eq, Bool.false_eq_true, Bool.true_eq_false, reduceCtorEq, false_iff, true_iff, iff_true, iff_false, and_true, true_and, and_false, false_and, reduceIte, ite_true, ite_false, eq_self] at *)) <;> omega) (fun s96 hs96 => ?_)
                  have Fs96 : Sm 41 49 σ s96 := by rw [hs96]; exact Sm.sl Fs85 _ _ (by decide) (by decide)
                  refine wa_iinc (v := (1)) (lv' := fun y97 => [(7, .int y97), (0, .ref 41), (2, .ref 29), (4, .int x2), (5, .int 1), (6, .int l6)]) (by decide) rfl (by decide) (fun _ => rfl) (fun y97 hy97 => ?_)
                  have ty97 := i_addT hy97.symm
                  clear hy97
                  refine wa_goto o_X0_tellExtreme_49 (by decide) ?_
                  refine wa_pick [1, 2, 3, 4, 5, 0] rfl ?_
                  exact ih86 _ (by ((try simp only [vp_in_iff, Int32.lt_iff_toInt_lt, Int32.le_iff_toInt_le, ← Int32.toInt_inj, Int32.reduceToInt, n_1, n_2, n_8, Int32.toNatClampNeg, Int64.lt_iff_toInt_lt, Int64.le_iff_toInt_le, ← Int64.toInt_inj, Int64.reduceToInt, Int32.toInt_toInt64, lg_cmp_ge, lg_cmp_le, lg_cmp_gt, lg_cmp_lt, lg_cmp_eq, Bool.false_eq_true, Bool.true_eq_false, reduceCtorEq, false_iff, true_iff, iff_true, iff_false, and_true, true_and, and_false, false_and, reduceIte, ite_true, ite_false, eq_self] at *)) <;> omega) _ _ ⟨Fs96, ((nx_gi_sl hs96).trans (khi87_0)), ((nx_gi_sl hs96).trans (khi87_1)), (by ((try simp only [vp_in_iff, Int32.lt_iff_toInt_lt, Int32.le_iff_toInt_le, ← Int32.toInt_inj, Int32.reduceToInt, n_1, n_2, n_8, Int32.toNatClampNeg, Int64.lt_iff_toInt_lt, Int64.le_iff_toInt_le, ← Int64.toInt_inj, Int64.reduceToInt, Int32.toInt_toInt64, lg_cmp_ge, lg_cmp_le, lg_cmp_gt, lg_cmp_lt, lg_cmp_eq, Bool.false_eq_true, Bool.true_eq_false, reduceCtorEq, false_iff, true_iff, iff_true, iff_false, and_true, true_and, and_false, false_and, reduceIte, ite_true, ite_false, eq_self] at *)) <;> omega), trivial⟩ rfl
          exact hi87 _ _ _ ⟨Fs84, ((nx_gi_sl hs84).trans (khi55_0)), ((nx_gi_sl hs84).trans (khi55_1)), (by ((try simp only [vp_in_iff, Int32.lt_iff_toInt_lt, Int32.le_iff_toInt_le, ← Int32.toInt_inj, Int32.reduceToInt, n_1, n_2, n_8, Int32.toNatClampNeg, Int64.lt_iff_toInt_lt, Int64.le_iff_toInt_le, ← Int64.toInt_inj, Int64.reduceToInt, Int32.toInt_toInt64, lg_cmp_ge, lg_cmp_le, lg_cmp_gt, lg_cmp_lt, lg_cmp_eq, Bool.false_eq_true, Bool.true_eq_false, reduceCtorEq, false_iff, true_iff, iff_true, iff_false, and_true, true_and, and_false, false_and, reduceIte, ite_true, ite_false, eq_self] at *)) <;> omega), trivial⟩ rfl
    exact hi55 _ _ _ ⟨Fs51, ((Sm.gi fs51 13 (Or.inl (by decide))).trans (Sm.gi fs1 13 (Or.inl (by decide)))), ((Sm.gi fs51 15 (Or.inl (by decide))).trans (Sm.gi fs1 15 (Or.inl (by decide)))), (by ((try simp only [vp_in_iff, Int32.lt_iff_toInt_lt, Int32.le_iff_toInt_le, ← Int32.toInt_inj, Int32.reduceToInt, n_1, n_2, n_8, Int32.toNatClampNeg, Int64.lt_iff_toInt_lt, Int64.le_iff_toInt_le, ← Int64.toInt_inj, Int64.reduceToInt, Int32.toInt_toInt64, lg_cmp_ge, lg_cmp_le, lg_cmp_gt, lg_cmp_lt, lg_cmp_eq, Bool.false_eq_true, Bool.true_eq_false, reduceCtorEq, false_iff, true_iff, iff_true, iff_false, and_true, true_and, and_false, false_and, reduceIte, ite_true, ite_false, eq_self] at *)) <;> omega), trivial⟩ rfl
theorem pad_21a : True := trivial
