set_option maxHeartbeats 4000000 in
theorem sp_X0_mark (G : kG9) {d : Nat} (hd : 1 ≤ d) (σ : St) (a0 : Int32) (a1 : Int32) (p1 : a0.toInt ≤ 3000 ∧ 0 ≤ a0.toInt) : Ct G M_X0_mark d [.ref 41, .int a0, .int a1] σ (fun r σ' => ∃ x : Bool, r = some (.int (bI x)) ∧ Sm 44 45 σ σ' ∧ True) := by
  refine wa_start (by decide) rfl (Nat.le_of_ble_eq_true rfl) (lv := [(0, .ref 41), (1, .int a0), (2, .int a1)]) rfl o_X0_mark_0 rfl ?_
  have ua0 := Int32.toInt_lt a0
  have wa0 := Int32.le_toInt a0
  have ua1 := Int32.toInt_lt a1
  have wa1 := Int32.le_toInt a1
  refine wa_iconst (v := 0) (by decide) ?_
  refine wa_istore_nD (lv' := [(3, .int (bI false)), (0, .ref 41), (1, .int a0), (2, .int a1)]) (i := 3) rfl (by decide) rfl ?_
  refine wa_iconst (v := 0) (by decide) ?_
  refine wa_istoreD (lv' := [(4, .int 0), (3, .int (bI false)), (0, .ref 41), (1, .int a0), (2, .int a1)]) (by decide) rfl ?_
  refine wa_pick [2, 3, 4, 1, 0] rfl ?_
  have hi3 : ∀ (n9_5 : Nat) (l3 : Bool) (l4 : Int32) (s1 : St), ((Sm 44 45 σ s1) ∧ (gi s1 31 12 = gi σ 31 12) ∧ (0 ≤ l4.toInt) ∧ (True)) → (2147483647 - l4.toInt).toNat = n9_5 → WA G M_X0_mark (ZM G M_X0_mark d (fun r σ' => ∃ x : Bool, r = some (.int (bI x)) ∧ Sm 44 45 σ σ' ∧ True)) B_X0_mark_5 [(0, .ref 41), (1, .int a0), (2, .int a1), (3, .int (bI l3)), (4, .int l4)] [] s1 := by
    intro n9_5
    induction n9_5 using Nat.strongRecOn with
    | _ n9_5 ih2 =>
      intro l3 l4 s1 i9 m9_5
      obtain ⟨Fs1, khi3_0, jhi3_0, -⟩ := i9
      have ul4 := Int32.toInt_lt l4
      have wl4 := Int32.le_toInt l4
      refine wa_iload rfl ?_
      refine wa_iload_n (i := 1) rfl rfl ?_
      refine wa_icmp_ge o_X0_mark_117 (by decide) (fun h4 => ?_) (fun h4 => ?_)
      · refine wa_iload_n (i := 3) rfl rfl ?_
        refine wa_zreturn l3 (rfl) rfl rfl ?_
        exact ⟨_, rfl, Fs1, trivial⟩
      · have mh4 := nle_mx h4
        refine wa_iload rfl ?_
        refine wa_sipush (v := 3000) (by decide) ?_
        refine wa_icmp_ge o_X0_mark_117 (by decide) (fun h5 => ?_) (fun h5 => ?_)
        · refine wa_iload_n (i := 3) rfl rfl ?_
          refine wa_zreturn l3 (rfl) rfl rfl ?_
          exact ⟨_, rfl, Fs1, trivial⟩
        · have mh5 := nle_mx h5
          refine wa_aload_n (i := 0) rfl rfl ?_
          refine wa_getr ck_0 fl_0_18 ly_41 rf_41_4 ?_
          refine wa_iload rfl ?_
          refine wa_iald ly_44 (by ((try simp only [vp_in_iff, Int32.lt_iff_toInt_lt, Int32.le_iff_toInt_le, ← Int32.toInt_inj, Int32.reduceToInt, n_1, n_2, n_8, Int32.toNatClampNeg, Int64.lt_iff_toInt_lt, Int64.le_iff_toInt_le, ← Int64.toInt_inj, Int64.reduceToInt, Int32.toInt_toInt64, lg_cmp_ge, lg_cmp_le, lg_cmp_gt, lg_cmp_lt, lg_cmp_eq, Bool.false_eq_true, Bool.true_eq_false, reduceCtorEq, false_iff, true_iff, iff_true, iff_false, and_true, true_and, and_false, false_and, reduceIte, ite_true, ite_false, eq_self] at *)) <;> omega) ?_
          refine wa_iload_n (i := 2) rfl rfl ?_
          refine wa_icmp_ne o_X0_mark_111 (by decide) (fun h6 => ?_) (fun h6 => ?_)
          · refine wa_iinc (v := (1)) (lv' := fun y7 => [(4, .int y7), (0, .ref 41), (1, .int a0), (2, .int a1), (3, .int (bI l3))]) (by decide) rfl (by decide) (fun _ => rfl) (fun y7 hy7 => ?_)
            have ty7 := i_addT hy7.symm
            clear hy7
            refine wa_goto o_X0_mark_5 (by decide) ?_
            refine wa_pick [1, 2, 3, 4, 0] rfl ?_
            exact ih2 _ (by ((try simp only [vp_in_iff, Int32.lt_iff_toInt_lt, Int32.le_iff_toInt_le, ← Int32.toInt_inj, Int32.reduceToInt, n_1, n_2, n_8, Int32.toNatClampNeg, Int64.lt_iff_toInt_lt, Int64.le_iff_toInt_le, ← Int64.toInt_inj, Int64.reduceToInt, Int32.toInt_toInt64, lg_cmp_ge, lg_cmp_le, lg_cmp_gt, lg_cmp_lt, lg_cmp_eq, Bool.false_eq_true, Bool.true_eq_false, reduceCtorEq, false_iff, true_iff, iff_true, iff_false, and_true, true_and, and_false, false_and, reduceIte, ite_true, ite_false, eq_self] at *)) <;> omega) _ _ _ ⟨Fs1, (khi3_0), (by ((try simp only [vp_in_iff, Int32.lt_iff_toInt_lt, Int32.le_iff_toInt_le, ← Int32.toInt_inj, Int32.reduceToInt, n_1, n_2, n_8, Int32.toNatClampNeg, Int64.lt_iff_toInt_lt, Int64.le_iff_toInt_le, ← Int64.toInt_inj, Int64.reduceToInt, Int32.toInt_toInt64, lg_cmp_ge, lg_cmp_le, lg_cmp_gt, lg_cmp_lt, lg_cmp_eq, Bool.false_eq_true, Bool.true_eq_false, reduceCtorEq, false_iff, true_iff, iff_true, iff_false, and_true, true_and, and_false, false_and, reduceIte, ite_true, ite_false, eq_self] at *)) <;> omega), trivial⟩ rfl
          · refine wa_iconst (v := 0) (by decide) ?_
            refine wa_istoreD (lv' := [(5, .int (bI false)), (0, .ref 41), (1, .int a0), (2, .int a1), (3, .int (bI l3)), (4, .int l4)]) (by decide) rfl ?_
            refine wa_iconst (v := 0) (by decide) ?_
            refine wa_istoreD (lv' := [(6, .int 0), (5, .int (bI false)), (0, .ref 41), (1, .int a0), (2, .int a1), (3, .int (bI l3)), (4, .int l4)]) (by decide) rfl ?_
            refine wa_pick [2, 3, 4, 5, 6, 1, 0] rfl ?_
            have hi10 : ∀ (n9_36 : Nat) (l5 : Bool) (l6 : Int32) (s8 : St), ((Sm 44 45 σ s8) ∧ (gi s8 31 12 = gi σ 31 12) ∧ (0 ≤ l6.toInt) ∧ (True)) → (2147483647 - l6.toInt).toNat = n9_36 → WA G M_X0_mark (ZM G M_X0_mark d (fun r σ' => ∃ x : Bool, r = some (.int (bI x)) ∧ Sm 44 45 σ σ' ∧ True)) B_X0_mark_36 [(0, .ref 41), (1, .int a0), (2, .int a1), (3, .int (bI l3)), (4, .int l4), (5, .int (bI l5)), (6, .int l6)] [] s8 := by
              intro n9_36
              induction n9_36 using Nat.strongRecOn with
              | _ n9_36 ih9 =>
                intro l5 l6 s8 i9 m9_36
                obtain ⟨Fs8, khi10_0, jhi10_0, -⟩ := i9
                have ul6 := Int32.toInt_lt l6
                have wl6 := Int32.le_toInt l6
                refine wa_iload rfl ?_
                refine wa_aload_n (i := 0) rfl rfl ?_
                refine wa_getr ck_0 fl_0_48 ly_41 rf_41_1 ?_
                refine wa_geti ck_6 fl_0_92 ly_31 ?_
                refine wa_rw (khi10_0) ?_
                refine wa_icmp_ge o_X0_mark_85 (by decide) (fun h11 => ?_) (fun h11 => ?_)
                · refine wa_iload rfl ?_
                  refine wa_iload_n (i := 2) rfl rfl ?_
                  refine wa_if_ne o_X0_mark_95 (by decide) (fun h12 => ?_) (fun h12 => ?_)
                  · refine wa_iconst (v := 0) (by decide) ?_
                    refine wa_icmp_ne o_X0_mark_111 (by decide) (fun h13 => ?_) (fun h13 => ?_)
                    · refine wa_iinc (v := (1)) (lv' := fun y14 => [(4, .int y14), (0, .ref 41), (1, .int a0), (2, .int a1), (3, .int (bI l3)), (5, .int (bI l5)), (6, .int l6)]) (by decide) rfl (by decide) (fun _ => rfl) (fun y14 hy14 => ?_)
                      have ty14 := i_addT hy14.symm
                      clear hy14
                      refine wa_goto o_X0_mark_5 (by decide) ?_
                      refine wa_pick [1, 2, 3, 4, 0] rfl ?_
                      exact ih2 _ (by ((try simp only [vp_in_iff, Int32.lt_iff_toInt_lt, Int32.le_iff_toInt_le, ← Int32.toInt_inj, Int32.reduceToInt, n_1, n_2, n_8, Int32.toNatClampNeg, Int64.lt_iff_toInt_lt, Int64.le_iff_toInt_le, ← Int64.toInt_inj, Int64.reduceToInt, Int32.toInt_toInt64, lg_cmp_ge, lg_cmp_le, lg_cmp_gt, lg_cmp_lt, lg_cmp_eq, Bool.false_eq_true, Bool.true_eq_false, reduceCtorEq, false_iff, true_iff, iff_true, iff_false, and_true, true_and, and_false, false_and, reduceIte, ite_true, ite_false, eq_self] at *)) <;> omega) _ _ _ ⟨Fs8, (khi10_0), (by ((try simp only [vp_in_iff, Int32.lt_iff_toInt_lt, Int32.le_iff_toInt_le, ← Int32.toInt_inj, Int32.reduceToInt, n_1, n_2, n_8, Int32.toNatClampNeg, Int64.lt_iff_toInt_lt, Int64.le_iff_toInt_le, ← Int64.toInt_inj, Int64.reduceToInt, Int32.toInt_toInt64, lg_cmp_ge, lg_cmp_le, lg_cmp_gt, lg_cmp_lt, lg_cmp_eq, Bool.false_eq_true, Bool.true_eq_false, reduceCtorEq, false_iff, true_iff, iff_true, iff_false, and_true, true_and, and_false, false_and, reduceIte, ite_true, ite_false, eq_self] at *)) <;> omega), trivial⟩ rfl
                    · refine wa_aload_n (i := 0) rfl rfl ?_
                      refine wa_getr ck_0 fl_0_18 ly_41 rf_41_4 ?_
                      refine wa_iload rfl ?_
                      refine wa_iload_n (i := 2) rfl rfl ?_
                      refine wa_iconst (v := 1) (by decide) ?_
                      refine wa_iadd ?_
                      refine wa_top (fun v15 hv15 => ?_)
                      have tv15 := i_addT hv15
                      clear hv15
                      refine wa_iast ly_44 (by ((try simp only [vp_in_iff, Int32.lt_iff_toInt_lt, Int32.le_iff_toInt_le, ← Int32.toInt_inj, Int32.reduceToInt, n_1, n_2, n_8, Int32.toNatClampNeg, Int64.lt_iff_toInt_lt, Int64.le_iff_toInt_le, ← Int64.toInt_inj, Int64.reduceToInt, Int32.toInt_toInt64, lg_cmp_ge, lg_cmp_le, lg_cmp_gt, lg_cmp_lt, lg_cmp_eq, Bool.false_eq_true, Bool.true_eq_false, reduceCtorEq, false_iff, true_iff, iff_true, iff_false, and_true, true_and, and_false, false_and, reduceIte, ite_true, ite_false, eq_self] at *)) <;> omega) (fun s16 hs16 => ?_)
                      have Fs16 : Sm 44 45 σ s16 := by rw [hs16]; exact Sm.si Fs8 _ _ (by decide) (by decide)
                      refine wa_iconst (v := 1) (by decide) ?_
                      refine wa_istore_nD (lv' := [(3, .int (bI true)), (0, .ref 41), (1, .int a0), (2, .int a1), (4, .int l4), (5, .int (bI l5)), (6, .int l6)]) (i := 3) rfl (by decide) rfl ?_
                      refine wa_iinc (v := (1)) (lv' := fun y17 => [(4, .int y17), (3, .int (bI true)), (0, .ref 41), (1, .int a0), (2, .int a1), (5, .int (bI l5)), (6, .int l6)]) (by decide) rfl (by decide) (fun _ => rfl) (fun y17 hy17 => ?_)
                      have ty17 := i_addT hy17.symm
                      clear hy17
                      refine wa_goto o_X0_mark_5 (by decide) ?_
                      refine wa_pick [2, 3, 4, 1, 0] rfl ?_
                      exact ih2 _ (by ((try simp only [vp_in_iff, Int32.lt_iff_toInt_lt, Int32.le_iff_toInt_le, ← Int32.toInt_inj, Int32.reduceToInt, n_1, n_2, n_8, Int32.toNatClampNeg, Int64.lt_iff_toInt_lt, Int64.le_iff_toInt_le, ← Int64.toInt_inj, Int64.reduceToInt, Int32.toInt_toInt64, lg_cmp_ge, lg_cmp_le, lg_cmp_gt, lg_cmp_lt, lg_cmp_eq, Bool.false_eq_true, Bool.true_eq_false, reduceCtorEq, false_iff, true_iff, iff_true, iff_false, and_true, true_and, and_false, false_and, reduceIte, ite_true, ite_false, eq_self] at *)) <;> omega) _ _ _ ⟨Fs16, ((nxq_gi_si hs16 (by decide)).trans (khi10_0)), (by ((try simp only [vp_in_iff, Int32.lt_iff_toInt_lt, Int32.le_iff_toInt_le, ← Int32.toInt_inj, Int32.reduceToInt, n_1, n_2, n_8, Int32.toNatClampNeg, Int64.lt_iff_toInt_lt, Int64.le_iff_toInt_le, ← Int64.toInt_inj, Int64.reduceToInt, Int32.toInt_toInt64, lg_cmp_ge, lg_cmp_le, lg_cmp_gt, lg_cmp_lt, lg_cmp_eq, Bool.false_eq_true, Bool.true_eq_false, reduceCtorEq, false_iff, true_iff, iff_true, iff_false, and_true, true_and, and_false, false_and, reduceIte, ite_true, ite_false, eq_self] at *)) <;> omega), trivial⟩ rfl
                  · refine wa_iconst (v := 1) (by decide) ?_
                    refine wa_goto o_X0_mark_96 (by decide) ?_
                    refine wa_icmp_ne o_X0_mark_111 (by decide) (fun h18 => ?_) (fun h18 => ?_)
                    · refine wa_iinc (v := (1)) (lv' := fun y19 => [(4, .int y19), (0, .ref 41), (1, .int a0), (2, .int a1), (3, .int (bI l3)), (5, .int (bI l5)), (6, .int l6)]) (by decide) rfl (by decide) (fun _ => rfl) (fun y19 hy19 => ?_)
                      have ty19 := i_addT hy19.symm
                      clear hy19
                      refine wa_goto o_X0_mark_5 (by decide) ?_
                      refine wa_pick [1, 2, 3, 4, 0] rfl ?_
                      exact ih2 _ (by ((try simp only [vp_in_iff, Int32.lt_iff_toInt_lt, Int32.le_iff_toInt_le, ← Int32.toInt_inj, Int32.reduceToInt, n_1, n_2, n_8, Int32.toNatClampNeg, Int64.lt_iff_toInt_lt, Int64.le_iff_toInt_le, ← Int64.toInt_inj, Int64.reduceToInt, Int32.toInt_toInt64, lg_cmp_ge, lg_cmp_le, lg_cmp_gt, lg_cmp_lt, lg_cmp_eq, Bool.false_eq_true, Bool.true_eq_false, reduceCtorEq, false_iff, true_iff, iff_true, iff_false, and_true, true_and, and_false, false_and, reduceIte, ite_true, ite_false, eq_self] at *)) <;> omega) _ _ _ ⟨Fs8, (khi10_0), (by ((try simp only [vp_in_iff, Int32.lt_iff_toInt_lt, Int32.le_iff_toInt_le, ← Int32.toInt_inj, Int32.reduceToInt, n_1, n_2, n_8, Int32.toNatClampNeg, Int64.lt_iff_toInt_lt, Int64.le_iff_toInt_le, ← Int64.toInt_inj, Int64.reduceToInt, Int32.toInt_toInt64, lg_cmp_ge, lg_cmp_le, lg_cmp_gt, lg_cmp_lt, lg_cmp_eq, Bool.false_eq_true, Bool.true_eq_false, reduceCtorEq, false_iff, true_iff, iff_true, iff_false, and_true, true_and, and_false, false_and, reduceIte, ite_true, ite_false, eq_self] at *)) <;> omega), trivial⟩ rfl
                    · refine wa_aload_n (i := 0) rfl rfl ?_
                      refine wa_getr ck_0 fl_0_18 ly_41 rf_41_4 ?_
                      refine wa_iload rfl ?_
                      refine wa_iload_n (i := 2) rfl rfl ?_
                      refine wa_iconst (v := 1) (by decide) ?_
                      refine wa_iadd ?_
                      refine wa_top (fun v20 hv20 => ?_)
                      have tv20 := i_addT hv20
                      clear hv20
                      refine wa_iast ly_44 (by ((try simp only [vp_in_iff, Int32.lt_iff_toInt_lt, Int32.le_iff_toInt_le, ← Int32.toInt_inj, Int32.reduceToInt, n_1, n_2, n_8, Int32.toNatClampNeg, Int64.lt_iff_toInt_lt, Int64.le_iff_toInt_le, ← Int64.toInt_inj, Int64.reduceToInt, Int32.toInt_toInt64, lg_cmp_ge, lg_cmp_le, lg_cmp_gt, lg_cmp_lt, lg_cmp_eq, Bool.false_eq_true, Bool.true_eq_false, reduceCtorEq, false_iff, true_iff, iff_true, iff_false, and_true, true_and, and_false, false_and, reduceIte, ite_true, ite_false, eq_self] at *)) <;> omega) (fun s21 hs21 => ?_)
                      have Fs21 : Sm 44 45 σ s21 := by rw [hs21]; exact Sm.si Fs8 _ _ (by decide) (by decide)
                      refine wa_iconst (v := 1) (by decide) ?_
                      refine wa_istore_nD (lv' := [(3, .int (bI true)), (0, .ref 41), (1, .int a0), (2, .int a1), (4, .int l4), (5, .int (bI l5)), (6, .int l6)]) (i := 3) rfl (by decide) rfl ?_
                      refine wa_iinc (v := (1)) (lv' := fun y22 => [(4, .int y22), (3, .int (bI true)), (0, .ref 41), (1, .int a0), (2, .int a1), (5, .int (bI l5)), (6, .int l6)]) (by decide) rfl (by decide) (fun _ => rfl) (fun y22 hy22 => ?_)
                      have ty22 := i_addT hy22.symm
                      clear hy22
                      refine wa_goto o_X0_mark_5 (by decide) ?_
                      refine wa_pick [2, 3, 4, 1, 0] rfl ?_
                      exact ih2 _ (by ((try simp only [vp_in_iff, Int32.lt_iff_toInt_lt, Int32.le_iff_toInt_le, ← Int32.toInt_inj, Int32.reduceToInt, n_1, n_2, n_8, Int32.toNatClampNeg, Int64.lt_iff_toInt_lt, Int64.le_iff_toInt_le, ← Int64.toInt_inj, Int64.reduceToInt, Int32.toInt_toInt64, lg_cmp_ge, lg_cmp_le, lg_cmp_gt, lg_cmp_lt, lg_cmp_eq, Bool.false_eq_true, Bool.true_eq_false, reduceCtorEq, false_iff, true_iff, iff_true, iff_false, and_true, true_and, and_false, false_and, reduceIte, ite_true, ite_false, eq_self] at *)) <;> omega) _ _ _ ⟨Fs21, ((nxq_gi_si hs21 (by decide)).trans (khi10_0)), (by ((try simp only [vp_in_iff, Int32.lt_iff_toInt_lt, Int32.le_iff_toInt_le, ← Int32.toInt_inj, Int32.reduceToInt, n_1, n_2, n_8, Int32.toNatClampNeg, Int64.lt_iff_toInt_lt, Int64.le_iff_toInt_le, ← Int64.toInt_inj, Int64.reduceToInt, Int32.toInt_toInt64, lg_cmp_ge, lg_cmp_le, lg_cmp_gt, lg_cmp_lt, lg_cmp_eq, Bool.false_eq_true, Bool.true_eq_false, reduceCtorEq, false_iff, true_iff, iff_true, iff_false, and_true, true_and, and_false, false_and, reduceIte, ite_true, ite_false, eq_self] at *)) <;> omega), trivial⟩ rfl
                · have mh11 := nle_mx h11
                  refine wa_iload rfl ?_
                  refine wa_if_ne o_X0_mark_85 (by decide) (fun h23 => ?_) (fun h23 => ?_)
                  · replace h23 := bI_t (b := l5) (rfl) h23
                    refine wa_iload rfl ?_
                    refine wa_iload_n (i := 2) rfl rfl ?_
                    refine wa_if_ne o_X0_mark_95 (by decide) (fun h24 => ?_) (fun h24 => ?_)
                    · refine wa_iconst (v := 0) (by decide) ?_
                      refine wa_icmp_ne o_X0_mark_111 (by decide) (fun h25 => ?_) (fun h25 => ?_)
                      · refine wa_iinc (v := (1)) (lv' := fun y26 => [(4, .int y26), (0, .ref 41), (1, .int a0), (2, .int a1), (3, .int (bI l3)), (5, .int (bI l5)), (6, .int l6)]) (by decide) rfl (by decide) (fun _ => rfl) (fun y26 hy26 => ?_)
                        have ty26 := i_addT hy26.symm
                        clear hy26
                        refine wa_goto o_X0_mark_5 (by decide) ?_
                        refine wa_pick [1, 2, 3, 4, 0] rfl ?_
                        exact ih2 _ (by ((try simp only [vp_in_iff, Int32.lt_iff_toInt_lt, Int32.le_iff_toInt_le, ← Int32.toInt_inj, Int32.reduceToInt, n_1, n_2, n_8, Int32.toNatClampNeg, Int64.lt_iff_toInt_lt, Int64.le_iff_toInt_le, ← Int64.toInt_inj, Int64.reduceToInt, Int32.toInt_toInt64, lg_cmp_ge, lg_cmp_le, lg_cmp_gt, lg_cmp_lt, lg_cmp_eq, Bool.false_eq_true, Bool.true_eq_false, reduceCtorEq, false_iff, true_iff, iff_true, iff_false, and_true, true_and, and_false, false_and, reduceIte, ite_true, ite_false, eq_self] at *)) <;> omega) _ _ _ ⟨Fs8, (khi10_0), (by ((try simp only [vp_in_iff, Int32.lt_iff_toInt_lt, Int32.le_iff_toInt_le, ← Int32.toInt_inj, Int32.reduceToInt, n_1, n_2, n_8, Int32.toNatClampNeg, Int64.lt_iff_toInt_lt, Int64.le_iff_toInt_le, ← Int64.toInt_inj, Int64.reduceToInt, Int32.toInt_toInt64, lg_cmp_ge, lg_cmp_le, lg_cmp_gt, lg_cmp_lt, lg_cmp_eq, Bool.false_eq_true, Bool.true_eq_false, reduceCtorEq, false_iff, true_iff, iff_true, iff_false, and_true, true_and, and_false, false_and, reduceIte, ite_true, ite_false, eq_self] at *)) <;> omega), trivial⟩ rfl
                      · refine wa_aload_n (i := 0) rfl rfl ?_
                        refine wa_getr ck_0 fl_0_18 ly_41 rf_41_4 ?_
                        refine wa_iload rfl ?_
                        refine wa_iload_n (i := 2) rfl rfl ?_
                        refine wa_iconst (v := 1) (by decide) ?_
                        refine wa_iadd ?_
                        refine wa_top (fun v27 hv27 => ?_)
                        have tv27 := i_addT hv27
                        clear hv27
                        refine wa_iast ly_44 (by ((try simp only [vp_in_iff, Int32.lt_iff_toInt_lt, Int32.le_iff_toInt_le, ← Int32.toInt_inj, Int32.reduceToInt, n_1, n_2, n_8, Int32.toNatClampNeg, Int64.lt_iff_toInt_lt, Int64.le_iff_toInt_le, ← Int64.toInt_inj, Int64.reduceToInt, Int32.toInt_toInt64, lg_cmp_ge, lg_cmp_le, lg_cmp_gt, lg_cmp_lt, lg_cmp_eq, Bool.false_eq_true, Bool.true_eq_false, reduceCtorEq, false_iff, true_iff, iff_true, iff_false, and_true, true_and, and_false, false_and, reduceIte, ite_true, ite_false, eq_self] at *)) <;> omega) (fun s28 hs28 => ?_)
                        have Fs28 : Sm 44 45 σ s28 := by rw [hs28]; exact Sm.si Fs8 _ _ (by decide) (by decide)
                        refine wa_iconst (v := 1) (by decide) ?_
                        refine wa_istore_nD (lv' := [(3, .int (bI true)), (0, .ref 41), (1, .int a0), (2, .int a1), (4, .int l4), (5, .int (bI l5)), (6, .int l6)]) (i := 3) rfl (by decide) rfl ?_
                        refine wa_iinc (v := (1)) (lv' := fun y29 => [(4, .int y29), (3, .int (bI true)), (0, .ref 41), (1, .int a0), (2, .int a1), (5, .int (bI l5)), (6, .int l6)]) (by decide) rfl (by decide) (fun _ => rfl) (fun y29 hy29 => ?_)
                        have ty29 := i_addT hy29.symm
                        clear hy29
                        refine wa_goto o_X0_mark_5 (by decide) ?_
                        refine wa_pick [2, 3, 4, 1, 0] rfl ?_
                        exact ih2 _ (by ((try simp only [vp_in_iff, Int32.lt_iff_toInt_lt, Int32.le_iff_toInt_le, ← Int32.toInt_inj, Int32.reduceToInt, n_1, n_2, n_8, Int32.toNatClampNeg, Int64.lt_iff_toInt_lt, Int64.le_iff_toInt_le, ← Int64.toInt_inj, Int64.reduceToInt, Int32.toInt_toInt64, lg_cmp_ge, lg_cmp_le, lg_cmp_gt, lg_cmp_lt, lg_cmp_eq, Bool.false_eq_true, Bool.true_eq_false, reduceCtorEq, false_iff, true_iff, iff_true, iff_false, and_true, true_and, and_false, false_and, reduceIte, ite_true, ite_false, eq_self] at *)) <;> omega) _ _ _ ⟨Fs28, ((nxq_gi_si hs28 (by decide)).trans (khi10_0)), (by ((try simp only [vp_in_iff, Int32.lt_iff_toInt_lt, Int32.le_iff_toInt_le, ← Int32.toInt_inj, Int32.reduceToInt, n_1, n_2, n_8, Int32.toNatClampNeg, Int64.lt_iff_toInt_lt, Int64.le_iff_toInt_le, ← Int64.toInt_inj, Int64.reduceToInt, Int32.toInt_toInt64, lg_cmp_ge, lg_cmp_le, lg_cmp_gt, lg_cmp_lt, lg_cmp_eq, Bool.false_eq_true, Bool.true_eq_false, reduceCtorEq, false_iff, true_iff, iff_true, iff_false, and_true, true_and, and_false, false_and, reduceIte, ite_true, ite_false, eq_self] at *)) <;> omega), trivial⟩ rfl
                    · refine wa_iconst (v := 1) (by decide) ?_
                      refine wa_goto o_X0_mark_96 (by decide) ?_
                      refine wa_icmp_ne o_X0_mark_111 (by decide) (fun h30 => ?_) (fun h30 => ?_)
                      · refine wa_iinc (v := (1)) (lv' := fun y31 => [(4, .int y31), (0, .ref 41), (1, .int a0), (2, .int a1), (3, .int (bI l3)), (5, .int (bI l5)), (6, .int l6)]) (by decide) rfl (by decide) (fun _ => rfl) (fun y31 hy31 => ?_)
                        have ty31 := i_addT hy31.symm
                        clear hy31
                        refine wa_goto o_X0_mark_5 (by decide) ?_
                        refine wa_pick [1, 2, 3, 4, 0] rfl ?_
                        exact ih2 _ (by ((try simp only [vp_in_iff, Int32.lt_iff_toInt_lt, Int32.le_iff_toInt_le, ← Int32.toInt_inj, Int32.reduceToInt, n_1, n_2, n_8, Int32.toNatClampNeg, Int64.lt_iff_toInt_lt, Int64.le_iff_toInt_le, ← Int64.toInt_inj, Int64.reduceToInt, Int32.toInt_toInt64, lg_cmp_ge, lg_cmp_le, lg_cmp_gt, lg_cmp_lt, lg_cmp_eq, Bool.false_eq_true, Bool.true_eq_false, reduceCtorEq, false_iff, true_iff, iff_true, iff_false, and_true, true_and, and_false, false_and, reduceIte, ite_true, ite_false, eq_self] at *)) <;> omega) _ _ _ ⟨Fs8, (khi10_0), (by ((try simp only [vp_in_iff, Int32.lt_iff_toInt_lt, Int32.le_iff_toInt_le, ← Int32.toInt_inj, Int32.reduceToInt, n_1, n_2, n_8, Int32.toNatClampNeg, Int64.lt_iff_toInt_lt, Int64.le_iff_toInt_le, ← Int64.toInt_inj, Int64.reduceToInt, Int32.toInt_toInt64, lg_cmp_ge, lg_cmp_le, lg_cmp_gt, lg_cmp_lt, lg_cmp_eq, Bool.false_eq_true, Bool.true_eq_false, reduceCtorEq, false_iff, true_iff, iff_true, iff_false, and_true, true_and, and_false, false_and, reduceIte, ite_true, ite_false, eq_self] at *)) <;> omega), trivial⟩ rfl
                      · refine wa_aload_n (i := 0) rfl rfl ?_
                        refine wa_getr ck_0 fl_0_18 ly_41 rf_41_4 ?_
                        refine wa_iload rfl ?_
                        refine wa_iload_n (i := 2) rfl rfl ?_
                        refine wa_iconst (v := 1) (by decide) ?_
                        refine wa_iadd ?_
                        refine wa_top (fun v32 hv32 => ?_)
                        have tv32 := i_addT hv32
                        clear hv32
                        refine wa_iast ly_44 (by ((try simp only [vp_in_iff, Int32.lt_iff_toInt_lt, Int32.le_iff_toInt_le, ← Int32.toInt_inj, Int32.reduceToInt, n_1, n_2, n_8, Int32.toNatClampNeg, Int64.lt_iff_toInt_lt, Int64.le_iff_toInt_le, ← Int64.toInt_inj, Int64.reduceToInt, Int32.toInt_toInt64, lg_cmp_ge, lg_cmp_le, lg_cmp_gt, lg_cmp_lt, lg_cmp_eq, Bool.false_eq_true, Bool.true_eq_false, reduceCtorEq, false_iff, true_iff, iff_true, iff_false, and_true, true_and, and_false, false_and, reduceIte, ite_true, ite_false, eq_self] at *)) <;> omega) (fun s33 hs33 => ?_)
                        have Fs33 : Sm 44 45 σ s33 := by rw [hs33]; exact Sm.si Fs8 _ _ (by decide) (by decide)
                        refine wa_iconst (v := 1) (by decide) ?_
                        refine wa_istore_nD (lv' := [(3, .int (bI true)), (0, .ref 41), (1, .int a0), (2, .int a1), (4, .int l4), (5, .int (bI l5)), (6, .int l6)]) (i := 3) rfl (by decide) rfl ?_
                        refine wa_iinc (v := (1)) (lv' := fun y34 => [(4, .int y34), (3, .int (bI true)), (0, .ref 41), (1, .int a0), (2, .int a1), (5, .int (bI l5)), (6, .int l6)]) (by decide) rfl (by decide) (fun _ => rfl) (fun y34 hy34 => ?_)
                        have ty34 := i_addT hy34.symm
                        clear hy34
                        refine wa_goto o_X0_mark_5 (by decide) ?_
                        refine wa_pick [2, 3, 4, 1, 0] rfl ?_
                        exact ih2 _ (by ((try simp only [vp_in_iff, Int32.lt_iff_toInt_lt, Int32.le_iff_toInt_le, ← Int32.toInt_inj, Int32.reduceToInt, n_1, n_2, n_8, Int32.toNatClampNeg, Int64.lt_iff_toInt_lt, Int64.le_iff_toInt_le, ← Int64.toInt_inj, Int64.reduceToInt, Int32.toInt_toInt64, lg_cmp_ge, lg_cmp_le, lg_cmp_gt, lg_cmp_lt, lg_cmp_eq, Bool.false_eq_true, Bool.true_eq_false, reduceCtorEq, false_iff, true_iff, iff_true, iff_false, and_true, true_and, and_false, false_and, reduceIte, ite_true, ite_false, eq_self] at *)) <;> omega) _ _ _ ⟨Fs33, ((nxq_gi_si hs33 (by decide)).trans (khi10_0)), (by ((try simp only [vp_in_iff, Int32.lt_iff_toInt_lt, Int32.le_iff_toInt_le, ← Int32.toInt_inj, Int32.reduceToInt, n_1, n_2, n_8, Int32.toNatClampNeg, Int64.lt_iff_toInt_lt, Int64.le_iff_toInt_le, ← Int64.toInt_inj, Int64.reduceToInt, Int32.toInt_toInt64, lg_cmp_ge, lg_cmp_le, lg_cmp_gt, lg_cmp_lt, lg_cmp_eq, Bool.false_eq_true, Bool.true_eq_false, reduceCtorEq, false_iff, true_iff, iff_true, iff_false, and_true, true_and, and_false, false_and, reduceIte, ite_true, ite_false, eq_self] at *)) <;> omega), trivial⟩ rfl
                  · replace h23 := bI_f (b := l5) (rfl) h23
                    refine wa_aload_n (i := 0) rfl rfl ?_
                    refine wa_aload_n (i := 0) rfl rfl ?_
                    refine wa_getr ck_0 fl_0_48 ly_41 rf_41_1 ?_
                    refine wa_iload rfl ?_
                    refine wa_iload rfl ?_
                    refine wa_Vi (d9 := d - 1) [.int _, .int _] [.ref 41] (sp_X6_behind G (d := d - 1) (by omega) s8 _ _) (rfl) rfl rfl (zr (by omega)) mk_X6_behind ly_31 ml_0_95 (Nat.le_of_ble_eq_true rfl) (fun x36 s35 hs35 => ?_)
                    obtain ⟨zs35, -⟩ := pI hs35
                    subst zs35
                    refine wa_Vi (d9 := d - 1) [.int _] [] (sp_X0_farFrom G (d := d - 1) (by omega) s8 _) (rfl) rfl rfl (zr (by omega)) mk_X0_farFrom ly_41 ml_0_98 (Nat.le_of_ble_eq_true rfl) (fun x38 s37 hs37 => ?_)
                    obtain ⟨zs37, -⟩ := pI hs37
                    subst zs37
                    refine wa_iconst (v := 1) (by decide) ?_
                    refine wa_icmp_ne o_X0_mark_76 (by decide) (fun h39 => ?_) (fun h39 => ?_)
                    · refine wa_iconst (v := 0) (by decide) ?_
                      refine wa_istoreD (lv' := [(5, .int (bI false)), (0, .ref 41), (1, .int a0), (2, .int a1), (3, .int (bI l3)), (4, .int l4), (6, .int l6)]) (by decide) rfl ?_
                      refine wa_iinc (v := (1)) (lv' := fun y40 => [(6, .int y40), (5, .int (bI false)), (0, .ref 41), (1, .int a0), (2, .int a1), (3, .int (bI l3)), (4, .int l4)]) (by decide) rfl (by decide) (fun _ => rfl) (fun y40 hy40 => ?_)
                      have ty40 := i_addT hy40.symm
                      clear hy40
                      refine wa_goto o_X0_mark_36 (by decide) ?_
                      refine wa_pick [2, 3, 4, 5, 6, 1, 0] rfl ?_
                      exact ih9 _ (by ((try simp only [vp_in_iff, Int32.lt_iff_toInt_lt, Int32.le_iff_toInt_le, ← Int32.toInt_inj, Int32.reduceToInt, n_1, n_2, n_8, Int32.toNatClampNeg, Int64.lt_iff_toInt_lt, Int64.le_iff_toInt_le, ← Int64.toInt_inj, Int64.reduceToInt, Int32.toInt_toInt64, lg_cmp_ge, lg_cmp_le, lg_cmp_gt, lg_cmp_lt, lg_cmp_eq, Bool.false_eq_true, Bool.true_eq_false, reduceCtorEq, false_iff, true_iff, iff_true, iff_false, and_true, true_and, and_false, false_and, reduceIte, ite_true, ite_false, eq_self] at *)) <;> omega) _ _ _ ⟨Fs8, (khi10_0), (by ((try simp only [vp_in_iff, Int32.lt_iff_toInt_lt, Int32.le_iff_toInt_le, ← Int32.toInt_inj, Int32.reduceToInt, n_1, n_2, n_8, Int32.toNatClampNeg, Int64.lt_iff_toInt_lt, Int64.le_iff_toInt_le, ← Int64.toInt_inj, Int64.reduceToInt, Int32.toInt_toInt64, lg_cmp_ge, lg_cmp_le, lg_cmp_gt, lg_cmp_lt, lg_cmp_eq, Bool.false_eq_true, Bool.true_eq_false, reduceCtorEq, false_iff, true_iff, iff_true, iff_false, and_true, true_and, and_false, false_and, reduceIte, ite_true, ite_false, eq_self] at *)) <;> omega), trivial⟩ rfl
                    · refine wa_iconst (v := 1) (by decide) ?_
                      refine wa_goto o_X0_mark_77 (by decide) ?_
                      refine wa_istoreD (lv' := [(5, .int (bI true)), (0, .ref 41), (1, .int a0), (2, .int a1), (3, .int (bI l3)), (4, .int l4), (6, .int l6)]) (by decide) rfl ?_
                      refine wa_iinc (v := (1)) (lv' := fun y41 => [(6, .int y41), (5, .int (bI true)), (0, .ref 41), (1, .int a0), (2, .int a1), (3, .int (bI l3)), (4, .int l4)]) (by decide) rfl (by decide) (fun _ => rfl) (fun y41 hy41 => ?_)
                      have ty41 := i_addT hy41.symm
                      clear hy41
                      refine wa_goto o_X0_mark_36 (by decide) ?_
                      refine wa_pick [2, 3, 4, 5, 6, 1, 0] rfl ?_
                      exact ih9 _ (by ((try simp only [vp_in_iff, Int32.lt_iff_toInt_lt, Int32.le_iff_toInt_le, ← Int32.toInt_inj, Int32.reduceToInt, n_1, n_2, n_8, Int32.toNatClampNeg, Int64.lt_iff_toInt_lt, Int64.le_iff_toInt_le, ← Int64.toInt_inj, Int64.reduceToInt, Int32.toInt_toInt64, lg_cmp_ge, lg_cmp_le, lg_cmp_gt, lg_cmp_lt, lg_cmp_eq, Bool.false_eq_true, Bool.true_eq_false, reduceCtorEq, false_iff, true_iff, iff_true, iff_false, and_true, true_and, and_false, false_and, reduceIte, ite_true, ite_false, eq_self] at *)) <;> omega) _ _ _ ⟨Fs8, (khi10_0), (by ((try simp only [vp_in_iff, Int32.lt_iff_toInt_lt, Int32.le_iff_toInt_le, ← Int32.toInt_inj, Int32.reduceToInt, n_1, n_2, n_8, Int32.toNatClampNeg, Int64.lt_iff_toInt_lt, Int64.le_iff_toInt_le, ← Int64.toInt_inj, Int64.reduceToInt, Int32.toInt_toInt64, lg_cmp_ge, lg_cmp_le, lg_cmp_gt, lg_cmp_lt, lg_cmp_eq, Bool.false_eq_true, Bool.true_eq_false, reduceCtorEq, false_iff, true_iff, iff_true, iff_false, and_true, true_and, and_false, false_and, reduceIte, ite_true, ite_false, eq_self] at *)) <;> omega), trivial⟩ rfl
            exact hi10 _ _ _ _ ⟨Fs1, (khi3_0), (by ((try simp only [vp_in_iff, Int32.lt_iff_toInt_lt, Int32.le_iff_toInt_le, ← Int32.toInt_inj, Int32.reduceToInt, n_1, n_2, n_8, Int32.toNatClampNeg, Int64.lt_iff_toInt_lt, Int64.le_iff_toInt_le, ← Int64.toInt_inj, Int64.reduceToInt, Int32.toInt_toInt64, lg_cmp_ge, lg_cmp_le, lg_cmp_gt, lg_cmp_lt, lg_cmp_eq, Bool.false_eq_true, Bool.true_eq_false, reduceCtorEq, false_iff, true_iff, iff_true, iff_false, and_true, true_and, and_false, false_and, reduceIte, ite_true, ite_false, eq_self] at *)) <;> omega), trivial⟩ rfl
  exact hi3 _ _ _ _ ⟨(Sm.rf 44 45 σ), (rfl), (by ((try simp only [vp_in_iff, Int32.lt_iff_toInt_lt, Int32.le_iff_toInt_le, ← Int32.toInt_inj, Int32.reduceToInt, n_1, n_2, n_8, Int32.toNatClampNeg, Int64.lt_iff_toInt_lt, Int64.le_iff_toInt_le, ← Int64.toInt_inj, Int64.reduceToInt, Int32.toInt_toInt64, lg_cmp_ge, lg_cmp_le, lg_cmp_gt, lg_cmp_lt, lg_cmp_eq, Bool.false_eq_true, Bool.true_eq_false, reduceCtorEq, false_iff, true_iff, iff_true, iff_false, and_true, true_and, and_false, false_and, reduceIte, ite_true, ite_false, eq_self] at *)) <;> omega), trivial⟩ rfl
set_option maxRecDepth 100000 in
set_option maxHeartbeats 4000000 in
theorem sp_J6_bitCount_0f7a4 (G : kG9) {d : Nat} (hd : 0 ≤ d) (σ : St) (a0 : Int32) : Ct G M_J6_bitCount_0f7a4 d [.int a0] σ (fun r σ' => ∃ x : Int32, r = some (.int x) ∧ σ = σ' ∧ True) := by
  refine wa_startF (by decide +kernel) rfl (Nat.le_of_ble_eq_true rfl) (lv := [(0, .int a0)]) rfl o_J6_bitCount_0f7a4_0 rfl ?_
  have ua0 := Int32.toInt_lt a0
  have wa0 := Int32.le_toInt a0
  refine wa_iload_n (i := 0) rfl rfl ?_
  refine wa_iload_n (i := 0) rfl rfl ?_
  refine wa_iconst (v := 1) (by decide) ?_
  refine wa_iushr ?_
  refine wa_top (fun v1 hv1 => ?_)
  clear hv1
  refine wa_ldcw (v := (1431655765)) (allW_in (kT_5 _ (List.mem_of_getElem? (i := 187) rfl)) rfl) ?_
  refine wa_iand ?_
  refine wa_top (fun v2 hv2 => ?_)
  have tv2 := i_andT hv2
  clear hv2
  refine wa_isub ?_
  refine wa_top (fun v3 hv3 => ?_)
  have tv3 := i_subT hv3
  clear hv3
  refine wa_istore_nD (lv' := [(0, .int v3)]) (i := 0) rfl (by decide) rfl ?_
  refine wa_iload_n (i := 0) rfl rfl ?_
  refine wa_ldcw (v := (858993459)) (allW_in (kT_5 _ (List.mem_of_getElem? (i := 188) rfl)) rfl) ?_
  refine wa_iand ?_
  refine wa_top (fun v4 hv4 => ?_)
  have tv4 := i_andT hv4
  clear hv4
  refine wa_iload_n (i := 0) rfl rfl ?_
  refine wa_iconst (v := 2) (by decide) ?_
  refine wa_iushr ?_
  refine wa_top (fun v5 hv5 => ?_)
  clear hv5
  refine wa_ldcw (v := (858993459)) (allW_in (kT_5 _ (List.mem_of_getElem? (i := 188) rfl)) rfl) ?_
  refine wa_iand ?_
  refine wa_top (fun v6 hv6 => ?_)
  have tv6 := i_andT hv6
  clear hv6
  refine wa_iadd ?_
  refine wa_top (fun v7 hv7 => ?_)
  have tv7 := i_addT hv7
  clear hv7
  refine wa_istore_nD (lv' := [(0, .int v7)]) (i := 0) rfl (by decide) rfl ?_
  refine wa_iload_n (i := 0) rfl rfl ?_
  refine wa_iload_n (i := 0) rfl rfl ?_
  refine wa_iconst (v := 4) (by decide) ?_
  refine wa_iushr ?_
  refine wa_top (fun v8 hv8 => ?_)
  clear hv8
  refine wa_iadd ?_
  refine wa_top (fun v9 hv9 => ?_)
  have tv9 := i_addT hv9
  clear hv9
  refine wa_ldcw (v := (252645135)) (allW_in (kT_5 _ (List.mem_of_getElem? (i := 189) rfl)) rfl) ?_
  refine wa_iand ?_
  refine wa_top (fun v10 hv10 => ?_)
  have tv10 := i_andT hv10
  clear hv10
  refine wa_istore_nD (lv' := [(0, .int v10)]) (i := 0) rfl (by decide) rfl ?_
  refine wa_iload_n (i := 0) rfl rfl ?_
  refine wa_iload_n (i := 0) rfl rfl ?_
  refine wa_bipush (v := 8) (by decide) ?_
  refine wa_iushr ?_
  refine wa_top (fun v11 hv11 => ?_)
  clear hv11
  refine wa_iadd ?_
  refine wa_top (fun v12 hv12 => ?_)
  have tv12 := i_addT hv12
  clear hv12
  refine wa_istore_nD (lv' := [(0, .int v12)]) (i := 0) rfl (by decide) rfl ?_
  refine wa_iload_n (i := 0) rfl rfl ?_
  refine wa_iload_n (i := 0) rfl rfl ?_
  refine wa_bipush (v := 16) (by decide) ?_
  refine wa_iushr ?_
  refine wa_top (fun v13 hv13 => ?_)
  clear hv13
  refine wa_iadd ?_
  refine wa_top (fun v14 hv14 => ?_)
  have tv14 := i_addT hv14
  clear hv14
  refine wa_istore_nD (lv' := [(0, .int v14)]) (i := 0) rfl (by decide) rfl ?_
  refine wa_iload_n (i := 0) rfl rfl ?_
  refine wa_bipush (v := 63) (by decide) ?_
  refine wa_iand ?_
  refine wa_top (fun v15 hv15 => ?_)
  have tv15 := i_andT hv15
  clear hv15
  refine wa_ireturn rfl rfl ?_
  exact ⟨_, rfl, rfl, trivial⟩
set_option maxHeartbeats 4000000 in
theorem sp_X0_countAll (G : kG9) {d : Nat} (hd : 1 ≤ d) (σ : St) (a0 : Int32) (p1 : a0.toInt ≤ 3000 ∧ 0 ≤ a0.toInt) : Ct G M_X0_countAll d [.ref 41, .int a0] σ (fun r σ' => ∃ x : Int32, r = some (.int x) ∧ Sm 47 49 σ σ' ∧ True) := by
  refine wa_start (by decide) rfl (Nat.le_of_ble_eq_true rfl) (lv := [(0, .ref 41), (1, .int a0)]) rfl o_X0_countAll_0 rfl ?_
  have ua0 := Int32.toInt_lt a0
  have wa0 := Int32.le_toInt a0
  refine wa_iconst (v := 0) (by decide) ?_
  refine wa_istore_nD (lv' := [(2, .int 0), (0, .ref 41), (1, .int a0)]) (i := 2) rfl (by decide) rfl ?_
  refine wa_pick [1, 2, 0] rfl ?_
  have hi3 : ∀ (n9_2 : Nat) (l2 : Int32) (s1 : St), ((Sm 47 49 σ s1) ∧ (gi s1 31 12 = gi σ 31 12) ∧ (0 ≤ l2.toInt) ∧ (True)) → (2147483647 - l2.toInt).toNat = n9_2 → WA G M_X0_countAll (ZM G M_X0_countAll d (fun r σ' => ∃ x : Int32, r = some (.int x) ∧ Sm 47 49 σ σ' ∧ True)) B_X0_countAll_2 [(0, .ref 41), (1, .int a0), (2, .int l2)] [] s1 := by
    intro n9_2
    induction n9_2 using Nat.strongRecOn with
    | _ n9_2 ih2 =>
      intro l2 s1 i9 m9_2
      obtain ⟨Fs1, khi3_0, jhi3_0, -⟩ := i9
      have ul2 := Int32.toInt_lt l2
      have wl2 := Int32.le_toInt l2
      refine wa_iload_n (i := 2) rfl rfl ?_
      refine wa_iload_n (i := 1) rfl rfl ?_
      refine wa_icmp_ge o_X0_countAll_36 (by decide) (fun h4 => ?_) (fun h4 => ?_)
      · refine wa_iconst (v := 1) (by decide) ?_
        refine wa_istore_nD (lv' := [(2, .int (bI true)), (0, .ref 41), (1, .int a0)]) (i := 2) rfl (by decide) rfl ?_
        refine wa_iconst (v := 0) (by decide) ?_
        refine wa_istore_nD (lv' := [(3, .int 0), (2, .int (bI true)), (0, .ref 41), (1, .int a0)]) (i := 3) rfl (by decide) rfl ?_
        refine wa_pick [2, 3, 1, 0] rfl ?_
        have hi7 : ∀ (n9_40 : Nat) (l2 : Bool) (l3 : Int32) (s5 : St), ((Sm 47 49 σ s5) ∧ (gi s5 31 12 = gi σ 31 12) ∧ (0 ≤ l3.toInt) ∧ (True)) → (2147483647 - l3.toInt).toNat = n9_40 → WA G M_X0_countAll (ZM G M_X0_countAll d (fun r σ' => ∃ x : Int32, r = some (.int x) ∧ Sm 47 49 σ σ' ∧ True)) B_X0_countAll_40 [(0, .ref 41), (1, .int a0), (2, .int (bI l2)), (3, .int l3)] [] s5 := by
          intro n9_40
          induction n9_40 using Nat.strongRecOn with
          | _ n9_40 ih6 =>
            intro l2 l3 s5 i9 m9_40
            obtain ⟨Fs5, khi7_0, jhi7_0, -⟩ := i9
            have ul3 := Int32.toInt_lt l3
            have wl3 := Int32.le_toInt l3
            refine wa_iload_n (i := 3) rfl rfl ?_
            refine wa_iload_n (i := 1) rfl rfl ?_
            refine wa_icmp_gt o_X0_countAll_177 (by decide) (fun h8 => ?_) (fun h8 => ?_)
            · refine wa_aload_n (i := 0) rfl rfl ?_
              refine wa_getr ck_0 fl_0_28 ly_41 rf_41_7 ?_
              refine wa_iconst (v := 0) (by decide) ?_
              refine wa_lald ly_47 (by ((try simp only [vp_in_iff, Int32.lt_iff_toInt_lt, Int32.le_iff_toInt_le, ← Int32.toInt_inj, Int32.reduceToInt, n_1, n_2, n_8, Int32.toNatClampNeg, Int64.lt_iff_toInt_lt, Int64.le_iff_toInt_le, ← Int64.toInt_inj, Int64.reduceToInt, Int32.toInt_toInt64, lg_cmp_ge, lg_cmp_le, lg_cmp_gt, lg_cmp_lt, lg_cmp_eq, Bool.false_eq_true, Bool.true_eq_false, reduceCtorEq, false_iff, true_iff, iff_true, iff_false, and_true, true_and, and_false, false_and, reduceIte, ite_true, ite_false, eq_self] at *)) <;> omega) ?_
              refine wa_l2i ?_
              refine wa_top (fun v9 hv9 => ?_)
              clear hv9
              refine wa_ireturn rfl rfl ?_
              exact ⟨_, rfl, Fs5, trivial⟩
            · refine wa_iload_n (i := 2) rfl rfl ?_
              refine wa_if_eq o_X0_countAll_177 (by decide) (fun h10 => ?_) (fun h10 => ?_)
              · replace h10 := bI_f (b := l2) (rfl) h10
                refine wa_aload_n (i := 0) rfl rfl ?_
                refine wa_getr ck_0 fl_0_28 ly_41 rf_41_7 ?_
                refine wa_iconst (v := 0) (by decide) ?_
                refine wa_lald ly_47 (by ((try simp only [vp_in_iff, Int32.lt_iff_toInt_lt, Int32.le_iff_toInt_le, ← Int32.toInt_inj, Int32.reduceToInt, n_1, n_2, n_8, Int32.toNatClampNeg, Int64.lt_iff_toInt_lt, Int64.le_iff_toInt_le, ← Int64.toInt_inj, Int64.reduceToInt, Int32.toInt_toInt64, lg_cmp_ge, lg_cmp_le, lg_cmp_gt, lg_cmp_lt, lg_cmp_eq, Bool.false_eq_true, Bool.true_eq_false, reduceCtorEq, false_iff, true_iff, iff_true, iff_false, and_true, true_and, and_false, false_and, reduceIte, ite_true, ite_false, eq_self] at *)) <;> omega) ?_
                refine wa_l2i ?_
                refine wa_top (fun v11 hv11 => ?_)
                clear hv11
                refine wa_ireturn rfl rfl ?_
                exact ⟨_, rfl, Fs5, trivial⟩
              · replace h10 := bI_t (b := l2) (rfl) h10
                refine wa_iconst (v := 0) (by decide) ?_
                refine wa_istore_nD (lv' := [(2, .int (bI false)), (0, .ref 41), (1, .int a0), (3, .int l3)]) (i := 2) rfl (by decide) rfl ?_
                refine wa_iconst (v := 0) (by decide) ?_
                refine wa_istoreD (lv' := [(4, .int 0), (2, .int (bI false)), (0, .ref 41), (1, .int a0), (3, .int l3)]) (by decide) rfl ?_
                refine wa_pick [2, 3, 1, 4, 0] rfl ?_
                have hi14 : ∀ (n9_54 : Nat) (l2 : Bool) (l4 : Int32) (s12 : St), ((Sm 47 49 σ s12) ∧ (gi s12 31 12 = gi σ 31 12) ∧ (0 ≤ l4.toInt) ∧ (True)) → (2147483647 - l4.toInt).toNat = n9_54 → WA G M_X0_countAll (ZM G M_X0_countAll d (fun r σ' => ∃ x : Int32, r = some (.int x) ∧ Sm 47 49 σ σ' ∧ True)) B_X0_countAll_54 [(0, .ref 41), (1, .int a0), (2, .int (bI l2)), (3, .int l3), (4, .int l4)] [] s12 := by
                  intro n9_54
                  induction n9_54 using Nat.strongRecOn with
                  | _ n9_54 ih13 =>
                    intro l2 l4 s12 i9 m9_54
                    obtain ⟨Fs12, khi14_0, jhi14_0, -⟩ := i9
                    have ul4 := Int32.toInt_lt l4
                    have wl4 := Int32.le_toInt l4
                    refine wa_iload rfl ?_
                    refine wa_iload_n (i := 1) rfl rfl ?_
                    refine wa_icmp_ge o_X0_countAll_151 (by decide) (fun h15 => ?_) (fun h15 => ?_)
                    · refine wa_aload_n (i := 0) rfl rfl ?_
                      refine wa_getr ck_0 fl_0_31 ly_41 rf_41_8 ?_
                      refine wa_iconst (v := 0) (by decide) ?_
                      refine wa_aload_n (i := 0) rfl rfl ?_
                      refine wa_getr ck_0 fl_0_28 ly_41 rf_41_7 ?_
                      refine wa_iconst (v := 0) (by decide) ?_
                      refine wa_iload_n (i := 1) rfl rfl ?_
                      refine wa_sipush (v := 3000) (by decide) ?_
                      refine wa_minI zs (allW_in (kT_6 _ (List.mem_of_getElem? (i := 170) rfl)) rfl) (Nat.le_of_ble_eq_true rfl) ?_
                      refine wa_top (fun v16 hv16 => ?_)
                      have tv16 := i_minI hv16
                      clear hv16
                      refine wa_copyL zs ly_48 ly_47 (allW_in (kT_7 _ (List.mem_of_getElem? (i := 22) rfl)) rfl) (by ((try simp only [vp_in_iff, Int32.lt_iff_toInt_lt, Int32.le_iff_toInt_le, ← Int32.toInt_inj, Int32.reduceToInt, n_1, n_2, n_8, Int32.toNatClampNeg, Int64.lt_iff_toInt_lt, Int64.le_iff_toInt_le, ← Int64.toInt_inj, Int64.reduceToInt, Int32.toInt_toInt64, lg_cmp_ge, lg_cmp_le, lg_cmp_gt, lg_cmp_lt, lg_cmp_eq, Bool.false_eq_true, Bool.true_eq_false, reduceCtorEq, false_iff, true_iff, iff_true, iff_false, and_true, true_and, and_false, false_and, reduceIte, ite_true, ite_false, eq_self] at *)) <;> omega) (by ((try simp only [vp_in_iff, Int32.lt_iff_toInt_lt, Int32.le_iff_toInt_le, ← Int32.toInt_inj, Int32.reduceToInt, n_1, n_2, n_8, Int32.toNatClampNeg, Int64.lt_iff_toInt_lt, Int64.le_iff_toInt_le, ← Int64.toInt_inj, Int64.reduceToInt, Int32.toInt_toInt64, lg_cmp_ge, lg_cmp_le, lg_cmp_gt, lg_cmp_lt, lg_cmp_eq, Bool.false_eq_true, Bool.true_eq_false, reduceCtorEq, false_iff, true_iff, iff_true, iff_false, and_true, true_and, and_false, false_and, reduceIte, ite_true, ite_false, eq_self] at *)) <;> omega) (by ((try simp only [vp_in_iff, Int32.lt_iff_toInt_lt, Int32.le_iff_toInt_le, ← Int32.toInt_inj, Int32.reduceToInt, n_1, n_2, n_8, Int32.toNatClampNeg, Int64.lt_iff_toInt_lt, Int64.le_iff_toInt_le, ← Int64.toInt_inj, Int64.reduceToInt, Int32.toInt_toInt64, lg_cmp_ge, lg_cmp_le, lg_cmp_gt, lg_cmp_lt, lg_cmp_eq, Bool.false_eq_true, Bool.true_eq_false, reduceCtorEq, false_iff, true_iff, iff_true, iff_false, and_true, true_and, and_false, false_and, reduceIte, ite_true, ite_false, eq_self] at *)) <;> omega) (by ((try simp only [vp_in_iff, Int32.lt_iff_toInt_lt, Int32.le_iff_toInt_le, ← Int32.toInt_inj, Int32.reduceToInt, n_1, n_2, n_8, Int32.toNatClampNeg, Int64.lt_iff_toInt_lt, Int64.le_iff_toInt_le, ← Int64.toInt_inj, Int64.reduceToInt, Int32.toInt_toInt64, lg_cmp_ge, lg_cmp_le, lg_cmp_gt, lg_cmp_lt, lg_cmp_eq, Bool.false_eq_true, Bool.true_eq_false, reduceCtorEq, false_iff, true_iff, iff_true, iff_false, and_true, true_and, and_false, false_and, reduceIte, ite_true, ite_false, eq_self] at *)) <;> omega) (by ((try simp only [vp_in_iff, Int32.lt_iff_toInt_lt, Int32.le_iff_toInt_le, ← Int32.toInt_inj, Int32.reduceToInt, n_1, n_2, n_8, Int32.toNatClampNeg, Int64.lt_iff_toInt_lt, Int64.le_iff_toInt_le, ← Int64.toInt_inj, Int64.reduceToInt, Int32.toInt_toInt64, lg_cmp_ge, lg_cmp_le, lg_cmp_gt, lg_cmp_lt, lg_cmp_eq, Bool.false_eq_true, Bool.true_eq_false, reduceCtorEq, false_iff, true_iff, iff_true, iff_false, and_true, true_and, and_false, false_and, reduceIte, ite_true, ite_false, eq_self] at *)) <;> omega) (Nat.le_of_ble_eq_true rfl) (fun s17 hs17 => ?_)
                      have Fs17 : Sm 47 49 σ s17 := by rw [hs17]; exact Sm.rl Fs12 _ (by decide) (by decide)
                      refine wa_iinc (v := (1)) (lv' := fun y18 => [(3, .int y18), (0, .ref 41), (1, .int a0), (2, .int (bI l2)), (4, .int l4)]) (by decide) rfl (by decide) (fun _ => rfl) (fun y18 hy18 => ?_)
                      have ty18 := i_addT hy18.symm
                      clear hy18
                      refine wa_goto o_X0_countAll_40 (by decide) ?_
                      refine wa_pick [1, 2, 3, 0] rfl ?_
                      exact ih6 _ (by ((try simp only [vp_in_iff, Int32.lt_iff_toInt_lt, Int32.le_iff_toInt_le, ← Int32.toInt_inj, Int32.reduceToInt, n_1, n_2, n_8, Int32.toNatClampNeg, Int64.lt_iff_toInt_lt, Int64.le_iff_toInt_le, ← Int64.toInt_inj, Int64.reduceToInt, Int32.toInt_toInt64, lg_cmp_ge, lg_cmp_le, lg_cmp_gt, lg_cmp_lt, lg_cmp_eq, Bool.false_eq_true, Bool.true_eq_false, reduceCtorEq, false_iff, true_iff, iff_true, iff_false, and_true, true_and, and_false, false_and, reduceIte, ite_true, ite_false, eq_self] at *)) <;> omega) _ _ _ ⟨Fs17, ((nx_gi_rl hs17).trans (khi14_0)), (by ((try simp only [vp_in_iff, Int32.lt_iff_toInt_lt, Int32.le_iff_toInt_le, ← Int32.toInt_inj, Int32.reduceToInt, n_1, n_2, n_8, Int32.toNatClampNeg, Int64.lt_iff_toInt_lt, Int64.le_iff_toInt_le, ← Int64.toInt_inj, Int64.reduceToInt, Int32.toInt_toInt64, lg_cmp_ge, lg_cmp_le, lg_cmp_gt, lg_cmp_lt, lg_cmp_eq, Bool.false_eq_true, Bool.true_eq_false, reduceCtorEq, false_iff, true_iff, iff_true, iff_false, and_true, true_and, and_false, false_and, reduceIte, ite_true, ite_false, eq_self] at *)) <;> omega), trivial⟩ rfl
                    · have mh15 := nle_mx h15
                      refine wa_lconst (v := 0) (by decide) ?_
                      refine wa_lstoreD (lv' := [(5, .long 0), (0, .ref 41), (1, .int a0), (2, .int (bI l2)), (3, .int l3), (4, .int l4)]) (by decide) rfl ?_
                      refine wa_iconst (v := 0) (by decide) ?_
                      refine wa_istoreD (lv' := [(7, .int 0), (5, .long 0), (0, .ref 41), (1, .int a0), (2, .int (bI l2)), (3, .int l3), (4, .int l4)]) (by decide) rfl ?_
                      refine wa_pick [2, 3, 4, 5, 6, 1, 0] rfl ?_
                      have hi21 : ∀ (n9_66 : Nat) (l5 : Int64) (l7 : Int32) (s19 : St), ((Sm 47 49 σ s19) ∧ (gi s19 31 12 = gi σ 31 12) ∧ (0 ≤ l7.toInt) ∧ (True)) → (2147483647 - l7.toInt).toNat = n9_66 → WA G M_X0_countAll (ZM G M_X0_countAll d (fun r σ' => ∃ x : Int32, r = some (.int x) ∧ Sm 47 49 σ σ' ∧ True)) B_X0_countAll_66 [(0, .ref 41), (1, .int a0), (2, .int (bI l2)), (3, .int l3), (4, .int l4), (5, .long l5), (7, .int l7)] [] s19 := by
                        intro n9_66
                        induction n9_66 using Nat.strongRecOn with
                        | _ n9_66 ih20 =>
                          intro l5 l7 s19 i9 m9_66
                          obtain ⟨Fs19, khi21_0, jhi21_0, -⟩ := i9
                          have ul7 := Int32.toInt_lt l7
                          have wl7 := Int32.le_toInt l7
                          refine wa_iload rfl ?_
                          refine wa_aload_n (i := 0) rfl rfl ?_
                          refine wa_getr ck_0 fl_0_48 ly_41 rf_41_1 ?_
                          refine wa_geti ck_6 fl_0_92 ly_31 ?_
                          refine wa_rw (khi21_0) ?_
                          refine wa_icmp_ge o_X0_countAll_104 (by decide) (fun h22 => ?_) (fun h22 => ?_)
                          · refine wa_aload_n (i := 0) rfl rfl ?_
                            refine wa_getr ck_0 fl_0_31 ly_41 rf_41_8 ?_
                            refine wa_iload rfl ?_
                            refine wa_lload rfl ?_
                            refine wa_ldc2 (v := (1000000000)) (allW_in (kT_7 _ (List.mem_of_getElem? (i := 46) rfl)) rfl) ?_
                            refine wa_minL zs (allW_in (kT_7 _ (List.mem_of_getElem? (i := 47) rfl)) rfl) (Nat.le_of_ble_eq_true rfl) ?_
                            refine wa_topl (fun v23 hv23 => ?_)
                            have tv23 := i_minL hv23
                            clear hv23
                            refine wa_last ly_48 (by ((try simp only [vp_in_iff, Int32.lt_iff_toInt_lt, Int32.le_iff_toInt_le, ← Int32.toInt_inj, Int32.reduceToInt, n_1, n_2, n_8, Int32.toNatClampNeg, Int64.lt_iff_toInt_lt, Int64.le_iff_toInt_le, ← Int64.toInt_inj, Int64.reduceToInt, Int32.toInt_toInt64, lg_cmp_ge, lg_cmp_le, lg_cmp_gt, lg_cmp_lt, lg_cmp_eq, Bool.false_eq_true, Bool.true_eq_false, reduceCtorEq, false_iff, true_iff, iff_true, iff_false, and_true, true_and, and_false, false_and, reduceIte, ite_true, ite_false, eq_self] at *)) <;> omega) (fun s24 hs24 => ?_)
                            have Fs24 : Sm 47 49 σ s24 := by rw [hs24]; exact Sm.sl Fs19 _ _ (by decide) (by decide)
                            refine wa_iload_n (i := 2) rfl rfl ?_
                            refine wa_aload_n (i := 0) rfl rfl ?_
                            refine wa_getr ck_0 fl_0_31 ly_41 rf_41_8 ?_
                            refine wa_iload rfl ?_
                            refine wa_lald ly_48 (by ((try simp only [vp_in_iff, Int32.lt_iff_toInt_lt, Int32.le_iff_toInt_le, ← Int32.toInt_inj, Int32.reduceToInt, n_1, n_2, n_8, Int32.toNatClampNeg, Int64.lt_iff_toInt_lt, Int64.le_iff_toInt_le, ← Int64.toInt_inj, Int64.reduceToInt, Int32.toInt_toInt64, lg_cmp_ge, lg_cmp_le, lg_cmp_gt, lg_cmp_lt, lg_cmp_eq, Bool.false_eq_true, Bool.true_eq_false, reduceCtorEq, false_iff, true_iff, iff_true, iff_false, and_true, true_and, and_false, false_and, reduceIte, ite_true, ite_false, eq_self] at *)) <;> omega) ?_
                            refine wa_aload_n (i := 0) rfl rfl ?_
                            refine wa_getr ck_0 fl_0_28 ly_41 rf_41_7 ?_
                            refine wa_iload rfl ?_
                            refine wa_lald ly_47 (by ((try simp only [vp_in_iff, Int32.lt_iff_toInt_lt, Int32.le_iff_toInt_le, ← Int32.toInt_inj, Int32.reduceToInt, n_1, n_2, n_8, Int32.toNatClampNeg, Int64.lt_iff_toInt_lt, Int64.le_iff_toInt_le, ← Int64.toInt_inj, Int64.reduceToInt, Int32.toInt_toInt64, lg_cmp_ge, lg_cmp_le, lg_cmp_gt, lg_cmp_lt, lg_cmp_eq, Bool.false_eq_true, Bool.true_eq_false, reduceCtorEq, false_iff, true_iff, iff_true, iff_false, and_true, true_and, and_false, false_and, reduceIte, ite_true, ite_false, eq_self] at *)) <;> omega) ?_
                            refine wa_lcmp ?_
                            refine wa_top (fun v25 hv25 => ?_)
                            have tv25 := i_cmpT hv25
                            clear hv25
                            refine wa_if_eq o_X0_countAll_142 (by decide) (fun h26 => ?_) (fun h26 => ?_)
                            · refine wa_iconst (v := 0) (by decide) ?_
                              refine wa_ior ?_
                              refine wa_rw (bI_or (a := l2) (b := false) rfl rfl) ?_
                              refine wa_istore_nD (lv' := [(2, .int (bI (l2 || false))), (0, .ref 41), (1, .int a0), (3, .int l3), (4, .int l4), (5, .long l5), (7, .int l7)]) (i := 2) rfl (by decide) rfl ?_
                              refine wa_iinc (v := (1)) (lv' := fun y27 => [(4, .int y27), (2, .int (bI (l2 || false))), (0, .ref 41), (1, .int a0), (3, .int l3), (5, .long l5), (7, .int l7)]) (by decide) rfl (by decide) (fun _ => rfl) (fun y27 hy27 => ?_)
                              have ty27 := i_addT hy27.symm
                              clear hy27
                              refine wa_goto o_X0_countAll_54 (by decide) ?_
                              refine wa_pick [2, 3, 1, 4, 0] rfl ?_
                              exact ih13 _ (by ((try simp only [vp_in_iff, Int32.lt_iff_toInt_lt, Int32.le_iff_toInt_le, ← Int32.toInt_inj, Int32.reduceToInt, n_1, n_2, n_8, Int32.toNatClampNeg, Int64.lt_iff_toInt_lt, Int64.le_iff_toInt_le, ← Int64.toInt_inj, Int64.reduceToInt, Int32.toInt_toInt64, lg_cmp_ge, lg_cmp_le, lg_cmp_gt, lg_cmp_lt, lg_cmp_eq, Bool.false_eq_true, Bool.true_eq_false, reduceCtorEq, false_iff, true_iff, iff_true, iff_false, and_true, true_and, and_false, false_and, reduceIte, ite_true, ite_false, eq_self] at *)) <;> omega) _ _ _ ⟨Fs24, ((nx_gi_sl hs24).trans (khi21_0)), (by ((try simp only [vp_in_iff, Int32.lt_iff_toInt_lt, Int32.le_iff_toInt_le, ← Int32.toInt_inj, Int32.reduceToInt, n_1, n_2, n_8, Int32.toNatClampNeg, Int64.lt_iff_toInt_lt, Int64.le_iff_toInt_le, ← Int64.toInt_inj, Int64.reduceToInt, Int32.toInt_toInt64, lg_cmp_ge, lg_cmp_le, lg_cmp_gt, lg_cmp_lt, lg_cmp_eq, Bool.false_eq_true, Bool.true_eq_false, reduceCtorEq, false_iff, true_iff, iff_true, iff_false, and_true, true_and, and_false, false_and, reduceIte, ite_true, ite_false, eq_self] at *)) <;> omega), trivial⟩ rfl
                            · refine wa_iconst (v := 1) (by decide) ?_
                              refine wa_goto o_X0_countAll_143 (by decide) ?_
                              refine wa_ior ?_
                              refine wa_rw (bI_or (a := l2) (b := true) rfl rfl) ?_
                              refine wa_istore_nD (lv' := [(2, .int (bI (l2 || true))), (0, .ref 41), (1, .int a0), (3, .int l3), (4, .int l4), (5, .long l5), (7, .int l7)]) (i := 2) rfl (by decide) rfl ?_
                              refine wa_iinc (v := (1)) (lv' := fun y28 => [(4, .int y28), (2, .int (bI (l2 || true))), (0, .ref 41), (1, .int a0), (3, .int l3), (5, .long l5), (7, .int l7)]) (by decide) rfl (by decide) (fun _ => rfl) (fun y28 hy28 => ?_)
                              have ty28 := i_addT hy28.symm
                              clear hy28
                              refine wa_goto o_X0_countAll_54 (by decide) ?_
                              refine wa_pick [2, 3, 1, 4, 0] rfl ?_
                              exact ih13 _ (by ((try simp only [vp_in_iff, Int32.lt_iff_toInt_lt, Int32.le_iff_toInt_le, ← Int32.toInt_inj, Int32.reduceToInt, n_1, n_2, n_8, Int32.toNatClampNeg, Int64.lt_iff_toInt_lt, Int64.le_iff_toInt_le, ← Int64.toInt_inj, Int64.reduceToInt, Int32.toInt_toInt64, lg_cmp_ge, lg_cmp_le, lg_cmp_gt, lg_cmp_lt, lg_cmp_eq, Bool.false_eq_true, Bool.true_eq_false, reduceCtorEq, false_iff, true_iff, iff_true, iff_false, and_true, true_and, and_false, false_and, reduceIte, ite_true, ite_false, eq_self] at *)) <;> omega) _ _ _ ⟨Fs24, ((nx_gi_sl hs24).trans (khi21_0)), (by ((try simp only [vp_in_iff, Int32.lt_iff_toInt_lt, Int32.le_iff_toInt_le, ← Int32.toInt_inj, Int32.reduceToInt, n_1, n_2, n_8, Int32.toNatClampNeg, Int64.lt_iff_toInt_lt, Int64.le_iff_toInt_le, ← Int64.toInt_inj, Int64.reduceToInt, Int32.toInt_toInt64, lg_cmp_ge, lg_cmp_le, lg_cmp_gt, lg_cmp_lt, lg_cmp_eq, Bool.false_eq_true, Bool.true_eq_false, reduceCtorEq, false_iff, true_iff, iff_true, iff_false, and_true, true_and, and_false, false_and, reduceIte, ite_true, ite_false, eq_self] at *)) <;> omega), trivial⟩ rfl
                          · have mh22 := nle_mx h22
                            refine wa_lload rfl ?_
                            refine wa_aload_n (i := 0) rfl rfl ?_
                            refine wa_aload_n (i := 0) rfl rfl ?_
                            refine wa_getr ck_0 fl_0_48 ly_41 rf_41_1 ?_
                            refine wa_iload rfl ?_
                            refine wa_iload rfl ?_
                            refine wa_Vi (d9 := d - 1) [.int _, .int _] [.ref 41, .long l5] (sp_X6_behind G (d := d - 1) (by omega) s19 _ _) (rfl) rfl rfl (zr (by omega)) mk_X6_behind ly_31 ml_0_95 (Nat.le_of_ble_eq_true rfl) (fun x30 s29 hs29 => ?_)
                            obtain ⟨zs29, -⟩ := pI hs29
                            subst zs29
                            refine wa_Vl (d9 := d - 1) [.int _] [.long l5] (sp_X0_gainFrom G (d := d - 1) (by omega) s19 _) (rfl) rfl rfl (zr (by omega)) mk_X0_gainFrom ly_41 ml_0_138 (Nat.le_of_ble_eq_true rfl) (fun x32 s31 hs31 => ?_)
                            obtain ⟨zs31, -⟩ := pL hs31
                            subst zs31
                            refine wa_ladd ?_
                            refine wa_topl (fun v33 hv33 => ?_)
                            clear hv33
                            refine wa_lstoreD (lv' := [(5, .long v33), (0, .ref 41), (1, .int a0), (2, .int (bI l2)), (3, .int l3), (4, .int l4), (7, .int l7)]) (by decide) rfl ?_
                            refine wa_iinc (v := (1)) (lv' := fun y34 => [(7, .int y34), (5, .long v33), (0, .ref 41), (1, .int a0), (2, .int (bI l2)), (3, .int l3), (4, .int l4)]) (by decide) rfl (by decide) (fun _ => rfl) (fun y34 hy34 => ?_)
                            have ty34 := i_addT hy34.symm
                            clear hy34
                            refine wa_goto o_X0_countAll_66 (by decide) ?_
                            refine wa_pick [2, 3, 4, 5, 6, 1, 0] rfl ?_
                            exact ih20 _ (by ((try simp only [vp_in_iff, Int32.lt_iff_toInt_lt, Int32.le_iff_toInt_le, ← Int32.toInt_inj, Int32.reduceToInt, n_1, n_2, n_8, Int32.toNatClampNeg, Int64.lt_iff_toInt_lt, Int64.le_iff_toInt_le, ← Int64.toInt_inj, Int64.reduceToInt, Int32.toInt_toInt64, lg_cmp_ge, lg_cmp_le, lg_cmp_gt, lg_cmp_lt, lg_cmp_eq, Bool.false_eq_true, Bool.true_eq_false, reduceCtorEq, false_iff, true_iff, iff_true, iff_false, and_true, true_and, and_false, false_and, reduceIte, ite_true, ite_false, eq_self] at *)) <;> omega) _ _ _ ⟨Fs19, (khi21_0), (by ((try simp only [vp_in_iff, Int32.lt_iff_toInt_lt, Int32.le_iff_toInt_le, ← Int32.toInt_inj, Int32.reduceToInt, n_1, n_2, n_8, Int32.toNatClampNeg, Int64.lt_iff_toInt_lt, Int64.le_iff_toInt_le, ← Int64.toInt_inj, Int64.reduceToInt, Int32.toInt_toInt64, lg_cmp_ge, lg_cmp_le, lg_cmp_gt, lg_cmp_lt, lg_cmp_eq, Bool.false_eq_true, Bool.true_eq_false, reduceCtorEq, false_iff, true_iff, iff_true, iff_false, and_true, true_and, and_false, false_and, reduceIte, ite_true, ite_false, eq_self] at *)) <;> omega), trivial⟩ rfl
                      exact hi21 _ _ _ _ ⟨Fs12, (khi14_0), (by ((try simp only [vp_in_iff, Int32.lt_iff_toInt_lt, Int32.le_iff_toInt_le, ← Int32.toInt_inj, Int32.reduceToInt, n_1, n_2, n_8, Int32.toNatClampNeg, Int64.lt_iff_toInt_lt, Int64.le_iff_toInt_le, ← Int64.toInt_inj, Int64.reduceToInt, Int32.toInt_toInt64, lg_cmp_ge, lg_cmp_le, lg_cmp_gt, lg_cmp_lt, lg_cmp_eq, Bool.false_eq_true, Bool.true_eq_false, reduceCtorEq, false_iff, true_iff, iff_true, iff_false, and_true, true_and, and_false, false_and, reduceIte, ite_true, ite_false, eq_self] at *)) <;> omega), trivial⟩ rfl
                exact hi14 _ _ _ _ ⟨Fs5, (khi7_0), (by ((try simp only [vp_in_iff, Int32.lt_iff_toInt_lt, Int32.le_iff_toInt_le, ← Int32.toInt_inj, Int32.reduceToInt, n_1, n_2, n_8, Int32.toNatClampNeg, Int64.lt_iff_toInt_lt, Int64.le_iff_toInt_le, ← Int64.toInt_inj, Int64.reduceToInt, Int32.toInt_toInt64, lg_cmp_ge, lg_cmp_le, lg_cmp_gt, lg_cmp_lt, lg_cmp_eq, Bool.false_eq_true, Bool.true_eq_false, reduceCtorEq, false_iff, true_iff, iff_true, iff_false, and_true, true_and, and_false, false_and, reduceIte, ite_true, ite_false, eq_self] at *)) <;> omega), trivial⟩ rfl
        exact hi7 _ _ _ _ ⟨Fs1, (khi3_0), (by ((try simp only [vp_in_iff, Int32.lt_iff_toInt_lt, Int32.le_iff_toInt_le, ← Int32.toInt_inj, Int32.reduceToInt, n_1, n_2, n_8, Int32.toNatClampNeg, Int64.lt_iff_toInt_lt, Int64.le_iff_toInt_le, ← Int64.toInt_inj, Int64.reduceToInt, Int32.toInt_toInt64, lg_cmp_ge, lg_cmp_le, lg_cmp_gt, lg_cmp_lt, lg_cmp_eq, Bool.false_eq_true, Bool.true_eq_false, reduceCtorEq, false_iff, true_iff, iff_true, iff_false, and_true, true_and, and_false, false_and, reduceIte, ite_true, ite_false, eq_self] at *)) <;> omega), trivial⟩ rfl
      · have mh4 := nle_mx h4
        refine wa_iload_n (i := 2) rfl rfl ?_
        refine wa_sipush (v := 3000) (by decide) ?_
        refine wa_icmp_ge o_X0_countAll_36 (by decide) (fun h35 => ?_) (fun h35 => ?_)
        · refine wa_iconst (v := 1) (by decide) ?_
          refine wa_istore_nD (lv' := [(2, .int (bI true)), (0, .ref 41), (1, .int a0)]) (i := 2) rfl (by decide) rfl ?_
          refine wa_iconst (v := 0) (by decide) ?_
          refine wa_istore_nD (lv' := [(3, .int 0), (2, .int (bI true)), (0, .ref 41), (1, .int a0)]) (i := 3) rfl (by decide) rfl ?_
          refine wa_pick [2, 3, 1, 0] rfl ?_
          have hi38 : ∀ (n9_40 : Nat) (l2 : Bool) (l3 : Int32) (s36 : St), ((Sm 47 49 σ s36) ∧ (gi s36 31 12 = gi σ 31 12) ∧ (0 ≤ l3.toInt) ∧ (True)) → (2147483647 - l3.toInt).toNat = n9_40 → WA G M_X0_countAll (ZM G M_X0_countAll d (fun r σ' => ∃ x : Int32, r = some (.int x) ∧ Sm 47 49 σ σ' ∧ True)) B_X0_countAll_40 [(0, .ref 41), (1, .int a0), (2, .int (bI l2)), (3, .int l3)] [] s36 := by
            intro n9_40
            induction n9_40 using Nat.strongRecOn with
            | _ n9_40 ih37 =>
              intro l2 l3 s36 i9 m9_40
              obtain ⟨Fs36, khi38_0, jhi38_0, -⟩ := i9
              have ul3 := Int32.toInt_lt l3
              have wl3 := Int32.le_toInt l3
              refine wa_iload_n (i := 3) rfl rfl ?_
              refine wa_iload_n (i := 1) rfl rfl ?_
              refine wa_icmp_gt o_X0_countAll_177 (by decide) (fun h39 => ?_) (fun h39 => ?_)
              · refine wa_aload_n (i := 0) rfl rfl ?_
                refine wa_getr ck_0 fl_0_28 ly_41 rf_41_7 ?_
                refine wa_iconst (v := 0) (by decide) ?_
                refine wa_lald ly_47 (by ((try simp only [vp_in_iff, Int32.lt_iff_toInt_lt, Int32.le_iff_toInt_le, ← Int32.toInt_inj, Int32.reduceToInt, n_1, n_2, n_8, Int32.toNatClampNeg, Int64.lt_iff_toInt_lt, Int64.le_iff_toInt_le, ← Int64.toInt_inj, Int64.reduceToInt, Int32.toInt_toInt64, lg_cmp_ge, lg_cmp_le, lg_cmp_gt, lg_cmp_lt, lg_cmp_eq, Bool.false_eq_true, Bool.true_eq_false, reduceCtorEq, false_iff, true_iff, iff_true, iff_false, and_true, true_and, and_false, false_and, reduceIte, ite_true, ite_false, eq_self] at *)) <;> omega) ?_
                refine wa_l2i ?_
                refine wa_top (fun v40 hv40 => ?_)
                clear hv40
                refine wa_ireturn rfl rfl ?_
                exact ⟨_, rfl, Fs36, trivial⟩
              · refine wa_iload_n (i := 2) rfl rfl ?_
                refine wa_if_eq o_X0_countAll_177 (by decide) (fun h41 => ?_) (fun h41 => ?_)
                · replace h41 := bI_f (b := l2) (rfl) h41
                  refine wa_aload_n (i := 0) rfl rfl ?_
                  refine wa_getr ck_0 fl_0_28 ly_41 rf_41_7 ?_
                  refine wa_iconst (v := 0) (by decide) ?_
                  refine wa_lald ly_47 (by ((try simp only [vp_in_iff, Int32.lt_iff_toInt_lt, Int32.le_iff_toInt_le, ← Int32.toInt_inj, Int32.reduceToInt, n_1, n_2, n_8, Int32.toNatClampNeg, Int64.lt_iff_toInt_lt, Int64.le_iff_toInt_le, ← Int64.toInt_inj, Int64.reduceToInt, Int32.toInt_toInt64, lg_cmp_ge, lg_cmp_le, lg_cmp_gt, lg_cmp_lt, lg_cmp_eq, Bool.false_eq_true, Bool.true_eq_false, reduceCtorEq, false_iff, true_iff, iff_true, iff_false, and_true, true_and, and_false, false_and, reduceIte, ite_true, ite_false, eq_self] at *)) <;> omega) ?_
                  refine wa_l2i ?_
                  refine wa_top (fun v42 hv42 => ?_)
                  clear hv42
                  refine wa_ireturn rfl rfl ?_
                  exact ⟨_, rfl, Fs36, trivial⟩
                · replace h41 := bI_t (b := l2) (rfl) h41
                  refine wa_iconst (v := 0) (by decide) ?_
                  refine wa_istore_nD (lv' := [(2, .int (bI false)), (0, .ref 41), (1, .int a0), (3, .int l3)]) (i := 2) rfl (by decide) rfl ?_
                  refine wa_iconst (v := 0) (by decide) ?_
                  refine wa_istoreD (lv' := [(4, .int 0), (2, .int (bI false)), (0, .ref 41), (1, .int a0), (3, .int l3)]) (by decide) rfl ?_
                  refine wa_pick [2, 3, 1, 4, 0] rfl ?_
                  have hi45 : ∀ (n9_54 : Nat) (l2 : Bool) (l4 : Int32) (s43 : St), ((Sm 47 49 σ s43) ∧ (gi s43 31 12 = gi σ 31 12) ∧ (0 ≤ l4.toInt) ∧ (True)) → (2147483647 - l4.toInt).toNat = n9_54 → WA G M_X0_countAll (ZM G M_X0_countAll d (fun r σ' => ∃ x : Int32, r = some (.int x) ∧ Sm 47 49 σ σ' ∧ True)) B_X0_countAll_54 [(0, .ref 41), (1, .int a0), (2, .int (bI l2)), (3, .int l3), (4, .int l4)] [] s43 := by
                    intro n9_54
                    induction n9_54 using Nat.strongRecOn with
                    | _ n9_54 ih44 =>
                      intro l2 l4 s43 i9 m9_54
                      obtain ⟨Fs43, khi45_0, jhi45_0, -⟩ := i9
                      have ul4 := Int32.toInt_lt l4
                      have wl4 := Int32.le_toInt l4
                      refine wa_iload rfl ?_
                      refine wa_iload_n (i := 1) rfl rfl ?_
                      refine wa_icmp_ge o_X0_countAll_151 (by decide) (fun h46 => ?_) (fun h46 => ?_)
                      · refine wa_aload_n (i := 0) rfl rfl ?_
                        refine wa_getr ck_0 fl_0_31 ly_41 rf_41_8 ?_
                        refine wa_iconst (v := 0) (by decide) ?_
                        refine wa_aload_n (i := 0) rfl rfl ?_
                        refine wa_getr ck_0 fl_0_28 ly_41 rf_41_7 ?_
                        refine wa_iconst (v := 0) (by decide) ?_
                        refine wa_iload_n (i := 1) rfl rfl ?_
                        refine wa_sipush (v := 3000) (by decide) ?_
                        refine wa_minI zs (allW_in (kT_6 _ (List.mem_of_getElem? (i := 170) rfl)) rfl) (Nat.le_of_ble_eq_true rfl) ?_
                        refine wa_top (fun v47 hv47 => ?_)
                        have tv47 := i_minI hv47
                        clear hv47
                        refine wa_copyL zs ly_48 ly_47 (allW_in (kT_7 _ (List.mem_of_getElem? (i := 22) rfl)) rfl) (by ((try simp only [vp_in_iff, Int32.lt_iff_toInt_lt, Int32.le_iff_toInt_le, ← Int32.toInt_inj, Int32.reduceToInt, n_1, n_2, n_8, Int32.toNatClampNeg, Int64.lt_iff_toInt_lt, Int64.le_iff_toInt_le, ← Int64.toInt_inj, Int64.reduceToInt, Int32.toInt_toInt64, lg_cmp_ge, lg_cmp_le, lg_cmp_gt, lg_cmp_lt, lg_cmp_eq, Bool.false_eq_true, Bool.true_eq_false, reduceCtorEq, false_iff, true_iff, iff_true, iff_false, and_true, true_and, and_false, false_and, reduceIte, ite_true, ite_false, eq_self] at *)) <;> omega) (by ((try simp only [vp_in_iff, Int32.lt_iff_toInt_lt, Int32.le_iff_toInt_le, ← Int32.toInt_inj, Int32.reduceToInt, n_1, n_2, n_8, Int32.toNatClampNeg, Int64.lt_iff_toInt_lt, Int64.le_iff_toInt_le, ← Int64.toInt_inj, Int64.reduceToInt, Int32.toInt_toInt64, lg_cmp_ge, lg_cmp_le, lg_cmp_gt, lg_cmp_lt, lg_cmp_eq, Bool.false_eq_true, Bool.true_eq_false, reduceCtorEq, false_iff, true_iff, iff_true, iff_false, and_true, true_and, and_false, false_and, reduceIte, ite_true, ite_false, eq_self] at *)) <;> omega) (by ((try simp only [vp_in_iff, Int32.lt_iff_toInt_lt, Int32.le_iff_toInt_le, ← Int32.toInt_inj, Int32.reduceToInt, n_1, n_2, n_8, Int32.toNatClampNeg, Int64.lt_iff_toInt_lt, Int64.le_iff_toInt_le, ← Int64.toInt_inj, Int64.reduceToInt, Int32.toInt_toInt64, lg_cmp_ge, lg_cmp_le, lg_cmp_gt, lg_cmp_lt, lg_cmp_eq, Bool.false_eq_true, Bool.true_eq_false, reduceCtorEq, false_iff, true_iff, iff_true, iff_false, and_true, true_and, and_false, false_and, reduceIte, ite_true, ite_false, eq_self] at *)) <;> omega) (by ((try simp only [vp_in_iff, Int32.lt_iff_toInt_lt, Int32.le_iff_toInt_le, ← Int32.toInt_inj, Int32.reduceToInt, n_1, n_2, n_8, Int32.toNatClampNeg, Int64.lt_iff_toInt_lt, Int64.le_iff_toInt_le, ← Int64.toInt_inj, Int64.reduceToInt, Int32.toInt_toInt64, lg_cmp_ge, lg_cmp_le, lg_cmp_gt, lg_cmp_lt, lg_cmp_eq, Bool.false_eq_true, Bool.true_eq_false, reduceCtorEq, false_iff, true_iff, iff_true, iff_false, and_true, true_and, and_false, false_and, reduceIte, ite_true, ite_false, eq_self] at *)) <;> omega) (by ((try simp only [vp_in_iff, Int32.lt_iff_toInt_lt, Int32.le_iff_toInt_le, ← Int32.toInt_inj, Int32.reduceToInt, n_1, n_2, n_8, Int32.toNatClampNeg, Int64.lt_iff_toInt_lt, Int64.le_iff_toInt_le, ← Int64.toInt_inj, Int64.reduceToInt, Int32.toInt_toInt64, lg_cmp_ge, lg_cmp_le, lg_cmp_gt, lg_cmp_lt, lg_cmp_eq, Bool.false_eq_true, Bool.true_eq_false, reduceCtorEq, false_iff, true_iff, iff_true, iff_false, and_true, true_and, and_false, false_and, reduceIte, ite_true, ite_false, eq_self] at *)) <;> omega) (Nat.le_of_ble_eq_true rfl) (fun s48 hs48 => ?_)
                        have Fs48 : Sm 47 49 σ s48 := by rw [hs48]; exact Sm.rl Fs43 _ (by decide) (by decide)
                        refine wa_iinc (v := (1)) (lv' := fun y49 => [(3, .int y49), (0, .ref 41), (1, .int a0), (2, .int (bI l2)), (4, .int l4)]) (by decide) rfl (by decide) (fun _ => rfl) (fun y49 hy49 => ?_)
                        have ty49 := i_addT hy49.symm
                        clear hy49
                        refine wa_goto o_X0_countAll_40 (by decide) ?_
                        refine wa_pick [1, 2, 3, 0] rfl ?_
                        exact ih37 _ (by ((try simp only [vp_in_iff, Int32.lt_iff_toInt_lt, Int32.le_iff_toInt_le, ← Int32.toInt_inj, Int32.reduceToInt, n_1, n_2, n_8, Int32.toNatClampNeg, Int64.lt_iff_toInt_lt, Int64.le_iff_toInt_le, ← Int64.toInt_inj, Int64.reduceToInt, Int32.toInt_toInt64, lg_cmp_ge, lg_cmp_le, lg_cmp_gt, lg_cmp_lt, lg_cmp_eq, Bool.false_eq_true, Bool.true_eq_false, reduceCtorEq, false_iff, true_iff, iff_true, iff_false, and_true, true_and, and_false, false_and, reduceIte, ite_true, ite_false, eq_self] at *)) <;> omega) _ _ _ ⟨Fs48, ((nx_gi_rl hs48).trans (khi45_0)), (by ((try simp only [vp_in_iff, Int32.lt_iff_toInt_lt, Int32.le_iff_toInt_le, ← Int32.toInt_inj, Int32.reduceToInt, n_1, n_2, n_8, Int32.toNatClampNeg, Int64.lt_iff_toInt_lt, Int64.le_iff_toInt_le, ← Int64.toInt_inj, Int64.reduceToInt, Int32.toInt_toInt64, lg_cmp_ge, lg_cmp_le, lg_cmp_gt, lg_cmp_lt, lg_cmp_eq, Bool.false_eq_true, Bool.true_eq_false, reduceCtorEq, false_iff, true_iff, iff_true, iff_false, and_true, true_and, and_false, false_and, reduceIte, ite_true, ite_false, eq_self] at *)) <;> omega), trivial⟩ rfl
                      · have mh46 := nle_mx h46
                        refine wa_lconst (v := 0) (by decide) ?_
                        refine wa_lstoreD (lv' := [(5, .long 0), (0, .ref 41), (1, .int a0), (2, .int (bI l2)), (3, .int l3), (4, .int l4)]) (by decide) rfl ?_
                        refine wa_iconst (v := 0) (by decide) ?_
                        refine wa_istoreD (lv' := [(7, .int 0), (5, .long 0), (0, .ref 41), (1, .int a0), (2, .int (bI l2)), (3, .int l3), (4, .int l4)]) (by decide) rfl ?_
                        refine wa_pick [2, 3, 4, 5, 6, 1, 0] rfl ?_
                        have hi52 : ∀ (n9_66 : Nat) (l5 : Int64) (l7 : Int32) (s50 : St), ((Sm 47 49 σ s50) ∧ (gi s50 31 12 = gi σ 31 12) ∧ (0 ≤ l7.toInt) ∧ (True)) → (2147483647 - l7.toInt).toNat = n9_66 → WA G M_X0_countAll (ZM G M_X0_countAll d (fun r σ' => ∃ x : Int32, r = some (.int x) ∧ Sm 47 49 σ σ' ∧ True)) B_X0_countAll_66 [(0, .ref 41), (1, .int a0), (2, .int (bI l2)), (3, .int l3), (4, .int l4), (5, .long l5), (7, .int l7)] [] s50 := by
                          intro n9_66
                          induction n9_66 using Nat.strongRecOn with
                          | _ n9_66 ih51 =>
                            intro l5 l7 s50 i9 m9_66
                            obtain ⟨Fs50, khi52_0, jhi52_0, -⟩ := i9
                            have ul7 := Int32.toInt_lt l7
                            have wl7 := Int32.le_toInt l7
                            refine wa_iload rfl ?_
                            refine wa_aload_n (i := 0) rfl rfl ?_
                            refine wa_getr ck_0 fl_0_48 ly_41 rf_41_1 ?_
                            refine wa_geti ck_6 fl_0_92 ly_31 ?_
                            refine wa_rw (khi52_0) ?_
                            refine wa_icmp_ge o_X0_countAll_104 (by decide) (fun h53 => ?_) (fun h53 => ?_)
                            · refine wa_aload_n (i := 0) rfl rfl ?_
                              refine wa_getr ck_0 fl_0_31 ly_41 rf_41_8 ?_
                              refine wa_iload rfl ?_
                              refine wa_lload rfl ?_
                              refine wa_ldc2 (v := (1000000000)) (allW_in (kT_7 _ (List.mem_of_getElem? (i := 46) rfl)) rfl) ?_
                              refine wa_minL zs (allW_in (kT_7 _ (List.mem_of_getElem? (i := 47) rfl)) rfl) (Nat.le_of_ble_eq_true rfl) ?_
                              refine wa_topl (fun v54 hv54 => ?_)
                              have tv54 := i_minL hv54
                              clear hv54
                              refine wa_last ly_48 (by ((try simp only [vp_in_iff, Int32.lt_iff_toInt_lt, Int32.le_iff_toInt_le, ← Int32.toInt_inj, Int32.reduceToInt, n_1, n_2, n_8, Int32.toNatClampNeg, Int64.lt_iff_toInt_lt, Int64.le_iff_toInt_le, ← Int64.toInt_inj, Int64.reduceToInt, Int32.toInt_toInt64, lg_cmp_ge, lg_cmp_le, lg_cmp_gt, lg_cmp_lt, lg_cmp_eq, Bool.false_eq_true, Bool.true_eq_false, reduceCtorEq, false_iff, true_iff, iff_true, iff_false, and_true, true_and, and_false, false_and, reduceIte, ite_true, ite_false, eq_self] at *)) <;> omega) (fun s55 hs55 => ?_)
                              have Fs55 : Sm 47 49 σ s55 := by rw [hs55]; exact Sm.sl Fs50 _ _ (by decide) (by decide)
                              refine wa_iload_n (i := 2) rfl rfl ?_
                              refine wa_aload_n (i := 0) rfl rfl ?_
                              refine wa_getr ck_0 fl_0_31 ly_41 rf_41_8 ?_
                              refine wa_iload rfl ?_
                              refine wa_lald ly_48 (by ((try simp only [vp_in_iff, Int32.lt_iff_toInt_lt, Int32.le_iff_toInt_le, ← Int32.toInt_inj, Int32.reduceToInt, n_1, n_2, n_8, Int32.toNatClampNeg, Int64.lt_iff_toInt_lt, Int64.le_iff_toInt_le, ← Int64.toInt_inj, Int64.reduceToInt, Int32.toInt_toInt64, lg_cmp_ge, lg_cmp_le, lg_cmp_gt, lg_cmp_lt, lg_cmp_eq, Bool.false_eq_true, Bool.true_eq_false, reduceCtorEq, false_iff, true_iff, iff_true, iff_false, and_true, true_and, and_false, false_and, reduceIte, ite_true, ite_false, eq_self] at *)) <;> omega) ?_
                              refine wa_aload_n (i := 0) rfl rfl ?_
                              refine wa_getr ck_0 fl_0_28 ly_41 rf_41_7 ?_
                              refine wa_iload rfl ?_
                              refine wa_lald ly_47 (by ((try simp only [vp_in_iff, Int32.lt_iff_toInt_lt, Int32.le_iff_toInt_le, ← Int32.toInt_inj, Int32.reduceToInt, n_1, n_2, n_8, Int32.toNatClampNeg, Int64.lt_iff_toInt_lt, Int64.le_iff_toInt_le, ← Int64.toInt_inj, Int64.reduceToInt, Int32.toInt_toInt64, lg_cmp_ge, lg_cmp_le, lg_cmp_gt, lg_cmp_lt, lg_cmp_eq, Bool.false_eq_true, Bool.true_eq_false, reduceCtorEq, false_iff, true_iff, iff_true, iff_false, and_true, true_and, and_false, false_and, reduceIte, ite_true, ite_false, eq_self] at *)) <;> omega) ?_
                              refine wa_lcmp ?_
                              refine wa_top (fun v56 hv56 => ?_)
                              have tv56 := i_cmpT hv56
                              clear hv56
                              refine wa_if_eq o_X0_countAll_142 (by decide) (fun h57 => ?_) (fun h57 => ?_)
                              · refine wa_iconst (v := 0) (by decide) ?_
                                refine wa_ior ?_
                                refine wa_rw (bI_or (a := l2) (b := false) rfl rfl) ?_
                                refine wa_istore_nD (lv' := [(2, .int (bI (l2 || false))), (0, .ref 41), (1, .int a0), (3, .int l3), (4, .int l4), (5, .long l5), (7, .int l7)]) (i := 2) rfl (by decide) rfl ?_
                                refine wa_iinc (v := (1)) (lv' := fun y58 => [(4, .int y58), (2, .int (bI (l2 || false))), (0, .ref 41), (1, .int a0), (3, .int l3), (5, .long l5), (7, .int l7)]) (by decide) rfl (by decide) (fun _ => rfl) (fun y58 hy58 => ?_)
                                have ty58 := i_addT hy58.symm
                                clear hy58
                                refine wa_goto o_X0_countAll_54 (by decide) ?_
                                refine wa_pick [2, 3, 1, 4, 0] rfl ?_
                                exact ih44 _ (by ((try simp only [vp_in_iff, Int32.lt_iff_toInt_lt, Int32.le_iff_toInt_le, ← Int32.toInt_inj, Int32.reduceToInt, n_1, n_2, n_8, Int32.toNatClampNeg, Int64.lt_iff_toInt_lt, Int64.le_iff_toInt_le, ← Int64.toInt_inj, Int64.reduceToInt, Int32.toInt_toInt64, lg_cmp_ge, lg_cmp_le, lg_cmp_gt, lg_cmp_lt, lg_cmp_eq, Bool.false_eq_true, Bool.true_eq_false, reduceCtorEq, false_iff, true_iff, iff_true, iff_false, and_true, true_and, and_false, false_and, reduceIte, ite_true, ite_false, eq_self] at *)) <;> omega) _ _ _ ⟨Fs55, ((nx_gi_sl hs55).trans (khi52_0)), (by ((try simp only [vp_in_iff, Int32.lt_iff_toInt_lt, Int32.le_iff_toInt_le, ← Int32.toInt_inj, Int32.reduceToInt, n_1, n_2, n_8, Int32.toNatClampNeg, Int64.lt_iff_toInt_lt, Int64.le_iff_toInt_le, ← Int64.toInt_inj, Int64.reduceToInt, Int32.toInt_toInt64, lg_cmp_ge, lg_cmp_le, lg_cmp_gt, lg_cmp_lt, lg_cmp_eq, Bool.false_eq_true, Bool.true_eq_false, reduceCtorEq, false_iff, true_iff, iff_true, iff_false, and_true, true_and, and_false, false_and, reduceIte, ite_true, ite_false, eq_self] at *)) <;> omega), trivial⟩ rfl
                              · refine wa_iconst (v := 1) (by decide) ?_
                                refine wa_goto o_X0_countAll_143 (by decide) ?_
                                refine wa_ior ?_
                                refine wa_rw (bI_or (a := l2) (b := true) rfl rfl) ?_
                                refine wa_istore_nD (lv' := [(2, .int (bI (l2 || true))), (0, .ref 41), (1, .int a0), (3, .int l3), (4, .int l4), (5, .long l5), (7, .int l7)]) (i := 2) rfl (by decide) rfl ?_
                                refine wa_iinc (v := (1)) (lv' := fun y59 => [(4, .int y59), (2, .int (bI (l2 || true))), (0, .ref 41), (1, .int a0), (3, .int l3), (5, .long l5), (7, .int l7)]) (by decide) rfl (by decide) (fun _ => rfl) (fun y59 hy59 => ?_)
                                have ty59 := i_addT hy59.symm
                                clear hy59
                                refine wa_goto o_X0_countAll_54 (by decide) ?_
                                refine wa_pick [2, 3, 1, 4, 0] rfl ?_
                                exact ih44 _ (by ((try simp only [vp_in_iff, Int32.lt_iff_toInt_lt, Int32.le_iff_toInt_le, ← Int32.toInt_inj, Int32.reduceToInt, n_1, n_2, n_8, Int32.toNatClampNeg, Int64.lt_iff_toInt_lt, Int64.le_iff_toInt_le, ← Int64.toInt_inj, Int64.reduceToInt, Int32.toInt_toInt64, lg_cmp_ge, lg_cmp_le, lg_cmp_gt, lg_cmp_lt, lg_cmp_eq, Bool.false_eq_true, Bool.true_eq_false, reduceCtorEq, false_iff, true_iff, iff_true, iff_false, and_true, true_and, and_false, false_and, reduceIte, ite_true, ite_false, eq_self] at *)) <;> omega) _ _ _ ⟨Fs55, ((nx_gi_sl hs55).trans (khi52_0)), (by ((try simp only [vp_in_iff, Int32.lt_iff_toInt_lt, Int32.le_iff_toInt_le, ← Int32.toInt_inj, Int32.reduceToInt, n_1, n_2, n_8, Int32.toNatClampNeg, Int64.lt_iff_toInt_lt, Int64.le_iff_toInt_le, ← Int64.toInt_inj, Int64.reduceToInt, Int32.toInt_toInt64, lg_cmp_ge, lg_cmp_le, lg_cmp_gt, lg_cmp_lt, lg_cmp_eq, Bool.false_eq_true, Bool.true_eq_false, reduceCtorEq, false_iff, true_iff, iff_true, iff_false, and_true, true_and, and_false, false_and, reduceIte, ite_true, ite_false, eq_self] at *)) <;> omega), trivial⟩ rfl
                            · have mh53 := nle_mx h53
                              refine wa_lload rfl ?_
                              refine wa_aload_n (i := 0) rfl rfl ?_
                              refine wa_aload_n (i := 0) rfl rfl ?_
                              refine wa_getr ck_0 fl_0_48 ly_41 rf_41_1 ?_
                              refine wa_iload rfl ?_
                              refine wa_iload rfl ?_
                              refine wa_Vi (d9 := d - 1) [.int _, .int _] [.ref 41, .long l5] (sp_X6_behind G (d := d - 1) (by omega) s50 _ _) (rfl) rfl rfl (zr (by omega)) mk_X6_behind ly_31 ml_0_95 (Nat.le_of_ble_eq_true rfl) (fun x61 s60 hs60 => ?_)
                              obtain ⟨zs60, -⟩ := pI hs60
                              subst zs60
                              refine wa_Vl (d9 := d - 1) [.int _] [.long l5] (sp_X0_gainFrom G (d := d - 1) (by omega) s50 _) (rfl) rfl rfl (zr (by omega)) mk_X0_gainFrom ly_41 ml_0_138 (Nat.le_of_ble_eq_true rfl) (fun x63 s62 hs62 => ?_)
                              obtain ⟨zs62, -⟩ := pL hs62
                              subst zs62
                              refine wa_ladd ?_
                              refine wa_topl (fun v64 hv64 => ?_)
                              clear hv64
                              refine wa_lstoreD (lv' := [(5, .long v64), (0, .ref 41), (1, .int a0), (2, .int (bI l2)), (3, .int l3), (4, .int l4), (7, .int l7)]) (by decide) rfl ?_
                              refine wa_iinc (v := (1)) (lv' := fun y65 => [(7, .int y65), (5, .long v64), (0, .ref 41), (1, .int a0), (2, .int (bI l2)), (3, .int l3), (4, .int l4)]) (by decide) rfl (by decide) (fun _ => rfl) (fun y65 hy65 => ?_)
                              have ty65 := i_addT hy65.symm
                              clear hy65
                              refine wa_goto o_X0_countAll_66 (by decide) ?_
                              refine wa_pick [2, 3, 4, 5, 6, 1, 0] rfl ?_
                              exact ih51 _ (by ((try simp only [vp_in_iff, Int32.lt_iff_toInt_lt, Int32.le_iff_toInt_le, ← Int32.toInt_inj, Int32.reduceToInt, n_1, n_2, n_8, Int32.toNatClampNeg, Int64.lt_iff_toInt_lt, Int64.le_iff_toInt_le, ← Int64.toInt_inj, Int64.reduceToInt, Int32.toInt_toInt64, lg_cmp_ge, lg_cmp_le, lg_cmp_gt, lg_cmp_lt, lg_cmp_eq, Bool.false_eq_true, Bool.true_eq_false, reduceCtorEq, false_iff, true_iff, iff_true, iff_false, and_true, true_and, and_false, false_and, reduceIte, ite_true, ite_false, eq_self] at *)) <;> omega) _ _ _ ⟨Fs50, (khi52_0), (by ((try simp only [vp_in_iff, Int32.lt_iff_toInt_lt, Int32.le_iff_toInt_le, ← Int32.toInt_inj, Int32.reduceToInt, n_1, n_2, n_8, Int32.toNatClampNeg, Int64.lt_iff_toInt_lt, Int64.le_iff_toInt_le, ← Int64.toInt_inj, Int64.reduceToInt, Int32.toInt_toInt64, lg_cmp_ge, lg_cmp_le, lg_cmp_gt, lg_cmp_lt, lg_cmp_eq, Bool.false_eq_true, Bool.true_eq_false, reduceCtorEq, false_iff, true_iff, iff_true, iff_false, and_true, true_and, and_false, false_and, reduceIte, ite_true, ite_false, eq_self] at *)) <;> omega), trivial⟩ rfl
                        exact hi52 _ _ _ _ ⟨Fs43, (khi45_0), (by ((try simp only [vp_in_iff, Int32.lt_iff_toInt_lt, Int32.le_iff_toInt_le, ← Int32.toInt_inj, Int32.reduceToInt, n_1, n_2, n_8, Int32.toNatClampNeg, Int64.lt_iff_toInt_lt, Int64.le_iff_toInt_le, ← Int64.toInt_inj, Int64.reduceToInt, Int32.toInt_toInt64, lg_cmp_ge, lg_cmp_le, lg_cmp_gt, lg_cmp_lt, lg_cmp_eq, Bool.false_eq_true, Bool.true_eq_false, reduceCtorEq, false_iff, true_iff, iff_true, iff_false, and_true, true_and, and_false, false_and, reduceIte, ite_true, ite_false, eq_self] at *)) <;> omega), trivial⟩ rfl
                  exact hi45 _ _ _ _ ⟨Fs36, (khi38_0), (by ((try simp only [vp_in_iff, Int32.lt_iff_toInt_lt, Int32.le_iff_toInt_le, ← Int32.toInt_inj, Int32.reduceToInt, n_1, n_2, n_8, Int32.toNatClampNeg, Int64.lt_iff_toInt_lt, Int64.le_iff_toInt_le, ← Int64.toInt_inj, Int64.reduceToInt, Int32.toInt_toInt64, lg_cmp_ge, lg_cmp_le, lg_cmp_gt, lg_cmp_lt, lg_cmp_eq, Bool.false_eq_true, Bool.true_eq_false, reduceCtorEq, false_iff, true_iff, iff_true, iff_false, and_true, true_and, and_false, false_and, reduceIte, ite_true, ite_false, eq_self] at *)) <;> omega), trivial⟩ rfl
          exact hi38 _ _ _ _ ⟨Fs1, (khi3_0), (by ((try simp only [vp_in_iff, Int32.lt_iff_toInt_lt, Int32.le_iff_toInt_le, ← Int32.toInt_inj, Int32.reduceToInt, n_1, n_2, n_8, Int32.toNatClampNeg, Int64.lt_iff_toInt_lt, Int64.le_iff_toInt_le, ← Int64.toInt_inj, Int64.reduceToInt, Int32.toInt_toInt64, lg_cmp_ge, lg_cmp_le, lg_cmp_gt, lg_cmp_lt, lg_cmp_eq, Bool.false_eq_true, Bool.true_eq_false, reduceCtorEq, false_iff, true_iff, iff_true, iff_false, and_true, true_and, and_false, false_and, reduceIte, ite_true, ite_false, eq_self] at *)) <;> omega), trivial⟩ rfl
        · have mh35 := nle_mx h35
          refine wa_aload_n (i := 0) rfl rfl ?_
          refine wa_getr ck_0 fl_0_28 ly_41 rf_41_7 ?_
          refine wa_iload_n (i := 2) rfl rfl ?_
          refine wa_aload_n (i := 0) rfl rfl ?_
          refine wa_getr ck_0 fl_0_22 ly_41 rf_41_5 ?_
          refine wa_iload_n (i := 2) rfl rfl ?_
          refine wa_iald ly_45 (by ((try simp only [vp_in_iff, Int32.lt_iff_toInt_lt, Int32.le_iff_toInt_le, ← Int32.toInt_inj, Int32.reduceToInt, n_1, n_2, n_8, Int32.toNatClampNeg, Int64.lt_iff_toInt_lt, Int64.le_iff_toInt_le, ← Int64.toInt_inj, Int64.reduceToInt, Int32.toInt_toInt64, lg_cmp_ge, lg_cmp_le, lg_cmp_gt, lg_cmp_lt, lg_cmp_eq, Bool.false_eq_true, Bool.true_eq_false, reduceCtorEq, false_iff, true_iff, iff_true, iff_false, and_true, true_and, and_false, false_and, reduceIte, ite_true, ite_false, eq_self] at *)) <;> omega) ?_
          refine wa_Si (d9 := d - 1) [.int _] [.int l2, .ref 47] (sp_J6_bitCount_0f7a4 G (d := d - 1) (by omega) s1 _) (rfl) rfl rfl (zr (by omega)) mk_J6_bitCount_0f7a4 ml_0_158 (Nat.le_of_ble_eq_true rfl) (fun x67 s66 hs66 => ?_)
          obtain ⟨zs66, -⟩ := pI hs66
          subst zs66
          refine wa_i2l ?_
          refine wa_last ly_47 (by ((try simp only [vp_in_iff, Int32.lt_iff_toInt_lt, Int32.le_iff_toInt_le, ← Int32.toInt_inj, Int32.reduceToInt, n_1, n_2, n_8, Int32.toNatClampNeg, Int64.lt_iff_toInt_lt, Int64.le_iff_toInt_le, ← Int64.toInt_inj, Int64.reduceToInt, Int32.toInt_toInt64, lg_cmp_ge, lg_cmp_le, lg_cmp_gt, lg_cmp_lt, lg_cmp_eq, Bool.false_eq_true, Bool.true_eq_false, reduceCtorEq, false_iff, true_iff, iff_true, iff_false, and_true, true_and, and_false, false_and, reduceIte, ite_true, ite_false, eq_self] at *)) <;> omega) (fun s68 hs68 => ?_)
          have Fs68 : Sm 47 49 σ s68 := by rw [hs68]; exact Sm.sl Fs1 _ _ (by decide) (by decide)
          refine wa_iinc (v := (1)) (lv' := fun y69 => [(2, .int y69), (0, .ref 41), (1, .int a0)]) (by decide) rfl (by decide) (fun _ => rfl) (fun y69 hy69 => ?_)
          have ty69 := i_addT hy69.symm
          clear hy69
          refine wa_goto o_X0_countAll_2 (by decide) ?_
          refine wa_pick [1, 2, 0] rfl ?_
          exact ih2 _ (by ((try simp only [vp_in_iff, Int32.lt_iff_toInt_lt, Int32.le_iff_toInt_le, ← Int32.toInt_inj, Int32.reduceToInt, n_1, n_2, n_8, Int32.toNatClampNeg, Int64.lt_iff_toInt_lt, Int64.le_iff_toInt_le, ← Int64.toInt_inj, Int64.reduceToInt, Int32.toInt_toInt64, lg_cmp_ge, lg_cmp_le, lg_cmp_gt, lg_cmp_lt, lg_cmp_eq, Bool.false_eq_true, Bool.true_eq_false, reduceCtorEq, false_iff, true_iff, iff_true, iff_false, and_true, true_and, and_false, false_and, reduceIte, ite_true, ite_false, eq_self] at *)) <;> omega) _ _ ⟨Fs68, ((nx_gi_sl hs68).trans (khi3_0)), (by ((try simp only [vp_in_iff, Int32.lt_iff_toInt_lt, Int32.le_iff_toInt_le, ← Int32.toInt_inj, Int32.reduceToInt, n_1, n_2, n_8, Int32.toNatClampNeg, Int64.lt_iff_toInt_lt, Int64.le_iff_toInt_le, ← Int64.toInt_inj, Int64.reduceToInt, Int32.toInt_toInt64, lg_cmp_ge, lg_cmp_le, lg_cmp_gt, lg_cmp_lt, lg_cmp_eq, Bool.false_eq_true, Bool.true_eq_false, reduceCtorEq, false_iff, true_iff, iff_true, iff_false, and_true, true_and, and_false, false_and, reduceIte, ite_true, ite_false, eq_self] at *)) <;> omega), trivial⟩ rfl
  exact hi3 _ _ _ ⟨(Sm.rf 47 49 σ), (rfl), (by ((try simp only [vp_in_iff, Int32.lt_iff_toInt_lt, Int32.le_iff_toInt_le, ← Int32.toInt_inj, Int32.reduceToInt, n_1, n_2, n_8, Int32.toNatClampNeg, Int64.lt_iff_toInt_lt, Int64.le_iff_toInt_le, ← Int64.toInt_inj, Int64.reduceToInt, Int32.toInt_toInt64, lg_cmp_ge, lg_cmp_le, lg_cmp_gt, lg_cmp_lt, lg_cmp_eq, Bool.false_eq_true, Bool.true_eq_false, reduceCtorEq, false_iff, true_iff, iff_true, iff_false, and_true, true_and, and_false, false_and, reduceIte, ite_true, ite_false, eq_self] at *)) <;> omega), trivial⟩ rfl
set_option maxHeartbeats 4000000 in
theorem sp_X0_howMany (G : kG9) {d : Nat} (hd : 3 ≤ d) (σ : St) (a0 : Int32) (r1 : 0 ≤ (gi σ 31 13).toInt ∧ (gi σ 31 13).toInt ≤ 3000) : Ct G M_X0_howMany d [.ref 41, .int a0] σ (fun r σ' => ∃ x : Int32, r = some (.int x) ∧ Sm 44 49 σ σ' ∧ True) := by
  refine wa_start (by decide) rfl (Nat.le_of_ble_eq_true rfl) (lv := [(0, .ref 41), (1, .int a0)]) rfl o_X0_howMany_0 rfl ?_
  have ua0 := Int32.toInt_lt a0
  have wa0 := Int32.le_toInt a0
  refine wa_aload_n (i := 0) rfl rfl ?_
  refine wa_iload_n (i := 1) rfl rfl ?_
  refine wa_iconst (v := 0) (by decide) ?_
  refine wa_Vi (d9 := d - 1) [.int _, .int _] [] (sp_X0_findEnds G (d := d - 1) (by omega) σ _ _ (by first | assumption | exact Or.inl rfl | exact Or.inr rfl | (((try simp only [vp_in_iff, Int32.lt_iff_toInt_lt, Int32.le_iff_toInt_le, ← Int32.toInt_inj, Int32.reduceToInt, n_1, n_2, n_8, Int32.toNatClampNeg, Int64.lt_iff_toInt_lt, Int64.le_iff_toInt_le, ← Int64.toInt_inj, Int64.reduceToInt, Int32.toInt_toInt64, lg_cmp_ge, lg_cmp_le, lg_cmp_gt, lg_cmp_lt, lg_cmp_eq, Bool.false_eq_true, Bool.true_eq_false, reduceCtorEq, false_iff, true_iff, iff_true, iff_false, and_true, true_and, and_false, false_and, reduceIte, ite_true, ite_false, eq_self] at *)) <;> omega))) (rfl) rfl rfl (zr (by omega)) mk_X0_findEnds ly_41 ml_0_82 (Nat.le_of_ble_eq_true rfl) (fun x2 s1 hs1 => ?_)
  obtain ⟨fs1, cx2_1, cx2_2, -⟩ := pI hs1
  have Fs1 := Sm.tr (Sm.rf 44 49 σ) (Sm.wd fs1 (lo' := 44) (hi' := 49) (by decide) (by decide))
  refine wa_istore_nD (lv' := [(2, .int x2), (0, .ref 41), (1, .int a0)]) (i := 2) rfl (by decide) rfl ?_
  refine wa_iconst (v := 0) (by decide) ?_
  refine wa_istore_nD (lv' := [(3, .int 0), (2, .int x2), (0, .ref 41), (1, .int a0)]) (i := 3) rfl (by decide) rfl ?_
  refine wa_pick [2, 1, 0] rfl ?_
  have hi5 : ∀ (n9_9 : Nat) (l3 : Int32) (s3 : St), ((Sm 44 49 σ s3) ∧ (gi s3 31 13 = gi σ 31 13) ∧ (gi s3 31 12 = gi σ 31 12) ∧ (0 ≤ l3.toInt) ∧ (True)) → (2147483647 - l3.toInt).toNat = n9_9 → WA G M_X0_howMany (ZM G M_X0_howMany d (fun r σ' => ∃ x : Int32, r = some (.int x) ∧ Sm 44 49 σ σ' ∧ True)) B_X0_howMany_9 [(0, .ref 41), (2, .int x2), (3, .int l3)] [] s3 := by
    intro n9_9
    induction n9_9 using Nat.strongRecOn with
    | _ n9_9 ih4 =>
      intro l3 s3 i9 m9_9
      obtain ⟨Fs3, khi5_0, khi5_1, jhi5_0, -⟩ := i9
      have ul3 := Int32.toInt_lt l3
      have wl3 := Int32.le_toInt l3
      refine wa_iload_n (i := 3) rfl rfl ?_
      refine wa_iload_n (i := 2) rfl rfl ?_
      refine wa_icmp_ge o_X0_howMany_86 (by decide) (fun h6 => ?_) (fun h6 => ?_)
      · refine wa_iconst (v := 1) (by decide) ?_
        refine wa_istore_nD (lv' := [(3, .int (bI true)), (0, .ref 41), (2, .int x2)]) (i := 3) rfl (by decide) rfl ?_
        refine wa_iconst (v := 0) (by decide) ?_
        refine wa_istoreD (lv' := [(4, .int 0), (3, .int (bI true)), (0, .ref 41), (2, .int x2)]) (by decide) rfl ?_
        refine wa_pick [2, 3, 1, 0] rfl ?_
        have hi9 : ∀ (n9_91 : Nat) (l3 : Bool) (l4 : Int32) (s7 : St), ((Sm 44 49 σ s7) ∧ (gi s7 31 13 = gi σ 31 13) ∧ (gi s7 31 12 = gi σ 31 12) ∧ (0 ≤ l4.toInt) ∧ (True)) → (2147483647 - l4.toInt).toNat = n9_91 → WA G M_X0_howMany (ZM G M_X0_howMany d (fun r σ' => ∃ x : Int32, r = some (.int x) ∧ Sm 44 49 σ σ' ∧ True)) B_X0_howMany_91 [(0, .ref 41), (2, .int x2), (3, .int (bI l3)), (4, .int l4)] [] s7 := by
          intro n9_91
          induction n9_91 using Nat.strongRecOn with
          | _ n9_91 ih8 =>
            intro l3 l4 s7 i9 m9_91
            obtain ⟨Fs7, khi9_0, khi9_1, jhi9_0, -⟩ := i9
            have ul4 := Int32.toInt_lt l4
            have wl4 := Int32.le_toInt l4
            refine wa_iload rfl ?_
            refine wa_iload_n (i := 2) rfl rfl ?_
            refine wa_icmp_gt o_X0_howMany_114 (by decide) (fun h10 => ?_) (fun h10 => ?_)
            · refine wa_iconst (v := 1) (by decide) ?_
              refine wa_istoreD (lv' := [(4, .int (bI true)), (0, .ref 41), (2, .int x2), (3, .int (bI l3))]) (by decide) rfl ?_
              refine wa_iconst (v := 0) (by decide) ?_
              refine wa_istoreD (lv' := [(5, .int 0), (4, .int (bI true)), (0, .ref 41), (2, .int x2), (3, .int (bI l3))]) (by decide) rfl ?_
              refine wa_pick [2, 3, 1, 0] rfl ?_
              have hi13 : ∀ (n9_120 : Nat) (l4 : Bool) (l5 : Int32) (s11 : St), ((Sm 44 49 σ s11) ∧ (gi s11 31 13 = gi σ 31 13) ∧ (gi s11 31 12 = gi σ 31 12) ∧ (0 ≤ l5.toInt) ∧ (True)) → (2147483647 - l5.toInt).toNat = n9_120 → WA G M_X0_howMany (ZM G M_X0_howMany d (fun r σ' => ∃ x : Int32, r = some (.int x) ∧ Sm 44 49 σ σ' ∧ True)) B_X0_howMany_120 [(0, .ref 41), (2, .int x2), (4, .int (bI l4)), (5, .int l5)] [] s11 := by
                intro n9_120
                induction n9_120 using Nat.strongRecOn with
                | _ n9_120 ih12 =>
                  intro l4 l5 s11 i9 m9_120
                  obtain ⟨Fs11, khi13_0, khi13_1, jhi13_0, -⟩ := i9
                  have ul5 := Int32.toInt_lt l5
                  have wl5 := Int32.le_toInt l5
                  refine wa_iload rfl ?_
                  refine wa_iload_n (i := 2) rfl rfl ?_
                  refine wa_icmp_gt o_X0_howMany_145 (by decide) (fun h14 => ?_) (fun h14 => ?_)
                  · refine wa_iconst (v := 0) (by decide) ?_
                    refine wa_istoreD (lv' := [(5, .int 0), (0, .ref 41), (2, .int x2), (4, .int (bI l4))]) (by decide) rfl ?_
                    refine wa_pick [1, 2, 0] rfl ?_
                    have hi16 : ∀ (n9_148 : Nat) (l5 : Int32), ((0 ≤ l5.toInt) ∧ (True)) → (2147483647 - l5.toInt).toNat = n9_148 → WA G M_X0_howMany (ZM G M_X0_howMany d (fun r σ' => ∃ x : Int32, r = some (.int x) ∧ Sm 44 49 σ σ' ∧ True)) B_X0_howMany_148 [(0, .ref 41), (2, .int x2), (5, .int l5)] [] s11 := by
                      intro n9_148
                      induction n9_148 using Nat.strongRecOn with
                      | _ n9_148 ih15 =>
                        intro l5  i9 m9_148
                        obtain ⟨jhi16_0, -⟩ := i9
                        have ul5 := Int32.toInt_lt l5
                        have wl5 := Int32.le_toInt l5
                        refine wa_iload rfl ?_
                        refine wa_iload_n (i := 2) rfl rfl ?_
                        refine wa_icmp_ge o_X0_howMany_174 (by decide) (fun h17 => ?_) (fun h17 => ?_)
                        · refine wa_aload_n (i := 0) rfl rfl ?_
                          refine wa_iload_n (i := 2) rfl rfl ?_
                          refine wa_Vi (d9 := d - 1) [.int _] [] (sp_X0_countAll G (d := d - 1) (by omega) s11 _ (by ((try simp only [vp_in_iff, Int32.lt_iff_toInt_lt, Int32.le_iff_toInt_le, ← Int32.toInt_inj, Int32.reduceToInt, n_1, n_2, n_8, Int32.toNatClampNeg, Int64.lt_iff_toInt_lt, Int64.le_iff_toInt_le, ← Int64.toInt_inj, Int64.reduceToInt, Int32.toInt_toInt64, lg_cmp_ge, lg_cmp_le, lg_cmp_gt, lg_cmp_lt, lg_cmp_eq, Bool.false_eq_true, Bool.true_eq_false, reduceCtorEq, false_iff, true_iff, iff_true, iff_false, and_true, true_and, and_false, false_and, reduceIte, ite_true, ite_false, eq_self] at *)) <;> omega)) (rfl) rfl rfl (zr (by omega)) mk_X0_countAll ly_41 ml_0_155 (Nat.le_of_ble_eq_true rfl) (fun x19 s18 hs18 => ?_)
                          obtain ⟨fs18, -⟩ := pI hs18
                          have Fs18 := Sm.tr Fs11 (Sm.wd fs18 (lo' := 44) (hi' := 49) (by decide) (by decide))
                          refine wa_ireturn rfl rfl ?_
                          exact ⟨_, rfl, Fs18, trivial⟩
                        · have mh17 := nle_mx h17
                          refine wa_aload_n (i := 0) rfl rfl ?_
                          refine wa_getr ck_0 fl_0_18 ly_41 rf_41_4 ?_
                          refine wa_iload rfl ?_
                          refine wa_iald ly_44 (by ((try simp only [vp_in_iff, Int32.lt_iff_toInt_lt, Int32.le_iff_toInt_le, ← Int32.toInt_inj, Int32.reduceToInt, n_1, n_2, n_8, Int32.toNatClampNeg, Int64.lt_iff_toInt_lt, Int64.le_iff_toInt_le, ← Int64.toInt_inj, Int64.reduceToInt, Int32.toInt_toInt64, lg_cmp_ge, lg_cmp_le, lg_cmp_gt, lg_cmp_lt, lg_cmp_eq, Bool.false_eq_true, Bool.true_eq_false, reduceCtorEq, false_iff, true_iff, iff_true, iff_false, and_true, true_and, and_false, false_and, reduceIte, ite_true, ite_false, eq_self] at *)) <;> omega) ?_
                          refine wa_iconst (v := 1) (by decide) ?_
                          refine wa_icmp_ne o_X0_howMany_168 (by decide) (fun h20 => ?_) (fun h20 => ?_)
                          · refine wa_iinc (v := (1)) (lv' := fun y21 => [(5, .int y21), (0, .ref 41), (2, .int x2)]) (by decide) rfl (by decide) (fun _ => rfl) (fun y21 hy21 => ?_)
                            have ty21 := i_addT hy21.symm
                            clear hy21
                            refine wa_goto o_X0_howMany_148 (by decide) ?_
                            refine wa_pick [1, 2, 0] rfl ?_
                            exact ih15 _ (by ((try simp only [vp_in_iff, Int32.lt_iff_toInt_lt, Int32.le_iff_toInt_le, ← Int32.toInt_inj, Int32.reduceToInt, n_1, n_2, n_8, Int32.toNatClampNeg, Int64.lt_iff_toInt_lt, Int64.le_iff_toInt_le, ← Int64.toInt_inj, Int64.reduceToInt, Int32.toInt_toInt64, lg_cmp_ge, lg_cmp_le, lg_cmp_gt, lg_cmp_lt, lg_cmp_eq, Bool.false_eq_true, Bool.true_eq_false, reduceCtorEq, false_iff, true_iff, iff_true, iff_false, and_true, true_and, and_false, false_and, reduceIte, ite_true, ite_false, eq_self] at *)) <;> omega) _ ⟨(by ((try simp only [vp_in_iff, Int32.lt_iff_toInt_lt, Int32.le_iff_toInt_le, ← Int32.toInt_inj, Int32.reduceToInt, n_1, n_2, n_8, Int32.toNatClampNeg, Int64.lt_iff_toInt_lt, Int64.le_iff_toInt_le, ← Int64.toInt_inj, Int64.reduceToInt, Int32.toInt_toInt64, lg_cmp_ge, lg_cmp_le, lg_cmp_gt, lg_cmp_lt, lg_cmp_eq, Bool.false_eq_true, Bool.true_eq_false, reduceCtorEq, false_iff, true_iff, iff_true, iff_false, and_true, true_and, and_false, false_and, reduceIte, ite_true, ite_false, eq_self] at *)) <;> omega), trivial⟩ rfl
                          · refine wa_bipush (v := (-2)) (by decide) ?_
                            refine wa_ireturn rfl rfl ?_
                            exact ⟨_, rfl, Fs11, trivial⟩
                    exact hi16 _ _ ⟨(by ((try simp only [vp_in_iff, Int32.lt_iff_toInt_lt, Int32.le_iff_toInt_le, ← Int32.toInt_inj, Int32.reduceToInt, n_1, n_2, n_8, Int32.toNatClampNeg, Int64.lt_iff_toInt_lt, Int64.le_iff_toInt_le, ← Int64.toInt_inj, Int64.reduceToInt, Int32.toInt_toInt64, lg_cmp_ge, lg_cmp_le, lg_cmp_gt, lg_cmp_lt, lg_cmp_eq, Bool.false_eq_true, Bool.true_eq_false, reduceCtorEq, false_iff, true_iff, iff_true, iff_false, and_true, true_and, and_false, false_and, reduceIte, ite_true, ite_false, eq_self] at *)) <;> omega), trivial⟩ rfl
                  · refine wa_iload rfl ?_
                    refine wa_if_eq o_X0_howMany_145 (by decide) (fun h22 => ?_) (fun h22 => ?_)
                    · replace h22 := bI_f (b := l4) (rfl) h22
                      refine wa_iconst (v := 0) (by decide) ?_
                      refine wa_istoreD (lv' := [(5, .int 0), (0, .ref 41), (2, .int x2), (4, .int (bI l4))]) (by decide) rfl ?_
                      refine wa_pick [1, 2, 0] rfl ?_
                      have hi24 : ∀ (n9_148 : Nat) (l5 : Int32), ((0 ≤ l5.toInt) ∧ (True)) → (2147483647 - l5.toInt).toNat = n9_148 → WA G M_X0_howMany (ZM G M_X0_howMany d (fun r σ' => ∃ x : Int32, r = some (.int x) ∧ Sm 44 49 σ σ' ∧ True)) B_X0_howMany_148 [(0, .ref 41), (2, .int x2), (5, .int l5)] [] s11 := by
                        intro n9_148
                        induction n9_148 using Nat.strongRecOn with
                        | _ n9_148 ih23 =>
                          intro l5  i9 m9_148
                          obtain ⟨jhi24_0, -⟩ := i9
                          have ul5 := Int32.toInt_lt l5
                          have wl5 := Int32.le_toInt l5
                          refine wa_iload rfl ?_
                          refine wa_iload_n (i := 2) rfl rfl ?_
                          refine wa_icmp_ge o_X0_howMany_174 (by decide) (fun h25 => ?_) (fun h25 => ?_)
                          · refine wa_aload_n (i := 0) rfl rfl ?_
                            refine wa_iload_n (i := 2) rfl rfl ?_
                            refine wa_Vi (d9 := d - 1) [.int _] [] (sp_X0_countAll G (d := d - 1) (by omega) s11 _ (by ((try simp only [vp_in_iff, Int32.lt_iff_toInt_lt, Int32.le_iff_toInt_le, ← Int32.toInt_inj, Int32.reduceToInt, n_1, n_2, n_8, Int32.toNatClampNeg, Int64.lt_iff_toInt_lt, Int64.le_iff_toInt_le, ← Int64.toInt_inj, Int64.reduceToInt, Int32.toInt_toInt64, lg_cmp_ge, lg_cmp_le, lg_cmp_gt, lg_cmp_lt, lg_cmp_eq, Bool.false_eq_true, Bool.true_eq_false, reduceCtorEq, false_iff, true_iff, iff_true, iff_false, and_true, true_and, and_false, false_and, reduceIte, ite_true, ite_false, eq_self] at *)) <;> omega)) (rfl) rfl rfl (zr (by omega)) mk_X0_countAll ly_41 ml_0_155 (Nat.le_of_ble_eq_true rfl) (fun x27 s26 hs26 => ?_)
                            obtain ⟨fs26, -⟩ := pI hs26
                            have Fs26 := Sm.tr Fs11 (Sm.wd fs26 (lo' := 44) (hi' := 49) (by decide) (by decide))
                            refine wa_ireturn rfl rfl ?_
                            exact ⟨_, rfl, Fs26, trivial⟩
                          · have mh25 := nle_mx h25
                            refine wa_aload_n (i := 0) rfl rfl ?_
                            refine wa_getr ck_0 fl_0_18 ly_41 rf_41_4 ?_
                            refine wa_iload rfl ?_
                            refine wa_iald ly_44 (by ((try simp only [vp_in_iff, Int32.lt_iff_toInt_lt, Int32.le_iff_toInt_le, ← Int32.toInt_inj, Int32.reduceToInt, n_1, n_2, n_8, Int32.toNatClampNeg, Int64.lt_iff_toInt_lt, Int64.le_iff_toInt_le, ← Int64.toInt_inj, Int64.reduceToInt, Int32.toInt_toInt64, lg_cmp_ge, lg_cmp_le, lg_cmp_gt, lg_cmp_lt, lg_cmp_eq, Bool.false_eq_true, Bool.true_eq_false, reduceCtorEq, false_iff, true_iff, iff_true, iff_false, and_true, true_and, and_false, false_and, reduceIte, ite_true, ite_false, eq_self] at *)) <;> omega) ?_
                            refine wa_iconst (v := 1) (by decide) ?_
                            refine wa_icmp_ne o_X0_howMany_168 (by decide) (fun h28 => ?_) (fun h28 => ?_)
                            · refine wa_iinc (v := (1)) (lv' := fun y29 => [(5, .int y29), (0, .ref 41), (2, .int x2)]) (by decide) rfl (by decide) (fun _ => rfl) (fun y29 hy29 => ?_)
                              have ty29 := i_addT hy29.symm
                              clear hy29
                              refine wa_goto o_X0_howMany_148 (by decide) ?_
                              refine wa_pick [1, 2, 0] rfl ?_
                              exact ih23 _ (by ((try simp only [vp_in_iff, Int32.lt_iff_toInt_lt, Int32.le_iff_toInt_le, ← Int32.toInt_inj, Int32.reduceToInt, n_1, n_2, n_8, Int32.toNatClampNeg, Int64.lt_iff_toInt_lt, Int64.le_iff_toInt_le, ← Int64.toInt_inj, Int64.reduceToInt, Int32.toInt_toInt64, lg_cmp_ge, lg_cmp_le, lg_cmp_gt, lg_cmp_lt, lg_cmp_eq, Bool.false_eq_true, Bool.true_eq_false, reduceCtorEq, false_iff, true_iff, iff_true, iff_false, and_true, true_and, and_false, false_and, reduceIte, ite_true, ite_false, eq_self] at *)) <;> omega) _ ⟨(by ((try simp only [vp_in_iff, Int32.lt_iff_toInt_lt, Int32.le_iff_toInt_le, ← Int32.toInt_inj, Int32.reduceToInt, n_1, n_2, n_8, Int32.toNatClampNeg, Int64.lt_iff_toInt_lt, Int64.le_iff_toInt_le, ← Int64.toInt_inj, Int64.reduceToInt, Int32.toInt_toInt64, lg_cmp_ge, lg_cmp_le, lg_cmp_gt, lg_cmp_lt, lg_cmp_eq, Bool.false_eq_true, Bool.true_eq_false, reduceCtorEq, false_iff, true_iff, iff_true, iff_false, and_true, true_and, and_false, false_and, reduceIte, ite_true, ite_false, eq_self] at *)) <;> omega), trivial⟩ rfl
                            · refine wa_bipush (v := (-2)) (by decide) ?_
                              refine wa_ireturn rfl rfl ?_
                              exact ⟨_, rfl, Fs11, trivial⟩
                      exact hi24 _ _ ⟨(by ((try simp only [vp_in_iff, Int32.lt_iff_toInt_lt, Int32.le_iff_toInt_le, ← Int32.toInt_inj, Int32.reduceToInt, n_1, n_2, n_8, Int32.toNatClampNeg, Int64.lt_iff_toInt_lt, Int64.le_iff_toInt_le, ← Int64.toInt_inj, Int64.reduceToInt, Int32.toInt_toInt64, lg_cmp_ge, lg_cmp_le, lg_cmp_gt, lg_cmp_lt, lg_cmp_eq, Bool.false_eq_true, Bool.true_eq_false, reduceCtorEq, false_iff, true_iff, iff_true, iff_false, and_true, true_and, and_false, false_and, reduceIte, ite_true, ite_false, eq_self] at *)) <;> omega), trivial⟩ rfl
                    · replace h22 := bI_t (b := l4) (rfl) h22
                      refine wa_aload_n (i := 0) rfl rfl ?_
                      refine wa_iload_n (i := 2) rfl rfl ?_
                      refine wa_iconst (v := 1) (by decide) ?_
                      refine wa_Vi (d9 := d - 1) [.int _, .int _] [] (sp_X0_mark G (d := d - 1) (by omega) s11 _ _ (by ((try simp only [vp_in_iff, Int32.lt_iff_toInt_lt, Int32.le_iff_toInt_le, ← Int32.toInt_inj, Int32.reduceToInt, n_1, n_2, n_8, Int32.toNatClampNeg, Int64.lt_iff_toInt_lt, Int64.le_iff_toInt_le, ← Int64.toInt_inj, Int64.reduceToInt, Int32.toInt_toInt64, lg_cmp_ge, lg_cmp_le, lg_cmp_gt, lg_cmp_lt, lg_cmp_eq, Bool.false_eq_true, Bool.true_eq_false, reduceCtorEq, false_iff, true_iff, iff_true, iff_false, and_true, true_and, and_false, false_and, reduceIte, ite_true, ite_false, eq_self] at *)) <;> omega)) (rfl) rfl rfl (zr (by omega)) mk_X0_mark ly_41 ml_0_152 (Nat.le_of_ble_eq_true rfl) (fun x31 s30 hs30 => ?_)
                      obtain ⟨bx31, ex31, fs30, -⟩ := pB hs30
                      subst ex31
                      have Fs30 := Sm.tr Fs11 (Sm.wd fs30 (lo' := 44) (hi' := 49) (by decide) (by decide))
                      refine wa_istoreD (lv' := [(4, .int (bI bx31)), (0, .ref 41), (2, .int x2), (5, .int l5)]) (by decide) rfl ?_
                      refine wa_iinc (v := (1)) (lv' := fun y32 => [(5, .int y32), (4, .int (bI bx31)), (0, .ref 41), (2, .int x2)]) (by decide) rfl (by decide) (fun _ => rfl) (fun y32 hy32 => ?_)
                      have ty32 := i_addT hy32.symm
                      clear hy32
                      refine wa_goto o_X0_howMany_120 (by decide) ?_
                      refine wa_pick [2, 3, 1, 0] rfl ?_
                      exact ih12 _ (by ((try simp only [vp_in_iff, Int32.lt_iff_toInt_lt, Int32.le_iff_toInt_le, ← Int32.toInt_inj, Int32.reduceToInt, n_1, n_2, n_8, Int32.toNatClampNeg, Int64.lt_iff_toInt_lt, Int64.le_iff_toInt_le, ← Int64.toInt_inj, Int64.reduceToInt, Int32.toInt_toInt64, lg_cmp_ge, lg_cmp_le, lg_cmp_gt, lg_cmp_lt, lg_cmp_eq, Bool.false_eq_true, Bool.true_eq_false, reduceCtorEq, false_iff, true_iff, iff_true, iff_false, and_true, true_and, and_false, false_and, reduceIte, ite_true, ite_false, eq_self] at *)) <;> omega) _ _ _ ⟨Fs30, ((Sm.gi fs30 13 (Or.inl (by decide))).trans (khi13_0)), ((Sm.gi fs30 12 (Or.inl (by decide))).trans (khi13_1)), (by ((try simp only [vp_in_iff, Int32.lt_iff_toInt_lt, Int32.le_iff_toInt_le, ← Int32.toInt_inj, Int32.reduceToInt, n_1, n_2, n_8, Int32.toNatClampNeg, Int64.lt_iff_toInt_lt, Int64.le_iff_toInt_le, ← Int64.toInt_inj, Int64.reduceToInt, Int32.toInt_toInt64, lg_cmp_ge, lg_cmp_le, lg_cmp_gt, lg_cmp_lt, lg_cmp_eq, Bool.false_eq_true, Bool.true_eq_false, reduceCtorEq, false_iff, true_iff, iff_true, iff_false, and_true, true_and, and_false, false_and, reduceIte, ite_true, ite_false, eq_self] at *)) <;> omega), trivial⟩ rfl
              exact hi13 _ _ _ _ ⟨Fs7, (khi9_0), (khi9_1), (by ((try simp only [vp_in_iff, Int32.lt_iff_toInt_lt, Int32.le_iff_toInt_le, ← Int32.toInt_inj, Int32.reduceToInt, n_1, n_2, n_8, Int32.toNatClampNeg, Int64.lt_iff_toInt_lt, Int64.le_iff_toInt_le, ← Int64.toInt_inj, Int64.reduceToInt, Int32.toInt_toInt64, lg_cmp_ge, lg_cmp_le, lg_cmp_gt, lg_cmp_lt, lg_cmp_eq, Bool.false_eq_true, Bool.true_eq_false, reduceCtorEq, false_iff, true_iff, iff_true, iff_false, and_true, true_and, and_false, false_and, reduceIte, ite_true, ite_false, eq_self] at *)) <;> omega), trivial⟩ rfl
            · refine wa_iload_n (i := 3) rfl rfl ?_
              refine wa_if_eq o_X0_howMany_114 (by decide) (fun h33 => ?_) (fun h33 => ?_)
              · replace h33 := bI_f (b := l3) (rfl) h33
                refine wa_iconst (v := 1) (by decide) ?_
                refine wa_istoreD (lv' := [(4, .int (bI true)), (0, .ref 41), (2, .int x2), (3, .int (bI l3))]) (by decide) rfl ?_
                refine wa_iconst (v := 0) (by decide) ?_
                refine wa_istoreD (lv' := [(5, .int 0), (4, .int (bI true)), (0, .ref 41), (2, .int x2), (3, .int (bI l3))]) (by decide) rfl ?_
                refine wa_pick [2, 3, 1, 0] rfl ?_
                have hi36 : ∀ (n9_120 : Nat) (l4 : Bool) (l5 : Int32) (s34 : St), ((Sm 44 49 σ s34) ∧ (gi s34 31 13 = gi σ 31 13) ∧ (gi s34 31 12 = gi σ 31 12) ∧ (0 ≤ l5.toInt) ∧ (True)) → (2147483647 - l5.toInt).toNat = n9_120 → WA G M_X0_howMany (ZM G M_X0_howMany d (fun r σ' => ∃ x : Int32, r = some (.int x) ∧ Sm 44 49 σ σ' ∧ True)) B_X0_howMany_120 [(0, .ref 41), (2, .int x2), (4, .int (bI l4)), (5, .int l5)] [] s34 := by
                  intro n9_120
                  induction n9_120 using Nat.strongRecOn with
                  | _ n9_120 ih35 =>
                    intro l4 l5 s34 i9 m9_120
                    obtain ⟨Fs34, khi36_0, khi36_1, jhi36_0, -⟩ := i9
                    have ul5 := Int32.toInt_lt l5
                    have wl5 := Int32.le_toInt l5
                    refine wa_iload rfl ?_
                    refine wa_iload_n (i := 2) rfl rfl ?_
                    refine wa_icmp_gt o_X0_howMany_145 (by decide) (fun h37 => ?_) (fun h37 => ?_)
                    · refine wa_iconst (v := 0) (by decide) ?_
                      refine wa_istoreD (lv' := [(5, .int 0), (0, .ref 41), (2, .int x2), (4, .int (bI l4))]) (by decide) rfl ?_
                      refine wa_pick [1, 2, 0] rfl ?_
                      have hi39 : ∀ (n9_148 : Nat) (l5 : Int32), ((0 ≤ l5.toInt) ∧ (True)) → (2147483647 - l5.toInt).toNat = n9_148 → WA G M_X0_howMany (ZM G M_X0_howMany d (fun r σ' => ∃ x : Int32, r = some (.int x) ∧ Sm 44 49 σ σ' ∧ True)) B_X0_howMany_148 [(0, .ref 41), (2, .int x2), (5, .int l5)] [] s34 := by
                        intro n9_148
                        induction n9_148 using Nat.strongRecOn with
                        | _ n9_148 ih38 =>
                          intro l5  i9 m9_148
                          obtain ⟨jhi39_0, -⟩ := i9
                          have ul5 := Int32.toInt_lt l5
                          have wl5 := Int32.le_toInt l5
                          refine wa_iload rfl ?_
                          refine wa_iload_n (i := 2) rfl rfl ?_
                          refine wa_icmp_ge o_X0_howMany_174 (by decide) (fun h40 => ?_) (fun h40 => ?_)
                          · refine wa_aload_n (i := 0) rfl rfl ?_
                            refine wa_iload_n (i := 2) rfl rfl ?_
                            refine wa_Vi (d9 := d - 1) [.int _] [] (sp_X0_countAll G (d := d - 1) (by omega) s34 _ (by ((try simp only [vp_in_iff, Int32.lt_iff_toInt_lt, Int32.le_iff_toInt_le, ← Int32.toInt_inj, Int32.reduceToInt, n_1, n_2, n_8, Int32.toNatClampNeg, Int64.lt_iff_toInt_lt, Int64.le_iff_toInt_le, ← Int64.toInt_inj, Int64.reduceToInt, Int32.toInt_toInt64, lg_cmp_ge, lg_cmp_le, lg_cmp_gt, lg_cmp_lt, lg_cmp_eq, Bool.false_eq_true, Bool.true_eq_false, reduceCtorEq, false_iff, true_iff, iff_true, iff_false, and_true, true_and, and_false, false_and, reduceIte, ite_true, ite_false, eq_self] at *)) <;> omega)) (rfl) rfl rfl (zr (by omega)) mk_X0_countAll ly_41 ml_0_155 (Nat.le_of_ble_eq_true rfl) (fun x42 s41 hs41 => ?_)
                            obtain ⟨fs41, -⟩ := pI hs41
                            have Fs41 := Sm.tr Fs34 (Sm.wd fs41 (lo' := 44) (hi' := 49) (by decide) (by decide))
                            refine wa_ireturn rfl rfl ?_
                            exact ⟨_, rfl, Fs41, trivial⟩
                          · have mh40 := nle_mx h40
                            refine wa_aload_n (i := 0) rfl rfl ?_
                            refine wa_getr ck_0 fl_0_18 ly_41 rf_41_4 ?_
                            refine wa_iload rfl ?_
                            refine wa_iald ly_44 (by ((try simp only [vp_in_iff, Int32.lt_iff_toInt_lt, Int32.le_iff_toInt_le, ← Int32.toInt_inj, Int32.reduceToInt, n_1, n_2, n_8, Int32.toNatClampNeg, Int64.lt_iff_toInt_lt, Int64.le_iff_toInt_le, ← Int64.toInt_inj, Int64.reduceToInt, Int32.toInt_toInt64, lg_cmp_ge, lg_cmp_le, lg_cmp_gt, lg_cmp_lt, lg_cmp_eq, Bool.false_eq_true, Bool.true_eq_false, reduceCtorEq, false_iff, true_iff, iff_true, iff_false, and_true, true_and, and_false, false_and, reduceIte, ite_true, ite_false, eq_self] at *)) <;> omega) ?_
                            refine wa_iconst (v := 1) (by decide) ?_
                            refine wa_icmp_ne o_X0_howMany_168 (by decide) (fun h43 => ?_) (fun h43 => ?_)
                            · refine wa_iinc (v := (1)) (lv' := fun y44 => [(5, .int y44), (0, .ref 41), (2, .int x2)]) (by decide) rfl (by decide) (fun _ => rfl) (fun y44 hy44 => ?_)
                              have ty44 := i_addT hy44.symm
                              clear hy44
                              refine wa_goto o_X0_howMany_148 (by decide) ?_
                              refine wa_pick [1, 2, 0] rfl ?_
                              exact ih38 _ (by ((try simp only [vp_in_iff, Int32.lt_iff_toInt_lt, Int32.le_iff_toInt_le, ← Int32.toInt_inj, Int32.reduceToInt, n_1, n_2, n_8, Int32.toNatClampNeg, Int64.lt_iff_toInt_lt, Int64.le_iff_toInt_le, ← Int64.toInt_inj, Int64.reduceToInt, Int32.toInt_toInt64, lg_cmp_ge, lg_cmp_le, lg_cmp_gt, lg_cmp_lt, lg_cmp_eq, Bool.false_eq_true, Bool.true_eq_false, reduceCtorEq, false_iff, true_iff, iff_true, iff_false, and_true, true_and, and_false, false_and, reduceIte, ite_true, ite_false, eq_self] at *)) <;> omega) _ ⟨(by ((try simp only [vp_in_iff, Int32.lt_iff_toInt_lt, Int32.le_iff_toInt_le, ← Int32.toInt_inj, Int32.reduceToInt, n_1, n_2, n_8, Int32.toNatClampNeg, Int64.lt_iff_toInt_lt, Int64.le_iff_toInt_le, ← Int64.toInt_inj, Int64.reduceToInt, Int32.toInt_toInt64, lg_cmp_ge, lg_cmp_le, lg_cmp_gt, lg_cmp_lt, lg_cmp_eq, Bool.false_eq_true, Bool.true_eq_false, reduceCtorEq, false_iff, true_iff, iff_true, iff_false, and_true, true_and, and_false, false_and, reduceIte, ite_true, ite_false, eq_self] at *)) <;> omega), trivial⟩ rfl
                            · refine wa_bipush (v := (-2)) (by decide) ?_
                              refine wa_ireturn rfl rfl ?_
                              exact ⟨_, rfl, Fs34, trivial⟩
                      exact hi39 _ _ ⟨(by ((try simp only [vp_in_iff, Int32.lt_iff_toInt_lt, Int32.le_iff_toInt_le, ← Int32.toInt_inj, Int32.reduceToInt, n_1, n_2, n_8, Int32.toNatClampNeg, Int64.lt_iff_toInt_lt, Int64.le_iff_toInt_le, ← Int64.toInt_inj, Int64.reduceToInt, Int32.toInt_toInt64, lg_cmp_ge, lg_cmp_le, lg_cmp_gt, lg_cmp_lt, lg_cmp_eq, Bool.false_eq_true, Bool.true_eq_false, reduceCtorEq, false_iff, true_iff, iff_true, iff_false, and_true, true_and, and_false, false_and, reduceIte, ite_true, ite_false, eq_self] at *)) <;> omega), trivial⟩ rfl
                    · refine wa_iload rfl ?_
                      refine wa_if_eq o_X0_howMany_145 (by decide) (fun h45 => ?_) (fun h45 => ?_)
                      · replace h45 := bI_f (b := l4) (rfl) h45
                        refine wa_iconst (v := 0) (by decide) ?_
                        refine wa_istoreD (lv' := [(5, .int 0), (0, .ref 41), (2, .int x2), (4, .int (bI l4))]) (by decide) rfl ?_
                        refine wa_pick [1, 2, 0] rfl ?_
                        have hi47 : ∀ (n9_148 : Nat) (l5 : Int32), ((0 ≤ l5.toInt) ∧ (True)) → (2147483647 - l5.toInt).toNat = n9_148 → WA G M_X0_howMany (ZM G M_X0_howMany d (fun r σ' => ∃ x : Int32, r = some (.int x) ∧ Sm 44 49 σ σ' ∧ True)) B_X0_howMany_148 [(0, .ref 41), (2, .int x2), (5, .int l5)] [] s34 := by
                          intro n9_148
                          induction n9_148 using Nat.strongRecOn with
                          | _ n9_148 ih46 =>
                            intro l5  i9 m9_148
                            obtain ⟨jhi47_0, -⟩ := i9
                            have ul5 := Int32.toInt_lt l5
                            have wl5 := Int32.le_toInt l5
                            refine wa_iload rfl ?_
                            refine wa_iload_n (i := 2) rfl rfl ?_
                            refine wa_icmp_ge o_X0_howMany_174 (by decide) (fun h48 => ?_) (fun h48 => ?_)
                            · refine wa_aload_n (i := 0) rfl rfl ?_
                              refine wa_iload_n (i := 2) rfl rfl ?_
                              refine wa_Vi (d9 := d - 1) [.int _] [] (sp_X0_countAll G (d := d - 1) (by omega) s34 _ (by ((try simp only [vp_in_iff, Int32.lt_iff_toInt_lt, Int32.le_iff_toInt_le, ← Int32.toInt_inj, Int32.reduceToInt, n_1, n_2, n_8, Int32.toNatClampNeg, Int64.lt_iff_toInt_lt, Int64.le_iff_toInt_le, ← Int64.toInt_inj, Int64.reduceToInt, Int32.toInt_toInt64, lg_cmp_ge, lg_cmp_le, lg_cmp_gt, lg_cmp_lt, lg_cmp_eq, Bool.false_eq_true, Bool.true_eq_false, reduceCtorEq, false_iff, true_iff, iff_true, iff_false, and_true, true_and, and_false, false_and, reduceIte, ite_true, ite_false, eq_self] at *)) <;> omega)) (rfl) rfl rfl (zr (by omega)) mk_X0_countAll ly_41 ml_0_155 (Nat.le_of_ble_eq_true rfl) (fun x50 s49 hs49 => ?_)
                              obtain ⟨fs49, -⟩ := pI hs49
                              have Fs49 := Sm.tr Fs34 (Sm.wd fs49 (lo' := 44) (hi' := 49) (by decide) (by decide))
                              refine wa_ireturn rfl rfl ?_
                              exact ⟨_, rfl, Fs49, trivial⟩
                            · have mh48 := nle_mx h48
                              refine wa_aload_n (i := 0) rfl rfl ?_
                              refine wa_getr ck_0 fl_0_18 ly_41 rf_41_4 ?_
                              refine wa_iload rfl ?_
                              refine wa_iald ly_44 (by ((try simp only [vp_in_iff, Int32.lt_iff_toInt_lt, Int32.le_iff_toInt_le, ← Int32.toInt_inj, Int32.reduceToInt, n_1, n_2, n_8, Int32.toNatClampNeg, Int64.lt_iff_toInt_lt, Int64.le_iff_toInt_le, ← Int64.toInt_inj, Int64.reduceToInt, Int32.toInt_toInt64, lg_cmp_ge, lg_cmp_le, lg_cmp_gt, lg_cmp_lt, lg_cmp_eq, Bool.false_eq_true, Bool.true_eq_false, reduceCtorEq, false_iff, true_iff, iff_true, iff_false, and_true, true_and, and_false, false_and, reduceIte, ite_true, ite_false, eq_self] at *)) <;> omega) ?_
                              refine wa_iconst (v := 1) (by decide) ?_
                              refine wa_icmp_ne o_X0_howMany_168 (by decide) (fun h51 => ?_) (fun h51 => ?_)
                              · refine wa_iinc (v := (1)) (lv' := fun y52 => [(5, .int y52), (0, .ref 41), (2, .int x2)]) (by decide) rfl (by decide) (fun _ => rfl) (fun y52 hy52 => ?_)
                                have ty52 := i_addT hy52.symm
                                clear hy52
                                refine wa_goto o_X0_howMany_148 (by decide) ?_
                                refine wa_pick [1, 2, 0] rfl ?_
                                exact ih46 _ (by ((try simp only [vp_in_iff, Int32.lt_iff_toInt_lt, Int32.le_iff_toInt_le, ← Int32.toInt_inj, Int32.reduceToInt, n_1, n_2, n_8, Int32.toNatClampNeg, Int64.lt_iff_toInt_lt, Int64.le_iff_toInt_le, ← Int64.toInt_inj, Int64.reduceToInt, Int32.toInt_toInt64, lg_cmp_ge, lg_cmp_le, lg_cmp_gt, lg_cmp_lt, lg_cmp_eq, Bool.false_eq_true, Bool.true_eq_false, reduceCtorEq, false_iff, true_iff, iff_true, iff_false, and_true, true_and, and_false, false_and, reduceIte, ite_true, ite_false, eq_self] at *)) <;> omega) _ ⟨(by ((try simp only [vp_in_iff, Int32.lt_iff_toInt_lt, Int32.le_iff_toInt_le, ← Int32.toInt_inj, Int32.reduceToInt, n_1, n_2, n_8, Int32.toNatClampNeg, Int64.lt_iff_toInt_lt, Int64.le_iff_toInt_le, ← Int64.toInt_inj, Int64.reduceToInt, Int32.toInt_toInt64, lg_cmp_ge, lg_cmp_le, lg_cmp_gt, lg_cmp_lt, lg_cmp_eq, Bool.false_eq_true, Bool.true_eq_false, reduceCtorEq, false_iff, true_iff, iff_true, iff_false, and_true, true_and, and_false, false_and, reduceIte, ite_true, ite_false, eq_self] at *)) <;> omega), trivial⟩ rfl
                              · refine wa_bipush (v := (-2)) (by decide) ?_
                                refine wa_ireturn rfl rfl ?_
                                exact ⟨_, rfl, Fs34, trivial⟩
                        exact hi47 _ _ ⟨(by ((try simp only [vp_in_iff, Int32.lt_iff_toInt_lt, Int32.le_iff_toInt_le, ← Int32.toInt_inj, Int32.reduceToInt, n_1, n_2, n_8, Int32.toNatClampNeg, Int64.lt_iff_toInt_lt, Int64.le_iff_toInt_le, ← Int64.toInt_inj, Int64.reduceToInt, Int32.toInt_toInt64, lg_cmp_ge, lg_cmp_le, lg_cmp_gt, lg_cmp_lt, lg_cmp_eq, Bool.false_eq_true, Bool.true_eq_false, reduceCtorEq, false_iff, true_iff, iff_true, iff_false, and_true, true_and, and_false, false_and, reduceIte, ite_true, ite_false, eq_self] at *)) <;> omega), trivial⟩ rfl
                      · replace h45 := bI_t (b := l4) (rfl) h45
                        refine wa_aload_n (i := 0) rfl rfl ?_
                        refine wa_iload_n (i := 2) rfl rfl ?_
                        refine wa_iconst (v := 1) (by decide) ?_
                        refine wa_Vi (d9 := d - 1) [.int _, .int _] [] (sp_X0_mark G (d := d - 1) (by omega) s34 _ _ (by ((try simp only [vp_in_iff, Int32.lt_iff_toInt_lt, Int32.le_iff_toInt_le, ← Int32.toInt_inj, Int32.reduceToInt, n_1, n_2, n_8, Int32.toNatClampNeg, Int64.lt_iff_toInt_lt, Int64.le_iff_toInt_le, ← Int64.toInt_inj, Int64.reduceToInt, Int32.toInt_toInt64, lg_cmp_ge, lg_cmp_le, lg_cmp_gt, lg_cmp_lt, lg_cmp_eq, Bool.false_eq_true, Bool.true_eq_false, reduceCtorEq, false_iff, true_iff, iff_true, iff_false, and_true, true_and, and_false, false_and, reduceIte, ite_true, ite_false, eq_self] at *)) <;> omega)) (rfl) rfl rfl (zr (by omega)) mk_X0_mark ly_41 ml_0_152 (Nat.le_of_ble_eq_true rfl) (fun x54 s53 hs53 => ?_)
                        obtain ⟨bx54, ex54, fs53, -⟩ := pB hs53
                        subst ex54
                        have Fs53 := Sm.tr Fs34 (Sm.wd fs53 (lo' := 44) (hi' := 49) (by decide) (by decide))
                        refine wa_istoreD (lv' := [(4, .int (bI bx54)), (0, .ref 41), (2, .int x2), (5, .int l5)]) (by decide) rfl ?_
                        refine wa_iinc (v := (1)) (lv' := fun y55 => [(5, .int y55), (4, .int (bI bx54)), (0, .ref 41), (2, .int x2)]) (by decide) rfl (by decide) (fun _ => rfl) (fun y55 hy55 => ?_)
                        have ty55 := i_addT hy55.symm
                        clear hy55
                        refine wa_goto o_X0_howMany_120 (by decide) ?_
                        refine wa_pick [2, 3, 1, 0] rfl ?_
                        exact ih35 _ (by ((try simp only [vp_in_iff, Int32.lt_iff_toInt_lt, Int32.le_iff_toInt_le, ← Int32.toInt_inj, Int32.reduceToInt, n_1, n_2, n_8, Int32.toNatClampNeg, Int64.lt_iff_toInt_lt, Int64.le_iff_toInt_le, ← Int64.toInt_inj, Int64.reduceToInt, Int32.toInt_toInt64, lg_cmp_ge, lg_cmp_le, lg_cmp_gt, lg_cmp_lt, lg_cmp_eq, Bool.false_eq_true, Bool.true_eq_false, reduceCtorEq, false_iff, true_iff, iff_true, iff_false, and_true, true_and, and_false, false_and, reduceIte, ite_true, ite_false, eq_self] at *)) <;> omega) _ _ _ ⟨Fs53, ((Sm.gi fs53 13 (Or.inl (by decide))).trans (khi36_0)), ((Sm.gi fs53 12 (Or.inl (by decide))).trans (khi36_1)), (by ((try simp only [vp_in_iff, Int32.lt_iff_toInt_lt, Int32.le_iff_toInt_le, ← Int32.toInt_inj, Int32.reduceToInt, n_1, n_2, n_8, Int32.toNatClampNeg, Int64.lt_iff_toInt_lt, Int64.le_iff_toInt_le, ← Int64.toInt_inj, Int64.reduceToInt, Int32.toInt_toInt64, lg_cmp_ge, lg_cmp_le, lg_cmp_gt, lg_cmp_lt, lg_cmp_eq, Bool.false_eq_true, Bool.true_eq_false, reduceCtorEq, false_iff, true_iff, iff_true, iff_false, and_true, true_and, and_false, false_and, reduceIte, ite_true, ite_false, eq_self] at *)) <;> omega), trivial⟩ rfl
                exact hi36 _ _ _ _ ⟨Fs7, (khi9_0), (khi9_1), (by ((try simp only [vp_in_iff, Int32.lt_iff_toInt_lt, Int32.le_iff_toInt_le, ← Int32.toInt_inj, Int32.reduceToInt, n_1, n_2, n_8, Int32.toNatClampNeg, Int64.lt_iff_toInt_lt, Int64.le_iff_toInt_le, ← Int64.toInt_inj, Int64.reduceToInt, Int32.toInt_toInt64, lg_cmp_ge, lg_cmp_le, lg_cmp_gt, lg_cmp_lt, lg_cmp_eq, Bool.false_eq_true, Bool.true_eq_false, reduceCtorEq, false_iff, true_iff, iff_true, iff_false, and_true, true_and, and_false, false_and, reduceIte, ite_true, ite_false, eq_self] at *)) <;> omega), trivial⟩ rfl
              · replace h33 := bI_t (b := l3) (rfl) h33
                refine wa_aload_n (i := 0) rfl rfl ?_
                refine wa_iload_n (i := 2) rfl rfl ?_
                refine wa_iconst (v := 0) (by decide) ?_
                refine wa_Vi (d9 := d - 1) [.int _, .int _] [] (sp_X0_mark G (d := d - 1) (by omega) s7 _ _ (by ((try simp only [vp_in_iff, Int32.lt_iff_toInt_lt, Int32.le_iff_toInt_le, ← Int32.toInt_inj, Int32.reduceToInt, n_1, n_2, n_8, Int32.toNatClampNeg, Int64.lt_iff_toInt_lt, Int64.le_iff_toInt_le, ← Int64.toInt_inj, Int64.reduceToInt, Int32.toInt_toInt64, lg_cmp_ge, lg_cmp_le, lg_cmp_gt, lg_cmp_lt, lg_cmp_eq, Bool.false_eq_true, Bool.true_eq_false, reduceCtorEq, false_iff, true_iff, iff_true, iff_false, and_true, true_and, and_false, false_and, reduceIte, ite_true, ite_false, eq_self] at *)) <;> omega)) (rfl) rfl rfl (zr (by omega)) mk_X0_mark ly_41 ml_0_152 (Nat.le_of_ble_eq_true rfl) (fun x57 s56 hs56 => ?_)
                obtain ⟨bx57, ex57, fs56, -⟩ := pB hs56
                subst ex57
                have Fs56 := Sm.tr Fs7 (Sm.wd fs56 (lo' := 44) (hi' := 49) (by decide) (by decide))
                refine wa_istore_nD (lv' := [(3, .int (bI bx57)), (0, .ref 41), (2, .int x2), (4, .int l4)]) (i := 3) rfl (by decide) rfl ?_
                refine wa_iinc (v := (1)) (lv' := fun y58 => [(4, .int y58), (3, .int (bI bx57)), (0, .ref 41), (2, .int x2)]) (by decide) rfl (by decide) (fun _ => rfl) (fun y58 hy58 => ?_)
                have ty58 := i_addT hy58.symm
                clear hy58
                refine wa_goto o_X0_howMany_91 (by decide) ?_
                refine wa_pick [2, 3, 1, 0] rfl ?_
                exact ih8 _ (by ((try simp only [vp_in_iff, Int32.lt_iff_toInt_lt, Int32.le_iff_toInt_le, ← Int32.toInt_inj, Int32.reduceToInt, n_1, n_2, n_8, Int32.toNatClampNeg, Int64.lt_iff_toInt_lt, Int64.le_iff_toInt_le, ← Int64.toInt_inj, Int64.reduceToInt, Int32.toInt_toInt64, lg_cmp_ge, lg_cmp_le, lg_cmp_gt, lg_cmp_lt, lg_cmp_eq, Bool.false_eq_true, Bool.true_eq_false, reduceCtorEq, false_iff, true_iff, iff_true, iff_false, and_true, true_and, and_false, false_and, reduceIte, ite_true, ite_false, eq_self] at *)) <;> omega) _ _ _ ⟨Fs56, ((Sm.gi fs56 13 (Or.inl (by decide))).trans (khi9_0)), ((Sm.gi fs56 12 (Or.inl (by decide))).trans (khi9_1)), (by ((try simp only [vp_in_iff, Int32.lt_iff_toInt_lt, Int32.le_iff_toInt_le, ← Int32.toInt_inj, Int32.reduceToInt, n_1, n_2, n_8, Int32.toNatClampNeg, Int64.lt_iff_toInt_lt, Int64.le_iff_toInt_le, ← Int64.toInt_inj, Int64.reduceToInt, Int32.toInt_toInt64, lg_cmp_ge, lg_cmp_le, lg_cmp_gt, lg_cmp_lt, lg_cmp_eq, Bool.false_eq_true, Bool.true_eq_false, reduceCtorEq, false_iff, true_iff, iff_true, iff_false, and_true, true_and, and_false, false_and, reduceIte, ite_true, ite_false, eq_self] at *)) <;> omega), trivial⟩ rfl
        exact hi9 _ _ _ _ ⟨Fs3, (khi5_0), (khi5_1), (by ((try simp only [vp_in_iff, Int32.lt_iff_toInt_lt, Int32.le_iff_toInt_le, ← Int32.toInt_inj, Int32.reduceToInt, n_1, n_2, n_8, Int32.toNatClampNeg, Int64.lt_iff_toInt_lt, Int64.le_iff_toInt_le, ← Int64.toInt_inj, Int64.reduceToInt, Int32.toInt_toInt64, lg_cmp_ge, lg_cmp_le, lg_cmp_gt, lg_cmp_lt, lg_cmp_eq, Bool.false_eq_true, Bool.true_eq_false, reduceCtorEq, false_iff, true_iff, iff_true, iff_false, and_true, true_and, and_false, false_and, reduceIte, ite_true, ite_false, eq_self] at *)) <;> omega), trivial⟩ rfl
      · have mh6 := nle_mx h6
        refine wa_aload_n (i := 0) rfl rfl ?_
        refine wa_getr ck_0 fl_0_18 ly_41 rf_41_4 ?_
        refine wa_iload_n (i := 3) rfl rfl ?_
        refine wa_iconst (v := 0) (by decide) ?_
        refine wa_iast ly_44 (by ((try simp only [vp_in_iff, Int32.lt_iff_toInt_lt, Int32.le_iff_toInt_le, ← Int32.toInt_inj, Int32.reduceToInt, n_1, n_2, n_8, Int32.toNatClampNeg, Int64.lt_iff_toInt_lt, Int64.le_iff_toInt_le, ← Int64.toInt_inj, Int64.reduceToInt, Int32.toInt_toInt64, lg_cmp_ge, lg_cmp_le, lg_cmp_gt, lg_cmp_lt, lg_cmp_eq, Bool.false_eq_true, Bool.true_eq_false, reduceCtorEq, false_iff, true_iff, iff_true, iff_false, and_true, true_and, and_false, false_and, reduceIte, ite_true, ite_false, eq_self] at *)) <;> omega) (fun s59 hs59 => ?_)
        have Fs59 : Sm 44 49 σ s59 := by rw [hs59]; exact Sm.si Fs3 _ _ (by decide) (by decide)
        refine wa_iconst (v := 0) (by decide) ?_
        refine wa_istoreD (lv' := [(4, .int 0), (0, .ref 41), (2, .int x2), (3, .int l3)]) (by decide) rfl ?_
        refine wa_pick [1, 2, 3, 0] rfl ?_
        have hi62 : ∀ (n9_24 : Nat) (l4 : Int32) (s60 : St), ((Sm 44 49 σ s60) ∧ (gi s60 31 13 = gi σ 31 13) ∧ (gi s60 31 12 = gi σ 31 12) ∧ (0 ≤ l4.toInt) ∧ (True)) → (2147483647 - l4.toInt).toNat = n9_24 → WA G M_X0_howMany (ZM G M_X0_howMany d (fun r σ' => ∃ x : Int32, r = some (.int x) ∧ Sm 44 49 σ σ' ∧ True)) B_X0_howMany_24 [(0, .ref 41), (2, .int x2), (3, .int l3), (4, .int l4)] [] s60 := by
          intro n9_24
          induction n9_24 using Nat.strongRecOn with
          | _ n9_24 ih61 =>
            intro l4 s60 i9 m9_24
            obtain ⟨Fs60, khi62_0, khi62_1, jhi62_0, -⟩ := i9
            have ul4 := Int32.toInt_lt l4
            have wl4 := Int32.le_toInt l4
            refine wa_iload rfl ?_
            refine wa_aload_n (i := 0) rfl rfl ?_
            refine wa_getr ck_0 fl_0_48 ly_41 rf_41_1 ?_
            refine wa_geti ck_6 fl_0_92 ly_31 ?_
            refine wa_rw (khi62_1) ?_
            refine wa_icmp_ge o_X0_howMany_80 (by decide) (fun h63 => ?_) (fun h63 => ?_)
            · refine wa_iinc (v := (1)) (lv' := fun y64 => [(3, .int y64), (0, .ref 41), (2, .int x2), (4, .int l4)]) (by decide) rfl (by decide) (fun _ => rfl) (fun y64 hy64 => ?_)
              have ty64 := i_addT hy64.symm
              clear hy64
              refine wa_goto o_X0_howMany_9 (by decide) ?_
              refine wa_pick [1, 2, 0] rfl ?_
              exact ih4 _ (by ((try simp only [vp_in_iff, Int32.lt_iff_toInt_lt, Int32.le_iff_toInt_le, ← Int32.toInt_inj, Int32.reduceToInt, n_1, n_2, n_8, Int32.toNatClampNeg, Int64.lt_iff_toInt_lt, Int64.le_iff_toInt_le, ← Int64.toInt_inj, Int64.reduceToInt, Int32.toInt_toInt64, lg_cmp_ge, lg_cmp_le, lg_cmp_gt, lg_cmp_lt, lg_cmp_eq, Bool.false_eq_true, Bool.true_eq_false, reduceCtorEq, false_iff, true_iff, iff_true, iff_false, and_true, true_and, and_false, false_and, reduceIte, ite_true, ite_false, eq_self] at *)) <;> omega) _ _ ⟨Fs60, (khi62_0), (khi62_1), (by ((try simp only [vp_in_iff, Int32.lt_iff_toInt_lt, Int32.le_iff_toInt_le, ← Int32.toInt_inj, Int32.reduceToInt, n_1, n_2, n_8, Int32.toNatClampNeg, Int64.lt_iff_toInt_lt, Int64.le_iff_toInt_le, ← Int64.toInt_inj, Int64.reduceToInt, Int32.toInt_toInt64, lg_cmp_ge, lg_cmp_le, lg_cmp_gt, lg_cmp_lt, lg_cmp_eq, Bool.false_eq_true, Bool.true_eq_false, reduceCtorEq, false_iff, true_iff, iff_true, iff_false, and_true, true_and, and_false, false_and, reduceIte, ite_true, ite_false, eq_self] at *)) <;> omega), trivial⟩ rfl
            · have mh63 := nle_mx h63
              refine wa_aload_n (i := 0) rfl rfl ?_
              refine wa_getr ck_0 fl_0_18 ly_41 rf_41_4 ?_
              refine wa_iload_n (i := 3) rfl rfl ?_
              refine wa_dup2 rfl rfl ?_
              refine wa_iald ly_44 (by ((try simp only [vp_in_iff, Int32.lt_iff_toInt_lt, Int32.le_iff_toInt_le, ← Int32.toInt_inj, Int32.reduceToInt, n_1, n_2, n_8, Int32.toNatClampNeg, Int64.lt_iff_toInt_lt, Int64.le_iff_toInt_le, ← Int64.toInt_inj, Int64.reduceToInt, Int32.toInt_toInt64, lg_cmp_ge, lg_cmp_le, lg_cmp_gt, lg_cmp_lt, lg_cmp_eq, Bool.false_eq_true, Bool.true_eq_false, reduceCtorEq, false_iff, true_iff, iff_true, iff_false, and_true, true_and, and_false, false_and, reduceIte, ite_true, ite_false, eq_self] at *)) <;> omega) ?_
              refine wa_aload_n (i := 0) rfl rfl ?_
              refine wa_aload_n (i := 0) rfl rfl ?_
              refine wa_getr ck_0 fl_0_48 ly_41 rf_41_1 ?_
              refine wa_iload_n (i := 3) rfl rfl ?_
              refine wa_iload rfl ?_
              refine wa_Vi (d9 := d - 1) [.int _, .int _] [.ref 41, .int (gi s60 44 (l3).toNatClampNeg), .int l3, .ref 44] (sp_X6_behind G (d := d - 1) (by omega) s60 _ _) (rfl) rfl rfl (zr (by omega)) mk_X6_behind ly_31 ml_0_95 (Nat.le_of_ble_eq_true rfl) (fun x66 s65 hs65 => ?_)
              obtain ⟨zs65, -⟩ := pI hs65
              subst zs65
              refine wa_Vi (d9 := d - 1) [.int _] [.int (gi s60 44 (l3).toNatClampNeg), .int l3, .ref 44] (sp_X0_endsOf G (d := d - 1) (by omega) s60 _) (rfl) rfl rfl (zr (by omega)) mk_X0_endsOf ly_41 ml_0_112 (Nat.le_of_ble_eq_true rfl) (fun x68 s67 hs67 => ?_)
              obtain ⟨zs67, -⟩ := pI hs67
              subst zs67
              refine wa_iconst (v := 1) (by decide) ?_
              refine wa_iload rfl ?_
              refine wa_ishl ?_
              refine wa_top (fun v69 hv69 => ?_)
              clear hv69
              refine wa_iconst (v := (-1)) (by decide) ?_
              refine wa_ixor ?_
              refine wa_top (fun v70 hv70 => ?_)
              clear hv70
              refine wa_iand ?_
              refine wa_top (fun v71 hv71 => ?_)
              have tv71 := i_andT hv71
              clear hv71
              refine wa_if_eq o_X0_howMany_71 (by decide) (fun h72 => ?_) (fun h72 => ?_)
              · refine wa_iconst (v := 0) (by decide) ?_
                refine wa_ior ?_
                refine wa_top (fun v73 hv73 => ?_)
                clear hv73
                refine wa_iast ly_44 (by ((try simp only [vp_in_iff, Int32.lt_iff_toInt_lt, Int32.le_iff_toInt_le, ← Int32.toInt_inj, Int32.reduceToInt, n_1, n_2, n_8, Int32.toNatClampNeg, Int64.lt_iff_toInt_lt, Int64.le_iff_toInt_le, ← Int64.toInt_inj, Int64.reduceToInt, Int32.toInt_toInt64, lg_cmp_ge, lg_cmp_le, lg_cmp_gt, lg_cmp_lt, lg_cmp_eq, Bool.false_eq_true, Bool.true_eq_false, reduceCtorEq, false_iff, true_iff, iff_true, iff_false, and_true, true_and, and_false, false_and, reduceIte, ite_true, ite_false, eq_self] at *)) <;> omega) (fun s74 hs74 => ?_)
                have Fs74 : Sm 44 49 σ s74 := by rw [hs74]; exact Sm.si Fs60 _ _ (by decide) (by decide)
                refine wa_iinc (v := (1)) (lv' := fun y75 => [(4, .int y75), (0, .ref 41), (2, .int x2), (3, .int l3)]) (by decide) rfl (by decide) (fun _ => rfl) (fun y75 hy75 => ?_)
                have ty75 := i_addT hy75.symm
                clear hy75
                refine wa_goto o_X0_howMany_24 (by decide) ?_
                refine wa_pick [1, 2, 3, 0] rfl ?_
                exact ih61 _ (by ((try simp only [vp_in_iff, Int32.lt_iff_toInt_lt, Int32.le_iff_toInt_le, ← Int32.toInt_inj, Int32.reduceToInt, n_1, n_2, n_8, Int32.toNatClampNeg, Int64.lt_iff_toInt_lt, Int64.le_iff_toInt_le, ← Int64.toInt_inj, Int64.reduceToInt, Int32.toInt_toInt64, lg_cmp_ge, lg_cmp_le, lg_cmp_gt, lg_cmp_lt, lg_cmp_eq, Bool.false_eq_true, Bool.true_eq_false, reduceCtorEq, false_iff, true_iff, iff_true, iff_false, and_true, true_and, and_false, false_and, reduceIte, ite_true, ite_false, eq_self] at *)) <;> omega) _ _ ⟨Fs74, ((nxq_gi_si hs74 (by decide)).trans (khi62_0)), ((nxq_gi_si hs74 (by decide)).trans (khi62_1)), (by ((try simp only [vp_in_iff, Int32.lt_iff_toInt_lt, Int32.le_iff_toInt_le, ← Int32.toInt_inj, Int32.reduceToInt, n_1, n_2, n_8, Int32.toNatClampNeg, Int64.lt_iff_toInt_lt, Int64.le_iff_toInt_le, ← Int64.toInt_inj, Int64.reduceToInt, Int32.toInt_toInt64, lg_cmp_ge, lg_cmp_le, lg_cmp_gt, lg_cmp_lt, lg_cmp_eq, Bool.false_eq_true, Bool.true_eq_false, reduceCtorEq, false_iff, true_iff, iff_true, iff_false, and_true, true_and, and_false, false_and, reduceIte, ite_true, ite_false, eq_self] at *)) <;> omega), trivial⟩ rfl
              · refine wa_iconst (v := 1) (by decide) ?_
                refine wa_goto o_X0_howMany_72 (by decide) ?_
                refine wa_ior ?_
                refine wa_top (fun v76 hv76 => ?_)
                clear hv76
                refine wa_iast ly_44 (by ((try simp only [vp_in_iff, Int32.lt_iff_toInt_lt, Int32.le_iff_toInt_le, ← Int32.toInt_inj, Int32.reduceToInt, n_1, n_2, n_8, Int32.toNatClampNeg, Int64.lt_iff_toInt_lt, Int64.le_iff_toInt_le, ← Int64.toInt_inj, Int64.reduceToInt, Int32.toInt_toInt64, lg_cmp_ge, lg_cmp_le, lg_cmp_gt, lg_cmp_lt, lg_cmp_eq, Bool.false_eq_true, Bool.true_eq_false, reduceCtorEq, false_iff, true_iff, iff_true, iff_false, and_true, true_and, and_false, false_and, reduceIte, ite_true, ite_false, eq_self] at *)) <;> omega) (fun s77 hs77 => ?_)
                have Fs77 : Sm 44 49 σ s77 := by rw [hs77]; exact Sm.si Fs60 _ _ (by decide) (by decide)
                refine wa_iinc (v := (1)) (lv' := fun y78 => [(4, .int y78), (0, .ref 41), (2, .int x2), (3, .int l3)]) (by decide) rfl (by decide) (fun _ => rfl) (fun y78 hy78 => ?_)
                have ty78 := i_addT hy78.symm
                clear hy78
                refine wa_goto o_X0_howMany_24 (by decide) ?_
                refine wa_pick [1, 2, 3, 0] rfl ?_
                exact ih61 _ (by ((try simp only [vp_in_iff, Int32.lt_iff_toInt_lt, Int32.le_iff_toInt_le, ← Int32.toInt_inj, Int32.reduceToInt, n_1, n_2, n_8, Int32.toNatClampNeg, Int64.lt_iff_toInt_lt, Int64.le_iff_toInt_le, ← Int64.toInt_inj, Int64.reduceToInt, Int32.toInt_toInt64, lg_cmp_ge, lg_cmp_le, lg_cmp_gt, lg_cmp_lt, lg_cmp_eq, Bool.false_eq_true, Bool.true_eq_false, reduceCtorEq, false_iff, true_iff, iff_true, iff_false, and_true, true_and, and_false, false_and, reduceIte, ite_true, ite_false, eq_self] at *)) <;> omega) _ _ ⟨Fs77, ((nxq_gi_si hs77 (by decide)).trans (khi62_0)), ((nxq_gi_si hs77 (by decide)).trans (khi62_1)), (by ((try simp only [vp_in_iff, Int32.lt_iff_toInt_lt, Int32.le_iff_toInt_le, ← Int32.toInt_inj, Int32.reduceToInt, n_1, n_2, n_8, Int32.toNatClampNeg, Int64.lt_iff_toInt_lt, Int64.le_iff_toInt_le, ← Int64.toInt_inj, Int64.reduceToInt, Int32.toInt_toInt64, lg_cmp_ge, lg_cmp_le, lg_cmp_gt, lg_cmp_lt, lg_cmp_eq, Bool.false_eq_true, Bool.true_eq_false, reduceCtorEq, false_iff, true_iff, iff_true, iff_false, and_true, true_and, and_false, false_and, reduceIte, ite_true, ite_false, eq_self] at *)) <;> omega), trivial⟩ rfl
        exact hi62 _ _ _ ⟨Fs59, ((nxq_gi_si hs59 (by decide)).trans (khi5_0)), ((nxq_gi_si hs59 (by decide)).trans (khi5_1)), (by ((try simp only [vp_in_iff, Int32.lt_iff_toInt_lt, Int32.le_iff_toInt_le, ← Int32.toInt_inj, Int32.reduceToInt, n_1, n_2, n_8, Int32.toNatClampNeg, Int64.lt_iff_toInt_lt, Int64.le_iff_toInt_le, ← Int64.toInt_inj, Int64.reduceToInt, Int32.toInt_toInt64, lg_cmp_ge, lg_cmp_le, lg_cmp_gt, lg_cmp_lt, lg_cmp_eq, Bool.false_eq_true, Bool.true_eq_false, reduceCtorEq, false_iff, true_iff, iff_true, iff_false, and_true, true_and, and_false, false_and, reduceIte, ite_true, ite_false, eq_self] at *)) <;> omega), trivial⟩ rfl
  exact hi5 _ _ _ ⟨Fs1, (Sm.gi fs1 13 (Or.inl (by decide))), (Sm.gi fs1 12 (Or.inl (by decide))), (by ((try simp only [vp_in_iff, Int32.lt_iff_toInt_lt, Int32.le_iff_toInt_le, ← Int32.toInt_inj, Int32.reduceToInt, n_1, n_2, n_8, Int32.toNatClampNeg, Int64.lt_iff_toInt_lt, Int64.le_iff_toInt_le, ← Int64.toInt_inj, Int64.reduceToInt, Int32.toInt_toInt64, lg_cmp_ge, lg_cmp_le, lg_cmp_gt, lg_cmp_lt, lg_cmp_eq, Bool.false_eq_true, Bool.true_eq_false, reduceCtorEq, false_iff, true_iff, iff_true, iff_false, and_true, true_and, and_false, false_and, reduceIte, ite_true, ite_false, eq_self] at *)) <;> omega), trivial⟩ rfl
set_option maxHeartbeats 4000000 in
theorem sp_X0_anyModel (G : kG9) {d : Nat} (hd : 2 ≤ d) (σ : St) (a0 : Int32) (r1 : 0 ≤ (gi σ 31 13).toInt ∧ (gi σ 31 13).toInt ≤ 3000) : Ct G M_X0_anyModel d [.ref 41, .int a0] σ (fun r σ' => ∃ x : Bool, r = some (.int (bI x)) ∧ σ = σ' ∧ True) := by
  refine wa_start (by decide) rfl (Nat.le_of_ble_eq_true rfl) (lv := [(0, .ref 41), (1, .int a0)]) rfl o_X0_anyModel_0 rfl ?_
  have ua0 := Int32.toInt_lt a0
  have wa0 := Int32.le_toInt a0
  refine wa_iconst (v := 0) (by decide) ?_
  refine wa_istore_nD (lv' := [(2, .int 0), (0, .ref 41), (1, .int a0)]) (i := 2) rfl (by decide) rfl ?_
  refine wa_pick [1, 2, 0] rfl ?_
  have hi2 : ∀ (n9_2 : Nat) (l2 : Int32), ((0 ≤ l2.toInt) ∧ (True)) → (2147483647 - l2.toInt).toNat = n9_2 → WA G M_X0_anyModel (ZM G M_X0_anyModel d (fun r σ' => ∃ x : Bool, r = some (.int (bI x)) ∧ σ = σ' ∧ True)) B_X0_anyModel_2 [(0, .ref 41), (1, .int a0), (2, .int l2)] [] σ := by
    intro n9_2
    induction n9_2 using Nat.strongRecOn with
    | _ n9_2 ih1 =>
      intro l2  i9 m9_2
      obtain ⟨jhi2_0, -⟩ := i9
      have ul2 := Int32.toInt_lt l2
      have wl2 := Int32.le_toInt l2
      refine wa_iload_n (i := 2) rfl rfl ?_
      refine wa_aload_n (i := 0) rfl rfl ?_
      refine wa_getr ck_0 fl_0_48 ly_41 rf_41_1 ?_
      refine wa_geti ck_6 fl_0_72 ly_31 ?_
      refine wa_icmp_ge o_X0_anyModel_34 (by decide) (fun h3 => ?_) (fun h3 => ?_)
      · refine wa_iconst (v := 0) (by decide) ?_
        refine wa_zreturn false (rfl) rfl rfl ?_
        exact ⟨_, rfl, rfl, trivial⟩
      · have mh3 := nle_mx h3
        refine wa_aload_n (i := 0) rfl rfl ?_
        refine wa_getr ck_0 fl_0_48 ly_41 rf_41_1 ?_
        refine wa_iload_n (i := 2) rfl rfl ?_
        refine wa_iload_n (i := 1) rfl rfl ?_
        refine wa_iconst (v := 0) (by decide) ?_
        refine wa_Vi (d9 := d - 1) [.int _, .int _, .int _] [] (sp_X6_acceptedBy G (d := d - 1) (by omega) σ _ _ _) (rfl) rfl rfl (zr (by omega)) mk_X6_acceptedBy ly_31 ml_0_78 (Nat.le_of_ble_eq_true rfl) (fun x5 s4 hs4 => ?_)
        obtain ⟨zs4, -⟩ := pI hs4
        subst zs4
        refine wa_if_eq o_X0_anyModel_28 (by decide) (fun h6 => ?_) (fun h6 => ?_)
        · refine wa_iinc (v := (1)) (lv' := fun y7 => [(2, .int y7), (0, .ref 41), (1, .int a0)]) (by decide) rfl (by decide) (fun _ => rfl) (fun y7 hy7 => ?_)
          have ty7 := i_addT hy7.symm
          clear hy7
          refine wa_goto o_X0_anyModel_2 (by decide) ?_
          refine wa_pick [1, 2, 0] rfl ?_
          exact ih1 _ (by ((try simp only [vp_in_iff, Int32.lt_iff_toInt_lt, Int32.le_iff_toInt_le, ← Int32.toInt_inj, Int32.reduceToInt, n_1, n_2, n_8, Int32.toNatClampNeg, Int64.lt_iff_toInt_lt, Int64.le_iff_toInt_le, ← Int64.toInt_inj, Int64.reduceToInt, Int32.toInt_toInt64, lg_cmp_ge, lg_cmp_le, lg_cmp_gt, lg_cmp_lt, lg_cmp_eq, Bool.false_eq_true, Bool.true_eq_false, reduceCtorEq, false_iff, true_iff, iff_true, iff_false, and_true, true_and, and_false, false_and, reduceIte, ite_true, ite_false, eq_self] at *)) <;> omega) _ ⟨(by ((try simp only [vp_in_iff, Int32.lt_iff_toInt_lt, Int32.le_iff_toInt_le, ← Int32.toInt_inj, Int32.reduceToInt, n_1, n_2, n_8, Int32.toNatClampNeg, Int64.lt_iff_toInt_lt, Int64.le_iff_toInt_le, ← Int64.toInt_inj, Int64.reduceToInt, Int32.toInt_toInt64, lg_cmp_ge, lg_cmp_le, lg_cmp_gt, lg_cmp_lt, lg_cmp_eq, Bool.false_eq_true, Bool.true_eq_false, reduceCtorEq, false_iff, true_iff, iff_true, iff_false, and_true, true_and, and_false, false_and, reduceIte, ite_true, ite_false, eq_self] at *)) <;> omega), trivial⟩ rfl
        · refine wa_iconst (v := 1) (by decide) ?_
          refine wa_zreturn true (rfl) rfl rfl ?_
          exact ⟨_, rfl, rfl, trivial⟩
  exact hi2 _ _ ⟨(by ((try simp only [vp_in_iff, Int32.lt_iff_toInt_lt, Int32.le_iff_toInt_le, ← Int32.toInt_inj, Int32.reduceToInt, n_1, n_2, n_8, Int32.toNatClampNeg, Int64.lt_iff_toInt_lt, Int64.le_iff_toInt_le, ← Int64.toInt_inj, Int64.reduceToInt, Int32.toInt_toInt64, lg_cmp_ge, lg_cmp_le, lg_cmp_gt, lg_cmp_lt, lg_cmp_eq, Bool.false_eq_true, Bool.true_eq_false, reduceCtorEq, false_iff, true_iff, iff_true, iff_false, and_true, true_and, and_false, false_and, reduceIte, ite_true, ite_false, eq_self] at *)) <;> omega), trivial⟩ rfl
set_option maxHeartbeats 4000000 in
theorem sp_X0_tellCore (G : kG9) {d : Nat} (hd : 3 ≤ d) (σ : St) (a0 : Int32) (r1 : 0 ≤ (gi σ 31 13).toInt ∧ (gi σ 31 13).toInt ≤ 3000) (r2 : 0 ≤ (gi σ 41 15).toInt ∧ (gi σ 41 15).toInt ≤ 1100) : Ct G M_X0_tellCore d [.ref 41, .int a0] σ (fun r σ' => ∃ x : Int32, r = some (.int x) ∧ Sm 41 50 σ σ' ∧ (0 ≤ (gi σ' 41 15).toInt ∧ (gi σ' 41 15).toInt ≤ 1100) ∧ True) := by
  refine wa_start (by decide) rfl (Nat.le_of_ble_eq_true rfl) (lv := [(0, .ref 41), (1, .int a0)]) rfl o_X0_tellCore_0 rfl ?_
  have ua0 := Int32.toInt_lt a0
  have wa0 := Int32.le_toInt a0
  refine wa_aload_n (i := 0) rfl rfl ?_
  refine wa_iconst (v := 0) (by decide) ?_
  refine wa_puti ck_0 fl_0_167 ly_41 (fun s1 hs1 => ?_)
  have Fs1 : Sm 41 50 σ s1 := by rw [hs1]; exact Sm.si (Sm.rf 41 50 σ) _ _ (by decide) (by decide)
  refine wa_aload_n (i := 0) rfl rfl ?_
  refine wa_iload_n (i := 1) rfl rfl ?_
  refine wa_Vi (d9 := d - 1) [.int _] [] (sp_X0_anyModel G (d := d - 1) (by omega) s1 _ (by rw [nxq_gi_si hs1 (by decide)]; first | assumption | exact Or.inl rfl | exact Or.inr rfl | (((try simp only [vp_in_iff, Int32.lt_iff_toInt_lt, Int32.le_iff_toInt_le, ← Int32.toInt_inj, Int32.reduceToInt, n_1, n_2, n_8, Int32.toNatClampNeg, Int64.lt_iff_toInt_lt, Int64.le_iff_toInt_le, ← Int64.toInt_inj, Int64.reduceToInt, Int32.toInt_toInt64, lg_cmp_ge, lg_cmp_le, lg_cmp_gt, lg_cmp_lt, lg_cmp_eq, Bool.false_eq_true, Bool.true_eq_false, reduceCtorEq, false_iff, true_iff, iff_true, iff_false, and_true, true_and, and_false, false_and, reduceIte, ite_true, ite_false, eq_self] at *)) <;> omega))) (rfl) rfl rfl (zr (by omega)) mk_X0_anyModel ly_41 ml_0_170 (Nat.le_of_ble_eq_true rfl) (fun x3 s2 hs2 => ?_)
  obtain ⟨bx3, ex3, zs2, -⟩ := pB hs2
  subst ex3
  subst zs2
  refine wa_if_eq o_X0_tellCore_15 (by decide) (fun h4 => ?_) (fun h4 => ?_)
  · replace h4 := bI_f (b := bx3) (rfl) h4
    refine wa_iload_n (i := 1) rfl rfl ?_
    refine wa_istore_nD (lv' := [(2, .int a0), (0, .ref 41), (1, .int a0)]) (i := 2) rfl (by decide) rfl ?_
    refine wa_bipush (v := 23) (by decide) ?_
    refine wa_istore_nD (lv' := [(3, .int 23), (2, .int a0), (0, .ref 41), (1, .int a0)]) (i := 3) rfl (by decide) rfl ?_
    refine wa_pick [2, 1, 0] rfl ?_
    have hi7 : ∀ (n9_20 : Nat) (l2 : Int32) (l3 : Int32) (s5 : St), ((Sm 41 50 σ s5) ∧ (gi s5 31 13 = gi σ 31 13) ∧ (gi s5 41 15 = gi σ 41 15) ∧ (gi s5 41 14 = (0 : Int32)) ∧ (True)) → (l3.toInt + 1).toNat = n9_20 → WA G M_X0_tellCore (ZM G M_X0_tellCore d (fun r σ' => ∃ x : Int32, r = some (.int x) ∧ Sm 41 50 σ σ' ∧ (0 ≤ (gi σ' 41 15).toInt ∧ (gi σ' 41 15).toInt ≤ 1100) ∧ True)) B_X0_tellCore_20 [(0, .ref 41), (2, .int l2), (3, .int l3)] [] s5 := by
      intro n9_20
      induction n9_20 using Nat.strongRecOn with
      | _ n9_20 ih6 =>
        intro l2 l3 s5 i9 m9_20
        obtain ⟨Fs5, khi7_0, khi7_1, khi7_2, -⟩ := i9
        have ul2 := Int32.toInt_lt l2
        have wl2 := Int32.le_toInt l2
        have ul3 := Int32.toInt_lt l3
        have wl3 := Int32.le_toInt l3
        refine wa_iload_n (i := 3) rfl rfl ?_
        refine wa_if_lt o_X0_tellCore_61 (by decide) (fun h8 => ?_) (fun h8 => ?_)
        · refine wa_iconst (v := 0) (by decide) ?_
          refine wa_istore_nD (lv' := [(3, .int 0), (0, .ref 41), (2, .int l2)]) (i := 3) rfl (by decide) rfl ?_
          refine wa_pick [1, 2, 0] rfl ?_
          have hi11 : ∀ (n9_63 : Nat) (l3 : Int32) (s9 : St), ((Sm 41 50 σ s9) ∧ (gi s9 31 13 = gi σ 31 13) ∧ (gi s9 41 15 = gi σ 41 15) ∧ (0 ≤ l3.toInt) ∧ (0 ≤ (gi s9 41 14).toInt) ∧ (True)) → (2147483647 - l3.toInt).toNat = n9_63 → WA G M_X0_tellCore (ZM G M_X0_tellCore d (fun r σ' => ∃ x : Int32, r = some (.int x) ∧ Sm 41 50 σ σ' ∧ (0 ≤ (gi σ' 41 15).toInt ∧ (gi σ' 41 15).toInt ≤ 1100) ∧ True)) B_X0_tellCore_63 [(0, .ref 41), (2, .int l2), (3, .int l3)] [] s9 := by
            intro n9_63
            induction n9_63 using Nat.strongRecOn with
            | _ n9_63 ih10 =>
              intro l3 s9 i9 m9_63
              obtain ⟨Fs9, khi11_0, khi11_1, jhi11_0, jhi11_1, -⟩ := i9
              have ul3 := Int32.toInt_lt l3
              have wl3 := Int32.le_toInt l3
              refine wa_iload_n (i := 3) rfl rfl ?_
              refine wa_bipush (v := 24) (by decide) ?_
              refine wa_icmp_ge o_X0_tellCore_113 (by decide) (fun h12 => ?_) (fun h12 => ?_)
              · refine wa_aload_n (i := 0) rfl rfl ?_
                refine wa_geti ck_0 fl_0_167 ly_41 ?_
                refine wa_ireturn rfl rfl ?_
                exact ⟨_, rfl, Fs9, (by rw [khi11_1]; first | assumption | (((try simp only [vp_in_iff, Int32.lt_iff_toInt_lt, Int32.le_iff_toInt_le, ← Int32.toInt_inj, Int32.reduceToInt, n_1, n_2, n_8, Int32.toNatClampNeg, Int64.lt_iff_toInt_lt, Int64.le_iff_toInt_le, ← Int64.toInt_inj, Int64.reduceToInt, Int32.toInt_toInt64, lg_cmp_ge, lg_cmp_le, lg_cmp_gt, lg_cmp_lt, lg_cmp_eq, Bool.false_eq_true, Bool.true_eq_false, reduceCtorEq, false_iff, true_iff, iff_true, iff_false, and_true, true_and, and_false, false_and, reduceIte, ite_true, ite_false, eq_self] at *)) <;> omega)), trivial⟩
              · have mh12 := nle_mx h12
                refine wa_iload_n (i := 2) rfl rfl ?_
                refine wa_iload_n (i := 3) rfl rfl ?_
                refine wa_iushr ?_
                refine wa_top (fun v13 hv13 => ?_)
                clear hv13
                refine wa_iconst (v := 1) (by decide) ?_
                refine wa_iand ?_
                refine wa_top (fun v14 hv14 => ?_)
                have tv14 := i_andT hv14
                clear hv14
                refine wa_iconst (v := 1) (by decide) ?_
                refine wa_icmp_ne o_X0_tellCore_107 (by decide) (fun h15 => ?_) (fun h15 => ?_)
                · refine wa_iinc (v := (1)) (lv' := fun y16 => [(3, .int y16), (0, .ref 41), (2, .int l2)]) (by decide) rfl (by decide) (fun _ => rfl) (fun y16 hy16 => ?_)
                  have ty16 := i_addT hy16.symm
                  clear hy16
                  refine wa_goto o_X0_tellCore_63 (by decide) ?_
                  refine wa_pick [1, 2, 0] rfl ?_
                  exact ih10 _ (by ((try simp only [vp_in_iff, Int32.lt_iff_toInt_lt, Int32.le_iff_toInt_le, ← Int32.toInt_inj, Int32.reduceToInt, n_1, n_2, n_8, Int32.toNatClampNeg, Int64.lt_iff_toInt_lt, Int64.le_iff_toInt_le, ← Int64.toInt_inj, Int64.reduceToInt, Int32.toInt_toInt64, lg_cmp_ge, lg_cmp_le, lg_cmp_gt, lg_cmp_lt, lg_cmp_eq, Bool.false_eq_true, Bool.true_eq_false, reduceCtorEq, false_iff, true_iff, iff_true, iff_false, and_true, true_and, and_false, false_and, reduceIte, ite_true, ite_false, eq_self] at *)) <;> omega) _ _ ⟨Fs9, (khi11_0), (khi11_1), (by ((try simp only [vp_in_iff, Int32.lt_iff_toInt_lt, Int32.le_iff_toInt_le, ← Int32.toInt_inj, Int32.reduceToInt, n_1, n_2, n_8, Int32.toNatClampNeg, Int64.lt_iff_toInt_lt, Int64.le_iff_toInt_le, ← Int64.toInt_inj, Int64.reduceToInt, Int32.toInt_toInt64, lg_cmp_ge, lg_cmp_le, lg_cmp_gt, lg_cmp_lt, lg_cmp_eq, Bool.false_eq_true, Bool.true_eq_false, reduceCtorEq, false_iff, true_iff, iff_true, iff_false, and_true, true_and, and_false, false_and, reduceIte, ite_true, ite_false, eq_self] at *)) <;> omega), (by first | assumption | (((try simp only [vp_in_iff, Int32.lt_iff_toInt_lt, Int32.le_iff_toInt_le, ← Int32.toInt_inj, Int32.reduceToInt, n_1, n_2, n_8, Int32.toNatClampNeg, Int64.lt_iff_toInt_lt, Int64.le_iff_toInt_le, ← Int64.toInt_inj, Int64.reduceToInt, Int32.toInt_toInt64, lg_cmp_ge, lg_cmp_le, lg_cmp_gt, lg_cmp_lt, lg_cmp_eq, Bool.false_eq_true, Bool.true_eq_false, reduceCtorEq, false_iff, true_iff, iff_true, iff_false, and_true, true_and, and_false, false_and, reduceIte, ite_true, ite_false, eq_self] at *)) <;> omega)), trivial⟩ rfl
                · refine wa_aload_n (i := 0) rfl rfl ?_
                  refine wa_geti ck_0 fl_0_167 ly_41 ?_
                  refine wa_bipush (v := 24) (by decide) ?_
                  refine wa_icmp_ge o_X0_tellCore_107 (by decide) (fun h17 => ?_) (fun h17 => ?_)
                  · refine wa_iinc (v := (1)) (lv' := fun y18 => [(3, .int y18), (0, .ref 41), (2, .int l2)]) (by decide) rfl (by decide) (fun _ => rfl) (fun y18 hy18 => ?_)
                    have ty18 := i_addT hy18.symm
                    clear hy18
                    refine wa_goto o_X0_tellCore_63 (by decide) ?_
                    refine wa_pick [1, 2, 0] rfl ?_
                    exact ih10 _ (by ((try simp only [vp_in_iff, Int32.lt_iff_toInt_lt, Int32.le_iff_toInt_le, ← Int32.toInt_inj, Int32.reduceToInt, n_1, n_2, n_8, Int32.toNatClampNeg, Int64.lt_iff_toInt_lt, Int64.le_iff_toInt_le, ← Int64.toInt_inj, Int64.reduceToInt, Int32.toInt_toInt64, lg_cmp_ge, lg_cmp_le, lg_cmp_gt, lg_cmp_lt, lg_cmp_eq, Bool.false_eq_true, Bool.true_eq_false, reduceCtorEq, false_iff, true_iff, iff_true, iff_false, and_true, true_and, and_false, false_and, reduceIte, ite_true, ite_false, eq_self] at *)) <;> omega) _ _ ⟨Fs9, (khi11_0), (khi11_1), (by ((try simp only [vp_in_iff, Int32.lt_iff_toInt_lt, Int32.le_iff_toInt_le, ← Int32.toInt_inj, Int32.reduceToInt, n_1, n_2, n_8, Int32.toNatClampNeg, Int64.lt_iff_toInt_lt, Int64.le_iff_toInt_le, ← Int64.toInt_inj, Int64.reduceToInt, Int32.toInt_toInt64, lg_cmp_ge, lg_cmp_le, lg_cmp_gt, lg_cmp_lt, lg_cmp_eq, Bool.false_eq_true, Bool.true_eq_false, reduceCtorEq, false_iff, true_iff, iff_true, iff_false, and_true, true_and, and_false, false_and, reduceIte, ite_true, ite_false, eq_self] at *)) <;> omega), (by first | assumption | (((try simp only [vp_in_iff, Int32.lt_iff_toInt_lt, Int32.le_iff_toInt_le, ← Int32.toInt_inj, Int32.reduceToInt, n_1, n_2, n_8, Int32.toNatClampNeg, Int64.lt_iff_toInt_lt, Int64.le_iff_toInt_le, ← Int64.toInt_inj, Int64.reduceToInt, Int32.toInt_toInt64, lg_cmp_ge, lg_cmp_le, lg_cmp_gt, lg_cmp_lt, lg_cmp_eq, Bool.false_eq_true, Bool.true_eq_false, reduceCtorEq, false_iff, true_iff, iff_true, iff_false, and_true, true_and, and_false, false_and, reduceIte, ite_true, ite_false, eq_self] at *)) <;> omega)), trivial⟩ rfl
                  · have mh17 := nle_mx h17
                    refine wa_aload_n (i := 0) rfl rfl ?_
                    refine wa_getr ck_0 fl_0_34 ly_41 rf_41_9 ?_
                    refine wa_aload_n (i := 0) rfl rfl ?_
                    refine wa_geti ck_0 fl_0_167 ly_41 ?_
                    refine wa_iload_n (i := 3) rfl rfl ?_
                    refine wa_iast ly_49 (by ((try simp only [vp_in_iff, Int32.lt_iff_toInt_lt, Int32.le_iff_toInt_le, ← Int32.toInt_inj, Int32.reduceToInt, n_1, n_2, n_8, Int32.toNatClampNeg, Int64.lt_iff_toInt_lt, Int64.le_iff_toInt_le, ← Int64.toInt_inj, Int64.reduceToInt, Int32.toInt_toInt64, lg_cmp_ge, lg_cmp_le, lg_cmp_gt, lg_cmp_lt, lg_cmp_eq, Bool.false_eq_true, Bool.true_eq_false, reduceCtorEq, false_iff, true_iff, iff_true, iff_false, and_true, true_and, and_false, false_and, reduceIte, ite_true, ite_false, eq_self] at *)) <;> omega) (fun s19 hs19 => ?_)
                    have Fs19 : Sm 41 50 σ s19 := by rw [hs19]; exact Sm.si Fs9 _ _ (by decide) (by decide)
                    refine wa_aload_n (i := 0) rfl rfl ?_
                    refine wa_dup rfl ?_
                    refine wa_geti ck_0 fl_0_167 ly_41 ?_
                    refine wa_rw (nxq_gi_si hs19 (by decide)) ?_
                    refine wa_iconst (v := 1) (by decide) ?_
                    refine wa_iadd ?_
                    refine wa_top (fun v20 hv20 => ?_)
                    have tv20 := i_addT hv20
                    clear hv20
                    refine wa_puti ck_0 fl_0_167 ly_41 (fun s21 hs21 => ?_)
                    have Fs21 : Sm 41 50 σ s21 := by rw [hs21]; exact Sm.si Fs19 _ _ (by decide) (by decide)
                    refine wa_iinc (v := (1)) (lv' := fun y22 => [(3, .int y22), (0, .ref 41), (2, .int l2)]) (by decide) rfl (by decide) (fun _ => rfl) (fun y22 hy22 => ?_)
                    have ty22 := i_addT hy22.symm
                    clear hy22
                    refine wa_goto o_X0_tellCore_63 (by decide) ?_
                    refine wa_pick [1, 2, 0] rfl ?_
                    exact ih10 _ (by ((try simp only [vp_in_iff, Int32.lt_iff_toInt_lt, Int32.le_iff_toInt_le, ← Int32.toInt_inj, Int32.reduceToInt, n_1, n_2, n_8, Int32.toNatClampNeg, Int64.lt_iff_toInt_lt, Int64.le_iff_toInt_le, ← Int64.toInt_inj, Int64.reduceToInt, Int32.toInt_toInt64, lg_cmp_ge, lg_cmp_le, lg_cmp_gt, lg_cmp_lt, lg_cmp_eq, Bool.false_eq_true, Bool.true_eq_false, reduceCtorEq, false_iff, true_iff, iff_true, iff_false, and_true, true_and, and_false, false_and, reduceIte, ite_true, ite_false, eq_self] at *)) <;> omega) _ _ ⟨Fs21, ((nxq_gi_si hs21 (by decide)).trans ((nxq_gi_si hs19 (by decide)).trans (khi11_0))), ((nxk_gi_si hs21 (by decide)).trans ((nxq_gi_si hs19 (by decide)).trans (khi11_1))), (by ((try simp only [vp_in_iff, Int32.lt_iff_toInt_lt, Int32.le_iff_toInt_le, ← Int32.toInt_inj, Int32.reduceToInt, n_1, n_2, n_8, Int32.toNatClampNeg, Int64.lt_iff_toInt_lt, Int64.le_iff_toInt_le, ← Int64.toInt_inj, Int64.reduceToInt, Int32.toInt_toInt64, lg_cmp_ge, lg_cmp_le, lg_cmp_gt, lg_cmp_lt, lg_cmp_eq, Bool.false_eq_true, Bool.true_eq_false, reduceCtorEq, false_iff, true_iff, iff_true, iff_false, and_true, true_and, and_false, false_and, reduceIte, ite_true, ite_false, eq_self] at *)) <;> omega), (by rw [nxe_gi_si hs21]; first | assumption | (((try simp only [vp_in_iff, Int32.lt_iff_toInt_lt, Int32.le_iff_toInt_le, ← Int32.toInt_inj, Int32.reduceToInt, n_1, n_2, n_8, Int32.toNatClampNeg, Int64.lt_iff_toInt_lt, Int64.le_iff_toInt_le, ← Int64.toInt_inj, Int64.reduceToInt, Int32.toInt_toInt64, lg_cmp_ge, lg_cmp_le, lg_cmp_gt, lg_cmp_lt, lg_cmp_eq, Bool.false_eq_true, Bool.true_eq_false, reduceCtorEq, false_iff, true_iff, iff_true, iff_false, and_true, true_and, and_false, false_and, reduceIte, ite_true, ite_false, eq_self] at *)) <;> omega)), trivial⟩ rfl
          exact hi11 _ _ _ ⟨Fs5, (khi7_0), (khi7_1), (by ((try simp only [vp_in_iff, Int32.lt_iff_toInt_lt, Int32.le_iff_toInt_le, ← Int32.toInt_inj, Int32.reduceToInt, n_1, n_2, n_8, Int32.toNatClampNeg, Int64.lt_iff_toInt_lt, Int64.le_iff_toInt_le, ← Int64.toInt_inj, Int64.reduceToInt, Int32.toInt_toInt64, lg_cmp_ge, lg_cmp_le, lg_cmp_gt, lg_cmp_lt, lg_cmp_eq, Bool.false_eq_true, Bool.true_eq_false, reduceCtorEq, false_iff, true_iff, iff_true, iff_false, and_true, true_and, and_false, false_and, reduceIte, ite_true, ite_false, eq_self] at *)) <;> omega), (by rw [khi7_2]; first | assumption | (((try simp only [vp_in_iff, Int32.lt_iff_toInt_lt, Int32.le_iff_toInt_le, ← Int32.toInt_inj, Int32.reduceToInt, n_1, n_2, n_8, Int32.toNatClampNeg, Int64.lt_iff_toInt_lt, Int64.le_iff_toInt_le, ← Int64.toInt_inj, Int64.reduceToInt, Int32.toInt_toInt64, lg_cmp_ge, lg_cmp_le, lg_cmp_gt, lg_cmp_lt, lg_cmp_eq, Bool.false_eq_true, Bool.true_eq_false, reduceCtorEq, false_iff, true_iff, iff_true, iff_false, and_true, true_and, and_false, false_and, reduceIte, ite_true, ite_false, eq_self] at *)) <;> omega)), trivial⟩ rfl
        · refine wa_iload_n (i := 2) rfl rfl ?_
          refine wa_iload_n (i := 3) rfl rfl ?_
          refine wa_iushr ?_
          refine wa_top (fun v23 hv23 => ?_)
          clear hv23
          refine wa_iconst (v := 1) (by decide) ?_
          refine wa_iand ?_
          refine wa_top (fun v24 hv24 => ?_)
          have tv24 := i_andT hv24
          clear hv24
          refine wa_iconst (v := 1) (by decide) ?_
          refine wa_icmp_ne o_X0_tellCore_55 (by decide) (fun h25 => ?_) (fun h25 => ?_)
          · refine wa_iinc (v := (-1)) (lv' := fun y26 => [(3, .int y26), (0, .ref 41), (2, .int l2)]) (by decide) rfl (by decide) (fun _ => rfl) (fun y26 hy26 => ?_)
            have ty26 := i_addT hy26.symm
            clear hy26
            refine wa_goto o_X0_tellCore_20 (by decide) ?_
            refine wa_pick [1, 2, 0] rfl ?_
            exact ih6 _ (by ((try simp only [vp_in_iff, Int32.lt_iff_toInt_lt, Int32.le_iff_toInt_le, ← Int32.toInt_inj, Int32.reduceToInt, n_1, n_2, n_8, Int32.toNatClampNeg, Int64.lt_iff_toInt_lt, Int64.le_iff_toInt_le, ← Int64.toInt_inj, Int64.reduceToInt, Int32.toInt_toInt64, lg_cmp_ge, lg_cmp_le, lg_cmp_gt, lg_cmp_lt, lg_cmp_eq, Bool.false_eq_true, Bool.true_eq_false, reduceCtorEq, false_iff, true_iff, iff_true, iff_false, and_true, true_and, and_false, false_and, reduceIte, ite_true, ite_false, eq_self] at *)) <;> omega) _ _ _ ⟨Fs5, (khi7_0), (khi7_1), (khi7_2), trivial⟩ rfl
          · refine wa_aload_n (i := 0) rfl rfl ?_
            refine wa_iload_n (i := 2) rfl rfl ?_
            refine wa_iconst (v := 1) (by decide) ?_
            refine wa_iload_n (i := 3) rfl rfl ?_
            refine wa_ishl ?_
            refine wa_top (fun v27 hv27 => ?_)
            clear hv27
            refine wa_iconst (v := (-1)) (by decide) ?_
            refine wa_ixor ?_
            refine wa_top (fun v28 hv28 => ?_)
            clear hv28
            refine wa_iand ?_
            refine wa_top (fun v29 hv29 => ?_)
            have tv29 := i_andT hv29
            clear hv29
            refine wa_Vi (d9 := d - 1) [.int _] [] (sp_X0_anyModel G (d := d - 1) (by omega) s5 _ (by rw [khi7_0]; first | assumption | exact Or.inl rfl | exact Or.inr rfl | (((try simp only [vp_in_iff, Int32.lt_iff_toInt_lt, Int32.le_iff_toInt_le, ← Int32.toInt_inj, Int32.reduceToInt, n_1, n_2, n_8, Int32.toNatClampNeg, Int64.lt_iff_toInt_lt, Int64.le_iff_toInt_le, ← Int64.toInt_inj, Int64.reduceToInt, Int32.toInt_toInt64, lg_cmp_ge, lg_cmp_le, lg_cmp_gt, lg_cmp_lt, lg_cmp_eq, Bool.false_eq_true, Bool.true_eq_false, reduceCtorEq, false_iff, true_iff, iff_true, iff_false, and_true, true_and, and_false, false_and, reduceIte, ite_true, ite_false, eq_self] at *)) <;> omega))) (rfl) rfl rfl (zr (by omega)) mk_X0_anyModel ly_41 ml_0_170 (Nat.le_of_ble_eq_true rfl) (fun x31 s30 hs30 => ?_)
            obtain ⟨bx31, ex31, zs30, -⟩ := pB hs30
            subst ex31
            subst zs30
            refine wa_if_ne o_X0_tellCore_55 (by decide) (fun h32 => ?_) (fun h32 => ?_)
            · replace h32 := bI_t (b := bx31) (rfl) h32
              refine wa_iinc (v := (-1)) (lv' := fun y33 => [(3, .int y33), (0, .ref 41), (2, .int l2)]) (by decide) rfl (by decide) (fun _ => rfl) (fun y33 hy33 => ?_)
              have ty33 := i_addT hy33.symm
              clear hy33
              refine wa_goto o_X0_tellCore_20 (by decide) ?_
              refine wa_pick [1, 2, 0] rfl ?_
              exact ih6 _ (by ((try simp only [vp_in_iff, Int32.lt_iff_toInt_lt, Int32.le_iff_toInt_le, ← Int32.toInt_inj, Int32.reduceToInt, n_1, n_2, n_8, Int32.toNatClampNeg, Int64.lt_iff_toInt_lt, Int64.le_iff_toInt_le, ← Int64.toInt_inj, Int64.reduceToInt, Int32.toInt_toInt64, lg_cmp_ge, lg_cmp_le, lg_cmp_gt, lg_cmp_lt, lg_cmp_eq, Bool.false_eq_true, Bool.true_eq_false, reduceCtorEq, false_iff, true_iff, iff_true, iff_false, and_true, true_and, and_false, false_and, reduceIte, ite_true, ite_false, eq_self] at *)) <;> omega) _ _ _ ⟨Fs5, (khi7_0), (khi7_1), (khi7_2), trivial⟩ rfl
            · replace h32 := bI_f (b := bx31) (rfl) h32
              refine wa_iload_n (i := 2) rfl rfl ?_
              refine wa_iconst (v := 1) (by decide) ?_
              refine wa_iload_n (i := 3) rfl rfl ?_
              refine wa_ishl ?_
              refine wa_top (fun v34 hv34 => ?_)
              clear hv34
              refine wa_iconst (v := (-1)) (by decide) ?_
              refine wa_ixor ?_
              refine wa_top (fun v35 hv35 => ?_)
              clear hv35
              refine wa_iand ?_
              refine wa_top (fun v36 hv36 => ?_)
              have tv36 := i_andT hv36
              clear hv36
              refine wa_istore_nD (lv' := [(2, .int v36), (0, .ref 41), (3, .int l3)]) (i := 2) rfl (by decide) rfl ?_
              refine wa_iinc (v := (-1)) (lv' := fun y37 => [(3, .int y37), (2, .int v36), (0, .ref 41)]) (by decide) rfl (by decide) (fun _ => rfl) (fun y37 hy37 => ?_)
              have ty37 := i_addT hy37.symm
              clear hy37
              refine wa_goto o_X0_tellCore_20 (by decide) ?_
              refine wa_pick [2, 1, 0] rfl ?_
              exact ih6 _ (by ((try simp only [vp_in_iff, Int32.lt_iff_toInt_lt, Int32.le_iff_toInt_le, ← Int32.toInt_inj, Int32.reduceToInt, n_1, n_2, n_8, Int32.toNatClampNeg, Int64.lt_iff_toInt_lt, Int64.le_iff_toInt_le, ← Int64.toInt_inj, Int64.reduceToInt, Int32.toInt_toInt64, lg_cmp_ge, lg_cmp_le, lg_cmp_gt, lg_cmp_lt, lg_cmp_eq, Bool.false_eq_true, Bool.true_eq_false, reduceCtorEq, false_iff, true_iff, iff_true, iff_false, and_true, true_and, and_false, false_and, reduceIte, ite_true, ite_false, eq_self] at *)) <;> omega) _ _ _ ⟨Fs5, (khi7_0), (khi7_1), (khi7_2), trivial⟩ rfl
    exact hi7 _ _ _ _ ⟨Fs1, (nxq_gi_si hs1 (by decide)), (nxk_gi_si hs1 (by decide)), (nxe_gi_si hs1), trivial⟩ rfl
  · replace h4 := bI_t (b := bx3) (rfl) h4
    refine wa_iconst (v := 0) (by decide) ?_
    refine wa_ireturn rfl rfl ?_
    exact ⟨_, rfl, Fs1, (by rw [nxk_gi_si hs1 (by decide)]; first | assumption | (((try simp only [vp_in_iff, Int32.lt_iff_toInt_lt, Int32.le_iff_toInt_le, ← Int32.toInt_inj, Int32.reduceToInt, n_1, n_2, n_8, Int32.toNatClampNeg, Int64.lt_iff_toInt_lt, Int64.le_iff_toInt_le, ← Int64.toInt_inj, Int64.reduceToInt, Int32.toInt_toInt64, lg_cmp_ge, lg_cmp_le, lg_cmp_gt, lg_cmp_lt, lg_cmp_eq, Bool.false_eq_true, Bool.true_eq_false, reduceCtorEq, false_iff, true_iff, iff_true, iff_false, and_true, true_and, and_false, false_and, reduceIte, ite_true, ite_false, eq_self] at *)) <;> omega)), trivial⟩
set_option maxHeartbeats 4000000 in
theorem sp_X0_toldInCore (G : kG9) {d : Nat} (hd : 0 ≤ d) (σ : St) (a0 : Int32) : Ct G M_X0_toldInCore d [.ref 41, .int a0] σ (fun r σ' => ∃ x : Int32, r = some (.int x) ∧ σ = σ' ∧ True) := by
  refine wa_start (by decide) rfl (Nat.le_of_ble_eq_true rfl) (lv := [(0, .ref 41), (1, .int a0)]) rfl o_X0_toldInCore_0 rfl ?_
  have ua0 := Int32.toInt_lt a0
  have wa0 := Int32.le_toInt a0
  refine wa_iload_n (i := 1) rfl rfl ?_
  refine wa_if_lt o_X0_toldInCore_27 (by decide) (fun h1 => ?_) (fun h1 => ?_)
  · refine wa_iconst (v := (-1)) (by decide) ?_
    refine wa_ireturn rfl rfl ?_
    exact ⟨_, rfl, rfl, trivial⟩
  · refine wa_iload_n (i := 1) rfl rfl ?_
    refine wa_aload_n (i := 0) rfl rfl ?_
    refine wa_geti ck_0 fl_0_167 ly_41 ?_
    refine wa_icmp_ge o_X0_toldInCore_27 (by decide) (fun h2 => ?_) (fun h2 => ?_)
    · refine wa_iconst (v := (-1)) (by decide) ?_
      refine wa_ireturn rfl rfl ?_
      exact ⟨_, rfl, rfl, trivial⟩
    · have mh2 := nle_mx h2
      refine wa_iload_n (i := 1) rfl rfl ?_
      refine wa_bipush (v := 24) (by decide) ?_
      refine wa_icmp_ge o_X0_toldInCore_27 (by decide) (fun h3 => ?_) (fun h3 => ?_)
      · refine wa_iconst (v := (-1)) (by decide) ?_
        refine wa_ireturn rfl rfl ?_
        exact ⟨_, rfl, rfl, trivial⟩
      · have mh3 := nle_mx h3
        refine wa_aload_n (i := 0) rfl rfl ?_
        refine wa_getr ck_0 fl_0_34 ly_41 rf_41_9 ?_
        refine wa_iload_n (i := 1) rfl rfl ?_
        refine wa_iald ly_49 (by ((try simp only [vp_in_iff, Int32.lt_iff_toInt_lt, Int32.le_iff_toInt_le, ← Int32.toInt_inj, Int32.reduceToInt, n_1, n_2, n_8, Int32.toNatClampNeg, Int64.lt_iff_toInt_lt, Int64.le_iff_toInt_le, ← Int64.toInt_inj, Int64.reduceToInt, Int32.toInt_toInt64, lg_cmp_ge, lg_cmp_le, lg_cmp_gt, lg_cmp_lt, lg_cmp_eq, Bool.false_eq_true, Bool.true_eq_false, reduceCtorEq, false_iff, true_iff, iff_true, iff_false, and_true, true_and, and_false, false_and, reduceIte, ite_true, ite_false, eq_self] at *)) <;> omega) ?_
        refine wa_goto o_X0_toldInCore_28 (by decide) ?_
        refine wa_ireturn rfl rfl ?_
        exact ⟨_, rfl, rfl, trivial⟩
set_option maxHeartbeats 4000000 in
theorem sp_X0_areAlike (G : kG9) {d : Nat} (hd : 2 ≤ d) (σ : St) (a0 : Int32) (a1 : Int32) (r1 : 0 ≤ (gi σ 31 13).toInt ∧ (gi σ 31 13).toInt ≤ 3000) : Ct G M_X0_areAlike d [.ref 41, .int a0, .int a1] σ (fun r σ' => ∃ x : Bool, r = some (.int (bI x)) ∧ σ = σ' ∧ True) := by
  refine wa_start (by decide) rfl (Nat.le_of_ble_eq_true rfl) (lv := [(0, .ref 41), (1, .int a0), (2, .int a1)]) rfl o_X0_areAlike_0 rfl ?_
  have ua0 := Int32.toInt_lt a0
  have wa0 := Int32.le_toInt a0
  have ua1 := Int32.toInt_lt a1
  have wa1 := Int32.le_toInt a1
  refine wa_iconst (v := 0) (by decide) ?_
  refine wa_istore_nD (lv' := [(3, .int 0), (0, .ref 41), (1, .int a0), (2, .int a1)]) (i := 3) rfl (by decide) rfl ?_
  refine wa_pick [1, 2, 3, 0] rfl ?_
  have hi2 : ∀ (n9_2 : Nat) (l3 : Int32), ((0 ≤ l3.toInt) ∧ (True)) → (2147483647 - l3.toInt).toNat = n9_2 → WA G M_X0_areAlike (ZM G M_X0_areAlike d (fun r σ' => ∃ x : Bool, r = some (.int (bI x)) ∧ σ = σ' ∧ True)) B_X0_areAlike_2 [(0, .ref 41), (1, .int a0), (2, .int a1), (3, .int l3)] [] σ := by
    intro n9_2
    induction n9_2 using Nat.strongRecOn with
    | _ n9_2 ih1 =>
      intro l3  i9 m9_2
      obtain ⟨jhi2_0, -⟩ := i9
      have ul3 := Int32.toInt_lt l3
      have wl3 := Int32.le_toInt l3
      refine wa_iload_n (i := 3) rfl rfl ?_
      refine wa_aload_n (i := 0) rfl rfl ?_
      refine wa_getr ck_0 fl_0_48 ly_41 rf_41_1 ?_
      refine wa_geti ck_6 fl_0_72 ly_31 ?_
      refine wa_icmp_ge o_X0_areAlike_48 (by decide) (fun h3 => ?_) (fun h3 => ?_)
      · refine wa_iconst (v := 1) (by decide) ?_
        refine wa_zreturn true (rfl) rfl rfl ?_
        exact ⟨_, rfl, rfl, trivial⟩
      · have mh3 := nle_mx h3
        refine wa_aload_n (i := 0) rfl rfl ?_
        refine wa_getr ck_0 fl_0_48 ly_41 rf_41_1 ?_
        refine wa_iload_n (i := 3) rfl rfl ?_
        refine wa_iconst (v := 1) (by decide) ?_
        refine wa_iload_n (i := 1) rfl rfl ?_
        refine wa_ishl ?_
        refine wa_top (fun v4 hv4 => ?_)
        clear hv4
        refine wa_iconst (v := 0) (by decide) ?_
        refine wa_Vi (d9 := d - 1) [.int _, .int _, .int _] [] (sp_X6_acceptedBy G (d := d - 1) (by omega) σ _ _ _) (rfl) rfl rfl (zr (by omega)) mk_X6_acceptedBy ly_31 ml_0_78 (Nat.le_of_ble_eq_true rfl) (fun x6 s5 hs5 => ?_)
        obtain ⟨zs5, -⟩ := pI hs5
        subst zs5
        refine wa_aload_n (i := 0) rfl rfl ?_
        refine wa_getr ck_0 fl_0_48 ly_41 rf_41_1 ?_
        refine wa_iload_n (i := 3) rfl rfl ?_
        refine wa_iconst (v := 1) (by decide) ?_
        refine wa_iload_n (i := 2) rfl rfl ?_
        refine wa_ishl ?_
        refine wa_top (fun v7 hv7 => ?_)
        clear hv7
        refine wa_iconst (v := 0) (by decide) ?_
        refine wa_Vi (d9 := d - 1) [.int _, .int _, .int _] [.int x6] (sp_X6_acceptedBy G (d := d - 1) (by omega) σ _ _ _) (rfl) rfl rfl (zr (by omega)) mk_X6_acceptedBy ly_31 ml_0_78 (Nat.le_of_ble_eq_true rfl) (fun x9 s8 hs8 => ?_)
        obtain ⟨zs8, -⟩ := pI hs8
        subst zs8
        refine wa_icmp_eq o_X0_areAlike_42 (by decide) (fun h10 => ?_) (fun h10 => ?_)
        · refine wa_iinc (v := (1)) (lv' := fun y11 => [(3, .int y11), (0, .ref 41), (1, .int a0), (2, .int a1)]) (by decide) rfl (by decide) (fun _ => rfl) (fun y11 hy11 => ?_)
          have ty11 := i_addT hy11.symm
          clear hy11
          refine wa_goto o_X0_areAlike_2 (by decide) ?_
          refine wa_pick [1, 2, 3, 0] rfl ?_
          exact ih1 _ (by ((try simp only [vp_in_iff, Int32.lt_iff_toInt_lt, Int32.le_iff_toInt_le, ← Int32.toInt_inj, Int32.reduceToInt, n_1, n_2, n_8, Int32.toNatClampNeg, Int64.lt_iff_toInt_lt, Int64.le_iff_toInt_le, ← Int64.toInt_inj, Int64.reduceToInt, Int32.toInt_toInt64, lg_cmp_ge, lg_cmp_le, lg_cmp_gt, lg_cmp_lt, lg_cmp_eq, Bool.false_eq_true, Bool.true_eq_false, reduceCtorEq, false_iff, true_iff, iff_true, iff_false, and_true, true_and, and_false, false_and, reduceIte, ite_true, ite_false, eq_self] at *)) <;> omega) _ ⟨(by ((try simp only [vp_in_iff, Int32.lt_iff_toInt_lt, Int32.le_iff_toInt_le, ← Int32.toInt_inj, Int32.reduceToInt, n_1, n_2, n_8, Int32.toNatClampNeg, Int64.lt_iff_toInt_lt, Int64.le_iff_toInt_le, ← Int64.toInt_inj, Int64.reduceToInt, Int32.toInt_toInt64, lg_cmp_ge, lg_cmp_le, lg_cmp_gt, lg_cmp_lt, lg_cmp_eq, Bool.false_eq_true, Bool.true_eq_false, reduceCtorEq, false_iff, true_iff, iff_true, iff_false, and_true, true_and, and_false, false_and, reduceIte, ite_true, ite_false, eq_self] at *)) <;> omega), trivial⟩ rfl
        · refine wa_iconst (v := 0) (by decide) ?_
          refine wa_zreturn false (rfl) rfl rfl ?_
          exact ⟨_, rfl, rfl, trivial⟩
  exact hi2 _ _ ⟨(by ((try simp only [vp_in_iff, Int32.lt_iff_toInt_lt, Int32.le_iff_toInt_le, ← Int32.toInt_inj, Int32.reduceToInt, n_1, n_2, n_8, Int32.toNatClampNeg, Int64.lt_iff_toInt_lt, Int64.le_iff_toInt_le, ← Int64.toInt_inj, Int64.reduceToInt, Int32.toInt_toInt64, lg_cmp_ge, lg_cmp_le, lg_cmp_gt, lg_cmp_lt, lg_cmp_eq, Bool.false_eq_true, Bool.true_eq_false, reduceCtorEq, false_iff, true_iff, iff_true, iff_false, and_true, true_and, and_false, false_and, reduceIte, ite_true, ite_false, eq_self] at *)) <;> omega), trivial⟩ rfl
set_option maxHeartbeats 4000000 in
theorem sp_X0_isOn (G : kG9) {d : Nat} (hd : 1 ≤ d) (σ : St) (a0 : Int32) : Ct G M_X0_isOn d [.ref 41, .int a0] σ (fun r σ' => ∃ x : Bool, r = some (.int (bI x)) ∧ σ = σ' ∧ True) := by
  refine wa_start (by decide) rfl (Nat.le_of_ble_eq_true rfl) (lv := [(0, .ref 41), (1, .int a0)]) rfl o_X0_isOn_0 rfl ?_
  have ua0 := Int32.toInt_lt a0
  have wa0 := Int32.le_toInt a0
  refine wa_iconst (v := 0) (by decide) ?_
  refine wa_istore_nD (lv' := [(2, .int 0), (0, .ref 41), (1, .int a0)]) (i := 2) rfl (by decide) rfl ?_
  refine wa_pick [1, 2, 0] rfl ?_
  have hi2 : ∀ (n9_2 : Nat) (l2 : Int32), ((0 ≤ l2.toInt) ∧ (True)) → (2147483647 - l2.toInt).toNat = n9_2 → WA G M_X0_isOn (ZM G M_X0_isOn d (fun r σ' => ∃ x : Bool, r = some (.int (bI x)) ∧ σ = σ' ∧ True)) B_X0_isOn_2 [(0, .ref 41), (1, .int a0), (2, .int l2)] [] σ := by
    intro n9_2
    induction n9_2 using Nat.strongRecOn with
    | _ n9_2 ih1 =>
      intro l2  i9 m9_2
      obtain ⟨jhi2_0, -⟩ := i9
      have ul2 := Int32.toInt_lt l2
      have wl2 := Int32.le_toInt l2
      refine wa_iload_n (i := 2) rfl rfl ?_
      refine wa_aload_n (i := 0) rfl rfl ?_
      refine wa_getr ck_0 fl_0_44 ly_41 rf_41_0 ?_
      refine wa_geti ck_2 fl_0_194 ly_7 ?_
      refine wa_icmp_ge o_X0_isOn_79 (by decide) (fun h3 => ?_) (fun h3 => ?_)
      · refine wa_iconst (v := 0) (by decide) ?_
        refine wa_zreturn false (rfl) rfl rfl ?_
        exact ⟨_, rfl, rfl, trivial⟩
      · have mh3 := nle_mx h3
        refine wa_aload_n (i := 0) rfl rfl ?_
        refine wa_getr ck_0 fl_0_44 ly_41 rf_41_0 ?_
        refine wa_geti ck_2 fl_0_197 ly_7 ?_
        refine wa_iload_n (i := 2) rfl rfl ?_
        refine wa_iushr ?_
        refine wa_top (fun v4 hv4 => ?_)
        clear hv4
        refine wa_iconst (v := 1) (by decide) ?_
        refine wa_iand ?_
        refine wa_top (fun v5 hv5 => ?_)
        have tv5 := i_andT hv5
        clear hv5
        refine wa_iconst (v := 1) (by decide) ?_
        refine wa_icmp_ne o_X0_isOn_40 (by decide) (fun h6 => ?_) (fun h6 => ?_)
        · refine wa_iconst (v := 0) (by decide) ?_
          refine wa_istore_nD (lv' := [(3, .int 0), (0, .ref 41), (1, .int a0), (2, .int l2)]) (i := 3) rfl (by decide) rfl ?_
          refine wa_iconst (v := 0) (by decide) ?_
          refine wa_istoreD (lv' := [(4, .int 0), (3, .int 0), (0, .ref 41), (1, .int a0), (2, .int l2)]) (by decide) rfl ?_
          refine wa_pick [2, 3, 4, 1, 0] rfl ?_
          have hi8 : ∀ (n9_45 : Nat) (l4 : Int32), ((0 ≤ l4.toInt) ∧ (True)) → (2147483647 - l4.toInt).toNat = n9_45 → WA G M_X0_isOn (ZM G M_X0_isOn d (fun r σ' => ∃ x : Bool, r = some (.int (bI x)) ∧ σ = σ' ∧ True)) B_X0_isOn_45 [(0, .ref 41), (1, .int a0), (2, .int l2), (3, .int 0), (4, .int l4)] [] σ := by
            intro n9_45
            induction n9_45 using Nat.strongRecOn with
            | _ n9_45 ih7 =>
              intro l4  i9 m9_45
              obtain ⟨jhi8_0, -⟩ := i9
              have ul4 := Int32.toInt_lt l4
              have wl4 := Int32.le_toInt l4
              refine wa_iload rfl ?_
              refine wa_iload_n (i := 3) rfl rfl ?_
              refine wa_icmp_ge o_X0_isOn_73 (by decide) (fun h9 => ?_) (fun h9 => ?_)
              · refine wa_iinc (v := (1)) (lv' := fun y10 => [(2, .int y10), (0, .ref 41), (1, .int a0), (3, .int 0), (4, .int l4)]) (by decide) rfl (by decide) (fun _ => rfl) (fun y10 hy10 => ?_)
                have ty10 := i_addT hy10.symm
                clear hy10
                refine wa_goto o_X0_isOn_2 (by decide) ?_
                refine wa_pick [1, 2, 0] rfl ?_
                exact ih1 _ (by ((try simp only [vp_in_iff, Int32.lt_iff_toInt_lt, Int32.le_iff_toInt_le, ← Int32.toInt_inj, Int32.reduceToInt, n_1, n_2, n_8, Int32.toNatClampNeg, Int64.lt_iff_toInt_lt, Int64.le_iff_toInt_le, ← Int64.toInt_inj, Int64.reduceToInt, Int32.toInt_toInt64, lg_cmp_ge, lg_cmp_le, lg_cmp_gt, lg_cmp_lt, lg_cmp_eq, Bool.false_eq_true, Bool.true_eq_false, reduceCtorEq, false_iff, true_iff, iff_true, iff_false, and_true, true_and, and_false, false_and, reduceIte, ite_true, ite_false, eq_self] at *)) <;> omega) _ ⟨(by ((try simp only [vp_in_iff, Int32.lt_iff_toInt_lt, Int32.le_iff_toInt_le, ← Int32.toInt_inj, Int32.reduceToInt, n_1, n_2, n_8, Int32.toNatClampNeg, Int64.lt_iff_toInt_lt, Int64.le_iff_toInt_le, ← Int64.toInt_inj, Int64.reduceToInt, Int32.toInt_toInt64, lg_cmp_ge, lg_cmp_le, lg_cmp_gt, lg_cmp_lt, lg_cmp_eq, Bool.false_eq_true, Bool.true_eq_false, reduceCtorEq, false_iff, true_iff, iff_true, iff_false, and_true, true_and, and_false, false_and, reduceIte, ite_true, ite_false, eq_self] at *)) <;> omega), trivial⟩ rfl
              · have mh9 := nle_mx h9
                refine wa_aload_n (i := 0) rfl rfl ?_
                refine wa_getr ck_0 fl_0_44 ly_41 rf_41_0 ?_
                refine wa_iload_n (i := 2) rfl rfl ?_
                refine wa_iload rfl ?_
                refine wa_Vi (d9 := d - 1) [.int _, .int _] [] (sp_X2_atomOf G (d := d - 1) (by omega) σ _ _) (rfl) rfl rfl (zr (by omega)) mk_X2_atomOf ly_7 ml_0_203 (Nat.le_of_ble_eq_true rfl) (fun x12 s11 hs11 => ?_)
                obtain ⟨zs11, -⟩ := pI hs11
                subst zs11
                refine wa_iload_n (i := 1) rfl rfl ?_
                refine wa_icmp_ne o_X0_isOn_67 (by decide) (fun h13 => ?_) (fun h13 => ?_)
                · refine wa_iinc (v := (1)) (lv' := fun y14 => [(4, .int y14), (0, .ref 41), (1, .int a0), (2, .int l2), (3, .int 0)]) (by decide) rfl (by decide) (fun _ => rfl) (fun y14 hy14 => ?_)
                  have ty14 := i_addT hy14.symm
                  clear hy14
                  refine wa_goto o_X0_isOn_45 (by decide) ?_
                  refine wa_pick [1, 2, 3, 4, 0] rfl ?_
                  exact ih7 _ (by ((try simp only [vp_in_iff, Int32.lt_iff_toInt_lt, Int32.le_iff_toInt_le, ← Int32.toInt_inj, Int32.reduceToInt, n_1, n_2, n_8, Int32.toNatClampNeg, Int64.lt_iff_toInt_lt, Int64.le_iff_toInt_le, ← Int64.toInt_inj, Int64.reduceToInt, Int32.toInt_toInt64, lg_cmp_ge, lg_cmp_le, lg_cmp_gt, lg_cmp_lt, lg_cmp_eq, Bool.false_eq_true, Bool.true_eq_false, reduceCtorEq, false_iff, true_iff, iff_true, iff_false, and_true, true_and, and_false, false_and, reduceIte, ite_true, ite_false, eq_self] at *)) <;> omega) _ ⟨(by ((try simp only [vp_in_iff, Int32.lt_iff_toInt_lt, Int32.le_iff_toInt_le, ← Int32.toInt_inj, Int32.reduceToInt, n_1, n_2, n_8, Int32.toNatClampNeg, Int64.lt_iff_toInt_lt, Int64.le_iff_toInt_le, ← Int64.toInt_inj, Int64.reduceToInt, Int32.toInt_toInt64, lg_cmp_ge, lg_cmp_le, lg_cmp_gt, lg_cmp_lt, lg_cmp_eq, Bool.false_eq_true, Bool.true_eq_false, reduceCtorEq, false_iff, true_iff, iff_true, iff_false, and_true, true_and, and_false, false_and, reduceIte, ite_true, ite_false, eq_self] at *)) <;> omega), trivial⟩ rfl
                · refine wa_iconst (v := 1) (by decide) ?_
                  refine wa_zreturn true (rfl) rfl rfl ?_
                  exact ⟨_, rfl, rfl, trivial⟩
          exact hi8 _ _ ⟨(by ((try simp only [vp_in_iff, Int32.lt_iff_toInt_lt, Int32.le_iff_toInt_le, ← Int32.toInt_inj, Int32.reduceToInt, n_1, n_2, n_8, Int32.toNatClampNeg, Int64.lt_iff_toInt_lt, Int64.le_iff_toInt_le, ← Int64.toInt_inj, Int64.reduceToInt, Int32.toInt_toInt64, lg_cmp_ge, lg_cmp_le, lg_cmp_gt, lg_cmp_lt, lg_cmp_eq, Bool.false_eq_true, Bool.true_eq_false, reduceCtorEq, false_iff, true_iff, iff_true, iff_false, and_true, true_and, and_false, false_and, reduceIte, ite_true, ite_false, eq_self] at *)) <;> omega), trivial⟩ rfl
        · refine wa_aload_n (i := 0) rfl rfl ?_
          refine wa_getr ck_0 fl_0_44 ly_41 rf_41_0 ?_
          refine wa_iload_n (i := 2) rfl rfl ?_
          refine wa_iconst (v := 4) (by decide) ?_
          refine wa_Vi (d9 := d - 1) [.int _, .int _] [] (sp_X2_fact G (d := d - 1) (by omega) σ _ _) (rfl) rfl rfl (zr (by omega)) mk_X2_fact ly_7 ml_0_200 (Nat.le_of_ble_eq_true rfl) (fun x16 s15 hs15 => ?_)
          obtain ⟨zs15, -⟩ := pI hs15
          subst zs15
          refine wa_goto o_X0_isOn_41 (by decide) ?_
          refine wa_istore_nD (lv' := [(3, .int x16), (0, .ref 41), (1, .int a0), (2, .int l2)]) (i := 3) rfl (by decide) rfl ?_
          refine wa_iconst (v := 0) (by decide) ?_
          refine wa_istoreD (lv' := [(4, .int 0), (3, .int x16), (0, .ref 41), (1, .int a0), (2, .int l2)]) (by decide) rfl ?_
          refine wa_pick [2, 3, 4, 1, 0] rfl ?_
          have hi18 : ∀ (n9_45 : Nat) (l4 : Int32), ((0 ≤ l4.toInt) ∧ (True)) → (2147483647 - l4.toInt).toNat = n9_45 → WA G M_X0_isOn (ZM G M_X0_isOn d (fun r σ' => ∃ x : Bool, r = some (.int (bI x)) ∧ σ = σ' ∧ True)) B_X0_isOn_45 [(0, .ref 41), (1, .int a0), (2, .int l2), (3, .int x16), (4, .int l4)] [] σ := by
            intro n9_45
            induction n9_45 using Nat.strongRecOn with
            | _ n9_45 ih17 =>
              intro l4  i9 m9_45
              obtain ⟨jhi18_0, -⟩ := i9
              have ul4 := Int32.toInt_lt l4
              have wl4 := Int32.le_toInt l4
              refine wa_iload rfl ?_
              refine wa_iload_n (i := 3) rfl rfl ?_
              refine wa_icmp_ge o_X0_isOn_73 (by decide) (fun h19 => ?_) (fun h19 => ?_)
              · refine wa_iinc (v := (1)) (lv' := fun y20 => [(2, .int y20), (0, .ref 41), (1, .int a0), (3, .int x16), (4, .int l4)]) (by decide) rfl (by decide) (fun _ => rfl) (fun y20 hy20 => ?_)
                have ty20 := i_addT hy20.symm
                clear hy20
                refine wa_goto o_X0_isOn_2 (by decide) ?_
                refine wa_pick [1, 2, 0] rfl ?_
                exact ih1 _ (by ((try simp only [vp_in_iff, Int32.lt_iff_toInt_lt, Int32.le_iff_toInt_le, ← Int32.toInt_inj, Int32.reduceToInt, n_1, n_2, n_8, Int32.toNatClampNeg, Int64.lt_iff_toInt_lt, Int64.le_iff_toInt_le, ← Int64.toInt_inj, Int64.reduceToInt, Int32.toInt_toInt64, lg_cmp_ge, lg_cmp_le, lg_cmp_gt, lg_cmp_lt, lg_cmp_eq, Bool.false_eq_true, Bool.true_eq_false, reduceCtorEq, false_iff, true_iff, iff_true, iff_false, and_true, true_and, and_false, false_and, reduceIte, ite_true, ite_false, eq_self] at *)) <;> omega) _ ⟨(by ((try simp only [vp_in_iff, Int32.lt_iff_toInt_lt, Int32.le_iff_toInt_le, ← Int32.toInt_inj, Int32.reduceToInt, n_1, n_2, n_8, Int32.toNatClampNeg, Int64.lt_iff_toInt_lt, Int64.le_iff_toInt_le, ← Int64.toInt_inj, Int64.reduceToInt, Int32.toInt_toInt64, lg_cmp_ge, lg_cmp_le, lg_cmp_gt, lg_cmp_lt, lg_cmp_eq, Bool.false_eq_true, Bool.true_eq_false, reduceCtorEq, false_iff, true_iff, iff_true, iff_false, and_true, true_and, and_false, false_and, reduceIte, ite_true, ite_false, eq_self] at *)) <;> omega), trivial⟩ rfl
              · have mh19 := nle_mx h19
                refine wa_aload_n (i := 0) rfl rfl ?_
                refine wa_getr ck_0 fl_0_44 ly_41 rf_41_0 ?_
                refine wa_iload_n (i := 2) rfl rfl ?_
                refine wa_iload rfl ?_
                refine wa_Vi (d9 := d - 1) [.int _, .int _] [] (sp_X2_atomOf G (d := d - 1) (by omega) σ _ _) (rfl) rfl rfl (zr (by omega)) mk_X2_atomOf ly_7 ml_0_203 (Nat.le_of_ble_eq_true rfl) (fun x22 s21 hs21 => ?_)
                obtain ⟨zs21, -⟩ := pI hs21
                subst zs21
                refine wa_iload_n (i := 1) rfl rfl ?_
                refine wa_icmp_ne o_X0_isOn_67 (by decide) (fun h23 => ?_) (fun h23 => ?_)
                · refine wa_iinc (v := (1)) (lv' := fun y24 => [(4, .int y24), (0, .ref 41), (1, .int a0), (2, .int l2), (3, .int x16)]) (by decide) rfl (by decide) (fun _ => rfl) (fun y24 hy24 => ?_)
                  have ty24 := i_addT hy24.symm
                  clear hy24
                  refine wa_goto o_X0_isOn_45 (by decide) ?_
                  refine wa_pick [1, 2, 3, 4, 0] rfl ?_
                  exact ih17 _ (by ((try simp only [vp_in_iff, Int32.lt_iff_toInt_lt, Int32.le_iff_toInt_le, ← Int32.toInt_inj, Int32.reduceToInt, n_1, n_2, n_8, Int32.toNatClampNeg, Int64.lt_iff_toInt_lt, Int64.le_iff_toInt_le, ← Int64.toInt_inj, Int64.reduceToInt, Int32.toInt_toInt64, lg_cmp_ge, lg_cmp_le, lg_cmp_gt, lg_cmp_lt, lg_cmp_eq, Bool.false_eq_true, Bool.true_eq_false, reduceCtorEq, false_iff, true_iff, iff_true, iff_false, and_true, true_and, and_false, false_and, reduceIte, ite_true, ite_false, eq_self] at *)) <;> omega) _ ⟨(by ((try simp only [vp_in_iff, Int32.lt_iff_toInt_lt, Int32.le_iff_toInt_le, ← Int32.toInt_inj, Int32.reduceToInt, n_1, n_2, n_8, Int32.toNatClampNeg, Int64.lt_iff_toInt_lt, Int64.le_iff_toInt_le, ← Int64.toInt_inj, Int64.reduceToInt, Int32.toInt_toInt64, lg_cmp_ge, lg_cmp_le, lg_cmp_gt, lg_cmp_lt, lg_cmp_eq, Bool.false_eq_true, Bool.true_eq_false, reduceCtorEq, false_iff, true_iff, iff_true, iff_false, and_true, true_and, and_false, false_and, reduceIte, ite_true, ite_false, eq_self] at *)) <;> omega), trivial⟩ rfl
                · refine wa_iconst (v := 1) (by decide) ?_
                  refine wa_zreturn true (rfl) rfl rfl ?_
                  exact ⟨_, rfl, rfl, trivial⟩
          exact hi18 _ _ ⟨(by ((try simp only [vp_in_iff, Int32.lt_iff_toInt_lt, Int32.le_iff_toInt_le, ← Int32.toInt_inj, Int32.reduceToInt, n_1, n_2, n_8, Int32.toNatClampNeg, Int64.lt_iff_toInt_lt, Int64.le_iff_toInt_le, ← Int64.toInt_inj, Int64.reduceToInt, Int32.toInt_toInt64, lg_cmp_ge, lg_cmp_le, lg_cmp_gt, lg_cmp_lt, lg_cmp_eq, Bool.false_eq_true, Bool.true_eq_false, reduceCtorEq, false_iff, true_iff, iff_true, iff_false, and_true, true_and, and_false, false_and, reduceIte, ite_true, ite_false, eq_self] at *)) <;> omega), trivial⟩ rfl
  exact hi2 _ _ ⟨(by ((try simp only [vp_in_iff, Int32.lt_iff_toInt_lt, Int32.le_iff_toInt_le, ← Int32.toInt_inj, Int32.reduceToInt, n_1, n_2, n_8, Int32.toNatClampNeg, Int64.lt_iff_toInt_lt, Int64.le_iff_toInt_le, ← Int64.toInt_inj, Int64.reduceToInt, Int32.toInt_toInt64, lg_cmp_ge, lg_cmp_le, lg_cmp_gt, lg_cmp_lt, lg_cmp_eq, Bool.false_eq_true, Bool.true_eq_false, reduceCtorEq, false_iff, true_iff, iff_true, iff_false, and_true, true_and, and_false, false_and, reduceIte, ite_true, ite_false, eq_self] at *)) <;> omega), trivial⟩ rfl
set_option maxHeartbeats 4000000 in
theorem sp_X0_raise (G : kG9) {d : Nat} (hd : 0 ≤ d) (σ : St) (a0 : Int32) (a1 : Int32) (a2 : Int64) (r1 : 0 ≤ (gi σ 41 15).toInt ∧ (gi σ 41 15).toInt ≤ 1100) : Ct G M_X0_raise d [.ref 41, .int a0, .int a1, .long a2] σ (fun r σ' => Sm 41 51 σ σ' ∧ (0 ≤ (gi σ' 41 15).toInt ∧ (gi σ' 41 15).toInt ≤ 1100) ∧ True) := by
  refine wa_start (by decide) rfl (Nat.le_of_ble_eq_true rfl) (lv := [(0, .ref 41), (1, .int a0), (2, .int a1), (3, .long a2)]) rfl o_X0_raise_0 rfl ?_
  have ua0 := Int32.toInt_lt a0
  have wa0 := Int32.le_toInt a0
  have ua1 := Int32.toInt_lt a1
  have wa1 := Int32.le_toInt a1
  refine wa_aload_n (i := 0) rfl rfl ?_
  refine wa_geti ck_0 fl_0_206 ly_41 ?_
  refine wa_iload_n (i := 1) rfl rfl ?_
  refine wa_icmp_ne o_X0_raise_26 (by decide) (fun h1 => ?_) (fun h1 => ?_)
  · refine wa_aload_n (i := 0) rfl rfl ?_
    refine wa_iload_n (i := 1) rfl rfl ?_
    refine wa_puti ck_0 fl_0_206 ly_41 (fun s2 hs2 => ?_)
    have Fs2 : Sm 41 51 σ s2 := by rw [hs2]; exact Sm.si (Sm.rf 41 51 σ) _ _ (by decide) (by decide)
    refine wa_aload_n (i := 0) rfl rfl ?_
    refine wa_iload_n (i := 2) rfl rfl ?_
    refine wa_puti ck_0 fl_0_209 ly_41 (fun s3 hs3 => ?_)
    have Fs3 : Sm 41 51 σ s3 := by rw [hs3]; exact Sm.si Fs2 _ _ (by decide) (by decide)
    refine wa_aload_n (i := 0) rfl rfl ?_
    refine wa_lload_n (i := 3) rfl rfl ?_
    refine wa_putl ck_0 fl_0_212 ly_41 (fun s4 hs4 => ?_)
    have Fs4 : Sm 41 51 σ s4 := by rw [hs4]; exact Sm.sl Fs3 _ _ (by decide) (by decide)
    refine wa_aload_n (i := 0) rfl rfl ?_
    refine wa_getr ck_0 fl_0_37 ly_41 rf_41_10 ?_
    refine wa_iconst (v := 0) (by decide) ?_
    refine wa_iload_n (i := 1) rfl rfl ?_
    refine wa_i2l ?_
    refine wa_last ly_50 (by ((try simp only [vp_in_iff, Int32.lt_iff_toInt_lt, Int32.le_iff_toInt_le, ← Int32.toInt_inj, Int32.reduceToInt, n_1, n_2, n_8, Int32.toNatClampNeg, Int64.lt_iff_toInt_lt, Int64.le_iff_toInt_le, ← Int64.toInt_inj, Int64.reduceToInt, Int32.toInt_toInt64, lg_cmp_ge, lg_cmp_le, lg_cmp_gt, lg_cmp_lt, lg_cmp_eq, Bool.false_eq_true, Bool.true_eq_false, reduceCtorEq, false_iff, true_iff, iff_true, iff_false, and_true, true_and, and_false, false_and, reduceIte, ite_true, ite_false, eq_self] at *)) <;> omega) (fun s5 hs5 => ?_)
    have Fs5 : Sm 41 51 σ s5 := by rw [hs5]; exact Sm.sl Fs4 _ _ (by decide) (by decide)
    refine wa_aload_n (i := 0) rfl rfl ?_
    refine wa_iconst (v := 1) (by decide) ?_
    refine wa_puti ck_0 fl_0_189 ly_41 (fun s6 hs6 => ?_)
    have Fs6 : Sm 41 51 σ s6 := by rw [hs6]; exact Sm.si Fs5 _ _ (by decide) (by decide)
    refine wa_iconst (v := 0) (by decide) ?_
    refine wa_istoreD (lv' := [(5, .int 0), (0, .ref 41), (1, .int a0), (2, .int a1), (3, .long a2)]) (by decide) rfl ?_
    refine wa_pick [1, 3, 4, 0] rfl ?_
    have hi9 : ∀ (n9_57 : Nat) (l5 : Int32) (s7 : St), ((Sm 41 51 σ s7) ∧ (gi s7 41 18 = a0) ∧ (gi s7 41 16 = a1) ∧ (gl s7 41 17 = a2) ∧ (0 ≤ l5.toInt) ∧ (0 ≤ (gi s7 41 15).toInt ∧ (gi s7 41 15).toInt ≤ 1100) ∧ (True)) → (2147483647 - l5.toInt).toNat = n9_57 → WA G M_X0_raise (ZM G M_X0_raise d (fun r σ' => Sm 41 51 σ σ' ∧ (0 ≤ (gi σ' 41 15).toInt ∧ (gi σ' 41 15).toInt ≤ 1100) ∧ True)) B_X0_raise_57 [(0, .ref 41), (2, .int a1), (3, .long a2), (5, .int l5)] [] s7 := by
      intro n9_57
      induction n9_57 using Nat.strongRecOn with
      | _ n9_57 ih8 =>
        intro l5 s7 i9 m9_57
        obtain ⟨Fs7, khi9_0, khi9_1, khi9_2, jhi9_0, jhi9_1, -⟩ := i9
        have ul5 := Int32.toInt_lt l5
        have wl5 := Int32.le_toInt l5
        refine wa_iload rfl ?_
        refine wa_iconst (v := 2) (by decide) ?_
        refine wa_iload_n (i := 2) rfl rfl ?_
        refine wa_imul ?_
        refine wa_top (fun v10 hv10 => ?_)
        have tv10 := i_mulT hv10
        clear hv10
        refine wa_iconst (v := 1) (by decide) ?_
        refine wa_iadd ?_
        refine wa_top (fun v11 hv11 => ?_)
        have tv11 := i_addT hv11
        clear hv11
        refine wa_icmp_ge o_X0_raise_175 (by decide) (fun h12 => ?_) (fun h12 => ?_)
        · refine wa_return (st := []) rfl rfl ?_
          exact ⟨Fs7, (by first | assumption | (((try simp only [vp_in_iff, Int32.lt_iff_toInt_lt, Int32.le_iff_toInt_le, ← Int32.toInt_inj, Int32.reduceToInt, n_1, n_2, n_8, Int32.toNatClampNeg, Int64.lt_iff_toInt_lt, Int64.le_iff_toInt_le, ← Int64.toInt_inj, Int64.reduceToInt, Int32.toInt_toInt64, lg_cmp_ge, lg_cmp_le, lg_cmp_gt, lg_cmp_lt, lg_cmp_eq, Bool.false_eq_true, Bool.true_eq_false, reduceCtorEq, false_iff, true_iff, iff_true, iff_false, and_true, true_and, and_false, false_and, reduceIte, ite_true, ite_false, eq_self] at *)) <;> omega)), trivial⟩
        · have mh12 := nle_mx h12
          refine wa_lconst (v := 0) (by decide) ?_
          refine wa_lstoreD (lv' := [(6, .long 0), (0, .ref 41), (2, .int a1), (3, .long a2), (5, .int l5)]) (by decide) rfl ?_
          refine wa_iconst (v := 0) (by decide) ?_
          refine wa_istoreD (lv' := [(8, .int 0), (6, .long 0), (0, .ref 41), (2, .int a1), (3, .long a2), (5, .int l5)]) (by decide) rfl ?_
          refine wa_pick [2, 3, 4, 5, 1, 0] rfl ?_
          have hi15 : ∀ (n9_73 : Nat) (l6 : Int64) (l8 : Int32) (s13 : St), ((Sm 41 51 σ s13) ∧ (gi s13 41 15 = gi s7 41 15) ∧ (gi s13 41 18 = a0) ∧ (gi s13 41 16 = a1) ∧ (gl s13 41 17 = a2) ∧ (0 ≤ l8.toInt) ∧ (True)) → (2147483647 - l8.toInt).toNat = n9_73 → WA G M_X0_raise (ZM G M_X0_raise d (fun r σ' => Sm 41 51 σ σ' ∧ (0 ≤ (gi σ' 41 15).toInt ∧ (gi σ' 41 15).toInt ≤ 1100) ∧ True)) B_X0_raise_73 [(0, .ref 41), (2, .int a1), (3, .long a2), (5, .int l5), (6, .long l6), (8, .int l8)] [] s13 := by
            intro n9_73
            induction n9_73 using Nat.strongRecOn with
            | _ n9_73 ih14 =>
              intro l6 l8 s13 i9 m9_73
              obtain ⟨Fs13, khi15_0, khi15_1, khi15_2, khi15_3, jhi15_0, -⟩ := i9
              have ul8 := Int32.toInt_lt l8
              have wl8 := Int32.le_toInt l8
              refine wa_iload rfl ?_
              refine wa_aload_n (i := 0) rfl rfl ?_
              refine wa_geti ck_0 fl_0_189 ly_41 ?_
              refine wa_rw (khi15_0) ?_
              refine wa_icmp_ge o_X0_raise_131 (by decide) (fun h16 => ?_) (fun h16 => ?_)
              · refine wa_lload rfl ?_
                refine wa_lconst (v := 0) (by decide) ?_
                refine wa_lcmp ?_
                refine wa_top (fun v17 hv17 => ?_)
                have tv17 := i_cmpT hv17
                clear hv17
                refine wa_if_le o_X0_raise_169 (by decide) (fun h18 => ?_) (fun h18 => ?_)
                · refine wa_iinc (v := (1)) (lv' := fun y19 => [(5, .int y19), (0, .ref 41), (2, .int a1), (3, .long a2), (6, .long l6), (8, .int l8)]) (by decide) rfl (by decide) (fun _ => rfl) (fun y19 hy19 => ?_)
                  have ty19 := i_addT hy19.symm
                  clear hy19
                  refine wa_goto o_X0_raise_57 (by decide) ?_
                  refine wa_pick [1, 2, 3, 0] rfl ?_
                  exact ih8 _ (by ((try simp only [vp_in_iff, Int32.lt_iff_toInt_lt, Int32.le_iff_toInt_le, ← Int32.toInt_inj, Int32.reduceToInt, n_1, n_2, n_8, Int32.toNatClampNeg, Int64.lt_iff_toInt_lt, Int64.le_iff_toInt_le, ← Int64.toInt_inj, Int64.reduceToInt, Int32.toInt_toInt64, lg_cmp_ge, lg_cmp_le, lg_cmp_gt, lg_cmp_lt, lg_cmp_eq, Bool.false_eq_true, Bool.true_eq_false, reduceCtorEq, false_iff, true_iff, iff_true, iff_false, and_true, true_and, and_false, false_and, reduceIte, ite_true, ite_false, eq_self] at *)) <;> omega) _ _ ⟨Fs13, (khi15_1), (khi15_2), (khi15_3), (by ((try simp only [vp_in_iff, Int32.lt_iff_toInt_lt, Int32.le_iff_toInt_le, ← Int32.toInt_inj, Int32.reduceToInt, n_1, n_2, n_8, Int32.toNatClampNeg, Int64.lt_iff_toInt_lt, Int64.le_iff_toInt_le, ← Int64.toInt_inj, Int64.reduceToInt, Int32.toInt_toInt64, lg_cmp_ge, lg_cmp_le, lg_cmp_gt, lg_cmp_lt, lg_cmp_eq, Bool.false_eq_true, Bool.true_eq_false, reduceCtorEq, false_iff, true_iff, iff_true, iff_false, and_true, true_and, and_false, false_and, reduceIte, ite_true, ite_false, eq_self] at *)) <;> omega), (by rw [khi15_0]; first | assumption | (((try simp only [vp_in_iff, Int32.lt_iff_toInt_lt, Int32.le_iff_toInt_le, ← Int32.toInt_inj, Int32.reduceToInt, n_1, n_2, n_8, Int32.toNatClampNeg, Int64.lt_iff_toInt_lt, Int64.le_iff_toInt_le, ← Int64.toInt_inj, Int64.reduceToInt, Int32.toInt_toInt64, lg_cmp_ge, lg_cmp_le, lg_cmp_gt, lg_cmp_lt, lg_cmp_eq, Bool.false_eq_true, Bool.true_eq_false, reduceCtorEq, false_iff, true_iff, iff_true, iff_false, and_true, true_and, and_false, false_and, reduceIte, ite_true, ite_false, eq_self] at *)) <;> omega)), trivial⟩ rfl
                · refine wa_aload_n (i := 0) rfl rfl ?_
                  refine wa_geti ck_0 fl_0_189 ly_41 ?_
                  refine wa_rw (khi15_0) ?_
                  refine wa_sipush (v := 1100) (by decide) ?_
                  refine wa_icmp_ge o_X0_raise_169 (by decide) (fun h20 => ?_) (fun h20 => ?_)
                  · refine wa_iinc (v := (1)) (lv' := fun y21 => [(5, .int y21), (0, .ref 41), (2, .int a1), (3, .long a2), (6, .long l6), (8, .int l8)]) (by decide) rfl (by decide) (fun _ => rfl) (fun y21 hy21 => ?_)
                    have ty21 := i_addT hy21.symm
                    clear hy21
                    refine wa_goto o_X0_raise_57 (by decide) ?_
                    refine wa_pick [1, 2, 3, 0] rfl ?_
                    exact ih8 _ (by ((try simp only [vp_in_iff, Int32.lt_iff_toInt_lt, Int32.le_iff_toInt_le, ← Int32.toInt_inj, Int32.reduceToInt, n_1, n_2, n_8, Int32.toNatClampNeg, Int64.lt_iff_toInt_lt, Int64.le_iff_toInt_le, ← Int64.toInt_inj, Int64.reduceToInt, Int32.toInt_toInt64, lg_cmp_ge, lg_cmp_le, lg_cmp_gt, lg_cmp_lt, lg_cmp_eq, Bool.false_eq_true, Bool.true_eq_false, reduceCtorEq, false_iff, true_iff, iff_true, iff_false, and_true, true_and, and_false, false_and, reduceIte, ite_true, ite_false, eq_self] at *)) <;> omega) _ _ ⟨Fs13, (khi15_1), (khi15_2), (khi15_3), (by ((try simp only [vp_in_iff, Int32.lt_iff_toInt_lt, Int32.le_iff_toInt_le, ← Int32.toInt_inj, Int32.reduceToInt, n_1, n_2, n_8, Int32.toNatClampNeg, Int64.lt_iff_toInt_lt, Int64.le_iff_toInt_le, ← Int64.toInt_inj, Int64.reduceToInt, Int32.toInt_toInt64, lg_cmp_ge, lg_cmp_le, lg_cmp_gt, lg_cmp_lt, lg_cmp_eq, Bool.false_eq_true, Bool.true_eq_false, reduceCtorEq, false_iff, true_iff, iff_true, iff_false, and_true, true_and, and_false, false_and, reduceIte, ite_true, ite_false, eq_self] at *)) <;> omega), (by rw [khi15_0]; first | assumption | (((try simp only [vp_in_iff, Int32.lt_iff_toInt_lt, Int32.le_iff_toInt_le, ← Int32.toInt_inj, Int32.reduceToInt, n_1, n_2, n_8, Int32.toNatClampNeg, Int64.lt_iff_toInt_lt, Int64.le_iff_toInt_le, ← Int64.toInt_inj, Int64.reduceToInt, Int32.toInt_toInt64, lg_cmp_ge, lg_cmp_le, lg_cmp_gt, lg_cmp_lt, lg_cmp_eq, Bool.false_eq_true, Bool.true_eq_false, reduceCtorEq, false_iff, true_iff, iff_true, iff_false, and_true, true_and, and_false, false_and, reduceIte, ite_true, ite_false, eq_self] at *)) <;> omega)), trivial⟩ rfl
                  · have mh20 := nle_mx h20
                    refine wa_aload_n (i := 0) rfl rfl ?_
                    refine wa_getr ck_0 fl_0_37 ly_41 rf_41_10 ?_
                    refine wa_aload_n (i := 0) rfl rfl ?_
                    refine wa_geti ck_0 fl_0_189 ly_41 ?_
                    refine wa_rw (khi15_0) ?_
                    refine wa_lload rfl ?_
                    refine wa_last ly_50 (by ((try simp only [vp_in_iff, Int32.lt_iff_toInt_lt, Int32.le_iff_toInt_le, ← Int32.toInt_inj, Int32.reduceToInt, n_1, n_2, n_8, Int32.toNatClampNeg, Int64.lt_iff_toInt_lt, Int64.le_iff_toInt_le, ← Int64.toInt_inj, Int64.reduceToInt, Int32.toInt_toInt64, lg_cmp_ge, lg_cmp_le, lg_cmp_gt, lg_cmp_lt, lg_cmp_eq, Bool.false_eq_true, Bool.true_eq_false, reduceCtorEq, false_iff, true_iff, iff_true, iff_false, and_true, true_and, and_false, false_and, reduceIte, ite_true, ite_false, eq_self] at *)) <;> omega) (fun s22 hs22 => ?_)
                    have Fs22 : Sm 41 51 σ s22 := by rw [hs22]; exact Sm.sl Fs13 _ _ (by decide) (by decide)
                    refine wa_aload_n (i := 0) rfl rfl ?_
                    refine wa_dup rfl ?_
                    refine wa_geti ck_0 fl_0_189 ly_41 ?_
                    refine wa_rw ((nx_gi_sl hs22).trans (khi15_0)) ?_
                    refine wa_iconst (v := 1) (by decide) ?_
                    refine wa_iadd ?_
                    refine wa_top (fun v23 hv23 => ?_)
                    have tv23 := i_addT hv23
                    clear hv23
                    refine wa_puti ck_0 fl_0_189 ly_41 (fun s24 hs24 => ?_)
                    have Fs24 : Sm 41 51 σ s24 := by rw [hs24]; exact Sm.si Fs22 _ _ (by decide) (by decide)
                    refine wa_iinc (v := (1)) (lv' := fun y25 => [(5, .int y25), (0, .ref 41), (2, .int a1), (3, .long a2), (6, .long l6), (8, .int l8)]) (by decide) rfl (by decide) (fun _ => rfl) (fun y25 hy25 => ?_)
                    have ty25 := i_addT hy25.symm
                    clear hy25
                    refine wa_goto o_X0_raise_57 (by decide) ?_
                    refine wa_pick [1, 2, 3, 0] rfl ?_
                    exact ih8 _ (by ((try simp only [vp_in_iff, Int32.lt_iff_toInt_lt, Int32.le_iff_toInt_le, ← Int32.toInt_inj, Int32.reduceToInt, n_1, n_2, n_8, Int32.toNatClampNeg, Int64.lt_iff_toInt_lt, Int64.le_iff_toInt_le, ← Int64.toInt_inj, Int64.reduceToInt, Int32.toInt_toInt64, lg_cmp_ge, lg_cmp_le, lg_cmp_gt, lg_cmp_lt, lg_cmp_eq, Bool.false_eq_true, Bool.true_eq_false, reduceCtorEq, false_iff, true_iff, iff_true, iff_false, and_true, true_and, and_false, false_and, reduceIte, ite_true, ite_false, eq_self] at *)) <;> omega) _ _ ⟨Fs24, ((nxk_gi_si hs24 (by decide)).trans ((nx_gi_sl hs22).trans (khi15_1))), ((nxk_gi_si hs24 (by decide)).trans ((nx_gi_sl hs22).trans (khi15_2))), ((nx_gl_si hs24).trans ((nxq_gl_sl hs22 (by decide)).trans (khi15_3))), (by ((try simp only [vp_in_iff, Int32.lt_iff_toInt_lt, Int32.le_iff_toInt_le, ← Int32.toInt_inj, Int32.reduceToInt, n_1, n_2, n_8, Int32.toNatClampNeg, Int64.lt_iff_toInt_lt, Int64.le_iff_toInt_le, ← Int64.toInt_inj, Int64.reduceToInt, Int32.toInt_toInt64, lg_cmp_ge, lg_cmp_le, lg_cmp_gt, lg_cmp_lt, lg_cmp_eq, Bool.false_eq_true, Bool.true_eq_false, reduceCtorEq, false_iff, true_iff, iff_true, iff_false, and_true, true_and, and_false, false_and, reduceIte, ite_true, ite_false, eq_self] at *)) <;> omega), (by rw [nxe_gi_si hs24]; first | assumption | (((try simp only [vp_in_iff, Int32.lt_iff_toInt_lt, Int32.le_iff_toInt_le, ← Int32.toInt_inj, Int32.reduceToInt, n_1, n_2, n_8, Int32.toNatClampNeg, Int64.lt_iff_toInt_lt, Int64.le_iff_toInt_le, ← Int64.toInt_inj, Int64.reduceToInt, Int32.toInt_toInt64, lg_cmp_ge, lg_cmp_le, lg_cmp_gt, lg_cmp_lt, lg_cmp_eq, Bool.false_eq_true, Bool.true_eq_false, reduceCtorEq, false_iff, true_iff, iff_true, iff_false, and_true, true_and, and_false, false_and, reduceIte, ite_true, ite_false, eq_self] at *)) <;> omega)), trivial⟩ rfl
              · have mh16 := nle_mx h16
                refine wa_iload rfl ?_
                refine wa_sipush (v := 1100) (by decide) ?_
                refine wa_icmp_ge o_X0_raise_131 (by decide) (fun h26 => ?_) (fun h26 => ?_)
                · refine wa_lload rfl ?_
                  refine wa_lconst (v := 0) (by decide) ?_
                  refine wa_lcmp ?_
                  refine wa_top (fun v27 hv27 => ?_)
                  have tv27 := i_cmpT hv27
                  clear hv27
                  refine wa_if_le o_X0_raise_169 (by decide) (fun h28 => ?_) (fun h28 => ?_)
                  · refine wa_iinc (v := (1)) (lv' := fun y29 => [(5, .int y29), (0, .ref 41), (2, .int a1), (3, .long a2), (6, .long l6), (8, .int l8)]) (by decide) rfl (by decide) (fun _ => rfl) (fun y29 hy29 => ?_)
                    have ty29 := i_addT hy29.symm
                    clear hy29
                    refine wa_goto o_X0_raise_57 (by decide) ?_
                    refine wa_pick [1, 2, 3, 0] rfl ?_
                    exact ih8 _ (by ((try simp only [vp_in_iff, Int32.lt_iff_toInt_lt, Int32.le_iff_toInt_le, ← Int32.toInt_inj, Int32.reduceToInt, n_1, n_2, n_8, Int32.toNatClampNeg, Int64.lt_iff_toInt_lt, Int64.le_iff_toInt_le, ← Int64.toInt_inj, Int64.reduceToInt, Int32.toInt_toInt64, lg_cmp_ge, lg_cmp_le, lg_cmp_gt, lg_cmp_lt, lg_cmp_eq, Bool.false_eq_true, Bool.true_eq_false, reduceCtorEq, false_iff, true_iff, iff_true, iff_false, and_true, true_and, and_false, false_and, reduceIte, ite_true, ite_false, eq_self] at *)) <;> omega) _ _ ⟨Fs13, (khi15_1), (khi15_2), (khi15_3), (by ((try simp only [vp_in_iff, Int32.lt_iff_toInt_lt, Int32.le_iff_toInt_le, ← Int32.toInt_inj, Int32.reduceToInt, n_1, n_2, n_8, Int32.toNatClampNeg, Int64.lt_iff_toInt_lt, Int64.le_iff_toInt_le, ← Int64.toInt_inj, Int64.reduceToInt, Int32.toInt_toInt64, lg_cmp_ge, lg_cmp_le, lg_cmp_gt, lg_cmp_lt, lg_cmp_eq, Bool.false_eq_true, Bool.true_eq_false, reduceCtorEq, false_iff, true_iff, iff_true, iff_false, and_true, true_and, and_false, false_and, reduceIte, ite_true, ite_false, eq_self] at *)) <;> omega), (by rw [khi15_0]; first | assumption | (((try simp only [vp_in_iff, Int32.lt_iff_toInt_lt, Int32.le_iff_toInt_le, ← Int32.toInt_inj, Int32.reduceToInt, n_1, n_2, n_8, Int32.toNatClampNeg, Int64.lt_iff_toInt_lt, Int64.le_iff_toInt_le, ← Int64.toInt_inj, Int64.reduceToInt, Int32.toInt_toInt64, lg_cmp_ge, lg_cmp_le, lg_cmp_gt, lg_cmp_lt, lg_cmp_eq, Bool.false_eq_true, Bool.true_eq_false, reduceCtorEq, false_iff, true_iff, iff_true, iff_false, and_true, true_and, and_false, false_and, reduceIte, ite_true, ite_false, eq_self] at *)) <;> omega)), trivial⟩ rfl
                  · refine wa_aload_n (i := 0) rfl rfl ?_
                    refine wa_geti ck_0 fl_0_189 ly_41 ?_
                    refine wa_rw (khi15_0) ?_
                    refine wa_sipush (v := 1100) (by decide) ?_
                    refine wa_icmp_ge o_X0_raise_169 (by decide) (fun h30 => ?_) (fun h30 => ?_)
                    · refine wa_iinc (v := (1)) (lv' := fun y31 => [(5, .int y31), (0, .ref 41), (2, .int a1), (3, .long a2), (6, .long l6), (8, .int l8)]) (by decide) rfl (by decide) (fun _ => rfl) (fun y31 hy31 => ?_)
                      have ty31 := i_addT hy31.symm
                      clear hy31
                      refine wa_goto o_X0_raise_57 (by decide) ?_
                      refine wa_pick [1, 2, 3, 0] rfl ?_
                      exact ih8 _ (by ((try simp only [vp_in_iff, Int32.lt_iff_toInt_lt, Int32.le_iff_toInt_le, ← Int32.toInt_inj, Int32.reduceToInt, n_1, n_2, n_8, Int32.toNatClampNeg, Int64.lt_iff_toInt_lt, Int64.le_iff_toInt_le, ← Int64.toInt_inj, Int64.reduceToInt, Int32.toInt_toInt64, lg_cmp_ge, lg_cmp_le, lg_cmp_gt, lg_cmp_lt, lg_cmp_eq, Bool.false_eq_true, Bool.true_eq_false, reduceCtorEq, false_iff, true_iff, iff_true, iff_false, and_true, true_and, and_false, false_and, reduceIte, ite_true, ite_false, eq_self] at *)) <;> omega) _ _ ⟨Fs13, (khi15_1), (khi15_2), (khi15_3), (by ((try simp only [vp_in_iff, Int32.lt_iff_toInt_lt, Int32.le_iff_toInt_le, ← Int32.toInt_inj, Int32.reduceToInt, n_1, n_2, n_8, Int32.toNatClampNeg, Int64.lt_iff_toInt_lt, Int64.le_iff_toInt_le, ← Int64.toInt_inj, Int64.reduceToInt, Int32.toInt_toInt64, lg_cmp_ge, lg_cmp_le, lg_cmp_gt, lg_cmp_lt, lg_cmp_eq, Bool.false_eq_true, Bool.true_eq_false, reduceCtorEq, false_iff, true_iff, iff_true, iff_false, and_true, true_and, and_false, false_and, reduceIte, ite_true, ite_false, eq_self] at *)) <;> omega), (by rw [khi15_0]; first | assumption | (((try simp only [vp_in_iff, Int32.lt_iff_toInt_lt, Int32.le_iff_toInt_le, ← Int32.toInt_inj, Int32.reduceToInt, n_1, n_2, n_8, Int32.toNatClampNeg, Int64.lt_iff_toInt_lt, Int64.le_iff_toInt_le, ← Int64.toInt_inj, Int64.reduceToInt, Int32.toInt_toInt64, lg_cmp_ge, lg_cmp_le, lg_cmp_gt, lg_cmp_lt, lg_cmp_eq, Bool.false_eq_true, Bool.true_eq_false, reduceCtorEq, false_iff, true_iff, iff_true, iff_false, and_true, true_and, and_false, false_and, reduceIte, ite_true, ite_false, eq_self] at *)) <;> omega)), trivial⟩ rfl
                    · have mh30 := nle_mx h30
                      refine wa_aload_n (i := 0) rfl rfl ?_
                      refine wa_getr ck_0 fl_0_37 ly_41 rf_41_10 ?_
                      refine wa_aload_n (i := 0) rfl rfl ?_
                      refine wa_geti ck_0 fl_0_189 ly_41 ?_
                      refine wa_rw (khi15_0) ?_
                      refine wa_lload rfl ?_
                      refine wa_last ly_50 (by ((try simp only [vp_in_iff, Int32.lt_iff_toInt_lt, Int32.le_iff_toInt_le, ← Int32.toInt_inj, Int32.reduceToInt, n_1, n_2, n_8, Int32.toNatClampNeg, Int64.lt_iff_toInt_lt, Int64.le_iff_toInt_le, ← Int64.toInt_inj, Int64.reduceToInt, Int32.toInt_toInt64, lg_cmp_ge, lg_cmp_le, lg_cmp_gt, lg_cmp_lt, lg_cmp_eq, Bool.false_eq_true, Bool.true_eq_false, reduceCtorEq, false_iff, true_iff, iff_true, iff_false, and_true, true_and, and_false, false_and, reduceIte, ite_true, ite_false, eq_self] at *)) <;> omega) (fun s32 hs32 => ?_)
                      have Fs32 : Sm 41 51 σ s32 := by rw [hs32]; exact Sm.sl Fs13 _ _ (by decide) (by decide)
                      refine wa_aload_n (i := 0) rfl rfl ?_
                      refine wa_dup rfl ?_
                      refine wa_geti ck_0 fl_0_189 ly_41 ?_
                      refine wa_rw ((nx_gi_sl hs32).trans (khi15_0)) ?_
                      refine wa_iconst (v := 1) (by decide) ?_
                      refine wa_iadd ?_
                      refine wa_top (fun v33 hv33 => ?_)
                      have tv33 := i_addT hv33
                      clear hv33
                      refine wa_puti ck_0 fl_0_189 ly_41 (fun s34 hs34 => ?_)
                      have Fs34 : Sm 41 51 σ s34 := by rw [hs34]; exact Sm.si Fs32 _ _ (by decide) (by decide)
                      refine wa_iinc (v := (1)) (lv' := fun y35 => [(5, .int y35), (0, .ref 41), (2, .int a1), (3, .long a2), (6, .long l6), (8, .int l8)]) (by decide) rfl (by decide) (fun _ => rfl) (fun y35 hy35 => ?_)
                      have ty35 := i_addT hy35.symm
                      clear hy35
                      refine wa_goto o_X0_raise_57 (by decide) ?_
                      refine wa_pick [1, 2, 3, 0] rfl ?_
                      exact ih8 _ (by ((try simp only [vp_in_iff, Int32.lt_iff_toInt_lt, Int32.le_iff_toInt_le, ← Int32.toInt_inj, Int32.reduceToInt, n_1, n_2, n_8, Int32.toNatClampNeg, Int64.lt_iff_toInt_lt, Int64.le_iff_toInt_le, ← Int64.toInt_inj, Int64.reduceToInt, Int32.toInt_toInt64, lg_cmp_ge, lg_cmp_le, lg_cmp_gt, lg_cmp_lt, lg_cmp_eq, Bool.false_eq_true, Bool.true_eq_false, reduceCtorEq, false_iff, true_iff, iff_true, iff_false, and_true, true_and, and_false, false_and, reduceIte, ite_true, ite_false, eq_self] at *)) <;> omega) _ _ ⟨Fs34, ((nxk_gi_si hs34 (by decide)).trans ((nx_gi_sl hs32).trans (khi15_1))), ((nxk_gi_si hs34 (by decide)).trans ((nx_gi_sl hs32).trans (khi15_2))), ((nx_gl_si hs34).trans ((nxq_gl_sl hs32 (by decide)).trans (khi15_3))), (by ((try simp only [vp_in_iff, Int32.lt_iff_toInt_lt, Int32.le_iff_toInt_le, ← Int32.toInt_inj, Int32.reduceToInt, n_1, n_2, n_8, Int32.toNatClampNeg, Int64.lt_iff_toInt_lt, Int64.le_iff_toInt_le, ← Int64.toInt_inj, Int64.reduceToInt, Int32.toInt_toInt64, lg_cmp_ge, lg_cmp_le, lg_cmp_gt, lg_cmp_lt, lg_cmp_eq, Bool.false_eq_true, Bool.true_eq_false, reduceCtorEq, false_iff, true_iff, iff_true, iff_false, and_true, true_and, and_false, false_and, reduceIte, ite_true, ite_false, eq_self] at *)) <;> omega), (by rw [nxe_gi_si hs34]; first | assumption | (((try simp only [vp_in_iff, Int32.lt_iff_toInt_lt, Int32.le_iff_toInt_le, ← Int32.toInt_inj, Int32.reduceToInt, n_1, n_2, n_8, Int32.toNatClampNeg, Int64.lt_iff_toInt_lt, Int64.le_iff_toInt_le, ← Int64.toInt_inj, Int64.reduceToInt, Int32.toInt_toInt64, lg_cmp_ge, lg_cmp_le, lg_cmp_gt, lg_cmp_lt, lg_cmp_eq, Bool.false_eq_true, Bool.true_eq_false, reduceCtorEq, false_iff, true_iff, iff_true, iff_false, and_true, true_and, and_false, false_and, reduceIte, ite_true, ite_false, eq_self] at *)) <;> omega)), trivial⟩ rfl
                · have mh26 := nle_mx h26
                  refine wa_aload_n (i := 0) rfl rfl ?_
                  refine wa_getr ck_0 fl_0_37 ly_41 rf_41_10 ?_
                  refine wa_iload rfl ?_
                  refine wa_lald ly_50 (by ((try simp only [vp_in_iff, Int32.lt_iff_toInt_lt, Int32.le_iff_toInt_le, ← Int32.toInt_inj, Int32.reduceToInt, n_1, n_2, n_8, Int32.toNatClampNeg, Int64.lt_iff_toInt_lt, Int64.le_iff_toInt_le, ← Int64.toInt_inj, Int64.reduceToInt, Int32.toInt_toInt64, lg_cmp_ge, lg_cmp_le, lg_cmp_gt, lg_cmp_lt, lg_cmp_eq, Bool.false_eq_true, Bool.true_eq_false, reduceCtorEq, false_iff, true_iff, iff_true, iff_false, and_true, true_and, and_false, false_and, reduceIte, ite_true, ite_false, eq_self] at *)) <;> omega) ?_
                  refine wa_lload_n (i := 3) rfl rfl ?_
                  refine wa_lmul ?_
                  refine wa_topl (fun v36 hv36 => ?_)
                  clear hv36
                  refine wa_lload rfl ?_
                  refine wa_ladd ?_
                  refine wa_topl (fun v37 hv37 => ?_)
                  clear hv37
                  refine wa_lstoreD (lv' := [(9, .long v37), (0, .ref 41), (2, .int a1), (3, .long a2), (5, .int l5), (6, .long l6), (8, .int l8)]) (by decide) rfl ?_
                  refine wa_aload_n (i := 0) rfl rfl ?_
                  refine wa_getr ck_0 fl_0_37 ly_41 rf_41_10 ?_
                  refine wa_iload rfl ?_
                  refine wa_lload rfl ?_
                  refine wa_ldc2 (v := (1000000000)) (allW_in (kT_7 _ (List.mem_of_getElem? (i := 46) rfl)) rfl) ?_
                  refine wa_lrem (by ((try simp only [vp_in_iff, Int32.lt_iff_toInt_lt, Int32.le_iff_toInt_le, ← Int32.toInt_inj, Int32.reduceToInt, n_1, n_2, n_8, Int32.toNatClampNeg, Int64.lt_iff_toInt_lt, Int64.le_iff_toInt_le, ← Int64.toInt_inj, Int64.reduceToInt, Int32.toInt_toInt64, lg_cmp_ge, lg_cmp_le, lg_cmp_gt, lg_cmp_lt, lg_cmp_eq, Bool.false_eq_true, Bool.true_eq_false, reduceCtorEq, false_iff, true_iff, iff_true, iff_false, and_true, true_and, and_false, false_and, reduceIte, ite_true, ite_false, eq_self] at *)) <;> omega) ?_
                  refine wa_topl (fun v38 hv38 => ?_)
                  clear hv38
                  refine wa_last ly_50 (by ((try simp only [vp_in_iff, Int32.lt_iff_toInt_lt, Int32.le_iff_toInt_le, ← Int32.toInt_inj, Int32.reduceToInt, n_1, n_2, n_8, Int32.toNatClampNeg, Int64.lt_iff_toInt_lt, Int64.le_iff_toInt_le, ← Int64.toInt_inj, Int64.reduceToInt, Int32.toInt_toInt64, lg_cmp_ge, lg_cmp_le, lg_cmp_gt, lg_cmp_lt, lg_cmp_eq, Bool.false_eq_true, Bool.true_eq_false, reduceCtorEq, false_iff, true_iff, iff_true, iff_false, and_true, true_and, and_false, false_and, reduceIte, ite_true, ite_false, eq_self] at *)) <;> omega) (fun s39 hs39 => ?_)
                  have Fs39 : Sm 41 51 σ s39 := by rw [hs39]; exact Sm.sl Fs13 _ _ (by decide) (by decide)
                  refine wa_lload rfl ?_
                  refine wa_ldc2 (v := (1000000000)) (allW_in (kT_7 _ (List.mem_of_getElem? (i := 46) rfl)) rfl) ?_
                  refine wa_ldiv (by ((try simp only [vp_in_iff, Int32.lt_iff_toInt_lt, Int32.le_iff_toInt_le, ← Int32.toInt_inj, Int32.reduceToInt, n_1, n_2, n_8, Int32.toNatClampNeg, Int64.lt_iff_toInt_lt, Int64.le_iff_toInt_le, ← Int64.toInt_inj, Int64.reduceToInt, Int32.toInt_toInt64, lg_cmp_ge, lg_cmp_le, lg_cmp_gt, lg_cmp_lt, lg_cmp_eq, Bool.false_eq_true, Bool.true_eq_false, reduceCtorEq, false_iff, true_iff, iff_true, iff_false, and_true, true_and, and_false, false_and, reduceIte, ite_true, ite_false, eq_self] at *)) <;> omega) ?_
                  refine wa_topl (fun v40 hv40 => ?_)
                  clear hv40
                  refine wa_lstoreD (lv' := [(6, .long v40), (9, .long v37), (0, .ref 41), (2, .int a1), (3, .long a2), (5, .int l5), (8, .int l8)]) (by decide) rfl ?_
                  refine wa_iinc (v := (1)) (lv' := fun y41 => [(8, .int y41), (6, .long v40), (9, .long v37), (0, .ref 41), (2, .int a1), (3, .long a2), (5, .int l5)]) (by decide) rfl (by decide) (fun _ => rfl) (fun y41 hy41 => ?_)
                  have ty41 := i_addT hy41.symm
                  clear hy41
                  refine wa_goto o_X0_raise_73 (by decide) ?_
                  refine wa_pick [3, 4, 5, 6, 1, 0] rfl ?_
                  exact ih14 _ (by ((try simp only [vp_in_iff, Int32.lt_iff_toInt_lt, Int32.le_iff_toInt_le, ← Int32.toInt_inj, Int32.reduceToInt, n_1, n_2, n_8, Int32.toNatClampNeg, Int64.lt_iff_toInt_lt, Int64.le_iff_toInt_le, ← Int64.toInt_inj, Int64.reduceToInt, Int32.toInt_toInt64, lg_cmp_ge, lg_cmp_le, lg_cmp_gt, lg_cmp_lt, lg_cmp_eq, Bool.false_eq_true, Bool.true_eq_false, reduceCtorEq, false_iff, true_iff, iff_true, iff_false, and_true, true_and, and_false, false_and, reduceIte, ite_true, ite_false, eq_self] at *)) <;> omega) _ _ _ ⟨Fs39, ((nx_gi_sl hs39).trans (khi15_0)), ((nx_gi_sl hs39).trans (khi15_1)), ((nx_gi_sl hs39).trans (khi15_2)), ((nxq_gl_sl hs39 (by decide)).trans (khi15_3)), (by ((try simp only [vp_in_iff, Int32.lt_iff_toInt_lt, Int32.le_iff_toInt_le, ← Int32.toInt_inj, Int32.reduceToInt, n_1, n_2, n_8, Int32.toNatClampNeg, Int64.lt_iff_toInt_lt, Int64.le_iff_toInt_le, ← Int64.toInt_inj, Int64.reduceToInt, Int32.toInt_toInt64, lg_cmp_ge, lg_cmp_le, lg_cmp_gt, lg_cmp_lt, lg_cmp_eq, Bool.false_eq_true, Bool.true_eq_false, reduceCtorEq, false_iff, true_iff, iff_true, iff_false, and_true, true_and, and_false, false_and, reduceIte, ite_true, ite_false, eq_self] at *)) <;> omega), trivial⟩ rfl
          exact hi15 _ _ _ _ ⟨Fs7, (rfl), (khi9_0), (khi9_1), (khi9_2), (by ((try simp only [vp_in_iff, Int32.lt_iff_toInt_lt, Int32.le_iff_toInt_le, ← Int32.toInt_inj, Int32.reduceToInt, n_1, n_2, n_8, Int32.toNatClampNeg, Int64.lt_iff_toInt_lt, Int64.le_iff_toInt_le, ← Int64.toInt_inj, Int64.reduceToInt, Int32.toInt_toInt64, lg_cmp_ge, lg_cmp_le, lg_cmp_gt, lg_cmp_lt, lg_cmp_eq, Bool.false_eq_true, Bool.true_eq_false, reduceCtorEq, false_iff, true_iff, iff_true, iff_false, and_true, true_and, and_false, false_and, reduceIte, ite_true, ite_false, eq_self] at *)) <;> omega), trivial⟩ rfl
    exact hi9 _ _ _ ⟨Fs6, ((nxk_gi_si hs6 (by decide)).trans ((nx_gi_sl hs5).trans ((nx_gi_sl hs4).trans ((nxk_gi_si hs3 (by decide)).trans (nxe_gi_si hs2))))), ((nxk_gi_si hs6 (by decide)).trans ((nx_gi_sl hs5).trans ((nx_gi_sl hs4).trans (nxe_gi_si hs3)))), ((nx_gl_si hs6).trans ((nxq_gl_sl hs5 (by decide)).trans (nxe_gl_sl hs4))), (by ((try simp only [vp_in_iff, Int32.lt_iff_toInt_lt, Int32.le_iff_toInt_le, ← Int32.toInt_inj, Int32.reduceToInt, n_1, n_2, n_8, Int32.toNatClampNeg, Int64.lt_iff_toInt_lt, Int64.le_iff_toInt_le, ← Int64.toInt_inj, Int64.reduceToInt, Int32.toInt_toInt64, lg_cmp_ge, lg_cmp_le, lg_cmp_gt, lg_cmp_lt, lg_cmp_eq, Bool.false_eq_true, Bool.true_eq_false, reduceCtorEq, false_iff, true_iff, iff_true, iff_false, and_true, true_and, and_false, false_and, reduceIte, ite_true, ite_false, eq_self] at *)) <;> omega), (by rw [nxe_gi_si hs6]; first | assumption | (((try simp only [vp_in_iff, Int32.lt_iff_toInt_lt, Int32.le_iff_toInt_le, ← Int32.toInt_inj, Int32.reduceToInt, n_1, n_2, n_8, Int32.toNatClampNeg, Int64.lt_iff_toInt_lt, Int64.le_iff_toInt_le, ← Int64.toInt_inj, Int64.reduceToInt, Int32.toInt_toInt64, lg_cmp_ge, lg_cmp_le, lg_cmp_gt, lg_cmp_lt, lg_cmp_eq, Bool.false_eq_true, Bool.true_eq_false, reduceCtorEq, false_iff, true_iff, iff_true, iff_false, and_true, true_and, and_false, false_and, reduceIte, ite_true, ite_false, eq_self] at *)) <;> omega)), trivial⟩ rfl
  · refine wa_aload_n (i := 0) rfl rfl ?_
    refine wa_geti ck_0 fl_0_209 ly_41 ?_
    refine wa_iload_n (i := 2) rfl rfl ?_
    refine wa_icmp_ne o_X0_raise_26 (by decide) (fun h42 => ?_) (fun h42 => ?_)
    · refine wa_aload_n (i := 0) rfl rfl ?_
      refine wa_iload_n (i := 1) rfl rfl ?_
      refine wa_puti ck_0 fl_0_206 ly_41 (fun s43 hs43 => ?_)
      have Fs43 : Sm 41 51 σ s43 := by rw [hs43]; exact Sm.si (Sm.rf 41 51 σ) _ _ (by decide) (by decide)
      refine wa_aload_n (i := 0) rfl rfl ?_
      refine wa_iload_n (i := 2) rfl rfl ?_
      refine wa_puti ck_0 fl_0_209 ly_41 (fun s44 hs44 => ?_)
      have Fs44 : Sm 41 51 σ s44 := by rw [hs44]; exact Sm.si Fs43 _ _ (by decide) (by decide)
      refine wa_aload_n (i := 0) rfl rfl ?_
      refine wa_lload_n (i := 3) rfl rfl ?_
      refine wa_putl ck_0 fl_0_212 ly_41 (fun s45 hs45 => ?_)
      have Fs45 : Sm 41 51 σ s45 := by rw [hs45]; exact Sm.sl Fs44 _ _ (by decide) (by decide)
      refine wa_aload_n (i := 0) rfl rfl ?_
      refine wa_getr ck_0 fl_0_37 ly_41 rf_41_10 ?_
      refine wa_iconst (v := 0) (by decide) ?_
      refine wa_iload_n (i := 1) rfl rfl ?_
      refine wa_i2l ?_
      refine wa_last ly_50 (by ((try simp only [vp_in_iff, Int32.lt_iff_toInt_lt, Int32.le_iff_toInt_le, ← Int32.toInt_inj, Int32.reduceToInt, n_1, n_2, n_8, Int32.toNatClampNeg, Int64.lt_iff_toInt_lt, Int64.le_iff_toInt_le, ← Int64.toInt_inj, Int64.reduceToInt, Int32.toInt_toInt64, lg_cmp_ge, lg_cmp_le, lg_cmp_gt, lg_cmp_lt, lg_cmp_eq, Bool.false_eq_true, Bool.true_eq_false, reduceCtorEq, false_iff, true_iff, iff_true, iff_false, and_true, true_and, and_false, false_and, reduceIte, ite_true, ite_false, eq_self] at *)) <;> omega) (fun s46 hs46 => ?_)
      have Fs46 : Sm 41 51 σ s46 := by rw [hs46]; exact Sm.sl Fs45 _ _ (by decide) (by decide)
      refine wa_aload_n (i := 0) rfl rfl ?_
      refine wa_iconst (v := 1) (by decide) ?_
      refine wa_puti ck_0 fl_0_189 ly_41 (fun s47 hs47 => ?_)
      have Fs47 : Sm 41 51 σ s47 := by rw [hs47]; exact Sm.si Fs46 _ _ (by decide) (by decide)
      refine wa_iconst (v := 0) (by decide) ?_
      refine wa_istoreD (lv' := [(5, .int 0), (0, .ref 41), (1, .int a0), (2, .int a1), (3, .long a2)]) (by decide) rfl ?_
      refine wa_pick [1, 3, 4, 0] rfl ?_
      have hi50 : ∀ (n9_57 : Nat) (l5 : Int32) (s48 : St), ((Sm 41 51 σ s48) ∧ (gi s48 41 18 = a0) ∧ (gi s48 41 16 = a1) ∧ (gl s48 41 17 = a2) ∧ (0 ≤ l5.toInt) ∧ (0 ≤ (gi s48 41 15).toInt ∧ (gi s48 41 15).toInt ≤ 1100) ∧ (True)) → (2147483647 - l5.toInt).toNat = n9_57 → WA G M_X0_raise (ZM G M_X0_raise d (fun r σ' => Sm 41 51 σ σ' ∧ (0 ≤ (gi σ' 41 15).toInt ∧ (gi σ' 41 15).toInt ≤ 1100) ∧ True)) B_X0_raise_57 [(0, .ref 41), (2, .int a1), (3, .long a2), (5, .int l5)] [] s48 := by
        intro n9_57
        induction n9_57 using Nat.strongRecOn with
        | _ n9_57 ih49 =>
          intro l5 s48 i9 m9_57
          obtain ⟨Fs48, khi50_0, khi50_1, khi50_2, jhi50_0, jhi50_1, -⟩ := i9
          have ul5 := Int32.toInt_lt l5
          have wl5 := Int32.le_toInt l5
          refine wa_iload rfl ?_
          refine wa_iconst (v := 2) (by decide) ?_
          refine wa_iload_n (i := 2) rfl rfl ?_
          refine wa_imul ?_
          refine wa_top (fun v51 hv51 => ?_)
          have tv51 := i_mulT hv51
          clear hv51
          refine wa_iconst (v := 1) (by decide) ?_
          refine wa_iadd ?_
          refine wa_top (fun v52 hv52 => ?_)
          have tv52 := i_addT hv52
          clear hv52
          refine wa_icmp_ge o_X0_raise_175 (by decide) (fun h53 => ?_) (fun h53 => ?_)
          · refine wa_return (st := []) rfl rfl ?_
            exact ⟨Fs48, (by first | assumption | (((try simp only [vp_in_iff, Int32.lt_iff_toInt_lt, Int32.le_iff_toInt_le, ← Int32.toInt_inj, Int32.reduceToInt, n_1, n_2, n_8, Int32.toNatClampNeg, Int64.lt_iff_toInt_lt, Int64.le_iff_toInt_le, ← Int64.toInt_inj, Int64.reduceToInt, Int32.toInt_toInt64, lg_cmp_ge, lg_cmp_le, lg_cmp_gt, lg_cmp_lt, lg_cmp_eq, Bool.false_eq_true, Bool.true_eq_false, reduceCtorEq, false_iff, true_iff, iff_true, iff_false, and_true, true_and, and_false, false_and, reduceIte, ite_true, ite_false, eq_self] at *)) <;> omega)), trivial⟩
          · have mh53 := nle_mx h53
            refine wa_lconst (v := 0) (by decide) ?_
            refine wa_lstoreD (lv' := [(6, .long 0), (0, .ref 41), (2, .int a1), (3, .long a2), (5, .int l5)]) (by decide) rfl ?_
            refine wa_iconst (v := 0) (by decide) ?_
            refine wa_istoreD (lv' := [(8, .int 0), (6, .long 0), (0, .ref 41), (2, .int a1), (3, .long a2), (5, .int l5)]) (by decide) rfl ?_
            refine wa_pick [2, 3, 4, 5, 1, 0] rfl ?_
            have hi56 : ∀ (n9_73 : Nat) (l6 : Int64) (l8 : Int32) (s54 : St), ((Sm 41 51 σ s54) ∧ (gi s54 41 15 = gi s48 41 15) ∧ (gi s54 41 18 = a0) ∧ (gi s54 41 16 = a1) ∧ (gl s54 41 17 = a2) ∧ (0 ≤ l8.toInt) ∧ (True)) → (2147483647 - l8.toInt).toNat = n9_73 → WA G M_X0_raise (ZM G M_X0_raise d (fun r σ' => Sm 41 51 σ σ' ∧ (0 ≤ (gi σ' 41 15).toInt ∧ (gi σ' 41 15).toInt ≤ 1100) ∧ True)) B_X0_raise_73 [(0, .ref 41), (2, .int a1), (3, .long a2), (5, .int l5), (6, .long l6), (8, .int l8)] [] s54 := by
              intro n9_73
              induction n9_73 using Nat.strongRecOn with
              | _ n9_73 ih55 =>
                intro l6 l8 s54 i9 m9_73
                obtain ⟨Fs54, khi56_0, khi56_1, khi56_2, khi56_3, jhi56_0, -⟩ := i9
                have ul8 := Int32.toInt_lt l8
                have wl8 := Int32.le_toInt l8
                refine wa_iload rfl ?_
                refine wa_aload_n (i := 0) rfl rfl ?_
                refine wa_geti ck_0 fl_0_189 ly_41 ?_
                refine wa_rw (khi56_0) ?_
                refine wa_icmp_ge o_X0_raise_131 (by decide) (fun h57 => ?_) (fun h57 => ?_)
                · refine wa_lload rfl ?_
                  refine wa_lconst (v := 0) (by decide) ?_
                  refine wa_lcmp ?_
                  refine wa_top (fun v58 hv58 => ?_)
                  have tv58 := i_cmpT hv58
                  clear hv58
                  refine wa_if_le o_X0_raise_169 (by decide) (fun h59 => ?_) (fun h59 => ?_)
                  · refine wa_iinc (v := (1)) (lv' := fun y60 => [(5, .int y60), (0, .ref 41), (2, .int a1), (3, .long a2), (6, .long l6), (8, .int l8)]) (by decide) rfl (by decide) (fun _ => rfl) (fun y60 hy60 => ?_)
                    have ty60 := i_addT hy60.symm
                    clear hy60
                    refine wa_goto o_X0_raise_57 (by decide) ?_
                    refine wa_pick [1, 2, 3, 0] rfl ?_
                    exact ih49 _ (by ((try simp only [vp_in_iff, Int32.lt_iff_toInt_lt, Int32.le_iff_toInt_le, ← Int32.toInt_inj, Int32.reduceToInt, n_1, n_2, n_8, Int32.toNatClampNeg, Int64.lt_iff_toInt_lt, Int64.le_iff_toInt_le, ← Int64.toInt_inj, Int64.reduceToInt, Int32.toInt_toInt64, lg_cmp_ge, lg_cmp_le, lg_cmp_gt, lg_cmp_lt, lg_cmp_eq, Bool.false_eq_true, Bool.true_eq_false, reduceCtorEq, false_iff, true_iff, iff_true, iff_false, and_true, true_and, and_false, false_and, reduceIte, ite_true, ite_false, eq_self] at *)) <;> omega) _ _ ⟨Fs54, (khi56_1), (khi56_2), (khi56_3), (by ((try simp only [vp_in_iff, Int32.lt_iff_toInt_lt, Int32.le_iff_toInt_le, ← Int32.toInt_inj, Int32.reduceToInt, n_1, n_2, n_8, Int32.toNatClampNeg, Int64.lt_iff_toInt_lt, Int64.le_iff_toInt_le, ← Int64.toInt_inj, Int64.reduceToInt, Int32.toInt_toInt64, lg_cmp_ge, lg_cmp_le, lg_cmp_gt, lg_cmp_lt, lg_cmp_eq, Bool.false_eq_true, Bool.true_eq_false, reduceCtorEq, false_iff, true_iff, iff_true, iff_false, and_true, true_and, and_false, false_and, reduceIte, ite_true, ite_false, eq_self] at *)) <;> omega), (by rw [khi56_0]; first | assumption | (((try simp only [vp_in_iff, Int32.lt_iff_toInt_lt, Int32.le_iff_toInt_le, ← Int32.toInt_inj, Int32.reduceToInt, n_1, n_2, n_8, Int32.toNatClampNeg, Int64.lt_iff_toInt_lt, Int64.le_iff_toInt_le, ← Int64.toInt_inj, Int64.reduceToInt, Int32.toInt_toInt64, lg_cmp_ge, lg_cmp_le, lg_cmp_gt, lg_cmp_lt, lg_cmp_eq, Bool.false_eq_true, Bool.true_eq_false, reduceCtorEq, false_iff, true_iff, iff_true, iff_false, and_true, true_and, and_false, false_and, reduceIte, ite_true, ite_false, eq_self] at *)) <;> omega)), trivial⟩ rfl
                  · refine wa_aload_n (i := 0) rfl rfl ?_
                    refine wa_geti ck_0 fl_0_189 ly_41 ?_
                    refine wa_rw (khi56_0) ?_
                    refine wa_sipush (v := 1100) (by decide) ?_
                    refine wa_icmp_ge o_X0_raise_169 (by decide) (fun h61 => ?_) (fun h61 => ?_)
                    · refine wa_iinc (v := (1)) (lv' := fun y62 => [(5, .int y62), (0, .ref 41), (2, .int a1), (3, .long a2), (6, .long l6), (8, .int l8)]) (by decide) rfl (by decide) (fun _ => rfl) (fun y62 hy62 => ?_)
                      have ty62 := i_addT hy62.symm
                      clear hy62
                      refine wa_goto o_X0_raise_57 (by decide) ?_
                      refine wa_pick [1, 2, 3, 0] rfl ?_
                      exact ih49 _ (by ((try simp only [vp_in_iff, Int32.lt_iff_toInt_lt, Int32.le_iff_toInt_le, ← Int32.toInt_inj, Int32.reduceToInt, n_1, n_2, n_8, Int32.toNatClampNeg, Int64.lt_iff_toInt_lt, Int64.le_iff_toInt_le, ← Int64.toInt_inj, Int64.reduceToInt, Int32.toInt_toInt64, lg_cmp_ge, lg_cmp_le, lg_cmp_gt, lg_cmp_lt, lg_cmp_eq, Bool.false_eq_true, Bool.true_eq_false, reduceCtorEq, false_iff, true_iff, iff_true, iff_false, and_true, true_and, and_false, false_and, reduceIte, ite_true, ite_false, eq_self] at *)) <;> omega) _ _ ⟨Fs54, (khi56_1), (khi56_2), (khi56_3), (by ((try simp only [vp_in_iff, Int32.lt_iff_toInt_lt, Int32.le_iff_toInt_le, ← Int32.toInt_inj, Int32.reduceToInt, n_1, n_2, n_8, Int32.toNatClampNeg, Int64.lt_iff_toInt_lt, Int64.le_iff_toInt_le, ← Int64.toInt_inj, Int64.reduceToInt, Int32.toInt_toInt64, lg_cmp_ge, lg_cmp_le, lg_cmp_gt, lg_cmp_lt, lg_cmp_eq, Bool.false_eq_true, Bool.true_eq_false, reduceCtorEq, false_iff, true_iff, iff_true, iff_false, and_true, true_and, and_false, false_and, reduceIte, ite_true, ite_false, eq_self] at *)) <;> omega), (by rw [khi56_0]; first | assumption | (((try simp only [vp_in_iff, Int32.lt_iff_toInt_lt, Int32.le_iff_toInt_le, ← Int32.toInt_inj, Int32.reduceToInt, n_1, n_2, n_8, Int32.toNatClampNeg, Int64.lt_iff_toInt_lt, Int64.le_iff_toInt_le, ← Int64.toInt_inj, Int64.reduceToInt, Int32.toInt_toInt64, lg_cmp_ge, lg_cmp_le, lg_cmp_gt, lg_cmp_lt, lg_cmp_eq, Bool.false_eq_true, Bool.true_eq_false, reduceCtorEq, false_iff, true_iff, iff_true, iff_false, and_true, true_and, and_false, false_and, reduceIte, ite_true, ite_false, eq_self] at *)) <;> omega)), trivial⟩ rfl
                    · have mh61 := nle_mx h61
                      refine wa_aload_n (i := 0) rfl rfl ?_
                      refine wa_getr ck_0 fl_0_37 ly_41 rf_41_10 ?_
                      refine wa_aload_n (i := 0) rfl rfl ?_
                      refine wa_geti ck_0 fl_0_189 ly_41 ?_
                      refine wa_rw (khi56_0) ?_
                      refine wa_lload rfl ?_
                      refine wa_last ly_50 (by ((try simp only [vp_in_iff, Int32.lt_iff_toInt_lt, Int32.le_iff_toInt_le, ← Int32.toInt_inj, Int32.reduceToInt, n_1, n_2, n_8, Int32.toNatClampNeg, Int64.lt_iff_toInt_lt, Int64.le_iff_toInt_le, ← Int64.toInt_inj, Int64.reduceToInt, Int32.toInt_toInt64, lg_cmp_ge, lg_cmp_le, lg_cmp_gt, lg_cmp_lt, lg_cmp_eq, Bool.false_eq_true, Bool.true_eq_false, reduceCtorEq, false_iff, true_iff, iff_true, iff_false, and_true, true_and, and_false, false_and, reduceIte, ite_true, ite_false, eq_self] at *)) <;> omega) (fun s63 hs63 => ?_)
                      have Fs63 : Sm 41 51 σ s63 := by rw [hs63]; exact Sm.sl Fs54 _ _ (by decide) (by decide)
                      refine wa_aload_n (i := 0) rfl rfl ?_
                      refine wa_dup rfl ?_
                      refine wa_geti ck_0 fl_0_189 ly_41 ?_
                      refine wa_rw ((nx_gi_sl hs63).trans (khi56_0)) ?_
                      refine wa_iconst (v := 1) (by decide) ?_
                      refine wa_iadd ?_
                      refine wa_top (fun v64 hv64 => ?_)
                      have tv64 := i_addT hv64
                      clear hv64
                      refine wa_puti ck_0 fl_0_189 ly_41 (fun s65 hs65 => ?_)
                      have Fs65 : Sm 41 51 σ s65 := by rw [hs65]; exact Sm.si Fs63 _ _ (by decide) (by decide)
                      refine wa_iinc (v := (1)) (lv' := fun y66 => [(5, .int y66), (0, .ref 41), (2, .int a1), (3, .long a2), (6, .long l6), (8, .int l8)]) (by decide) rfl (by decide) (fun _ => rfl) (fun y66 hy66 => ?_)
                      have ty66 := i_addT hy66.symm
                      clear hy66
                      refine wa_goto o_X0_raise_57 (by decide) ?_
                      refine wa_pick [1, 2, 3, 0] rfl ?_
                      exact ih49 _ (by ((try simp only [vp_in_iff, Int32.lt_iff_toInt_lt, Int32.le_iff_toInt_le, ← Int32.toInt_inj, Int32.reduceToInt, n_1, n_2, n_8, Int32.toNatClampNeg, Int64.lt_iff_toInt_lt, Int64.le_iff_toInt_le, ← Int64.toInt_inj, Int64.reduceToInt, Int32.toInt_toInt64, lg_cmp_ge, lg_cmp_le, lg_cmp_gt, lg_cmp_lt, lg_cmp_eq, Bool.false_eq_true, Bool.true_eq_false, reduceCtorEq, false_iff, true_iff, iff_true, iff_false, and_true, true_and, and_false, false_and, reduceIte, ite_true, ite_false, eq_self] at *)) <;> omega) _ _ ⟨Fs65, ((nxk_gi_si hs65 (by decide)).trans ((nx_gi_sl hs63).trans (khi56_1))), ((nxk_gi_si hs65 (by decide)).trans ((nx_gi_sl hs63).trans (khi56_2))), ((nx_gl_si hs65).trans ((nxq_gl_sl hs63 (by decide)).trans (khi56_3))), (by ((try simp only [vp_in_iff, Int32.lt_iff_toInt_lt, Int32.le_iff_toInt_le, ← Int32.toInt_inj, Int32.reduceToInt, n_1, n_2, n_8, Int32.toNatClampNeg, Int64.lt_iff_toInt_lt, Int64.le_iff_toInt_le, ← Int64.toInt_inj, Int64.reduceToInt, Int32.toInt_toInt64, lg_cmp_ge, lg_cmp_le, lg_cmp_gt, lg_cmp_lt, lg_cmp_eq, Bool.false_eq_true, Bool.true_eq_false, reduceCtorEq, false_iff, true_iff, iff_true, iff_false, and_true, true_and, and_false, false_and, reduceIte, ite_true, ite_false, eq_self] at *)) <;> omega), (by rw [nxe_gi_si hs65]; first | assumption | (((try simp only [vp_in_iff, Int32.lt_iff_toInt_lt, Int32.le_iff_toInt_le, ← Int32.toInt_inj, Int32.reduceToInt, n_1, n_2, n_8, Int32.toNatClampNeg, Int64.lt_iff_toInt_lt, Int64.le_iff_toInt_le, ← Int64.toInt_inj, Int64.reduceToInt, Int32.toInt_toInt64, lg_cmp_ge, lg_cmp_le, lg_cmp_gt, lg_cmp_lt, lg_cmp_eq, Bool.false_eq_true, Bool.true_eq_false, reduceCtorEq, false_iff, true_iff, iff_true, iff_false, and_true, true_and, and_false, false_and, reduceIte, ite_true, ite_false, eq_self] at *)) <;> omega)), trivial⟩ rfl
                · have mh57 := nle_mx h57
                  refine wa_iload rfl ?_
                  refine wa_sipush (v := 1100) (by decide) ?_
                  refine wa_icmp_ge o_X0_raise_131 (by decide) (fun h67 => ?_) (fun h67 => ?_)
                  · refine wa_lload rfl ?_
                    refine wa_lconst (v := 0) (by decide) ?_
                    refine wa_lcmp ?_
                    refine wa_top (fun v68 hv68 => ?_)
                    have tv68 := i_cmpT hv68
                    clear hv68
                    refine wa_if_le o_X0_raise_169 (by decide) (fun h69 => ?_) (fun h69 => ?_)
                    · refine wa_iinc (v := (1)) (lv' := fun y70 => [(5, .int y70), (0, .ref 41), (2, .int a1), (3, .long a2), (6, .long l6), (8, .int l8)]) (by decide) rfl (by decide) (fun _ => rfl) (fun y70 hy70 => ?_)
                      have ty70 := i_addT hy70.symm
                      clear hy70
                      refine wa_goto o_X0_raise_57 (by decide) ?_
                      refine wa_pick [1, 2, 3, 0] rfl ?_
                      exact ih49 _ (by ((try simp only [vp_in_iff, Int32.lt_iff_toInt_lt, Int32.le_iff_toInt_le, ← Int32.toInt_inj, Int32.reduceToInt, n_1, n_2, n_8, Int32.toNatClampNeg, Int64.lt_iff_toInt_lt, Int64.le_iff_toInt_le, ← Int64.toInt_inj, Int64.reduceToInt, Int32.toInt_toInt64, lg_cmp_ge, lg_cmp_le, lg_cmp_gt, lg_cmp_lt, lg_cmp_eq, Bool.false_eq_true, Bool.true_eq_false, reduceCtorEq, false_iff, true_iff, iff_true, iff_false, and_true, true_and, and_false, false_and, reduceIte, ite_true, ite_false, eq_self] at *)) <;> omega) _ _ ⟨Fs54, (khi56_1), (khi56_2), (khi56_3), (by ((try simp only [vp_in_iff, Int32.lt_iff_toInt_lt, Int32.le_iff_toInt_le, ← Int32.toInt_inj, Int32.reduceToInt, n_1, n_2, n_8, Int32.toNatClampNeg, Int64.lt_iff_toInt_lt, Int64.le_iff_toInt_le, ← Int64.toInt_inj, Int64.reduceToInt, Int32.toInt_toInt64, lg_cmp_ge, lg_cmp_le, lg_cmp_gt, lg_cmp_lt, lg_cmp_eq, Bool.false_eq_true, Bool.true_eq_false, reduceCtorEq, false_iff, true_iff, iff_true, iff_false, and_true, true_and, and_false, false_and, reduceIte, ite_true, ite_false, eq_self] at *)) <;> omega), (by rw [khi56_0]; first | assumption | (((try simp only [vp_in_iff, Int32.lt_iff_toInt_lt, Int32.le_iff_toInt_le, ← Int32.toInt_inj, Int32.reduceToInt, n_1, n_2, n_8, Int32.toNatClampNeg, Int64.lt_iff_toInt_lt, Int64.le_iff_toInt_le, ← Int64.toInt_inj, Int64.reduceToInt, Int32.toInt_toInt64, lg_cmp_ge, lg_cmp_le, lg_cmp_gt, lg_cmp_lt, lg_cmp_eq, Bool.false_eq_true, Bool.true_eq_false, reduceCtorEq, false_iff, true_iff, iff_true, iff_false, and_true, true_and, and_false, false_and, reduceIte, ite_true, ite_false, eq_self] at *)) <;> omega)), trivial⟩ rfl
                    · refine wa_aload_n (i := 0) rfl rfl ?_
                      refine wa_geti ck_0 fl_0_189 ly_41 ?_
                      refine wa_rw (khi56_0) ?_
                      refine wa_sipush (v := 1100) (by decide) ?_
                      refine wa_icmp_ge o_X0_raise_169 (by decide) (fun h71 => ?_) (fun h71 => ?_)
                      · refine wa_iinc (v := (1)) (lv' := fun y72 => [(5, .int y72), (0, .ref 41), (2, .int a1), (3, .long a2), (6, .long l6), (8, .int l8)]) (by decide) rfl (by decide) (fun _ => rfl) (fun y72 hy72 => ?_)
                        have ty72 := i_addT hy72.symm
                        clear hy72
                        refine wa_goto o_X0_raise_57 (by decide) ?_
                        refine wa_pick [1, 2, 3, 0] rfl ?_
                        exact ih49 _ (by ((try simp only [vp_in_iff, Int32.lt_iff_toInt_lt, Int32.le_iff_toInt_le, ← Int32.toInt_inj, Int32.reduceToInt, n_1, n_2, n_8, Int32.toNatClampNeg, Int64.lt_iff_toInt_lt, Int64.le_iff_toInt_le, ← Int64.toInt_inj, Int64.reduceToInt, Int32.toInt_toInt64, lg_cmp_ge, lg_cmp_le, lg_cmp_gt, lg_cmp_lt, lg_cmp_eq, Bool.false_eq_true, Bool.true_eq_false, reduceCtorEq, false_iff, true_iff, iff_true, iff_false, and_true, true_and, and_false, false_and, reduceIte, ite_true, ite_false, eq_self] at *)) <;> omega) _ _ ⟨Fs54, (khi56_1), (khi56_2), (khi56_3), (by ((try simp only [vp_in_iff, Int32.lt_iff_toInt_lt, Int32.le_iff_toInt_le, ← Int32.toInt_inj, Int32.reduceToInt, n_1, n_2, n_8, Int32.toNatClampNeg, Int64.lt_iff_toInt_lt, Int64.le_iff_toInt_le, ← Int64.toInt_inj, Int64.reduceToInt, Int32.toInt_toInt64, lg_cmp_ge, lg_cmp_le, lg_cmp_gt, lg_cmp_lt, lg_cmp_eq, Bool.false_eq_true, Bool.true_eq_false, reduceCtorEq, false_iff, true_iff, iff_true, iff_false, and_true, true_and, and_false, false_and, reduceIte, ite_true, ite_false, eq_self] at *)) <;> omega), (by rw [khi56_0]; first | assumption | (((try simp only [vp_in_iff, Int32.lt_iff_toInt_lt, Int32.le_iff_toInt_le, ← Int32.toInt_inj, Int32.reduceToInt, n_1, n_2, n_8, Int32.toNatClampNeg, Int64.lt_iff_toInt_lt, Int64.le_iff_toInt_le, ← Int64.toInt_inj, Int64.reduceToInt, Int32.toInt_toInt64, lg_cmp_ge, lg_cmp_le, lg_cmp_gt, lg_cmp_lt, lg_cmp_eq, Bool.false_eq_true, Bool.true_eq_false, reduceCtorEq, false_iff, true_iff, iff_true, iff_false, and_true, true_and, and_false, false_and, reduceIte, ite_true, ite_false, eq_self] at *)) <;> omega)), trivial⟩ rfl
                      · have mh71 := nle_mx h71
                        refine wa_aload_n (i := 0) rfl rfl ?_
                        refine wa_getr ck_0 fl_0_37 ly_41 rf_41_10 ?_
                        refine wa_aload_n (i := 0) rfl rfl ?_
                        refine wa_geti ck_0 fl_0_189 ly_41 ?_
                        refine wa_rw (khi56_0) ?_
                        refine wa_lload rfl ?_
                        refine wa_last ly_50 (by ((try simp only [vp_in_iff, Int32.lt_iff_toInt_lt, Int32.le_iff_toInt_le, ← Int32.toInt_inj, Int32.reduceToInt, n_1, n_2, n_8, Int32.toNatClampNeg, Int64.lt_iff_toInt_lt, Int64.le_iff_toInt_le, ← Int64.toInt_inj, Int64.reduceToInt, Int32.toInt_toInt64, lg_cmp_ge, lg_cmp_le, lg_cmp_gt, lg_cmp_lt, lg_cmp_eq, Bool.false_eq_true, Bool.true_eq_false, reduceCtorEq, false_iff, true_iff, iff_true, iff_false, and_true, true_and, and_false, false_and, reduceIte, ite_true, ite_false, eq_self] at *)) <;> omega) (fun s73 hs73 => ?_)
                        have Fs73 : Sm 41 51 σ s73 := by rw [hs73]; exact Sm.sl Fs54 _ _ (by decide) (by decide)
                        refine wa_aload_n (i := 0) rfl rfl ?_
                        refine wa_dup rfl ?_
                        refine wa_geti ck_0 fl_0_189 ly_41 ?_
                        refine wa_rw ((nx_gi_sl hs73).trans (khi56_0)) ?_
                        refine wa_iconst (v := 1) (by decide) ?_
                        refine wa_iadd ?_
                        refine wa_top (fun v74 hv74 => ?_)
                        have tv74 := i_addT hv74
                        clear hv74
                        refine wa_puti ck_0 fl_0_189 ly_41 (fun s75 hs75 => ?_)
                        have Fs75 : Sm 41 51 σ s75 := by rw [hs75]; exact Sm.si Fs73 _ _ (by decide) (by decide)
                        refine wa_iinc (v := (1)) (lv' := fun y76 => [(5, .int y76), (0, .ref 41), (2, .int a1), (3, .long a2), (6, .long l6), (8, .int l8)]) (by decide) rfl (by decide) (fun _ => rfl) (fun y76 hy76 => ?_)
                        have ty76 := i_addT hy76.symm
                        clear hy76
                        refine wa_goto o_X0_raise_57 (by decide) ?_
                        refine wa_pick [1, 2, 3, 0] rfl ?_
                        exact ih49 _ (by ((try simp only [vp_in_iff, Int32.lt_iff_toInt_lt, Int32.le_iff_toInt_le, ← Int32.toInt_inj, Int32.reduceToInt, n_1, n_2, n_8, Int32.toNatClampNeg, Int64.lt_iff_toInt_lt, Int64.le_iff_toInt_le, ← Int64.toInt_inj, Int64.reduceToInt, Int32.toInt_toInt64, lg_cmp_ge, lg_cmp_le, lg_cmp_gt, lg_cmp_lt, lg_cmp_eq, Bool.false_eq_true, Bool.true_eq_false, reduceCtorEq, false_iff, true_iff, iff_true, iff_false, and_true, true_and, and_false, false_and, reduceIte, ite_true, ite_false, eq_self] at *)) <;> omega) _ _ ⟨Fs75, ((nxk_gi_si hs75 (by decide)).trans ((nx_gi_sl hs73).trans (khi56_1))), ((nxk_gi_si hs75 (by decide)).trans ((nx_gi_sl hs73).trans (khi56_2))), ((nx_gl_si hs75).trans ((nxq_gl_sl hs73 (by decide)).trans (khi56_3))), (by ((try simp only [vp_in_iff, Int32.lt_iff_toInt_lt, Int32.le_iff_toInt_le, ← Int32.toInt_inj, Int32.reduceToInt, n_1, n_2, n_8, Int32.toNatClampNeg, Int64.lt_iff_toInt_lt, Int64.le_iff_toInt_le, ← Int64.toInt_inj, Int64.reduceToInt, Int32.toInt_toInt64, lg_cmp_ge, lg_cmp_le, lg_cmp_gt, lg_cmp_lt, lg_cmp_eq, Bool.false_eq_true, Bool.true_eq_false, reduceCtorEq, false_iff, true_iff, iff_true, iff_false, and_true, true_and, and_false, false_and, reduceIte, ite_true, ite_false, eq_self] at *)) <;> omega), (by rw [nxe_gi_si hs75]; first | assumption | (((try simp only [vp_in_iff, Int32.lt_iff_toInt_lt, Int32.le_iff_toInt_le, ← Int32.toInt_inj, Int32.reduceToInt, n_1, n_2, n_8, Int32.toNatClampNeg, Int64.lt_iff_toInt_lt, Int64.le_iff_toInt_le, ← Int64.toInt_inj, Int64.reduceToInt, Int32.toInt_toInt64, lg_cmp_ge, lg_cmp_le, lg_cmp_gt, lg_cmp_lt, lg_cmp_eq, Bool.false_eq_true, Bool.true_eq_false, reduceCtorEq, false_iff, true_iff, iff_true, iff_false, and_true, true_and, and_false, false_and, reduceIte, ite_true, ite_false, eq_self] at *)) <;> omega)), trivial⟩ rfl
                  · have mh67 := nle_mx h67
                    refine wa_aload_n (i := 0) rfl rfl ?_
                    refine wa_getr ck_0 fl_0_37 ly_41 rf_41_10 ?_
                    refine wa_iload rfl ?_
                    refine wa_lald ly_50 (by ((try simp only [vp_in_iff, Int32.lt_iff_toInt_lt, Int32.le_iff_toInt_le, ← Int32.toInt_inj, Int32.reduceToInt, n_1, n_2, n_8, Int32.toNatClampNeg, Int64.lt_iff_toInt_lt, Int64.le_iff_toInt_le, ← Int64.toInt_inj, Int64.reduceToInt, Int32.toInt_toInt64, lg_cmp_ge, lg_cmp_le, lg_cmp_gt, lg_cmp_lt, lg_cmp_eq, Bool.false_eq_true, Bool.true_eq_false, reduceCtorEq, false_iff, true_iff, iff_true, iff_false, and_true, true_and, and_false, false_and, reduceIte, ite_true, ite_false, eq_self] at *)) <;> omega) ?_
                    refine wa_lload_n (i := 3) rfl rfl ?_
                    refine wa_lmul ?_
                    refine wa_topl (fun v77 hv77 => ?_)
                    clear hv77
                    refine wa_lload rfl ?_
                    refine wa_ladd ?_
                    refine wa_topl (fun v78 hv78 => ?_)
                    clear hv78
                    refine wa_lstoreD (lv' := [(9, .long v78), (0, .ref 41), (2, .int a1), (3, .long a2), (5, .int l5), (6, .long l6), (8, .int l8)]) (by decide) rfl ?_
                    refine wa_aload_n (i := 0) rfl rfl ?_
                    refine wa_getr ck_0 fl_0_37 ly_41 rf_41_10 ?_
                    refine wa_iload rfl ?_
                    refine wa_lload rfl ?_
                    refine wa_ldc2 (v := (1000000000)) (allW_in (kT_7 _ (List.mem_of_getElem? (i := 46) rfl)) rfl) ?_
                    refine wa_lrem (by ((try simp only [vp_in_iff, Int32.lt_iff_toInt_lt, Int32.le_iff_toInt_le, ← Int32.toInt_inj, Int32.reduceToInt, n_1, n_2, n_8, Int32.toNatClampNeg, Int64.lt_iff_toInt_lt, Int64.le_iff_toInt_le, ← Int64.toInt_inj, Int64.reduceToInt, Int32.toInt_toInt64, lg_cmp_ge, lg_cmp_le, lg_cmp_gt, lg_cmp_lt, lg_cmp_eq, Bool.false_eq_true, Bool.true_eq_false, reduceCtorEq, false_iff, true_iff, iff_true, iff_false, and_true, true_and, and_false, false_and, reduceIte, ite_true, ite_false, eq_self] at *)) <;> omega) ?_
                    refine wa_topl (fun v79 hv79 => ?_)
                    clear hv79
                    refine wa_last ly_50 (by ((try simp only [vp_in_iff, Int32.lt_iff_toInt_lt, Int32.le_iff_toInt_le, ← Int32.toInt_inj, Int32.reduceToInt, n_1, n_2, n_8, Int32.toNatClampNeg, Int64.lt_iff_toInt_lt, Int64.le_iff_toInt_le, ← Int64.toInt_inj, Int64.reduceToInt, Int32.toInt_toInt64, lg_cmp_ge, lg_cmp_le, lg_cmp_gt, lg_cmp_lt, lg_cmp_eq, Bool.false_eq_true, Bool.true_eq_false, reduceCtorEq, false_iff, true_iff, iff_true, iff_false, and_true, true_and, and_false, false_and, reduceIte, ite_true, ite_false, eq_self] at *)) <;> omega) (fun s80 hs80 => ?_)
                    have Fs80 : Sm 41 51 σ s80 := by rw [hs80]; exact Sm.sl Fs54 _ _ (by decide) (by decide)
                    refine wa_lload rfl ?_
                    refine wa_ldc2 (v := (1000000000)) (allW_in (kT_7 _ (List.mem_of_getElem? (i := 46) rfl)) rfl) ?_
                    refine wa_ldiv (by ((try simp only [vp_in_iff, Int32.lt_iff_toInt_lt, Int32.le_iff_toInt_le, ← Int32.toInt_inj, Int32.reduceToInt, n_1, n_2, n_8, Int32.toNatClampNeg, Int64.lt_iff_toInt_lt, Int64.le_iff_toInt_le, ← Int64.toInt_inj, Int64.reduceToInt, Int32.toInt_toInt64, lg_cmp_ge, lg_cmp_le, lg_cmp_gt, lg_cmp_lt, lg_cmp_eq, Bool.false_eq_true, Bool.true_eq_false, reduceCtorEq, false_iff, true_iff, iff_true, iff_false, and_true, true_and, and_false, false_and, reduceIte, ite_true, ite_false, eq_self] at *)) <;> omega) ?_
                    refine wa_topl (fun v81 hv81 => ?_)
                    clear hv81
                    refine wa_lstoreD (lv' := [(6, .long v81), (9, .long v78), (0, .ref 41), (2, .int a1), (3, .long a2), (5, .int l5), (8, .int l8)]) (by decide) rfl ?_
                    refine wa_iinc (v := (1)) (lv' := fun y82 => [(8, .int y82), (6, .long v81), (9, .long v78), (0, .ref 41), (2, .int a1), (3, .long a2), (5, .int l5)]) (by decide) rfl (by decide) (fun _ => rfl) (fun y82 hy82 => ?_)
                    have ty82 := i_addT hy82.symm
                    clear hy82
                    refine wa_goto o_X0_raise_73 (by decide) ?_
                    refine wa_pick [3, 4, 5, 6, 1, 0] rfl ?_
                    exact ih55 _ (by ((try simp only [vp_in_iff, Int32.lt_iff_toInt_lt, Int32.le_iff_toInt_le, ← Int32.toInt_inj, Int32.reduceToInt, n_1, n_2, n_8, Int32.toNatClampNeg, Int64.lt_iff_toInt_lt, Int64.le_iff_toInt_le, ← Int64.toInt_inj, Int64.reduceToInt, Int32.toInt_toInt64, lg_cmp_ge, lg_cmp_le, lg_cmp_gt, lg_cmp_lt, lg_cmp_eq, Bool.false_eq_true, Bool.true_eq_false, reduceCtorEq, false_iff, true_iff, iff_true, iff_false, and_true, true_and, and_false, false_and, reduceIte, ite_true, ite_false, eq_self] at *)) <;> omega) _ _ _ ⟨Fs80, ((nx_gi_sl hs80).trans (khi56_0)), ((nx_gi_sl hs80).trans (khi56_1)), ((nx_gi_sl hs80).trans (khi56_2)), ((nxq_gl_sl hs80 (by decide)).trans (khi56_3)), (by ((try simp only [vp_in_iff, Int32.lt_iff_toInt_lt, Int32.le_iff_toInt_le, ← Int32.toInt_inj, Int32.reduceToInt, n_1, n_2, n_8, Int32.toNatClampNeg, Int64.lt_iff_toInt_lt, Int64.le_iff_toInt_le, ← Int64.toInt_inj, Int64.reduceToInt, Int32.toInt_toInt64, lg_cmp_ge, lg_cmp_le, lg_cmp_gt, lg_cmp_lt, lg_cmp_eq, Bool.false_eq_true, Bool.true_eq_false, reduceCtorEq, false_iff, true_iff, iff_true, iff_false, and_true, true_and, and_false, false_and, reduceIte, ite_true, ite_false, eq_self] at *)) <;> omega), trivial⟩ rfl
            exact hi56 _ _ _ _ ⟨Fs48, (rfl), (khi50_0), (khi50_1), (khi50_2), (by ((try simp only [vp_in_iff, Int32.lt_iff_toInt_lt, Int32.le_iff_toInt_le, ← Int32.toInt_inj, Int32.reduceToInt, n_1, n_2, n_8, Int32.toNatClampNeg, Int64.lt_iff_toInt_lt, Int64.le_iff_toInt_le, ← Int64.toInt_inj, Int64.reduceToInt, Int32.toInt_toInt64, lg_cmp_ge, lg_cmp_le, lg_cmp_gt, lg_cmp_lt, lg_cmp_eq, Bool.false_eq_true, Bool.true_eq_false, reduceCtorEq, false_iff, true_iff, iff_true, iff_false, and_true, true_and, and_false, false_and, reduceIte, ite_true, ite_false, eq_self] at *)) <;> omega), trivial⟩ rfl
      exact hi50 _ _ _ ⟨Fs47, ((nxk_gi_si hs47 (by decide)).trans ((nx_gi_sl hs46).trans ((nx_gi_sl hs45).trans ((nxk_gi_si hs44 (by decide)).trans (nxe_gi_si hs43))))), ((nxk_gi_si hs47 (by decide)).trans ((nx_gi_sl hs46).trans ((nx_gi_sl hs45).trans (nxe_gi_si hs44)))), ((nx_gl_si hs47).trans ((nxq_gl_sl hs46 (by decide)).trans (nxe_gl_sl hs45))), (by ((try simp only [vp_in_iff, Int32.lt_iff_toInt_lt, Int32.le_iff_toInt_le, ← Int32.toInt_inj, Int32.reduceToInt, n_1, n_2, n_8, Int32.toNatClampNeg, Int64.lt_iff_toInt_lt, Int64.le_iff_toInt_le, ← Int64.toInt_inj, Int64.reduceToInt, Int32.toInt_toInt64, lg_cmp_ge, lg_cmp_le, lg_cmp_gt, lg_cmp_lt, lg_cmp_eq, Bool.false_eq_true, Bool.true_eq_false, reduceCtorEq, false_iff, true_iff, iff_true, iff_false, and_true, true_and, and_false, false_and, reduceIte, ite_true, ite_false, eq_self] at *)) <;> omega), (by rw [nxe_gi_si hs47]; first | assumption | (((try simp only [vp_in_iff, Int32.lt_iff_toInt_lt, Int32.le_iff_toInt_le, ← Int32.toInt_inj, Int32.reduceToInt, n_1, n_2, n_8, Int32.toNatClampNeg, Int64.lt_iff_toInt_lt, Int64.le_iff_toInt_le, ← Int64.toInt_inj, Int64.reduceToInt, Int32.toInt_toInt64, lg_cmp_ge, lg_cmp_le, lg_cmp_gt, lg_cmp_lt, lg_cmp_eq, Bool.false_eq_true, Bool.true_eq_false, reduceCtorEq, false_iff, true_iff, iff_true, iff_false, and_true, true_and, and_false, false_and, reduceIte, ite_true, ite_false, eq_self] at *)) <;> omega)), trivial⟩ rfl
    · refine wa_aload_n (i := 0) rfl rfl ?_
      refine wa_getl ck_0 fl_0_212 ly_41 ?_
      refine wa_lload_n (i := 3) rfl rfl ?_
      refine wa_lcmp ?_
      refine wa_top (fun v83 hv83 => ?_)
      have tv83 := i_cmpT hv83
      clear hv83
      refine wa_if_ne o_X0_raise_26 (by decide) (fun h84 => ?_) (fun h84 => ?_)
      · refine wa_aload_n (i := 0) rfl rfl ?_
        refine wa_iload_n (i := 1) rfl rfl ?_
        refine wa_puti ck_0 fl_0_206 ly_41 (fun s85 hs85 => ?_)
        have Fs85 : Sm 41 51 σ s85 := by rw [hs85]; exact Sm.si (Sm.rf 41 51 σ) _ _ (by decide) (by decide)
        refine wa_aload_n (i := 0) rfl rfl ?_
        refine wa_iload_n (i := 2) rfl rfl ?_
        refine wa_puti ck_0 fl_0_209 ly_41 (fun s86 hs86 => ?_)
        have Fs86 : Sm 41 51 σ s86 := by rw [hs86]; exact Sm.si Fs85 _ _ (by decide) (by decide)
        refine wa_aload_n (i := 0) rfl rfl ?_
        refine wa_lload_n (i := 3) rfl rfl ?_
        refine wa_putl ck_0 fl_0_212 ly_41 (fun s87 hs87 => ?_)
        have Fs87 : Sm 41 51 σ s87 := by rw [hs87]; exact Sm.sl Fs86 _ _ (by decide) (by decide)
        refine wa_aload_n (i := 0) rfl rfl ?_
        refine wa_getr ck_0 fl_0_37 ly_41 rf_41_10 ?_
        refine wa_iconst (v := 0) (by decide) ?_
        refine wa_iload_n (i := 1) rfl rfl ?_
        refine wa_i2l ?_
        refine wa_last ly_50 (by ((try simp only [vp_in_iff, Int32.lt_iff_toInt_lt, Int32.le_iff_toInt_le, ← Int32.toInt_inj, Int32.reduceToInt, n_1, n_2, n_8, Int32.toNatClampNeg, Int64.lt_iff_toInt_lt, Int64.le_iff_toInt_le, ← Int64.toInt_inj, Int64.reduceToInt, Int32.toInt_toInt64, lg_cmp_ge, lg_cmp_le, lg_cmp_gt, lg_cmp_lt, lg_cmp_eq, Bool.false_eq_true, Bool.true_eq_false, reduceCtorEq, false_iff, true_iff, iff_true, iff_false, and_true, true_and, and_false, false_and, reduceIte, ite_true, ite_false, eq_self] at *)) <;> omega) (fun s88 hs88 => ?_)
        have Fs88 : Sm 41 51 σ s88 := by rw [hs88]; exact Sm.sl Fs87 _ _ (by decide) (by decide)
        refine wa_aload_n (i := 0) rfl rfl ?_
        refine wa_iconst (v := 1) (by decide) ?_
        refine wa_puti ck_0 fl_0_189 ly_41 (fun s89 hs89 => ?_)
        have Fs89 : Sm 41 51 σ s89 := by rw [hs89]; exact Sm.si Fs88 _ _ (by decide) (by decide)
        refine wa_iconst (v := 0) (by decide) ?_
        refine wa_istoreD (lv' := [(5, .int 0), (0, .ref 41), (1, .int a0), (2, .int a1), (3, .long a2)]) (by decide) rfl ?_
        refine wa_pick [1, 3, 4, 0] rfl ?_
        have hi92 : ∀ (n9_57 : Nat) (l5 : Int32) (s90 : St), ((Sm 41 51 σ s90) ∧ (gi s90 41 18 = a0) ∧ (gi s90 41 16 = a1) ∧ (gl s90 41 17 = a2) ∧ (0 ≤ l5.toInt) ∧ (0 ≤ (gi s90 41 15).toInt ∧ (gi s90 41 15).toInt ≤ 1100) ∧ (True)) → (2147483647 - l5.toInt).toNat = n9_57 → WA G M_X0_raise (ZM G M_X0_raise d (fun r σ' => Sm 41 51 σ σ' ∧ (0 ≤ (gi σ' 41 15).toInt ∧ (gi σ' 41 15).toInt ≤ 1100) ∧ True)) B_X0_raise_57 [(0, .ref 41), (2, .int a1), (3, .long a2), (5, .int l5)] [] s90 := by
          intro n9_57
          induction n9_57 using Nat.strongRecOn with
          | _ n9_57 ih91 =>
            intro l5 s90 i9 m9_57
            obtain ⟨Fs90, khi92_0, khi92_1, khi92_2, jhi92_0, jhi92_1, -⟩ := i9
            have ul5 := Int32.toInt_lt l5
            have wl5 := Int32.le_toInt l5
            refine wa_iload rfl ?_
            refine wa_iconst (v := 2) (by decide) ?_
            refine wa_iload_n (i := 2) rfl rfl ?_
            refine wa_imul ?_
            refine wa_top (fun v93 hv93 => ?_)
            have tv93 := i_mulT hv93
            clear hv93
            refine wa_iconst (v := 1) (by decide) ?_
            refine wa_iadd ?_
            refine wa_top (fun v94 hv94 => ?_)
            have tv94 := i_addT hv94
            clear hv94
            refine wa_icmp_ge o_X0_raise_175 (by decide) (fun h95 => ?_) (fun h95 => ?_)
            · refine wa_return (st := []) rfl rfl ?_
              exact ⟨Fs90, (by first | assumption | (((try simp only [vp_in_iff, Int32.lt_iff_toInt_lt, Int32.le_iff_toInt_le, ← Int32.toInt_inj, Int32.reduceToInt, n_1, n_2, n_8, Int32.toNatClampNeg, Int64.lt_iff_toInt_lt, Int64.le_iff_toInt_le, ← Int64.toInt_inj, Int64.reduceToInt, Int32.toInt_toInt64, lg_cmp_ge, lg_cmp_le, lg_cmp_gt, lg_cmp_lt, lg_cmp_eq, Bool.false_eq_true, Bool.true_eq_false, reduceCtorEq, false_iff, true_iff, iff_true, iff_false, and_true, true_and, and_false, false_and, reduceIte, ite_true, ite_false, eq_self] at *)) <;> omega)), trivial⟩
            · have mh95 := nle_mx h95
              refine wa_lconst (v := 0) (by decide) ?_
              refine wa_lstoreD (lv' := [(6, .long 0), (0, .ref 41), (2, .int a1), (3, .long a2), (5, .int l5)]) (by decide) rfl ?_
              refine wa_iconst (v := 0) (by decide) ?_
              refine wa_istoreD (lv' := [(8, .int 0), (6, .long 0), (0, .ref 41), (2, .int a1), (3, .long a2), (5, .int l5)]) (by decide) rfl ?_
              refine wa_pick [2, 3, 4, 5, 1, 0] rfl ?_
              have hi98 : ∀ (n9_73 : Nat) (l6 : Int64) (l8 : Int32) (s96 : St), ((Sm 41 51 σ s96) ∧ (gi s96 41 15 = gi s90 41 15) ∧ (gi s96 41 18 = a0) ∧ (gi s96 41 16 = a1) ∧ (gl s96 41 17 = a2) ∧ (0 ≤ l8.toInt) ∧ (True)) → (2147483647 - l8.toInt).toNat = n9_73 → WA G M_X0_raise (ZM G M_X0_raise d (fun r σ' => Sm 41 51 σ σ' ∧ (0 ≤ (gi σ' 41 15).toInt ∧ (gi σ' 41 15).toInt ≤ 1100) ∧ True)) B_X0_raise_73 [(0, .ref 41), (2, .int a1), (3, .long a2), (5, .int l5), (6, .long l6), (8, .int l8)] [] s96 := by
                intro n9_73
                induction n9_73 using Nat.strongRecOn with
                | _ n9_73 ih97 =>
                  intro l6 l8 s96 i9 m9_73
                  obtain ⟨Fs96, khi98_0, khi98_1, khi98_2, khi98_3, jhi98_0, -⟩ := i9
                  have ul8 := Int32.toInt_lt l8
                  have wl8 := Int32.le_toInt l8
                  refine wa_iload rfl ?_
                  refine wa_aload_n (i := 0) rfl rfl ?_
                  refine wa_geti ck_0 fl_0_189 ly_41 ?_
                  refine wa_rw (khi98_0) ?_
                  refine wa_icmp_ge o_X0_raise_131 (by decide) (fun h99 => ?_) (fun h99 => ?_)
                  · refine wa_lload rfl ?_
                    refine wa_lconst (v := 0) (by decide) ?_
                    refine wa_lcmp ?_
                    refine wa_top (fun v100 hv100 => ?_)
                    have tv100 := i_cmpT hv100
                    clear hv100
                    refine wa_if_le o_X0_raise_169 (by decide) (fun h101 => ?_) (fun h101 => ?_)
                    · refine wa_iinc (v := (1)) (lv' := fun y102 => [(5, .int y102), (0, .ref 41), (2, .int a1), (3, .long a2), (6, .long l6), (8, .int l8)]) (by decide) rfl (by decide) (fun _ => rfl) (fun y102 hy102 => ?_)
                      have ty102 := i_addT hy102.symm
                      clear hy102
                      refine wa_goto o_X0_raise_57 (by decide) ?_
                      refine wa_pick [1, 2, 3, 0] rfl ?_
                      exact ih91 _ (by ((try simp only [vp_in_iff, Int32.lt_iff_toInt_lt, Int32.le_iff_toInt_le, ← Int32.toInt_inj, Int32.reduceToInt, n_1, n_2, n_8, Int32.toNatClampNeg, Int64.lt_iff_toInt_lt, Int64.le_iff_toInt_le, ← Int64.toInt_inj, Int64.reduceToInt, Int32.toInt_toInt64, lg_cmp_ge, lg_cmp_le, lg_cmp_gt, lg_cmp_lt, lg_cmp_eq, Bool.false_eq_true, Bool.true_eq_false, reduceCtorEq, false_iff, true_iff, iff_true, iff_false, and_true, true_and, and_false, false_and, reduceIte, ite_true, ite_false, eq_self] at *)) <;> omega) _ _ ⟨Fs96, (khi98_1), (khi98_2), (khi98_3), (by ((try simp only [vp_in_iff, Int32.lt_iff_toInt_lt, Int32.le_iff_toInt_le, ← Int32.toInt_inj, Int32.reduceToInt, n_1, n_2, n_8, Int32.toNatClampNeg, Int64.lt_iff_toInt_lt, Int64.le_iff_toInt_le, ← Int64.toInt_inj, Int64.reduceToInt, Int32.toInt_toInt64, lg_cmp_ge, lg_cmp_le, lg_cmp_gt, lg_cmp_lt, lg_cmp_eq, Bool.false_eq_true, Bool.true_eq_false, reduceCtorEq, false_iff, true_iff, iff_true, iff_false, and_true, true_and, and_false, false_and, reduceIte, ite_true, ite_false, eq_self] at *)) <;> omega), (by rw [khi98_0]; first | assumption | (((try simp only [vp_in_iff, Int32.lt_iff_toInt_lt, Int32.le_iff_toInt_le, ← Int32.toInt_inj, Int32.reduceToInt, n_1, n_2, n_8, Int32.toNatClampNeg, Int64.lt_iff_toInt_lt, Int64.le_iff_toInt_le, ← Int64.toInt_inj, Int64.reduceToInt, Int32.toInt_toInt64, lg_cmp_ge, lg_cmp_le, lg_cmp_gt, lg_cmp_lt, lg_cmp_eq, Bool.false_eq_true, Bool.true_eq_false, reduceCtorEq, false_iff, true_iff, iff_true, iff_false, and_true, true_and, and_false, false_and, reduceIte, ite_true, ite_false, eq_self] at *)) <;> omega)), trivial⟩ rfl
                    · refine wa_aload_n (i := 0) rfl rfl ?_
                      refine wa_geti ck_0 fl_0_189 ly_41 ?_
                      refine wa_rw (khi98_0) ?_
                      refine wa_sipush (v := 1100) (by decide) ?_
                      refine wa_icmp_ge o_X0_raise_169 (by decide) (fun h103 => ?_) (fun h103 => ?_)
                      · refine wa_iinc (v := (1)) (lv' := fun y104 => [(5, .int y104), (0, .ref 41), (2, .int a1), (3, .long a2), (6, .long l6), (8, .int l8)]) (by decide) rfl (by decide) (fun _ => rfl) (fun y104 hy104 => ?_)
                        have ty104 := i_addT hy104.symm
                        clear hy104
                        refine wa_goto o_X0_raise_57 (by decide) ?_
                        refine wa_pick [1, 2, 3, 0] rfl ?_
                        exact ih91 _ (by ((try simp only [vp_in_iff, Int32.lt_iff_toInt_lt, Int32.le_iff_toInt_le, ← Int32.toInt_inj, Int32.reduceToInt, n_1, n_2, n_8, Int32.toNatClampNeg, Int64.lt_iff_toInt_lt, Int64.le_iff_toInt_le, ← Int64.toInt_inj, Int64.reduceToInt, Int32.toInt_toInt64, lg_cmp_ge, lg_cmp_le, lg_cmp_gt, lg_cmp_lt, lg_cmp_eq, Bool.false_eq_true, Bool.true_eq_false, reduceCtorEq, false_iff, true_iff, iff_true, iff_false, and_true, true_and, and_false, false_and, reduceIte, ite_true, ite_false, eq_self] at *)) <;> omega) _ _ ⟨Fs96, (khi98_1), (khi98_2), (khi98_3), (by ((try simp only [vp_in_iff, Int32.lt_iff_toInt_lt, Int32.le_iff_toInt_le, ← Int32.toInt_inj, Int32.reduceToInt, n_1, n_2, n_8, Int32.toNatClampNeg, Int64.lt_iff_toInt_lt, Int64.le_iff_toInt_le, ← Int64.toInt_inj, Int64.reduceToInt, Int32.toInt_toInt64, lg_cmp_ge, lg_cmp_le, lg_cmp_gt, lg_cmp_lt, lg_cmp_eq, Bool.false_eq_true, Bool.true_eq_false, reduceCtorEq, false_iff, true_iff, iff_true, iff_false, and_true, true_and, and_false, false_and, reduceIte, ite_true, ite_false, eq_self] at *)) <;> omega), (by rw [khi98_0]; first | assumption | (((try simp only [vp_in_iff, Int32.lt_iff_toInt_lt, Int32.le_iff_toInt_le, ← Int32.toInt_inj, Int32.reduceToInt, n_1, n_2, n_8, Int32.toNatClampNeg, Int64.lt_iff_toInt_lt, Int64.le_iff_toInt_le, ← Int64.toInt_inj, Int64.reduceToInt, Int32.toInt_toInt64, lg_cmp_ge, lg_cmp_le, lg_cmp_gt, lg_cmp_lt, lg_cmp_eq, Bool.false_eq_true, Bool.true_eq_false, reduceCtorEq, false_iff, true_iff, iff_true, iff_false, and_true, true_and, and_false, false_and, reduceIte, ite_true, ite_false, eq_self] at *)) <;> omega)), trivial⟩ rfl
                      · have mh103 := nle_mx h103
                        refine wa_aload_n (i := 0) rfl rfl ?_
                        refine wa_getr ck_0 fl_0_37 ly_41 rf_41_10 ?_
                        refine wa_aload_n (i := 0) rfl rfl ?_
                        refine wa_geti ck_0 fl_0_189 ly_41 ?_
                        refine wa_rw (khi98_0) ?_
                        refine wa_lload rfl ?_
                        refine wa_last ly_50 (by ((try simp only [vp_in_iff, Int32.lt_iff_toInt_lt, Int32.le_iff_toInt_le, ← Int32.toInt_inj, Int32.reduceToInt, n_1, n_2, n_8, Int32.toNatClampNeg, Int64.lt_iff_toInt_lt, Int64.le_iff_toInt_le, ← Int64.toInt_inj, Int64.reduceToInt, Int32.toInt_toInt64, lg_cmp_ge, lg_cmp_le, lg_cmp_gt, lg_cmp_lt, lg_cmp_eq, Bool.false_eq_true, Bool.true_eq_false, reduceCtorEq, false_iff, true_iff, iff_true, iff_false, and_true, true_and, and_false, false_and, reduceIte, ite_true, ite_false, eq_self] at *)) <;> omega) (fun s105 hs105 => ?_)
                        have Fs105 : Sm 41 51 σ s105 := by rw [hs105]; exact Sm.sl Fs96 _ _ (by decide) (by decide)
                        refine wa_aload_n (i := 0) rfl rfl ?_
                        refine wa_dup rfl ?_
                        refine wa_geti ck_0 fl_0_189 ly_41 ?_
                        refine wa_rw ((nx_gi_sl hs105).trans (khi98_0)) ?_
                        refine wa_iconst (v := 1) (by decide) ?_
                        refine wa_iadd ?_
                        refine wa_top (fun v106 hv106 => ?_)
                        have tv106 := i_addT hv106
                        clear hv106
                        refine wa_puti ck_0 fl_0_189 ly_41 (fun s107 hs107 => ?_)
                        have Fs107 : Sm 41 51 σ s107 := by rw [hs107]; exact Sm.si Fs105 _ _ (by decide) (by decide)
                        refine wa_iinc (v := (1)) (lv' := fun y108 => [(5, .int y108), (0, .ref 41), (2, .int a1), (3, .long a2), (6, .long l6), (8, .int l8)]) (by decide) rfl (by decide) (fun _ => rfl) (fun y108 hy108 => ?_)
                        have ty108 := i_addT hy108.symm
                        clear hy108
                        refine wa_goto o_X0_raise_57 (by decide) ?_
                        refine wa_pick [1, 2, 3, 0] rfl ?_
                        exact ih91 _ (by ((try simp only [vp_in_iff, Int32.lt_iff_toInt_lt, Int32.le_iff_toInt_le, ← Int32.toInt_inj, Int32.reduceToInt, n_1, n_2, n_8, Int32.toNatClampNeg, Int64.lt_iff_toInt_lt, Int64.le_iff_toInt_le, ← Int64.toInt_inj, Int64.reduceToInt, Int32.toInt_toInt64, lg_cmp_ge, lg_cmp_le, lg_cmp_gt, lg_cmp_lt, lg_cmp_eq, Bool.false_eq_true, Bool.true_eq_false, reduceCtorEq, false_iff, true_iff, iff_true, iff_false, and_true, true_and, and_false, false_and, reduceIte, ite_true, ite_false, eq_self] at *)) <;> omega) _ _ ⟨Fs107, ((nxk_gi_si hs107 (by decide)).trans ((nx_gi_sl hs105).trans (khi98_1))), ((nxk_gi_si hs107 (by decide)).trans ((nx_gi_sl hs105).trans (khi98_2))), ((nx_gl_si hs107).trans ((nxq_gl_sl hs105 (by decide)).trans (khi98_3))), (by ((try simp only [vp_in_iff, Int32.lt_iff_toInt_lt, Int32.le_iff_toInt_le, ← Int32.toInt_inj, Int32.reduceToInt, n_1, n_2, n_8, Int32.toNatClampNeg, Int64.lt_iff_toInt_lt, Int64.le_iff_toInt_le, ← Int64.toInt_inj, Int64.reduceToInt, Int32.toInt_toInt64, lg_cmp_ge, lg_cmp_le, lg_cmp_gt, lg_cmp_lt, lg_cmp_eq, Bool.false_eq_true, Bool.true_eq_false, reduceCtorEq, false_iff, true_iff, iff_true, iff_false, and_true, true_and, and_false, false_and, reduceIte, ite_true, ite_false, eq_self] at *)) <;> omega), (by rw [nxe_gi_si hs107]; first | assumption | (((try simp only [vp_in_iff, Int32.lt_iff_toInt_lt, Int32.le_iff_toInt_le, ← Int32.toInt_inj, Int32.reduceToInt, n_1, n_2, n_8, Int32.toNatClampNeg, Int64.lt_iff_toInt_lt, Int64.le_iff_toInt_le, ← Int64.toInt_inj, Int64.reduceToInt, Int32.toInt_toInt64, lg_cmp_ge, lg_cmp_le, lg_cmp_gt, lg_cmp_lt, lg_cmp_eq, Bool.false_eq_true, Bool.true_eq_false, reduceCtorEq, false_iff, true_iff, iff_true, iff_false, and_true, true_and, and_false, false_and, reduceIte, ite_true, ite_false, eq_self] at *)) <;> omega)), trivial⟩ rfl
                  · have mh99 := nle_mx h99
                    refine wa_iload rfl ?_
                    refine wa_sipush (v := 1100) (by decide) ?_
                    refine wa_icmp_ge o_X0_raise_131 (by decide) (fun h109 => ?_) (fun h109 => ?_)
                    · refine wa_lload rfl ?_
                      refine wa_lconst (v := 0) (by decide) ?_
                      refine wa_lcmp ?_
                      refine wa_top (fun v110 hv110 => ?_)
                      have tv110 := i_cmpT hv110
                      clear hv110
                      refine wa_if_le o_X0_raise_169 (by decide) (fun h111 => ?_) (fun h111 => ?_)
                      · refine wa_iinc (v := (1)) (lv' := fun y112 => [(5, .int y112), (0, .ref 41), (2, .int a1), (3, .long a2), (6, .long l6), (8, .int l8)]) (by decide) rfl (by decide) (fun _ => rfl) (fun y112 hy112 => ?_)
                        have ty112 := i_addT hy112.symm
                        clear hy112
                        refine wa_goto o_X0_raise_57 (by decide) ?_
                        refine wa_pick [1, 2, 3, 0] rfl ?_
                        exact ih91 _ (by ((try simp only [vp_in_iff, Int32.lt_iff_toInt_lt, Int32.le_iff_toInt_le, ← Int32.toInt_inj, Int32.reduceToInt, n_1, n_2, n_8, Int32.toNatClampNeg, Int64.lt_iff_toInt_lt, Int64.le_iff_toInt_le, ← Int64.toInt_inj, Int64.reduceToInt, Int32.toInt_toInt64, lg_cmp_ge, lg_cmp_le, lg_cmp_gt, lg_cmp_lt, lg_cmp_eq, Bool.false_eq_true, Bool.true_eq_false, reduceCtorEq, false_iff, true_iff, iff_true, iff_false, and_true, true_and, and_false, false_and, reduceIte, ite_true, ite_false, eq_self] at *)) <;> omega) _ _ ⟨Fs96, (khi98_1), (khi98_2), (khi98_3), (by ((try simp only [vp_in_iff, Int32.lt_iff_toInt_lt, Int32.le_iff_toInt_le, ← Int32.toInt_inj, Int32.reduceToInt, n_1, n_2, n_8, Int32.toNatClampNeg, Int64.lt_iff_toInt_lt, Int64.le_iff_toInt_le, ← Int64.toInt_inj, Int64.reduceToInt, Int32.toInt_toInt64, lg_cmp_ge, lg_cmp_le, lg_cmp_gt, lg_cmp_lt, lg_cmp_eq, Bool.false_eq_true, Bool.true_eq_false, reduceCtorEq, false_iff, true_iff, iff_true, iff_false, and_true, true_and, and_false, false_and, reduceIte, ite_true, ite_false, eq_self] at *)) <;> omega), (by rw [khi98_0]; first | assumption | (((try simp only [vp_in_iff, Int32.lt_iff_toInt_lt, Int32.le_iff_toInt_le, ← Int32.toInt_inj, Int32.reduceToInt, n_1, n_2, n_8, Int32.toNatClampNeg, Int64.lt_iff_toInt_lt, Int64.le_iff_toInt_le, ← Int64.toInt_inj, Int64.reduceToInt, Int32.toInt_toInt64, lg_cmp_ge, lg_cmp_le, lg_cmp_gt, lg_cmp_lt, lg_cmp_eq, Bool.false_eq_true, Bool.true_eq_false, reduceCtorEq, false_iff, true_iff, iff_true, iff_false, and_true, true_and, and_false, false_and, reduceIte, ite_true, ite_false, eq_self] at *)) <;> omega)), trivial⟩ rfl
                      · refine wa_aload_n (i := 0) rfl rfl ?_
                        refine wa_geti ck_0 fl_0_189 ly_41 ?_
                        refine wa_rw (khi98_0) ?_
                        refine wa_sipush (v := 1100) (by decide) ?_
                        refine wa_icmp_ge o_X0_raise_169 (by decide) (fun h113 => ?_) (fun h113 => ?_)
                        · refine wa_iinc (v := (1)) (lv' := fun y114 => [(5, .int y114), (0, .ref 41), (2, .int a1), (3, .long a2), (6, .long l6), (8, .int l8)]) (by decide) rfl (by decide) (fun _ => rfl) (fun y114 hy114 => ?_)
                          have ty114 := i_addT hy114.symm
                          clear hy114
                          refine wa_goto o_X0_raise_57 (by decide) ?_
                          refine wa_pick [1, 2, 3, 0] rfl ?_
                          exact ih91 _ (by ((try simp only [vp_in_iff, Int32.lt_iff_toInt_lt, Int32.le_iff_toInt_le, ← Int32.toInt_inj, Int32.reduceToInt, n_1, n_2, n_8, Int32.toNatClampNeg, Int64.lt_iff_toInt_lt, Int64.le_iff_toInt_le, ← Int64.toInt_inj, Int64.reduceToInt, Int32.toInt_toInt64, lg_cmp_ge, lg_cmp_le, lg_cmp_gt, lg_cmp_lt, lg_cmp_eq, Bool.false_eq_true, Bool.true_eq_false, reduceCtorEq, false_iff, true_iff, iff_true, iff_false, and_true, true_and, and_false, false_and, reduceIte, ite_true, ite_false, eq_self] at *)) <;> omega) _ _ ⟨Fs96, (khi98_1), (khi98_2), (khi98_3), (by ((try simp only [vp_in_iff, Int32.lt_iff_toInt_lt, Int32.le_iff_toInt_le, ← Int32.toInt_inj, Int32.reduceToInt, n_1, n_2, n_8, Int32.toNatClampNeg, Int64.lt_iff_toInt_lt, Int64.le_iff_toInt_le, ← Int64.toInt_inj, Int64.reduceToInt, Int32.toInt_toInt64, lg_cmp_ge, lg_cmp_le, lg_cmp_gt, lg_cmp_lt, lg_cmp_eq, Bool.false_eq_true, Bool.true_eq_false, reduceCtorEq, false_iff, true_iff, iff_true, iff_false, and_true, true_and, and_false, false_and, reduceIte, ite_true, ite_false, eq_self] at *)) <;> omega), (by rw [khi98_0]; first | assumption | (((try simp only [vp_in_iff, Int32.lt_iff_toInt_lt, Int32.le_iff_toInt_le, ← Int32.toInt_inj, Int32.reduceToInt, n_1, n_2, n_8, Int32.toNatClampNeg, Int64.lt_iff_toInt_lt, Int64.le_iff_toInt_le, ← Int64.toInt_inj, Int64.reduceToInt, Int32.toInt_toInt64, lg_cmp_ge, lg_cmp_le, lg_cmp_gt, lg_cmp_lt, lg_cmp_eq, Bool.false_eq_true, Bool.true_eq_false, reduceCtorEq, false_iff, true_iff, iff_true, iff_false, and_true, true_and, and_false, false_and, reduceIte, ite_true, ite_false, eq_self] at *)) <;> omega)), trivial⟩ rfl
                        · have mh113 := nle_mx h113
                          refine wa_aload_n (i := 0) rfl rfl ?_
                          refine wa_getr ck_0 fl_0_37 ly_41 rf_41_10 ?_
                          refine wa_aload_n (i := 0) rfl rfl ?_
                          refine wa_geti ck_0 fl_0_189 ly_41 ?_
                          refine wa_rw (khi98_0) ?_
                          refine wa_lload rfl ?_
                          refine wa_last ly_50 (by ((try simp only [vp_in_iff, Int32.lt_iff_toInt_lt, Int32.le_iff_toInt_le, ← Int32.toInt_inj, Int32.reduceToInt, n_1, n_2, n_8, Int32.toNatClampNeg, Int64.lt_iff_toInt_lt, Int64.le_iff_toInt_le, ← Int64.toInt_inj, Int64.reduceToInt, Int32.toInt_toInt64, lg_cmp_ge, lg_cmp_le, lg_cmp_gt, lg_cmp_lt, lg_cmp_eq, Bool.false_eq_true, Bool.true_eq_false, reduceCtorEq, false_iff, true_iff, iff_true, iff_false, and_true, true_and, and_false, false_and, reduceIte, ite_true, ite_false, eq_self] at *)) <;> omega) (fun s115 hs115 => ?_)
                          have Fs115 : Sm 41 51 σ s115 := by rw [hs115]; exact Sm.sl Fs96 _ _ (by decide) (by decide)
                          refine wa_aload_n (i := 0) rfl rfl ?_
                          refine wa_dup rfl ?_
                          refine wa_geti ck_0 fl_0_189 ly_41 ?_
                          refine wa_rw ((nx_gi_sl hs115).trans (khi98_0)) ?_
                          refine wa_iconst (v := 1) (by decide) ?_
                          refine wa_iadd ?_
                          refine wa_top (fun v116 hv116 => ?_)
                          have tv116 := i_addT hv116
                          clear hv116
                          refine wa_puti ck_0 fl_0_189 ly_41 (fun s117 hs117 => ?_)
                          have Fs117 : Sm 41 51 σ s117 := by rw [hs117]; exact Sm.si Fs115 _ _ (by decide) (by decide)
                          refine wa_iinc (v := (1)) (lv' := fun y118 => [(5, .int y118), (0, .ref 41), (2, .int a1), (3, .long a2), (6, .long l6), (8, .int l8)]) (by decide) rfl (by decide) (fun _ => rfl) (fun y118 hy118 => ?_)
                          have ty118 := i_addT hy118.symm
                          clear hy118
                          refine wa_goto o_X0_raise_57 (by decide) ?_
                          refine wa_pick [1, 2, 3, 0] rfl ?_
                          exact ih91 _ (by ((try simp only [vp_in_iff, Int32.lt_iff_toInt_lt, Int32.le_iff_toInt_le, ← Int32.toInt_inj, Int32.reduceToInt, n_1, n_2, n_8, Int32.toNatClampNeg, Int64.lt_iff_toInt_lt, Int64.le_iff_toInt_le, ← Int64.toInt_inj, Int64.reduceToInt, Int32.toInt_toInt64, lg_cmp_ge, lg_cmp_le, lg_cmp_gt, lg_cmp_lt, lg_cmp_eq, Bool.false_eq_true, Bool.true_eq_false, reduceCtorEq, false_iff, true_iff, iff_true, iff_false, and_true, true_and, and_false, false_and, reduceIte, ite_true, ite_false, eq_self] at *)) <;> omega) _ _ ⟨Fs117, ((nxk_gi_si hs117 (by decide)).trans ((nx_gi_sl hs115).trans (khi98_1))), ((nxk_gi_si hs117 (by decide)).trans ((nx_gi_sl hs115).trans (khi98_2))), ((nx_gl_si hs117).trans ((nxq_gl_sl hs115 (by decide)).trans (khi98_3))), (by ((try simp only [vp_in_iff, Int32.lt_iff_toInt_lt, Int32.le_iff_toInt_le, ← Int32.toInt_inj, Int32.reduceToInt, n_1, n_2, n_8, Int32.toNatClampNeg, Int64.lt_iff_toInt_lt, Int64.le_iff_toInt_le, ← Int64.toInt_inj, Int64.reduceToInt, Int32.toInt_toInt64, lg_cmp_ge, lg_cmp_le, lg_cmp_gt, lg_cmp_lt, lg_cmp_eq, Bool.false_eq_true, Bool.true_eq_false, reduceCtorEq, false_iff, true_iff, iff_true, iff_false, and_true, true_and, and_false, false_and, reduceIte, ite_true, ite_false, eq_self] at *)) <;> omega), (by rw [nxe_gi_si hs117]; first | assumption | (((try simp only [vp_in_iff, Int32.lt_iff_toInt_lt, Int32.le_iff_toInt_le, ← Int32.toInt_inj, Int32.reduceToInt, n_1, n_2, n_8, Int32.toNatClampNeg, Int64.lt_iff_toInt_lt, Int64.le_iff_toInt_le, ← Int64.toInt_inj, Int64.reduceToInt, Int32.toInt_toInt64, lg_cmp_ge, lg_cmp_le, lg_cmp_gt, lg_cmp_lt, lg_cmp_eq, Bool.false_eq_true, Bool.true_eq_false, reduceCtorEq, false_iff, true_iff, iff_true, iff_false, and_true, true_and, and_false, false_and, reduceIte, ite_true, ite_false, eq_self] at *)) <;> omega)), trivial⟩ rfl
                    · have mh109 := nle_mx h109
                      refine wa_aload_n (i := 0) rfl rfl ?_
                      refine wa_getr ck_0 fl_0_37 ly_41 rf_41_10 ?_
                      refine wa_iload rfl ?_
                      refine wa_lald ly_50 (by ((try simp only [vp_in_iff, Int32.lt_iff_toInt_lt, Int32.le_iff_toInt_le, ← Int32.toInt_inj, Int32.reduceToInt, n_1, n_2, n_8, Int32.toNatClampNeg, Int64.lt_iff_toInt_lt, Int64.le_iff_toInt_le, ← Int64.toInt_inj, Int64.reduceToInt, Int32.toInt_toInt64, lg_cmp_ge, lg_cmp_le, lg_cmp_gt, lg_cmp_lt, lg_cmp_eq, Bool.false_eq_true, Bool.true_eq_false, reduceCtorEq, false_iff, true_iff, iff_true, iff_false, and_true, true_and, and_false, false_and, reduceIte, ite_true, ite_false, eq_self] at *)) <;> omega) ?_
                      refine wa_lload_n (i := 3) rfl rfl ?_
                      refine wa_lmul ?_
                      refine wa_topl (fun v119 hv119 => ?_)
                      clear hv119
                      refine wa_lload rfl ?_
                      refine wa_ladd ?_
                      refine wa_topl (fun v120 hv120 => ?_)
                      clear hv120
                      refine wa_lstoreD (lv' := [(9, .long v120), (0, .ref 41), (2, .int a1), (3, .long a2), (5, .int l5), (6, .long l6), (8, .int l8)]) (by decide) rfl ?_
                      refine wa_aload_n (i := 0) rfl rfl ?_
                      refine wa_getr ck_0 fl_0_37 ly_41 rf_41_10 ?_
                      refine wa_iload rfl ?_
                      refine wa_lload rfl ?_
                      refine wa_ldc2 (v := (1000000000)) (allW_in (kT_7 _ (List.mem_of_getElem? (i := 46) rfl)) rfl) ?_
                      refine wa_lrem (by ((try simp only [vp_in_iff, Int32.lt_iff_toInt_lt, Int32.le_iff_toInt_le, ← Int32.toInt_inj, Int32.reduceToInt, n_1, n_2, n_8, Int32.toNatClampNeg, Int64.lt_iff_toInt_lt, Int64.le_iff_toInt_le, ← Int64.toInt_inj, Int64.reduceToInt, Int32.toInt_toInt64, lg_cmp_ge, lg_cmp_le, lg_cmp_gt, lg_cmp_lt, lg_cmp_eq, Bool.false_eq_true, Bool.true_eq_false, reduceCtorEq, false_iff, true_iff, iff_true, iff_false, and_true, true_and, and_false, false_and, reduceIte, ite_true, ite_false, eq_self] at *)) <;> omega) ?_
                      refine wa_topl (fun v121 hv121 => ?_)
                      clear hv121
                      refine wa_last ly_50 (by ((try simp only [vp_in_iff, Int32.lt_iff_toInt_lt, Int32.le_iff_toInt_le, ← Int32.toInt_inj, Int32.reduceToInt, n_1, n_2, n_8, Int32.toNatClampNeg, Int64.lt_iff_toInt_lt, Int64.le_iff_toInt_le, ← Int64.toInt_inj, Int64.reduceToInt, Int32.toInt_toInt64, lg_cmp_ge, lg_cmp_le, lg_cmp_gt, lg_cmp_lt, lg_cmp_eq, Bool.false_eq_true, Bool.true_eq_false, reduceCtorEq, false_iff, true_iff, iff_true, iff_false, and_true, true_and, and_false, false_and, reduceIte, ite_true, ite_false, eq_self] at *)) <;> omega) (fun s122 hs122 => ?_)
                      have Fs122 : Sm 41 51 σ s122 := by rw [hs122]; exact Sm.sl Fs96 _ _ (by decide) (by decide)
                      refine wa_lload rfl ?_
                      refine wa_ldc2 (v := (1000000000)) (allW_in (kT_7 _ (List.mem_of_getElem? (i := 46) rfl)) rfl) ?_
                      refine wa_ldiv (by ((try simp only [vp_in_iff, Int32.lt_iff_toInt_lt, Int32.le_iff_toInt_le, ← Int32.toInt_inj, Int32.reduceToInt, n_1, n_2, n_8, Int32.toNatClampNeg, Int64.lt_iff_toInt_lt, Int64.le_iff_toInt_le, ← Int64.toInt_inj, Int64.reduceToInt, Int32.toInt_toInt64, lg_cmp_ge, lg_cmp_le, lg_cmp_gt, lg_cmp_lt, lg_cmp_eq, Bool.false_eq_true, Bool.true_eq_false, reduceCtorEq, false_iff, true_iff, iff_true, iff_false, and_true, true_and, and_false, false_and, reduceIte, ite_true, ite_false, eq_self] at *)) <;> omega) ?_
                      refine wa_topl (fun v123 hv123 => ?_)
                      clear hv123
                      refine wa_lstoreD (lv' := [(6, .long v123), (9, .long v120), (0, .ref 41), (2, .int a1), (3, .long a2), (5, .int l5), (8, .int l8)]) (by decide) rfl ?_
                      refine wa_iinc (v := (1)) (lv' := fun y124 => [(8, .int y124), (6, .long v123), (9, .long v120), (0, .ref 41), (2, .int a1), (3, .long a2), (5, .int l5)]) (by decide) rfl (by decide) (fun _ => rfl) (fun y124 hy124 => ?_)
                      have ty124 := i_addT hy124.symm
                      clear hy124
                      refine wa_goto o_X0_raise_73 (by decide) ?_
                      refine wa_pick [3, 4, 5, 6, 1, 0] rfl ?_
                      exact ih97 _ (by ((try simp only [vp_in_iff, Int32.lt_iff_toInt_lt, Int32.le_iff_toInt_le, ← Int32.toInt_inj, Int32.reduceToInt, n_1, n_2, n_8, Int32.toNatClampNeg, Int64.lt_iff_toInt_lt, Int64.le_iff_toInt_le, ← Int64.toInt_inj, Int64.reduceToInt, Int32.toInt_toInt64, lg_cmp_ge, lg_cmp_le, lg_cmp_gt, lg_cmp_lt, lg_cmp_eq, Bool.false_eq_true, Bool.true_eq_false, reduceCtorEq, false_iff, true_iff, iff_true, iff_false, and_true, true_and, and_false, false_and, reduceIte, ite_true, ite_false, eq_self] at *)) <;> omega) _ _ _ ⟨Fs122, ((nx_gi_sl hs122).trans (khi98_0)), ((nx_gi_sl hs122).trans (khi98_1)), ((nx_gi_sl hs122).trans (khi98_2)), ((nxq_gl_sl hs122 (by decide)).trans (khi98_3)), (by ((try simp only [vp_in_iff, Int32.lt_iff_toInt_lt, Int32.le_iff_toInt_le, ← Int32.toInt_inj, Int32.reduceToInt, n_1, n_2, n_8, Int32.toNatClampNeg, Int64.lt_iff_toInt_lt, Int64.le_iff_toInt_le, ← Int64.toInt_inj, Int64.reduceToInt, Int32.toInt_toInt64, lg_cmp_ge, lg_cmp_le, lg_cmp_gt, lg_cmp_lt, lg_cmp_eq, Bool.false_eq_true, Bool.true_eq_false, reduceCtorEq, false_iff, true_iff, iff_true, iff_false, and_true, true_and, and_false, false_and, reduceIte, ite_true, ite_false, eq_self] at *)) <;> omega), trivial⟩ rfl
              exact hi98 _ _ _ _ ⟨Fs90, (rfl), (khi92_0), (khi92_1), (khi92_2), (by ((try simp only [vp_in_iff, Int32.lt_iff_toInt_lt, Int32.le_iff_toInt_le, ← Int32.toInt_inj, Int32.reduceToInt, n_1, n_2, n_8, Int32.toNatClampNeg, Int64.lt_iff_toInt_lt, Int64.le_iff_toInt_le, ← Int64.toInt_inj, Int64.reduceToInt, Int32.toInt_toInt64, lg_cmp_ge, lg_cmp_le, lg_cmp_gt, lg_cmp_lt, lg_cmp_eq, Bool.false_eq_true, Bool.true_eq_false, reduceCtorEq, false_iff, true_iff, iff_true, iff_false, and_true, true_and, and_false, false_and, reduceIte, ite_true, ite_false, eq_self] at *)) <;> omega), trivial⟩ rfl
        exact hi92 _ _ _ ⟨Fs89, ((nxk_gi_si hs89 (by decide)).trans ((nx_gi_sl hs88).trans ((nx_gi_sl hs87).trans ((nxk_gi_si hs86 (by decide)).trans (nxe_gi_si hs85))))), ((nxk_gi_si hs89 (by decide)).trans ((nx_gi_sl hs88).trans ((nx_gi_sl hs87).trans (nxe_gi_si hs86)))), ((nx_gl_si hs89).trans ((nxq_gl_sl hs88 (by decide)).trans (nxe_gl_sl hs87))), (by ((try simp only [vp_in_iff, Int32.lt_iff_toInt_lt, Int32.le_iff_toInt_le, ← Int32.toInt_inj, Int32.reduceToInt, n_1, n_2, n_8, Int32.toNatClampNeg, Int64.lt_iff_toInt_lt, Int64.le_iff_toInt_le, ← Int64.toInt_inj, Int64.reduceToInt, Int32.toInt_toInt64, lg_cmp_ge, lg_cmp_le, lg_cmp_gt, lg_cmp_lt, lg_cmp_eq, Bool.false_eq_true, Bool.true_eq_false, reduceCtorEq, false_iff, true_iff, iff_true, iff_false, and_true, true_and, and_false, false_and, reduceIte, ite_true, ite_false, eq_self] at *)) <;> omega), (by rw [nxe_gi_si hs89]; first | assumption | (((try simp only [vp_in_iff, Int32.lt_iff_toInt_lt, Int32.le_iff_toInt_le, ← Int32.toInt_inj, Int32.reduceToInt, n_1, n_2, n_8, Int32.toNatClampNeg, Int64.lt_iff_toInt_lt, Int64.le_iff_toInt_le, ← Int64.toInt_inj, Int64.reduceToInt, Int32.toInt_toInt64, lg_cmp_ge, lg_cmp_le, lg_cmp_gt, lg_cmp_lt, lg_cmp_eq, Bool.false_eq_true, Bool.true_eq_false, reduceCtorEq, false_iff, true_iff, iff_true, iff_false, and_true, true_and, and_false, false_and, reduceIte, ite_true, ite_false, eq_self] at *)) <;> omega)), trivial⟩ rfl
      · refine wa_return (st := []) rfl rfl ?_
        exact ⟨(Sm.rf 41 51 σ), (by first | assumption | (((try simp only [vp_in_iff, Int32.lt_iff_toInt_lt, Int32.le_iff_toInt_le, ← Int32.toInt_inj, Int32.reduceToInt, n_1, n_2, n_8, Int32.toNatClampNeg, Int64.lt_iff_toInt_lt, Int64.le_iff_toInt_le, ← Int64.toInt_inj, Int64.reduceToInt, Int32.toInt_toInt64, lg_cmp_ge, lg_cmp_le, lg_cmp_gt, lg_cmp_lt, lg_cmp_eq, Bool.false_eq_true, Bool.true_eq_false, reduceCtorEq, false_iff, true_iff, iff_true, iff_false, and_true, true_and, and_false, false_and, reduceIte, ite_true, ite_false, eq_self] at *)) <;> omega)), trivial⟩
set_option maxHeartbeats 4000000 in
theorem sp_X0_boundDigit (G : kG9) {d : Nat} (hd : 2 ≤ d) (σ : St) (a0 : Int32) (r1 : 0 ≤ (gi σ 41 15).toInt ∧ (gi σ 41 15).toInt ≤ 1100) : Ct G M_X0_boundDigit d [.ref 41, .int a0] σ (fun r σ' => ∃ x : Int32, r = some (.int x) ∧ Sm 41 51 σ σ' ∧ (0 ≤ (gi σ' 41 15).toInt ∧ (gi σ' 41 15).toInt ≤ 1100) ∧ True) := by
  refine wa_start (by decide) rfl (Nat.le_of_ble_eq_true rfl) (lv := [(0, .ref 41), (1, .int a0)]) rfl o_X0_boundDigit_0 rfl ?_
  have ua0 := Int32.toInt_lt a0
  have wa0 := Int32.le_toInt a0
  refine wa_iconst (v := 0) (by decide) ?_
  refine wa_istore_nD (lv' := [(2, .int 0), (0, .ref 41), (1, .int a0)]) (i := 2) rfl (by decide) rfl ?_
  refine wa_lconst (v := 1) (by decide) ?_
  refine wa_lstore_nD (lv' := [(3, .long 1), (2, .int 0), (0, .ref 41), (1, .int a0)]) (i := 3) rfl (by decide) rfl ?_
  refine wa_iconst (v := 0) (by decide) ?_
  refine wa_istoreD (lv' := [(5, .int 0), (3, .long 1), (2, .int 0), (0, .ref 41), (1, .int a0)]) (by decide) rfl ?_
  refine wa_pick [3, 4, 2, 1, 0] rfl ?_
  have hi3 : ∀ (n9_7 : Nat) (l2 : Int32) (l3 : Int64) (l5 : Int32) (s1 : St), ((Sm 41 51 σ s1) ∧ (gi s1 41 15 = gi σ 41 15) ∧ (gi s1 7 12 = gi σ 7 12) ∧ (gi s1 7 10 = gi σ 7 10) ∧ (0 ≤ l5.toInt) ∧ (True)) → (2147483647 - l5.toInt).toNat = n9_7 → WA G M_X0_boundDigit (ZM G M_X0_boundDigit d (fun r σ' => ∃ x : Int32, r = some (.int x) ∧ Sm 41 51 σ σ' ∧ (0 ≤ (gi σ' 41 15).toInt ∧ (gi σ' 41 15).toInt ≤ 1100) ∧ True)) B_X0_boundDigit_7 [(0, .ref 41), (1, .int a0), (2, .int l2), (3, .long l3), (5, .int l5)] [] s1 := by
    intro n9_7
    induction n9_7 using Nat.strongRecOn with
    | _ n9_7 ih2 =>
      intro l2 l3 l5 s1 i9 m9_7
      obtain ⟨Fs1, khi3_0, khi3_1, khi3_2, jhi3_0, -⟩ := i9
      have ul2 := Int32.toInt_lt l2
      have wl2 := Int32.le_toInt l2
      have ul5 := Int32.toInt_lt l5
      have wl5 := Int32.le_toInt l5
      refine wa_iload rfl ?_
      refine wa_aload_n (i := 0) rfl rfl ?_
      refine wa_getr ck_0 fl_0_44 ly_41 rf_41_0 ?_
      refine wa_geti ck_2 fl_0_173 ly_7 ?_
      refine wa_rw (khi3_1) ?_
      refine wa_icmp_ge o_X0_boundDigit_85 (by decide) (fun h4 => ?_) (fun h4 => ?_)
      · refine wa_iload_n (i := 2) rfl rfl ?_
        refine wa_if_eq o_X0_boundDigit_103 (by decide) (fun h5 => ?_) (fun h5 => ?_)
        · refine wa_iconst (v := 0) (by decide) ?_
          refine wa_ireturn rfl rfl ?_
          exact ⟨_, rfl, Fs1, (by rw [khi3_0]; first | assumption | (((try simp only [vp_in_iff, Int32.lt_iff_toInt_lt, Int32.le_iff_toInt_le, ← Int32.toInt_inj, Int32.reduceToInt, n_1, n_2, n_8, Int32.toNatClampNeg, Int64.lt_iff_toInt_lt, Int64.le_iff_toInt_le, ← Int64.toInt_inj, Int64.reduceToInt, Int32.toInt_toInt64, lg_cmp_ge, lg_cmp_le, lg_cmp_gt, lg_cmp_lt, lg_cmp_eq, Bool.false_eq_true, Bool.true_eq_false, reduceCtorEq, false_iff, true_iff, iff_true, iff_false, and_true, true_and, and_false, false_and, reduceIte, ite_true, ite_false, eq_self] at *)) <;> omega)), trivial⟩
        · refine wa_aload_n (i := 0) rfl rfl ?_
          refine wa_getr ck_0 fl_0_44 ly_41 rf_41_0 ?_
          refine wa_geti ck_2 fl_0_52 ly_7 ?_
          refine wa_rw (khi3_2) ?_
          refine wa_if_eq o_X0_boundDigit_103 (by decide) (fun h6 => ?_) (fun h6 => ?_)
          · refine wa_iconst (v := 0) (by decide) ?_
            refine wa_ireturn rfl rfl ?_
            exact ⟨_, rfl, Fs1, (by rw [khi3_0]; first | assumption | (((try simp only [vp_in_iff, Int32.lt_iff_toInt_lt, Int32.le_iff_toInt_le, ← Int32.toInt_inj, Int32.reduceToInt, n_1, n_2, n_8, Int32.toNatClampNeg, Int64.lt_iff_toInt_lt, Int64.le_iff_toInt_le, ← Int64.toInt_inj, Int64.reduceToInt, Int32.toInt_toInt64, lg_cmp_ge, lg_cmp_le, lg_cmp_gt, lg_cmp_lt, lg_cmp_eq, Bool.false_eq_true, Bool.true_eq_false, reduceCtorEq, false_iff, true_iff, iff_true, iff_false, and_true, true_and, and_false, false_and, reduceIte, ite_true, ite_false, eq_self] at *)) <;> omega)), trivial⟩
          · refine wa_iload_n (i := 1) rfl rfl ?_
            refine wa_if_ge o_X0_boundDigit_105 (by decide) (fun h7 => ?_) (fun h7 => ?_)
            · refine wa_aload_n (i := 0) rfl rfl ?_
              refine wa_aload_n (i := 0) rfl rfl ?_
              refine wa_getr ck_0 fl_0_44 ly_41 rf_41_0 ?_
              refine wa_geti ck_2 fl_0_52 ly_7 ?_
              refine wa_rw (khi3_2) ?_
              refine wa_iload_n (i := 2) rfl rfl ?_
              refine wa_iload_n (i := 2) rfl rfl ?_
              refine wa_i2l ?_
              refine wa_lload_n (i := 3) rfl rfl ?_
              refine wa_lmul ?_
              refine wa_topl (fun v8 hv8 => ?_)
              clear hv8
              refine wa_Vv (d9 := d - 1) [.int _, .int _, .long _] [] (sp_X0_raise G (d := d - 1) (by omega) s1 _ _ _ (by rw [khi3_0]; first | assumption | exact Or.inl rfl | exact Or.inr rfl | (((try simp only [vp_in_iff, Int32.lt_iff_toInt_lt, Int32.le_iff_toInt_le, ← Int32.toInt_inj, Int32.reduceToInt, n_1, n_2, n_8, Int32.toNatClampNeg, Int64.lt_iff_toInt_lt, Int64.le_iff_toInt_le, ← Int64.toInt_inj, Int64.reduceToInt, Int32.toInt_toInt64, lg_cmp_ge, lg_cmp_le, lg_cmp_gt, lg_cmp_lt, lg_cmp_eq, Bool.false_eq_true, Bool.true_eq_false, reduceCtorEq, false_iff, true_iff, iff_true, iff_false, and_true, true_and, and_false, false_and, reduceIte, ite_true, ite_false, eq_self] at *)) <;> omega))) (rfl) rfl rfl (zr (by omega)) mk_X0_raise ly_41 ml_0_185 (Nat.le_of_ble_eq_true rfl) (fun s9 hs9 => ?_)
              obtain ⟨fs9, cx10_1, -⟩ := hs9
              have Fs9 := Sm.tr Fs1 (Sm.wd fs9 (lo' := 41) (hi' := 51) (by decide) (by decide))
              refine wa_iload_n (i := 1) rfl rfl ?_
              refine wa_bipush (v := 9) (by decide) ?_
              refine wa_idiv (by ((try simp only [vp_in_iff, Int32.lt_iff_toInt_lt, Int32.le_iff_toInt_le, ← Int32.toInt_inj, Int32.reduceToInt, n_1, n_2, n_8, Int32.toNatClampNeg, Int64.lt_iff_toInt_lt, Int64.le_iff_toInt_le, ← Int64.toInt_inj, Int64.reduceToInt, Int32.toInt_toInt64, lg_cmp_ge, lg_cmp_le, lg_cmp_gt, lg_cmp_lt, lg_cmp_eq, Bool.false_eq_true, Bool.true_eq_false, reduceCtorEq, false_iff, true_iff, iff_true, iff_false, and_true, true_and, and_false, false_and, reduceIte, ite_true, ite_false, eq_self] at *)) <;> omega) ?_
              refine wa_top (fun v11 hv11 => ?_)
              have tv11 := i_divT hv11
              clear hv11
              refine wa_aload_n (i := 0) rfl rfl ?_
              refine wa_geti ck_0 fl_0_189 ly_41 ?_
              refine wa_icmp_ge o_X0_boundDigit_144 (by decide) (fun h12 => ?_) (fun h12 => ?_)
              · refine wa_lconst (v := 0) (by decide) ?_
                refine wa_lstoreD (lv' := [(5, .long 0), (0, .ref 41), (1, .int a0), (2, .int l2), (3, .long l3)]) (by decide) rfl ?_
                refine wa_iload_n (i := 1) rfl rfl ?_
                refine wa_bipush (v := 9) (by decide) ?_
                refine wa_irem (by ((try simp only [vp_in_iff, Int32.lt_iff_toInt_lt, Int32.le_iff_toInt_le, ← Int32.toInt_inj, Int32.reduceToInt, n_1, n_2, n_8, Int32.toNatClampNeg, Int64.lt_iff_toInt_lt, Int64.le_iff_toInt_le, ← Int64.toInt_inj, Int64.reduceToInt, Int32.toInt_toInt64, lg_cmp_ge, lg_cmp_le, lg_cmp_gt, lg_cmp_lt, lg_cmp_eq, Bool.false_eq_true, Bool.true_eq_false, reduceCtorEq, false_iff, true_iff, iff_true, iff_false, and_true, true_and, and_false, false_and, reduceIte, ite_true, ite_false, eq_self] at *)) <;> omega) ?_
                refine wa_top (fun v13 hv13 => ?_)
                have tv13 := i_remT hv13
                clear hv13
                refine wa_istoreD (lv' := [(7, .int v13), (5, .long 0), (0, .ref 41), (1, .int a0), (2, .int l2), (3, .long l3)]) (by decide) rfl ?_
                refine wa_pick [1, 0] rfl ?_
                have hi15 : ∀ (n9_153 : Nat) (l5 : Int64) (l7 : Int32), (True) → (l7.toInt + 1).toNat = n9_153 → WA G M_X0_boundDigit (ZM G M_X0_boundDigit d (fun r σ' => ∃ x : Int32, r = some (.int x) ∧ Sm 41 51 σ σ' ∧ (0 ≤ (gi σ' 41 15).toInt ∧ (gi σ' 41 15).toInt ≤ 1100) ∧ True)) B_X0_boundDigit_153 [(5, .long l5), (7, .int l7)] [] s9 := by
                  intro n9_153
                  induction n9_153 using Nat.strongRecOn with
                  | _ n9_153 ih14 =>
                    intro l5 l7  i9 m9_153
                    have ul7 := Int32.toInt_lt l7
                    have wl7 := Int32.le_toInt l7
                    refine wa_iload rfl ?_
                    refine wa_if_le o_X0_boundDigit_172 (by decide) (fun h16 => ?_) (fun h16 => ?_)
                    · refine wa_lload rfl ?_
                      refine wa_ldc2 (v := (10)) (allW_in (kT_8 _ (List.mem_of_getElem? (i := 175) rfl)) rfl) ?_
                      refine wa_lrem (by ((try simp only [vp_in_iff, Int32.lt_iff_toInt_lt, Int32.le_iff_toInt_le, ← Int32.toInt_inj, Int32.reduceToInt, n_1, n_2, n_8, Int32.toNatClampNeg, Int64.lt_iff_toInt_lt, Int64.le_iff_toInt_le, ← Int64.toInt_inj, Int64.reduceToInt, Int32.toInt_toInt64, lg_cmp_ge, lg_cmp_le, lg_cmp_gt, lg_cmp_lt, lg_cmp_eq, Bool.false_eq_true, Bool.true_eq_false, reduceCtorEq, false_iff, true_iff, iff_true, iff_false, and_true, true_and, and_false, false_and, reduceIte, ite_true, ite_false, eq_self] at *)) <;> omega) ?_
                      refine wa_topl (fun v17 hv17 => ?_)
                      clear hv17
                      refine wa_l2i ?_
                      refine wa_top (fun v18 hv18 => ?_)
                      clear hv18
                      refine wa_ireturn rfl rfl ?_
                      exact ⟨_, rfl, Fs9, (by first | assumption | (((try simp only [vp_in_iff, Int32.lt_iff_toInt_lt, Int32.le_iff_toInt_le, ← Int32.toInt_inj, Int32.reduceToInt, n_1, n_2, n_8, Int32.toNatClampNeg, Int64.lt_iff_toInt_lt, Int64.le_iff_toInt_le, ← Int64.toInt_inj, Int64.reduceToInt, Int32.toInt_toInt64, lg_cmp_ge, lg_cmp_le, lg_cmp_gt, lg_cmp_lt, lg_cmp_eq, Bool.false_eq_true, Bool.true_eq_false, reduceCtorEq, false_iff, true_iff, iff_true, iff_false, and_true, true_and, and_false, false_and, reduceIte, ite_true, ite_false, eq_self] at *)) <;> omega)), trivial⟩
                    · refine wa_lload rfl ?_
                      refine wa_ldc2 (v := (10)) (allW_in (kT_8 _ (List.mem_of_getElem? (i := 175) rfl)) rfl) ?_
                      refine wa_ldiv (by ((try simp only [vp_in_iff, Int32.lt_iff_toInt_lt, Int32.le_iff_toInt_le, ← Int32.toInt_inj, Int32.reduceToInt, n_1, n_2, n_8, Int32.toNatClampNeg, Int64.lt_iff_toInt_lt, Int64.le_iff_toInt_le, ← Int64.toInt_inj, Int64.reduceToInt, Int32.toInt_toInt64, lg_cmp_ge, lg_cmp_le, lg_cmp_gt, lg_cmp_lt, lg_cmp_eq, Bool.false_eq_true, Bool.true_eq_false, reduceCtorEq, false_iff, true_iff, iff_true, iff_false, and_true, true_and, and_false, false_and, reduceIte, ite_true, ite_false, eq_self] at *)) <;> omega) ?_
                      refine wa_topl (fun v19 hv19 => ?_)
                      clear hv19
                      refine wa_lstoreD (lv' := [(5, .long v19), (7, .int l7)]) (by decide) rfl ?_
                      refine wa_iinc (v := (-1)) (lv' := fun y20 => [(7, .int y20), (5, .long v19)]) (by decide) rfl (by decide) (fun _ => rfl) (fun y20 hy20 => ?_)
                      have ty20 := i_addT hy20.symm
                      clear hy20
                      refine wa_goto o_X0_boundDigit_153 (by decide) ?_
                      refine wa_pick [1, 0] rfl ?_
                      exact ih14 _ (by ((try simp only [vp_in_iff, Int32.lt_iff_toInt_lt, Int32.le_iff_toInt_le, ← Int32.toInt_inj, Int32.reduceToInt, n_1, n_2, n_8, Int32.toNatClampNeg, Int64.lt_iff_toInt_lt, Int64.le_iff_toInt_le, ← Int64.toInt_inj, Int64.reduceToInt, Int32.toInt_toInt64, lg_cmp_ge, lg_cmp_le, lg_cmp_gt, lg_cmp_lt, lg_cmp_eq, Bool.false_eq_true, Bool.true_eq_false, reduceCtorEq, false_iff, true_iff, iff_true, iff_false, and_true, true_and, and_false, false_and, reduceIte, ite_true, ite_false, eq_self] at *)) <;> omega) _ _ trivial rfl
                exact hi15 _ _ _ trivial rfl
              · have mh12 := nle_mx h12
                refine wa_aload_n (i := 0) rfl rfl ?_
                refine wa_getr ck_0 fl_0_37 ly_41 rf_41_10 ?_
                refine wa_iload_n (i := 1) rfl rfl ?_
                refine wa_bipush (v := 9) (by decide) ?_
                refine wa_idiv (by ((try simp only [vp_in_iff, Int32.lt_iff_toInt_lt, Int32.le_iff_toInt_le, ← Int32.toInt_inj, Int32.reduceToInt, n_1, n_2, n_8, Int32.toNatClampNeg, Int64.lt_iff_toInt_lt, Int64.le_iff_toInt_le, ← Int64.toInt_inj, Int64.reduceToInt, Int32.toInt_toInt64, lg_cmp_ge, lg_cmp_le, lg_cmp_gt, lg_cmp_lt, lg_cmp_eq, Bool.false_eq_true, Bool.true_eq_false, reduceCtorEq, false_iff, true_iff, iff_true, iff_false, and_true, true_and, and_false, false_and, reduceIte, ite_true, ite_false, eq_self] at *)) <;> omega) ?_
                refine wa_top (fun v21 hv21 => ?_)
                have tv21 := i_divT hv21
                clear hv21
                refine wa_lald ly_50 (by ((try simp only [vp_in_iff, Int32.lt_iff_toInt_lt, Int32.le_iff_toInt_le, ← Int32.toInt_inj, Int32.reduceToInt, n_1, n_2, n_8, Int32.toNatClampNeg, Int64.lt_iff_toInt_lt, Int64.le_iff_toInt_le, ← Int64.toInt_inj, Int64.reduceToInt, Int32.toInt_toInt64, lg_cmp_ge, lg_cmp_le, lg_cmp_gt, lg_cmp_lt, lg_cmp_eq, Bool.false_eq_true, Bool.true_eq_false, reduceCtorEq, false_iff, true_iff, iff_true, iff_false, and_true, true_and, and_false, false_and, reduceIte, ite_true, ite_false, eq_self] at *)) <;> omega) ?_
                refine wa_goto o_X0_boundDigit_145 (by decide) ?_
                refine wa_lstoreD (lv' := [(5, .long (gl s9 50 (v21).toNatClampNeg)), (0, .ref 41), (1, .int a0), (2, .int l2), (3, .long l3)]) (by decide) rfl ?_
                refine wa_iload_n (i := 1) rfl rfl ?_
                refine wa_bipush (v := 9) (by decide) ?_
                refine wa_irem (by ((try simp only [vp_in_iff, Int32.lt_iff_toInt_lt, Int32.le_iff_toInt_le, ← Int32.toInt_inj, Int32.reduceToInt, n_1, n_2, n_8, Int32.toNatClampNeg, Int64.lt_iff_toInt_lt, Int64.le_iff_toInt_le, ← Int64.toInt_inj, Int64.reduceToInt, Int32.toInt_toInt64, lg_cmp_ge, lg_cmp_le, lg_cmp_gt, lg_cmp_lt, lg_cmp_eq, Bool.false_eq_true, Bool.true_eq_false, reduceCtorEq, false_iff, true_iff, iff_true, iff_false, and_true, true_and, and_false, false_and, reduceIte, ite_true, ite_false, eq_self] at *)) <;> omega) ?_
                refine wa_top (fun v22 hv22 => ?_)
                have tv22 := i_remT hv22
                clear hv22
                refine wa_istoreD (lv' := [(7, .int v22), (5, .long (gl s9 50 (v21).toNatClampNeg)), (0, .ref 41), (1, .int a0), (2, .int l2), (3, .long l3)]) (by decide) rfl ?_
                refine wa_pick [1, 0] rfl ?_
                have hi24 : ∀ (n9_153 : Nat) (l5 : Int64) (l7 : Int32), (True) → (l7.toInt + 1).toNat = n9_153 → WA G M_X0_boundDigit (ZM G M_X0_boundDigit d (fun r σ' => ∃ x : Int32, r = some (.int x) ∧ Sm 41 51 σ σ' ∧ (0 ≤ (gi σ' 41 15).toInt ∧ (gi σ' 41 15).toInt ≤ 1100) ∧ True)) B_X0_boundDigit_153 [(5, .long l5), (7, .int l7)] [] s9 := by
                  intro n9_153
                  induction n9_153 using Nat.strongRecOn with
                  | _ n9_153 ih23 =>
                    intro l5 l7  i9 m9_153
                    have ul7 := Int32.toInt_lt l7
                    have wl7 := Int32.le_toInt l7
                    refine wa_iload rfl ?_
                    refine wa_if_le o_X0_boundDigit_172 (by decide) (fun h25 => ?_) (fun h25 => ?_)
                    · refine wa_lload rfl ?_
                      refine wa_ldc2 (v := (10)) (allW_in (kT_8 _ (List.mem_of_getElem? (i := 175) rfl)) rfl) ?_
                      refine wa_lrem (by ((try simp only [vp_in_iff, Int32.lt_iff_toInt_lt, Int32.le_iff_toInt_le, ← Int32.toInt_inj, Int32.reduceToInt, n_1, n_2, n_8, Int32.toNatClampNeg, Int64.lt_iff_toInt_lt, Int64.le_iff_toInt_le, ← Int64.toInt_inj, Int64.reduceToInt, Int32.toInt_toInt64, lg_cmp_ge, lg_cmp_le, lg_cmp_gt, lg_cmp_lt, lg_cmp_eq, Bool.false_eq_true, Bool.true_eq_false, reduceCtorEq, false_iff, true_iff, iff_true, iff_false, and_true, true_and, and_false, false_and, reduceIte, ite_true, ite_false, eq_self] at *)) <;> omega) ?_
                      refine wa_topl (fun v26 hv26 => ?_)
                      clear hv26
                      refine wa_l2i ?_
                      refine wa_top (fun v27 hv27 => ?_)
                      clear hv27
                      refine wa_ireturn rfl rfl ?_
                      exact ⟨_, rfl, Fs9, (by first | assumption | (((try simp only [vp_in_iff, Int32.lt_iff_toInt_lt, Int32.le_iff_toInt_le, ← Int32.toInt_inj, Int32.reduceToInt, n_1, n_2, n_8, Int32.toNatClampNeg, Int64.lt_iff_toInt_lt, Int64.le_iff_toInt_le, ← Int64.toInt_inj, Int64.reduceToInt, Int32.toInt_toInt64, lg_cmp_ge, lg_cmp_le, lg_cmp_gt, lg_cmp_lt, lg_cmp_eq, Bool.false_eq_true, Bool.true_eq_false, reduceCtorEq, false_iff, true_iff, iff_true, iff_false, and_true, true_and, and_false, false_and, reduceIte, ite_true, ite_false, eq_self] at *)) <;> omega)), trivial⟩
                    · refine wa_lload rfl ?_
                      refine wa_ldc2 (v := (10)) (allW_in (kT_8 _ (List.mem_of_getElem? (i := 175) rfl)) rfl) ?_
                      refine wa_ldiv (by ((try simp only [vp_in_iff, Int32.lt_iff_toInt_lt, Int32.le_iff_toInt_le, ← Int32.toInt_inj, Int32.reduceToInt, n_1, n_2, n_8, Int32.toNatClampNeg, Int64.lt_iff_toInt_lt, Int64.le_iff_toInt_le, ← Int64.toInt_inj, Int64.reduceToInt, Int32.toInt_toInt64, lg_cmp_ge, lg_cmp_le, lg_cmp_gt, lg_cmp_lt, lg_cmp_eq, Bool.false_eq_true, Bool.true_eq_false, reduceCtorEq, false_iff, true_iff, iff_true, iff_false, and_true, true_and, and_false, false_and, reduceIte, ite_true, ite_false, eq_self] at *)) <;> omega) ?_
                      refine wa_topl (fun v28 hv28 => ?_)
                      clear hv28
                      refine wa_lstoreD (lv' := [(5, .long v28), (7, .int l7)]) (by decide) rfl ?_
                      refine wa_iinc (v := (-1)) (lv' := fun y29 => [(7, .int y29), (5, .long v28)]) (by decide) rfl (by decide) (fun _ => rfl) (fun y29 hy29 => ?_)
                      have ty29 := i_addT hy29.symm
                      clear hy29
                      refine wa_goto o_X0_boundDigit_153 (by decide) ?_
                      refine wa_pick [1, 0] rfl ?_
                      exact ih23 _ (by ((try simp only [vp_in_iff, Int32.lt_iff_toInt_lt, Int32.le_iff_toInt_le, ← Int32.toInt_inj, Int32.reduceToInt, n_1, n_2, n_8, Int32.toNatClampNeg, Int64.lt_iff_toInt_lt, Int64.le_iff_toInt_le, ← Int64.toInt_inj, Int64.reduceToInt, Int32.toInt_toInt64, lg_cmp_ge, lg_cmp_le, lg_cmp_gt, lg_cmp_lt, lg_cmp_eq, Bool.false_eq_true, Bool.true_eq_false, reduceCtorEq, false_iff, true_iff, iff_true, iff_false, and_true, true_and, and_false, false_and, reduceIte, ite_true, ite_false, eq_self] at *)) <;> omega) _ _ trivial rfl
                exact hi24 _ _ _ trivial rfl
            · refine wa_iconst (v := 0) (by decide) ?_
              refine wa_ireturn rfl rfl ?_
              exact ⟨_, rfl, Fs1, (by rw [khi3_0]; first | assumption | (((try simp only [vp_in_iff, Int32.lt_iff_toInt_lt, Int32.le_iff_toInt_le, ← Int32.toInt_inj, Int32.reduceToInt, n_1, n_2, n_8, Int32.toNatClampNeg, Int64.lt_iff_toInt_lt, Int64.le_iff_toInt_le, ← Int64.toInt_inj, Int64.reduceToInt, Int32.toInt_toInt64, lg_cmp_ge, lg_cmp_le, lg_cmp_gt, lg_cmp_lt, lg_cmp_eq, Bool.false_eq_true, Bool.true_eq_false, reduceCtorEq, false_iff, true_iff, iff_true, iff_false, and_true, true_and, and_false, false_and, reduceIte, ite_true, ite_false, eq_self] at *)) <;> omega)), trivial⟩
      · have mh4 := nle_mx h4
        refine wa_aload_n (i := 0) rfl rfl ?_
        refine wa_getr ck_0 fl_0_44 ly_41 rf_41_0 ?_
        refine wa_iload rfl ?_
        refine wa_iconst (v := 5) (by decide) ?_
        refine wa_Vi (d9 := d - 1) [.int _, .int _] [] (sp_X2_pooled G (d := d - 1) (by omega) s1 _ _) (rfl) rfl rfl (zr (by omega)) mk_X2_pooled ly_7 ml_0_176 (Nat.le_of_ble_eq_true rfl) (fun x31 s30 hs30 => ?_)
        obtain ⟨zs30, -⟩ := pI hs30
        subst zs30
        refine wa_if_ne o_X0_boundDigit_79 (by decide) (fun h32 => ?_) (fun h32 => ?_)
        · refine wa_iinc (v := (1)) (lv' := fun y33 => [(5, .int y33), (0, .ref 41), (1, .int a0), (2, .int l2), (3, .long l3)]) (by decide) rfl (by decide) (fun _ => rfl) (fun y33 hy33 => ?_)
          have ty33 := i_addT hy33.symm
          clear hy33
          refine wa_goto o_X0_boundDigit_7 (by decide) ?_
          refine wa_pick [1, 2, 3, 4, 0] rfl ?_
          exact ih2 _ (by ((try simp only [vp_in_iff, Int32.lt_iff_toInt_lt, Int32.le_iff_toInt_le, ← Int32.toInt_inj, Int32.reduceToInt, n_1, n_2, n_8, Int32.toNatClampNeg, Int64.lt_iff_toInt_lt, Int64.le_iff_toInt_le, ← Int64.toInt_inj, Int64.reduceToInt, Int32.toInt_toInt64, lg_cmp_ge, lg_cmp_le, lg_cmp_gt, lg_cmp_lt, lg_cmp_eq, Bool.false_eq_true, Bool.true_eq_false, reduceCtorEq, false_iff, true_iff, iff_true, iff_false, and_true, true_and, and_false, false_and, reduceIte, ite_true, ite_false, eq_self] at *)) <;> omega) _ _ _ _ ⟨Fs1, (khi3_0), (khi3_1), (khi3_2), (by ((try simp only [vp_in_iff, Int32.lt_iff_toInt_lt, Int32.le_iff_toInt_le, ← Int32.toInt_inj, Int32.reduceToInt, n_1, n_2, n_8, Int32.toNatClampNeg, Int64.lt_iff_toInt_lt, Int64.le_iff_toInt_le, ← Int64.toInt_inj, Int64.reduceToInt, Int32.toInt_toInt64, lg_cmp_ge, lg_cmp_le, lg_cmp_gt, lg_cmp_lt, lg_cmp_eq, Bool.false_eq_true, Bool.true_eq_false, reduceCtorEq, false_iff, true_iff, iff_true, iff_false, and_true, true_and, and_false, false_and, reduceIte, ite_true, ite_false, eq_self] at *)) <;> omega), trivial⟩ rfl
        · refine wa_aload_n (i := 0) rfl rfl ?_
          refine wa_iload rfl ?_
          refine wa_Vi (d9 := d - 1) [.int _] [] (sp_X0_isOn G (d := d - 1) (by omega) s1 _) (rfl) rfl rfl (zr (by omega)) mk_X0_isOn ly_41 ml_0_179 (Nat.le_of_ble_eq_true rfl) (fun x35 s34 hs34 => ?_)
          obtain ⟨bx35, ex35, zs34, -⟩ := pB hs34
          subst ex35
          subst zs34
          refine wa_if_eq o_X0_boundDigit_79 (by decide) (fun h36 => ?_) (fun h36 => ?_)
          · replace h36 := bI_f (b := bx35) (rfl) h36
            refine wa_iinc (v := (1)) (lv' := fun y37 => [(5, .int y37), (0, .ref 41), (1, .int a0), (2, .int l2), (3, .long l3)]) (by decide) rfl (by decide) (fun _ => rfl) (fun y37 hy37 => ?_)
            have ty37 := i_addT hy37.symm
            clear hy37
            refine wa_goto o_X0_boundDigit_7 (by decide) ?_
            refine wa_pick [1, 2, 3, 4, 0] rfl ?_
            exact ih2 _ (by ((try simp only [vp_in_iff, Int32.lt_iff_toInt_lt, Int32.le_iff_toInt_le, ← Int32.toInt_inj, Int32.reduceToInt, n_1, n_2, n_8, Int32.toNatClampNeg, Int64.lt_iff_toInt_lt, Int64.le_iff_toInt_le, ← Int64.toInt_inj, Int64.reduceToInt, Int32.toInt_toInt64, lg_cmp_ge, lg_cmp_le, lg_cmp_gt, lg_cmp_lt, lg_cmp_eq, Bool.false_eq_true, Bool.true_eq_false, reduceCtorEq, false_iff, true_iff, iff_true, iff_false, and_true, true_and, and_false, false_and, reduceIte, ite_true, ite_false, eq_self] at *)) <;> omega) _ _ _ _ ⟨Fs1, (khi3_0), (khi3_1), (khi3_2), (by ((try simp only [vp_in_iff, Int32.lt_iff_toInt_lt, Int32.le_iff_toInt_le, ← Int32.toInt_inj, Int32.reduceToInt, n_1, n_2, n_8, Int32.toNatClampNeg, Int64.lt_iff_toInt_lt, Int64.le_iff_toInt_le, ← Int64.toInt_inj, Int64.reduceToInt, Int32.toInt_toInt64, lg_cmp_ge, lg_cmp_le, lg_cmp_gt, lg_cmp_lt, lg_cmp_eq, Bool.false_eq_true, Bool.true_eq_false, reduceCtorEq, false_iff, true_iff, iff_true, iff_false, and_true, true_and, and_false, false_and, reduceIte, ite_true, ite_false, eq_self] at *)) <;> omega), trivial⟩ rfl
          · replace h36 := bI_t (b := bx35) (rfl) h36
            refine wa_iinc (v := (1)) (lv' := fun y38 => [(2, .int y38), (0, .ref 41), (1, .int a0), (3, .long l3), (5, .int l5)]) (by decide) rfl (by decide) (fun _ => rfl) (fun y38 hy38 => ?_)
            have ty38 := i_addT hy38.symm
            clear hy38
            refine wa_iconst (v := 0) (by decide) ?_
            refine wa_istoreD (lv' := [(6, .int 0), (2, .int y38), (0, .ref 41), (1, .int a0), (3, .long l3), (5, .int l5)]) (by decide) rfl ?_
            refine wa_pick [2, 3, 1, 4, 5, 0] rfl ?_
            have hi41 : ∀ (n9_47 : Nat) (l3 : Int64) (l6 : Int32) (s39 : St), ((Sm 41 51 σ s39) ∧ (gi s39 41 15 = gi σ 41 15) ∧ (gi s39 7 12 = gi σ 7 12) ∧ (gi s39 7 10 = gi σ 7 10) ∧ (0 ≤ l6.toInt) ∧ (True)) → (2147483647 - l6.toInt).toNat = n9_47 → WA G M_X0_boundDigit (ZM G M_X0_boundDigit d (fun r σ' => ∃ x : Int32, r = some (.int x) ∧ Sm 41 51 σ σ' ∧ (0 ≤ (gi σ' 41 15).toInt ∧ (gi σ' 41 15).toInt ≤ 1100) ∧ True)) B_X0_boundDigit_47 [(0, .ref 41), (1, .int a0), (2, .int y38), (3, .long l3), (5, .int l5), (6, .int l6)] [] s39 := by
              intro n9_47
              induction n9_47 using Nat.strongRecOn with
              | _ n9_47 ih40 =>
                intro l3 l6 s39 i9 m9_47
                obtain ⟨Fs39, khi41_0, khi41_1, khi41_2, jhi41_0, -⟩ := i9
                have ul6 := Int32.toInt_lt l6
                have wl6 := Int32.le_toInt l6
                refine wa_iload rfl ?_
                refine wa_iconst (v := 4) (by decide) ?_
                refine wa_icmp_gt o_X0_boundDigit_79 (by decide) (fun h42 => ?_) (fun h42 => ?_)
                · refine wa_iinc (v := (1)) (lv' := fun y43 => [(5, .int y43), (0, .ref 41), (1, .int a0), (2, .int y38), (3, .long l3), (6, .int l6)]) (by decide) rfl (by decide) (fun _ => rfl) (fun y43 hy43 => ?_)
                  have ty43 := i_addT hy43.symm
                  clear hy43
                  refine wa_goto o_X0_boundDigit_7 (by decide) ?_
                  refine wa_pick [1, 2, 3, 4, 0] rfl ?_
                  exact ih2 _ (by ((try simp only [vp_in_iff, Int32.lt_iff_toInt_lt, Int32.le_iff_toInt_le, ← Int32.toInt_inj, Int32.reduceToInt, n_1, n_2, n_8, Int32.toNatClampNeg, Int64.lt_iff_toInt_lt, Int64.le_iff_toInt_le, ← Int64.toInt_inj, Int64.reduceToInt, Int32.toInt_toInt64, lg_cmp_ge, lg_cmp_le, lg_cmp_gt, lg_cmp_lt, lg_cmp_eq, Bool.false_eq_true, Bool.true_eq_false, reduceCtorEq, false_iff, true_iff, iff_true, iff_false, and_true, true_and, and_false, false_and, reduceIte, ite_true, ite_false, eq_self] at *)) <;> omega) _ _ _ _ ⟨Fs39, (khi41_0), (khi41_1), (khi41_2), (by ((try simp only [vp_in_iff, Int32.lt_iff_toInt_lt, Int32.le_iff_toInt_le, ← Int32.toInt_inj, Int32.reduceToInt, n_1, n_2, n_8, Int32.toNatClampNeg, Int64.lt_iff_toInt_lt, Int64.le_iff_toInt_le, ← Int64.toInt_inj, Int64.reduceToInt, Int32.toInt_toInt64, lg_cmp_ge, lg_cmp_le, lg_cmp_gt, lg_cmp_lt, lg_cmp_eq, Bool.false_eq_true, Bool.true_eq_false, reduceCtorEq, false_iff, true_iff, iff_true, iff_false, and_true, true_and, and_false, false_and, reduceIte, ite_true, ite_false, eq_self] at *)) <;> omega), trivial⟩ rfl
                · refine wa_lload_n (i := 3) rfl rfl ?_
                  refine wa_aload_n (i := 0) rfl rfl ?_
                  refine wa_getr ck_0 fl_0_44 ly_41 rf_41_0 ?_
                  refine wa_iload rfl ?_
                  refine wa_iload rfl ?_
                  refine wa_Vi (d9 := d - 1) [.int _, .int _] [.long l3] (sp_X2_pooled G (d := d - 1) (by omega) s39 _ _) (rfl) rfl rfl (zr (by omega)) mk_X2_pooled ly_7 ml_0_176 (Nat.le_of_ble_eq_true rfl) (fun x45 s44 hs44 => ?_)
                  obtain ⟨zs44, -⟩ := pI hs44
                  subst zs44
                  refine wa_absI zs (allW_in (kT_8 _ (List.mem_of_getElem? (i := 168) rfl)) rfl) (Nat.le_of_ble_eq_true rfl) ?_
                  refine wa_top (fun v46 hv46 => ?_)
                  have tv46 := i_absI hv46
                  clear hv46
                  refine wa_i2l ?_
                  refine wa_maxL zs (allW_in (kT_7 _ (List.mem_of_getElem? (i := 5) rfl)) rfl) (Nat.le_of_ble_eq_true rfl) ?_
                  refine wa_topl (fun v47 hv47 => ?_)
                  have tv47 := i_maxL hv47
                  clear hv47
                  refine wa_lstore_nD (lv' := [(3, .long v47), (0, .ref 41), (1, .int a0), (2, .int y38), (5, .int l5), (6, .int l6)]) (i := 3) rfl (by decide) rfl ?_
                  refine wa_iinc (v := (1)) (lv' := fun y48 => [(6, .int y48), (3, .long v47), (0, .ref 41), (1, .int a0), (2, .int y38), (5, .int l5)]) (by decide) rfl (by decide) (fun _ => rfl) (fun y48 hy48 => ?_)
                  have ty48 := i_addT hy48.symm
                  clear hy48
                  refine wa_goto o_X0_boundDigit_47 (by decide) ?_
                  refine wa_pick [2, 3, 4, 1, 5, 0] rfl ?_
                  exact ih40 _ (by ((try simp only [vp_in_iff, Int32.lt_iff_toInt_lt, Int32.le_iff_toInt_le, ← Int32.toInt_inj, Int32.reduceToInt, n_1, n_2, n_8, Int32.toNatClampNeg, Int64.lt_iff_toInt_lt, Int64.le_iff_toInt_le, ← Int64.toInt_inj, Int64.reduceToInt, Int32.toInt_toInt64, lg_cmp_ge, lg_cmp_le, lg_cmp_gt, lg_cmp_lt, lg_cmp_eq, Bool.false_eq_true, Bool.true_eq_false, reduceCtorEq, false_iff, true_iff, iff_true, iff_false, and_true, true_and, and_false, false_and, reduceIte, ite_true, ite_false, eq_self] at *)) <;> omega) _ _ _ ⟨Fs39, (khi41_0), (khi41_1), (khi41_2), (by ((try simp only [vp_in_iff, Int32.lt_iff_toInt_lt, Int32.le_iff_toInt_le, ← Int32.toInt_inj, Int32.reduceToInt, n_1, n_2, n_8, Int32.toNatClampNeg, Int64.lt_iff_toInt_lt, Int64.le_iff_toInt_le, ← Int64.toInt_inj, Int64.reduceToInt, Int32.toInt_toInt64, lg_cmp_ge, lg_cmp_le, lg_cmp_gt, lg_cmp_lt, lg_cmp_eq, Bool.false_eq_true, Bool.true_eq_false, reduceCtorEq, false_iff, true_iff, iff_true, iff_false, and_true, true_and, and_false, false_and, reduceIte, ite_true, ite_false, eq_self] at *)) <;> omega), trivial⟩ rfl
            exact hi41 _ _ _ _ ⟨Fs1, (khi3_0), (khi3_1), (khi3_2), (by ((try simp only [vp_in_iff, Int32.lt_iff_toInt_lt, Int32.le_iff_toInt_le, ← Int32.toInt_inj, Int32.reduceToInt, n_1, n_2, n_8, Int32.toNatClampNeg, Int64.lt_iff_toInt_lt, Int64.le_iff_toInt_le, ← Int64.toInt_inj, Int64.reduceToInt, Int32.toInt_toInt64, lg_cmp_ge, lg_cmp_le, lg_cmp_gt, lg_cmp_lt, lg_cmp_eq, Bool.false_eq_true, Bool.true_eq_false, reduceCtorEq, false_iff, true_iff, iff_true, iff_false, and_true, true_and, and_false, false_and, reduceIte, ite_true, ite_false, eq_self] at *)) <;> omega), trivial⟩ rfl
  exact hi3 _ _ _ _ _ ⟨(Sm.rf 41 51 σ), (rfl), (rfl), (rfl), (by ((try simp only [vp_in_iff, Int32.lt_iff_toInt_lt, Int32.le_iff_toInt_le, ← Int32.toInt_inj, Int32.reduceToInt, n_1, n_2, n_8, Int32.toNatClampNeg, Int64.lt_iff_toInt_lt, Int64.le_iff_toInt_le, ← Int64.toInt_inj, Int64.reduceToInt, Int32.toInt_toInt64, lg_cmp_ge, lg_cmp_le, lg_cmp_gt, lg_cmp_lt, lg_cmp_eq, Bool.false_eq_true, Bool.true_eq_false, reduceCtorEq, false_iff, true_iff, iff_true, iff_false, and_true, true_and, and_false, false_and, reduceIte, ite_true, ite_false, eq_self] at *)) <;> omega), trivial⟩ rfl
set_option maxHeartbeats 4000000 in
theorem sp_X1_isByte (G : kG9) {d : Nat} (hd : 0 ≤ d) (σ : St) (a0 : Int32) (a1 : Int32) : Ct G M_X1_isByte d [.int a0, .int a1] σ (fun r σ' => ∃ x : Bool, r = some (.int (bI x)) ∧ σ = σ' ∧ (x = true ↔ 1 ≤ a0.toInt ∧ a0.toInt ≤ 100 ∧ 0 ≤ a1.toInt ∧ a1.toInt < 256) ∧ True) := by
  refine wa_start (by decide) rfl (Nat.le_of_ble_eq_true rfl) (lv := [(0, .int a0), (1, .int a1)]) rfl o_X1_isByte_0 rfl ?_
  have ua0 := Int32.toInt_lt a0
  have wa0 := Int32.le_toInt a0
  have ua1 := Int32.toInt_lt a1
  have wa1 := Int32.le_toInt a1
  refine wa_iload_n (i := 0) rfl rfl ?_
  refine wa_iconst (v := 1) (by decide) ?_
  refine wa_icmp_lt o_X1_isByte_26 (by decide) (fun h1 => ?_) (fun h1 => ?_)
  · refine wa_iconst (v := 0) (by decide) ?_
    refine wa_zreturn false (rfl) rfl rfl ?_
    exact ⟨_, rfl, rfl, (by ((try simp only [vp_in_iff, Int32.lt_iff_toInt_lt, Int32.le_iff_toInt_le, ← Int32.toInt_inj, Int32.reduceToInt, n_1, n_2, n_8, Int32.toNatClampNeg, Int64.lt_iff_toInt_lt, Int64.le_iff_toInt_le, ← Int64.toInt_inj, Int64.reduceToInt, Int32.toInt_toInt64, lg_cmp_ge, lg_cmp_le, lg_cmp_gt, lg_cmp_lt, lg_cmp_eq, Bool.false_eq_true, Bool.true_eq_false, reduceCtorEq, false_iff, true_iff, iff_true, iff_false, and_true, true_and, and_false, false_and, reduceIte, ite_true, ite_false, eq_self] at *)) <;> omega), trivial⟩
  · refine wa_iload_n (i := 0) rfl rfl ?_
    refine wa_bipush (v := 100) (by decide) ?_
    refine wa_icmp_gt o_X1_isByte_26 (by decide) (fun h2 => ?_) (fun h2 => ?_)
    · refine wa_iconst (v := 0) (by decide) ?_
      refine wa_zreturn false (rfl) rfl rfl ?_
      exact ⟨_, rfl, rfl, (by ((try simp only [vp_in_iff, Int32.lt_iff_toInt_lt, Int32.le_iff_toInt_le, ← Int32.toInt_inj, Int32.reduceToInt, n_1, n_2, n_8, Int32.toNatClampNeg, Int64.lt_iff_toInt_lt, Int64.le_iff_toInt_le, ← Int64.toInt_inj, Int64.reduceToInt, Int32.toInt_toInt64, lg_cmp_ge, lg_cmp_le, lg_cmp_gt, lg_cmp_lt, lg_cmp_eq, Bool.false_eq_true, Bool.true_eq_false, reduceCtorEq, false_iff, true_iff, iff_true, iff_false, and_true, true_and, and_false, false_and, reduceIte, ite_true, ite_false, eq_self] at *)) <;> omega), trivial⟩
    · refine wa_iload_n (i := 1) rfl rfl ?_
      refine wa_if_lt o_X1_isByte_26 (by decide) (fun h3 => ?_) (fun h3 => ?_)
      · refine wa_iconst (v := 0) (by decide) ?_
        refine wa_zreturn false (rfl) rfl rfl ?_
        exact ⟨_, rfl, rfl, (by ((try simp only [vp_in_iff, Int32.lt_iff_toInt_lt, Int32.le_iff_toInt_le, ← Int32.toInt_inj, Int32.reduceToInt, n_1, n_2, n_8, Int32.toNatClampNeg, Int64.lt_iff_toInt_lt, Int64.le_iff_toInt_le, ← Int64.toInt_inj, Int64.reduceToInt, Int32.toInt_toInt64, lg_cmp_ge, lg_cmp_le, lg_cmp_gt, lg_cmp_lt, lg_cmp_eq, Bool.false_eq_true, Bool.true_eq_false, reduceCtorEq, false_iff, true_iff, iff_true, iff_false, and_true, true_and, and_false, false_and, reduceIte, ite_true, ite_false, eq_self] at *)) <;> omega), trivial⟩
      · refine wa_iload_n (i := 1) rfl rfl ?_
        refine wa_sipush (v := 256) (by decide) ?_
        refine wa_icmp_ge o_X1_isByte_26 (by decide) (fun h4 => ?_) (fun h4 => ?_)
        · refine wa_iconst (v := 0) (by decide) ?_
          refine wa_zreturn false (rfl) rfl rfl ?_
          exact ⟨_, rfl, rfl, (by ((try simp only [vp_in_iff, Int32.lt_iff_toInt_lt, Int32.le_iff_toInt_le, ← Int32.toInt_inj, Int32.reduceToInt, n_1, n_2, n_8, Int32.toNatClampNeg, Int64.lt_iff_toInt_lt, Int64.le_iff_toInt_le, ← Int64.toInt_inj, Int64.reduceToInt, Int32.toInt_toInt64, lg_cmp_ge, lg_cmp_le, lg_cmp_gt, lg_cmp_lt, lg_cmp_eq, Bool.false_eq_true, Bool.true_eq_false, reduceCtorEq, false_iff, true_iff, iff_true, iff_false, and_true, true_and, and_false, false_and, reduceIte, ite_true, ite_false, eq_self] at *)) <;> omega), trivial⟩
        · have mh4 := nle_mx h4
          refine wa_iconst (v := 1) (by decide) ?_
          refine wa_goto o_X1_isByte_27 (by decide) ?_
          refine wa_zreturn true (rfl) rfl rfl ?_
          exact ⟨_, rfl, rfl, (by ((try simp only [vp_in_iff, Int32.lt_iff_toInt_lt, Int32.le_iff_toInt_le, ← Int32.toInt_inj, Int32.reduceToInt, n_1, n_2, n_8, Int32.toNatClampNeg, Int64.lt_iff_toInt_lt, Int64.le_iff_toInt_le, ← Int64.toInt_inj, Int64.reduceToInt, Int32.toInt_toInt64, lg_cmp_ge, lg_cmp_le, lg_cmp_gt, lg_cmp_lt, lg_cmp_eq, Bool.false_eq_true, Bool.true_eq_false, reduceCtorEq, false_iff, true_iff, iff_true, iff_false, and_true, true_and, and_false, false_and, reduceIte, ite_true, ite_false, eq_self] at *)) <;> omega), trivial⟩
set_option maxHeartbeats 4000000 in
theorem sp_X1_byteOf (G : kG9) {d : Nat} (hd : 1 ≤ d) (σ : St) (a0 : Int32) (a1 : Int32) : Ct G M_X1_byteOf d [.ref 2, .int a0, .int a1] σ (fun r σ' => ∃ x : Int32, r = some (.int x) ∧ σ = σ' ∧ True) := by
  refine wa_start (by decide) rfl (Nat.le_of_ble_eq_true rfl) (lv := [(0, .ref 2), (1, .int a0), (2, .int a1)]) rfl o_X1_byteOf_0 rfl ?_
  have ua0 := Int32.toInt_lt a0
  have wa0 := Int32.le_toInt a0
  have ua1 := Int32.toInt_lt a1
  have wa1 := Int32.le_toInt a1
  refine wa_iload_n (i := 1) rfl rfl ?_
  refine wa_iload_n (i := 2) rfl rfl ?_
  refine wa_Si (d9 := d - 1) [.int _, .int _] [] (sp_X1_isByte G (d := d - 1) (by omega) σ _ _) (rfl) rfl rfl (zr (by omega)) mk_X1_isByte ml_1_29 (Nat.le_of_ble_eq_true rfl) (fun x2 s1 hs1 => ?_)
  obtain ⟨bx2, ex2, zs1, cx2_1, -⟩ := pB hs1
  subst ex2
  subst zs1
  refine wa_if_eq o_X1_byteOf_29 (by decide) (fun h3 => ?_) (fun h3 => ?_)
  · replace h3 := bI_f (b := bx2) (rfl) h3
    have uh3_0 := iff_f cx2_1 h3
    refine wa_iconst (v := 0) (by decide) ?_
    refine wa_ireturn rfl rfl ?_
    exact ⟨_, rfl, rfl, trivial⟩
  · replace h3 := bI_t (b := bx2) (rfl) h3
    have uh3_0 := iff_t cx2_1 h3
    refine wa_aload_n (i := 0) rfl rfl ?_
    refine wa_getr ck_1 fl_1_11 ly_2 rf_2_0 ?_
    refine wa_iload_n (i := 1) rfl rfl ?_
    refine wa_iconst (v := 1) (by decide) ?_
    refine wa_isub ?_
    refine wa_top (fun v4 hv4 => ?_)
    have tv4 := i_subT hv4
    clear hv4
    refine wa_sipush (v := 256) (by decide) ?_
    refine wa_imul ?_
    refine wa_top (fun v5 hv5 => ?_)
    have tv5 := i_mulT hv5
    clear hv5
    refine wa_iload_n (i := 2) rfl rfl ?_
    refine wa_iadd ?_
    refine wa_top (fun v6 hv6 => ?_)
    have tv6 := i_addT hv6
    clear hv6
    refine wa_bald ly_3 (by ((try simp only [vp_in_iff, Int32.lt_iff_toInt_lt, Int32.le_iff_toInt_le, ← Int32.toInt_inj, Int32.reduceToInt, n_1, n_2, n_8, Int32.toNatClampNeg, Int64.lt_iff_toInt_lt, Int64.le_iff_toInt_le, ← Int64.toInt_inj, Int64.reduceToInt, Int32.toInt_toInt64, lg_cmp_ge, lg_cmp_le, lg_cmp_gt, lg_cmp_lt, lg_cmp_eq, Bool.false_eq_true, Bool.true_eq_false, reduceCtorEq, false_iff, true_iff, iff_true, iff_false, and_true, true_and, and_false, false_and, reduceIte, ite_true, ite_false, eq_self] at *)) <;> omega) ?_
    refine wa_sipush (v := 255) (by decide) ?_
    refine wa_iand ?_
    refine wa_top (fun v7 hv7 => ?_)
    have tv7 := i_andT hv7
    clear hv7
    refine wa_goto o_X1_byteOf_30 (by decide) ?_
    refine wa_ireturn rfl rfl ?_
    exact ⟨_, rfl, rfl, trivial⟩
set_option maxHeartbeats 4000000 in
theorem sp_X1_flip (G : kG9) {d : Nat} (hd : 2 ≤ d) (σ : St) (a0 : Int32) (a1 : Int32) (a2 : Int32) : Ct G M_X1_flip d [.ref 2, .int a0, .int a1, .int a2] σ (fun r σ' => ∃ x : Int32, r = some (.int x) ∧ Sm 3 4 σ σ' ∧ True) := by
  refine wa_start (by decide) rfl (Nat.le_of_ble_eq_true rfl) (lv := [(0, .ref 2), (1, .int a0), (2, .int a1), (3, .int a2)]) rfl o_X1_flip_0 rfl ?_
  have ua0 := Int32.toInt_lt a0
  have wa0 := Int32.le_toInt a0
  have ua1 := Int32.toInt_lt a1
  have wa1 := Int32.le_toInt a1
  have ua2 := Int32.toInt_lt a2
  have wa2 := Int32.le_toInt a2
  refine wa_iload_n (i := 1) rfl rfl ?_
  refine wa_iload_n (i := 2) rfl rfl ?_
  refine wa_Si (d9 := d - 1) [.int _, .int _] [] (sp_X1_isByte G (d := d - 1) (by omega) σ _ _) (rfl) rfl rfl (zr (by omega)) mk_X1_isByte ml_1_29 (Nat.le_of_ble_eq_true rfl) (fun x2 s1 hs1 => ?_)
  obtain ⟨bx2, ex2, zs1, cx2_1, -⟩ := pB hs1
  subst ex2
  subst zs1
  refine wa_if_eq o_X1_flip_28 (by decide) (fun h3 => ?_) (fun h3 => ?_)
  · replace h3 := bI_f (b := bx2) (rfl) h3
    have uh3_0 := iff_f cx2_1 h3
    refine wa_aload_n (i := 0) rfl rfl ?_
    refine wa_iload_n (i := 1) rfl rfl ?_
    refine wa_iload_n (i := 2) rfl rfl ?_
    refine wa_Vi (d9 := d - 1) [.int _, .int _] [] (sp_X1_byteOf G (d := d - 1) (by omega) σ _ _) (rfl) rfl rfl (zr (by omega)) mk_X1_byteOf ly_2 ml_1_33 (Nat.le_of_ble_eq_true rfl) (fun x5 s4 hs4 => ?_)
    obtain ⟨zs4, -⟩ := pI hs4
    subst zs4
    refine wa_ireturn rfl rfl ?_
    exact ⟨_, rfl, (Sm.rf 3 4 σ), trivial⟩
  · replace h3 := bI_t (b := bx2) (rfl) h3
    have uh3_0 := iff_t cx2_1 h3
    refine wa_aload_n (i := 0) rfl rfl ?_
    refine wa_getr ck_1 fl_1_11 ly_2 rf_2_0 ?_
    refine wa_iload_n (i := 1) rfl rfl ?_
    refine wa_iconst (v := 1) (by decide) ?_
    refine wa_isub ?_
    refine wa_top (fun v6 hv6 => ?_)
    have tv6 := i_subT hv6
    clear hv6
    refine wa_sipush (v := 256) (by decide) ?_
    refine wa_imul ?_
    refine wa_top (fun v7 hv7 => ?_)
    have tv7 := i_mulT hv7
    clear hv7
    refine wa_iload_n (i := 2) rfl rfl ?_
    refine wa_iadd ?_
    refine wa_top (fun v8 hv8 => ?_)
    have tv8 := i_addT hv8
    clear hv8
    refine wa_dup2 rfl rfl ?_
    refine wa_bald ly_3 (by ((try simp only [vp_in_iff, Int32.lt_iff_toInt_lt, Int32.le_iff_toInt_le, ← Int32.toInt_inj, Int32.reduceToInt, n_1, n_2, n_8, Int32.toNatClampNeg, Int64.lt_iff_toInt_lt, Int64.le_iff_toInt_le, ← Int64.toInt_inj, Int64.reduceToInt, Int32.toInt_toInt64, lg_cmp_ge, lg_cmp_le, lg_cmp_gt, lg_cmp_lt, lg_cmp_eq, Bool.false_eq_true, Bool.true_eq_false, reduceCtorEq, false_iff, true_iff, iff_true, iff_false, and_true, true_and, and_false, false_and, reduceIte, ite_true, ite_false, eq_self] at *)) <;> omega) ?_
    refine wa_iload_n (i := 3) rfl rfl ?_
    refine wa_i2b ?_
    refine wa_top (fun v9 hv9 => ?_)
    clear hv9
    refine wa_ixor ?_
    refine wa_top (fun v10 hv10 => ?_)
    clear hv10
    refine wa_i2b ?_
    refine wa_top (fun v11 hv11 => ?_)
    clear hv11
    refine wa_bast ly_3 (by ((try simp only [vp_in_iff, Int32.lt_iff_toInt_lt, Int32.le_iff_toInt_le, ← Int32.toInt_inj, Int32.reduceToInt, n_1, n_2, n_8, Int32.toNatClampNeg, Int64.lt_iff_toInt_lt, Int64.le_iff_toInt_le, ← Int64.toInt_inj, Int64.reduceToInt, Int32.toInt_toInt64, lg_cmp_ge, lg_cmp_le, lg_cmp_gt, lg_cmp_lt, lg_cmp_eq, Bool.false_eq_true, Bool.true_eq_false, reduceCtorEq, false_iff, true_iff, iff_true, iff_false, and_true, true_and, and_false, false_and, reduceIte, ite_true, ite_false, eq_self] at *)) <;> omega) (fun s12 hs12 => ?_)
    have Fs12 : Sm 3 4 σ s12 := by rw [hs12]; exact Sm.sy (Sm.rf 3 4 σ) _ _ (by decide) (by decide)
    refine wa_aload_n (i := 0) rfl rfl ?_
    refine wa_iload_n (i := 1) rfl rfl ?_
    refine wa_iload_n (i := 2) rfl rfl ?_
    refine wa_Vi (d9 := d - 1) [.int _, .int _] [] (sp_X1_byteOf G (d := d - 1) (by omega) s12 _ _) (rfl) rfl rfl (zr (by omega)) mk_X1_byteOf ly_2 ml_1_33 (Nat.le_of_ble_eq_true rfl) (fun x14 s13 hs13 => ?_)
    obtain ⟨zs13, -⟩ := pI hs13
    subst zs13
    refine wa_ireturn rfl rfl ?_
    exact ⟨_, rfl, Fs12, trivial⟩
set_option maxHeartbeats 4000000 in
theorem sp_X1_setCut (G : kG9) {d : Nat} (hd : 0 ≤ d) (σ : St) (a0 : Int32) (a1 : Int32) : Ct G M_X1_setCut d [.ref 2, .int a0, .int a1] σ (fun r σ' => Sm 2 3 σ σ' ∧ True) := by
  refine wa_start (by decide) rfl (Nat.le_of_ble_eq_true rfl) (lv := [(0, .ref 2), (1, .int a0), (2, .int a1)]) rfl o_X1_setCut_0 rfl ?_
  have ua0 := Int32.toInt_lt a0
  have wa0 := Int32.le_toInt a0
  have ua1 := Int32.toInt_lt a1
  have wa1 := Int32.le_toInt a1
  refine wa_aload_n (i := 0) rfl rfl ?_
  refine wa_iload_n (i := 1) rfl rfl ?_
  refine wa_puti ck_1 fl_1_25 ly_2 (fun s1 hs1 => ?_)
  have Fs1 : Sm 2 3 σ s1 := by rw [hs1]; exact Sm.si (Sm.rf 2 3 σ) _ _ (by decide) (by decide)
  refine wa_aload_n (i := 0) rfl rfl ?_
  refine wa_iload_n (i := 2) rfl rfl ?_
  refine wa_puti ck_1 fl_1_37 ly_2 (fun s2 hs2 => ?_)
  have Fs2 : Sm 2 3 σ s2 := by rw [hs2]; exact Sm.si Fs1 _ _ (by decide) (by decide)
  refine wa_return (st := []) rfl rfl ?_
  exact ⟨Fs2, trivial⟩
set_option maxHeartbeats 4000000 in
theorem sp_X1_hasRoom (G : kG9) {d : Nat} (hd : 0 ≤ d) (σ : St) (a0 : Int32) : Ct G M_X1_hasRoom d [.ref 2, .int a0] σ (fun r σ' => ∃ x : Bool, r = some (.int (bI x)) ∧ σ = σ' ∧ True) := by
  refine wa_start (by decide) rfl (Nat.le_of_ble_eq_true rfl) (lv := [(0, .ref 2), (1, .int a0)]) rfl o_X1_hasRoom_0 rfl ?_
  have ua0 := Int32.toInt_lt a0
  have wa0 := Int32.le_toInt a0
  refine wa_aload_n (i := 0) rfl rfl ?_
  refine wa_geti ck_1 fl_1_40 ly_2 ?_
  refine wa_iload_n (i := 1) rfl rfl ?_
  refine wa_iadd ?_
  refine wa_top (fun v1 hv1 => ?_)
  have tv1 := i_addT hv1
  clear hv1
  refine wa_sipush (v := 248) (by decide) ?_
  refine wa_iadd ?_
  refine wa_top (fun v2 hv2 => ?_)
  have tv2 := i_addT hv2
  clear hv2
  refine wa_iconst (v := 1) (by decide) ?_
  refine wa_isub ?_
  refine wa_top (fun v3 hv3 => ?_)
  have tv3 := i_subT hv3
  clear hv3
  refine wa_sipush (v := 248) (by decide) ?_
  refine wa_idiv (by ((try simp only [vp_in_iff, Int32.lt_iff_toInt_lt, Int32.le_iff_toInt_le, ← Int32.toInt_inj, Int32.reduceToInt, n_1, n_2, n_8, Int32.toNatClampNeg, Int64.lt_iff_toInt_lt, Int64.le_iff_toInt_le, ← Int64.toInt_inj, Int64.reduceToInt, Int32.toInt_toInt64, lg_cmp_ge, lg_cmp_le, lg_cmp_gt, lg_cmp_lt, lg_cmp_eq, Bool.false_eq_true, Bool.true_eq_false, reduceCtorEq, false_iff, true_iff, iff_true, iff_false, and_true, true_and, and_false, false_and, reduceIte, ite_true, ite_false, eq_self] at *)) <;> omega) ?_
  refine wa_top (fun v4 hv4 => ?_)
  have tv4 := i_divT hv4
  clear hv4
  refine wa_bipush (v := 100) (by decide) ?_
  refine wa_aload_n (i := 0) rfl rfl ?_
  refine wa_geti ck_1 fl_1_43 ly_2 ?_
  refine wa_isub ?_
  refine wa_top (fun v5 hv5 => ?_)
  have tv5 := i_subT hv5
  clear hv5
  refine wa_icmp_gt o_X1_hasRoom_30 (by decide) (fun h6 => ?_) (fun h6 => ?_)
  · refine wa_iconst (v := 0) (by decide) ?_
    refine wa_zreturn false (rfl) rfl rfl ?_
    exact ⟨_, rfl, rfl, trivial⟩
  · refine wa_iconst (v := 1) (by decide) ?_
    refine wa_goto o_X1_hasRoom_31 (by decide) ?_
    refine wa_zreturn true (rfl) rfl rfl ?_
    exact ⟨_, rfl, rfl, trivial⟩
set_option maxHeartbeats 4000000 in
theorem sp_X1_waitingByte (G : kG9) {d : Nat} (hd : 0 ≤ d) (σ : St) (a0 : Int32) : Ct G M_X1_waitingByte d [.ref 2, .int a0] σ (fun r σ' => ∃ x : Int32, r = some (.int x) ∧ σ = σ' ∧ True) := by
  refine wa_start (by decide) rfl (Nat.le_of_ble_eq_true rfl) (lv := [(0, .ref 2), (1, .int a0)]) rfl o_X1_waitingByte_0 rfl ?_
  have ua0 := Int32.toInt_lt a0
  have wa0 := Int32.le_toInt a0
  refine wa_iload_n (i := 1) rfl rfl ?_
  refine wa_if_lt o_X1_waitingByte_24 (by decide) (fun h1 => ?_) (fun h1 => ?_)
  · refine wa_iconst (v := 0) (by decide) ?_
    refine wa_ireturn rfl rfl ?_
    exact ⟨_, rfl, rfl, trivial⟩
  · refine wa_iload_n (i := 1) rfl rfl ?_
    refine wa_sipush (v := 24800) (by decide) ?_
    refine wa_icmp_ge o_X1_waitingByte_24 (by decide) (fun h2 => ?_) (fun h2 => ?_)
    · refine wa_iconst (v := 0) (by decide) ?_
      refine wa_ireturn rfl rfl ?_
      exact ⟨_, rfl, rfl, trivial⟩
    · have mh2 := nle_mx h2
      refine wa_aload_n (i := 0) rfl rfl ?_
      refine wa_getr ck_1 fl_1_22 ly_2 rf_2_3 ?_
      refine wa_iload_n (i := 1) rfl rfl ?_
      refine wa_bald ly_6 (by ((try simp only [vp_in_iff, Int32.lt_iff_toInt_lt, Int32.le_iff_toInt_le, ← Int32.toInt_inj, Int32.reduceToInt, n_1, n_2, n_8, Int32.toNatClampNeg, Int64.lt_iff_toInt_lt, Int64.le_iff_toInt_le, ← Int64.toInt_inj, Int64.reduceToInt, Int32.toInt_toInt64, lg_cmp_ge, lg_cmp_le, lg_cmp_gt, lg_cmp_lt, lg_cmp_eq, Bool.false_eq_true, Bool.true_eq_false, reduceCtorEq, false_iff, true_iff, iff_true, iff_false, and_true, true_and, and_false, false_and, reduceIte, ite_true, ite_false, eq_self] at *)) <;> omega) ?_
      refine wa_sipush (v := 255) (by decide) ?_
      refine wa_iand ?_
      refine wa_top (fun v3 hv3 => ?_)
      have tv3 := i_andT hv3
      clear hv3
      refine wa_goto o_X1_waitingByte_25 (by decide) ?_
      refine wa_ireturn rfl rfl ?_
      exact ⟨_, rfl, rfl, trivial⟩
set_option maxHeartbeats 4000000 in
theorem sp_X1_waitingInt (G : kG9) {d : Nat} (hd : 1 ≤ d) (σ : St) (a0 : Int32) : Ct G M_X1_waitingInt d [.ref 2, .int a0] σ (fun r σ' => ∃ x : Int32, r = some (.int x) ∧ σ = σ' ∧ True) := by
  refine wa_start (by decide) rfl (Nat.le_of_ble_eq_true rfl) (lv := [(0, .ref 2), (1, .int a0)]) rfl o_X1_waitingInt_0 rfl ?_
  have ua0 := Int32.toInt_lt a0
  have wa0 := Int32.le_toInt a0
  refine wa_aload_n (i := 0) rfl rfl ?_
  refine wa_iload_n (i := 1) rfl rfl ?_
  refine wa_Vi (d9 := d - 1) [.int _] [] (sp_X1_waitingByte G (d := d - 1) (by omega) σ _) (rfl) rfl rfl (zr (by omega)) mk_X1_waitingByte ly_2 ml_1_46 (Nat.le_of_ble_eq_true rfl) (fun x2 s1 hs1 => ?_)
  obtain ⟨zs1, -⟩ := pI hs1
  subst zs1
  refine wa_bipush (v := 24) (by decide) ?_
  refine wa_ishl ?_
  refine wa_top (fun v3 hv3 => ?_)
  clear hv3
  refine wa_aload_n (i := 0) rfl rfl ?_
  refine wa_iload_n (i := 1) rfl rfl ?_
  refine wa_iconst (v := 1) (by decide) ?_
  refine wa_iadd ?_
  refine wa_top (fun v4 hv4 => ?_)
  have tv4 := i_addT hv4
  clear hv4
  refine wa_Vi (d9 := d - 1) [.int _] [.int v3] (sp_X1_waitingByte G (d := d - 1) (by omega) σ _) (rfl) rfl rfl (zr (by omega)) mk_X1_waitingByte ly_2 ml_1_46 (Nat.le_of_ble_eq_true rfl) (fun x6 s5 hs5 => ?_)
  obtain ⟨zs5, -⟩ := pI hs5
  subst zs5
  refine wa_bipush (v := 16) (by decide) ?_
  refine wa_ishl ?_
  refine wa_top (fun v7 hv7 => ?_)
  clear hv7
  refine wa_ior ?_
  refine wa_top (fun v8 hv8 => ?_)
  clear hv8
  refine wa_aload_n (i := 0) rfl rfl ?_
  refine wa_iload_n (i := 1) rfl rfl ?_
  refine wa_iconst (v := 2) (by decide) ?_
  refine wa_iadd ?_
  refine wa_top (fun v9 hv9 => ?_)
  have tv9 := i_addT hv9
  clear hv9
  refine wa_Vi (d9 := d - 1) [.int _] [.int v8] (sp_X1_waitingByte G (d := d - 1) (by omega) σ _) (rfl) rfl rfl (zr (by omega)) mk_X1_waitingByte ly_2 ml_1_46 (Nat.le_of_ble_eq_true rfl) (fun x11 s10 hs10 => ?_)
  obtain ⟨zs10, -⟩ := pI hs10
  subst zs10
  refine wa_bipush (v := 8) (by decide) ?_
  refine wa_ishl ?_
  refine wa_top (fun v12 hv12 => ?_)
  clear hv12
  refine wa_ior ?_
  refine wa_top (fun v13 hv13 => ?_)
  clear hv13
  refine wa_aload_n (i := 0) rfl rfl ?_
  refine wa_iload_n (i := 1) rfl rfl ?_
  refine wa_iconst (v := 3) (by decide) ?_
  refine wa_iadd ?_
  refine wa_top (fun v14 hv14 => ?_)
  have tv14 := i_addT hv14
  clear hv14
  refine wa_Vi (d9 := d - 1) [.int _] [.int v13] (sp_X1_waitingByte G (d := d - 1) (by omega) σ _) (rfl) rfl rfl (zr (by omega)) mk_X1_waitingByte ly_2 ml_1_46 (Nat.le_of_ble_eq_true rfl) (fun x16 s15 hs15 => ?_)
  obtain ⟨zs15, -⟩ := pI hs15
  subst zs15
  refine wa_ior ?_
  refine wa_top (fun v17 hv17 => ?_)
  clear hv17
  refine wa_ireturn rfl rfl ?_
  exact ⟨_, rfl, rfl, trivial⟩
set_option maxHeartbeats 4000000 in
theorem sp_X1_await (G : kG9) {d : Nat} (hd : 0 ≤ d) (σ : St) (a0 : Int32) : Ct G M_X1_await d [.ref 2, .int a0] σ (fun r σ' => Sm 2 7 σ σ' ∧ True) := by
  refine wa_start (by decide) rfl (Nat.le_of_ble_eq_true rfl) (lv := [(0, .ref 2), (1, .int a0)]) rfl o_X1_await_0 rfl ?_
  have ua0 := Int32.toInt_lt a0
  have wa0 := Int32.le_toInt a0
  refine wa_aload_n (i := 0) rfl rfl ?_
  refine wa_geti ck_1 fl_1_40 ly_2 ?_
  refine wa_if_lt o_X1_await_38 (by decide) (fun h1 => ?_) (fun h1 => ?_)
  · refine wa_return (st := []) rfl rfl ?_
    exact ⟨(Sm.rf 2 7 σ), trivial⟩
  · refine wa_aload_n (i := 0) rfl rfl ?_
    refine wa_geti ck_1 fl_1_40 ly_2 ?_
    refine wa_sipush (v := 24800) (by decide) ?_
    refine wa_icmp_ge o_X1_await_38 (by decide) (fun h2 => ?_) (fun h2 => ?_)
    · refine wa_return (st := []) rfl rfl ?_
      exact ⟨(Sm.rf 2 7 σ), trivial⟩
    · have mh2 := nle_mx h2
      refine wa_aload_n (i := 0) rfl rfl ?_
      refine wa_getr ck_1 fl_1_22 ly_2 rf_2_3 ?_
      refine wa_aload_n (i := 0) rfl rfl ?_
      refine wa_geti ck_1 fl_1_40 ly_2 ?_
      refine wa_iload_n (i := 1) rfl rfl ?_
      refine wa_i2b ?_
      refine wa_top (fun v3 hv3 => ?_)
      clear hv3
      refine wa_bast ly_6 (by ((try simp only [vp_in_iff, Int32.lt_iff_toInt_lt, Int32.le_iff_toInt_le, ← Int32.toInt_inj, Int32.reduceToInt, n_1, n_2, n_8, Int32.toNatClampNeg, Int64.lt_iff_toInt_lt, Int64.le_iff_toInt_le, ← Int64.toInt_inj, Int64.reduceToInt, Int32.toInt_toInt64, lg_cmp_ge, lg_cmp_le, lg_cmp_gt, lg_cmp_lt, lg_cmp_eq, Bool.false_eq_true, Bool.true_eq_false, reduceCtorEq, false_iff, true_iff, iff_true, iff_false, and_true, true_and, and_false, false_and, reduceIte, ite_true, ite_false, eq_self] at *)) <;> omega) (fun s4 hs4 => ?_)
      have Fs4 : Sm 2 7 σ s4 := by rw [hs4]; exact Sm.sy (Sm.rf 2 7 σ) _ _ (by decide) (by decide)
      refine wa_aload_n (i := 0) rfl rfl ?_
      refine wa_dup rfl ?_
      refine wa_geti ck_1 fl_1_40 ly_2 ?_
      refine wa_rw (nx_gi_sy hs4) ?_
      refine wa_iconst (v := 1) (by decide) ?_
      refine wa_iadd ?_
      refine wa_top (fun v5 hv5 => ?_)
      have tv5 := i_addT hv5
      clear hv5
      refine wa_puti ck_1 fl_1_40 ly_2 (fun s6 hs6 => ?_)
      have Fs6 : Sm 2 7 σ s6 := by rw [hs6]; exact Sm.si Fs4 _ _ (by decide) (by decide)
      refine wa_return (st := []) rfl rfl ?_
      exact ⟨Fs6, trivial⟩
set_option maxHeartbeats 4000000 in
theorem sp_X1_awaitInt (G : kG9) {d : Nat} (hd : 1 ≤ d) (σ : St) (a0 : Int32) : Ct G M_X1_awaitInt d [.ref 2, .int a0] σ (fun r σ' => Sm 2 7 σ σ' ∧ True) := by
  refine wa_start (by decide) rfl (Nat.le_of_ble_eq_true rfl) (lv := [(0, .ref 2), (1, .int a0)]) rfl o_X1_awaitInt_0 rfl ?_
  have ua0 := Int32.toInt_lt a0
  have wa0 := Int32.le_toInt a0
  refine wa_bipush (v := 24) (by decide) ?_
  refine wa_istore_nD (lv' := [(2, .int 24), (0, .ref 2), (1, .int a0)]) (i := 2) rfl (by decide) rfl ?_
  refine wa_pick [1, 2, 0] rfl ?_
  have hi3 : ∀ (n9_3 : Nat) (l2 : Int32) (s1 : St), ((Sm 2 7 σ s1) ∧ (True)) → (l2.toInt + 8).toNat = n9_3 → WA G M_X1_awaitInt (ZM G M_X1_awaitInt d (fun r σ' => Sm 2 7 σ σ' ∧ True)) B_X1_awaitInt_3 [(0, .ref 2), (1, .int a0), (2, .int l2)] [] s1 := by
    intro n9_3
    induction n9_3 using Nat.strongRecOn with
    | _ n9_3 ih2 =>
      intro l2 s1 i9 m9_3
      obtain ⟨Fs1, -⟩ := i9
      have ul2 := Int32.toInt_lt l2
      have wl2 := Int32.le_toInt l2
      refine wa_iload_n (i := 2) rfl rfl ?_
      refine wa_if_lt o_X1_awaitInt_20 (by decide) (fun h4 => ?_) (fun h4 => ?_)
      · refine wa_return (st := []) rfl rfl ?_
        exact ⟨Fs1, trivial⟩
      · refine wa_aload_n (i := 0) rfl rfl ?_
        refine wa_iload_n (i := 1) rfl rfl ?_
        refine wa_iload_n (i := 2) rfl rfl ?_
        refine wa_ishr ?_
        refine wa_top (fun v5 hv5 => ?_)
        clear hv5
        refine wa_Vv (d9 := d - 1) [.int _] [] (sp_X1_await G (d := d - 1) (by omega) s1 _) (rfl) rfl rfl (zr (by omega)) mk_X1_await ly_2 ml_1_50 (Nat.le_of_ble_eq_true rfl) (fun s6 hs6 => ?_)
        obtain ⟨fs6, -⟩ := hs6
        have Fs6 := Sm.tr Fs1 (Sm.wd fs6 (lo' := 2) (hi' := 7) (by decide) (by decide))
        refine wa_iinc (v := (-8)) (lv' := fun y8 => [(2, .int y8), (0, .ref 2), (1, .int a0)]) (by decide) rfl (by decide) (fun _ => rfl) (fun y8 hy8 => ?_)
        have ty8 := i_addT hy8.symm
        clear hy8
        refine wa_goto o_X1_awaitInt_3 (by decide) ?_
        refine wa_pick [1, 2, 0] rfl ?_
        exact ih2 _ (by ((try simp only [vp_in_iff, Int32.lt_iff_toInt_lt, Int32.le_iff_toInt_le, ← Int32.toInt_inj, Int32.reduceToInt, n_1, n_2, n_8, Int32.toNatClampNeg, Int64.lt_iff_toInt_lt, Int64.le_iff_toInt_le, ← Int64.toInt_inj, Int64.reduceToInt, Int32.toInt_toInt64, lg_cmp_ge, lg_cmp_le, lg_cmp_gt, lg_cmp_lt, lg_cmp_eq, Bool.false_eq_true, Bool.true_eq_false, reduceCtorEq, false_iff, true_iff, iff_true, iff_false, and_true, true_and, and_false, false_and, reduceIte, ite_true, ite_false, eq_self] at *)) <;> omega) _ _ ⟨Fs6, trivial⟩ rfl
  exact hi3 _ _ _ ⟨(Sm.rf 2 7 σ), trivial⟩ rfl
set_option maxHeartbeats 4000000 in
theorem sp_X1_recordRead (G : kG9) {d : Nat} (hd : 1 ≤ d) (σ : St) (a1 : Int32) : Ct G M_X1_recordRead d [.ref 2, .ref 1, .int a1] σ (fun r σ' => Sm 2 7 σ σ' ∧ True) := by
  refine wa_start (by decide) rfl (Nat.le_of_ble_eq_true rfl) (lv := [(0, .ref 2), (1, .ref 1), (2, .int a1)]) rfl o_X1_recordRead_0 rfl ?_
  have ua1 := Int32.toInt_lt a1
  have wa1 := Int32.le_toInt a1
  refine wa_aload_n (i := 0) rfl rfl ?_
  refine wa_iconst (v := 1) (by decide) ?_
  refine wa_Vv (d9 := d - 1) [.int _] [] (sp_X1_await G (d := d - 1) (by omega) σ _) (rfl) rfl rfl (zr (by omega)) mk_X1_await ly_2 ml_1_50 (Nat.le_of_ble_eq_true rfl) (fun s1 hs1 => ?_)
  obtain ⟨fs1, -⟩ := hs1
  have Fs1 := Sm.tr (Sm.rf 2 7 σ) (Sm.wd fs1 (lo' := 2) (hi' := 7) (by decide) (by decide))
  refine wa_aload_n (i := 0) rfl rfl ?_
  refine wa_iload_n (i := 2) rfl rfl ?_
  refine wa_bipush (v := 8) (by decide) ?_
  refine wa_ishr ?_
  refine wa_top (fun v3 hv3 => ?_)
  clear hv3
  refine wa_Vv (d9 := d - 1) [.int _] [] (sp_X1_await G (d := d - 1) (by omega) s1 _) (rfl) rfl rfl (zr (by omega)) mk_X1_await ly_2 ml_1_50 (Nat.le_of_ble_eq_true rfl) (fun s4 hs4 => ?_)
  obtain ⟨fs4, -⟩ := hs4
  have Fs4 := Sm.tr Fs1 (Sm.wd fs4 (lo' := 2) (hi' := 7) (by decide) (by decide))
  refine wa_aload_n (i := 0) rfl rfl ?_
  refine wa_iload_n (i := 2) rfl rfl ?_
  refine wa_Vv (d9 := d - 1) [.int _] [] (sp_X1_await G (d := d - 1) (by omega) s4 _) (rfl) rfl rfl (zr (by omega)) mk_X1_await ly_2 ml_1_50 (Nat.le_of_ble_eq_true rfl) (fun s6 hs6 => ?_)
  obtain ⟨fs6, -⟩ := hs6
  have Fs6 := Sm.tr Fs4 (Sm.wd fs6 (lo' := 2) (hi' := 7) (by decide) (by decide))
  refine wa_iconst (v := 0) (by decide) ?_
  refine wa_istore_nD (lv' := [(3, .int 0), (0, .ref 2), (1, .ref 1), (2, .int a1)]) (i := 3) rfl (by decide) rfl ?_
  refine wa_pick [1, 2, 3, 0] rfl ?_
  have hi10 : ∀ (n9_20 : Nat) (l3 : Int32) (s8 : St), ((Sm 2 7 σ s8) ∧ (0 ≤ l3.toInt) ∧ (True)) → (2147483647 - l3.toInt).toNat = n9_20 → WA G M_X1_recordRead (ZM G M_X1_recordRead d (fun r σ' => Sm 2 7 σ σ' ∧ True)) B_X1_recordRead_20 [(0, .ref 2), (1, .ref 1), (2, .int a1), (3, .int l3)] [] s8 := by
    intro n9_20
    induction n9_20 using Nat.strongRecOn with
    | _ n9_20 ih9 =>
      intro l3 s8 i9 m9_20
      obtain ⟨Fs8, jhi10_0, -⟩ := i9
      have ul3 := Int32.toInt_lt l3
      have wl3 := Int32.le_toInt l3
      refine wa_iload_n (i := 3) rfl rfl ?_
      refine wa_iload_n (i := 2) rfl rfl ?_
      refine wa_icmp_ge o_X1_recordRead_44 (by decide) (fun h11 => ?_) (fun h11 => ?_)
      · refine wa_return (st := []) rfl rfl ?_
        exact ⟨Fs8, trivial⟩
      · have mh11 := nle_mx h11
        refine wa_iload_n (i := 3) rfl rfl ?_
        refine wa_aload_n (i := 1) rfl rfl ?_
        refine wa_alen ly_1 (by decide) ?_
        refine wa_rw (show Int32.ofNat 2000 = 2000 from rfl) ?_
        refine wa_icmp_ge o_X1_recordRead_44 (by decide) (fun h12 => ?_) (fun h12 => ?_)
        · refine wa_return (st := []) rfl rfl ?_
          exact ⟨Fs8, trivial⟩
        · have mh12 := nle_mx h12
          refine wa_aload_n (i := 0) rfl rfl ?_
          refine wa_aload_n (i := 1) rfl rfl ?_
          refine wa_iload_n (i := 3) rfl rfl ?_
          refine wa_bald ly_1 (by ((try simp only [vp_in_iff, Int32.lt_iff_toInt_lt, Int32.le_iff_toInt_le, ← Int32.toInt_inj, Int32.reduceToInt, n_1, n_2, n_8, Int32.toNatClampNeg, Int64.lt_iff_toInt_lt, Int64.le_iff_toInt_le, ← Int64.toInt_inj, Int64.reduceToInt, Int32.toInt_toInt64, lg_cmp_ge, lg_cmp_le, lg_cmp_gt, lg_cmp_lt, lg_cmp_eq, Bool.false_eq_true, Bool.true_eq_false, reduceCtorEq, false_iff, true_iff, iff_true, iff_false, and_true, true_and, and_false, false_and, reduceIte, ite_true, ite_false, eq_self] at *)) <;> omega) ?_
          refine wa_Vv (d9 := d - 1) [.int _] [] (sp_X1_await G (d := d - 1) (by omega) s8 _) (rfl) rfl rfl (zr (by omega)) mk_X1_await ly_2 ml_1_50 (Nat.le_of_ble_eq_true rfl) (fun s13 hs13 => ?_)
          obtain ⟨fs13, -⟩ := hs13
          have Fs13 := Sm.tr Fs8 (Sm.wd fs13 (lo' := 2) (hi' := 7) (by decide) (by decide))
          refine wa_iinc (v := (1)) (lv' := fun y15 => [(3, .int y15), (0, .ref 2), (1, .ref 1), (2, .int a1)]) (by decide) rfl (by decide) (fun _ => rfl) (fun y15 hy15 => ?_)
          have ty15 := i_addT hy15.symm
          clear hy15
          refine wa_goto o_X1_recordRead_20 (by decide) ?_
          refine wa_pick [1, 2, 3, 0] rfl ?_
          exact ih9 _ (by ((try simp only [vp_in_iff, Int32.lt_iff_toInt_lt, Int32.le_iff_toInt_le, ← Int32.toInt_inj, Int32.reduceToInt, n_1, n_2, n_8, Int32.toNatClampNeg, Int64.lt_iff_toInt_lt, Int64.le_iff_toInt_le, ← Int64.toInt_inj, Int64.reduceToInt, Int32.toInt_toInt64, lg_cmp_ge, lg_cmp_le, lg_cmp_gt, lg_cmp_lt, lg_cmp_eq, Bool.false_eq_true, Bool.true_eq_false, reduceCtorEq, false_iff, true_iff, iff_true, iff_false, and_true, true_and, and_false, false_and, reduceIte, ite_true, ite_false, eq_self] at *)) <;> omega) _ _ ⟨Fs13, (by ((try simp only [vp_in_iff, Int32.lt_iff_toInt_lt, Int32.le_iff_toInt_le, ← Int32.toInt_inj, Int32.reduceToInt, n_1, n_2, n_8, Int32.toNatClampNeg, Int64.lt_iff_toInt_lt, Int64.le_iff_toInt_le, ← Int64.toInt_inj, Int64.reduceToInt, Int32.toInt_toInt64, lg_cmp_ge, lg_cmp_le, lg_cmp_gt, lg_cmp_lt, lg_cmp_eq, Bool.false_eq_true, Bool.true_eq_false, reduceCtorEq, false_iff, true_iff, iff_true, iff_false, and_true, true_and, and_false, false_and, reduceIte, ite_true, ite_false, eq_self] at *)) <;> omega), trivial⟩ rfl
  exact hi10 _ _ _ ⟨Fs6, (by ((try simp only [vp_in_iff, Int32.lt_iff_toInt_lt, Int32.le_iff_toInt_le, ← Int32.toInt_inj, Int32.reduceToInt, n_1, n_2, n_8, Int32.toNatClampNeg, Int64.lt_iff_toInt_lt, Int64.le_iff_toInt_le, ← Int64.toInt_inj, Int64.reduceToInt, Int32.toInt_toInt64, lg_cmp_ge, lg_cmp_le, lg_cmp_gt, lg_cmp_lt, lg_cmp_eq, Bool.false_eq_true, Bool.true_eq_false, reduceCtorEq, false_iff, true_iff, iff_true, iff_false, and_true, true_and, and_false, false_and, reduceIte, ite_true, ite_false, eq_self] at *)) <;> omega), trivial⟩ rfl
set_option maxHeartbeats 4000000 in
theorem sp_X1_recordOn (G : kG9) {d : Nat} (hd : 2 ≤ d) (σ : St) (a0 : Int32) (a1 : Bool) : Ct G M_X1_recordOn d [.ref 2, .int a0, .int (bI a1)] σ (fun r σ' => Sm 2 7 σ σ' ∧ True) := by
  refine wa_start (by decide) rfl (Nat.le_of_ble_eq_true rfl) (lv := [(0, .ref 2), (1, .int a0), (2, .int (bI a1))]) rfl o_X1_recordOn_0 rfl ?_
  have ua0 := Int32.toInt_lt a0
  have wa0 := Int32.le_toInt a0
  refine wa_aload_n (i := 0) rfl rfl ?_
  refine wa_iconst (v := 2) (by decide) ?_
  refine wa_Vv (d9 := d - 1) [.int _] [] (sp_X1_await G (d := d - 1) (by omega) σ _) (rfl) rfl rfl (zr (by omega)) mk_X1_await ly_2 ml_1_50 (Nat.le_of_ble_eq_true rfl) (fun s1 hs1 => ?_)
  obtain ⟨fs1, -⟩ := hs1
  have Fs1 := Sm.tr (Sm.rf 2 7 σ) (Sm.wd fs1 (lo' := 2) (hi' := 7) (by decide) (by decide))
  refine wa_aload_n (i := 0) rfl rfl ?_
  refine wa_iload_n (i := 1) rfl rfl ?_
  refine wa_Vv (d9 := d - 1) [.int _] [] (sp_X1_awaitInt G (d := d - 1) (by omega) s1 _) (rfl) rfl rfl (zr (by omega)) mk_X1_awaitInt ly_2 ml_1_54 (Nat.le_of_ble_eq_true rfl) (fun s3 hs3 => ?_)
  obtain ⟨fs3, -⟩ := hs3
  have Fs3 := Sm.tr Fs1 (Sm.wd fs3 (lo' := 2) (hi' := 7) (by decide) (by decide))
  refine wa_aload_n (i := 0) rfl rfl ?_
  refine wa_iload_n (i := 2) rfl rfl ?_
  refine wa_if_eq o_X1_recordOn_19 (by decide) (fun h5 => ?_) (fun h5 => ?_)
  · replace h5 := bI_f (b := a1) (rfl) h5
    refine wa_iconst (v := 0) (by decide) ?_
    refine wa_Vv (d9 := d - 1) [.int _] [] (sp_X1_awaitInt G (d := d - 1) (by omega) s3 _) (rfl) rfl rfl (zr (by omega)) mk_X1_awaitInt ly_2 ml_1_54 (Nat.le_of_ble_eq_true rfl) (fun s6 hs6 => ?_)
    obtain ⟨fs6, -⟩ := hs6
    have Fs6 := Sm.tr Fs3 (Sm.wd fs6 (lo' := 2) (hi' := 7) (by decide) (by decide))
    refine wa_return (st := []) rfl rfl ?_
    exact ⟨Fs6, trivial⟩
  · replace h5 := bI_t (b := a1) (rfl) h5
    refine wa_iconst (v := 1) (by decide) ?_
    refine wa_goto o_X1_recordOn_20 (by decide) ?_
    refine wa_Vv (d9 := d - 1) [.int _] [] (sp_X1_awaitInt G (d := d - 1) (by omega) s3 _) (rfl) rfl rfl (zr (by omega)) mk_X1_awaitInt ly_2 ml_1_54 (Nat.le_of_ble_eq_true rfl) (fun s8 hs8 => ?_)
    obtain ⟨fs8, -⟩ := hs8
    have Fs8 := Sm.tr Fs3 (Sm.wd fs8 (lo' := 2) (hi' := 7) (by decide) (by decide))
    refine wa_return (st := []) rfl rfl ?_
    exact ⟨Fs8, trivial⟩
set_option maxHeartbeats 4000000 in
theorem sp_X1_recordAct (G : kG9) {d : Nat} (hd : 1 ≤ d) (σ : St) (a0 : Int32) : Ct G M_X1_recordAct d [.ref 2, .int a0] σ (fun r σ' => Sm 2 7 σ σ' ∧ True) := by
  refine wa_start (by decide) rfl (Nat.le_of_ble_eq_true rfl) (lv := [(0, .ref 2), (1, .int a0)]) rfl o_X1_recordAct_0 rfl ?_
  have ua0 := Int32.toInt_lt a0
  have wa0 := Int32.le_toInt a0
  refine wa_aload_n (i := 0) rfl rfl ?_
  refine wa_iload_n (i := 1) rfl rfl ?_
  refine wa_Vv (d9 := d - 1) [.int _] [] (sp_X1_await G (d := d - 1) (by omega) σ _) (rfl) rfl rfl (zr (by omega)) mk_X1_await ly_2 ml_1_50 (Nat.le_of_ble_eq_true rfl) (fun s1 hs1 => ?_)
  obtain ⟨fs1, -⟩ := hs1
  have Fs1 := Sm.tr (Sm.rf 2 7 σ) (Sm.wd fs1 (lo' := 2) (hi' := 7) (by decide) (by decide))
  refine wa_return (st := []) rfl rfl ?_
  exact ⟨Fs1, trivial⟩
set_option maxHeartbeats 4000000 in
theorem sp_X1_summed (G : kG9) {d : Nat} (hd : 0 ≤ d) (σ : St) (a0 : Int32) (a1 : Int32) : Ct G M_X1_summed d [.int a0, .int a1] σ (fun r σ' => ∃ x : Int32, r = some (.int x) ∧ σ = σ' ∧ True) := by
  refine wa_start (by decide) rfl (Nat.le_of_ble_eq_true rfl) (lv := [(0, .int a0), (1, .int a1)]) rfl o_X1_summed_0 rfl ?_
  have ua0 := Int32.toInt_lt a0
  have wa0 := Int32.le_toInt a0
  have ua1 := Int32.toInt_lt a1
  have wa1 := Int32.le_toInt a1
  refine wa_iload_n (i := 0) rfl rfl ?_
  refine wa_iload_n (i := 1) rfl rfl ?_
  refine wa_ixor ?_
  refine wa_top (fun v1 hv1 => ?_)
  clear hv1
  refine wa_istore_nD (lv' := [(2, .int v1), (0, .int a0), (1, .int a1)]) (i := 2) rfl (by decide) rfl ?_
  refine wa_iload_n (i := 2) rfl rfl ?_
  refine wa_iconst (v := 5) (by decide) ?_
  refine wa_ishl ?_
  refine wa_top (fun v2 hv2 => ?_)
  clear hv2
  refine wa_iload_n (i := 2) rfl rfl ?_
  refine wa_bipush (v := 27) (by decide) ?_
  refine wa_iushr ?_
  refine wa_top (fun v3 hv3 => ?_)
  clear hv3
  refine wa_ior ?_
  refine wa_top (fun v4 hv4 => ?_)
  clear hv4
  refine wa_ldc (v := (-1640531535)) (allW_in (kT_3 _ (List.mem_of_getElem? (i := 239) rfl)) rfl) ?_
  refine wa_imul ?_
  refine wa_top (fun v5 hv5 => ?_)
  have tv5 := i_mulT hv5
  clear hv5
  refine wa_ireturn rfl rfl ?_
  exact ⟨_, rfl, rfl, trivial⟩
set_option maxHeartbeats 4000000 in
theorem sp_X1_compose (G : kG9) {d : Nat} (hd : 1 ≤ d) (σ : St) (a0 : Int32) (a1 : Int32) : Ct G M_X1_compose d [.ref 2, .int a0, .int a1] σ (fun r σ' => Sm 5 6 σ σ' ∧ True) := by
  refine wa_start (by decide) rfl (Nat.le_of_ble_eq_true rfl) (lv := [(0, .ref 2), (1, .int a0), (2, .int a1)]) rfl o_X1_compose_0 rfl ?_
  have ua0 := Int32.toInt_lt a0
  have wa0 := Int32.le_toInt a0
  have ua1 := Int32.toInt_lt a1
  have wa1 := Int32.le_toInt a1
  refine wa_sipush (v := 248) (by decide) ?_
  refine wa_aload_n (i := 0) rfl rfl ?_
  refine wa_geti ck_1 fl_1_40 ly_2 ?_
  refine wa_iload_n (i := 2) rfl rfl ?_
  refine wa_isub ?_
  refine wa_top (fun v1 hv1 => ?_)
  have tv1 := i_subT hv1
  clear hv1
  refine wa_minI zs (allW_in (kT_3 _ (List.mem_of_getElem? (i := 229) rfl)) rfl) (Nat.le_of_ble_eq_true rfl) ?_
  refine wa_top (fun v2 hv2 => ?_)
  have tv2 := i_minI hv2
  clear hv2
  refine wa_istore_nD (lv' := [(3, .int v2), (0, .ref 2), (1, .int a0), (2, .int a1)]) (i := 3) rfl (by decide) rfl ?_
  refine wa_aload_n (i := 0) rfl rfl ?_
  refine wa_getr ck_1 fl_1_19 ly_2 rf_2_2 ?_
  refine wa_iconst (v := 0) (by decide) ?_
  refine wa_iload_n (i := 1) rfl rfl ?_
  refine wa_bipush (v := 8) (by decide) ?_
  refine wa_ishr ?_
  refine wa_top (fun v3 hv3 => ?_)
  clear hv3
  refine wa_i2b ?_
  refine wa_top (fun v4 hv4 => ?_)
  clear hv4
  refine wa_bast ly_5 (by ((try simp only [vp_in_iff, Int32.lt_iff_toInt_lt, Int32.le_iff_toInt_le, ← Int32.toInt_inj, Int32.reduceToInt, n_1, n_2, n_8, Int32.toNatClampNeg, Int64.lt_iff_toInt_lt, Int64.le_iff_toInt_le, ← Int64.toInt_inj, Int64.reduceToInt, Int32.toInt_toInt64, lg_cmp_ge, lg_cmp_le, lg_cmp_gt, lg_cmp_lt, lg_cmp_eq, Bool.false_eq_true, Bool.true_eq_false, reduceCtorEq, false_iff, true_iff, iff_true, iff_false, and_true, true_and, and_false, false_and, reduceIte, ite_true, ite_false, eq_self] at *)) <;> omega) (fun s5 hs5 => ?_)
  have Fs5 : Sm 5 6 σ s5 := by rw [hs5]; exact Sm.sy (Sm.rf 5 6 σ) _ _ (by decide) (by decide)
  refine wa_aload_n (i := 0) rfl rfl ?_
  refine wa_getr ck_1 fl_1_19 ly_2 rf_2_2 ?_
  refine wa_iconst (v := 1) (by decide) ?_
  refine wa_iload_n (i := 1) rfl rfl ?_
  refine wa_i2b ?_
  refine wa_top (fun v6 hv6 => ?_)
  clear hv6
  refine wa_bast ly_5 (by ((try simp only [vp_in_iff, Int32.lt_iff_toInt_lt, Int32.le_iff_toInt_le, ← Int32.toInt_inj, Int32.reduceToInt, n_1, n_2, n_8, Int32.toNatClampNeg, Int64.lt_iff_toInt_lt, Int64.le_iff_toInt_le, ← Int64.toInt_inj, Int64.reduceToInt, Int32.toInt_toInt64, lg_cmp_ge, lg_cmp_le, lg_cmp_gt, lg_cmp_lt, lg_cmp_eq, Bool.false_eq_true, Bool.true_eq_false, reduceCtorEq, false_iff, true_iff, iff_true, iff_false, and_true, true_and, and_false, false_and, reduceIte, ite_true, ite_false, eq_self] at *)) <;> omega) (fun s7 hs7 => ?_)
  have Fs7 : Sm 5 6 σ s7 := by rw [hs7]; exact Sm.sy Fs5 _ _ (by decide) (by decide)
  refine wa_aload_n (i := 0) rfl rfl ?_
  refine wa_getr ck_1 fl_1_19 ly_2 rf_2_2 ?_
  refine wa_iconst (v := 2) (by decide) ?_
  refine wa_iload_n (i := 2) rfl rfl ?_
  refine wa_iload_n (i := 3) rfl rfl ?_
  refine wa_iadd ?_
  refine wa_top (fun v8 hv8 => ?_)
  have tv8 := i_addT hv8
  clear hv8
  refine wa_aload_n (i := 0) rfl rfl ?_
  refine wa_geti ck_1 fl_1_40 ly_2 ?_
  refine wa_rw ((nx_gi_sy hs7).trans (nx_gi_sy hs5)) ?_
  refine wa_icmp_lt o_X1_compose_51 (by decide) (fun h9 => ?_) (fun h9 => ?_)
  · refine wa_iconst (v := 0) (by decide) ?_
    refine wa_i2b ?_
    refine wa_top (fun v10 hv10 => ?_)
    clear hv10
    refine wa_bast ly_5 (by ((try simp only [vp_in_iff, Int32.lt_iff_toInt_lt, Int32.le_iff_toInt_le, ← Int32.toInt_inj, Int32.reduceToInt, n_1, n_2, n_8, Int32.toNatClampNeg, Int64.lt_iff_toInt_lt, Int64.le_iff_toInt_le, ← Int64.toInt_inj, Int64.reduceToInt, Int32.toInt_toInt64, lg_cmp_ge, lg_cmp_le, lg_cmp_gt, lg_cmp_lt, lg_cmp_eq, Bool.false_eq_true, Bool.true_eq_false, reduceCtorEq, false_iff, true_iff, iff_true, iff_false, and_true, true_and, and_false, false_and, reduceIte, ite_true, ite_false, eq_self] at *)) <;> omega) (fun s11 hs11 => ?_)
    have Fs11 : Sm 5 6 σ s11 := by rw [hs11]; exact Sm.sy Fs7 _ _ (by decide) (by decide)
    refine wa_aload_n (i := 0) rfl rfl ?_
    refine wa_getr ck_1 fl_1_19 ly_2 rf_2_2 ?_
    refine wa_iconst (v := 3) (by decide) ?_
    refine wa_iload_n (i := 3) rfl rfl ?_
    refine wa_i2b ?_
    refine wa_top (fun v12 hv12 => ?_)
    clear hv12
    refine wa_bast ly_5 (by ((try simp only [vp_in_iff, Int32.lt_iff_toInt_lt, Int32.le_iff_toInt_le, ← Int32.toInt_inj, Int32.reduceToInt, n_1, n_2, n_8, Int32.toNatClampNeg, Int64.lt_iff_toInt_lt, Int64.le_iff_toInt_le, ← Int64.toInt_inj, Int64.reduceToInt, Int32.toInt_toInt64, lg_cmp_ge, lg_cmp_le, lg_cmp_gt, lg_cmp_lt, lg_cmp_eq, Bool.false_eq_true, Bool.true_eq_false, reduceCtorEq, false_iff, true_iff, iff_true, iff_false, and_true, true_and, and_false, false_and, reduceIte, ite_true, ite_false, eq_self] at *)) <;> omega) (fun s13 hs13 => ?_)
    have Fs13 : Sm 5 6 σ s13 := by rw [hs13]; exact Sm.sy Fs11 _ _ (by decide) (by decide)
    refine wa_iconst (v := 0) (by decide) ?_
    refine wa_istoreD (lv' := [(4, .int 0), (3, .int v2), (0, .ref 2), (1, .int a0), (2, .int a1)]) (by decide) rfl ?_
    refine wa_pick [2, 4, 1, 0] rfl ?_
    have hi16 : ∀ (n9_65 : Nat) (l4 : Int32) (s14 : St), ((Sm 5 6 σ s14) ∧ (gi s14 2 4 = gi σ 2 4) ∧ (0 ≤ l4.toInt) ∧ (True)) → (2147483647 - l4.toInt).toNat = n9_65 → WA G M_X1_compose (ZM G M_X1_compose d (fun r σ' => Sm 5 6 σ σ' ∧ True)) B_X1_compose_65 [(0, .ref 2), (2, .int a1), (3, .int v2), (4, .int l4)] [] s14 := by
      intro n9_65
      induction n9_65 using Nat.strongRecOn with
      | _ n9_65 ih15 =>
        intro l4 s14 i9 m9_65
        obtain ⟨Fs14, khi16_0, jhi16_0, -⟩ := i9
        have ul4 := Int32.toInt_lt l4
        have wl4 := Int32.le_toInt l4
        refine wa_iload rfl ?_
        refine wa_sipush (v := 248) (by decide) ?_
        refine wa_icmp_ge o_X1_compose_107 (by decide) (fun h17 => ?_) (fun h17 => ?_)
        · refine wa_iconst (v := 0) (by decide) ?_
          refine wa_istoreD (lv' := [(4, .int 0), (0, .ref 2), (2, .int a1), (3, .int v2)]) (by decide) rfl ?_
          refine wa_iconst (v := 0) (by decide) ?_
          refine wa_istoreD (lv' := [(5, .int 0), (4, .int 0), (0, .ref 2), (2, .int a1), (3, .int v2)]) (by decide) rfl ?_
          refine wa_pick [2, 1, 0] rfl ?_
          have hi20 : ∀ (n9_113 : Nat) (l4 : Int32) (l5 : Int32) (s18 : St), ((Sm 5 6 σ s18) ∧ (gi s18 2 4 = gi σ 2 4) ∧ (0 ≤ l5.toInt) ∧ (True)) → (2147483647 - l5.toInt).toNat = n9_113 → WA G M_X1_compose (ZM G M_X1_compose d (fun r σ' => Sm 5 6 σ σ' ∧ True)) B_X1_compose_113 [(0, .ref 2), (4, .int l4), (5, .int l5)] [] s18 := by
            intro n9_113
            induction n9_113 using Nat.strongRecOn with
            | _ n9_113 ih19 =>
              intro l4 l5 s18 i9 m9_113
              obtain ⟨Fs18, khi20_0, jhi20_0, -⟩ := i9
              have ul4 := Int32.toInt_lt l4
              have wl4 := Int32.le_toInt l4
              have ul5 := Int32.toInt_lt l5
              have wl5 := Int32.le_toInt l5
              refine wa_iload rfl ?_
              refine wa_sipush (v := 252) (by decide) ?_
              refine wa_icmp_ge o_X1_compose_145 (by decide) (fun h21 => ?_) (fun h21 => ?_)
              · refine wa_iconst (v := 0) (by decide) ?_
                refine wa_istoreD (lv' := [(5, .int 0), (0, .ref 2), (4, .int l4)]) (by decide) rfl ?_
                refine wa_pick [1, 2, 0] rfl ?_
                have hi24 : ∀ (n9_148 : Nat) (l5 : Int32) (s22 : St), ((Sm 5 6 σ s22) ∧ (gi s22 2 4 = gi σ 2 4) ∧ (0 ≤ l5.toInt) ∧ (True)) → (2147483647 - l5.toInt).toNat = n9_148 → WA G M_X1_compose (ZM G M_X1_compose d (fun r σ' => Sm 5 6 σ σ' ∧ True)) B_X1_compose_148 [(0, .ref 2), (4, .int l4), (5, .int l5)] [] s22 := by
                  intro n9_148
                  induction n9_148 using Nat.strongRecOn with
                  | _ n9_148 ih23 =>
                    intro l5 s22 i9 m9_148
                    obtain ⟨Fs22, khi24_0, jhi24_0, -⟩ := i9
                    have ul5 := Int32.toInt_lt l5
                    have wl5 := Int32.le_toInt l5
                    refine wa_iload rfl ?_
                    refine wa_iconst (v := 4) (by decide) ?_
                    refine wa_icmp_ge o_X1_compose_183 (by decide) (fun h25 => ?_) (fun h25 => ?_)
                    · refine wa_return (st := []) rfl rfl ?_
                      exact ⟨Fs22, trivial⟩
                    · have mh25 := nle_mx h25
                      refine wa_aload_n (i := 0) rfl rfl ?_
                      refine wa_getr ck_1 fl_1_19 ly_2 rf_2_2 ?_
                      refine wa_sipush (v := 252) (by decide) ?_
                      refine wa_iload rfl ?_
                      refine wa_iadd ?_
                      refine wa_top (fun v26 hv26 => ?_)
                      have tv26 := i_addT hv26
                      clear hv26
                      refine wa_iload rfl ?_
                      refine wa_bipush (v := 24) (by decide) ?_
                      refine wa_bipush (v := 8) (by decide) ?_
                      refine wa_iload rfl ?_
                      refine wa_imul ?_
                      refine wa_top (fun v27 hv27 => ?_)
                      have tv27 := i_mulT hv27
                      clear hv27
                      refine wa_isub ?_
                      refine wa_top (fun v28 hv28 => ?_)
                      have tv28 := i_subT hv28
                      clear hv28
                      refine wa_ishr ?_
                      refine wa_top (fun v29 hv29 => ?_)
                      clear hv29
                      refine wa_i2b ?_
                      refine wa_top (fun v30 hv30 => ?_)
                      clear hv30
                      refine wa_bast ly_5 (by ((try simp only [vp_in_iff, Int32.lt_iff_toInt_lt, Int32.le_iff_toInt_le, ← Int32.toInt_inj, Int32.reduceToInt, n_1, n_2, n_8, Int32.toNatClampNeg, Int64.lt_iff_toInt_lt, Int64.le_iff_toInt_le, ← Int64.toInt_inj, Int64.reduceToInt, Int32.toInt_toInt64, lg_cmp_ge, lg_cmp_le, lg_cmp_gt, lg_cmp_lt, lg_cmp_eq, Bool.false_eq_true, Bool.true_eq_false, reduceCtorEq, false_iff, true_iff, iff_true, iff_false, and_true, true_and, and_false, false_and, reduceIte, ite_true, ite_false, eq_self] at *)) <;> omega) (fun s31 hs31 => ?_)
                      have Fs31 : Sm 5 6 σ s31 := by rw [hs31]; exact Sm.sy Fs22 _ _ (by decide) (by decide)
                      refine wa_iinc (v := (1)) (lv' := fun y32 => [(5, .int y32), (0, .ref 2), (4, .int l4)]) (by decide) rfl (by decide) (fun _ => rfl) (fun y32 hy32 => ?_)
                      have ty32 := i_addT hy32.symm
                      clear hy32
                      refine wa_goto o_X1_compose_148 (by decide) ?_
                      refine wa_pick [1, 2, 0] rfl ?_
                      exact ih23 _ (by ((try simp only [vp_in_iff, Int32.lt_iff_toInt_lt, Int32.le_iff_toInt_le, ← Int32.toInt_inj, Int32.reduceToInt, n_1, n_2, n_8, Int32.toNatClampNeg, Int64.lt_iff_toInt_lt, Int64.le_iff_toInt_le, ← Int64.toInt_inj, Int64.reduceToInt, Int32.toInt_toInt64, lg_cmp_ge, lg_cmp_le, lg_cmp_gt, lg_cmp_lt, lg_cmp_eq, Bool.false_eq_true, Bool.true_eq_false, reduceCtorEq, false_iff, true_iff, iff_true, iff_false, and_true, true_and, and_false, false_and, reduceIte, ite_true, ite_false, eq_self] at *)) <;> omega) _ _ ⟨Fs31, ((nx_gi_sy hs31).trans (khi24_0)), (by ((try simp only [vp_in_iff, Int32.lt_iff_toInt_lt, Int32.le_iff_toInt_le, ← Int32.toInt_inj, Int32.reduceToInt, n_1, n_2, n_8, Int32.toNatClampNeg, Int64.lt_iff_toInt_lt, Int64.le_iff_toInt_le, ← Int64.toInt_inj, Int64.reduceToInt, Int32.toInt_toInt64, lg_cmp_ge, lg_cmp_le, lg_cmp_gt, lg_cmp_lt, lg_cmp_eq, Bool.false_eq_true, Bool.true_eq_false, reduceCtorEq, false_iff, true_iff, iff_true, iff_false, and_true, true_and, and_false, false_and, reduceIte, ite_true, ite_false, eq_self] at *)) <;> omega), trivial⟩ rfl
                exact hi24 _ _ _ ⟨Fs18, (khi20_0), (by ((try simp only [vp_in_iff, Int32.lt_iff_toInt_lt, Int32.le_iff_toInt_le, ← Int32.toInt_inj, Int32.reduceToInt, n_1, n_2, n_8, Int32.toNatClampNeg, Int64.lt_iff_toInt_lt, Int64.le_iff_toInt_le, ← Int64.toInt_inj, Int64.reduceToInt, Int32.toInt_toInt64, lg_cmp_ge, lg_cmp_le, lg_cmp_gt, lg_cmp_lt, lg_cmp_eq, Bool.false_eq_true, Bool.true_eq_false, reduceCtorEq, false_iff, true_iff, iff_true, iff_false, and_true, true_and, and_false, false_and, reduceIte, ite_true, ite_false, eq_self] at *)) <;> omega), trivial⟩ rfl
              · have mh21 := nle_mx h21
                refine wa_iload rfl ?_
                refine wa_aload_n (i := 0) rfl rfl ?_
                refine wa_getr ck_1 fl_1_19 ly_2 rf_2_2 ?_
                refine wa_iload rfl ?_
                refine wa_bald ly_5 (by ((try simp only [vp_in_iff, Int32.lt_iff_toInt_lt, Int32.le_iff_toInt_le, ← Int32.toInt_inj, Int32.reduceToInt, n_1, n_2, n_8, Int32.toNatClampNeg, Int64.lt_iff_toInt_lt, Int64.le_iff_toInt_le, ← Int64.toInt_inj, Int64.reduceToInt, Int32.toInt_toInt64, lg_cmp_ge, lg_cmp_le, lg_cmp_gt, lg_cmp_lt, lg_cmp_eq, Bool.false_eq_true, Bool.true_eq_false, reduceCtorEq, false_iff, true_iff, iff_true, iff_false, and_true, true_and, and_false, false_and, reduceIte, ite_true, ite_false, eq_self] at *)) <;> omega) ?_
                refine wa_sipush (v := 255) (by decide) ?_
                refine wa_iand ?_
                refine wa_top (fun v33 hv33 => ?_)
                have tv33 := i_andT hv33
                clear hv33
                refine wa_Si (d9 := d - 1) [.int _, .int _] [] (sp_X1_summed G (d := d - 1) (by omega) s18 _ _) (rfl) rfl rfl (zr (by omega)) mk_X1_summed ml_1_74 (Nat.le_of_ble_eq_true rfl) (fun x35 s34 hs34 => ?_)
                obtain ⟨zs34, -⟩ := pI hs34
                subst zs34
                refine wa_istoreD (lv' := [(4, .int x35), (0, .ref 2), (5, .int l5)]) (by decide) rfl ?_
                refine wa_iinc (v := (1)) (lv' := fun y36 => [(5, .int y36), (4, .int x35), (0, .ref 2)]) (by decide) rfl (by decide) (fun _ => rfl) (fun y36 hy36 => ?_)
                have ty36 := i_addT hy36.symm
                clear hy36
                refine wa_goto o_X1_compose_113 (by decide) ?_
                refine wa_pick [2, 1, 0] rfl ?_
                exact ih19 _ (by ((try simp only [vp_in_iff, Int32.lt_iff_toInt_lt, Int32.le_iff_toInt_le, ← Int32.toInt_inj, Int32.reduceToInt, n_1, n_2, n_8, Int32.toNatClampNeg, Int64.lt_iff_toInt_lt, Int64.le_iff_toInt_le, ← Int64.toInt_inj, Int64.reduceToInt, Int32.toInt_toInt64, lg_cmp_ge, lg_cmp_le, lg_cmp_gt, lg_cmp_lt, lg_cmp_eq, Bool.false_eq_true, Bool.true_eq_false, reduceCtorEq, false_iff, true_iff, iff_true, iff_false, and_true, true_and, and_false, false_and, reduceIte, ite_true, ite_false, eq_self] at *)) <;> omega) _ _ _ ⟨Fs18, (khi20_0), (by ((try simp only [vp_in_iff, Int32.lt_iff_toInt_lt, Int32.le_iff_toInt_le, ← Int32.toInt_inj, Int32.reduceToInt, n_1, n_2, n_8, Int32.toNatClampNeg, Int64.lt_iff_toInt_lt, Int64.le_iff_toInt_le, ← Int64.toInt_inj, Int64.reduceToInt, Int32.toInt_toInt64, lg_cmp_ge, lg_cmp_le, lg_cmp_gt, lg_cmp_lt, lg_cmp_eq, Bool.false_eq_true, Bool.true_eq_false, reduceCtorEq, false_iff, true_iff, iff_true, iff_false, and_true, true_and, and_false, false_and, reduceIte, ite_true, ite_false, eq_self] at *)) <;> omega), trivial⟩ rfl
          exact hi20 _ _ _ _ ⟨Fs14, (khi16_0), (by ((try simp only [vp_in_iff, Int32.lt_iff_toInt_lt, Int32.le_iff_toInt_le, ← Int32.toInt_inj, Int32.reduceToInt, n_1, n_2, n_8, Int32.toNatClampNeg, Int64.lt_iff_toInt_lt, Int64.le_iff_toInt_le, ← Int64.toInt_inj, Int64.reduceToInt, Int32.toInt_toInt64, lg_cmp_ge, lg_cmp_le, lg_cmp_gt, lg_cmp_lt, lg_cmp_eq, Bool.false_eq_true, Bool.true_eq_false, reduceCtorEq, false_iff, true_iff, iff_true, iff_false, and_true, true_and, and_false, false_and, reduceIte, ite_true, ite_false, eq_self] at *)) <;> omega), trivial⟩ rfl
        · have mh17 := nle_mx h17
          refine wa_aload_n (i := 0) rfl rfl ?_
          refine wa_getr ck_1 fl_1_19 ly_2 rf_2_2 ?_
          refine wa_iconst (v := 4) (by decide) ?_
          refine wa_iload rfl ?_
          refine wa_iadd ?_
          refine wa_top (fun v37 hv37 => ?_)
          have tv37 := i_addT hv37
          clear hv37
          refine wa_iload rfl ?_
          refine wa_iload_n (i := 3) rfl rfl ?_
          refine wa_icmp_ge o_X1_compose_98 (by decide) (fun h38 => ?_) (fun h38 => ?_)
          · refine wa_iconst (v := 0) (by decide) ?_
            refine wa_i2b ?_
            refine wa_top (fun v39 hv39 => ?_)
            clear hv39
            refine wa_bast ly_5 (by ((try simp only [vp_in_iff, Int32.lt_iff_toInt_lt, Int32.le_iff_toInt_le, ← Int32.toInt_inj, Int32.reduceToInt, n_1, n_2, n_8, Int32.toNatClampNeg, Int64.lt_iff_toInt_lt, Int64.le_iff_toInt_le, ← Int64.toInt_inj, Int64.reduceToInt, Int32.toInt_toInt64, lg_cmp_ge, lg_cmp_le, lg_cmp_gt, lg_cmp_lt, lg_cmp_eq, Bool.false_eq_true, Bool.true_eq_false, reduceCtorEq, false_iff, true_iff, iff_true, iff_false, and_true, true_and, and_false, false_and, reduceIte, ite_true, ite_false, eq_self] at *)) <;> omega) (fun s40 hs40 => ?_)
            have Fs40 : Sm 5 6 σ s40 := by rw [hs40]; exact Sm.sy Fs14 _ _ (by decide) (by decide)
            refine wa_iinc (v := (1)) (lv' := fun y41 => [(4, .int y41), (0, .ref 2), (2, .int a1), (3, .int v2)]) (by decide) rfl (by decide) (fun _ => rfl) (fun y41 hy41 => ?_)
            have ty41 := i_addT hy41.symm
            clear hy41
            refine wa_goto o_X1_compose_65 (by decide) ?_
            refine wa_pick [1, 2, 3, 0] rfl ?_
            exact ih15 _ (by ((try simp only [vp_in_iff, Int32.lt_iff_toInt_lt, Int32.le_iff_toInt_le, ← Int32.toInt_inj, Int32.reduceToInt, n_1, n_2, n_8, Int32.toNatClampNeg, Int64.lt_iff_toInt_lt, Int64.le_iff_toInt_le, ← Int64.toInt_inj, Int64.reduceToInt, Int32.toInt_toInt64, lg_cmp_ge, lg_cmp_le, lg_cmp_gt, lg_cmp_lt, lg_cmp_eq, Bool.false_eq_true, Bool.true_eq_false, reduceCtorEq, false_iff, true_iff, iff_true, iff_false, and_true, true_and, and_false, false_and, reduceIte, ite_true, ite_false, eq_self] at *)) <;> omega) _ _ ⟨Fs40, ((nx_gi_sy hs40).trans (khi16_0)), (by ((try simp only [vp_in_iff, Int32.lt_iff_toInt_lt, Int32.le_iff_toInt_le, ← Int32.toInt_inj, Int32.reduceToInt, n_1, n_2, n_8, Int32.toNatClampNeg, Int64.lt_iff_toInt_lt, Int64.le_iff_toInt_le, ← Int64.toInt_inj, Int64.reduceToInt, Int32.toInt_toInt64, lg_cmp_ge, lg_cmp_le, lg_cmp_gt, lg_cmp_lt, lg_cmp_eq, Bool.false_eq_true, Bool.true_eq_false, reduceCtorEq, false_iff, true_iff, iff_true, iff_false, and_true, true_and, and_false, false_and, reduceIte, ite_true, ite_false, eq_self] at *)) <;> omega), trivial⟩ rfl
          · have mh38 := nle_mx h38
            refine wa_aload_n (i := 0) rfl rfl ?_
            refine wa_iload_n (i := 2) rfl rfl ?_
            refine wa_iload rfl ?_
            refine wa_iadd ?_
            refine wa_top (fun v42 hv42 => ?_)
            have tv42 := i_addT hv42
            clear hv42
            refine wa_Vi (d9 := d - 1) [.int _] [.int v37, .ref 5] (sp_X1_waitingByte G (d := d - 1) (by omega) s14 _) (rfl) rfl rfl (zr (by omega)) mk_X1_waitingByte ly_2 ml_1_46 (Nat.le_of_ble_eq_true rfl) (fun x44 s43 hs43 => ?_)
            obtain ⟨zs43, -⟩ := pI hs43
            subst zs43
            refine wa_goto o_X1_compose_99 (by decide) ?_
            refine wa_i2b ?_
            refine wa_top (fun v45 hv45 => ?_)
            clear hv45
            refine wa_bast ly_5 (by ((try simp only [vp_in_iff, Int32.lt_iff_toInt_lt, Int32.le_iff_toInt_le, ← Int32.toInt_inj, Int32.reduceToInt, n_1, n_2, n_8, Int32.toNatClampNeg, Int64.lt_iff_toInt_lt, Int64.le_iff_toInt_le, ← Int64.toInt_inj, Int64.reduceToInt, Int32.toInt_toInt64, lg_cmp_ge, lg_cmp_le, lg_cmp_gt, lg_cmp_lt, lg_cmp_eq, Bool.false_eq_true, Bool.true_eq_false, reduceCtorEq, false_iff, true_iff, iff_true, iff_false, and_true, true_and, and_false, false_and, reduceIte, ite_true, ite_false, eq_self] at *)) <;> omega) (fun s46 hs46 => ?_)
            have Fs46 : Sm 5 6 σ s46 := by rw [hs46]; exact Sm.sy Fs14 _ _ (by decide) (by decide)
            refine wa_iinc (v := (1)) (lv' := fun y47 => [(4, .int y47), (0, .ref 2), (2, .int a1), (3, .int v2)]) (by decide) rfl (by decide) (fun _ => rfl) (fun y47 hy47 => ?_)
            have ty47 := i_addT hy47.symm
            clear hy47
            refine wa_goto o_X1_compose_65 (by decide) ?_
            refine wa_pick [1, 2, 3, 0] rfl ?_
            exact ih15 _ (by ((try simp only [vp_in_iff, Int32.lt_iff_toInt_lt, Int32.le_iff_toInt_le, ← Int32.toInt_inj, Int32.reduceToInt, n_1, n_2, n_8, Int32.toNatClampNeg, Int64.lt_iff_toInt_lt, Int64.le_iff_toInt_le, ← Int64.toInt_inj, Int64.reduceToInt, Int32.toInt_toInt64, lg_cmp_ge, lg_cmp_le, lg_cmp_gt, lg_cmp_lt, lg_cmp_eq, Bool.false_eq_true, Bool.true_eq_false, reduceCtorEq, false_iff, true_iff, iff_true, iff_false, and_true, true_and, and_false, false_and, reduceIte, ite_true, ite_false, eq_self] at *)) <;> omega) _ _ ⟨Fs46, ((nx_gi_sy hs46).trans (khi16_0)), (by ((try simp only [vp_in_iff, Int32.lt_iff_toInt_lt, Int32.le_iff_toInt_le, ← Int32.toInt_inj, Int32.reduceToInt, n_1, n_2, n_8, Int32.toNatClampNeg, Int64.lt_iff_toInt_lt, Int64.le_iff_toInt_le, ← Int64.toInt_inj, Int64.reduceToInt, Int32.toInt_toInt64, lg_cmp_ge, lg_cmp_le, lg_cmp_gt, lg_cmp_lt, lg_cmp_eq, Bool.false_eq_true, Bool.true_eq_false, reduceCtorEq, false_iff, true_iff, iff_true, iff_false, and_true, true_and, and_false, false_and, reduceIte, ite_true, ite_false, eq_self] at *)) <;> omega), trivial⟩ rfl
    exact hi16 _ _ _ ⟨Fs13, ((nx_gi_sy hs13).trans ((nx_gi_sy hs11).trans ((nx_gi_sy hs7).trans (nx_gi_sy hs5)))), (by ((try simp only [vp_in_iff, Int32.lt_iff_toInt_lt, Int32.le_iff_toInt_le, ← Int32.toInt_inj, Int32.reduceToInt, n_1, n_2, n_8, Int32.toNatClampNeg, Int64.lt_iff_toInt_lt, Int64.le_iff_toInt_le, ← Int64.toInt_inj, Int64.reduceToInt, Int32.toInt_toInt64, lg_cmp_ge, lg_cmp_le, lg_cmp_gt, lg_cmp_lt, lg_cmp_eq, Bool.false_eq_true, Bool.true_eq_false, reduceCtorEq, false_iff, true_iff, iff_true, iff_false, and_true, true_and, and_false, false_and, reduceIte, ite_true, ite_false, eq_self] at *)) <;> omega), trivial⟩ rfl
  · refine wa_iconst (v := 1) (by decide) ?_
    refine wa_goto o_X1_compose_52 (by decide) ?_
    refine wa_i2b ?_
    refine wa_top (fun v48 hv48 => ?_)
    clear hv48
    refine wa_bast ly_5 (by ((try simp only [vp_in_iff, Int32.lt_iff_toInt_lt, Int32.le_iff_toInt_le, ← Int32.toInt_inj, Int32.reduceToInt, n_1, n_2, n_8, Int32.toNatClampNeg, Int64.lt_iff_toInt_lt, Int64.le_iff_toInt_le, ← Int64.toInt_inj, Int64.reduceToInt, Int32.toInt_toInt64, lg_cmp_ge, lg_cmp_le, lg_cmp_gt, lg_cmp_lt, lg_cmp_eq, Bool.false_eq_true, Bool.true_eq_false, reduceCtorEq, false_iff, true_iff, iff_true, iff_false, and_true, true_and, and_false, false_and, reduceIte, ite_true, ite_false, eq_self] at *)) <;> omega) (fun s49 hs49 => ?_)
    have Fs49 : Sm 5 6 σ s49 := by rw [hs49]; exact Sm.sy Fs7 _ _ (by decide) (by decide)
    refine wa_aload_n (i := 0) rfl rfl ?_
    refine wa_getr ck_1 fl_1_19 ly_2 rf_2_2 ?_
    refine wa_iconst (v := 3) (by decide) ?_
    refine wa_iload_n (i := 3) rfl rfl ?_
    refine wa_i2b ?_
    refine wa_top (fun v50 hv50 => ?_)
    clear hv50
    refine wa_bast ly_5 (by ((try simp only [vp_in_iff, Int32.lt_iff_toInt_lt, Int32.le_iff_toInt_le, ← Int32.toInt_inj, Int32.reduceToInt, n_1, n_2, n_8, Int32.toNatClampNeg, Int64.lt_iff_toInt_lt, Int64.le_iff_toInt_le, ← Int64.toInt_inj, Int64.reduceToInt, Int32.toInt_toInt64, lg_cmp_ge, lg_cmp_le, lg_cmp_gt, lg_cmp_lt, lg_cmp_eq, Bool.false_eq_true, Bool.true_eq_false, reduceCtorEq, false_iff, true_iff, iff_true, iff_false, and_true, true_and, and_false, false_and, reduceIte, ite_true, ite_false, eq_self] at *)) <;> omega) (fun s51 hs51 => ?_)
    have Fs51 : Sm 5 6 σ s51 := by rw [hs51]; exact Sm.sy Fs49 _ _ (by decide) (by decide)
    refine wa_iconst (v := 0) (by decide) ?_
    refine wa_istoreD (lv' := [(4, .int 0), (3, .int v2), (0, .ref 2), (1, .int a0), (2, .int a1)]) (by decide) rfl ?_
    refine wa_pick [2, 4, 1, 0] rfl ?_
    have hi54 : ∀ (n9_65 : Nat) (l4 : Int32) (s52 : St), ((Sm 5 6 σ s52) ∧ (gi s52 2 4 = gi σ 2 4) ∧ (0 ≤ l4.toInt) ∧ (True)) → (2147483647 - l4.toInt).toNat = n9_65 → WA G M_X1_compose (ZM G M_X1_compose d (fun r σ' => Sm 5 6 σ σ' ∧ True)) B_X1_compose_65 [(0, .ref 2), (2, .int a1), (3, .int v2), (4, .int l4)] [] s52 := by
      intro n9_65
      induction n9_65 using Nat.strongRecOn with
      | _ n9_65 ih53 =>
        intro l4 s52 i9 m9_65
        obtain ⟨Fs52, khi54_0, jhi54_0, -⟩ := i9
        have ul4 := Int32.toInt_lt l4
        have wl4 := Int32.le_toInt l4
        refine wa_iload rfl ?_
        refine wa_sipush (v := 248) (by decide) ?_
        refine wa_icmp_ge o_X1_compose_107 (by decide) (fun h55 => ?_) (fun h55 => ?_)
        · refine wa_iconst (v := 0) (by decide) ?_
          refine wa_istoreD (lv' := [(4, .int 0), (0, .ref 2), (2, .int a1), (3, .int v2)]) (by decide) rfl ?_
          refine wa_iconst (v := 0) (by decide) ?_
          refine wa_istoreD (lv' := [(5, .int 0), (4, .int 0), (0, .ref 2), (2, .int a1), (3, .int v2)]) (by decide) rfl ?_
          refine wa_pick [2, 1, 0] rfl ?_
          have hi58 : ∀ (n9_113 : Nat) (l4 : Int32) (l5 : Int32) (s56 : St), ((Sm 5 6 σ s56) ∧ (gi s56 2 4 = gi σ 2 4) ∧ (0 ≤ l5.toInt) ∧ (True)) → (2147483647 - l5.toInt).toNat = n9_113 → WA G M_X1_compose (ZM G M_X1_compose d (fun r σ' => Sm 5 6 σ σ' ∧ True)) B_X1_compose_113 [(0, .ref 2), (4, .int l4), (5, .int l5)] [] s56 := by
            intro n9_113
            induction n9_113 using Nat.strongRecOn with
            | _ n9_113 ih57 =>
              intro l4 l5 s56 i9 m9_113
              obtain ⟨Fs56, khi58_0, jhi58_0, -⟩ := i9
              have ul4 := Int32.toInt_lt l4
              have wl4 := Int32.le_toInt l4
              have ul5 := Int32.toInt_lt l5
              have wl5 := Int32.le_toInt l5
              refine wa_iload rfl ?_
              refine wa_sipush (v := 252) (by decide) ?_
              refine wa_icmp_ge o_X1_compose_145 (by decide) (fun h59 => ?_) (fun h59 => ?_)
              · refine wa_iconst (v := 0) (by decide) ?_
                refine wa_istoreD (lv' := [(5, .int 0), (0, .ref 2), (4, .int l4)]) (by decide) rfl ?_
                refine wa_pick [1, 2, 0] rfl ?_
                have hi62 : ∀ (n9_148 : Nat) (l5 : Int32) (s60 : St), ((Sm 5 6 σ s60) ∧ (gi s60 2 4 = gi σ 2 4) ∧ (0 ≤ l5.toInt) ∧ (True)) → (2147483647 - l5.toInt).toNat = n9_148 → WA G M_X1_compose (ZM G M_X1_compose d (fun r σ' => Sm 5 6 σ σ' ∧ True)) B_X1_compose_148 [(0, .ref 2), (4, .int l4), (5, .int l5)] [] s60 := by
                  intro n9_148
                  induction n9_148 using Nat.strongRecOn with
                  | _ n9_148 ih61 =>
                    intro l5 s60 i9 m9_148
                    obtain ⟨Fs60, khi62_0, jhi62_0, -⟩ := i9
                    have ul5 := Int32.toInt_lt l5
                    have wl5 := Int32.le_toInt l5
                    refine wa_iload rfl ?_
                    refine wa_iconst (v := 4) (by decide) ?_
                    refine wa_icmp_ge o_X1_compose_183 (by decide) (fun h63 => ?_) (fun h63 => ?_)
                    · refine wa_return (st := []) rfl rfl ?_
                      exact ⟨Fs60, trivial⟩
                    · have mh63 := nle_mx h63
                      refine wa_aload_n (i := 0) rfl rfl ?_
                      refine wa_getr ck_1 fl_1_19 ly_2 rf_2_2 ?_
                      refine wa_sipush (v := 252) (by decide) ?_
                      refine wa_iload rfl ?_
                      refine wa_iadd ?_
                      refine wa_top (fun v64 hv64 => ?_)
                      have tv64 := i_addT hv64
                      clear hv64
                      refine wa_iload rfl ?_
                      refine wa_bipush (v := 24) (by decide) ?_
                      refine wa_bipush (v := 8) (by decide) ?_
                      refine wa_iload rfl ?_
                      refine wa_imul ?_
                      refine wa_top (fun v65 hv65 => ?_)
                      have tv65 := i_mulT hv65
                      clear hv65
                      refine wa_isub ?_
                      refine wa_top (fun v66 hv66 => ?_)
                      have tv66 := i_subT hv66
                      clear hv66
                      refine wa_ishr ?_
                      refine wa_top (fun v67 hv67 => ?_)
                      clear hv67
                      refine wa_i2b ?_
                      refine wa_top (fun v68 hv68 => ?_)
                      clear hv68
                      refine wa_bast ly_5 (by ((try simp only [vp_in_iff, Int32.lt_iff_toInt_lt, Int32.le_iff_toInt_le, ← Int32.toInt_inj, Int32.reduceToInt, n_1, n_2, n_8, Int32.toNatClampNeg, Int64.lt_iff_toInt_lt, Int64.le_iff_toInt_le, ← Int64.toInt_inj, Int64.reduceToInt, Int32.toInt_toInt64, lg_cmp_ge, lg_cmp_le, lg_cmp_gt, lg_cmp_lt, lg_cmp_eq, Bool.false_eq_true, Bool.true_eq_false, reduceCtorEq, false_iff, true_iff, iff_true, iff_false, and_true, true_and, and_false, false_and, reduceIte, ite_true, ite_false, eq_self] at *)) <;> omega) (fun s69 hs69 => ?_)
                      have Fs69 : Sm 5 6 σ s69 := by rw [hs69]; exact Sm.sy Fs60 _ _ (by decide) (by decide)
                      refine wa_iinc (v := (1)) (lv' := fun y70 => [(5, .int y70), (0, .ref 2), (4, .int l4)]) (by decide) rfl (by decide) (fun _ => rfl) (fun y70 hy70 => ?_)
                      have ty70 := i_addT hy70.symm
                      clear hy70
                      refine wa_goto o_X1_compose_148 (by decide) ?_
                      refine wa_pick [1, 2, 0] rfl ?_
                      exact ih61 _ (by ((try simp only [vp_in_iff, Int32.lt_iff_toInt_lt, Int32.le_iff_toInt_le, ← Int32.toInt_inj, Int32.reduceToInt, n_1, n_2, n_8, Int32.toNatClampNeg, Int64.lt_iff_toInt_lt, Int64.le_iff_toInt_le, ← Int64.toInt_inj, Int64.reduceToInt, Int32.toInt_toInt64, lg_cmp_ge, lg_cmp_le, lg_cmp_gt, lg_cmp_lt, lg_cmp_eq, Bool.false_eq_true, Bool.true_eq_false, reduceCtorEq, false_iff, true_iff, iff_true, iff_false, and_true, true_and, and_false, false_and, reduceIte, ite_true, ite_false, eq_self] at *)) <;> omega) _ _ ⟨Fs69, ((nx_gi_sy hs69).trans (khi62_0)), (by ((try simp only [vp_in_iff, Int32.lt_iff_toInt_lt, Int32.le_iff_toInt_le, ← Int32.toInt_inj, Int32.reduceToInt, n_1, n_2, n_8, Int32.toNatClampNeg, Int64.lt_iff_toInt_lt, Int64.le_iff_toInt_le, ← Int64.toInt_inj, Int64.reduceToInt, Int32.toInt_toInt64, lg_cmp_ge, lg_cmp_le, lg_cmp_gt, lg_cmp_lt, lg_cmp_eq, Bool.false_eq_true, Bool.true_eq_false, reduceCtorEq, false_iff, true_iff, iff_true, iff_false, and_true, true_and, and_false, false_and, reduceIte, ite_true, ite_false, eq_self] at *)) <;> omega), trivial⟩ rfl
                exact hi62 _ _ _ ⟨Fs56, (khi58_0), (by ((try simp only [vp_in_iff, Int32.lt_iff_toInt_lt, Int32.le_iff_toInt_le, ← Int32.toInt_inj, Int32.reduceToInt, n_1, n_2, n_8, Int32.toNatClampNeg, Int64.lt_iff_toInt_lt, Int64.le_iff_toInt_le, ← Int64.toInt_inj, Int64.reduceToInt, Int32.toInt_toInt64, lg_cmp_ge, lg_cmp_le, lg_cmp_gt, lg_cmp_lt, lg_cmp_eq, Bool.false_eq_true, Bool.true_eq_false, reduceCtorEq, false_iff, true_iff, iff_true, iff_false, and_true, true_and, and_false, false_and, reduceIte, ite_true, ite_false, eq_self] at *)) <;> omega), trivial⟩ rfl
              · have mh59 := nle_mx h59
                refine wa_iload rfl ?_
                refine wa_aload_n (i := 0) rfl rfl ?_
                refine wa_getr ck_1 fl_1_19 ly_2 rf_2_2 ?_
                refine wa_iload rfl ?_
                refine wa_bald ly_5 (by ((try simp only [vp_in_iff, Int32.lt_iff_toInt_lt, Int32.le_iff_toInt_le, ← Int32.toInt_inj, Int32.reduceToInt, n_1, n_2, n_8, Int32.toNatClampNeg, Int64.lt_iff_toInt_lt, Int64.le_iff_toInt_le, ← Int64.toInt_inj, Int64.reduceToInt, Int32.toInt_toInt64, lg_cmp_ge, lg_cmp_le, lg_cmp_gt, lg_cmp_lt, lg_cmp_eq, Bool.false_eq_true, Bool.true_eq_false, reduceCtorEq, false_iff, true_iff, iff_true, iff_false, and_true, true_and, and_false, false_and, reduceIte, ite_true, ite_false, eq_self] at *)) <;> omega) ?_
                refine wa_sipush (v := 255) (by decide) ?_
                refine wa_iand ?_
                refine wa_top (fun v71 hv71 => ?_)
                have tv71 := i_andT hv71
                clear hv71
                refine wa_Si (d9 := d - 1) [.int _, .int _] [] (sp_X1_summed G (d := d - 1) (by omega) s56 _ _) (rfl) rfl rfl (zr (by omega)) mk_X1_summed ml_1_74 (Nat.le_of_ble_eq_true rfl) (fun x73 s72 hs72 => ?_)
                obtain ⟨zs72, -⟩ := pI hs72
                subst zs72
                refine wa_istoreD (lv' := [(4, .int x73), (0, .ref 2), (5, .int l5)]) (by decide) rfl ?_
                refine wa_iinc (v := (1)) (lv' := fun y74 => [(5, .int y74), (4, .int x73), (0, .ref 2)]) (by decide) rfl (by decide) (fun _ => rfl) (fun y74 hy74 => ?_)
                have ty74 := i_addT hy74.symm
                clear hy74
                refine wa_goto o_X1_compose_113 (by decide) ?_
                refine wa_pick [2, 1, 0] rfl ?_
                exact ih57 _ (by ((try simp only [vp_in_iff, Int32.lt_iff_toInt_lt, Int32.le_iff_toInt_le, ← Int32.toInt_inj, Int32.reduceToInt, n_1, n_2, n_8, Int32.toNatClampNeg, Int64.lt_iff_toInt_lt, Int64.le_iff_toInt_le, ← Int64.toInt_inj, Int64.reduceToInt, Int32.toInt_toInt64, lg_cmp_ge, lg_cmp_le, lg_cmp_gt, lg_cmp_lt, lg_cmp_eq, Bool.false_eq_true, Bool.true_eq_false, reduceCtorEq, false_iff, true_iff, iff_true, iff_false, and_true, true_and, and_false, false_and, reduceIte, ite_true, ite_false, eq_self] at *)) <;> omega) _ _ _ ⟨Fs56, (khi58_0), (by ((try simp only [vp_in_iff, Int32.lt_iff_toInt_lt, Int32.le_iff_toInt_le, ← Int32.toInt_inj, Int32.reduceToInt, n_1, n_2, n_8, Int32.toNatClampNeg, Int64.lt_iff_toInt_lt, Int64.le_iff_toInt_le, ← Int64.toInt_inj, Int64.reduceToInt, Int32.toInt_toInt64, lg_cmp_ge, lg_cmp_le, lg_cmp_gt, lg_cmp_lt, lg_cmp_eq, Bool.false_eq_true, Bool.true_eq_false, reduceCtorEq, false_iff, true_iff, iff_true, iff_false, and_true, true_and, and_false, false_and, reduceIte, ite_true, ite_false, eq_self] at *)) <;> omega), trivial⟩ rfl
          exact hi58 _ _ _ _ ⟨Fs52, (khi54_0), (by ((try simp only [vp_in_iff, Int32.lt_iff_toInt_lt, Int32.le_iff_toInt_le, ← Int32.toInt_inj, Int32.reduceToInt, n_1, n_2, n_8, Int32.toNatClampNeg, Int64.lt_iff_toInt_lt, Int64.le_iff_toInt_le, ← Int64.toInt_inj, Int64.reduceToInt, Int32.toInt_toInt64, lg_cmp_ge, lg_cmp_le, lg_cmp_gt, lg_cmp_lt, lg_cmp_eq, Bool.false_eq_true, Bool.true_eq_false, reduceCtorEq, false_iff, true_iff, iff_true, iff_false, and_true, true_and, and_false, false_and, reduceIte, ite_true, ite_false, eq_self] at *)) <;> omega), trivial⟩ rfl
        · have mh55 := nle_mx h55
          refine wa_aload_n (i := 0) rfl rfl ?_
          refine wa_getr ck_1 fl_1_19 ly_2 rf_2_2 ?_
          refine wa_iconst (v := 4) (by decide) ?_
          refine wa_iload rfl ?_
          refine wa_iadd ?_
          refine wa_top (fun v75 hv75 => ?_)
          have tv75 := i_addT hv75
          clear hv75
          refine wa_iload rfl ?_
          refine wa_iload_n (i := 3) rfl rfl ?_
          refine wa_icmp_ge o_X1_compose_98 (by decide) (fun h76 => ?_) (fun h76 => ?_)
          · refine wa_iconst (v := 0) (by decide) ?_
            refine wa_i2b ?_
            refine wa_top (fun v77 hv77 => ?_)
            clear hv77
            refine wa_bast ly_5 (by ((try simp only [vp_in_iff, Int32.lt_iff_toInt_lt, Int32.le_iff_toInt_le, ← Int32.toInt_inj, Int32.reduceToInt, n_1, n_2, n_8, Int32.toNatClampNeg, Int64.lt_iff_toInt_lt, Int64.le_iff_toInt_le, ← Int64.toInt_inj, Int64.reduceToInt, Int32.toInt_toInt64, lg_cmp_ge, lg_cmp_le, lg_cmp_gt, lg_cmp_lt, lg_cmp_eq, Bool.false_eq_true, Bool.true_eq_false, reduceCtorEq, false_iff, true_iff, iff_true, iff_false, and_true, true_and, and_false, false_and, reduceIte, ite_true, ite_false, eq_self] at *)) <;> omega) (fun s78 hs78 => ?_)
            have Fs78 : Sm 5 6 σ s78 := by rw [hs78]; exact Sm.sy Fs52 _ _ (by decide) (by decide)
            refine wa_iinc (v := (1)) (lv' := fun y79 => [(4, .int y79), (0, .ref 2), (2, .int a1), (3, .int v2)]) (by decide) rfl (by decide) (fun _ => rfl) (fun y79 hy79 => ?_)
            have ty79 := i_addT hy79.symm
            clear hy79
            refine wa_goto o_X1_compose_65 (by decide) ?_
            refine wa_pick [1, 2, 3, 0] rfl ?_
            exact ih53 _ (by ((try simp only [vp_in_iff, Int32.lt_iff_toInt_lt, Int32.le_iff_toInt_le, ← Int32.toInt_inj, Int32.reduceToInt, n_1, n_2, n_8, Int32.toNatClampNeg, Int64.lt_iff_toInt_lt, Int64.le_iff_toInt_le, ← Int64.toInt_inj, Int64.reduceToInt, Int32.toInt_toInt64, lg_cmp_ge, lg_cmp_le, lg_cmp_gt, lg_cmp_lt, lg_cmp_eq, Bool.false_eq_true, Bool.true_eq_false, reduceCtorEq, false_iff, true_iff, iff_true, iff_false, and_true, true_and, and_false, false_and, reduceIte, ite_true, ite_false, eq_self] at *)) <;> omega) _ _ ⟨Fs78, ((nx_gi_sy hs78).trans (khi54_0)), (by ((try simp only [vp_in_iff, Int32.lt_iff_toInt_lt, Int32.le_iff_toInt_le, ← Int32.toInt_inj, Int32.reduceToInt, n_1, n_2, n_8, Int32.toNatClampNeg, Int64.lt_iff_toInt_lt, Int64.le_iff_toInt_le, ← Int64.toInt_inj, Int64.reduceToInt, Int32.toInt_toInt64, lg_cmp_ge, lg_cmp_le, lg_cmp_gt, lg_cmp_lt, lg_cmp_eq, Bool.false_eq_true, Bool.true_eq_false, reduceCtorEq, false_iff, true_iff, iff_true, iff_false, and_true, true_and, and_false, false_and, reduceIte, ite_true, ite_false, eq_self] at *)) <;> omega), trivial⟩ rfl
          · have mh76 := nle_mx h76
            refine wa_aload_n (i := 0) rfl rfl ?_
            refine wa_iload_n (i := 2) rfl rfl ?_
            refine wa_iload rfl ?_
            refine wa_iadd ?_
            refine wa_top (fun v80 hv80 => ?_)
            have tv80 := i_addT hv80
            clear hv80
            refine wa_Vi (d9 := d - 1) [.int _] [.int v75, .ref 5] (sp_X1_waitingByte G (d := d - 1) (by omega) s52 _) (rfl) rfl rfl (zr (by omega)) mk_X1_waitingByte ly_2 ml_1_46 (Nat.le_of_ble_eq_true rfl) (fun x82 s81 hs81 => ?_)
            obtain ⟨zs81, -⟩ := pI hs81
            subst zs81
            refine wa_goto o_X1_compose_99 (by decide) ?_
            refine wa_i2b ?_
            refine wa_top (fun v83 hv83 => ?_)
            clear hv83
            refine wa_bast ly_5 (by ((try simp only [vp_in_iff, Int32.lt_iff_toInt_lt, Int32.le_iff_toInt_le, ← Int32.toInt_inj, Int32.reduceToInt, n_1, n_2, n_8, Int32.toNatClampNeg, Int64.lt_iff_toInt_lt, Int64.le_iff_toInt_le, ← Int64.toInt_inj, Int64.reduceToInt, Int32.toInt_toInt64, lg_cmp_ge, lg_cmp_le, lg_cmp_gt, lg_cmp_lt, lg_cmp_eq, Bool.false_eq_true, Bool.true_eq_false, reduceCtorEq, false_iff, true_iff, iff_true, iff_false, and_true, true_and, and_false, false_and, reduceIte, ite_true, ite_false, eq_self] at *)) <;> omega) (fun s84 hs84 => ?_)
            have Fs84 : Sm 5 6 σ s84 := by rw [hs84]; exact Sm.sy Fs52 _ _ (by decide) (by decide)
            refine wa_iinc (v := (1)) (lv' := fun y85 => [(4, .int y85), (0, .ref 2), (2, .int a1), (3, .int v2)]) (by decide) rfl (by decide) (fun _ => rfl) (fun y85 hy85 => ?_)
            have ty85 := i_addT hy85.symm
            clear hy85
            refine wa_goto o_X1_compose_65 (by decide) ?_
            refine wa_pick [1, 2, 3, 0] rfl ?_
            exact ih53 _ (by ((try simp only [vp_in_iff, Int32.lt_iff_toInt_lt, Int32.le_iff_toInt_le, ← Int32.toInt_inj, Int32.reduceToInt, n_1, n_2, n_8, Int32.toNatClampNeg, Int64.lt_iff_toInt_lt, Int64.le_iff_toInt_le, ← Int64.toInt_inj, Int64.reduceToInt, Int32.toInt_toInt64, lg_cmp_ge, lg_cmp_le, lg_cmp_gt, lg_cmp_lt, lg_cmp_eq, Bool.false_eq_true, Bool.true_eq_false, reduceCtorEq, false_iff, true_iff, iff_true, iff_false, and_true, true_and, and_false, false_and, reduceIte, ite_true, ite_false, eq_self] at *)) <;> omega) _ _ ⟨Fs84, ((nx_gi_sy hs84).trans (khi54_0)), (by ((try simp only [vp_in_iff, Int32.lt_iff_toInt_lt, Int32.le_iff_toInt_le, ← Int32.toInt_inj, Int32.reduceToInt, n_1, n_2, n_8, Int32.toNatClampNeg, Int64.lt_iff_toInt_lt, Int64.le_iff_toInt_le, ← Int64.toInt_inj, Int64.reduceToInt, Int32.toInt_toInt64, lg_cmp_ge, lg_cmp_le, lg_cmp_gt, lg_cmp_lt, lg_cmp_eq, Bool.false_eq_true, Bool.true_eq_false, reduceCtorEq, false_iff, true_iff, iff_true, iff_false, and_true, true_and, and_false, false_and, reduceIte, ite_true, ite_false, eq_self] at *)) <;> omega), trivial⟩ rfl
    exact hi54 _ _ _ ⟨Fs51, ((nx_gi_sy hs51).trans ((nx_gi_sy hs49).trans ((nx_gi_sy hs7).trans (nx_gi_sy hs5)))), (by ((try simp only [vp_in_iff, Int32.lt_iff_toInt_lt, Int32.le_iff_toInt_le, ← Int32.toInt_inj, Int32.reduceToInt, n_1, n_2, n_8, Int32.toNatClampNeg, Int64.lt_iff_toInt_lt, Int64.le_iff_toInt_le, ← Int64.toInt_inj, Int64.reduceToInt, Int32.toInt_toInt64, lg_cmp_ge, lg_cmp_le, lg_cmp_gt, lg_cmp_lt, lg_cmp_eq, Bool.false_eq_true, Bool.true_eq_false, reduceCtorEq, false_iff, true_iff, iff_true, iff_false, and_true, true_and, and_false, false_and, reduceIte, ite_true, ite_false, eq_self] at *)) <;> omega), trivial⟩ rfl
set_option maxHeartbeats 4000000 in
theorem sp_X1_write (G : kG9) {d : Nat} (hd : 1 ≤ d) (σ : St) (a0 : Int32) : Ct G M_X1_write d [.ref 2, .int a0] σ (fun r σ' => ∃ x : Bool, r = some (.int (bI x)) ∧ Sm 2 5 σ σ' ∧ True) := by
  refine wa_start (by decide) rfl (Nat.le_of_ble_eq_true rfl) (lv := [(0, .ref 2), (1, .int a0)]) rfl o_X1_write_0 rfl ?_
  have ua0 := Int32.toInt_lt a0
  have wa0 := Int32.le_toInt a0
  refine wa_aload_n (i := 0) rfl rfl ?_
  refine wa_geti ck_1 fl_1_25 ly_2 ?_
  refine wa_if_ne o_X1_write_11 (by decide) (fun h1 => ?_) (fun h1 => ?_)
  · refine wa_iconst (v := 0) (by decide) ?_
    refine wa_istore_nD (lv' := [(2, .int (bI false)), (0, .ref 2), (1, .int a0)]) (i := 2) rfl (by decide) rfl ?_
    refine wa_aload_n (i := 0) rfl rfl ?_
    refine wa_geti ck_1 fl_1_25 ly_2 ?_
    refine wa_if_lt o_X1_write_30 (by decide) (fun h2 => ?_) (fun h2 => ?_)
    · refine wa_iload_n (i := 2) rfl rfl ?_
      refine wa_if_eq o_X1_write_41 (by decide) (fun h3 => ?_) (fun h3 => ?_)
      · replace h3 := bI_f (b := false) (rfl) h3
        refine wa_sipush (v := 256) (by decide) ?_
        refine wa_istore_nD (lv' := [(3, .int 256), (2, .int (bI false)), (0, .ref 2), (1, .int a0)]) (i := 3) rfl (by decide) rfl ?_
        refine wa_iconst (v := 0) (by decide) ?_
        refine wa_istoreD (lv' := [(4, .int 0), (3, .int 256), (2, .int (bI false)), (0, .ref 2), (1, .int a0)]) (by decide) rfl ?_
        refine wa_pick [3, 4, 2, 1, 0] rfl ?_
        have hi6 : ∀ (n9_48 : Nat) (l4 : Int32) (s4 : St), ((Sm 2 5 σ s4) ∧ (gi s4 2 6 = gi σ 2 6) ∧ (gi s4 2 7 = gi σ 2 7) ∧ (0 ≤ l4.toInt) ∧ (True)) → (2147483647 - l4.toInt).toNat = n9_48 → WA G M_X1_write (ZM G M_X1_write d (fun r σ' => ∃ x : Bool, r = some (.int (bI x)) ∧ Sm 2 5 σ σ' ∧ True)) B_X1_write_48 [(0, .ref 2), (1, .int a0), (2, .int (bI false)), (3, .int 256), (4, .int l4)] [] s4 := by
          intro n9_48
          induction n9_48 using Nat.strongRecOn with
          | _ n9_48 ih5 =>
            intro l4 s4 i9 m9_48
            obtain ⟨Fs4, khi6_0, khi6_1, jhi6_0, -⟩ := i9
            have ul4 := Int32.toInt_lt l4
            have wl4 := Int32.le_toInt l4
            refine wa_iload rfl ?_
            refine wa_iload_n (i := 3) rfl rfl ?_
            refine wa_icmp_ge o_X1_write_91 (by decide) (fun h7 => ?_) (fun h7 => ?_)
            · refine wa_iload_n (i := 1) rfl rfl ?_
              refine wa_iconst (v := 1) (by decide) ?_
              refine wa_icmp_lt o_X1_write_109 (by decide) (fun h8 => ?_) (fun h8 => ?_)
              · refine wa_iload_n (i := 2) rfl rfl ?_
                refine wa_if_ne o_X1_write_117 (by decide) (fun h9 => ?_) (fun h9 => ?_)
                · replace h9 := bI_t (b := false) (rfl) h9
                  refine wa_iconst (v := 0) (by decide) ?_
                  refine wa_zreturn false (rfl) rfl rfl ?_
                  exact ⟨_, rfl, Fs4, trivial⟩
                · replace h9 := bI_f (b := false) (rfl) h9
                  refine wa_iconst (v := 1) (by decide) ?_
                  refine wa_goto o_X1_write_118 (by decide) ?_
                  refine wa_zreturn true (rfl) rfl rfl ?_
                  exact ⟨_, rfl, Fs4, trivial⟩
              · refine wa_iload_n (i := 1) rfl rfl ?_
                refine wa_bipush (v := 100) (by decide) ?_
                refine wa_icmp_gt o_X1_write_109 (by decide) (fun h10 => ?_) (fun h10 => ?_)
                · refine wa_iload_n (i := 2) rfl rfl ?_
                  refine wa_if_ne o_X1_write_117 (by decide) (fun h11 => ?_) (fun h11 => ?_)
                  · replace h11 := bI_t (b := false) (rfl) h11
                    refine wa_iconst (v := 0) (by decide) ?_
                    refine wa_zreturn false (rfl) rfl rfl ?_
                    exact ⟨_, rfl, Fs4, trivial⟩
                  · replace h11 := bI_f (b := false) (rfl) h11
                    refine wa_iconst (v := 1) (by decide) ?_
                    refine wa_goto o_X1_write_118 (by decide) ?_
                    refine wa_zreturn true (rfl) rfl rfl ?_
                    exact ⟨_, rfl, Fs4, trivial⟩
                · refine wa_aload_n (i := 0) rfl rfl ?_
                  refine wa_getr ck_1 fl_1_15 ly_2 rf_2_1 ?_
                  refine wa_iload_n (i := 1) rfl rfl ?_
                  refine wa_iload_n (i := 2) rfl rfl ?_
                  refine wa_zast false (rfl) ly_4 (by ((try simp only [vp_in_iff, Int32.lt_iff_toInt_lt, Int32.le_iff_toInt_le, ← Int32.toInt_inj, Int32.reduceToInt, n_1, n_2, n_8, Int32.toNatClampNeg, Int64.lt_iff_toInt_lt, Int64.le_iff_toInt_le, ← Int64.toInt_inj, Int64.reduceToInt, Int32.toInt_toInt64, lg_cmp_ge, lg_cmp_le, lg_cmp_gt, lg_cmp_lt, lg_cmp_eq, Bool.false_eq_true, Bool.true_eq_false, reduceCtorEq, false_iff, true_iff, iff_true, iff_false, and_true, true_and, and_false, false_and, reduceIte, ite_true, ite_false, eq_self] at *)) <;> omega) (fun s12 hs12 => ?_)
                  have Fs12 : Sm 2 5 σ s12 := by rw [hs12]; exact Sm.sb Fs4 _ _ (by decide) (by decide)
                  refine wa_iload_n (i := 2) rfl rfl ?_
                  refine wa_if_ne o_X1_write_117 (by decide) (fun h13 => ?_) (fun h13 => ?_)
                  · replace h13 := bI_t (b := false) (rfl) h13
                    refine wa_iconst (v := 0) (by decide) ?_
                    refine wa_zreturn false (rfl) rfl rfl ?_
                    exact ⟨_, rfl, Fs12, trivial⟩
                  · replace h13 := bI_f (b := false) (rfl) h13
                    refine wa_iconst (v := 1) (by decide) ?_
                    refine wa_goto o_X1_write_118 (by decide) ?_
                    refine wa_zreturn true (rfl) rfl rfl ?_
                    exact ⟨_, rfl, Fs12, trivial⟩
            · have mh7 := nle_mx h7
              refine wa_iload_n (i := 1) rfl rfl ?_
              refine wa_iload rfl ?_
              refine wa_Si (d9 := d - 1) [.int _, .int _] [] (sp_X1_isByte G (d := d - 1) (by omega) s4 _ _) (rfl) rfl rfl (zr (by omega)) mk_X1_isByte ml_1_29 (Nat.le_of_ble_eq_true rfl) (fun x15 s14 hs14 => ?_)
              obtain ⟨bx15, ex15, zs14, cx15_1, -⟩ := pB hs14
              subst ex15
              subst zs14
              refine wa_if_eq o_X1_write_91 (by decide) (fun h16 => ?_) (fun h16 => ?_)
              · replace h16 := bI_f (b := bx15) (rfl) h16
                have uh16_0 := iff_f cx15_1 h16
                refine wa_iload_n (i := 1) rfl rfl ?_
                refine wa_iconst (v := 1) (by decide) ?_
                refine wa_icmp_lt o_X1_write_109 (by decide) (fun h17 => ?_) (fun h17 => ?_)
                · refine wa_iload_n (i := 2) rfl rfl ?_
                  refine wa_if_ne o_X1_write_117 (by decide) (fun h18 => ?_) (fun h18 => ?_)
                  · replace h18 := bI_t (b := false) (rfl) h18
                    refine wa_iconst (v := 0) (by decide) ?_
                    refine wa_zreturn false (rfl) rfl rfl ?_
                    exact ⟨_, rfl, Fs4, trivial⟩
                  · replace h18 := bI_f (b := false) (rfl) h18
                    refine wa_iconst (v := 1) (by decide) ?_
                    refine wa_goto o_X1_write_118 (by decide) ?_
                    refine wa_zreturn true (rfl) rfl rfl ?_
                    exact ⟨_, rfl, Fs4, trivial⟩
                · refine wa_iload_n (i := 1) rfl rfl ?_
                  refine wa_bipush (v := 100) (by decide) ?_
                  refine wa_icmp_gt o_X1_write_109 (by decide) (fun h19 => ?_) (fun h19 => ?_)
                  · refine wa_iload_n (i := 2) rfl rfl ?_
                    refine wa_if_ne o_X1_write_117 (by decide) (fun h20 => ?_) (fun h20 => ?_)
                    · replace h20 := bI_t (b := false) (rfl) h20
                      refine wa_iconst (v := 0) (by decide) ?_
                      refine wa_zreturn false (rfl) rfl rfl ?_
                      exact ⟨_, rfl, Fs4, trivial⟩
                    · replace h20 := bI_f (b := false) (rfl) h20
                      refine wa_iconst (v := 1) (by decide) ?_
                      refine wa_goto o_X1_write_118 (by decide) ?_
                      refine wa_zreturn true (rfl) rfl rfl ?_
                      exact ⟨_, rfl, Fs4, trivial⟩
                  · refine wa_aload_n (i := 0) rfl rfl ?_
                    refine wa_getr ck_1 fl_1_15 ly_2 rf_2_1 ?_
                    refine wa_iload_n (i := 1) rfl rfl ?_
                    refine wa_iload_n (i := 2) rfl rfl ?_
                    refine wa_zast false (rfl) ly_4 (by ((try simp only [vp_in_iff, Int32.lt_iff_toInt_lt, Int32.le_iff_toInt_le, ← Int32.toInt_inj, Int32.reduceToInt, n_1, n_2, n_8, Int32.toNatClampNeg, Int64.lt_iff_toInt_lt, Int64.le_iff_toInt_le, ← Int64.toInt_inj, Int64.reduceToInt, Int32.toInt_toInt64, lg_cmp_ge, lg_cmp_le, lg_cmp_gt, lg_cmp_lt, lg_cmp_eq, Bool.false_eq_true, Bool.true_eq_false, reduceCtorEq, false_iff, true_iff, iff_true, iff_false, and_true, true_and, and_false, false_and, reduceIte, ite_true, ite_false, eq_self] at *)) <;> omega) (fun s21 hs21 => ?_)
                    have Fs21 : Sm 2 5 σ s21 := by rw [hs21]; exact Sm.sb Fs4 _ _ (by decide) (by decide)
                    refine wa_iload_n (i := 2) rfl rfl ?_
                    refine wa_if_ne o_X1_write_117 (by decide) (fun h22 => ?_) (fun h22 => ?_)
                    · replace h22 := bI_t (b := false) (rfl) h22
                      refine wa_iconst (v := 0) (by decide) ?_
                      refine wa_zreturn false (rfl) rfl rfl ?_
                      exact ⟨_, rfl, Fs21, trivial⟩
                    · replace h22 := bI_f (b := false) (rfl) h22
                      refine wa_iconst (v := 1) (by decide) ?_
                      refine wa_goto o_X1_write_118 (by decide) ?_
                      refine wa_zreturn true (rfl) rfl rfl ?_
                      exact ⟨_, rfl, Fs21, trivial⟩
              · replace h16 := bI_t (b := bx15) (rfl) h16
                have uh16_0 := iff_t cx15_1 h16
                refine wa_aload_n (i := 0) rfl rfl ?_
                refine wa_getr ck_1 fl_1_11 ly_2 rf_2_0 ?_
                refine wa_iload_n (i := 1) rfl rfl ?_
                refine wa_iconst (v := 1) (by decide) ?_
                refine wa_isub ?_
                refine wa_top (fun v23 hv23 => ?_)
                have tv23 := i_subT hv23
                clear hv23
                refine wa_sipush (v := 256) (by decide) ?_
                refine wa_imul ?_
                refine wa_top (fun v24 hv24 => ?_)
                have tv24 := i_mulT hv24
                clear hv24
                refine wa_iload rfl ?_
                refine wa_iadd ?_
                refine wa_top (fun v25 hv25 => ?_)
                have tv25 := i_addT hv25
                clear hv25
                refine wa_aload_n (i := 0) rfl rfl ?_
                refine wa_getr ck_1 fl_1_19 ly_2 rf_2_2 ?_
                refine wa_iload rfl ?_
                refine wa_bald ly_5 (by ((try simp only [vp_in_iff, Int32.lt_iff_toInt_lt, Int32.le_iff_toInt_le, ← Int32.toInt_inj, Int32.reduceToInt, n_1, n_2, n_8, Int32.toNatClampNeg, Int64.lt_iff_toInt_lt, Int64.le_iff_toInt_le, ← Int64.toInt_inj, Int64.reduceToInt, Int32.toInt_toInt64, lg_cmp_ge, lg_cmp_le, lg_cmp_gt, lg_cmp_lt, lg_cmp_eq, Bool.false_eq_true, Bool.true_eq_false, reduceCtorEq, false_iff, true_iff, iff_true, iff_false, and_true, true_and, and_false, false_and, reduceIte, ite_true, ite_false, eq_self] at *)) <;> omega) ?_
                refine wa_bast ly_3 (by ((try simp only [vp_in_iff, Int32.lt_iff_toInt_lt, Int32.le_iff_toInt_le, ← Int32.toInt_inj, Int32.reduceToInt, n_1, n_2, n_8, Int32.toNatClampNeg, Int64.lt_iff_toInt_lt, Int64.le_iff_toInt_le, ← Int64.toInt_inj, Int64.reduceToInt, Int32.toInt_toInt64, lg_cmp_ge, lg_cmp_le, lg_cmp_gt, lg_cmp_lt, lg_cmp_eq, Bool.false_eq_true, Bool.true_eq_false, reduceCtorEq, false_iff, true_iff, iff_true, iff_false, and_true, true_and, and_false, false_and, reduceIte, ite_true, ite_false, eq_self] at *)) <;> omega) (fun s26 hs26 => ?_)
                have Fs26 : Sm 2 5 σ s26 := by rw [hs26]; exact Sm.sy Fs4 _ _ (by decide) (by decide)
                refine wa_iinc (v := (1)) (lv' := fun y27 => [(4, .int y27), (0, .ref 2), (1, .int a0), (2, .int (bI false)), (3, .int 256)]) (by decide) rfl (by decide) (fun _ => rfl) (fun y27 hy27 => ?_)
                have ty27 := i_addT hy27.symm
                clear hy27
                refine wa_goto o_X1_write_48 (by decide) ?_
                refine wa_pick [1, 2, 3, 4, 0] rfl ?_
                exact ih5 _ (by ((try simp only [vp_in_iff, Int32.lt_iff_toInt_lt, Int32.le_iff_toInt_le, ← Int32.toInt_inj, Int32.reduceToInt, n_1, n_2, n_8, Int32.toNatClampNeg, Int64.lt_iff_toInt_lt, Int64.le_iff_toInt_le, ← Int64.toInt_inj, Int64.reduceToInt, Int32.toInt_toInt64, lg_cmp_ge, lg_cmp_le, lg_cmp_gt, lg_cmp_lt, lg_cmp_eq, Bool.false_eq_true, Bool.true_eq_false, reduceCtorEq, false_iff, true_iff, iff_true, iff_false, and_true, true_and, and_false, false_and, reduceIte, ite_true, ite_false, eq_self] at *)) <;> omega) _ _ ⟨Fs26, ((nx_gi_sy hs26).trans (khi6_0)), ((nx_gi_sy hs26).trans (khi6_1)), (by ((try simp only [vp_in_iff, Int32.lt_iff_toInt_lt, Int32.le_iff_toInt_le, ← Int32.toInt_inj, Int32.reduceToInt, n_1, n_2, n_8, Int32.toNatClampNeg, Int64.lt_iff_toInt_lt, Int64.le_iff_toInt_le, ← Int64.toInt_inj, Int64.reduceToInt, Int32.toInt_toInt64, lg_cmp_ge, lg_cmp_le, lg_cmp_gt, lg_cmp_lt, lg_cmp_eq, Bool.false_eq_true, Bool.true_eq_false, reduceCtorEq, false_iff, true_iff, iff_true, iff_false, and_true, true_and, and_false, false_and, reduceIte, ite_true, ite_false, eq_self] at *)) <;> omega), trivial⟩ rfl
        exact hi6 _ _ _ ⟨(Sm.rf 2 5 σ), (rfl), (rfl), (by ((try simp only [vp_in_iff, Int32.lt_iff_toInt_lt, Int32.le_iff_toInt_le, ← Int32.toInt_inj, Int32.reduceToInt, n_1, n_2, n_8, Int32.toNatClampNeg, Int64.lt_iff_toInt_lt, Int64.le_iff_toInt_le, ← Int64.toInt_inj, Int64.reduceToInt, Int32.toInt_toInt64, lg_cmp_ge, lg_cmp_le, lg_cmp_gt, lg_cmp_lt, lg_cmp_eq, Bool.false_eq_true, Bool.true_eq_false, reduceCtorEq, false_iff, true_iff, iff_true, iff_false, and_true, true_and, and_false, false_and, reduceIte, ite_true, ite_false, eq_self] at *)) <;> omega), trivial⟩ rfl
      · replace h3 := bI_t (b := false) (rfl) h3
        refine wa_aload_n (i := 0) rfl rfl ?_
        refine wa_geti ck_1 fl_1_37 ly_2 ?_
        refine wa_goto o_X1_write_44 (by decide) ?_
        refine wa_istore_nD (lv' := [(3, .int (gi σ 2 7)), (2, .int (bI false)), (0, .ref 2), (1, .int a0)]) (i := 3) rfl (by decide) rfl ?_
        refine wa_iconst (v := 0) (by decide) ?_
        refine wa_istoreD (lv' := [(4, .int 0), (3, .int (gi σ 2 7)), (2, .int (bI false)), (0, .ref 2), (1, .int a0)]) (by decide) rfl ?_
        refine wa_pick [3, 4, 2, 1, 0] rfl ?_
        have hi30 : ∀ (n9_48 : Nat) (l4 : Int32) (s28 : St), ((Sm 2 5 σ s28) ∧ (gi s28 2 6 = gi σ 2 6) ∧ (gi s28 2 7 = gi σ 2 7) ∧ (0 ≤ l4.toInt) ∧ (True)) → (2147483647 - l4.toInt).toNat = n9_48 → WA G M_X1_write (ZM G M_X1_write d (fun r σ' => ∃ x : Bool, r = some (.int (bI x)) ∧ Sm 2 5 σ σ' ∧ True)) B_X1_write_48 [(0, .ref 2), (1, .int a0), (2, .int (bI false)), (3, .int (gi σ 2 7)), (4, .int l4)] [] s28 := by
          intro n9_48
          induction n9_48 using Nat.strongRecOn with
          | _ n9_48 ih29 =>
            intro l4 s28 i9 m9_48
            obtain ⟨Fs28, khi30_0, khi30_1, jhi30_0, -⟩ := i9
            have ul4 := Int32.toInt_lt l4
            have wl4 := Int32.le_toInt l4
            refine wa_iload rfl ?_
            refine wa_iload_n (i := 3) rfl rfl ?_
            refine wa_icmp_ge o_X1_write_91 (by decide) (fun h31 => ?_) (fun h31 => ?_)
            · refine wa_iload_n (i := 1) rfl rfl ?_
              refine wa_iconst (v := 1) (by decide) ?_
              refine wa_icmp_lt o_X1_write_109 (by decide) (fun h32 => ?_) (fun h32 => ?_)
              · refine wa_iload_n (i := 2) rfl rfl ?_
                refine wa_if_ne o_X1_write_117 (by decide) (fun h33 => ?_) (fun h33 => ?_)
                · replace h33 := bI_t (b := false) (rfl) h33
                  refine wa_iconst (v := 0) (by decide) ?_
                  refine wa_zreturn false (rfl) rfl rfl ?_
                  exact ⟨_, rfl, Fs28, trivial⟩
                · replace h33 := bI_f (b := false) (rfl) h33
                  refine wa_iconst (v := 1) (by decide) ?_
                  refine wa_goto o_X1_write_118 (by decide) ?_
                  refine wa_zreturn true (rfl) rfl rfl ?_
                  exact ⟨_, rfl, Fs28, trivial⟩
              · refine wa_iload_n (i := 1) rfl rfl ?_
                refine wa_bipush (v := 100) (by decide) ?_
                refine wa_icmp_gt o_X1_write_109 (by decide) (fun h34 => ?_) (fun h34 => ?_)
                · refine wa_iload_n (i := 2) rfl rfl ?_
                  refine wa_if_ne o_X1_write_117 (by decide) (fun h35 => ?_) (fun h35 => ?_)
                  · replace h35 := bI_t (b := false) (rfl) h35
                    refine wa_iconst (v := 0) (by decide) ?_
                    refine wa_zreturn false (rfl) rfl rfl ?_
                    exact ⟨_, rfl, Fs28, trivial⟩
                  · replace h35 := bI_f (b := false) (rfl) h35
                    refine wa_iconst (v := 1) (by decide) ?_
                    refine wa_goto o_X1_write_118 (by decide) ?_
                    refine wa_zreturn true (rfl) rfl rfl ?_
                    exact ⟨_, rfl, Fs28, trivial⟩
                · refine wa_aload_n (i := 0) rfl rfl ?_
                  refine wa_getr ck_1 fl_1_15 ly_2 rf_2_1 ?_
                  refine wa_iload_n (i := 1) rfl rfl ?_
                  refine wa_iload_n (i := 2) rfl rfl ?_
                  refine wa_zast false (rfl) ly_4 (by ((try simp only [vp_in_iff, Int32.lt_iff_toInt_lt, Int32.le_iff_toInt_le, ← Int32.toInt_inj, Int32.reduceToInt, n_1, n_2, n_8, Int32.toNatClampNeg, Int64.lt_iff_toInt_lt, Int64.le_iff_toInt_le, ← Int64.toInt_inj, Int64.reduceToInt, Int32.toInt_toInt64, lg_cmp_ge, lg_cmp_le, lg_cmp_gt, lg_cmp_lt, lg_cmp_eq, Bool.false_eq_true, Bool.true_eq_false, reduceCtorEq, false_iff, true_iff, iff_true, iff_false, and_true, true_and, and_false, false_and, reduceIte, ite_true, ite_false, eq_self] at *)) <;> omega) (fun s36 hs36 => ?_)
                  have Fs36 : Sm 2 5 σ s36 := by rw [hs36]; exact Sm.sb Fs28 _ _ (by decide) (by decide)
                  refine wa_iload_n (i := 2) rfl rfl ?_
                  refine wa_if_ne o_X1_write_117 (by decide) (fun h37 => ?_) (fun h37 => ?_)
                  · replace h37 := bI_t (b := false) (rfl) h37
                    refine wa_iconst (v := 0) (by decide) ?_
                    refine wa_zreturn false (rfl) rfl rfl ?_
                    exact ⟨_, rfl, Fs36, trivial⟩
                  · replace h37 := bI_f (b := false) (rfl) h37
                    refine wa_iconst (v := 1) (by decide) ?_
                    refine wa_goto o_X1_write_118 (by decide) ?_
                    refine wa_zreturn true (rfl) rfl rfl ?_
                    exact ⟨_, rfl, Fs36, trivial⟩
            · have mh31 := nle_mx h31
              refine wa_iload_n (i := 1) rfl rfl ?_
              refine wa_iload rfl ?_
              refine wa_Si (d9 := d - 1) [.int _, .int _] [] (sp_X1_isByte G (d := d - 1) (by omega) s28 _ _) (rfl) rfl rfl (zr (by omega)) mk_X1_isByte ml_1_29 (Nat.le_of_ble_eq_true rfl) (fun x39 s38 hs38 => ?_)
              obtain ⟨bx39, ex39, zs38, cx39_1, -⟩ := pB hs38
              subst ex39
              subst zs38
              refine wa_if_eq o_X1_write_91 (by decide) (fun h40 => ?_) (fun h40 => ?_)
              · replace h40 := bI_f (b := bx39) (rfl) h40
                have uh40_0 := iff_f cx39_1 h40
                refine wa_iload_n (i := 1) rfl rfl ?_
                refine wa_iconst (v := 1) (by decide) ?_
                refine wa_icmp_lt o_X1_write_109 (by decide) (fun h41 => ?_) (fun h41 => ?_)
                · refine wa_iload_n (i := 2) rfl rfl ?_
                  refine wa_if_ne o_X1_write_117 (by decide) (fun h42 => ?_) (fun h42 => ?_)
                  · replace h42 := bI_t (b := false) (rfl) h42
                    refine wa_iconst (v := 0) (by decide) ?_
                    refine wa_zreturn false (rfl) rfl rfl ?_
                    exact ⟨_, rfl, Fs28, trivial⟩
                  · replace h42 := bI_f (b := false) (rfl) h42
                    refine wa_iconst (v := 1) (by decide) ?_
                    refine wa_goto o_X1_write_118 (by decide) ?_
                    refine wa_zreturn true (rfl) rfl rfl ?_
                    exact ⟨_, rfl, Fs28, trivial⟩
                · refine wa_iload_n (i := 1) rfl rfl ?_
                  refine wa_bipush (v := 100) (by decide) ?_
                  refine wa_icmp_gt o_X1_write_109 (by decide) (fun h43 => ?_) (fun h43 => ?_)
                  · refine wa_iload_n (i := 2) rfl rfl ?_
                    refine wa_if_ne o_X1_write_117 (by decide) (fun h44 => ?_) (fun h44 => ?_)
                    · replace h44 := bI_t (b := false) (rfl) h44
                      refine wa_iconst (v := 0) (by decide) ?_
                      refine wa_zreturn false (rfl) rfl rfl ?_
                      exact ⟨_, rfl, Fs28, trivial⟩
                    · replace h44 := bI_f (b := false) (rfl) h44
                      refine wa_iconst (v := 1) (by decide) ?_
                      refine wa_goto o_X1_write_118 (by decide) ?_
                      refine wa_zreturn true (rfl) rfl rfl ?_
                      exact ⟨_, rfl, Fs28, trivial⟩
                  · refine wa_aload_n (i := 0) rfl rfl ?_
                    refine wa_getr ck_1 fl_1_15 ly_2 rf_2_1 ?_
                    refine wa_iload_n (i := 1) rfl rfl ?_
                    refine wa_iload_n (i := 2) rfl rfl ?_
                    refine wa_zast false (rfl) ly_4 (by ((try simp only [vp_in_iff, Int32.lt_iff_toInt_lt, Int32.le_iff_toInt_le, ← Int32.toInt_inj, Int32.reduceToInt, n_1, n_2, n_8, Int32.toNatClampNeg, Int64.lt_iff_toInt_lt, Int64.le_iff_toInt_le, ← Int64.toInt_inj, Int64.reduceToInt, Int32.toInt_toInt64, lg_cmp_ge, lg_cmp_le, lg_cmp_gt, lg_cmp_lt, lg_cmp_eq, Bool.false_eq_true, Bool.true_eq_false, reduceCtorEq, false_iff, true_iff, iff_true, iff_false, and_true, true_and, and_false, false_and, reduceIte, ite_true, ite_false, eq_self] at *)) <;> omega) (fun s45 hs45 => ?_)
                    have Fs45 : Sm 2 5 σ s45 := by rw [hs45]; exact Sm.sb Fs28 _ _ (by decide) (by decide)
                    refine wa_iload_n (i := 2) rfl rfl ?_
                    refine wa_if_ne o_X1_write_117 (by decide) (fun h46 => ?_) (fun h46 => ?_)
                    · replace h46 := bI_t (b := false) (rfl) h46
                      refine wa_iconst (v := 0) (by decide) ?_
                      refine wa_zreturn false (rfl) rfl rfl ?_
                      exact ⟨_, rfl, Fs45, trivial⟩
                    · replace h46 := bI_f (b := false) (rfl) h46
                      refine wa_iconst (v := 1) (by decide) ?_
                      refine wa_goto o_X1_write_118 (by decide) ?_
                      refine wa_zreturn true (rfl) rfl rfl ?_
                      exact ⟨_, rfl, Fs45, trivial⟩
              · replace h40 := bI_t (b := bx39) (rfl) h40
                have uh40_0 := iff_t cx39_1 h40
                refine wa_aload_n (i := 0) rfl rfl ?_
                refine wa_getr ck_1 fl_1_11 ly_2 rf_2_0 ?_
                refine wa_iload_n (i := 1) rfl rfl ?_
                refine wa_iconst (v := 1) (by decide) ?_
                refine wa_isub ?_
                refine wa_top (fun v47 hv47 => ?_)
                have tv47 := i_subT hv47
                clear hv47
                refine wa_sipush (v := 256) (by decide) ?_
                refine wa_imul ?_
                refine wa_top (fun v48 hv48 => ?_)
                have tv48 := i_mulT hv48
                clear hv48
                refine wa_iload rfl ?_
                refine wa_iadd ?_
                refine wa_top (fun v49 hv49 => ?_)
                have tv49 := i_addT hv49
                clear hv49
                refine wa_aload_n (i := 0) rfl rfl ?_
                refine wa_getr ck_1 fl_1_19 ly_2 rf_2_2 ?_
                refine wa_iload rfl ?_
                refine wa_bald ly_5 (by ((try simp only [vp_in_iff, Int32.lt_iff_toInt_lt, Int32.le_iff_toInt_le, ← Int32.toInt_inj, Int32.reduceToInt, n_1, n_2, n_8, Int32.toNatClampNeg, Int64.lt_iff_toInt_lt, Int64.le_iff_toInt_le, ← Int64.toInt_inj, Int64.reduceToInt, Int32.toInt_toInt64, lg_cmp_ge, lg_cmp_le, lg_cmp_gt, lg_cmp_lt, lg_cmp_eq, Bool.false_eq_true, Bool.true_eq_false, reduceCtorEq, false_iff, true_iff, iff_true, iff_false, and_true, true_and, and_false, false_and, reduceIte, ite_true, ite_false, eq_self] at *)) <;> omega) ?_
                refine wa_bast ly_3 (by ((try simp only [vp_in_iff, Int32.lt_iff_toInt_lt, Int32.le_iff_toInt_le, ← Int32.toInt_inj, Int32.reduceToInt, n_1, n_2, n_8, Int32.toNatClampNeg, Int64.lt_iff_toInt_lt, Int64.le_iff_toInt_le, ← Int64.toInt_inj, Int64.reduceToInt, Int32.toInt_toInt64, lg_cmp_ge, lg_cmp_le, lg_cmp_gt, lg_cmp_lt, lg_cmp_eq, Bool.false_eq_true, Bool.true_eq_false, reduceCtorEq, false_iff, true_iff, iff_true, iff_false, and_true, true_and, and_false, false_and, reduceIte, ite_true, ite_false, eq_self] at *)) <;> omega) (fun s50 hs50 => ?_)
                have Fs50 : Sm 2 5 σ s50 := by rw [hs50]; exact Sm.sy Fs28 _ _ (by decide) (by decide)
                refine wa_iinc (v := (1)) (lv' := fun y51 => [(4, .int y51), (0, .ref 2), (1, .int a0), (2, .int (bI false)), (3, .int (gi σ 2 7))]) (by decide) rfl (by decide) (fun _ => rfl) (fun y51 hy51 => ?_)
                have ty51 := i_addT hy51.symm
                clear hy51
                refine wa_goto o_X1_write_48 (by decide) ?_
                refine wa_pick [1, 2, 3, 4, 0] rfl ?_
                exact ih29 _ (by ((try simp only [vp_in_iff, Int32.lt_iff_toInt_lt, Int32.le_iff_toInt_le, ← Int32.toInt_inj, Int32.reduceToInt, n_1, n_2, n_8, Int32.toNatClampNeg, Int64.lt_iff_toInt_lt, Int64.le_iff_toInt_le, ← Int64.toInt_inj, Int64.reduceToInt, Int32.toInt_toInt64, lg_cmp_ge, lg_cmp_le, lg_cmp_gt, lg_cmp_lt, lg_cmp_eq, Bool.false_eq_true, Bool.true_eq_false, reduceCtorEq, false_iff, true_iff, iff_true, iff_false, and_true, true_and, and_false, false_and, reduceIte, ite_true, ite_false, eq_self] at *)) <;> omega) _ _ ⟨Fs50, ((nx_gi_sy hs50).trans (khi30_0)), ((nx_gi_sy hs50).trans (khi30_1)), (by ((try simp only [vp_in_iff, Int32.lt_iff_toInt_lt, Int32.le_iff_toInt_le, ← Int32.toInt_inj, Int32.reduceToInt, n_1, n_2, n_8, Int32.toNatClampNeg, Int64.lt_iff_toInt_lt, Int64.le_iff_toInt_le, ← Int64.toInt_inj, Int64.reduceToInt, Int32.toInt_toInt64, lg_cmp_ge, lg_cmp_le, lg_cmp_gt, lg_cmp_lt, lg_cmp_eq, Bool.false_eq_true, Bool.true_eq_false, reduceCtorEq, false_iff, true_iff, iff_true, iff_false, and_true, true_and, and_false, false_and, reduceIte, ite_true, ite_false, eq_self] at *)) <;> omega), trivial⟩ rfl
        exact hi30 _ _ _ ⟨(Sm.rf 2 5 σ), (rfl), (rfl), (by ((try simp only [vp_in_iff, Int32.lt_iff_toInt_lt, Int32.le_iff_toInt_le, ← Int32.toInt_inj, Int32.reduceToInt, n_1, n_2, n_8, Int32.toNatClampNeg, Int64.lt_iff_toInt_lt, Int64.le_iff_toInt_le, ← Int64.toInt_inj, Int64.reduceToInt, Int32.toInt_toInt64, lg_cmp_ge, lg_cmp_le, lg_cmp_gt, lg_cmp_lt, lg_cmp_eq, Bool.false_eq_true, Bool.true_eq_false, reduceCtorEq, false_iff, true_iff, iff_true, iff_false, and_true, true_and, and_false, false_and, reduceIte, ite_true, ite_false, eq_self] at *)) <;> omega), trivial⟩ rfl
    · refine wa_aload_n (i := 0) rfl rfl ?_
      refine wa_dup rfl ?_
      refine wa_geti ck_1 fl_1_25 ly_2 ?_
      refine wa_iconst (v := 1) (by decide) ?_
      refine wa_isub ?_
      refine wa_top (fun v52 hv52 => ?_)
      have tv52 := i_subT hv52
      clear hv52
      refine wa_puti ck_1 fl_1_25 ly_2 (fun s53 hs53 => ?_)
      have Fs53 : Sm 2 5 σ s53 := by rw [hs53]; exact Sm.si (Sm.rf 2 5 σ) _ _ (by decide) (by decide)
      refine wa_iload_n (i := 2) rfl rfl ?_
      refine wa_if_eq o_X1_write_41 (by decide) (fun h54 => ?_) (fun h54 => ?_)
      · replace h54 := bI_f (b := false) (rfl) h54
        refine wa_sipush (v := 256) (by decide) ?_
        refine wa_istore_nD (lv' := [(3, .int 256), (2, .int (bI false)), (0, .ref 2), (1, .int a0)]) (i := 3) rfl (by decide) rfl ?_
        refine wa_iconst (v := 0) (by decide) ?_
        refine wa_istoreD (lv' := [(4, .int 0), (3, .int 256), (2, .int (bI false)), (0, .ref 2), (1, .int a0)]) (by decide) rfl ?_
        refine wa_pick [3, 4, 2, 1, 0] rfl ?_
        have hi57 : ∀ (n9_48 : Nat) (l4 : Int32) (s55 : St), ((Sm 2 5 σ s55) ∧ (gi s55 2 6 = v52) ∧ (gi s55 2 7 = gi σ 2 7) ∧ (0 ≤ l4.toInt) ∧ (True)) → (2147483647 - l4.toInt).toNat = n9_48 → WA G M_X1_write (ZM G M_X1_write d (fun r σ' => ∃ x : Bool, r = some (.int (bI x)) ∧ Sm 2 5 σ σ' ∧ True)) B_X1_write_48 [(0, .ref 2), (1, .int a0), (2, .int (bI false)), (3, .int 256), (4, .int l4)] [] s55 := by
          intro n9_48
          induction n9_48 using Nat.strongRecOn with
          | _ n9_48 ih56 =>
            intro l4 s55 i9 m9_48
            obtain ⟨Fs55, khi57_0, khi57_1, jhi57_0, -⟩ := i9
            have ul4 := Int32.toInt_lt l4
            have wl4 := Int32.le_toInt l4
            refine wa_iload rfl ?_
            refine wa_iload_n (i := 3) rfl rfl ?_
            refine wa_icmp_ge o_X1_write_91 (by decide) (fun h58 => ?_) (fun h58 => ?_)
            · refine wa_iload_n (i := 1) rfl rfl ?_
              refine wa_iconst (v := 1) (by decide) ?_
              refine wa_icmp_lt o_X1_write_109 (by decide) (fun h59 => ?_) (fun h59 => ?_)
              · refine wa_iload_n (i := 2) rfl rfl ?_
                refine wa_if_ne o_X1_write_117 (by decide) (fun h60 => ?_) (fun h60 => ?_)
                · replace h60 := bI_t (b := false) (rfl) h60
                  refine wa_iconst (v := 0) (by decide) ?_
                  refine wa_zreturn false (rfl) rfl rfl ?_
                  exact ⟨_, rfl, Fs55, trivial⟩
                · replace h60 := bI_f (b := false) (rfl) h60
                  refine wa_iconst (v := 1) (by decide) ?_
                  refine wa_goto o_X1_write_118 (by decide) ?_
                  refine wa_zreturn true (rfl) rfl rfl ?_
                  exact ⟨_, rfl, Fs55, trivial⟩
              · refine wa_iload_n (i := 1) rfl rfl ?_
                refine wa_bipush (v := 100) (by decide) ?_
                refine wa_icmp_gt o_X1_write_109 (by decide) (fun h61 => ?_) (fun h61 => ?_)
                · refine wa_iload_n (i := 2) rfl rfl ?_
                  refine wa_if_ne o_X1_write_117 (by decide) (fun h62 => ?_) (fun h62 => ?_)
                  · replace h62 := bI_t (b := false) (rfl) h62
                    refine wa_iconst (v := 0) (by decide) ?_
                    refine wa_zreturn false (rfl) rfl rfl ?_
                    exact ⟨_, rfl, Fs55, trivial⟩
                  · replace h62 := bI_f (b := false) (rfl) h62
                    refine wa_iconst (v := 1) (by decide) ?_
                    refine wa_goto o_X1_write_118 (by decide) ?_
                    refine wa_zreturn true (rfl) rfl rfl ?_
                    exact ⟨_, rfl, Fs55, trivial⟩
                · refine wa_aload_n (i := 0) rfl rfl ?_
                  refine wa_getr ck_1 fl_1_15 ly_2 rf_2_1 ?_
                  refine wa_iload_n (i := 1) rfl rfl ?_
                  refine wa_iload_n (i := 2) rfl rfl ?_
                  refine wa_zast false (rfl) ly_4 (by ((try simp only [vp_in_iff, Int32.lt_iff_toInt_lt, Int32.le_iff_toInt_le, ← Int32.toInt_inj, Int32.reduceToInt, n_1, n_2, n_8, Int32.toNatClampNeg, Int64.lt_iff_toInt_lt, Int64.le_iff_toInt_le, ← Int64.toInt_inj, Int64.reduceToInt, Int32.toInt_toInt64, lg_cmp_ge, lg_cmp_le, lg_cmp_gt, lg_cmp_lt, lg_cmp_eq, Bool.false_eq_true, Bool.true_eq_false, reduceCtorEq, false_iff, true_iff, iff_true, iff_false, and_true, true_and, and_false, false_and, reduceIte, ite_true, ite_false, eq_self] at *)) <;> omega) (fun s63 hs63 => ?_)
                  have Fs63 : Sm 2 5 σ s63 := by rw [hs63]; exact Sm.sb Fs55 _ _ (by decide) (by decide)
                  refine wa_iload_n (i := 2) rfl rfl ?_
                  refine wa_if_ne o_X1_write_117 (by decide) (fun h64 => ?_) (fun h64 => ?_)
                  · replace h64 := bI_t (b := false) (rfl) h64
                    refine wa_iconst (v := 0) (by decide) ?_
                    refine wa_zreturn false (rfl) rfl rfl ?_
                    exact ⟨_, rfl, Fs63, trivial⟩
                  · replace h64 := bI_f (b := false) (rfl) h64
                    refine wa_iconst (v := 1) (by decide) ?_
                    refine wa_goto o_X1_write_118 (by decide) ?_
                    refine wa_zreturn true (rfl) rfl rfl ?_
                    exact ⟨_, rfl, Fs63, trivial⟩
            · have mh58 := nle_mx h58
              refine wa_iload_n (i := 1) rfl rfl ?_
              refine wa_iload rfl ?_
              refine wa_Si (d9 := d - 1) [.int _, .int _] [] (sp_X1_isByte G (d := d - 1) (by omega) s55 _ _) (rfl) rfl rfl (zr (by omega)) mk_X1_isByte ml_1_29 (Nat.le_of_ble_eq_true rfl) (fun x66 s65 hs65 => ?_)
              obtain ⟨bx66, ex66, zs65, cx66_1, -⟩ := pB hs65
              subst ex66
              subst zs65
              refine wa_if_eq o_X1_write_91 (by decide) (fun h67 => ?_) (fun h67 => ?_)
              · replace h67 := bI_f (b := bx66) (rfl) h67
                have uh67_0 := iff_f cx66_1 h67
                refine wa_iload_n (i := 1) rfl rfl ?_
                refine wa_iconst (v := 1) (by decide) ?_
                refine wa_icmp_lt o_X1_write_109 (by decide) (fun h68 => ?_) (fun h68 => ?_)
                · refine wa_iload_n (i := 2) rfl rfl ?_
                  refine wa_if_ne o_X1_write_117 (by decide) (fun h69 => ?_) (fun h69 => ?_)
                  · replace h69 := bI_t (b := false) (rfl) h69
                    refine wa_iconst (v := 0) (by decide) ?_
                    refine wa_zreturn false (rfl) rfl rfl ?_
                    exact ⟨_, rfl, Fs55, trivial⟩
                  · replace h69 := bI_f (b := false) (rfl) h69
                    refine wa_iconst (v := 1) (by decide) ?_
                    refine wa_goto o_X1_write_118 (by decide) ?_
                    refine wa_zreturn true (rfl) rfl rfl ?_
                    exact ⟨_, rfl, Fs55, trivial⟩
                · refine wa_iload_n (i := 1) rfl rfl ?_
                  refine wa_bipush (v := 100) (by decide) ?_
                  refine wa_icmp_gt o_X1_write_109 (by decide) (fun h70 => ?_) (fun h70 => ?_)
                  · refine wa_iload_n (i := 2) rfl rfl ?_
                    refine wa_if_ne o_X1_write_117 (by decide) (fun h71 => ?_) (fun h71 => ?_)
                    · replace h71 := bI_t (b := false) (rfl) h71
                      refine wa_iconst (v := 0) (by decide) ?_
                      refine wa_zreturn false (rfl) rfl rfl ?_
                      exact ⟨_, rfl, Fs55, trivial⟩
                    · replace h71 := bI_f (b := false) (rfl) h71
                      refine wa_iconst (v := 1) (by decide) ?_
                      refine wa_goto o_X1_write_118 (by decide) ?_
                      refine wa_zreturn true (rfl) rfl rfl ?_
                      exact ⟨_, rfl, Fs55, trivial⟩
                  · refine wa_aload_n (i := 0) rfl rfl ?_
                    refine wa_getr ck_1 fl_1_15 ly_2 rf_2_1 ?_
                    refine wa_iload_n (i := 1) rfl rfl ?_
                    refine wa_iload_n (i := 2) rfl rfl ?_
                    refine wa_zast false (rfl) ly_4 (by ((try simp only [vp_in_iff, Int32.lt_iff_toInt_lt, Int32.le_iff_toInt_le, ← Int32.toInt_inj, Int32.reduceToInt, n_1, n_2, n_8, Int32.toNatClampNeg, Int64.lt_iff_toInt_lt, Int64.le_iff_toInt_le, ← Int64.toInt_inj, Int64.reduceToInt, Int32.toInt_toInt64, lg_cmp_ge, lg_cmp_le, lg_cmp_gt, lg_cmp_lt, lg_cmp_eq, Bool.false_eq_true, Bool.true_eq_false, reduceCtorEq, false_iff, true_iff, iff_true, iff_false, and_true, true_and, and_false, false_and, reduceIte, ite_true, ite_false, eq_self] at *)) <;> omega) (fun s72 hs72 => ?_)
                    have Fs72 : Sm 2 5 σ s72 := by rw [hs72]; exact Sm.sb Fs55 _ _ (by decide) (by decide)
                    refine wa_iload_n (i := 2) rfl rfl ?_
                    refine wa_if_ne o_X1_write_117 (by decide) (fun h73 => ?_) (fun h73 => ?_)
                    · replace h73 := bI_t (b := false) (rfl) h73
                      refine wa_iconst (v := 0) (by decide) ?_
                      refine wa_zreturn false (rfl) rfl rfl ?_
                      exact ⟨_, rfl, Fs72, trivial⟩
                    · replace h73 := bI_f (b := false) (rfl) h73
                      refine wa_iconst (v := 1) (by decide) ?_
                      refine wa_goto o_X1_write_118 (by decide) ?_
                      refine wa_zreturn true (rfl) rfl rfl ?_
                      exact ⟨_, rfl, Fs72, trivial⟩
              · replace h67 := bI_t (b := bx66) (rfl) h67
                have uh67_0 := iff_t cx66_1 h67
                refine wa_aload_n (i := 0) rfl rfl ?_
                refine wa_getr ck_1 fl_1_11 ly_2 rf_2_0 ?_
                refine wa_iload_n (i := 1) rfl rfl ?_
                refine wa_iconst (v := 1) (by decide) ?_
                refine wa_isub ?_
                refine wa_top (fun v74 hv74 => ?_)
                have tv74 := i_subT hv74
                clear hv74
                refine wa_sipush (v := 256) (by decide) ?_
                refine wa_imul ?_
                refine wa_top (fun v75 hv75 => ?_)
                have tv75 := i_mulT hv75
                clear hv75
                refine wa_iload rfl ?_
                refine wa_iadd ?_
                refine wa_top (fun v76 hv76 => ?_)
                have tv76 := i_addT hv76
                clear hv76
                refine wa_aload_n (i := 0) rfl rfl ?_
                refine wa_getr ck_1 fl_1_19 ly_2 rf_2_2 ?_
                refine wa_iload rfl ?_
                refine wa_bald ly_5 (by ((try simp only [vp_in_iff, Int32.lt_iff_toInt_lt, Int32.le_iff_toInt_le, ← Int32.toInt_inj, Int32.reduceToInt, n_1, n_2, n_8, Int32.toNatClampNeg, Int64.lt_iff_toInt_lt, Int64.le_iff_toInt_le, ← Int64.toInt_inj, Int64.reduceToInt, Int32.toInt_toInt64, lg_cmp_ge, lg_cmp_le, lg_cmp_gt, lg_cmp_lt, lg_cmp_eq, Bool.false_eq_true, Bool.true_eq_false, reduceCtorEq, false_iff, true_iff, iff_true, iff_false, and_true, true_and, and_false, false_and, reduceIte, ite_true, ite_false, eq_self] at *)) <;> omega) ?_
                refine wa_bast ly_3 (by ((try simp only [vp_in_iff, Int32.lt_iff_toInt_lt, Int32.le_iff_toInt_le, ← Int32.toInt_inj, Int32.reduceToInt, n_1, n_2, n_8, Int32.toNatClampNeg, Int64.lt_iff_toInt_lt, Int64.le_iff_toInt_le, ← Int64.toInt_inj, Int64.reduceToInt, Int32.toInt_toInt64, lg_cmp_ge, lg_cmp_le, lg_cmp_gt, lg_cmp_lt, lg_cmp_eq, Bool.false_eq_true, Bool.true_eq_false, reduceCtorEq, false_iff, true_iff, iff_true, iff_false, and_true, true_and, and_false, false_and, reduceIte, ite_true, ite_false, eq_self] at *)) <;> omega) (fun s77 hs77 => ?_)
                have Fs77 : Sm 2 5 σ s77 := by rw [hs77]; exact Sm.sy Fs55 _ _ (by decide) (by decide)
                refine wa_iinc (v := (1)) (lv' := fun y78 => [(4, .int y78), (0, .ref 2), (1, .int a0), (2, .int (bI false)), (3, .int 256)]) (by decide) rfl (by decide) (fun _ => rfl) (fun y78 hy78 => ?_)
                have ty78 := i_addT hy78.symm
                clear hy78
                refine wa_goto o_X1_write_48 (by decide) ?_
                refine wa_pick [1, 2, 3, 4, 0] rfl ?_
                exact ih56 _ (by ((try simp only [vp_in_iff, Int32.lt_iff_toInt_lt, Int32.le_iff_toInt_le, ← Int32.toInt_inj, Int32.reduceToInt, n_1, n_2, n_8, Int32.toNatClampNeg, Int64.lt_iff_toInt_lt, Int64.le_iff_toInt_le, ← Int64.toInt_inj, Int64.reduceToInt, Int32.toInt_toInt64, lg_cmp_ge, lg_cmp_le, lg_cmp_gt, lg_cmp_lt, lg_cmp_eq, Bool.false_eq_true, Bool.true_eq_false, reduceCtorEq, false_iff, true_iff, iff_true, iff_false, and_true, true_and, and_false, false_and, reduceIte, ite_true, ite_false, eq_self] at *)) <;> omega) _ _ ⟨Fs77, ((nx_gi_sy hs77).trans (khi57_0)), ((nx_gi_sy hs77).trans (khi57_1)), (by ((try simp only [vp_in_iff, Int32.lt_iff_toInt_lt, Int32.le_iff_toInt_le, ← Int32.toInt_inj, Int32.reduceToInt, n_1, n_2, n_8, Int32.toNatClampNeg, Int64.lt_iff_toInt_lt, Int64.le_iff_toInt_le, ← Int64.toInt_inj, Int64.reduceToInt, Int32.toInt_toInt64, lg_cmp_ge, lg_cmp_le, lg_cmp_gt, lg_cmp_lt, lg_cmp_eq, Bool.false_eq_true, Bool.true_eq_false, reduceCtorEq, false_iff, true_iff, iff_true, iff_false, and_true, true_and, and_false, false_and, reduceIte, ite_true, ite_false, eq_self] at *)) <;> omega), trivial⟩ rfl
        exact hi57 _ _ _ ⟨Fs53, (nxe_gi_si hs53), (nxk_gi_si hs53 (by decide)), (by ((try simp only [vp_in_iff, Int32.lt_iff_toInt_lt, Int32.le_iff_toInt_le, ← Int32.toInt_inj, Int32.reduceToInt, n_1, n_2, n_8, Int32.toNatClampNeg, Int64.lt_iff_toInt_lt, Int64.le_iff_toInt_le, ← Int64.toInt_inj, Int64.reduceToInt, Int32.toInt_toInt64, lg_cmp_ge, lg_cmp_le, lg_cmp_gt, lg_cmp_lt, lg_cmp_eq, Bool.false_eq_true, Bool.true_eq_false, reduceCtorEq, false_iff, true_iff, iff_true, iff_false, and_true, true_and, and_false, false_and, reduceIte, ite_true, ite_false, eq_self] at *)) <;> omega), trivial⟩ rfl
      · replace h54 := bI_t (b := false) (rfl) h54
        refine wa_aload_n (i := 0) rfl rfl ?_
        refine wa_geti ck_1 fl_1_37 ly_2 ?_
        refine wa_rw (nxk_gi_si hs53 (by decide)) ?_
        refine wa_goto o_X1_write_44 (by decide) ?_
        refine wa_istore_nD (lv' := [(3, .int (gi σ 2 7)), (2, .int (bI false)), (0, .ref 2), (1, .int a0)]) (i := 3) rfl (by decide) rfl ?_
        refine wa_iconst (v := 0) (by decide) ?_
        refine wa_istoreD (lv' := [(4, .int 0), (3, .int (gi σ 2 7)), (2, .int (bI false)), (0, .ref 2), (1, .int a0)]) (by decide) rfl ?_
        refine wa_pick [3, 4, 2, 1, 0] rfl ?_
        have hi81 : ∀ (n9_48 : Nat) (l4 : Int32) (s79 : St), ((Sm 2 5 σ s79) ∧ (gi s79 2 6 = v52) ∧ (gi s79 2 7 = gi σ 2 7) ∧ (0 ≤ l4.toInt) ∧ (True)) → (2147483647 - l4.toInt).toNat = n9_48 → WA G M_X1_write (ZM G M_X1_write d (fun r σ' => ∃ x : Bool, r = some (.int (bI x)) ∧ Sm 2 5 σ σ' ∧ True)) B_X1_write_48 [(0, .ref 2), (1, .int a0), (2, .int (bI false)), (3, .int (gi σ 2 7)), (4, .int l4)] [] s79 := by
          intro n9_48
          induction n9_48 using Nat.strongRecOn with
          | _ n9_48 ih80 =>
            intro l4 s79 i9 m9_48
            obtain ⟨Fs79, khi81_0, khi81_1, jhi81_0, -⟩ := i9
            have ul4 := Int32.toInt_lt l4
            have wl4 := Int32.le_toInt l4
            refine wa_iload rfl ?_
            refine wa_iload_n (i := 3) rfl rfl ?_
            refine wa_icmp_ge o_X1_write_91 (by decide) (fun h82 => ?_) (fun h82 => ?_)
            · refine wa_iload_n (i := 1) rfl rfl ?_
              refine wa_iconst (v := 1) (by decide) ?_
              refine wa_icmp_lt o_X1_write_109 (by decide) (fun h83 => ?_) (fun h83 => ?_)
              · refine wa_iload_n (i := 2) rfl rfl ?_
                refine wa_if_ne o_X1_write_117 (by decide) (fun h84 => ?_) (fun h84 => ?_)
                · replace h84 := bI_t (b := false) (rfl) h84
                  refine wa_iconst (v := 0) (by decide) ?_
                  refine wa_zreturn false (rfl) rfl rfl ?_
                  exact ⟨_, rfl, Fs79, trivial⟩
                · replace h84 := bI_f (b := false) (rfl) h84
                  refine wa_iconst (v := 1) (by decide) ?_
                  refine wa_goto o_X1_write_118 (by decide) ?_
                  refine wa_zreturn true (rfl) rfl rfl ?_
                  exact ⟨_, rfl, Fs79, trivial⟩
              · refine wa_iload_n (i := 1) rfl rfl ?_
                refine wa_bipush (v := 100) (by decide) ?_
                refine wa_icmp_gt o_X1_write_109 (by decide) (fun h85 => ?_) (fun h85 => ?_)
                · refine wa_iload_n (i := 2) rfl rfl ?_
                  refine wa_if_ne o_X1_write_117 (by decide) (fun h86 => ?_) (fun h86 => ?_)
                  · replace h86 := bI_t (b := false) (rfl) h86
                    refine wa_iconst (v := 0) (by decide) ?_
                    refine wa_zreturn false (rfl) rfl rfl ?_
                    exact ⟨_, rfl, Fs79, trivial⟩
                  · replace h86 := bI_f (b := false) (rfl) h86
                    refine wa_iconst (v := 1) (by decide) ?_
                    refine wa_goto o_X1_write_118 (by decide) ?_
                    refine wa_zreturn true (rfl) rfl rfl ?_
                    exact ⟨_, rfl, Fs79, trivial⟩
                · refine wa_aload_n (i := 0) rfl rfl ?_
                  refine wa_getr ck_1 fl_1_15 ly_2 rf_2_1 ?_
                  refine wa_iload_n (i := 1) rfl rfl ?_
                  refine wa_iload_n (i := 2) rfl rfl ?_
                  refine wa_zast false (rfl) ly_4 (by ((try simp only [vp_in_iff, Int32.lt_iff_toInt_lt, Int32.le_iff_toInt_le, ← Int32.toInt_inj, Int32.reduceToInt, n_1, n_2, n_8, Int32.toNatClampNeg, Int64.lt_iff_toInt_lt, Int64.le_iff_toInt_le, ← Int64.toInt_inj, Int64.reduceToInt, Int32.toInt_toInt64, lg_cmp_ge, lg_cmp_le, lg_cmp_gt, lg_cmp_lt, lg_cmp_eq, Bool.false_eq_true, Bool.true_eq_false, reduceCtorEq, false_iff, true_iff, iff_true, iff_false, and_true, true_and, and_false, false_and, reduceIte, ite_true, ite_false, eq_self] at *)) <;> omega) (fun s87 hs87 => ?_)
                  have Fs87 : Sm 2 5 σ s87 := by rw [hs87]; exact Sm.sb Fs79 _ _ (by decide) (by decide)
                  refine wa_iload_n (i := 2) rfl rfl ?_
                  refine wa_if_ne o_X1_write_117 (by decide) (fun h88 => ?_) (fun h88 => ?_)
                  · replace h88 := bI_t (b := false) (rfl) h88
                    refine wa_iconst (v := 0) (by decide) ?_
                    refine wa_zreturn false (rfl) rfl rfl ?_
                    exact ⟨_, rfl, Fs87, trivial⟩
                  · replace h88 := bI_f (b := false) (rfl) h88
                    refine wa_iconst (v := 1) (by decide) ?_
                    refine wa_goto o_X1_write_118 (by decide) ?_
                    refine wa_zreturn true (rfl) rfl rfl ?_
                    exact ⟨_, rfl, Fs87, trivial⟩
            · have mh82 := nle_mx h82
              refine wa_iload_n (i := 1) rfl rfl ?_
              refine wa_iload rfl ?_
              refine wa_Si (d9 := d - 1) [.int _, .int _] [] (sp_X1_isByte G (d := d - 1) (by omega) s79 _ _) (rfl) rfl rfl (zr (by omega)) mk_X1_isByte ml_1_29 (Nat.le_of_ble_eq_true rfl) (fun x90 s89 hs89 => ?_)
              obtain ⟨bx90, ex90, zs89, cx90_1, -⟩ := pB hs89
              subst ex90
              subst zs89
              refine wa_if_eq o_X1_write_91 (by decide) (fun h91 => ?_) (fun h91 => ?_)
              · replace h91 := bI_f (b := bx90) (rfl) h91
                have uh91_0 := iff_f cx90_1 h91
                refine wa_iload_n (i := 1) rfl rfl ?_
                refine wa_iconst (v := 1) (by decide) ?_
                refine wa_icmp_lt o_X1_write_109 (by decide) (fun h92 => ?_) (fun h92 => ?_)
                · refine wa_iload_n (i := 2) rfl rfl ?_
                  refine wa_if_ne o_X1_write_117 (by decide) (fun h93 => ?_) (fun h93 => ?_)
                  · replace h93 := bI_t (b := false) (rfl) h93
                    refine wa_iconst (v := 0) (by decide) ?_
                    refine wa_zreturn false (rfl) rfl rfl ?_
                    exact ⟨_, rfl, Fs79, trivial⟩
                  · replace h93 := bI_f (b := false) (rfl) h93
                    refine wa_iconst (v := 1) (by decide) ?_
                    refine wa_goto o_X1_write_118 (by decide) ?_
                    refine wa_zreturn true (rfl) rfl rfl ?_
                    exact ⟨_, rfl, Fs79, trivial⟩
                · refine wa_iload_n (i := 1) rfl rfl ?_
                  refine wa_bipush (v := 100) (by decide) ?_
                  refine wa_icmp_gt o_X1_write_109 (by decide) (fun h94 => ?_) (fun h94 => ?_)
                  · refine wa_iload_n (i := 2) rfl rfl ?_
                    refine wa_if_ne o_X1_write_117 (by decide) (fun h95 => ?_) (fun h95 => ?_)
                    · replace h95 := bI_t (b := false) (rfl) h95
                      refine wa_iconst (v := 0) (by decide) ?_
                      refine wa_zreturn false (rfl) rfl rfl ?_
                      exact ⟨_, rfl, Fs79, trivial⟩
                    · replace h95 := bI_f (b := false) (rfl) h95
                      refine wa_iconst (v := 1) (by decide) ?_
                      refine wa_goto o_X1_write_118 (by decide) ?_
                      refine wa_zreturn true (rfl) rfl rfl ?_
                      exact ⟨_, rfl, Fs79, trivial⟩
                  · refine wa_aload_n (i := 0) rfl rfl ?_
                    refine wa_getr ck_1 fl_1_15 ly_2 rf_2_1 ?_
                    refine wa_iload_n (i := 1) rfl rfl ?_
                    refine wa_iload_n (i := 2) rfl rfl ?_
                    refine wa_zast false (rfl) ly_4 (by ((try simp only [vp_in_iff, Int32.lt_iff_toInt_lt, Int32.le_iff_toInt_le, ← Int32.toInt_inj, Int32.reduceToInt, n_1, n_2, n_8, Int32.toNatClampNeg, Int64.lt_iff_toInt_lt, Int64.le_iff_toInt_le, ← Int64.toInt_inj, Int64.reduceToInt, Int32.toInt_toInt64, lg_cmp_ge, lg_cmp_le, lg_cmp_gt, lg_cmp_lt, lg_cmp_eq, Bool.false_eq_true, Bool.true_eq_false, reduceCtorEq, false_iff, true_iff, iff_true, iff_false, and_true, true_and, and_false, false_and, reduceIte, ite_true, ite_false, eq_self] at *)) <;> omega) (fun s96 hs96 => ?_)
                    have Fs96 : Sm 2 5 σ s96 := by rw [hs96]; exact Sm.sb Fs79 _ _ (by decide) (by decide)
                    refine wa_iload_n (i := 2) rfl rfl ?_
                    refine wa_if_ne o_X1_write_117 (by decide) (fun h97 => ?_) (fun h97 => ?_)
                    · replace h97 := bI_t (b := false) (rfl) h97
                      refine wa_iconst (v := 0) (by decide) ?_
                      refine wa_zreturn false (rfl) rfl rfl ?_
                      exact ⟨_, rfl, Fs96, trivial⟩
                    · replace h97 := bI_f (b := false) (rfl) h97
                      refine wa_iconst (v := 1) (by decide) ?_
                      refine wa_goto o_X1_write_118 (by decide) ?_
                      refine wa_zreturn true (rfl) rfl rfl ?_
                      exact ⟨_, rfl, Fs96, trivial⟩
              · replace h91 := bI_t (b := bx90) (rfl) h91
                have uh91_0 := iff_t cx90_1 h91
                refine wa_aload_n (i := 0) rfl rfl ?_
                refine wa_getr ck_1 fl_1_11 ly_2 rf_2_0 ?_
                refine wa_iload_n (i := 1) rfl rfl ?_
                refine wa_iconst (v := 1) (by decide) ?_
                refine wa_isub ?_
                refine wa_top (fun v98 hv98 => ?_)
                have tv98 := i_subT hv98
                clear hv98
                refine wa_sipush (v := 256) (by decide) ?_
                refine wa_imul ?_
                refine wa_top (fun v99 hv99 => ?_)
                have tv99 := i_mulT hv99
                clear hv99
                refine wa_iload rfl ?_
                refine wa_iadd ?_
                refine wa_top (fun v100 hv100 => ?_)
                have tv100 := i_addT hv100
                clear hv100
                refine wa_aload_n (i := 0) rfl rfl ?_
                refine wa_getr ck_1 fl_1_19 ly_2 rf_2_2 ?_
                refine wa_iload rfl ?_
                refine wa_bald ly_5 (by ((try simp only [vp_in_iff, Int32.lt_iff_toInt_lt, Int32.le_iff_toInt_le, ← Int32.toInt_inj, Int32.reduceToInt, n_1, n_2, n_8, Int32.toNatClampNeg, Int64.lt_iff_toInt_lt, Int64.le_iff_toInt_le, ← Int64.toInt_inj, Int64.reduceToInt, Int32.toInt_toInt64, lg_cmp_ge, lg_cmp_le, lg_cmp_gt, lg_cmp_lt, lg_cmp_eq, Bool.false_eq_true, Bool.true_eq_false, reduceCtorEq, false_iff, true_iff, iff_true, iff_false, and_true, true_and, and_false, false_and, reduceIte, ite_true, ite_false, eq_self] at *)) <;> omega) ?_
                refine wa_bast ly_3 (by ((try simp only [vp_in_iff, Int32.lt_iff_toInt_lt, Int32.le_iff_toInt_le, ← Int32.toInt_inj, Int32.reduceToInt, n_1, n_2, n_8, Int32.toNatClampNeg, Int64.lt_iff_toInt_lt, Int64.le_iff_toInt_le, ← Int64.toInt_inj, Int64.reduceToInt, Int32.toInt_toInt64, lg_cmp_ge, lg_cmp_le, lg_cmp_gt, lg_cmp_lt, lg_cmp_eq, Bool.false_eq_true, Bool.true_eq_false, reduceCtorEq, false_iff, true_iff, iff_true, iff_false, and_true, true_and, and_false, false_and, reduceIte, ite_true, ite_false, eq_self] at *)) <;> omega) (fun s101 hs101 => ?_)
                have Fs101 : Sm 2 5 σ s101 := by rw [hs101]; exact Sm.sy Fs79 _ _ (by decide) (by decide)
                refine wa_iinc (v := (1)) (lv' := fun y102 => [(4, .int y102), (0, .ref 2), (1, .int a0), (2, .int (bI false)), (3, .int (gi σ 2 7))]) (by decide) rfl (by decide) (fun _ => rfl) (fun y102 hy102 => ?_)
                have ty102 := i_addT hy102.symm
                clear hy102
                refine wa_goto o_X1_write_48 (by decide) ?_
                refine wa_pick [1, 2, 3, 4, 0] rfl ?_
                exact ih80 _ (by ((try simp only [vp_in_iff, Int32.lt_iff_toInt_lt, Int32.le_iff_toInt_le, ← Int32.toInt_inj, Int32.reduceToInt, n_1, n_2, n_8, Int32.toNatClampNeg, Int64.lt_iff_toInt_lt, Int64.le_iff_toInt_le, ← Int64.toInt_inj, Int64.reduceToInt, Int32.toInt_toInt64, lg_cmp_ge, lg_cmp_le, lg_cmp_gt, lg_cmp_lt, lg_cmp_eq, Bool.false_eq_true, Bool.true_eq_false, reduceCtorEq, false_iff, true_iff, iff_true, iff_false, and_true, true_and, and_false, false_and, reduceIte, ite_true, ite_false, eq_self] at *)) <;> omega) _ _ ⟨Fs101, ((nx_gi_sy hs101).trans (khi81_0)), ((nx_gi_sy hs101).trans (khi81_1)), (by ((try simp only [vp_in_iff, Int32.lt_iff_toInt_lt, Int32.le_iff_toInt_le, ← Int32.toInt_inj, Int32.reduceToInt, n_1, n_2, n_8, Int32.toNatClampNeg, Int64.lt_iff_toInt_lt, Int64.le_iff_toInt_le, ← Int64.toInt_inj, Int64.reduceToInt, Int32.toInt_toInt64, lg_cmp_ge, lg_cmp_le, lg_cmp_gt, lg_cmp_lt, lg_cmp_eq, Bool.false_eq_true, Bool.true_eq_false, reduceCtorEq, false_iff, true_iff, iff_true, iff_false, and_true, true_and, and_false, false_and, reduceIte, ite_true, ite_false, eq_self] at *)) <;> omega), trivial⟩ rfl
        exact hi81 _ _ _ ⟨Fs53, (nxe_gi_si hs53), (nxk_gi_si hs53 (by decide)), (by ((try simp only [vp_in_iff, Int32.lt_iff_toInt_lt, Int32.le_iff_toInt_le, ← Int32.toInt_inj, Int32.reduceToInt, n_1, n_2, n_8, Int32.toNatClampNeg, Int64.lt_iff_toInt_lt, Int64.le_iff_toInt_le, ← Int64.toInt_inj, Int64.reduceToInt, Int32.toInt_toInt64, lg_cmp_ge, lg_cmp_le, lg_cmp_gt, lg_cmp_lt, lg_cmp_eq, Bool.false_eq_true, Bool.true_eq_false, reduceCtorEq, false_iff, true_iff, iff_true, iff_false, and_true, true_and, and_false, false_and, reduceIte, ite_true, ite_false, eq_self] at *)) <;> omega), trivial⟩ rfl
  · refine wa_iconst (v := 1) (by decide) ?_
    refine wa_goto o_X1_write_12 (by decide) ?_
    refine wa_istore_nD (lv' := [(2, .int (bI true)), (0, .ref 2), (1, .int a0)]) (i := 2) rfl (by decide) rfl ?_
    refine wa_aload_n (i := 0) rfl rfl ?_
    refine wa_geti ck_1 fl_1_25 ly_2 ?_
    refine wa_if_lt o_X1_write_30 (by decide) (fun h103 => ?_) (fun h103 => ?_)
    · refine wa_iload_n (i := 2) rfl rfl ?_
      refine wa_if_eq o_X1_write_41 (by decide) (fun h104 => ?_) (fun h104 => ?_)
      · replace h104 := bI_f (b := true) (rfl) h104
        refine wa_sipush (v := 256) (by decide) ?_
        refine wa_istore_nD (lv' := [(3, .int 256), (2, .int (bI true)), (0, .ref 2), (1, .int a0)]) (i := 3) rfl (by decide) rfl ?_
        refine wa_iconst (v := 0) (by decide) ?_
        refine wa_istoreD (lv' := [(4, .int 0), (3, .int 256), (2, .int (bI true)), (0, .ref 2), (1, .int a0)]) (by decide) rfl ?_
        refine wa_pick [3, 4, 2, 1, 0] rfl ?_
        have hi107 : ∀ (n9_48 : Nat) (l4 : Int32) (s105 : St), ((Sm 2 5 σ s105) ∧ (gi s105 2 6 = gi σ 2 6) ∧ (gi s105 2 7 = gi σ 2 7) ∧ (0 ≤ l4.toInt) ∧ (True)) → (2147483647 - l4.toInt).toNat = n9_48 → WA G M_X1_write (ZM G M_X1_write d (fun r σ' => ∃ x : Bool, r = some (.int (bI x)) ∧ Sm 2 5 σ σ' ∧ True)) B_X1_write_48 [(0, .ref 2), (1, .int a0), (2, .int (bI true)), (3, .int 256), (4, .int l4)] [] s105 := by
          intro n9_48
          induction n9_48 using Nat.strongRecOn with
          | _ n9_48 ih106 =>
            intro l4 s105 i9 m9_48
            obtain ⟨Fs105, khi107_0, khi107_1, jhi107_0, -⟩ := i9
            have ul4 := Int32.toInt_lt l4
            have wl4 := Int32.le_toInt l4
            refine wa_iload rfl ?_
            refine wa_iload_n (i := 3) rfl rfl ?_
            refine wa_icmp_ge o_X1_write_91 (by decide) (fun h108 => ?_) (fun h108 => ?_)
            · refine wa_iload_n (i := 1) rfl rfl ?_
              refine wa_iconst (v := 1) (by decide) ?_
              refine wa_icmp_lt o_X1_write_109 (by decide) (fun h109 => ?_) (fun h109 => ?_)
              · refine wa_iload_n (i := 2) rfl rfl ?_
                refine wa_if_ne o_X1_write_117 (by decide) (fun h110 => ?_) (fun h110 => ?_)
                · replace h110 := bI_t (b := true) (rfl) h110
                  refine wa_iconst (v := 0) (by decide) ?_
                  refine wa_zreturn false (rfl) rfl rfl ?_
                  exact ⟨_, rfl, Fs105, trivial⟩
                · replace h110 := bI_f (b := true) (rfl) h110
                  refine wa_iconst (v := 1) (by decide) ?_
                  refine wa_goto o_X1_write_118 (by decide) ?_
                  refine wa_zreturn true (rfl) rfl rfl ?_
                  exact ⟨_, rfl, Fs105, trivial⟩
              · refine wa_iload_n (i := 1) rfl rfl ?_
                refine wa_bipush (v := 100) (by decide) ?_
                refine wa_icmp_gt o_X1_write_109 (by decide) (fun h111 => ?_) (fun h111 => ?_)
                · refine wa_iload_n (i := 2) rfl rfl ?_
                  refine wa_if_ne o_X1_write_117 (by decide) (fun h112 => ?_) (fun h112 => ?_)
                  · replace h112 := bI_t (b := true) (rfl) h112
                    refine wa_iconst (v := 0) (by decide) ?_
                    refine wa_zreturn false (rfl) rfl rfl ?_
                    exact ⟨_, rfl, Fs105, trivial⟩
                  · replace h112 := bI_f (b := true) (rfl) h112
                    refine wa_iconst (v := 1) (by decide) ?_
                    refine wa_goto o_X1_write_118 (by decide) ?_
                    refine wa_zreturn true (rfl) rfl rfl ?_
                    exact ⟨_, rfl, Fs105, trivial⟩
                · refine wa_aload_n (i := 0) rfl rfl ?_
                  refine wa_getr ck_1 fl_1_15 ly_2 rf_2_1 ?_
                  refine wa_iload_n (i := 1) rfl rfl ?_
                  refine wa_iload_n (i := 2) rfl rfl ?_
                  refine wa_zast true (rfl) ly_4 (by ((try simp only [vp_in_iff, Int32.lt_iff_toInt_lt, Int32.le_iff_toInt_le, ← Int32.toInt_inj, Int32.reduceToInt, n_1, n_2, n_8, Int32.toNatClampNeg, Int64.lt_iff_toInt_lt, Int64.le_iff_toInt_le, ← Int64.toInt_inj, Int64.reduceToInt, Int32.toInt_toInt64, lg_cmp_ge, lg_cmp_le, lg_cmp_gt, lg_cmp_lt, lg_cmp_eq, Bool.false_eq_true, Bool.true_eq_false, reduceCtorEq, false_iff, true_iff, iff_true, iff_false, and_true, true_and, and_false, false_and, reduceIte, ite_true, ite_false, eq_self] at *)) <;> omega) (fun s113 hs113 => ?_)
                  have Fs113 : Sm 2 5 σ s113 := by rw [hs113]; exact Sm.sb Fs105 _ _ (by decide) (by decide)
                  refine wa_iload_n (i := 2) rfl rfl ?_
                  refine wa_if_ne o_X1_write_117 (by decide) (fun h114 => ?_) (fun h114 => ?_)
                  · replace h114 := bI_t (b := true) (rfl) h114
                    refine wa_iconst (v := 0) (by decide) ?_
                    refine wa_zreturn false (rfl) rfl rfl ?_
                    exact ⟨_, rfl, Fs113, trivial⟩
                  · replace h114 := bI_f (b := true) (rfl) h114
                    refine wa_iconst (v := 1) (by decide) ?_
                    refine wa_goto o_X1_write_118 (by decide) ?_
                    refine wa_zreturn true (rfl) rfl rfl ?_
                    exact ⟨_, rfl, Fs113, trivial⟩
            · have mh108 := nle_mx h108
              refine wa_iload_n (i := 1) rfl rfl ?_
              refine wa_iload rfl ?_
              refine wa_Si (d9 := d - 1) [.int _, .int _] [] (sp_X1_isByte G (d := d - 1) (by omega) s105 _ _) (rfl) rfl rfl (zr (by omega)) mk_X1_isByte ml_1_29 (Nat.le_of_ble_eq_true rfl) (fun x116 s115 hs115 => ?_)
              obtain ⟨bx116, ex116, zs115, cx116_1, -⟩ := pB hs115
              subst ex116
              subst zs115
              refine wa_if_eq o_X1_write_91 (by decide) (fun h117 => ?_) (fun h117 => ?_)
              · replace h117 := bI_f (b := bx116) (rfl) h117
                have uh117_0 := iff_f cx116_1 h117
                refine wa_iload_n (i := 1) rfl rfl ?_
                refine wa_iconst (v := 1) (by decide) ?_
                refine wa_icmp_lt o_X1_write_109 (by decide) (fun h118 => ?_) (fun h118 => ?_)
                · refine wa_iload_n (i := 2) rfl rfl ?_
                  refine wa_if_ne o_X1_write_117 (by decide) (fun h119 => ?_) (fun h119 => ?_)
                  · replace h119 := bI_t (b := true) (rfl) h119
                    refine wa_iconst (v := 0) (by decide) ?_
                    refine wa_zreturn false (rfl) rfl rfl ?_
                    exact ⟨_, rfl, Fs105, trivial⟩
                  · replace h119 := bI_f (b := true) (rfl) h119
                    refine wa_iconst (v := 1) (by decide) ?_
                    refine wa_goto o_X1_write_118 (by decide) ?_
                    refine wa_zreturn true (rfl) rfl rfl ?_
                    exact ⟨_, rfl, Fs105, trivial⟩
                · refine wa_iload_n (i := 1) rfl rfl ?_
                  refine wa_bipush (v := 100) (by decide) ?_
                  refine wa_icmp_gt o_X1_write_109 (by decide) (fun h120 => ?_) (fun h120 => ?_)
                  · refine wa_iload_n (i := 2) rfl rfl ?_
                    refine wa_if_ne o_X1_write_117 (by decide) (fun h121 => ?_) (fun h121 => ?_)
                    · replace h121 := bI_t (b := true) (rfl) h121
                      refine wa_iconst (v := 0) (by decide) ?_
                      refine wa_zreturn false (rfl) rfl rfl ?_
                      exact ⟨_, rfl, Fs105, trivial⟩
                    · replace h121 := bI_f (b := true) (rfl) h121
                      refine wa_iconst (v := 1) (by decide) ?_
                      refine wa_goto o_X1_write_118 (by decide) ?_
                      refine wa_zreturn true (rfl) rfl rfl ?_
                      exact ⟨_, rfl, Fs105, trivial⟩
                  · refine wa_aload_n (i := 0) rfl rfl ?_
                    refine wa_getr ck_1 fl_1_15 ly_2 rf_2_1 ?_
                    refine wa_iload_n (i := 1) rfl rfl ?_
                    refine wa_iload_n (i := 2) rfl rfl ?_
                    refine wa_zast true (rfl) ly_4 (by ((try simp only [vp_in_iff, Int32.lt_iff_toInt_lt, Int32.le_iff_toInt_le, ← Int32.toInt_inj, Int32.reduceToInt, n_1, n_2, n_8, Int32.toNatClampNeg, Int64.lt_iff_toInt_lt, Int64.le_iff_toInt_le, ← Int64.toInt_inj, Int64.reduceToInt, Int32.toInt_toInt64, lg_cmp_ge, lg_cmp_le, lg_cmp_gt, lg_cmp_lt, lg_cmp_eq, Bool.false_eq_true, Bool.true_eq_false, reduceCtorEq, false_iff, true_iff, iff_true, iff_false, and_true, true_and, and_false, false_and, reduceIte, ite_true, ite_false, eq_self] at *)) <;> omega) (fun s122 hs122 => ?_)
                    have Fs122 : Sm 2 5 σ s122 := by rw [hs122]; exact Sm.sb Fs105 _ _ (by decide) (by decide)
                    refine wa_iload_n (i := 2) rfl rfl ?_
                    refine wa_if_ne o_X1_write_117 (by decide) (fun h123 => ?_) (fun h123 => ?_)
                    · replace h123 := bI_t (b := true) (rfl) h123
                      refine wa_iconst (v := 0) (by decide) ?_
                      refine wa_zreturn false (rfl) rfl rfl ?_
                      exact ⟨_, rfl, Fs122, trivial⟩
                    · replace h123 := bI_f (b := true) (rfl) h123
                      refine wa_iconst (v := 1) (by decide) ?_
                      refine wa_goto o_X1_write_118 (by decide) ?_
                      refine wa_zreturn true (rfl) rfl rfl ?_
                      exact ⟨_, rfl, Fs122, trivial⟩
              · replace h117 := bI_t (b := bx116) (rfl) h117
                have uh117_0 := iff_t cx116_1 h117
                refine wa_aload_n (i := 0) rfl rfl ?_
                refine wa_getr ck_1 fl_1_11 ly_2 rf_2_0 ?_
                refine wa_iload_n (i := 1) rfl rfl ?_
                refine wa_iconst (v := 1) (by decide) ?_
                refine wa_isub ?_
                refine wa_top (fun v124 hv124 => ?_)
                have tv124 := i_subT hv124
                clear hv124
                refine wa_sipush (v := 256) (by decide) ?_
                refine wa_imul ?_
                refine wa_top (fun v125 hv125 => ?_)
                have tv125 := i_mulT hv125
                clear hv125
                refine wa_iload rfl ?_
                refine wa_iadd ?_
                refine wa_top (fun v126 hv126 => ?_)
                have tv126 := i_addT hv126
                clear hv126
                refine wa_aload_n (i := 0) rfl rfl ?_
                refine wa_getr ck_1 fl_1_19 ly_2 rf_2_2 ?_
                refine wa_iload rfl ?_
                refine wa_bald ly_5 (by ((try simp only [vp_in_iff, Int32.lt_iff_toInt_lt, Int32.le_iff_toInt_le, ← Int32.toInt_inj, Int32.reduceToInt, n_1, n_2, n_8, Int32.toNatClampNeg, Int64.lt_iff_toInt_lt, Int64.le_iff_toInt_le, ← Int64.toInt_inj, Int64.reduceToInt, Int32.toInt_toInt64, lg_cmp_ge, lg_cmp_le, lg_cmp_gt, lg_cmp_lt, lg_cmp_eq, Bool.false_eq_true, Bool.true_eq_false, reduceCtorEq, false_iff, true_iff, iff_true, iff_false, and_true, true_and, and_false, false_and, reduceIte, ite_true, ite_false, eq_self] at *)) <;> omega) ?_
                refine wa_bast ly_3 (by ((try simp only [vp_in_iff, Int32.lt_iff_toInt_lt, Int32.le_iff_toInt_le, ← Int32.toInt_inj, Int32.reduceToInt, n_1, n_2, n_8, Int32.toNatClampNeg, Int64.lt_iff_toInt_lt, Int64.le_iff_toInt_le, ← Int64.toInt_inj, Int64.reduceToInt, Int32.toInt_toInt64, lg_cmp_ge, lg_cmp_le, lg_cmp_gt, lg_cmp_lt, lg_cmp_eq, Bool.false_eq_true, Bool.true_eq_false, reduceCtorEq, false_iff, true_iff, iff_true, iff_false, and_true, true_and, and_false, false_and, reduceIte, ite_true, ite_false, eq_self] at *)) <;> omega) (fun s127 hs127 => ?_)
                have Fs127 : Sm 2 5 σ s127 := by rw [hs127]; exact Sm.sy Fs105 _ _ (by decide) (by decide)
                refine wa_iinc (v := (1)) (lv' := fun y128 => [(4, .int y128), (0, .ref 2), (1, .int a0), (2, .int (bI true)), (3, .int 256)]) (by decide) rfl (by decide) (fun _ => rfl) (fun y128 hy128 => ?_)
                have ty128 := i_addT hy128.symm
                clear hy128
                refine wa_goto o_X1_write_48 (by decide) ?_
                refine wa_pick [1, 2, 3, 4, 0] rfl ?_
                exact ih106 _ (by ((try simp only [vp_in_iff, Int32.lt_iff_toInt_lt, Int32.le_iff_toInt_le, ← Int32.toInt_inj, Int32.reduceToInt, n_1, n_2, n_8, Int32.toNatClampNeg, Int64.lt_iff_toInt_lt, Int64.le_iff_toInt_le, ← Int64.toInt_inj, Int64.reduceToInt, Int32.toInt_toInt64, lg_cmp_ge, lg_cmp_le, lg_cmp_gt, lg_cmp_lt, lg_cmp_eq, Bool.false_eq_true, Bool.true_eq_false, reduceCtorEq, false_iff, true_iff, iff_true, iff_false, and_true, true_and, and_false, false_and, reduceIte, ite_true, ite_false, eq_self] at *)) <;> omega) _ _ ⟨Fs127, ((nx_gi_sy hs127).trans (khi107_0)), ((nx_gi_sy hs127).trans (khi107_1)), (by ((try simp only [vp_in_iff, Int32.lt_iff_toInt_lt, Int32.le_iff_toInt_le, ← Int32.toInt_inj, Int32.reduceToInt, n_1, n_2, n_8, Int32.toNatClampNeg, Int64.lt_iff_toInt_lt, Int64.le_iff_toInt_le, ← Int64.toInt_inj, Int64.reduceToInt, Int32.toInt_toInt64, lg_cmp_ge, lg_cmp_le, lg_cmp_gt, lg_cmp_lt, lg_cmp_eq, Bool.false_eq_true, Bool.true_eq_false, reduceCtorEq, false_iff, true_iff, iff_true, iff_false, and_true, true_and, and_false, false_and, reduceIte, ite_true, ite_false, eq_self] at *)) <;> omega), trivial⟩ rfl
        exact hi107 _ _ _ ⟨(Sm.rf 2 5 σ), (rfl), (rfl), (by ((try simp only [vp_in_iff, Int32.lt_iff_toInt_lt, Int32.le_iff_toInt_le, ← Int32.toInt_inj, Int32.reduceToInt, n_1, n_2, n_8, Int32.toNatClampNeg, Int64.lt_iff_toInt_lt, Int64.le_iff_toInt_le, ← Int64.toInt_inj, Int64.reduceToInt, Int32.toInt_toInt64, lg_cmp_ge, lg_cmp_le, lg_cmp_gt, lg_cmp_lt, lg_cmp_eq, Bool.false_eq_true, Bool.true_eq_false, reduceCtorEq, false_iff, true_iff, iff_true, iff_false, and_true, true_and, and_false, false_and, reduceIte, ite_true, ite_false, eq_self] at *)) <;> omega), trivial⟩ rfl
      · replace h104 := bI_t (b := true) (rfl) h104
        refine wa_aload_n (i := 0) rfl rfl ?_
        refine wa_geti ck_1 fl_1_37 ly_2 ?_
        refine wa_goto o_X1_write_44 (by decide) ?_
        refine wa_istore_nD (lv' := [(3, .int (gi σ 2 7)), (2, .int (bI true)), (0, .ref 2), (1, .int a0)]) (i := 3) rfl (by decide) rfl ?_
        refine wa_iconst (v := 0) (by decide) ?_
        refine wa_istoreD (lv' := [(4, .int 0), (3, .int (gi σ 2 7)), (2, .int (bI true)), (0, .ref 2), (1, .int a0)]) (by decide) rfl ?_
        refine wa_pick [3, 4, 2, 1, 0] rfl ?_
        have hi131 : ∀ (n9_48 : Nat) (l4 : Int32) (s129 : St), ((Sm 2 5 σ s129) ∧ (gi s129 2 6 = gi σ 2 6) ∧ (gi s129 2 7 = gi σ 2 7) ∧ (0 ≤ l4.toInt) ∧ (True)) → (2147483647 - l4.toInt).toNat = n9_48 → WA G M_X1_write (ZM G M_X1_write d (fun r σ' => ∃ x : Bool, r = some (.int (bI x)) ∧ Sm 2 5 σ σ' ∧ True)) B_X1_write_48 [(0, .ref 2), (1, .int a0), (2, .int (bI true)), (3, .int (gi σ 2 7)), (4, .int l4)] [] s129 := by
          intro n9_48
          induction n9_48 using Nat.strongRecOn with
          | _ n9_48 ih130 =>
            intro l4 s129 i9 m9_48
            obtain ⟨Fs129, khi131_0, khi131_1, jhi131_0, -⟩ := i9
            have ul4 := Int32.toInt_lt l4
            have wl4 := Int32.le_toInt l4
            refine wa_iload rfl ?_
            refine wa_iload_n (i := 3) rfl rfl ?_
            refine wa_icmp_ge o_X1_write_91 (by decide) (fun h132 => ?_) (fun h132 => ?_)
            · refine wa_iload_n (i := 1) rfl rfl ?_
              refine wa_iconst (v := 1) (by decide) ?_
              refine wa_icmp_lt o_X1_write_109 (by decide) (fun h133 => ?_) (fun h133 => ?_)
              · refine wa_iload_n (i := 2) rfl rfl ?_
                refine wa_if_ne o_X1_write_117 (by decide) (fun h134 => ?_) (fun h134 => ?_)
                · replace h134 := bI_t (b := true) (rfl) h134
                  refine wa_iconst (v := 0) (by decide) ?_
                  refine wa_zreturn false (rfl) rfl rfl ?_
                  exact ⟨_, rfl, Fs129, trivial⟩
                · replace h134 := bI_f (b := true) (rfl) h134
                  refine wa_iconst (v := 1) (by decide) ?_
                  refine wa_goto o_X1_write_118 (by decide) ?_
                  refine wa_zreturn true (rfl) rfl rfl ?_
                  exact ⟨_, rfl, Fs129, trivial⟩
              · refine wa_iload_n (i := 1) rfl rfl ?_
                refine wa_bipush (v := 100) (by decide) ?_
                refine wa_icmp_gt o_X1_write_109 (by decide) (fun h135 => ?_) (fun h135 => ?_)
                · refine wa_iload_n (i := 2) rfl rfl ?_
                  refine wa_if_ne o_X1_write_117 (by decide) (fun h136 => ?_) (fun h136 => ?_)
                  · replace h136 := bI_t (b := true) (rfl) h136
                    refine wa_iconst (v := 0) (by decide) ?_
                    refine wa_zreturn false (rfl) rfl rfl ?_
                    exact ⟨_, rfl, Fs129, trivial⟩
                  · replace h136 := bI_f (b := true) (rfl) h136
                    refine wa_iconst (v := 1) (by decide) ?_
                    refine wa_goto o_X1_write_118 (by decide) ?_
                    refine wa_zreturn true (rfl) rfl rfl ?_
                    exact ⟨_, rfl, Fs129, trivial⟩
                · refine wa_aload_n (i := 0) rfl rfl ?_
                  refine wa_getr ck_1 fl_1_15 ly_2 rf_2_1 ?_
                  refine wa_iload_n (i := 1) rfl rfl ?_
                  refine wa_iload_n (i := 2) rfl rfl ?_
                  refine wa_zast true (rfl) ly_4 (by ((try simp only [vp_in_iff, Int32.lt_iff_toInt_lt, Int32.le_iff_toInt_le, ← Int32.toInt_inj, Int32.reduceToInt, n_1, n_2, n_8, Int32.toNatClampNeg, Int64.lt_iff_toInt_lt, Int64.le_iff_toInt_le, ← Int64.toInt_inj, Int64.reduceToInt, Int32.toInt_toInt64, lg_cmp_ge, lg_cmp_le, lg_cmp_gt, lg_cmp_lt, lg_cmp_eq, Bool.false_eq_true, Bool.true_eq_false, reduceCtorEq, false_iff, true_iff, iff_true, iff_false, and_true, true_and, and_false, false_and, reduceIte, ite_true, ite_false, eq_self] at *)) <;> omega) (fun s137 hs137 => ?_)
                  have Fs137 : Sm 2 5 σ s137 := by rw [hs137]; exact Sm.sb Fs129 _ _ (by decide) (by decide)
                  refine wa_iload_n (i := 2) rfl rfl ?_
                  refine wa_if_ne o_X1_write_117 (by decide) (fun h138 => ?_) (fun h138 => ?_)
                  · replace h138 := bI_t (b := true) (rfl) h138
                    refine wa_iconst (v := 0) (by decide) ?_
                    refine wa_zreturn false (rfl) rfl rfl ?_
                    exact ⟨_, rfl, Fs137, trivial⟩
                  · replace h138 := bI_f (b := true) (rfl) h138
                    refine wa_iconst (v := 1) (by decide) ?_
                    refine wa_goto o_X1_write_118 (by decide) ?_
                    refine wa_zreturn true (rfl) rfl rfl ?_
                    exact ⟨_, rfl, Fs137, trivial⟩
            · have mh132 := nle_mx h132
              refine wa_iload_n (i := 1) rfl rfl ?_
              refine wa_iload rfl ?_
              refine wa_Si (d9 := d - 1) [.int _, .int _] [] (sp_X1_isByte G (d := d - 1) (by omega) s129 _ _) (rfl) rfl rfl (zr (by omega)) mk_X1_isByte ml_1_29 (Nat.le_of_ble_eq_true rfl) (fun x140 s139 hs139 => ?_)
              obtain ⟨bx140, ex140, zs139, cx140_1, -⟩ := pB hs139
              subst ex140
              subst zs139
              refine wa_if_eq o_X1_write_91 (by decide) (fun h141 => ?_) (fun h141 => ?_)
              · replace h141 := bI_f (b := bx140) (rfl) h141
                have uh141_0 := iff_f cx140_1 h141
                refine wa_iload_n (i := 1) rfl rfl ?_
                refine wa_iconst (v := 1) (by decide) ?_
                refine wa_icmp_lt o_X1_write_109 (by decide) (fun h142 => ?_) (fun h142 => ?_)
                · refine wa_iload_n (i := 2) rfl rfl ?_
                  refine wa_if_ne o_X1_write_117 (by decide) (fun h143 => ?_) (fun h143 => ?_)
                  · replace h143 := bI_t (b := true) (rfl) h143
                    refine wa_iconst (v := 0) (by decide) ?_
                    refine wa_zreturn false (rfl) rfl rfl ?_
                    exact ⟨_, rfl, Fs129, trivial⟩
                  · replace h143 := bI_f (b := true) (rfl) h143
                    refine wa_iconst (v := 1) (by decide) ?_
                    refine wa_goto o_X1_write_118 (by decide) ?_
                    refine wa_zreturn true (rfl) rfl rfl ?_
                    exact ⟨_, rfl, Fs129, trivial⟩
                · refine wa_iload_n (i := 1) rfl rfl ?_
                  refine wa_bipush (v := 100) (by decide) ?_
                  refine wa_icmp_gt o_X1_write_109 (by decide) (fun h144 => ?_) (fun h144 => ?_)
                  · refine wa_iload_n (i := 2) rfl rfl ?_
                    refine wa_if_ne o_X1_write_117 (by decide) (fun h145 => ?_) (fun h145 => ?_)
                    · replace h145 := bI_t (b := true) (rfl) h145
                      refine wa_iconst (v := 0) (by decide) ?_
                      refine wa_zreturn false (rfl) rfl rfl ?_
                      exact ⟨_, rfl, Fs129, trivial⟩
                    · replace h145 := bI_f (b := true) (rfl) h145
                      refine wa_iconst (v := 1) (by decide) ?_
                      refine wa_goto o_X1_write_118 (by decide) ?_
                      refine wa_zreturn true (rfl) rfl rfl ?_
                      exact ⟨_, rfl, Fs129, trivial⟩
                  · refine wa_aload_n (i := 0) rfl rfl ?_
                    refine wa_getr ck_1 fl_1_15 ly_2 rf_2_1 ?_
                    refine wa_iload_n (i := 1) rfl rfl ?_
                    refine wa_iload_n (i := 2) rfl rfl ?_
                    refine wa_zast true (rfl) ly_4 (by ((try simp only [vp_in_iff, Int32.lt_iff_toInt_lt, Int32.le_iff_toInt_le, ← Int32.toInt_inj, Int32.reduceToInt, n_1, n_2, n_8, Int32.toNatClampNeg, Int64.lt_iff_toInt_lt, Int64.le_iff_toInt_le, ← Int64.toInt_inj, Int64.reduceToInt, Int32.toInt_toInt64, lg_cmp_ge, lg_cmp_le, lg_cmp_gt, lg_cmp_lt, lg_cmp_eq, Bool.false_eq_true, Bool.true_eq_false, reduceCtorEq, false_iff, true_iff, iff_true, iff_false, and_true, true_and, and_false, false_and, reduceIte, ite_true, ite_false, eq_self] at *)) <;> omega) (fun s146 hs146 => ?_)
                    have Fs146 : Sm 2 5 σ s146 := by rw [hs146]; exact Sm.sb Fs129 _ _ (by decide) (by decide)
                    refine wa_iload_n (i := 2) rfl rfl ?_
                    refine wa_if_ne o_X1_write_117 (by decide) (fun h147 => ?_) (fun h147 => ?_)
                    · replace h147 := bI_t (b := true) (rfl) h147
                      refine wa_iconst (v := 0) (by decide) ?_
                      refine wa_zreturn false (rfl) rfl rfl ?_
                      exact ⟨_, rfl, Fs146, trivial⟩
                    · replace h147 := bI_f (b := true) (rfl) h147
                      refine wa_iconst (v := 1) (by decide) ?_
                      refine wa_goto o_X1_write_118 (by decide) ?_
                      refine wa_zreturn true (rfl) rfl rfl ?_
                      exact ⟨_, rfl, Fs146, trivial⟩
              · replace h141 := bI_t (b := bx140) (rfl) h141
                have uh141_0 := iff_t cx140_1 h141
                refine wa_aload_n (i := 0) rfl rfl ?_
                refine wa_getr ck_1 fl_1_11 ly_2 rf_2_0 ?_
                refine wa_iload_n (i := 1) rfl rfl ?_
                refine wa_iconst (v := 1) (by decide) ?_
                refine wa_isub ?_
                refine wa_top (fun v148 hv148 => ?_)
                have tv148 := i_subT hv148
                clear hv148
                refine wa_sipush (v := 256) (by decide) ?_
                refine wa_imul ?_
                refine wa_top (fun v149 hv149 => ?_)
                have tv149 := i_mulT hv149
                clear hv149
                refine wa_iload rfl ?_
                refine wa_iadd ?_
                refine wa_top (fun v150 hv150 => ?_)
                have tv150 := i_addT hv150
                clear hv150
                refine wa_aload_n (i := 0) rfl rfl ?_
                refine wa_getr ck_1 fl_1_19 ly_2 rf_2_2 ?_
                refine wa_iload rfl ?_
                refine wa_bald ly_5 (by ((try simp only [vp_in_iff, Int32.lt_iff_toInt_lt, Int32.le_iff_toInt_le, ← Int32.toInt_inj, Int32.reduceToInt, n_1, n_2, n_8, Int32.toNatClampNeg, Int64.lt_iff_toInt_lt, Int64.le_iff_toInt_le, ← Int64.toInt_inj, Int64.reduceToInt, Int32.toInt_toInt64, lg_cmp_ge, lg_cmp_le, lg_cmp_gt, lg_cmp_lt, lg_cmp_eq, Bool.false_eq_true, Bool.true_eq_false, reduceCtorEq, false_iff, true_iff, iff_true, iff_false, and_true, true_and, and_false, false_and, reduceIte, ite_true, ite_false, eq_self] at *)) <;> omega) ?_
                refine wa_bast ly_3 (by ((try simp only [vp_in_iff, Int32.lt_iff_toInt_lt, Int32.le_iff_toInt_le, ← Int32.toInt_inj, Int32.reduceToInt, n_1, n_2, n_8, Int32.toNatClampNeg, Int64.lt_iff_toInt_lt, Int64.le_iff_toInt_le, ← Int64.toInt_inj, Int64.reduceToInt, Int32.toInt_toInt64, lg_cmp_ge, lg_cmp_le, lg_cmp_gt, lg_cmp_lt, lg_cmp_eq, Bool.false_eq_true, Bool.true_eq_false, reduceCtorEq, false_iff, true_iff, iff_true, iff_false, and_true, true_and, and_false, false_and, reduceIte, ite_true, ite_false, eq_self] at *)) <;> omega) (fun s151 hs151 => ?_)
                have Fs151 : Sm 2 5 σ s151 := by rw [hs151]; exact Sm.sy Fs129 _ _ (by decide) (by decide)
                refine wa_iinc (v := (1)) (lv' := fun y152 => [(4, .int y152), (0, .ref 2), (1, .int a0), (2, .int (bI true)), (3, .int (gi σ 2 7))]) (by decide) rfl (by decide) (fun _ => rfl) (fun y152 hy152 => ?_)
                have ty152 := i_addT hy152.symm
                clear hy152
                refine wa_goto o_X1_write_48 (by decide) ?_
                refine wa_pick [1, 2, 3, 4, 0] rfl ?_
                exact ih130 _ (by ((try simp only [vp_in_iff, Int32.lt_iff_toInt_lt, Int32.le_iff_toInt_le, ← Int32.toInt_inj, Int32.reduceToInt, n_1, n_2, n_8, Int32.toNatClampNeg, Int64.lt_iff_toInt_lt, Int64.le_iff_toInt_le, ← Int64.toInt_inj, Int64.reduceToInt, Int32.toInt_toInt64, lg_cmp_ge, lg_cmp_le, lg_cmp_gt, lg_cmp_lt, lg_cmp_eq, Bool.false_eq_true, Bool.true_eq_false, reduceCtorEq, false_iff, true_iff, iff_true, iff_false, and_true, true_and, and_false, false_and, reduceIte, ite_true, ite_false, eq_self] at *)) <;> omega) _ _ ⟨Fs151, ((nx_gi_sy hs151).trans (khi131_0)), ((nx_gi_sy hs151).trans (khi131_1)), (by ((try simp only [vp_in_iff, Int32.lt_iff_toInt_lt, Int32.le_iff_toInt_le, ← Int32.toInt_inj, Int32.reduceToInt, n_1, n_2, n_8, Int32.toNatClampNeg, Int64.lt_iff_toInt_lt, Int64.le_iff_toInt_le, ← Int64.toInt_inj, Int64.reduceToInt, Int32.toInt_toInt64, lg_cmp_ge, lg_cmp_le, lg_cmp_gt, lg_cmp_lt, lg_cmp_eq, Bool.false_eq_true, Bool.true_eq_false, reduceCtorEq, false_iff, true_iff, iff_true, iff_false, and_true, true_and, and_false, false_and, reduceIte, ite_true, ite_false, eq_self] at *)) <;> omega), trivial⟩ rfl
        exact hi131 _ _ _ ⟨(Sm.rf 2 5 σ), (rfl), (rfl), (by ((try simp only [vp_in_iff, Int32.lt_iff_toInt_lt, Int32.le_iff_toInt_le, ← Int32.toInt_inj, Int32.reduceToInt, n_1, n_2, n_8, Int32.toNatClampNeg, Int64.lt_iff_toInt_lt, Int64.le_iff_toInt_le, ← Int64.toInt_inj, Int64.reduceToInt, Int32.toInt_toInt64, lg_cmp_ge, lg_cmp_le, lg_cmp_gt, lg_cmp_lt, lg_cmp_eq, Bool.false_eq_true, Bool.true_eq_false, reduceCtorEq, false_iff, true_iff, iff_true, iff_false, and_true, true_and, and_false, false_and, reduceIte, ite_true, ite_false, eq_self] at *)) <;> omega), trivial⟩ rfl
    · refine wa_aload_n (i := 0) rfl rfl ?_
      refine wa_dup rfl ?_
      refine wa_geti ck_1 fl_1_25 ly_2 ?_
      refine wa_iconst (v := 1) (by decide) ?_
      refine wa_isub ?_
      refine wa_top (fun v153 hv153 => ?_)
      have tv153 := i_subT hv153
      clear hv153
      refine wa_puti ck_1 fl_1_25 ly_2 (fun s154 hs154 => ?_)
      have Fs154 : Sm 2 5 σ s154 := by rw [hs154]; exact Sm.si (Sm.rf 2 5 σ) _ _ (by decide) (by decide)
      refine wa_iload_n (i := 2) rfl rfl ?_
      refine wa_if_eq o_X1_write_41 (by decide) (fun h155 => ?_) (fun h155 => ?_)
      · replace h155 := bI_f (b := true) (rfl) h155
        refine wa_sipush (v := 256) (by decide) ?_
        refine wa_istore_nD (lv' := [(3, .int 256), (2, .int (bI true)), (0, .ref 2), (1, .int a0)]) (i := 3) rfl (by decide) rfl ?_
        refine wa_iconst (v := 0) (by decide) ?_
        refine wa_istoreD (lv' := [(4, .int 0), (3, .int 256), (2, .int (bI true)), (0, .ref 2), (1, .int a0)]) (by decide) rfl ?_
        refine wa_pick [3, 4, 2, 1, 0] rfl ?_
        have hi158 : ∀ (n9_48 : Nat) (l4 : Int32) (s156 : St), ((Sm 2 5 σ s156) ∧ (gi s156 2 6 = v153) ∧ (gi s156 2 7 = gi σ 2 7) ∧ (0 ≤ l4.toInt) ∧ (True)) → (2147483647 - l4.toInt).toNat = n9_48 → WA G M_X1_write (ZM G M_X1_write d (fun r σ' => ∃ x : Bool, r = some (.int (bI x)) ∧ Sm 2 5 σ σ' ∧ True)) B_X1_write_48 [(0, .ref 2), (1, .int a0), (2, .int (bI true)), (3, .int 256), (4, .int l4)] [] s156 := by
          intro n9_48
          induction n9_48 using Nat.strongRecOn with
          | _ n9_48 ih157 =>
            intro l4 s156 i9 m9_48
            obtain ⟨Fs156, khi158_0, khi158_1, jhi158_0, -⟩ := i9
            have ul4 := Int32.toInt_lt l4
            have wl4 := Int32.le_toInt l4
            refine wa_iload rfl ?_
            refine wa_iload_n (i := 3) rfl rfl ?_
            refine wa_icmp_ge o_X1_write_91 (by decide) (fun h159 => ?_) (fun h159 => ?_)
            · refine wa_iload_n (i := 1) rfl rfl ?_
              refine wa_iconst (v := 1) (by decide) ?_
              refine wa_icmp_lt o_X1_write_109 (by decide) (fun h160 => ?_) (fun h160 => ?_)
              · refine wa_iload_n (i := 2) rfl rfl ?_
                refine wa_if_ne o_X1_write_117 (by decide) (fun h161 => ?_) (fun h161 => ?_)
                · replace h161 := bI_t (b := true) (rfl) h161
                  refine wa_iconst (v := 0) (by decide) ?_
                  refine wa_zreturn false (rfl) rfl rfl ?_
                  exact ⟨_, rfl, Fs156, trivial⟩
                · replace h161 := bI_f (b := true) (rfl) h161
                  refine wa_iconst (v := 1) (by decide) ?_
                  refine wa_goto o_X1_write_118 (by decide) ?_
                  refine wa_zreturn true (rfl) rfl rfl ?_
                  exact ⟨_, rfl, Fs156, trivial⟩
              · refine wa_iload_n (i := 1) rfl rfl ?_
                refine wa_bipush (v := 100) (by decide) ?_
                refine wa_icmp_gt o_X1_write_109 (by decide) (fun h162 => ?_) (fun h162 => ?_)
                · refine wa_iload_n (i := 2) rfl rfl ?_
                  refine wa_if_ne o_X1_write_117 (by decide) (fun h163 => ?_) (fun h163 => ?_)
                  · replace h163 := bI_t (b := true) (rfl) h163
                    refine wa_iconst (v := 0) (by decide) ?_
                    refine wa_zreturn false (rfl) rfl rfl ?_
                    exact ⟨_, rfl, Fs156, trivial⟩
                  · replace h163 := bI_f (b := true) (rfl) h163
                    refine wa_iconst (v := 1) (by decide) ?_
                    refine wa_goto o_X1_write_118 (by decide) ?_
                    refine wa_zreturn true (rfl) rfl rfl ?_
                    exact ⟨_, rfl, Fs156, trivial⟩
                · refine wa_aload_n (i := 0) rfl rfl ?_
                  refine wa_getr ck_1 fl_1_15 ly_2 rf_2_1 ?_
                  refine wa_iload_n (i := 1) rfl rfl ?_
                  refine wa_iload_n (i := 2) rfl rfl ?_
                  refine wa_zast true (rfl) ly_4 (by ((try simp only [vp_in_iff, Int32.lt_iff_toInt_lt, Int32.le_iff_toInt_le, ← Int32.toInt_inj, Int32.reduceToInt, n_1, n_2, n_8, Int32.toNatClampNeg, Int64.lt_iff_toInt_lt, Int64.le_iff_toInt_le, ← Int64.toInt_inj, Int64.reduceToInt, Int32.toInt_toInt64, lg_cmp_ge, lg_cmp_le, lg_cmp_gt, lg_cmp_lt, lg_cmp_eq, Bool.false_eq_true, Bool.true_eq_false, reduceCtorEq, false_iff, true_iff, iff_true, iff_false, and_true, true_and, and_false, false_and, reduceIte, ite_true, ite_false, eq_self] at *)) <;> omega) (fun s164 hs164 => ?_)
                  have Fs164 : Sm 2 5 σ s164 := by rw [hs164]; exact Sm.sb Fs156 _ _ (by decide) (by decide)
                  refine wa_iload_n (i := 2) rfl rfl ?_
                  refine wa_if_ne o_X1_write_117 (by decide) (fun h165 => ?_) (fun h165 => ?_)
                  · replace h165 := bI_t (b := true) (rfl) h165
                    refine wa_iconst (v := 0) (by decide) ?_
                    refine wa_zreturn false (rfl) rfl rfl ?_
                    exact ⟨_, rfl, Fs164, trivial⟩
                  · replace h165 := bI_f (b := true) (rfl) h165
                    refine wa_iconst (v := 1) (by decide) ?_
                    refine wa_goto o_X1_write_118 (by decide) ?_
                    refine wa_zreturn true (rfl) rfl rfl ?_
                    exact ⟨_, rfl, Fs164, trivial⟩
            · have mh159 := nle_mx h159
              refine wa_iload_n (i := 1) rfl rfl ?_
              refine wa_iload rfl ?_
              refine wa_Si (d9 := d - 1) [.int _, .int _] [] (sp_X1_isByte G (d := d - 1) (by omega) s156 _ _) (rfl) rfl rfl (zr (by omega)) mk_X1_isByte ml_1_29 (Nat.le_of_ble_eq_true rfl) (fun x167 s166 hs166 => ?_)
              obtain ⟨bx167, ex167, zs166, cx167_1, -⟩ := pB hs166
              subst ex167
              subst zs166
              refine wa_if_eq o_X1_write_91 (by decide) (fun h168 => ?_) (fun h168 => ?_)
              · replace h168 := bI_f (b := bx167) (rfl) h168
                have uh168_0 := iff_f cx167_1 h168
                refine wa_iload_n (i := 1) rfl rfl ?_
                refine wa_iconst (v := 1) (by decide) ?_
                refine wa_icmp_lt o_X1_write_109 (by decide) (fun h169 => ?_) (fun h169 => ?_)
                · refine wa_iload_n (i := 2) rfl rfl ?_
                  refine wa_if_ne o_X1_write_117 (by decide) (fun h170 => ?_) (fun h170 => ?_)
                  · replace h170 := bI_t (b := true) (rfl) h170
                    refine wa_iconst (v := 0) (by decide) ?_
                    refine wa_zreturn false (rfl) rfl rfl ?_
                    exact ⟨_, rfl, Fs156, trivial⟩
                  · replace h170 := bI_f (b := true) (rfl) h170
                    refine wa_iconst (v := 1) (by decide) ?_
                    refine wa_goto o_X1_write_118 (by decide) ?_
                    refine wa_zreturn true (rfl) rfl rfl ?_
                    exact ⟨_, rfl, Fs156, trivial⟩
                · refine wa_iload_n (i := 1) rfl rfl ?_
                  refine wa_bipush (v := 100) (by decide) ?_
                  refine wa_icmp_gt o_X1_write_109 (by decide) (fun h171 => ?_) (fun h171 => ?_)
                  · refine wa_iload_n (i := 2) rfl rfl ?_
                    refine wa_if_ne o_X1_write_117 (by decide) (fun h172 => ?_) (fun h172 => ?_)
                    · replace h172 := bI_t (b := true) (rfl) h172
                      refine wa_iconst (v := 0) (by decide) ?_
                      refine wa_zreturn false (rfl) rfl rfl ?_
                      exact ⟨_, rfl, Fs156, trivial⟩
                    · replace h172 := bI_f (b := true) (rfl) h172
                      refine wa_iconst (v := 1) (by decide) ?_
                      refine wa_goto o_X1_write_118 (by decide) ?_
                      refine wa_zreturn true (rfl) rfl rfl ?_
                      exact ⟨_, rfl, Fs156, trivial⟩
                  · refine wa_aload_n (i := 0) rfl rfl ?_
                    refine wa_getr ck_1 fl_1_15 ly_2 rf_2_1 ?_
                    refine wa_iload_n (i := 1) rfl rfl ?_
                    refine wa_iload_n (i := 2) rfl rfl ?_
                    refine wa_zast true (rfl) ly_4 (by ((try simp only [vp_in_iff, Int32.lt_iff_toInt_lt, Int32.le_iff_toInt_le, ← Int32.toInt_inj, Int32.reduceToInt, n_1, n_2, n_8, Int32.toNatClampNeg, Int64.lt_iff_toInt_lt, Int64.le_iff_toInt_le, ← Int64.toInt_inj, Int64.reduceToInt, Int32.toInt_toInt64, lg_cmp_ge, lg_cmp_le, lg_cmp_gt, lg_cmp_lt, lg_cmp_eq, Bool.false_eq_true, Bool.true_eq_false, reduceCtorEq, false_iff, true_iff, iff_true, iff_false, and_true, true_and, and_false, false_and, reduceIte, ite_true, ite_false, eq_self] at *)) <;> omega) (fun s173 hs173 => ?_)
                    have Fs173 : Sm 2 5 σ s173 := by rw [hs173]; exact Sm.sb Fs156 _ _ (by decide) (by decide)
                    refine wa_iload_n (i := 2) rfl rfl ?_
                    refine wa_if_ne o_X1_write_117 (by decide) (fun h174 => ?_) (fun h174 => ?_)
                    · replace h174 := bI_t (b := true) (rfl) h174
                      refine wa_iconst (v := 0) (by decide) ?_
                      refine wa_zreturn false (rfl) rfl rfl ?_
                      exact ⟨_, rfl, Fs173, trivial⟩
                    · replace h174 := bI_f (b := true) (rfl) h174
                      refine wa_iconst (v := 1) (by decide) ?_
                      refine wa_goto o_X1_write_118 (by decide) ?_
                      refine wa_zreturn true (rfl) rfl rfl ?_
                      exact ⟨_, rfl, Fs173, trivial⟩
              · replace h168 := bI_t (b := bx167) (rfl) h168
                have uh168_0 := iff_t cx167_1 h168
                refine wa_aload_n (i := 0) rfl rfl ?_
                refine wa_getr ck_1 fl_1_11 ly_2 rf_2_0 ?_
                refine wa_iload_n (i := 1) rfl rfl ?_
                refine wa_iconst (v := 1) (by decide) ?_
                refine wa_isub ?_
                refine wa_top (fun v175 hv175 => ?_)
                have tv175 := i_subT hv175
                clear hv175
                refine wa_sipush (v := 256) (by decide) ?_
                refine wa_imul ?_
                refine wa_top (fun v176 hv176 => ?_)
                have tv176 := i_mulT hv176
                clear hv176
                refine wa_iload rfl ?_
                refine wa_iadd ?_
                refine wa_top (fun v177 hv177 => ?_)
                have tv177 := i_addT hv177
                clear hv177
                refine wa_aload_n (i := 0) rfl rfl ?_
                refine wa_getr ck_1 fl_1_19 ly_2 rf_2_2 ?_
                refine wa_iload rfl ?_
                refine wa_bald ly_5 (by ((try simp only [vp_in_iff, Int32.lt_iff_toInt_lt, Int32.le_iff_toInt_le, ← Int32.toInt_inj, Int32.reduceToInt, n_1, n_2, n_8, Int32.toNatClampNeg, Int64.lt_iff_toInt_lt, Int64.le_iff_toInt_le, ← Int64.toInt_inj, Int64.reduceToInt, Int32.toInt_toInt64, lg_cmp_ge, lg_cmp_le, lg_cmp_gt, lg_cmp_lt, lg_cmp_eq, Bool.false_eq_true, Bool.true_eq_false, reduceCtorEq, false_iff, true_iff, iff_true, iff_false, and_true, true_and, and_false, false_and, reduceIte, ite_true, ite_false, eq_self] at *)) <;> omega) ?_
                refine wa_bast ly_3 (by ((try simp only [vp_in_iff, Int32.lt_iff_toInt_lt, Int32.le_iff_toInt_le, ← Int32.toInt_inj, Int32.reduceToInt, n_1, n_2, n_8, Int32.toNatClampNeg, Int64.lt_iff_toInt_lt, Int64.le_iff_toInt_le, ← Int64.toInt_inj, Int64.reduceToInt, Int32.toInt_toInt64, lg_cmp_ge, lg_cmp_le, lg_cmp_gt, lg_cmp_lt, lg_cmp_eq, Bool.false_eq_true, Bool.true_eq_false, reduceCtorEq, false_iff, true_iff, iff_true, iff_false, and_true, true_and, and_false, false_and, reduceIte, ite_true, ite_false, eq_self] at *)) <;> omega) (fun s178 hs178 => ?_)
                have Fs178 : Sm 2 5 σ s178 := by rw [hs178]; exact Sm.sy Fs156 _ _ (by decide) (by decide)
                refine wa_iinc (v := (1)) (lv' := fun y179 => [(4, .int y179), (0, .ref 2), (1, .int a0), (2, .int (bI true)), (3, .int 256)]) (by decide) rfl (by decide) (fun _ => rfl) (fun y179 hy179 => ?_)
                have ty179 := i_addT hy179.symm
                clear hy179
                refine wa_goto o_X1_write_48 (by decide) ?_
                refine wa_pick [1, 2, 3, 4, 0] rfl ?_
                exact ih157 _ (by ((try simp only [vp_in_iff, Int32.lt_iff_toInt_lt, Int32.le_iff_toInt_le, ← Int32.toInt_inj, Int32.reduceToInt, n_1, n_2, n_8, Int32.toNatClampNeg, Int64.lt_iff_toInt_lt, Int64.le_iff_toInt_le, ← Int64.toInt_inj, Int64.reduceToInt, Int32.toInt_toInt64, lg_cmp_ge, lg_cmp_le, lg_cmp_gt, lg_cmp_lt, lg_cmp_eq, Bool.false_eq_true, Bool.true_eq_false, reduceCtorEq, false_iff, true_iff, iff_true, iff_false, and_true, true_and, and_false, false_and, reduceIte, ite_true, ite_false, eq_self] at *)) <;> omega) _ _ ⟨Fs178, ((nx_gi_sy hs178).trans (khi158_0)), ((nx_gi_sy hs178).trans (khi158_1)), (by ((try simp only [vp_in_iff, Int32.lt_iff_toInt_lt, Int32.le_iff_toInt_le, ← Int32.toInt_inj, Int32.reduceToInt, n_1, n_2, n_8, Int32.toNatClampNeg, Int64.lt_iff_toInt_lt, Int64.le_iff_toInt_le, ← Int64.toInt_inj, Int64.reduceToInt, Int32.toInt_toInt64, lg_cmp_ge, lg_cmp_le, lg_cmp_gt, lg_cmp_lt, lg_cmp_eq, Bool.false_eq_true, Bool.true_eq_false, reduceCtorEq, false_iff, true_iff, iff_true, iff_false, and_true, true_and, and_false, false_and, reduceIte, ite_true, ite_false, eq_self] at *)) <;> omega), trivial⟩ rfl
        exact hi158 _ _ _ ⟨Fs154, (nxe_gi_si hs154), (nxk_gi_si hs154 (by decide)), (by ((try simp only [vp_in_iff, Int32.lt_iff_toInt_lt, Int32.le_iff_toInt_le, ← Int32.toInt_inj, Int32.reduceToInt, n_1, n_2, n_8, Int32.toNatClampNeg, Int64.lt_iff_toInt_lt, Int64.le_iff_toInt_le, ← Int64.toInt_inj, Int64.reduceToInt, Int32.toInt_toInt64, lg_cmp_ge, lg_cmp_le, lg_cmp_gt, lg_cmp_lt, lg_cmp_eq, Bool.false_eq_true, Bool.true_eq_false, reduceCtorEq, false_iff, true_iff, iff_true, iff_false, and_true, true_and, and_false, false_and, reduceIte, ite_true, ite_false, eq_self] at *)) <;> omega), trivial⟩ rfl
      · replace h155 := bI_t (b := true) (rfl) h155
        refine wa_aload_n (i := 0) rfl rfl ?_
        refine wa_geti ck_1 fl_1_37 ly_2 ?_
        refine wa_rw (nxk_gi_si hs154 (by decide)) ?_
        refine wa_goto o_X1_write_44 (by decide) ?_
        refine wa_istore_nD (lv' := [(3, .int (gi σ 2 7)), (2, .int (bI true)), (0, .ref 2), (1, .int a0)]) (i := 3) rfl (by decide) rfl ?_
        refine wa_iconst (v := 0) (by decide) ?_
        refine wa_istoreD (lv' := [(4, .int 0), (3, .int (gi σ 2 7)), (2, .int (bI true)), (0, .ref 2), (1, .int a0)]) (by decide) rfl ?_
        refine wa_pick [3, 4, 2, 1, 0] rfl ?_
        have hi182 : ∀ (n9_48 : Nat) (l4 : Int32) (s180 : St), ((Sm 2 5 σ s180) ∧ (gi s180 2 6 = v153) ∧ (gi s180 2 7 = gi σ 2 7) ∧ (0 ≤ l4.toInt) ∧ (True)) → (2147483647 - l4.toInt).toNat = n9_48 → WA G M_X1_write (ZM G M_X1_write d (fun r σ' => ∃ x : Bool, r = some (.int (bI x)) ∧ Sm 2 5 σ σ' ∧ True)) B_X1_write_48 [(0, .ref 2), (1, .int a0), (2, .int (bI true)), (3, .int (gi σ 2 7)), (4, .int l4)] [] s180 := by
          intro n9_48
          induction n9_48 using Nat.strongRecOn with
          | _ n9_48 ih181 =>
            intro l4 s180 i9 m9_48
            obtain ⟨Fs180, khi182_0, khi182_1, jhi182_0, -⟩ := i9
            have ul4 := Int32.toInt_lt l4
            have wl4 := Int32.le_toInt l4
            refine wa_iload rfl ?_
            refine wa_iload_n (i := 3) rfl rfl ?_
            refine wa_icmp_ge o_X1_write_91 (by decide) (fun h183 => ?_) (fun h183 => ?_)
            · refine wa_iload_n (i := 1) rfl rfl ?_
              refine wa_iconst (v := 1) (by decide) ?_
              refine wa_icmp_lt o_X1_write_109 (by decide) (fun h184 => ?_) (fun h184 => ?_)
              · refine wa_iload_n (i := 2) rfl rfl ?_
                refine wa_if_ne o_X1_write_117 (by decide) (fun h185 => ?_) (fun h185 => ?_)
                · replace h185 := bI_t (b := true) (rfl) h185
                  refine wa_iconst (v := 0) (by decide) ?_
                  refine wa_zreturn false (rfl) rfl rfl ?_
                  exact ⟨_, rfl, Fs180, trivial⟩
                · replace h185 := bI_f (b := true) (rfl) h185
                  refine wa_iconst (v := 1) (by decide) ?_
                  refine wa_goto o_X1_write_118 (by decide) ?_
                  refine wa_zreturn true (rfl) rfl rfl ?_
                  exact ⟨_, rfl, Fs180, trivial⟩
              · refine wa_iload_n (i := 1) rfl rfl ?_
                refine wa_bipush (v := 100) (by decide) ?_
                refine wa_icmp_gt o_X1_write_109 (by decide) (fun h186 => ?_) (fun h186 => ?_)
                · refine wa_iload_n (i := 2) rfl rfl ?_
                  refine wa_if_ne o_X1_write_117 (by decide) (fun h187 => ?_) (fun h187 => ?_)
                  · replace h187 := bI_t (b := true) (rfl) h187
                    refine wa_iconst (v := 0) (by decide) ?_
                    refine wa_zreturn false (rfl) rfl rfl ?_
                    exact ⟨_, rfl, Fs180, trivial⟩
                  · replace h187 := bI_f (b := true) (rfl) h187
                    refine wa_iconst (v := 1) (by decide) ?_
                    refine wa_goto o_X1_write_118 (by decide) ?_
                    refine wa_zreturn true (rfl) rfl rfl ?_
                    exact ⟨_, rfl, Fs180, trivial⟩
                · refine wa_aload_n (i := 0) rfl rfl ?_
                  refine wa_getr ck_1 fl_1_15 ly_2 rf_2_1 ?_
                  refine wa_iload_n (i := 1) rfl rfl ?_
                  refine wa_iload_n (i := 2) rfl rfl ?_
                  refine wa_zast true (rfl) ly_4 (by ((try simp only [vp_in_iff, Int32.lt_iff_toInt_lt, Int32.le_iff_toInt_le, ← Int32.toInt_inj, Int32.reduceToInt, n_1, n_2, n_8, Int32.toNatClampNeg, Int64.lt_iff_toInt_lt, Int64.le_iff_toInt_le, ← Int64.toInt_inj, Int64.reduceToInt, Int32.toInt_toInt64, lg_cmp_ge, lg_cmp_le, lg_cmp_gt, lg_cmp_lt, lg_cmp_eq, Bool.false_eq_true, Bool.true_eq_false, reduceCtorEq, false_iff, true_iff, iff_true, iff_false, and_true, true_and, and_false, false_and, reduceIte, ite_true, ite_false, eq_self] at *)) <;> omega) (fun s188 hs188 => ?_)
                  have Fs188 : Sm 2 5 σ s188 := by rw [hs188]; exact Sm.sb Fs180 _ _ (by decide) (by decide)
                  refine wa_iload_n (i := 2) rfl rfl ?_
                  refine wa_if_ne o_X1_write_117 (by decide) (fun h189 => ?_) (fun h189 => ?_)
                  · replace h189 := bI_t (b := true) (rfl) h189
                    refine wa_iconst (v := 0) (by decide) ?_
                    refine wa_zreturn false (rfl) rfl rfl ?_
                    exact ⟨_, rfl, Fs188, trivial⟩
                  · replace h189 := bI_f (b := true) (rfl) h189
                    refine wa_iconst (v := 1) (by decide) ?_
                    refine wa_goto o_X1_write_118 (by decide) ?_
                    refine wa_zreturn true (rfl) rfl rfl ?_
                    exact ⟨_, rfl, Fs188, trivial⟩
            · have mh183 := nle_mx h183
              refine wa_iload_n (i := 1) rfl rfl ?_
              refine wa_iload rfl ?_
              refine wa_Si (d9 := d - 1) [.int _, .int _] [] (sp_X1_isByte G (d := d - 1) (by omega) s180 _ _) (rfl) rfl rfl (zr (by omega)) mk_X1_isByte ml_1_29 (Nat.le_of_ble_eq_true rfl) (fun x191 s190 hs190 => ?_)
              obtain ⟨bx191, ex191, zs190, cx191_1, -⟩ := pB hs190
              subst ex191
              subst zs190
              refine wa_if_eq o_X1_write_91 (by decide) (fun h192 => ?_) (fun h192 => ?_)
              · replace h192 := bI_f (b := bx191) (rfl) h192
                have uh192_0 := iff_f cx191_1 h192
                refine wa_iload_n (i := 1) rfl rfl ?_
                refine wa_iconst (v := 1) (by decide) ?_
                refine wa_icmp_lt o_X1_write_109 (by decide) (fun h193 => ?_) (fun h193 => ?_)
                · refine wa_iload_n (i := 2) rfl rfl ?_
                  refine wa_if_ne o_X1_write_117 (by decide) (fun h194 => ?_) (fun h194 => ?_)
                  · replace h194 := bI_t (b := true) (rfl) h194
                    refine wa_iconst (v := 0) (by decide) ?_
                    refine wa_zreturn false (rfl) rfl rfl ?_
                    exact ⟨_, rfl, Fs180, trivial⟩
                  · replace h194 := bI_f (b := true) (rfl) h194
                    refine wa_iconst (v := 1) (by decide) ?_
                    refine wa_goto o_X1_write_118 (by decide) ?_
                    refine wa_zreturn true (rfl) rfl rfl ?_
                    exact ⟨_, rfl, Fs180, trivial⟩
                · refine wa_iload_n (i := 1) rfl rfl ?_
                  refine wa_bipush (v := 100) (by decide) ?_
                  refine wa_icmp_gt o_X1_write_109 (by decide) (fun h195 => ?_) (fun h195 => ?_)
                  · refine wa_iload_n (i := 2) rfl rfl ?_
                    refine wa_if_ne o_X1_write_117 (by decide) (fun h196 => ?_) (fun h196 => ?_)
                    · replace h196 := bI_t (b := true) (rfl) h196
                      refine wa_iconst (v := 0) (by decide) ?_
                      refine wa_zreturn false (rfl) rfl rfl ?_
                      exact ⟨_, rfl, Fs180, trivial⟩
                    · replace h196 := bI_f (b := true) (rfl) h196
                      refine wa_iconst (v := 1) (by decide) ?_
                      refine wa_goto o_X1_write_118 (by decide) ?_
                      refine wa_zreturn true (rfl) rfl rfl ?_
                      exact ⟨_, rfl, Fs180, trivial⟩
                  · refine wa_aload_n (i := 0) rfl rfl ?_
                    refine wa_getr ck_1 fl_1_15 ly_2 rf_2_1 ?_
                    refine wa_iload_n (i := 1) rfl rfl ?_
                    refine wa_iload_n (i := 2) rfl rfl ?_
                    refine wa_zast true (rfl) ly_4 (by ((try simp only [vp_in_iff, Int32.lt_iff_toInt_lt, Int32.le_iff_toInt_le, ← Int32.toInt_inj, Int32.reduceToInt, n_1, n_2, n_8, Int32.toNatClampNeg, Int64.lt_iff_toInt_lt, Int64.le_iff_toInt_le, ← Int64.toInt_inj, Int64.reduceToInt, Int32.toInt_toInt64, lg_cmp_ge, lg_cmp_le, lg_cmp_gt, lg_cmp_lt, lg_cmp_eq, Bool.false_eq_true, Bool.true_eq_false, reduceCtorEq, false_iff, true_iff, iff_true, iff_false, and_true, true_and, and_false, false_and, reduceIte, ite_true, ite_false, eq_self] at *)) <;> omega) (fun s197 hs197 => ?_)
                    have Fs197 : Sm 2 5 σ s197 := by rw [hs197]; exact Sm.sb Fs180 _ _ (by decide) (by decide)
                    refine wa_iload_n (i := 2) rfl rfl ?_
                    refine wa_if_ne o_X1_write_117 (by decide) (fun h198 => ?_) (fun h198 => ?_)
                    · replace h198 := bI_t (b := true) (rfl) h198
                      refine wa_iconst (v := 0) (by decide) ?_
                      refine wa_zreturn false (rfl) rfl rfl ?_
                      exact ⟨_, rfl, Fs197, trivial⟩
                    · replace h198 := bI_f (b := true) (rfl) h198
                      refine wa_iconst (v := 1) (by decide) ?_
                      refine wa_goto o_X1_write_118 (by decide) ?_
                      refine wa_zreturn true (rfl) rfl rfl ?_
                      exact ⟨_, rfl, Fs197, trivial⟩
              · replace h192 := bI_t (b := bx191) (rfl) h192
                have uh192_0 := iff_t cx191_1 h192
                refine wa_aload_n (i := 0) rfl rfl ?_
                refine wa_getr ck_1 fl_1_11 ly_2 rf_2_0 ?_
                refine wa_iload_n (i := 1) rfl rfl ?_
                refine wa_iconst (v := 1) (by decide) ?_
                refine wa_isub ?_
                refine wa_top (fun v199 hv199 => ?_)
                have tv199 := i_subT hv199
                clear hv199
                refine wa_sipush (v := 256) (by decide) ?_
                refine wa_imul ?_
                refine wa_top (fun v200 hv200 => ?_)
                have tv200 := i_mulT hv200
                clear hv200
                refine wa_iload rfl ?_
                refine wa_iadd ?_
                refine wa_top (fun v201 hv201 => ?_)
                have tv201 := i_addT hv201
                clear hv201
                refine wa_aload_n (i := 0) rfl rfl ?_
                refine wa_getr ck_1 fl_1_19 ly_2 rf_2_2 ?_
                refine wa_iload rfl ?_
                refine wa_bald ly_5 (by ((try simp only [vp_in_iff, Int32.lt_iff_toInt_lt, Int32.le_iff_toInt_le, ← Int32.toInt_inj, Int32.reduceToInt, n_1, n_2, n_8, Int32.toNatClampNeg, Int64.lt_iff_toInt_lt, Int64.le_iff_toInt_le, ← Int64.toInt_inj, Int64.reduceToInt, Int32.toInt_toInt64, lg_cmp_ge, lg_cmp_le, lg_cmp_gt, lg_cmp_lt, lg_cmp_eq, Bool.false_eq_true, Bool.true_eq_false, reduceCtorEq, false_iff, true_iff, iff_true, iff_false, and_true, true_and, and_false, false_and, reduceIte, ite_true, ite_false, eq_self] at *)) <;> omega) ?_
                refine wa_bast ly_3 (by ((try simp only [vp_in_iff, Int32.lt_iff_toInt_lt, Int32.le_iff_toInt_le, ← Int32.toInt_inj, Int32.reduceToInt, n_1, n_2, n_8, Int32.toNatClampNeg, Int64.lt_iff_toInt_lt, Int64.le_iff_toInt_le, ← Int64.toInt_inj, Int64.reduceToInt, Int32.toInt_toInt64, lg_cmp_ge, lg_cmp_le, lg_cmp_gt, lg_cmp_lt, lg_cmp_eq, Bool.false_eq_true, Bool.true_eq_false, reduceCtorEq, false_iff, true_iff, iff_true, iff_false, and_true, true_and, and_false, false_and, reduceIte, ite_true, ite_false, eq_self] at *)) <;> omega) (fun s202 hs202 => ?_)
                have Fs202 : Sm 2 5 σ s202 := by rw [hs202]; exact Sm.sy Fs180 _ _ (by decide) (by decide)
                refine wa_iinc (v := (1)) (lv' := fun y203 => [(4, .int y203), (0, .ref 2), (1, .int a0), (2, .int (bI true)), (3, .int (gi σ 2 7))]) (by decide) rfl (by decide) (fun _ => rfl) (fun y203 hy203 => ?_)
                have ty203 := i_addT hy203.symm
                clear hy203
                refine wa_goto o_X1_write_48 (by decide) ?_
                refine wa_pick [1, 2, 3, 4, 0] rfl ?_
                exact ih181 _ (by ((try simp only [vp_in_iff, Int32.lt_iff_toInt_lt, Int32.le_iff_toInt_le, ← Int32.toInt_inj, Int32.reduceToInt, n_1, n_2, n_8, Int32.toNatClampNeg, Int64.lt_iff_toInt_lt, Int64.le_iff_toInt_le, ← Int64.toInt_inj, Int64.reduceToInt, Int32.toInt_toInt64, lg_cmp_ge, lg_cmp_le, lg_cmp_gt, lg_cmp_lt, lg_cmp_eq, Bool.false_eq_true, Bool.true_eq_false, reduceCtorEq, false_iff, true_iff, iff_true, iff_false, and_true, true_and, and_false, false_and, reduceIte, ite_true, ite_false, eq_self] at *)) <;> omega) _ _ ⟨Fs202, ((nx_gi_sy hs202).trans (khi182_0)), ((nx_gi_sy hs202).trans (khi182_1)), (by ((try simp only [vp_in_iff, Int32.lt_iff_toInt_lt, Int32.le_iff_toInt_le, ← Int32.toInt_inj, Int32.reduceToInt, n_1, n_2, n_8, Int32.toNatClampNeg, Int64.lt_iff_toInt_lt, Int64.le_iff_toInt_le, ← Int64.toInt_inj, Int64.reduceToInt, Int32.toInt_toInt64, lg_cmp_ge, lg_cmp_le, lg_cmp_gt, lg_cmp_lt, lg_cmp_eq, Bool.false_eq_true, Bool.true_eq_false, reduceCtorEq, false_iff, true_iff, iff_true, iff_false, and_true, true_and, and_false, false_and, reduceIte, ite_true, ite_false, eq_self] at *)) <;> omega), trivial⟩ rfl
        exact hi182 _ _ _ ⟨Fs154, (nxe_gi_si hs154), (nxk_gi_si hs154 (by decide)), (by ((try simp only [vp_in_iff, Int32.lt_iff_toInt_lt, Int32.le_iff_toInt_le, ← Int32.toInt_inj, Int32.reduceToInt, n_1, n_2, n_8, Int32.toNatClampNeg, Int64.lt_iff_toInt_lt, Int64.le_iff_toInt_le, ← Int64.toInt_inj, Int64.reduceToInt, Int32.toInt_toInt64, lg_cmp_ge, lg_cmp_le, lg_cmp_gt, lg_cmp_lt, lg_cmp_eq, Bool.false_eq_true, Bool.true_eq_false, reduceCtorEq, false_iff, true_iff, iff_true, iff_false, and_true, true_and, and_false, false_and, reduceIte, ite_true, ite_false, eq_self] at *)) <;> omega), trivial⟩ rfl
theorem pad_21b : True := trivial
